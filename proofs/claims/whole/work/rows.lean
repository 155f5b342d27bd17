section
-- ===== PART A: goes FIRST, ahead of the names: the tables' words, and 'selects' of the private methods out of them =====
/-- a private method of a class that the tables say can be made, by its rows of tables_1 -/
def lw_okq (q : MethodName × Nat) : Prop := (q.1.cls ≠ "java/lang/invoke/MethodHandle" ∧ q.1.cls ≠ "java/lang/invoke/VarHandle") ∧ Cond.instantiable q.1.cls q.2 ∈ tables_1 ∧ Cond.privateMethod q.1 ∈ tables_1 ∧ Cond.instanceMethod q.1 ∈ tables_1
theorem lw_p0 : lw_okq (⟨"ControlSigns$TextReader", "stands", "(LControlSigns$Text;I)Z"⟩, 5) := ⟨⟨by decide +kernel, by decide +kernel⟩, List.mem_of_getElem? (i := 114) (by decide +kernel), List.mem_of_getElem? (i := 296) (by decide +kernel), List.mem_of_getElem? (i := 297) (by decide +kernel)⟩
theorem lw_p1 : lw_okq (⟨"ControlSigns$TextReader", "takesNumber", "(LControlSigns$Text;I)Z"⟩, 5) := ⟨⟨by decide +kernel, by decide +kernel⟩, List.mem_of_getElem? (i := 114) (by decide +kernel), List.mem_of_getElem? (i := 307) (by decide +kernel), List.mem_of_getElem? (i := 308) (by decide +kernel)⟩
theorem lw_p2 : lw_okq (⟨"ControlSigns$TextReader", "hasRoom", "()Z"⟩, 5) := ⟨⟨by decide +kernel, by decide +kernel⟩, List.mem_of_getElem? (i := 114) (by decide +kernel), List.mem_of_getElem? (i := 311) (by decide +kernel), List.mem_of_getElem? (i := 312) (by decide +kernel)⟩
theorem lw_p3 : lw_okq (⟨"ControlSigns$TextReader", "takesCoefficient", "(I)Z"⟩, 5) := ⟨⟨by decide +kernel, by decide +kernel⟩, List.mem_of_getElem? (i := 114) (by decide +kernel), List.mem_of_getElem? (i := 315) (by decide +kernel), List.mem_of_getElem? (i := 316) (by decide +kernel)⟩
theorem lw_p4 : lw_okq (⟨"ControlSigns$TextReader", "takesEnd", "(I)Z"⟩, 5) := ⟨⟨by decide +kernel, by decide +kernel⟩, List.mem_of_getElem? (i := 114) (by decide +kernel), List.mem_of_getElem? (i := 330) (by decide +kernel), List.mem_of_getElem? (i := 331) (by decide +kernel)⟩
theorem lw_p5 : lw_okq (⟨"ControlSigns$TextReader", "takesSign", "(I)Z"⟩, 5) := ⟨⟨by decide +kernel, by decide +kernel⟩, List.mem_of_getElem? (i := 114) (by decide +kernel), List.mem_of_getElem? (i := 341) (by decide +kernel), List.mem_of_getElem? (i := 342) (by decide +kernel)⟩
theorem lw_p6 : lw_okq (⟨"ControlSigns$TextReader", "opensPolynomial", "()Z"⟩, 5) := ⟨⟨by decide +kernel, by decide +kernel⟩, List.mem_of_getElem? (i := 114) (by decide +kernel), List.mem_of_getElem? (i := 345) (by decide +kernel), List.mem_of_getElem? (i := 346) (by decide +kernel)⟩
theorem lw_p7 : lw_okq (⟨"ControlSigns$TextReader", "open", "(I)V"⟩, 5) := ⟨⟨by decide +kernel, by decide +kernel⟩, List.mem_of_getElem? (i := 114) (by decide +kernel), List.mem_of_getElem? (i := 357) (by decide +kernel), List.mem_of_getElem? (i := 358) (by decide +kernel)⟩
theorem lw_p8 : lw_okq (⟨"ControlSigns$TextReader", "opensBox", "()Z"⟩, 5) := ⟨⟨by decide +kernel, by decide +kernel⟩, List.mem_of_getElem? (i := 114) (by decide +kernel), List.mem_of_getElem? (i := 361) (by decide +kernel), List.mem_of_getElem? (i := 362) (by decide +kernel)⟩
theorem lw_p9 : lw_okq (⟨"ControlSigns$TextReader", "takesMinus", "()Z"⟩, 5) := ⟨⟨by decide +kernel, by decide +kernel⟩, List.mem_of_getElem? (i := 114) (by decide +kernel), List.mem_of_getElem? (i := 369) (by decide +kernel), List.mem_of_getElem? (i := 370) (by decide +kernel)⟩
theorem lw_p10 : lw_okq (⟨"ControlSigns$TextReader", "closes", "()Z"⟩, 5) := ⟨⟨by decide +kernel, by decide +kernel⟩, List.mem_of_getElem? (i := 114) (by decide +kernel), List.mem_of_getElem? (i := 373) (by decide +kernel), List.mem_of_getElem? (i := 374) (by decide +kernel)⟩
theorem lw_p11 : lw_okq (⟨"ControlSigns$Changes", "remember", "(IIIII)V"⟩, 2) := ⟨⟨by decide +kernel, by decide +kernel⟩, List.mem_of_getElem? (i := 84) (by decide +kernel), List.mem_of_getElem? (i := 448) (by decide +kernel), List.mem_of_getElem? (i := 449) (by decide +kernel)⟩
theorem lw_p12 : lw_okq (⟨"ControlSigns$Row", "multiply", "(JJ)V"⟩, 3) := ⟨⟨by decide +kernel, by decide +kernel⟩, List.mem_of_getElem? (i := 138) (by decide +kernel), List.mem_of_getElem? (i := 566) (by decide +kernel), List.mem_of_getElem? (i := 567) (by decide +kernel)⟩
theorem lw_p13 : lw_okq (⟨"ControlSigns$Row", "addWhole", "(J)V"⟩, 3) := ⟨⟨by decide +kernel, by decide +kernel⟩, List.mem_of_getElem? (i := 138) (by decide +kernel), List.mem_of_getElem? (i := 570) (by decide +kernel), List.mem_of_getElem? (i := 571) (by decide +kernel)⟩
theorem lw_p14 : lw_okq (⟨"ControlSigns$Row", "ways", "(I)I"⟩, 3) := ⟨⟨by decide +kernel, by decide +kernel⟩, List.mem_of_getElem? (i := 138) (by decide +kernel), List.mem_of_getElem? (i := 574) (by decide +kernel), List.mem_of_getElem? (i := 575) (by decide +kernel)⟩
theorem lw_p15 : lw_okq (⟨"ControlSigns$Roots", "add", "(II)V"⟩, 3) := ⟨⟨by decide +kernel, by decide +kernel⟩, List.mem_of_getElem? (i := 155) (by decide +kernel), List.mem_of_getElem? (i := 642) (by decide +kernel), List.mem_of_getElem? (i := 643) (by decide +kernel)⟩
def lw_privs_1 : List (MethodName × Nat) := [(⟨"ControlSigns$TextReader", "stands", "(LControlSigns$Text;I)Z"⟩, 5), (⟨"ControlSigns$TextReader", "takesNumber", "(LControlSigns$Text;I)Z"⟩, 5), (⟨"ControlSigns$TextReader", "hasRoom", "()Z"⟩, 5), (⟨"ControlSigns$TextReader", "takesCoefficient", "(I)Z"⟩, 5), (⟨"ControlSigns$TextReader", "takesEnd", "(I)Z"⟩, 5), (⟨"ControlSigns$TextReader", "takesSign", "(I)Z"⟩, 5), (⟨"ControlSigns$TextReader", "opensPolynomial", "()Z"⟩, 5), (⟨"ControlSigns$TextReader", "open", "(I)V"⟩, 5), (⟨"ControlSigns$TextReader", "opensBox", "()Z"⟩, 5), (⟨"ControlSigns$TextReader", "takesMinus", "()Z"⟩, 5), (⟨"ControlSigns$TextReader", "closes", "()Z"⟩, 5), (⟨"ControlSigns$Changes", "remember", "(IIIII)V"⟩, 2), (⟨"ControlSigns$Row", "multiply", "(JJ)V"⟩, 3), (⟨"ControlSigns$Row", "addWhole", "(J)V"⟩, 3), (⟨"ControlSigns$Row", "ways", "(I)I"⟩, 3), (⟨"ControlSigns$Roots", "add", "(II)V"⟩, 3)]
theorem lw_r1 : ∀ q ∈ lw_privs_1, lw_okq q := List.forall_mem_cons.mpr ⟨lw_p0, List.forall_mem_cons.mpr ⟨lw_p1, List.forall_mem_cons.mpr ⟨lw_p2, List.forall_mem_cons.mpr ⟨lw_p3, List.forall_mem_cons.mpr ⟨lw_p4, List.forall_mem_cons.mpr ⟨lw_p5, List.forall_mem_cons.mpr ⟨lw_p6, List.forall_mem_cons.mpr ⟨lw_p7, List.forall_mem_cons.mpr ⟨lw_p8, List.forall_mem_cons.mpr ⟨lw_p9, List.forall_mem_cons.mpr ⟨lw_p10, List.forall_mem_cons.mpr ⟨lw_p11, List.forall_mem_cons.mpr ⟨lw_p12, List.forall_mem_cons.mpr ⟨lw_p13, List.forall_mem_cons.mpr ⟨lw_p14, List.forall_mem_cons.mpr ⟨lw_p15, fun _ h => absurd h List.not_mem_nil⟩⟩⟩⟩⟩⟩⟩⟩⟩⟩⟩⟩⟩⟩⟩⟩
theorem lw_p16 : lw_okq (⟨"ControlSigns$Roots", "pass", "(ILControlSigns$Row;)I"⟩, 3) := ⟨⟨by decide +kernel, by decide +kernel⟩, List.mem_of_getElem? (i := 155) (by decide +kernel), List.mem_of_getElem? (i := 646) (by decide +kernel), List.mem_of_getElem? (i := 647) (by decide +kernel)⟩
theorem lw_p17 : lw_okq (⟨"ControlSigns$Paper", "add", "(I)V"⟩, 3) := ⟨⟨by decide +kernel, by decide +kernel⟩, List.mem_of_getElem? (i := 171) (by decide +kernel), List.mem_of_getElem? (i := 690) (by decide +kernel), List.mem_of_getElem? (i := 691) (by decide +kernel)⟩
theorem lw_p18 : lw_okq (⟨"ControlSigns$Bounds", "put", "(LControlSigns$Taken;LControlSigns$Row;II)V"⟩, 4) := ⟨⟨by decide +kernel, by decide +kernel⟩, List.mem_of_getElem? (i := 187) (by decide +kernel), List.mem_of_getElem? (i := 741) (by decide +kernel), List.mem_of_getElem? (i := 742) (by decide +kernel)⟩
theorem lw_p19 : lw_okq (⟨"ControlSigns$Row", "commonNumber", "(I)J"⟩, 3) := ⟨⟨by decide +kernel, by decide +kernel⟩, List.mem_of_getElem? (i := 138) (by decide +kernel), List.mem_of_getElem? (i := 750) (by decide +kernel), List.mem_of_getElem? (i := 751) (by decide +kernel)⟩
theorem lw_p20 : lw_okq (⟨"ControlSigns$Bounds", "lowest", "()I"⟩, 4) := ⟨⟨by decide +kernel, by decide +kernel⟩, List.mem_of_getElem? (i := 187) (by decide +kernel), List.mem_of_getElem? (i := 761) (by decide +kernel), List.mem_of_getElem? (i := 762) (by decide +kernel)⟩
theorem lw_p21 : lw_okq (⟨"ControlSigns$Bounds", "makeRoom", "(I)V"⟩, 4) := ⟨⟨by decide +kernel, by decide +kernel⟩, List.mem_of_getElem? (i := 187) (by decide +kernel), List.mem_of_getElem? (i := 765) (by decide +kernel), List.mem_of_getElem? (i := 766) (by decide +kernel)⟩
theorem lw_p22 : lw_okq (⟨"ControlSigns$Bounds", "leastOf", "([J)J"⟩, 4) := ⟨⟨by decide +kernel, by decide +kernel⟩, List.mem_of_getElem? (i := 187) (by decide +kernel), List.mem_of_getElem? (i := 774) (by decide +kernel), List.mem_of_getElem? (i := 775) (by decide +kernel)⟩
theorem lw_p23 : lw_okq (⟨"ControlSigns$Shares", "add", "(II)V"⟩, 1) := ⟨⟨by decide +kernel, by decide +kernel⟩, List.mem_of_getElem? (i := 206) (by decide +kernel), List.mem_of_getElem? (i := 809) (by decide +kernel), List.mem_of_getElem? (i := 810) (by decide +kernel)⟩
theorem lw_p24 : lw_okq (⟨"ControlSigns", "isImage", "(I)Z"⟩, 13) := ⟨⟨by decide +kernel, by decide +kernel⟩, List.mem_of_getElem? (i := 18) (by decide +kernel), List.mem_of_getElem? (i := 869) (by decide +kernel), List.mem_of_getElem? (i := 870) (by decide +kernel)⟩
theorem lw_p25 : lw_okq (⟨"ControlSignsModel", "becomes", "()V"⟩, 34) := ⟨⟨by decide +kernel, by decide +kernel⟩, List.mem_of_getElem? (i := 885) (by decide +kernel), List.mem_of_getElem? (i := 891) (by decide +kernel), List.mem_of_getElem? (i := 892) (by decide +kernel)⟩
theorem lw_p26 : lw_okq (⟨"ControlSignsModel", "split", "()V"⟩, 34) := ⟨⟨by decide +kernel, by decide +kernel⟩, List.mem_of_getElem? (i := 885) (by decide +kernel), List.mem_of_getElem? (i := 1014) (by decide +kernel), List.mem_of_getElem? (i := 1015) (by decide +kernel)⟩
theorem lw_p27 : lw_okq (⟨"ControlSignsModel", "numbered", "(I)I"⟩, 34) := ⟨⟨by decide +kernel, by decide +kernel⟩, List.mem_of_getElem? (i := 885) (by decide +kernel), List.mem_of_getElem? (i := 1018) (by decide +kernel), List.mem_of_getElem? (i := 1019) (by decide +kernel)⟩
theorem lw_p28 : lw_okq (⟨"ControlSignsModel", "isKind", "(I)Z"⟩, 34) := ⟨⟨by decide +kernel, by decide +kernel⟩, List.mem_of_getElem? (i := 885) (by decide +kernel), List.mem_of_getElem? (i := 1022) (by decide +kernel), List.mem_of_getElem? (i := 1023) (by decide +kernel)⟩
theorem lw_p29 : lw_okq (⟨"ControlSignsModel", "polynomial", "()Z"⟩, 34) := ⟨⟨by decide +kernel, by decide +kernel⟩, List.mem_of_getElem? (i := 885) (by decide +kernel), List.mem_of_getElem? (i := 1026) (by decide +kernel), List.mem_of_getElem? (i := 1027) (by decide +kernel)⟩
theorem lw_p30 : lw_okq (⟨"ControlSignsModel", "takesNumber", "(II)Z"⟩, 34) := ⟨⟨by decide +kernel, by decide +kernel⟩, List.mem_of_getElem? (i := 885) (by decide +kernel), List.mem_of_getElem? (i := 1030) (by decide +kernel), List.mem_of_getElem? (i := 1031) (by decide +kernel)⟩
theorem lw_p31 : lw_okq (⟨"ControlSignsModel", "boxTold", "()Z"⟩, 34) := ⟨⟨by decide +kernel, by decide +kernel⟩, List.mem_of_getElem? (i := 885) (by decide +kernel), List.mem_of_getElem? (i := 1034) (by decide +kernel), List.mem_of_getElem? (i := 1035) (by decide +kernel)⟩
def lw_privs_2 : List (MethodName × Nat) := [(⟨"ControlSigns$Roots", "pass", "(ILControlSigns$Row;)I"⟩, 3), (⟨"ControlSigns$Paper", "add", "(I)V"⟩, 3), (⟨"ControlSigns$Bounds", "put", "(LControlSigns$Taken;LControlSigns$Row;II)V"⟩, 4), (⟨"ControlSigns$Row", "commonNumber", "(I)J"⟩, 3), (⟨"ControlSigns$Bounds", "lowest", "()I"⟩, 4), (⟨"ControlSigns$Bounds", "makeRoom", "(I)V"⟩, 4), (⟨"ControlSigns$Bounds", "leastOf", "([J)J"⟩, 4), (⟨"ControlSigns$Shares", "add", "(II)V"⟩, 1), (⟨"ControlSigns", "isImage", "(I)Z"⟩, 13), (⟨"ControlSignsModel", "becomes", "()V"⟩, 34), (⟨"ControlSignsModel", "split", "()V"⟩, 34), (⟨"ControlSignsModel", "numbered", "(I)I"⟩, 34), (⟨"ControlSignsModel", "isKind", "(I)Z"⟩, 34), (⟨"ControlSignsModel", "polynomial", "()Z"⟩, 34), (⟨"ControlSignsModel", "takesNumber", "(II)Z"⟩, 34), (⟨"ControlSignsModel", "boxTold", "()Z"⟩, 34)]
theorem lw_r2 : ∀ q ∈ lw_privs_2, lw_okq q := List.forall_mem_cons.mpr ⟨lw_p16, List.forall_mem_cons.mpr ⟨lw_p17, List.forall_mem_cons.mpr ⟨lw_p18, List.forall_mem_cons.mpr ⟨lw_p19, List.forall_mem_cons.mpr ⟨lw_p20, List.forall_mem_cons.mpr ⟨lw_p21, List.forall_mem_cons.mpr ⟨lw_p22, List.forall_mem_cons.mpr ⟨lw_p23, List.forall_mem_cons.mpr ⟨lw_p24, List.forall_mem_cons.mpr ⟨lw_p25, List.forall_mem_cons.mpr ⟨lw_p26, List.forall_mem_cons.mpr ⟨lw_p27, List.forall_mem_cons.mpr ⟨lw_p28, List.forall_mem_cons.mpr ⟨lw_p29, List.forall_mem_cons.mpr ⟨lw_p30, List.forall_mem_cons.mpr ⟨lw_p31, fun _ h => absurd h List.not_mem_nil⟩⟩⟩⟩⟩⟩⟩⟩⟩⟩⟩⟩⟩⟩⟩⟩
theorem lw_p32 : lw_okq (⟨"ControlSignsModel", "isPolynomial", "(I)Z"⟩, 34) := ⟨⟨by decide +kernel, by decide +kernel⟩, List.mem_of_getElem? (i := 885) (by decide +kernel), List.mem_of_getElem? (i := 1042) (by decide +kernel), List.mem_of_getElem? (i := 1043) (by decide +kernel)⟩
theorem lw_p33 : lw_okq (⟨"ControlSignsModel", "isBox", "(I)Z"⟩, 34) := ⟨⟨by decide +kernel, by decide +kernel⟩, List.mem_of_getElem? (i := 885) (by decide +kernel), List.mem_of_getElem? (i := 1046) (by decide +kernel), List.mem_of_getElem? (i := 1047) (by decide +kernel)⟩
theorem lw_p34 : lw_okq (⟨"ControlSignsModel", "isCoefficient", "(II)Z"⟩, 34) := ⟨⟨by decide +kernel, by decide +kernel⟩, List.mem_of_getElem? (i := 885) (by decide +kernel), List.mem_of_getElem? (i := 1054) (by decide +kernel), List.mem_of_getElem? (i := 1055) (by decide +kernel)⟩
theorem lw_p35 : lw_okq (⟨"ControlSignsModel", "knows", "(II)V"⟩, 34) := ⟨⟨by decide +kernel, by decide +kernel⟩, List.mem_of_getElem? (i := 885) (by decide +kernel), List.mem_of_getElem? (i := 1067) (by decide +kernel), List.mem_of_getElem? (i := 1068) (by decide +kernel)⟩
theorem lw_p36 : lw_okq (⟨"ControlSignsModel", "isTaken", "()Z"⟩, 34) := ⟨⟨by decide +kernel, by decide +kernel⟩, List.mem_of_getElem? (i := 885) (by decide +kernel), List.mem_of_getElem? (i := 1090) (by decide +kernel), List.mem_of_getElem? (i := 1091) (by decide +kernel)⟩
theorem lw_p37 : lw_okq (⟨"ControlSignsModel", "lays", "(III)V"⟩, 34) := ⟨⟨by decide +kernel, by decide +kernel⟩, List.mem_of_getElem? (i := 885) (by decide +kernel), List.mem_of_getElem? (i := 1094) (by decide +kernel), List.mem_of_getElem? (i := 1095) (by decide +kernel)⟩
theorem lw_p38 : lw_okq (⟨"ControlSignsModel", "laysOwn", "(II)V"⟩, 34) := ⟨⟨by decide +kernel, by decide +kernel⟩, List.mem_of_getElem? (i := 885) (by decide +kernel), List.mem_of_getElem? (i := 1098) (by decide +kernel), List.mem_of_getElem? (i := 1099) (by decide +kernel)⟩
theorem lw_p39 : lw_okq (⟨"ControlSignsModel", "lowOf", "(I)I"⟩, 34) := ⟨⟨by decide +kernel, by decide +kernel⟩, List.mem_of_getElem? (i := 885) (by decide +kernel), List.mem_of_getElem? (i := 1102) (by decide +kernel), List.mem_of_getElem? (i := 1103) (by decide +kernel)⟩
theorem lw_p40 : lw_okq (⟨"ControlSignsModel", "lengthOf", "()I"⟩, 34) := ⟨⟨by decide +kernel, by decide +kernel⟩, List.mem_of_getElem? (i := 885) (by decide +kernel), List.mem_of_getElem? (i := 1109) (by decide +kernel), List.mem_of_getElem? (i := 1110) (by decide +kernel)⟩
theorem lw_p41 : lw_okq (⟨"ControlSignsModel", "varies", "(II)I"⟩, 34) := ⟨⟨by decide +kernel, by decide +kernel⟩, List.mem_of_getElem? (i := 885) (by decide +kernel), List.mem_of_getElem? (i := 1130) (by decide +kernel), List.mem_of_getElem? (i := 1131) (by decide +kernel)⟩
theorem lw_p42 : lw_okq (⟨"ControlSignsModel", "highOf", "(I)I"⟩, 34) := ⟨⟨by decide +kernel, by decide +kernel⟩, List.mem_of_getElem? (i := 885) (by decide +kernel), List.mem_of_getElem? (i := 1138) (by decide +kernel), List.mem_of_getElem? (i := 1139) (by decide +kernel)⟩
theorem lw_p43 : lw_okq (⟨"ControlSignsModel", "brings", "()V"⟩, 34) := ⟨⟨by decide +kernel, by decide +kernel⟩, List.mem_of_getElem? (i := 885) (by decide +kernel), List.mem_of_getElem? (i := 1150) (by decide +kernel), List.mem_of_getElem? (i := 1151) (by decide +kernel)⟩
theorem lw_p44 : lw_okq (⟨"ControlSignsModel", "puts", "(I)V"⟩, 34) := ⟨⟨by decide +kernel, by decide +kernel⟩, List.mem_of_getElem? (i := 885) (by decide +kernel), List.mem_of_getElem? (i := 1154) (by decide +kernel), List.mem_of_getElem? (i := 1155) (by decide +kernel)⟩
theorem lw_p45 : lw_okq (⟨"ControlSignsModel", "finds", "(II)V"⟩, 34) := ⟨⟨by decide +kernel, by decide +kernel⟩, List.mem_of_getElem? (i := 885) (by decide +kernel), List.mem_of_getElem? (i := 1158) (by decide +kernel), List.mem_of_getElem? (i := 1159) (by decide +kernel)⟩
theorem lw_p46 : lw_okq (⟨"ControlSignsModel", "writes", "()I"⟩, 34) := ⟨⟨by decide +kernel, by decide +kernel⟩, List.mem_of_getElem? (i := 885) (by decide +kernel), List.mem_of_getElem? (i := 1170) (by decide +kernel), List.mem_of_getElem? (i := 1171) (by decide +kernel)⟩
theorem lw_p47 : lw_okq (⟨"ControlSignsModel", "isAbove", "(IIII)Z"⟩, 34) := ⟨⟨by decide +kernel, by decide +kernel⟩, List.mem_of_getElem? (i := 885) (by decide +kernel), List.mem_of_getElem? (i := 1174) (by decide +kernel), List.mem_of_getElem? (i := 1175) (by decide +kernel)⟩
def lw_privs_3 : List (MethodName × Nat) := [(⟨"ControlSignsModel", "isPolynomial", "(I)Z"⟩, 34), (⟨"ControlSignsModel", "isBox", "(I)Z"⟩, 34), (⟨"ControlSignsModel", "isCoefficient", "(II)Z"⟩, 34), (⟨"ControlSignsModel", "knows", "(II)V"⟩, 34), (⟨"ControlSignsModel", "isTaken", "()Z"⟩, 34), (⟨"ControlSignsModel", "lays", "(III)V"⟩, 34), (⟨"ControlSignsModel", "laysOwn", "(II)V"⟩, 34), (⟨"ControlSignsModel", "lowOf", "(I)I"⟩, 34), (⟨"ControlSignsModel", "lengthOf", "()I"⟩, 34), (⟨"ControlSignsModel", "varies", "(II)I"⟩, 34), (⟨"ControlSignsModel", "highOf", "(I)I"⟩, 34), (⟨"ControlSignsModel", "brings", "()V"⟩, 34), (⟨"ControlSignsModel", "puts", "(I)V"⟩, 34), (⟨"ControlSignsModel", "finds", "(II)V"⟩, 34), (⟨"ControlSignsModel", "writes", "()I"⟩, 34), (⟨"ControlSignsModel", "isAbove", "(IIII)Z"⟩, 34)]
theorem lw_r3 : ∀ q ∈ lw_privs_3, lw_okq q := List.forall_mem_cons.mpr ⟨lw_p32, List.forall_mem_cons.mpr ⟨lw_p33, List.forall_mem_cons.mpr ⟨lw_p34, List.forall_mem_cons.mpr ⟨lw_p35, List.forall_mem_cons.mpr ⟨lw_p36, List.forall_mem_cons.mpr ⟨lw_p37, List.forall_mem_cons.mpr ⟨lw_p38, List.forall_mem_cons.mpr ⟨lw_p39, List.forall_mem_cons.mpr ⟨lw_p40, List.forall_mem_cons.mpr ⟨lw_p41, List.forall_mem_cons.mpr ⟨lw_p42, List.forall_mem_cons.mpr ⟨lw_p43, List.forall_mem_cons.mpr ⟨lw_p44, List.forall_mem_cons.mpr ⟨lw_p45, List.forall_mem_cons.mpr ⟨lw_p46, List.forall_mem_cons.mpr ⟨lw_p47, fun _ h => absurd h List.not_mem_nil⟩⟩⟩⟩⟩⟩⟩⟩⟩⟩⟩⟩⟩⟩⟩⟩
theorem lw_p48 : lw_okq (⟨"ControlSignsModel", "narrows", "(I)V"⟩, 34) := ⟨⟨by decide +kernel, by decide +kernel⟩, List.mem_of_getElem? (i := 885) (by decide +kernel), List.mem_of_getElem? (i := 1194) (by decide +kernel), List.mem_of_getElem? (i := 1195) (by decide +kernel)⟩
theorem lw_p49 : lw_okq (⟨"ControlSignsModel", "leastOf", "(I)J"⟩, 34) := ⟨⟨by decide +kernel, by decide +kernel⟩, List.mem_of_getElem? (i := 885) (by decide +kernel), List.mem_of_getElem? (i := 1198) (by decide +kernel), List.mem_of_getElem? (i := 1199) (by decide +kernel)⟩
theorem lw_p50 : lw_okq (⟨"ControlSignsModel", "isHeld", "(I)Z"⟩, 34) := ⟨⟨by decide +kernel, by decide +kernel⟩, List.mem_of_getElem? (i := 885) (by decide +kernel), List.mem_of_getElem? (i := 1206) (by decide +kernel), List.mem_of_getElem? (i := 1207) (by decide +kernel)⟩
theorem lw_p51 : lw_okq (⟨"ControlSignsModel", "isBroken", "(I)Z"⟩, 34) := ⟨⟨by decide +kernel, by decide +kernel⟩, List.mem_of_getElem? (i := 885) (by decide +kernel), List.mem_of_getElem? (i := 1210) (by decide +kernel), List.mem_of_getElem? (i := 1211) (by decide +kernel)⟩
theorem lw_p52 : lw_okq (⟨"ControlSignsModel", "signAt", "(II)I"⟩, 34) := ⟨⟨by decide +kernel, by decide +kernel⟩, List.mem_of_getElem? (i := 885) (by decide +kernel), List.mem_of_getElem? (i := 1234) (by decide +kernel), List.mem_of_getElem? (i := 1235) (by decide +kernel)⟩
def lw_privs_4 : List (MethodName × Nat) := [(⟨"ControlSignsModel", "narrows", "(I)V"⟩, 34), (⟨"ControlSignsModel", "leastOf", "(I)J"⟩, 34), (⟨"ControlSignsModel", "isHeld", "(I)Z"⟩, 34), (⟨"ControlSignsModel", "isBroken", "(I)Z"⟩, 34), (⟨"ControlSignsModel", "signAt", "(II)I"⟩, 34)]
theorem lw_r4 : ∀ q ∈ lw_privs_4, lw_okq q := List.forall_mem_cons.mpr ⟨lw_p48, List.forall_mem_cons.mpr ⟨lw_p49, List.forall_mem_cons.mpr ⟨lw_p50, List.forall_mem_cons.mpr ⟨lw_p51, List.forall_mem_cons.mpr ⟨lw_p52, fun _ h => absurd h List.not_mem_nil⟩⟩⟩⟩⟩
def lw_privs : List (MethodName × Nat) := lw_privs_1 ++ (lw_privs_2 ++ (lw_privs_3 ++ (lw_privs_4)))
def lw_tbl : List Cond := k2_sels lw_privs ++ tables_1
theorem lw_privs_ok : ∀ q ∈ lw_privs, lw_okq q := by
  show ∀ q ∈ lw_privs_1 ++ (lw_privs_2 ++ (lw_privs_3 ++ (lw_privs_4))), lw_okq q
  exact List.forall_mem_append.mpr ⟨lw_r1, List.forall_mem_append.mpr ⟨lw_r2, List.forall_mem_append.mpr ⟨lw_r3, lw_r4⟩⟩⟩
def RX0 : String := "ControlSigns$Bounds"
def TX0 : u_T := fun k => match k with
  | 0 => ("ControlSigns$Bounds", "nodes", "[I", true)
  | 1 => ("ControlSigns$Bounds", "leasts", "[J", true)
  | 2 => ("ControlSigns$Bounds", "leastEnds", "[J", true)
  | _ => ("ControlSigns$Bounds", "size", "I", false)
def tyX0 : Nat → FieldType := fun k => match k with
  | 0 => .array .int
  | 1 => .array .long
  | 2 => .array .long
  | _ => .int
abbrev wsX00 : List Cond := u_ws RX0 TX0 4
theorem nmX0 : ∀ a, a < 4 → ∀ b, b < 4 → a ≠ b → (TX0 a).2.1 ≠ (TX0 b).2.1 := by decide +kernel
theorem tyX0_ok : ∀ k, k < 4 → parseFieldDescriptor (TX0 k).2.2.1 = some (tyX0 k) := by decide +kernel
abbrev cX0_init : ByteArray := prog_2_method_1_code
def yX0_init : MethodName := ⟨RX0, "<init>", "()V"⟩
abbrev cX0_narrow : ByteArray := prog_2_method_2_code
def yX0_narrow : MethodName := ⟨RX0, "narrow", "(LControlSigns$Taken;LControlSigns$Row;I)V"⟩
abbrev cX0_lowest : ByteArray := prog_2_method_3_code
def yX0_lowest : MethodName := ⟨RX0, "lowest", "()I"⟩
abbrev cX0_makeRoom : ByteArray := prog_2_method_4_code
def yX0_makeRoom : MethodName := ⟨RX0, "makeRoom", "(I)V"⟩
abbrev cX0_put : ByteArray := prog_2_method_5_code
def yX0_put : MethodName := ⟨RX0, "put", "(LControlSigns$Taken;LControlSigns$Row;II)V"⟩
abbrev cX0_leastNumber : ByteArray := prog_2_method_6_code
def yX0_leastNumber : MethodName := ⟨RX0, "leastNumber", "()J"⟩
abbrev cX0_leastEnd : ByteArray := prog_2_method_7_code
def yX0_leastEnd : MethodName := ⟨RX0, "leastEnd", "()J"⟩
abbrev cX0_leastOf : ByteArray := prog_2_method_8_code
def yX0_leastOf : MethodName := ⟨RX0, "leastOf", "([J)J"⟩
def RX1 : String := "ControlSigns$Changes"
def TX1 : u_T := fun k => match k with
  | 0 => ("ControlSigns$Changes", "rows", "[I", true)
  | _ => ("ControlSigns$Changes", "size", "I", false)
def tyX1 : Nat → FieldType := fun k => match k with
  | 0 => .array .int
  | _ => .int
abbrev wsX10 : List Cond := u_ws RX1 TX1 2
theorem nmX1 : ∀ a, a < 2 → ∀ b, b < 2 → a ≠ b → (TX1 a).2.1 ≠ (TX1 b).2.1 := by decide +kernel
theorem tyX1_ok : ∀ k, k < 2 → parseFieldDescriptor (TX1 k).2.2.1 = some (tyX1 k) := by decide +kernel
abbrev cX1_init : ByteArray := prog_3_method_1_code
def yX1_init : MethodName := ⟨RX1, "<init>", "()V"⟩
abbrev cX1_size : ByteArray := prog_3_method_2_code
def yX1_size : MethodName := ⟨RX1, "size", "()I"⟩
abbrev cX1_empty : ByteArray := prog_3_method_3_code
def yX1_empty : MethodName := ⟨RX1, "empty", "()V"⟩
abbrev cX1_rememberCoefficient : ByteArray := prog_3_method_4_code
def yX1_rememberCoefficient : MethodName := ⟨RX1, "rememberCoefficient", "(LControlSigns$Told;II)V"⟩
abbrev cX1_rememberBox : ByteArray := prog_3_method_5_code
def yX1_rememberBox : MethodName := ⟨RX1, "rememberBox", "(LControlSigns$Told;I)V"⟩
abbrev cX1_rememberWish : ByteArray := prog_3_method_6_code
def yX1_rememberWish : MethodName := ⟨RX1, "rememberWish", "(LControlSigns$Told;I)V"⟩
abbrev cX1_remember : ByteArray := prog_3_method_7_code
def yX1_remember : MethodName := ⟨RX1, "remember", "(IIIII)V"⟩
abbrev cX1_takeBack : ByteArray := prog_3_method_8_code
def yX1_takeBack : MethodName := ⟨RX1, "takeBack", "(LControlSigns$Told;)V"⟩
def RX2 : String := "ControlSigns$Paper"
def TX2 : u_T := fun k => match k with
  | 0 => ("ControlSigns$Paper", "letters", "[I", true)
  | 1 => ("ControlSigns$Paper", "size", "I", false)
  | _ => ("ControlSigns$Paper", "place", "I", false)
def tyX2 : Nat → FieldType := fun k => match k with
  | 0 => .array .int
  | 1 => .int
  | _ => .int
abbrev wsX20 : List Cond := u_ws RX2 TX2 3
theorem nmX2 : ∀ a, a < 3 → ∀ b, b < 3 → a ≠ b → (TX2 a).2.1 ≠ (TX2 b).2.1 := by decide +kernel
theorem tyX2_ok : ∀ k, k < 3 → parseFieldDescriptor (TX2 k).2.2.1 = some (tyX2 k) := by decide +kernel
abbrev cX2_init : ByteArray := prog_4_method_1_code
def yX2_init : MethodName := ⟨RX2, "<init>", "()V"⟩
abbrev cX2_letter : ByteArray := prog_4_method_2_code
def yX2_letter : MethodName := ⟨RX2, "letter", "(I)I"⟩
abbrev cX2_place : ByteArray := prog_4_method_3_code
def yX2_place : MethodName := ⟨RX2, "place", "()I"⟩
abbrev cX2_write : ByteArray := prog_4_method_4_code
def yX2_write : MethodName := ⟨RX2, "write", "(LControlSigns$Taken;LControlSigns$Row;)I"⟩
abbrev cX2_add : ByteArray := prog_4_method_5_code
def yX2_add : MethodName := ⟨RX2, "add", "(I)V"⟩
abbrev cX2_leastFigure : ByteArray := prog_4_method_6_code
def yX2_leastFigure : MethodName := ⟨RX2, "leastFigure", "(LControlSigns$Taken;LControlSigns$Row;I)I"⟩
abbrev cX2_read : ByteArray := prog_4_method_7_code
def yX2_read : MethodName := ⟨RX2, "read", "(LControlSigns$Taken;LControlSigns$Row;LControlSigns$Text;)I"⟩
abbrev cX2_isRight : ByteArray := prog_4_method_8_code
def yX2_isRight : MethodName := ⟨RX2, "isRight", "(LControlSigns$Taken;LControlSigns$Row;II)Z"⟩
def RX3 : String := "ControlSigns$Roots"
def TX3 : u_T := fun k => match k with
  | 0 => ("ControlSigns$Roots", "nodes", "[I", true)
  | 1 => ("ControlSigns$Roots", "kinds", "[I", true)
  | _ => ("ControlSigns$Roots", "size", "I", false)
def tyX3 : Nat → FieldType := fun k => match k with
  | 0 => .array .int
  | 1 => .array .int
  | _ => .int
abbrev wsX30 : List Cond := u_ws RX3 TX3 3
theorem nmX3 : ∀ a, a < 3 → ∀ b, b < 3 → a ≠ b → (TX3 a).2.1 ≠ (TX3 b).2.1 := by decide +kernel
theorem tyX3_ok : ∀ k, k < 3 → parseFieldDescriptor (TX3 k).2.2.1 = some (tyX3 k) := by decide +kernel
abbrev cX3_init : ByteArray := prog_5_method_1_code
def yX3_init : MethodName := ⟨RX3, "<init>", "()V"⟩
abbrev cX3_size : ByteArray := prog_5_method_2_code
def yX3_size : MethodName := ⟨RX3, "size", "()I"⟩
abbrev cX3_node : ByteArray := prog_5_method_3_code
def yX3_node : MethodName := ⟨RX3, "node", "(I)I"⟩
abbrev cX3_kind : ByteArray := prog_5_method_4_code
def yX3_kind : MethodName := ⟨RX3, "kind", "(I)I"⟩
abbrev cX3_find : ByteArray := prog_5_method_5_code
def yX3_find : MethodName := ⟨RX3, "find", "(LControlSigns$Taken;LControlSigns$Row;)V"⟩
abbrev cX3_pass : ByteArray := prog_5_method_6_code
def yX3_pass : MethodName := ⟨RX3, "pass", "(ILControlSigns$Row;)I"⟩
abbrev cX3_add : ByteArray := prog_5_method_7_code
def yX3_add : MethodName := ⟨RX3, "add", "(II)V"⟩
def RX4 : String := "ControlSigns$Row"
def TX4 : u_T := fun k => match k with
  | 0 => ("ControlSigns$Row", "numbers", "[J", true)
  | 1 => ("ControlSigns$Row", "top", "I", false)
  | _ => ("ControlSigns$Row", "unit", "J", false)
def tyX4 : Nat → FieldType := fun k => match k with
  | 0 => .array .long
  | 1 => .int
  | _ => .long
abbrev wsX40 : List Cond := u_ws RX4 TX4 3
theorem nmX4 : ∀ a, a < 3 → ∀ b, b < 3 → a ≠ b → (TX4 a).2.1 ≠ (TX4 b).2.1 := by decide +kernel
theorem tyX4_ok : ∀ k, k < 3 → parseFieldDescriptor (TX4 k).2.2.1 = some (tyX4 k) := by decide +kernel
abbrev cX4_init : ByteArray := prog_6_method_1_code
def yX4_init : MethodName := ⟨RX4, "<init>", "()V"⟩
abbrev cX4_top : ByteArray := prog_6_method_2_code
def yX4_top : MethodName := ⟨RX4, "top", "()I"⟩
abbrev cX4_lay : ByteArray := prog_6_method_3_code
def yX4_lay : MethodName := ⟨RX4, "lay", "(LControlSigns$Taken;I)V"⟩
abbrev cX4_layRaised : ByteArray := prog_6_method_4_code
def yX4_layRaised : MethodName := ⟨RX4, "layRaised", "(LControlSigns$Taken;II)V"⟩
abbrev cX4_layOne : ByteArray := prog_6_method_5_code
def yX4_layOne : MethodName := ⟨RX4, "layOne", "(LControlSigns$Taken;II)V"⟩
abbrev cX4_raise : ByteArray := prog_6_method_6_code
def yX4_raise : MethodName := ⟨RX4, "raise", "()V"⟩
abbrev cX4_multiply : ByteArray := prog_6_method_7_code
def yX4_multiply : MethodName := ⟨RX4, "multiply", "(JJ)V"⟩
abbrev cX4_addWhole : ByteArray := prog_6_method_8_code
def yX4_addWhole : MethodName := ⟨RX4, "addWhole", "(J)V"⟩
abbrev cX4_ways : ByteArray := prog_6_method_9_code
def yX4_ways : MethodName := ⟨RX4, "ways", "(I)I"⟩
abbrev cX4_number : ByteArray := prog_6_method_10_code
def yX4_number : MethodName := ⟨RX4, "number", "(I)J"⟩
abbrev cX4_below : ByteArray := prog_6_method_11_code
def yX4_below : MethodName := ⟨RX4, "below", "(I)J"⟩
abbrev cX4_commonNumber : ByteArray := prog_6_method_12_code
def yX4_commonNumber : MethodName := ⟨RX4, "commonNumber", "(I)J"⟩
abbrev cX4_commonBelow : ByteArray := prog_6_method_13_code
def yX4_commonBelow : MethodName := ⟨RX4, "commonBelow", "()J"⟩
abbrev cX4_least : ByteArray := prog_6_method_14_code
def yX4_least : MethodName := ⟨RX4, "least", "()J"⟩
abbrev cX4_leastEnd : ByteArray := prog_6_method_15_code
def yX4_leastEnd : MethodName := ⟨RX4, "leastEnd", "()J"⟩
abbrev cX4_signAtLow : ByteArray := prog_6_method_16_code
def yX4_signAtLow : MethodName := ⟨RX4, "signAtLow", "()I"⟩
abbrev cX4_signAtHigh : ByteArray := prog_6_method_17_code
def yX4_signAtHigh : MethodName := ⟨RX4, "signAtHigh", "()I"⟩
abbrev cX4_allHave : ByteArray := prog_6_method_18_code
def yX4_allHave : MethodName := ⟨RX4, "allHave", "(I)Z"⟩
abbrev cX4_signChanges : ByteArray := prog_6_method_19_code
def yX4_signChanges : MethodName := ⟨RX4, "signChanges", "()I"⟩
def RX5 : String := "ControlSigns$Shares"
def TX5 : u_T := fun k => match k with
  | _ => ("ControlSigns$Shares", "parts", "[I", true)
def tyX5 : Nat → FieldType := fun k => match k with
  | _ => .array .int
abbrev wsX50 : List Cond := u_ws RX5 TX5 1
theorem nmX5 : ∀ a, a < 1 → ∀ b, b < 1 → a ≠ b → (TX5 a).2.1 ≠ (TX5 b).2.1 := by decide +kernel
theorem tyX5_ok : ∀ k, k < 1 → parseFieldDescriptor (TX5 k).2.2.1 = some (tyX5 k) := by decide +kernel
abbrev cX5_init : ByteArray := prog_7_method_1_code
def yX5_init : MethodName := ⟨RX5, "<init>", "()V"⟩
abbrev cX5_share : ByteArray := prog_7_method_2_code
def yX5_share : MethodName := ⟨RX5, "share", "(I)I"⟩
abbrev cX5_measure : ByteArray := prog_7_method_3_code
def yX5_measure : MethodName := ⟨RX5, "measure", "(LControlSigns$Taken;LControlSigns$Row;)V"⟩
abbrev cX5_add : ByteArray := prog_7_method_4_code
def yX5_add : MethodName := ⟨RX5, "add", "(II)V"⟩
abbrev cX5_firstHeld : ByteArray := prog_7_method_5_code
def yX5_firstHeld : MethodName := ⟨RX5, "firstHeld", "(LControlSigns$Taken;LControlSigns$Row;)I"⟩
abbrev cX5_judge : ByteArray := prog_7_method_6_code
def yX5_judge : MethodName := ⟨RX5, "judge", "(LControlSigns$Taken;LControlSigns$Row;I)I"⟩
def RX6 : String := "ControlSigns$Sights"
def TX6 : u_T := fun k => match k with
  | 0 => ("ControlSigns$Sights", "places", "[I", true)
  | 1 => ("ControlSigns$Sights", "signs", "[I", true)
  | _ => ("ControlSigns$Sights", "size", "I", false)
def tyX6 : Nat → FieldType := fun k => match k with
  | 0 => .array .int
  | 1 => .array .int
  | _ => .int
abbrev wsX60 : List Cond := u_ws RX6 TX6 3
theorem nmX6 : ∀ a, a < 3 → ∀ b, b < 3 → a ≠ b → (TX6 a).2.1 ≠ (TX6 b).2.1 := by decide +kernel
theorem tyX6_ok : ∀ k, k < 3 → parseFieldDescriptor (TX6 k).2.2.1 = some (tyX6 k) := by decide +kernel
abbrev cX6_init : ByteArray := prog_8_method_1_code
def yX6_init : MethodName := ⟨RX6, "<init>", "()V"⟩
abbrev cX6_size : ByteArray := prog_8_method_2_code
def yX6_size : MethodName := ⟨RX6, "size", "()I"⟩
abbrev cX6_isFull : ByteArray := prog_8_method_3_code
def yX6_isFull : MethodName := ⟨RX6, "isFull", "()Z"⟩
abbrev cX6_add : ByteArray := prog_8_method_4_code
def yX6_add : MethodName := ⟨RX6, "add", "(II)V"⟩
abbrev cX6_empty : ByteArray := prog_8_method_5_code
def yX6_empty : MethodName := ⟨RX6, "empty", "()V"⟩
abbrev cX6_fit : ByteArray := prog_8_method_6_code
def yX6_fit : MethodName := ⟨RX6, "fit", "(LControlSigns$Told;I)Z"⟩
def RX7 : String := "ControlSigns$Taken"
def TX7 : u_T := fun k => match k with
  | 0 => ("ControlSigns$Taken", "told", "LControlSigns$Told;", true)
  | 1 => ("ControlSigns$Taken", "polynomial", "I", false)
  | _ => ("ControlSigns$Taken", "box", "I", false)
def tyX7 : Nat → FieldType := fun k => match k with
  | 0 => .object "ControlSigns$Told"
  | 1 => .int
  | _ => .int
abbrev wsX70 : List Cond := u_ws RX7 TX7 3
theorem nmX7 : ∀ a, a < 3 → ∀ b, b < 3 → a ≠ b → (TX7 a).2.1 ≠ (TX7 b).2.1 := by decide +kernel
theorem tyX7_ok : ∀ k, k < 3 → parseFieldDescriptor (TX7 k).2.2.1 = some (tyX7 k) := by decide +kernel
abbrev cX7_init : ByteArray := prog_9_method_1_code
def yX7_init : MethodName := ⟨RX7, "<init>", "(LControlSigns$Told;)V"⟩
abbrev cX7_told : ByteArray := prog_9_method_2_code
def yX7_told : MethodName := ⟨RX7, "told", "()LControlSigns$Told;"⟩
abbrev cX7_takenPolynomial : ByteArray := prog_9_method_3_code
def yX7_takenPolynomial : MethodName := ⟨RX7, "takenPolynomial", "()I"⟩
abbrev cX7_takenBox : ByteArray := prog_9_method_4_code
def yX7_takenBox : MethodName := ⟨RX7, "takenBox", "()I"⟩
abbrev cX7_take : ByteArray := prog_9_method_5_code
def yX7_take : MethodName := ⟨RX7, "take", "(II)V"⟩
abbrev cX7_hasBox : ByteArray := prog_9_method_6_code
def yX7_hasBox : MethodName := ⟨RX7, "hasBox", "()Z"⟩
abbrev cX7_isThere : ByteArray := prog_9_method_7_code
def yX7_isThere : MethodName := ⟨RX7, "isThere", "()Z"⟩
abbrev cX7_low : ByteArray := prog_9_method_8_code
def yX7_low : MethodName := ⟨RX7, "low", "(I)I"⟩
abbrev cX7_high : ByteArray := prog_9_method_9_code
def yX7_high : MethodName := ⟨RX7, "high", "(I)I"⟩
def RX8 : String := "ControlSigns$Text"
def TX8 : u_T := fun k => match k with
  | 0 => ("ControlSigns$Text", "letters", "[I", true)
  | _ => ("ControlSigns$Text", "size", "I", false)
def tyX8 : Nat → FieldType := fun k => match k with
  | 0 => .array .int
  | _ => .int
abbrev wsX80 : List Cond := u_ws RX8 TX8 2
theorem nmX8 : ∀ a, a < 2 → ∀ b, b < 2 → a ≠ b → (TX8 a).2.1 ≠ (TX8 b).2.1 := by decide +kernel
theorem tyX8_ok : ∀ k, k < 2 → parseFieldDescriptor (TX8 k).2.2.1 = some (tyX8 k) := by decide +kernel
abbrev cX8_init : ByteArray := prog_10_method_1_code
def yX8_init : MethodName := ⟨RX8, "<init>", "()V"⟩
abbrev cX8_length : ByteArray := prog_10_method_2_code
def yX8_length : MethodName := ⟨RX8, "length", "()I"⟩
abbrev cX8_isFull : ByteArray := prog_10_method_3_code
def yX8_isFull : MethodName := ⟨RX8, "isFull", "()Z"⟩
abbrev cX8_add : ByteArray := prog_10_method_4_code
def yX8_add : MethodName := ⟨RX8, "add", "(I)V"⟩
abbrev cX8_at : ByteArray := prog_10_method_5_code
def yX8_at : MethodName := ⟨RX8, "at", "(I)I"⟩
abbrev cX8_empty : ByteArray := prog_10_method_6_code
def yX8_empty : MethodName := ⟨RX8, "empty", "()V"⟩
def RX9 : String := "ControlSigns$TextReader"
def TX9 : u_T := fun k => match k with
  | 0 => ("ControlSigns$TextReader", "draft", "LControlSigns$Told;", true)
  | 1 => ("ControlSigns$TextReader", "item", "I", false)
  | 2 => ("ControlSigns$TextReader", "numbers", "I", false)
  | 3 => ("ControlSigns$TextReader", "isBelowNought", "Z", false)
  | _ => ("ControlSigns$TextReader", "lower", "I", false)
def tyX9 : Nat → FieldType := fun k => match k with
  | 0 => .object "ControlSigns$Told"
  | 1 => .int
  | 2 => .int
  | 3 => .boolean
  | _ => .int
abbrev wsX90 : List Cond := u_ws RX9 TX9 5
theorem nmX9 : ∀ a, a < 5 → ∀ b, b < 5 → a ≠ b → (TX9 a).2.1 ≠ (TX9 b).2.1 := by decide +kernel
theorem tyX9_ok : ∀ k, k < 5 → parseFieldDescriptor (TX9 k).2.2.1 = some (tyX9 k) := by decide +kernel
abbrev cX9_init : ByteArray := prog_11_method_1_code
def yX9_init : MethodName := ⟨RX9, "<init>", "()V"⟩
abbrev cX9_draft : ByteArray := prog_11_method_2_code
def yX9_draft : MethodName := ⟨RX9, "draft", "()LControlSigns$Told;"⟩
abbrev cX9_read : ByteArray := prog_11_method_3_code
def yX9_read : MethodName := ⟨RX9, "read", "(LControlSigns$Text;)I"⟩
abbrev cX9_stands : ByteArray := prog_11_method_4_code
def yX9_stands : MethodName := ⟨RX9, "stands", "(LControlSigns$Text;I)Z"⟩
abbrev cX9_isDigit : ByteArray := prog_11_method_5_code
def yX9_isDigit : MethodName := ⟨RX9, "isDigit", "(I)Z"⟩
abbrev cX9_takesSign : ByteArray := prog_11_method_6_code
def yX9_takesSign : MethodName := ⟨RX9, "takesSign", "(I)Z"⟩
abbrev cX9_opensPolynomial : ByteArray := prog_11_method_7_code
def yX9_opensPolynomial : MethodName := ⟨RX9, "opensPolynomial", "()Z"⟩
abbrev cX9_opensBox : ByteArray := prog_11_method_8_code
def yX9_opensBox : MethodName := ⟨RX9, "opensBox", "()Z"⟩
abbrev cX9_open : ByteArray := prog_11_method_9_code
def yX9_open : MethodName := ⟨RX9, "open", "(I)V"⟩
abbrev cX9_takesMinus : ByteArray := prog_11_method_10_code
def yX9_takesMinus : MethodName := ⟨RX9, "takesMinus", "()Z"⟩
abbrev cX9_hasRoom : ByteArray := prog_11_method_11_code
def yX9_hasRoom : MethodName := ⟨RX9, "hasRoom", "()Z"⟩
abbrev cX9_closes : ByteArray := prog_11_method_12_code
def yX9_closes : MethodName := ⟨RX9, "closes", "()Z"⟩
abbrev cX9_takesNumber : ByteArray := prog_11_method_13_code
def yX9_takesNumber : MethodName := ⟨RX9, "takesNumber", "(LControlSigns$Text;I)Z"⟩
abbrev cX9_takesCoefficient : ByteArray := prog_11_method_14_code
def yX9_takesCoefficient : MethodName := ⟨RX9, "takesCoefficient", "(I)Z"⟩
abbrev cX9_takesEnd : ByteArray := prog_11_method_15_code
def yX9_takesEnd : MethodName := ⟨RX9, "takesEnd", "(I)Z"⟩
def RX10 : String := "ControlSigns$Told"
def TX10 : u_T := fun k => match k with
  | 0 => ("ControlSigns$Told", "polynomials", "I", false)
  | 1 => ("ControlSigns$Told", "boxes", "I", false)
  | 2 => ("ControlSigns$Told", "sizes", "[I", true)
  | 3 => ("ControlSigns$Told", "coefficients", "[I", true)
  | 4 => ("ControlSigns$Told", "wanted", "[I", true)
  | 5 => ("ControlSigns$Told", "lowers", "[I", true)
  | _ => ("ControlSigns$Told", "uppers", "[I", true)
def tyX10 : Nat → FieldType := fun k => match k with
  | 0 => .int
  | 1 => .int
  | 2 => .array .int
  | 3 => .array .int
  | 4 => .array .int
  | 5 => .array .int
  | _ => .array .int
abbrev wsX100 : List Cond := u_ws RX10 TX10 7
theorem nmX10 : ∀ a, a < 7 → ∀ b, b < 7 → a ≠ b → (TX10 a).2.1 ≠ (TX10 b).2.1 := by decide +kernel
theorem tyX10_ok : ∀ k, k < 7 → parseFieldDescriptor (TX10 k).2.2.1 = some (tyX10 k) := by decide +kernel
abbrev cX10_init : ByteArray := prog_12_method_1_code
def yX10_init : MethodName := ⟨RX10, "<init>", "()V"⟩
abbrev cX10_polynomials : ByteArray := prog_12_method_2_code
def yX10_polynomials : MethodName := ⟨RX10, "polynomials", "()I"⟩
abbrev cX10_boxes : ByteArray := prog_12_method_3_code
def yX10_boxes : MethodName := ⟨RX10, "boxes", "()I"⟩
abbrev cX10_hasPolynomial : ByteArray := prog_12_method_4_code
def yX10_hasPolynomial : MethodName := ⟨RX10, "hasPolynomial", "(I)Z"⟩
abbrev cX10_hasBox : ByteArray := prog_12_method_5_code
def yX10_hasBox : MethodName := ⟨RX10, "hasBox", "(I)Z"⟩
abbrev cX10_hasCoefficient : ByteArray := prog_12_method_6_code
def yX10_hasCoefficient : MethodName := ⟨RX10, "hasCoefficient", "(II)Z"⟩
abbrev cX10_degree : ByteArray := prog_12_method_7_code
def yX10_degree : MethodName := ⟨RX10, "degree", "(I)I"⟩
abbrev cX10_coefficient : ByteArray := prog_12_method_8_code
def yX10_coefficient : MethodName := ⟨RX10, "coefficient", "(II)I"⟩
abbrev cX10_wanted : ByteArray := prog_12_method_9_code
def yX10_wanted : MethodName := ⟨RX10, "wanted", "(I)I"⟩
abbrev cX10_lower : ByteArray := prog_12_method_10_code
def yX10_lower : MethodName := ⟨RX10, "lower", "(I)I"⟩
abbrev cX10_upper : ByteArray := prog_12_method_11_code
def yX10_upper : MethodName := ⟨RX10, "upper", "(I)I"⟩
abbrev cX10_placeBehind : ByteArray := prog_12_method_12_code
def yX10_placeBehind : MethodName := ⟨RX10, "placeBehind", "(II)I"⟩
abbrev cX10_at : ByteArray := prog_12_method_13_code
def yX10_at : MethodName := ⟨RX10, "at", "(II)I"⟩
abbrev cX10_putCoefficient : ByteArray := prog_12_method_14_code
def yX10_putCoefficient : MethodName := ⟨RX10, "putCoefficient", "(III)V"⟩
abbrev cX10_putBox : ByteArray := prog_12_method_15_code
def yX10_putBox : MethodName := ⟨RX10, "putBox", "(III)V"⟩
abbrev cX10_want : ByteArray := prog_12_method_16_code
def yX10_want : MethodName := ⟨RX10, "want", "(II)V"⟩
abbrev cX10_empty : ByteArray := prog_12_method_17_code
def yX10_empty : MethodName := ⟨RX10, "empty", "()V"⟩
abbrev cX10_addPolynomial : ByteArray := prog_12_method_18_code
def yX10_addPolynomial : MethodName := ⟨RX10, "addPolynomial", "()V"⟩
abbrev cX10_addCoefficient : ByteArray := prog_12_method_19_code
def yX10_addCoefficient : MethodName := ⟨RX10, "addCoefficient", "(I)V"⟩
abbrev cX10_addBox : ByteArray := prog_12_method_20_code
def yX10_addBox : MethodName := ⟨RX10, "addBox", "(II)V"⟩
abbrev cX10_become : ByteArray := prog_12_method_21_code
def yX10_become : MethodName := ⟨RX10, "become", "(LControlSigns$Told;)V"⟩
def RX11 : String := "ControlSigns"
def TX11 : u_T := fun k => match k with
  | 0 => ("ControlSigns", "text", "LControlSigns$Text;", true)
  | 1 => ("ControlSigns", "now", "LControlSigns$Told;", true)
  | 2 => ("ControlSigns", "taken", "LControlSigns$Taken;", true)
  | 3 => ("ControlSigns", "changes", "LControlSigns$Changes;", true)
  | 4 => ("ControlSigns", "images", "[LControlSigns$Told;", true)
  | 5 => ("ControlSigns", "keptImages", "I", false)
  | 6 => ("ControlSigns", "sights", "LControlSigns$Sights;", true)
  | 7 => ("ControlSigns", "reader", "LControlSigns$TextReader;", true)
  | 8 => ("ControlSigns", "row", "LControlSigns$Row;", true)
  | 9 => ("ControlSigns", "roots", "LControlSigns$Roots;", true)
  | 10 => ("ControlSigns", "proof", "LControlSigns$Paper;", true)
  | 11 => ("ControlSigns", "bounds", "LControlSigns$Bounds;", true)
  | _ => ("ControlSigns", "shares", "LControlSigns$Shares;", true)
def tyX11 : Nat → FieldType := fun k => match k with
  | 0 => .object "ControlSigns$Text"
  | 1 => .object "ControlSigns$Told"
  | 2 => .object "ControlSigns$Taken"
  | 3 => .object "ControlSigns$Changes"
  | 4 => .array (.object "ControlSigns$Told")
  | 5 => .int
  | 6 => .object "ControlSigns$Sights"
  | 7 => .object "ControlSigns$TextReader"
  | 8 => .object "ControlSigns$Row"
  | 9 => .object "ControlSigns$Roots"
  | 10 => .object "ControlSigns$Paper"
  | 11 => .object "ControlSigns$Bounds"
  | _ => .object "ControlSigns$Shares"
abbrev wsX110 : List Cond := u_ws RX11 TX11 13
theorem nmX11 : ∀ a, a < 13 → ∀ b, b < 13 → a ≠ b → (TX11 a).2.1 ≠ (TX11 b).2.1 := by decide +kernel
theorem tyX11_ok : ∀ k, k < 13 → parseFieldDescriptor (TX11 k).2.2.1 = some (tyX11 k) := by decide +kernel
abbrev cX11_init : ByteArray := prog_1_method_1_code
def yX11_init : MethodName := ⟨RX11, "<init>", "()V"⟩
abbrev cX11_type : ByteArray := prog_1_method_2_code
def yX11_type : MethodName := ⟨RX11, "type", "(I)I"⟩
abbrev cX11_clear : ByteArray := prog_1_method_3_code
def yX11_clear : MethodName := ⟨RX11, "clear", "()I"⟩
abbrev cX11_house : ByteArray := prog_1_method_4_code
def yX11_house : MethodName := ⟨RX11, "house", "()I"⟩
abbrev cX11_takes : ByteArray := prog_1_method_5_code
def yX11_takes : MethodName := ⟨RX11, "takes", "(II)I"⟩
abbrev cX11_coef : ByteArray := prog_1_method_6_code
def yX11_coef : MethodName := ⟨RX11, "coef", "(II)J"⟩
abbrev cX11_box : ByteArray := prog_1_method_7_code
def yX11_box : MethodName := ⟨RX11, "box", "(II)J"⟩
abbrev cX11_coefs : ByteArray := prog_1_method_8_code
def yX11_coefs : MethodName := ⟨RX11, "coefs", "(III)I"⟩
abbrev cX11_ends : ByteArray := prog_1_method_9_code
def yX11_ends : MethodName := ⟨RX11, "ends", "(III)I"⟩
abbrev cX11_wishes : ByteArray := prog_1_method_10_code
def yX11_wishes : MethodName := ⟨RX11, "wishes", "(II)I"⟩
abbrev cX11_undo : ByteArray := prog_1_method_11_code
def yX11_undo : MethodName := ⟨RX11, "undo", "()I"⟩
abbrev cX11_control : ByteArray := prog_1_method_12_code
def yX11_control : MethodName := ⟨RX11, "control", "(IIII)J"⟩
abbrev cX11_variation : ByteArray := prog_1_method_13_code
def yX11_variation : MethodName := ⟨RX11, "variation", "(II)I"⟩
abbrev cX11_end : ByteArray := prog_1_method_14_code
def yX11_end : MethodName := ⟨RX11, "end", "(III)J"⟩
abbrev cX11_value : ByteArray := prog_1_method_15_code
def yX11_value : MethodName := ⟨RX11, "value", "(III)J"⟩
abbrev cX11_brackets : ByteArray := prog_1_method_16_code
def yX11_brackets : MethodName := ⟨RX11, "brackets", "()I"⟩
abbrev cX11_bracket : ByteArray := prog_1_method_17_code
def yX11_bracket : MethodName := ⟨RX11, "bracket", "(II)I"⟩
abbrev cX11_makes : ByteArray := prog_1_method_18_code
def yX11_makes : MethodName := ⟨RX11, "makes", "()I"⟩
abbrev cX11_paper : ByteArray := prog_1_method_19_code
def yX11_paper : MethodName := ⟨RX11, "paper", "(I)I"⟩
abbrev cX11_witness : ByteArray := prog_1_method_20_code
def yX11_witness : MethodName := ⟨RX11, "witness", "(I)J"⟩
abbrev cX11_proves : ByteArray := prog_1_method_21_code
def yX11_proves : MethodName := ⟨RX11, "proves", "()I"⟩
abbrev cX11_narrowed : ByteArray := prog_1_method_22_code
def yX11_narrowed : MethodName := ⟨RX11, "narrowed", "(III)J"⟩
abbrev cX11_sure : ByteArray := prog_1_method_23_code
def yX11_sure : MethodName := ⟨RX11, "sure", "(I)I"⟩
abbrev cX11_first : ByteArray := prog_1_method_24_code
def yX11_first : MethodName := ⟨RX11, "first", "()I"⟩
abbrev cX11_wish : ByteArray := prog_1_method_25_code
def yX11_wish : MethodName := ⟨RX11, "wish", "(I)J"⟩
abbrev cX11_sees : ByteArray := prog_1_method_26_code
def yX11_sees : MethodName := ⟨RX11, "sees", "(II)I"⟩
abbrev cX11_forget : ByteArray := prog_1_method_27_code
def yX11_forget : MethodName := ⟨RX11, "forget", "()I"⟩
abbrev cX11_unseen : ByteArray := prog_1_method_28_code
def yX11_unseen : MethodName := ⟨RX11, "unseen", "()I"⟩
abbrev cX11_keep : ByteArray := prog_1_method_29_code
def yX11_keep : MethodName := ⟨RX11, "keep", "(I)I"⟩
abbrev cX11_back : ByteArray := prog_1_method_30_code
def yX11_back : MethodName := ⟨RX11, "back", "(I)I"⟩
abbrev cX11_count : ByteArray := prog_1_method_31_code
def yX11_count : MethodName := ⟨RX11, "count", "(I)I"⟩
abbrev cX11_isImage : ByteArray := prog_1_method_32_code
def yX11_isImage : MethodName := ⟨RX11, "isImage", "(I)Z"⟩
abbrev cX11_isWithin : ByteArray := prog_1_method_33_code
def yX11_isWithin : MethodName := ⟨RX11, "isWithin", "(III)Z"⟩
abbrev cX11_isNode : ByteArray := prog_1_method_34_code
def yX11_isNode : MethodName := ⟨RX11, "isNode", "(I)Z"⟩
abbrev cX11_isPlace : ByteArray := prog_1_method_35_code
def yX11_isPlace : MethodName := ⟨RX11, "isPlace", "(I)Z"⟩
abbrev cX11_isCoefficient : ByteArray := prog_1_method_36_code
def yX11_isCoefficient : MethodName := ⟨RX11, "isCoefficient", "(I)Z"⟩
abbrev cX11_signOf : ByteArray := prog_1_method_37_code
def yX11_signOf : MethodName := ⟨RX11, "signOf", "(J)I"⟩
abbrev cX11_part : ByteArray := prog_1_method_38_code
def yX11_part : MethodName := ⟨RX11, "part", "(JJI)J"⟩
abbrev cX11_commonDivisor : ByteArray := prog_1_method_39_code
def yX11_commonDivisor : MethodName := ⟨RX11, "commonDivisor", "(JJ)J"⟩
abbrev cX11_partsOf : ByteArray := prog_1_method_40_code
def yX11_partsOf : MethodName := ⟨RX11, "partsOf", "(I)I"⟩
abbrev cX11_behind : ByteArray := prog_1_method_41_code
def yX11_behind : MethodName := ⟨RX11, "behind", "(I)I"⟩
def RX12 : String := "ControlSignsModel"
def TX12 : u_T := fun k => match k with
  | 0 => ("ControlSignsModel", "s", "[I", true)
  | 1 => ("ControlSignsModel", "draft", "[I", true)
  | 2 => ("ControlSignsModel", "kept", "[I", true)
  | 3 => ("ControlSignsModel", "isKept", "[Z", true)
  | 4 => ("ControlSignsModel", "past", "[I", true)
  | 5 => ("ControlSignsModel", "known", "I", false)
  | 6 => ("ControlSignsModel", "takenP", "I", false)
  | 7 => ("ControlSignsModel", "takenB", "I", false)
  | 8 => ("ControlSignsModel", "seenAt", "[I", true)
  | 9 => ("ControlSignsModel", "seenSign", "[I", true)
  | 10 => ("ControlSignsModel", "seen", "I", false)
  | 11 => ("ControlSignsModel", "text", "[I", true)
  | 12 => ("ControlSignsModel", "typed", "I", false)
  | 13 => ("ControlSignsModel", "kind", "[I", true)
  | 14 => ("ControlSignsModel", "place", "[I", true)
  | 15 => ("ControlSignsModel", "value", "[I", true)
  | 16 => ("ControlSignsModel", "tokens", "I", false)
  | 17 => ("ControlSignsModel", "at", "I", false)
  | 18 => ("ControlSignsModel", "told", "I", false)
  | 19 => ("ControlSignsModel", "row", "[J", true)
  | 20 => ("ControlSignsModel", "last", "I", false)
  | 21 => ("ControlSignsModel", "below", "J", false)
  | 22 => ("ControlSignsModel", "own", "[J", true)
  | 23 => ("ControlSignsModel", "pile", "[I", true)
  | 24 => ("ControlSignsModel", "top", "I", false)
  | 25 => ("ControlSignsModel", "foundNode", "[I", true)
  | 26 => ("ControlSignsModel", "foundKind", "[I", true)
  | 27 => ("ControlSignsModel", "found", "I", false)
  | 28 => ("ControlSignsModel", "letters", "[I", true)
  | 29 => ("ControlSignsModel", "written", "I", false)
  | 30 => ("ControlSignsModel", "witnessAt", "I", false)
  | 31 => ("ControlSignsModel", "nodes", "[I", true)
  | 32 => ("ControlSignsModel", "many", "I", false)
  | _ => ("ControlSignsModel", "parts", "[I", true)
def tyX12 : Nat → FieldType := fun k => match k with
  | 0 => .array .int
  | 1 => .array .int
  | 2 => .array .int
  | 3 => .array .boolean
  | 4 => .array .int
  | 5 => .int
  | 6 => .int
  | 7 => .int
  | 8 => .array .int
  | 9 => .array .int
  | 10 => .int
  | 11 => .array .int
  | 12 => .int
  | 13 => .array .int
  | 14 => .array .int
  | 15 => .array .int
  | 16 => .int
  | 17 => .int
  | 18 => .int
  | 19 => .array .long
  | 20 => .int
  | 21 => .long
  | 22 => .array .long
  | 23 => .array .int
  | 24 => .int
  | 25 => .array .int
  | 26 => .array .int
  | 27 => .int
  | 28 => .array .int
  | 29 => .int
  | 30 => .int
  | 31 => .array .int
  | 32 => .int
  | _ => .array .int
abbrev wsX120 : List Cond := u_ws RX12 TX12 34
theorem nmX12 : ∀ a, a < 34 → ∀ b, b < 34 → a ≠ b → (TX12 a).2.1 ≠ (TX12 b).2.1 := by decide +kernel
theorem tyX12_ok : ∀ k, k < 34 → parseFieldDescriptor (TX12 k).2.2.1 = some (tyX12 k) := by decide +kernel
abbrev cX12_init : ByteArray := prog_14_method_1_code
def yX12_init : MethodName := ⟨RX12, "<init>", "()V"⟩
abbrev cX12_in : ByteArray := prog_14_method_3_code
def yX12_in : MethodName := ⟨RX12, "in", "(III)Z"⟩
abbrev cX12_becomes : ByteArray := prog_14_method_4_code
def yX12_becomes : MethodName := ⟨RX12, "becomes", "()V"⟩
abbrev cX12_type : ByteArray := prog_14_method_5_code
def yX12_type : MethodName := ⟨RX12, "type", "(I)I"⟩
abbrev cX12_clear : ByteArray := prog_14_method_6_code
def yX12_clear : MethodName := ⟨RX12, "clear", "()I"⟩
abbrev cX12_numbered : ByteArray := prog_14_method_7_code
def yX12_numbered : MethodName := ⟨RX12, "numbered", "(I)I"⟩
abbrev cX12_split : ByteArray := prog_14_method_8_code
def yX12_split : MethodName := ⟨RX12, "split", "()V"⟩
abbrev cX12_isKind : ByteArray := prog_14_method_9_code
def yX12_isKind : MethodName := ⟨RX12, "isKind", "(I)Z"⟩
abbrev cX12_takesNumber : ByteArray := prog_14_method_10_code
def yX12_takesNumber : MethodName := ⟨RX12, "takesNumber", "(II)Z"⟩
abbrev cX12_polynomial : ByteArray := prog_14_method_11_code
def yX12_polynomial : MethodName := ⟨RX12, "polynomial", "()Z"⟩
abbrev cX12_boxTold : ByteArray := prog_14_method_12_code
def yX12_boxTold : MethodName := ⟨RX12, "boxTold", "()Z"⟩
abbrev cX12_house : ByteArray := prog_14_method_13_code
def yX12_house : MethodName := ⟨RX12, "house", "()I"⟩
abbrev cX12_isPolynomial : ByteArray := prog_14_method_14_code
def yX12_isPolynomial : MethodName := ⟨RX12, "isPolynomial", "(I)Z"⟩
abbrev cX12_isBox : ByteArray := prog_14_method_15_code
def yX12_isBox : MethodName := ⟨RX12, "isBox", "(I)Z"⟩
abbrev cX12_isTaken : ByteArray := prog_14_method_16_code
def yX12_isTaken : MethodName := ⟨RX12, "isTaken", "()Z"⟩
abbrev cX12_takes : ByteArray := prog_14_method_17_code
def yX12_takes : MethodName := ⟨RX12, "takes", "(II)I"⟩
abbrev cX12_isCoefficient : ByteArray := prog_14_method_18_code
def yX12_isCoefficient : MethodName := ⟨RX12, "isCoefficient", "(II)Z"⟩
abbrev cX12_coef : ByteArray := prog_14_method_19_code
def yX12_coef : MethodName := ⟨RX12, "coef", "(II)J"⟩
abbrev cX12_box : ByteArray := prog_14_method_20_code
def yX12_box : MethodName := ⟨RX12, "box", "(II)J"⟩
abbrev cX12_knows : ByteArray := prog_14_method_21_code
def yX12_knows : MethodName := ⟨RX12, "knows", "(II)V"⟩
abbrev cX12_coefs : ByteArray := prog_14_method_22_code
def yX12_coefs : MethodName := ⟨RX12, "coefs", "(III)I"⟩
abbrev cX12_ends : ByteArray := prog_14_method_23_code
def yX12_ends : MethodName := ⟨RX12, "ends", "(III)I"⟩
abbrev cX12_wishes : ByteArray := prog_14_method_24_code
def yX12_wishes : MethodName := ⟨RX12, "wishes", "(II)I"⟩
abbrev cX12_undo : ByteArray := prog_14_method_25_code
def yX12_undo : MethodName := ⟨RX12, "undo", "()I"⟩
abbrev cX12_choose : ByteArray := prog_14_method_26_code
def yX12_choose : MethodName := ⟨RX12, "choose", "(II)J"⟩
abbrev cX12_common : ByteArray := prog_14_method_27_code
def yX12_common : MethodName := ⟨RX12, "common", "(JJ)J"⟩
abbrev cX12_power : ByteArray := prog_14_method_28_code
def yX12_power : MethodName := ⟨RX12, "power", "(JI)J"⟩
abbrev cX12_sizeOf : ByteArray := prog_14_method_29_code
def yX12_sizeOf : MethodName := ⟨RX12, "sizeOf", "(I)I"⟩
abbrev cX12_lengthOf : ByteArray := prog_14_method_30_code
def yX12_lengthOf : MethodName := ⟨RX12, "lengthOf", "()I"⟩
abbrev cX12_lowOf : ByteArray := prog_14_method_31_code
def yX12_lowOf : MethodName := ⟨RX12, "lowOf", "(I)I"⟩
abbrev cX12_highOf : ByteArray := prog_14_method_32_code
def yX12_highOf : MethodName := ⟨RX12, "highOf", "(I)I"⟩
abbrev cX12_laysOwn : ByteArray := prog_14_method_33_code
def yX12_laysOwn : MethodName := ⟨RX12, "laysOwn", "(II)V"⟩
abbrev cX12_lays : ByteArray := prog_14_method_34_code
def yX12_lays : MethodName := ⟨RX12, "lays", "(III)V"⟩
abbrev cX12_fraction : ByteArray := prog_14_method_35_code
def yX12_fraction : MethodName := ⟨RX12, "fraction", "(JJI)J"⟩
abbrev cX12_isNode : ByteArray := prog_14_method_36_code
def yX12_isNode : MethodName := ⟨RX12, "isNode", "(I)Z"⟩
abbrev cX12_control : ByteArray := prog_14_method_37_code
def yX12_control : MethodName := ⟨RX12, "control", "(IIII)J"⟩
abbrev cX12_varies : ByteArray := prog_14_method_38_code
def yX12_varies : MethodName := ⟨RX12, "varies", "(II)I"⟩
abbrev cX12_variation : ByteArray := prog_14_method_39_code
def yX12_variation : MethodName := ⟨RX12, "variation", "(II)I"⟩
abbrev cX12_end : ByteArray := prog_14_method_40_code
def yX12_end : MethodName := ⟨RX12, "end", "(III)J"⟩
abbrev cX12_value : ByteArray := prog_14_method_41_code
def yX12_value : MethodName := ⟨RX12, "value", "(III)J"⟩
abbrev cX12_puts : ByteArray := prog_14_method_42_code
def yX12_puts : MethodName := ⟨RX12, "puts", "(I)V"⟩
abbrev cX12_finds : ByteArray := prog_14_method_43_code
def yX12_finds : MethodName := ⟨RX12, "finds", "(II)V"⟩
abbrev cX12_brings : ByteArray := prog_14_method_44_code
def yX12_brings : MethodName := ⟨RX12, "brings", "()V"⟩
abbrev cX12_brackets : ByteArray := prog_14_method_45_code
def yX12_brackets : MethodName := ⟨RX12, "brackets", "()I"⟩
abbrev cX12_bracket : ByteArray := prog_14_method_46_code
def yX12_bracket : MethodName := ⟨RX12, "bracket", "(II)I"⟩
abbrev cX12_isAbove : ByteArray := prog_14_method_47_code
def yX12_isAbove : MethodName := ⟨RX12, "isAbove", "(IIII)Z"⟩
abbrev cX12_writes : ByteArray := prog_14_method_48_code
def yX12_writes : MethodName := ⟨RX12, "writes", "()I"⟩
abbrev cX12_makes : ByteArray := prog_14_method_49_code
def yX12_makes : MethodName := ⟨RX12, "makes", "()I"⟩
abbrev cX12_paper : ByteArray := prog_14_method_50_code
def yX12_paper : MethodName := ⟨RX12, "paper", "(I)I"⟩
abbrev cX12_witness : ByteArray := prog_14_method_51_code
def yX12_witness : MethodName := ⟨RX12, "witness", "(I)J"⟩
abbrev cX12_proves : ByteArray := prog_14_method_52_code
def yX12_proves : MethodName := ⟨RX12, "proves", "()I"⟩
abbrev cX12_leastOf : ByteArray := prog_14_method_53_code
def yX12_leastOf : MethodName := ⟨RX12, "leastOf", "(I)J"⟩
abbrev cX12_narrows : ByteArray := prog_14_method_54_code
def yX12_narrows : MethodName := ⟨RX12, "narrows", "(I)V"⟩
abbrev cX12_narrowed : ByteArray := prog_14_method_55_code
def yX12_narrowed : MethodName := ⟨RX12, "narrowed", "(III)J"⟩
abbrev cX12_isHeld : ByteArray := prog_14_method_56_code
def yX12_isHeld : MethodName := ⟨RX12, "isHeld", "(I)Z"⟩
abbrev cX12_isBroken : ByteArray := prog_14_method_57_code
def yX12_isBroken : MethodName := ⟨RX12, "isBroken", "(I)Z"⟩
abbrev cX12_sure : ByteArray := prog_14_method_58_code
def yX12_sure : MethodName := ⟨RX12, "sure", "(I)I"⟩
abbrev cX12_first : ByteArray := prog_14_method_59_code
def yX12_first : MethodName := ⟨RX12, "first", "()I"⟩
abbrev cX12_wish : ByteArray := prog_14_method_60_code
def yX12_wish : MethodName := ⟨RX12, "wish", "(I)J"⟩
abbrev cX12_sees : ByteArray := prog_14_method_61_code
def yX12_sees : MethodName := ⟨RX12, "sees", "(II)I"⟩
abbrev cX12_forget : ByteArray := prog_14_method_62_code
def yX12_forget : MethodName := ⟨RX12, "forget", "()I"⟩
abbrev cX12_signAt : ByteArray := prog_14_method_63_code
def yX12_signAt : MethodName := ⟨RX12, "signAt", "(II)I"⟩
abbrev cX12_unseen : ByteArray := prog_14_method_64_code
def yX12_unseen : MethodName := ⟨RX12, "unseen", "()I"⟩
abbrev cX12_keep : ByteArray := prog_14_method_65_code
def yX12_keep : MethodName := ⟨RX12, "keep", "(I)I"⟩
abbrev cX12_back : ByteArray := prog_14_method_66_code
def yX12_back : MethodName := ⟨RX12, "back", "(I)I"⟩
abbrev cX12_count : ByteArray := prog_14_method_67_code
def yX12_count : MethodName := ⟨RX12, "count", "(I)I"⟩
def RJ7 : String := "java/util/Arrays"
abbrev cJ7_fill_d0a16 : ByteArray := prog_17_method_101_code
def yJ7_fill_d0a16 : MethodName := ⟨RJ7, "fill", "([JJ)V"⟩
abbrev cJ7_fill_53178 : ByteArray := prog_17_method_103_code
def yJ7_fill_53178 : MethodName := ⟨RJ7, "fill", "([II)V"⟩
def RL : String := "ControlSignsLaw"
abbrev cL_law : ByteArray := code
def yL_law : MethodName := ⟨RL, "law", "([I)Z"⟩
abbrev vwCl : List vw_C := [(RX0, TX0, 4), (RX1, TX1, 2), (RX2, TX2, 3), (RX3, TX3, 3), (RX4, TX4, 3), (RX5, TX5, 1), (RX6, TX6, 3), (RX7, TX7, 3), (RX8, TX8, 2), (RX9, TX9, 5), (RX10, TX10, 7), (RX11, TX11, 13), (RX12, TX12, 34)]
end
section
/-! THE FRAME: whole numbers for ints and longs, the world of 68 cells, the judgement jv, its rows. -/
def tblG : List Cond := lw_tbl.filter goodWord
theorem tblG_at {w : Cond} (i : Nat) (h : lw_tbl[i]? = some w) (hg : goodWord w = true) : w ∈ tblG := List.mem_filter.mpr ⟨List.mem_of_getElem? h, hg⟩
theorem tblG_good {w : Cond} (h : w ∈ tblG) : (w.onTables && w.keeps) = true ∨ ∃ ty, w = .arrayClass ty := good_of_word (List.mem_filter.mp h).2
theorem tblG_lw {w : Cond} (h : w ∈ tblG) : w ∈ lw_tbl := (List.mem_filter.mp h).1
def kI (x : Int) : Int32 := Int32.ofInt x
def kL (x : Int) : Int64 := Int64.ofInt x
theorem kI_of (x : Int32) : kI x.toInt = x := Int32.ofInt_toInt x
theorem kI_toInt {a : Int} (h1 : -2147483648 ≤ a) (h2 : a ≤ 2147483647) : (kI a).toInt = a := Int32.toInt_ofInt_of_le (by omega) (by omega)
theorem kL_toInt {a : Int} (h1 : -9223372036854775808 ≤ a) (h2 : a ≤ 9223372036854775807) : (kL a).toInt = a := Int64.toInt_ofInt_of_le (by omega) (by omega)
theorem kI_lt {a b : Int} (h : -2147483648 ≤ a ∧ a ≤ 2147483647 ∧ -2147483648 ≤ b ∧ b ≤ 2147483647) : kI a < kI b ↔ a < b := by
  rw [Int32.lt_iff_toInt_lt, kI_toInt h.1 h.2.1, kI_toInt h.2.2.1 h.2.2.2]
theorem kI_le {a b : Int} (h : -2147483648 ≤ a ∧ a ≤ 2147483647 ∧ -2147483648 ≤ b ∧ b ≤ 2147483647) : kI a ≤ kI b ↔ a ≤ b := by
  rw [Int32.le_iff_toInt_le, kI_toInt h.1 h.2.1, kI_toInt h.2.2.1 h.2.2.2]
theorem kI_eq {a b : Int} (h : -2147483648 ≤ a ∧ a ≤ 2147483647 ∧ -2147483648 ≤ b ∧ b ≤ 2147483647) : kI a = kI b ↔ a = b := by
  rw [← Int32.toInt_inj, kI_toInt h.1 h.2.1, kI_toInt h.2.2.1 h.2.2.2]
theorem kL_lt {a b : Int} (h : -9223372036854775808 ≤ a ∧ a ≤ 9223372036854775807 ∧ -9223372036854775808 ≤ b ∧ b ≤ 9223372036854775807) : kL a < kL b ↔ a < b := by
  rw [Int64.lt_iff_toInt_lt, kL_toInt h.1 h.2.1, kL_toInt h.2.2.1 h.2.2.2]
theorem kL_eq {a b : Int} (h : -9223372036854775808 ≤ a ∧ a ≤ 9223372036854775807 ∧ -9223372036854775808 ≤ b ∧ b ≤ 9223372036854775807) : kL a = kL b ↔ a = b := by
  rw [← Int64.toInt_inj, kL_toInt h.1 h.2.1, kL_toInt h.2.2.1 h.2.2.2]
theorem kI_clamp {i : Int} {n : Nat} (h : 0 ≤ i ∧ i < (n : Int)) (hn : n ≤ 2147483647) : vp_in (kI i) n ∧ (((kI i).toNatClampNeg : Nat) : Int) = i := by
  have h1 : (kI i).toInt = i := kI_toInt (by omega) (by omega)
  refine ⟨vp_in_iff.mpr (by rw [h1]; exact h), ?_⟩
  show (((kI i).toInt.toNat : Nat) : Int) = i
  rw [h1]
  omega
abbrev vi (a : Int) : Value := .int (kI a)
abbrev vl (a : Int) : Value := .long (kL a)
abbrev Sg : Type := Nat → Int → Int
abbrev Gl : Type := Launch × va_G × (Nat → Nat) × (Nat → ClassId) × (Nat × Nat × (Nat → Int32)) × Nat
abbrev Mt : Type := MethodName × ByteArray × Nat × Option FieldType × Room
def ga (g : Gl) (k : Nat) : Nat := g.2.2.1 k
abbrev vr (g : Gl) (k : Nat) : Value := .ref (ga g k)
def up1 (f : Int → Int) (j v : Int) : Int → Int := fun i => if i = j then v else f i
def up (σ : Sg) (k : Nat) (j v : Int) : Sg := fun k' => if k' = k then up1 (σ k) j v else σ k'
theorem up1_same (f : Int → Int) (j v : Int) : up1 f j v j = v := if_pos rfl
theorem up1_ne {f : Int → Int} {j v i : Int} (h : i ≠ j) : up1 f j v i = f i := if_neg h
theorem up_same (σ : Sg) (k : Nat) (j v : Int) : up σ k j v k = up1 (σ k) j v := if_pos rfl
theorem up_ne {σ : Sg} {k k' : Nat} {j v : Int} (h : k' ≠ k) : up σ k j v k' = σ k' := if_neg h
def lay : List (Nat × List Nat) := [(0, [10, 0, 0, 3, 4, 5, 6, 7]), (1, [3]), (1, [18]), (1, [3]), (1, [3]), (1, [3]), (0, [10, 0, 0, 9, 10, 11, 12, 13]), (1, [3]), (1, [18]), (1, [3]), (1, [3]), (1, [3]), (0, [10, 0, 0, 15, 16, 17, 18, 19]), (1, [3]), (1, [18]), (1, [3]), (1, [3]), (1, [3]), (0, [10, 0, 0, 21, 22, 23, 24, 25]), (1, [3]), (1, [18]), (1, [3]), (1, [3]), (1, [3]), (0, [11, 27, 2, 29, 30, 32, 0, 33, 36, 37, 39, 42, 44, 48]), (0, [8, 28, 0]), (1, [120]), (0, [7, 2, 0, 0]), (0, [1, 31, 0]), (1, [50]), (4, [6, 12]), (0, [6, 34, 35, 0]), (1, [6]), (1, [6]), (0, [9, 20, 0, 0, 0, 0]), (0, [4, 38, 0, 1]), (2, [8]), (0, [3, 40, 41, 0]), (1, [127]), (1, [127]), (0, [2, 43, 0, 0]), (1, [127]), (0, [0, 45, 46, 47, 0]), (1, [21]), (2, [21]), (2, [21]), (0, [5, 49]), (1, [3]), (0, [12, 51, 52, 53, 54, 55, 0, 0, 0, 56, 57, 0, 58, 0, 59, 60, 61, 0, 0, 0, 62, 0, 1, 63, 64, 0, 65, 66, 0, 67, 0, 0, 68, 0, 69]), (1, [32]), (1, [32]), (1, [64]), (3, [2]), (1, [40]), (1, [6]), (1, [6]), (1, [120]), (1, [120]), (1, [120]), (1, [120]), (2, [8]), (2, [6]), (1, [400]), (1, [200]), (1, [200]), (1, [130]), (1, [30]), (1, [3])]
theorem lay_len : lay.length = 68 := by decide +kernel
def fv (g : Gl) (f : Int → Int) (j c : Nat) : Value := match c with
  | 0 => .int (kI (f j))
  | 1 => .long (kL (f j))
  | c + 2 => .ref (ga g c)
def cel (g : Gl) (q : Nat × List Nat) (f : Int → Int) : va_E := match q with
  | (0, cs) => .inr (cs.headD 0, cs.tail.mapIdx (fun j c => fv g f j c))
  | (1, cs) => .inl (g.2.2.2.1 0, cs.headD 0, .inl (fun j => kI (f j)))
  | (2, cs) => .inl (g.2.2.2.1 1, cs.headD 0, .inr (.inl (fun j => kL (f j))))
  | (3, cs) => .inl (g.2.2.2.1 2, cs.headD 0, .inl (fun j => kI (f j)))
  | (_, cs) => .inl (g.2.2.2.1 3, cs.length, .inr (.inr (.inr (.inr (fun j => (cs[j]?).map (ga g))))))
def wsO (g : Gl) (σ : Sg) : va_W := lay.mapIdx (fun k q => (ga g k, cel g q (σ k)))
theorem wsO_at {g : Gl} {σ : Sg} {k : Nat} {q : Nat × List Nat} (h : lay[k]? = some q) : (wsO g σ)[k]? = some (ga g k, cel g q (σ k)) := by
  simp [wsO, List.getElem?_mapIdx, h]
theorem lay_lt {k : Nat} {q : Nat × List Nat} (h : lay[k]? = some q) : k < 68 := by
  have := (List.getElem?_eq_some_iff.mp h).1
  rw [lay_len] at this
  exact this
theorem wsO_fwd {g : Gl} {σ : Sg} {k : Nat} {x : Nat × va_E} (h : (wsO g σ)[k]? = some x) : ∃ q, lay[k]? = some q ∧ x = (ga g k, cel g q (σ k)) := by
  simp only [wsO, List.getElem?_mapIdx] at h
  cases hq : lay[k]? with
  | none => rw [hq] at h; cases h
  | some q => rw [hq] at h; exact ⟨q, rfl, (Option.some.inj h).symm⟩
/-- a world in which one cell's row is another one -/
theorem wsO_set {g : Gl} {σ σ' : Sg} {k : Nat} {q : Nat × List Nat} {E : va_E} (h : lay[k]? = some q) (hE : E = cel g q (σ' k)) (ho : ∀ j, j ≠ k → σ' j = σ j) : (wsO g σ).set k (ga g k, E) = wsO g σ' := by
  subst hE
  apply List.ext_getElem?
  intro i
  by_cases hi : i = k
  · subst hi
    rw [wsO_at h, List.getElem?_set_self (List.getElem?_eq_some_iff.mp (wsO_at (g := g) (σ := σ) h)).1]
  · rw [List.getElem?_set_ne (Ne.symm hi)]
    simp only [wsO, List.getElem?_mapIdx]
    cases hq : lay[i]? with
    | none => rfl
    | some r => simp only [Option.map_some]; rw [ho i hi]
def tysO (g : Gl) : List (ClassId × FieldType) := [(g.2.2.2.1 0, .int), (g.2.2.2.1 1, .long), (g.2.2.2.1 2, .boolean), (g.2.2.2.1 3, .object "ControlSigns$Told")]
def Gok (g : Gl) : Prop := ∀ i j, i < 68 → j < 68 → ga g i = ga g j → i = j
def Aw (g : Gl) : Nat → Prop := fun q => ∃ k, k < 68 ∧ q = ga g k
theorem wsO_D {g : Gl} {σ : Sg} {A : Nat → Prop} (hG : Gok g) (hA : ∀ k, k < 68 → A (ga g k)) : va_D A (wsO g σ) := by
  refine ⟨fun i j p q hi hj hpq => ?_, fun k q hk => ?_⟩
  · obtain ⟨a, ha, rfl⟩ := wsO_fwd hi
    obtain ⟨b, hb, rfl⟩ := wsO_fwd hj
    exact hG i j (lay_lt ha) (lay_lt hb) hpq
  · obtain ⟨a, ha, rfl⟩ := wsO_fwd hk
    exact hA k (lay_lt ha)
def waysL : List Int := [1, 0, 0, 0, 0, 0, 0, 0, 1, 1, 0, 0, 0, 0, 0, 0, 1, 2, 1, 0, 0, 0, 0, 0, 1, 3, 3, 1, 0, 0, 0, 0, 1, 4, 6, 4, 1, 0, 0, 0, 1, 5, 10, 10, 5, 1, 0, 0, 1, 6, 15, 20, 15, 6, 1, 0, 1, 7, 21, 35, 35, 21, 7, 1]
def nstL : List (String × Nat × MethodName × String) := [("ControlSigns", 11, (⟨"ControlSigns$Text", "<init>", "()V"⟩ : MethodName), "ControlSigns"), ("ControlSigns", 18, (⟨"ControlSigns$Told", "<init>", "()V"⟩ : MethodName), "ControlSigns"), ("ControlSigns", 34, (⟨"ControlSigns$Changes", "<init>", "()V"⟩ : MethodName), "ControlSigns"), ("ControlSigns", 45, (⟨"ControlSigns$Sights", "<init>", "()V"⟩ : MethodName), "ControlSigns"), ("ControlSigns", 52, (⟨"ControlSigns$TextReader", "<init>", "()V"⟩ : MethodName), "ControlSigns"), ("ControlSigns$TextReader", 11, (⟨"ControlSigns$Told", "<init>", "()V"⟩ : MethodName), "ControlSigns"), ("ControlSigns", 59, (⟨"ControlSigns$Row", "<init>", "()V"⟩ : MethodName), "ControlSigns"), ("ControlSigns", 66, (⟨"ControlSigns$Roots", "<init>", "()V"⟩ : MethodName), "ControlSigns"), ("ControlSigns", 73, (⟨"ControlSigns$Paper", "<init>", "()V"⟩ : MethodName), "ControlSigns"), ("ControlSigns", 80, (⟨"ControlSigns$Bounds", "<init>", "()V"⟩ : MethodName), "ControlSigns"), ("ControlSigns", 87, (⟨"ControlSigns$Shares", "<init>", "()V"⟩ : MethodName), "ControlSigns"), ("ControlSigns$TextReader", 91, (⟨"ControlSigns", "isCoefficient", "(I)Z"⟩ : MethodName), "ControlSigns"), ("ControlSigns$TextReader", 97, (⟨"ControlSigns", "isPlace", "(I)Z"⟩ : MethodName), "ControlSigns"), ("ControlSigns$Taken", 34, (⟨"ControlSigns", "partsOf", "(I)I"⟩ : MethodName), "ControlSigns"), ("ControlSigns$Row", 96, (⟨"ControlSigns", "signOf", "(J)I"⟩ : MethodName), "ControlSigns"), ("ControlSigns$Roots", 40, (⟨"ControlSigns", "behind", "(I)I"⟩ : MethodName), "ControlSigns"), ("ControlSigns$Paper", 30, (⟨"ControlSigns", "behind", "(I)I"⟩ : MethodName), "ControlSigns"), ("ControlSigns$Paper", 70, (⟨"ControlSigns", "isWithin", "(III)Z"⟩ : MethodName), "ControlSigns"), ("ControlSigns$Shares", 25, (⟨"ControlSigns", "partsOf", "(I)I"⟩ : MethodName), "ControlSigns"), ("ControlSigns$Shares", 33, (⟨"ControlSigns", "behind", "(I)I"⟩ : MethodName), "ControlSigns"), ("ControlSigns$Sights", 28, (⟨"ControlSigns", "signOf", "(J)I"⟩ : MethodName), "ControlSigns")]
def Nst (U : State) : Prop := (∀ q ∈ nstL, va_Nw (.methodLinkNest q.1 q.2.1 q.2.2.1 q.2.2.2) U) ∧ va_Nw (.fieldLinkNest "ControlSigns$Row" 80 "ControlSigns" "WAYS" "[I" "ControlSigns") U
theorem Nst.warm {s U : State} (hW : s.WarmedH U.vm) (h : Nst s) : Nst U := ⟨fun q hq => va_Nw.warmM hW (h.1 q hq), va_Nw.warmF hW h.2⟩
/-- what stands outside the world: the table WAYS, the script, the nest's words -/
def Ent (g : Gl) (A : Nat → Prop) (U : State) : Prop := va_Z "ControlSigns" "WAYS" "[I" (.ref g.2.2.2.2.2) A U U.heap ∧ va_T .int g.2.2.2.2.2 64 (fun j => .int (kI (waysL.getD j 0))) A U U.heap ∧ va_X g.2.2.2.2.1.1 g.2.2.2.2.1.2.1 g.2.2.2.2.1.2.2 U U.heap ∧ g.2.2.2.2.1.1 < U.heap.size ∧ ¬ A g.2.2.2.2.1.1 ∧ Nst U
theorem Ent.calls {g : Gl} {A : Nat → Prop} {s U : State} {H : Heap} {locs : List Loc} (h : Ent g A s) (hS : va_S A s.heap H locs) (hA : ∀ q, Aw g q → A q) (hU : U.heap = H) (hW : s.WarmedH U.vm) : Ent g (Aw g) U := by
  obtain ⟨h1, h2, h3, h4, h5, h6⟩ := h
  have k1 : ∀ a : Nat, a < s.heap.size → ¬ A a → U.heap[a]? = s.heap[a]? := fun a x y => by rw [hU]; exact hS.2.1 a x y
  refine ⟨?_, ?_, ?_, ?_, fun z => h5 (hA _ z), h6.warm hW⟩
  · have := h1.moved hW.alike
    obtain ⟨cf, kf, fi, f, a, cell, q1, q2, q3, q4, q5, q6, q7, q8⟩ := this
    exact ⟨cf, kf, fi, f, a, cell, q1, q2, q3, q4, by rw [k1 a (Array.getElem?_eq_some_iff.mp q5).1 q8]; exact q5, q6, q7, fun z => q8 (hA _ z)⟩
  · exact ((h2.kept k1).narrow hA).moved hW.alike
  · exact (h3.kept (k1 _ h4 h5)).moved hW.alike
  · rw [hU]; exact Nat.lt_of_lt_of_le h4 hS.1
def Wo (g : Gl) (σ : Sg) (U : State) : Prop := va_P g.2.1 vwCl (wsO g σ) U.heap ∧ va_K g.2.1 vwCl (tysO g) U ∧ Gok g ∧ Ent g (Aw g) U
def Qm (g : Gl) (Post : Option Value → Sg → Prop) : Array Value → State → Outcome → State → Prop := fun _ st o t => (∃ (r : Option Value) (σ' : Sg), o = .returned r ∧ Post r σ' ∧ va_P g.2.1 vwCl (wsO g σ') t.heap) ∧ va_F (Aw g) st t
/-- a method's contract: from the world σ with the arguments av it returns, and Post holds of its answer and the new world -/
def Ct (g : Gl) (y : Mt) (av : List Value) (σ : Sg) (Post : Option Value → Sg → Prop) : Prop := Met g.1 y.1 (.code y.1 y.2.1 y.2.2.1 y.2.2.2.1 :: tblG) y.2.2.2.2 (va_Pc av (Wo g σ)) (Qm g Post) 0 0 (Aw g)
abbrev Ex : Type := (State → Nat → Prop) × Nat × Nat × (List Frame → Array Value → State → State → Prop)
def Cx (g : Gl) (y : Mt) (A : Nat → Prop) (cl sl : Nat) (p : Program) (s : State) (m : MethodId) (args : Array Value) (meth : Method) (c : Code) : Prop :=
  p.tables.exec = Jvm.exec ∧ c.code = y.2.1 ∧ c.maxLocals = y.2.2.1 ∧ meth.sig.returnType = y.2.2.2.1 ∧ s.vm.findClass y.1.cls = some m.cls ∧ (∀ w ∈ tblG, w.before args s = true) ∧ meth.locks = false ∧ va_K g.2.1 vwCl (tysO g) s ∧ Gok g ∧ Ent g A s ∧ (∀ k, k < 68 → A (ga g k)) ∧ cl ≤ y.2.2.2.2.cells ∧ sl ≤ y.2.2.2.2.slots
/-- the machine, at pc of the method y with the world σ, the named values of locals lv, the operands st, comes to the exit F -/
def jv (g : Gl) (y : Mt) (F : Ex) (σ : Sg) (lv : List (Nat × Value)) (pc : Nat) (st : List Value) : Prop :=
  ∀ (p : Program) (e : Env) (s : State) (m : MethodId) (args : Array Value) (below : List Frame) (meth : Method) (c : Code) (H : Heap) (locs : List Loc) (ls : Array Slot),
    Cx g y (F.1 s) F.2.1 F.2.2.1 p s m args meth c → va_P g.2.1 vwCl (wsO g σ) H → va_S (F.1 s) s.heap H locs → lv_has ls y.2.2.1 lv →
    W p g.1 e y.2.2.2.2 s m args below meth c H locs F.2.1 F.2.2.1 (F.2.2.2 below args s) (F0 m pc ls st)
def Fm (g : Gl) (Post : Option Value → Sg → Prop) : Ex := (fun _ => Aw g, 0, 0, fun below args s => MQ below (Qm g Post) args s 0 0 (Aw g))
def Dc (y : Mt) (pc : Nat) (i : Instr) (len nx : Nat) : Prop := decode y.2.1 pc = .ok (i, len) ∧ pc + len = nx
def Dj (y : Mt) (pc : Nat) (i : Int → Instr) (nx tgt : Nat) : Prop := ∃ off : Int, decode y.2.1 pc = .ok (i off, 3) ∧ pc + 3 = nx ∧ (pc : Int) + off = (tgt : Int)
def lst1 (i : Nat) (v : Value) (lv : List (Nat × Value)) : List (Nat × Value) := (i, v) :: lv.filter (fun q => !(q.1 == i) && !(q.1 + 1 == i && q.2.category == 2))
def lst2 (i : Nat) (v : Value) (lv : List (Nat × Value)) : List (Nat × Value) := (i, v) :: lv.filter (fun q => !(q.1 == i) && (!(q.1 == i + 1) && !(q.1 + 1 == i && q.2.category == 2)))
theorem lk_at {ls : Array Slot} {nL i : Nat} {lv : List (Nat × Value)} {v : Value} (h : lv_has ls nL lv) (hl : lv.lookup i = some v) : ls[i]? = some (.val v) := by
  refine h.2.2 (i, v) ?_
  clear h
  induction lv with
  | nil => cases hl
  | cons q r ih =>
    obtain ⟨a, b⟩ := q
    rw [List.lookup_cons] at hl
    by_cases hi : (i == a) = true
    · rw [hi] at hl
      have hia : i = a := by simpa using hi
      cases hl
      rw [hia]
      exact List.mem_cons_self
    · have hi' : (i == a) = false := by simpa using hi
      rw [hi'] at hl
      exact List.mem_cons_of_mem _ (ih hl)
def lvS (lv : List (Nat × Value)) : List (Nat × Value) → Prop
  | [] => True
  | q :: r => lv.lookup q.1 = some q.2 ∧ lvS lv r
theorem lvS_has {ls : Array Slot} {nL : Nat} {lv lv' : List (Nat × Value)} (h : lv_has ls nL lv) (hs : lvS lv lv') : lv_has ls nL lv' := by
  refine ⟨h.1, h.2.1, ?_⟩
  induction lv' with
  | nil => intro q hq; cases hq
  | cons a r ih =>
    intro q hq
    rcases List.mem_cons.mp hq with rfl | hq
    · exact lk_at h hs.1
    · exact ih hs.2 q hq
theorem jv_lv {g : Gl} {y : Mt} {F : Ex} {σ : Sg} {lv lv' : List (Nat × Value)} {pc : Nat} {st : List Value} (hs : lvS lv lv') (k : jv g y F σ lv' pc st) : jv g y F σ lv pc st :=
  fun p e s m args below meth c H locs ls C hP hS hl => k p e s m args below meth c H locs ls C hP hS (lvS_has hl hs)
theorem Ct.of {g : Gl} {y : Mt} {av : List Value} {σ : Sg} {Post : Option Value → Sg → Prop} (hp : plainName y.1.cls = true) (hn : (lg_sl av).length ≤ y.2.2.1) (h : jv g y (Fm g Post) σ (lv_args 0 av) 0 []) : Ct g y av σ Post := by
  refine Met.ofW (cc := y.2.1) (maxL := y.2.2.1) (ret := y.2.2.2.1) hp rfl ?_
  intro p e s m args below meth c s₁ B hml hv
  obtain ⟨rfl, hP, hK, hG, hE⟩ := hv
  have hts := atoms_spec (ws := .code y.1 y.2.1 y.2.2.1 y.2.2.2.1 :: tblG) B.pre
  have hl := lv_entry av (n := y.2.2.1) hn
  rw [lg_entry_eq]
  exact h p e s m _ below meth c s.heap [] _ ⟨B.exec, B.bytes, hml, B.returns, findClass_of_methodNamed B.named, fun w hw => hts w (List.mem_cons_of_mem _ hw), B.notSynchronized, hK, hG, hE, fun k hk => ⟨k, hk, rfl⟩, Nat.zero_le _, Nat.zero_le _⟩ hP va_S.rf hl
end
section
theorem j_iconst {g : Gl} {y : Mt} {F : Ex} {σ : Sg} {lv : List (Nat × Value)} {pc nx : Nat} {st : List Value} (a : Int) (hd : Dc y pc (.iconst a) 1 nx) (k : jv g y F σ lv nx (vi a :: st)) : jv g y F σ lv pc st := by
  obtain ⟨hd, rfl⟩ := hd
  intro p e s m args below meth c H locs ls C hP hS hl
  exact lv_iconst C.1 C.2.1 hd rfl (k p e s m args below meth c H locs _ C hP hS hl)
theorem j_bipush {g : Gl} {y : Mt} {F : Ex} {σ : Sg} {lv : List (Nat × Value)} {pc nx : Nat} {st : List Value} (a : Int) (hd : Dc y pc (.bipush a) 2 nx) (h : (Int8.ofInt a).toInt32 = kI a) (k : jv g y F σ lv nx (vi a :: st)) : jv g y F σ lv pc st := by
  obtain ⟨hd, rfl⟩ := hd
  intro p e s m args below meth c H locs ls C hP hS hl
  exact lv_bipush C.1 C.2.1 hd h (k p e s m args below meth c H locs _ C hP hS hl)
theorem j_sipush {g : Gl} {y : Mt} {F : Ex} {σ : Sg} {lv : List (Nat × Value)} {pc nx : Nat} {st : List Value} (a : Int) (hd : Dc y pc (.sipush a) 3 nx) (h : (Int16.ofInt a).toInt32 = kI a) (k : jv g y F σ lv nx (vi a :: st)) : jv g y F σ lv pc st := by
  obtain ⟨hd, rfl⟩ := hd
  intro p e s m args below meth c H locs ls C hP hS hl
  exact lv_sipush C.1 C.2.1 hd h (k p e s m args below meth c H locs _ C hP hS hl)
theorem j_lconst0 {g : Gl} {y : Mt} {F : Ex} {σ : Sg} {lv : List (Nat × Value)} {pc nx : Nat} {st : List Value} (hd : Dc y pc (.lconst 0) 1 nx) (k : jv g y F σ lv nx (vl 0 :: st)) : jv g y F σ lv pc st := by
  obtain ⟨hd, rfl⟩ := hd
  intro p e s m args below meth c H locs ls C hP hS hl
  exact lv_lconst C.1 C.2.1 hd rfl (k p e s m args below meth c H locs _ C hP hS hl)
theorem j_lconst1 {g : Gl} {y : Mt} {F : Ex} {σ : Sg} {lv : List (Nat × Value)} {pc nx : Nat} {st : List Value} (hd : Dc y pc (.lconst 1) 1 nx) (k : jv g y F σ lv nx (vl 1 :: st)) : jv g y F σ lv pc st := by
  obtain ⟨hd, rfl⟩ := hd
  intro p e s m args below meth c H locs ls C hP hS hl
  exact lv_lconst C.1 C.2.1 hd rfl (k p e s m args below meth c H locs _ C hP hS hl)
theorem j_ldc2 {g : Gl} {y : Mt} {F : Ex} {σ : Sg} {lv : List (Nat × Value)} {pc nx : Nat} {st : List Value} {ix : Nat} (a : Int) (hw : Cond.constantLong y.1.cls ix (kL a) ∈ tblG) (hd : Dc y pc (.ldc2_w ix) 3 nx) (k : jv g y F σ lv nx (vl a :: st)) : jv g y F σ lv pc st := by
  obtain ⟨hd, rfl⟩ := hd
  intro p e s m args below meth c H locs ls C hP hS hl
  exact lv_ldc2 C.1 C.2.1 C.2.2.2.2.1 (C.2.2.2.2.2.1 _ hw) hd (k p e s m args below meth c H locs _ C hP hS hl)
theorem j_iload_n {g : Gl} {y : Mt} {F : Ex} {σ : Sg} {lv : List (Nat × Value)} {pc nx : Nat} {st : List Value} {n : Fin 4} {x : Int} (hd : Dc y pc (.iload_n n) 1 nx) (hv : lv.lookup n.1 = some (vi x)) (k : jv g y F σ lv nx (vi x :: st)) : jv g y F σ lv pc st := by
  obtain ⟨hd, rfl⟩ := hd
  intro p e s m args below meth c H locs ls C hP hS hl
  exact lv_iload_n C.1 C.2.1 hd rfl (lk_at hl hv) (k p e s m args below meth c H locs _ C hP hS hl)
theorem j_iload {g : Gl} {y : Mt} {F : Ex} {σ : Sg} {lv : List (Nat × Value)} {pc nx : Nat} {st : List Value} {n : Nat} {x : Int} (hd : Dc y pc (.iload n) 2 nx) (hv : lv.lookup n = some (vi x)) (k : jv g y F σ lv nx (vi x :: st)) : jv g y F σ lv pc st := by
  obtain ⟨hd, rfl⟩ := hd
  intro p e s m args below meth c H locs ls C hP hS hl
  exact lv_iload C.1 C.2.1 hd (lk_at hl hv) (k p e s m args below meth c H locs _ C hP hS hl)
theorem j_istore_n {g : Gl} {y : Mt} {F : Ex} {σ : Sg} {lv : List (Nat × Value)} {pc nx : Nat} {st : List Value} {n : Fin 4} {x : Int} (hd : Dc y pc (.istore_n n) 1 nx) (hn : n.1 < y.2.2.1) (k : jv g y F σ (lst1 n.1 (vi x) lv) nx st) : jv g y F σ lv pc (vi x :: st) := by
  obtain ⟨hd, rfl⟩ := hd
  intro p e s m args below meth c H locs ls C hP hS hl
  exact lv_istore_n C.1 C.2.1 hd rfl hl hn rfl (fun ls hl => k p e s m args below meth c H locs _ C hP hS hl)
theorem j_istore {g : Gl} {y : Mt} {F : Ex} {σ : Sg} {lv : List (Nat × Value)} {pc nx : Nat} {st : List Value} {n : Nat} {x : Int} (hd : Dc y pc (.istore n) 2 nx) (hn : n < y.2.2.1) (k : jv g y F σ (lst1 n (vi x) lv) nx st) : jv g y F σ lv pc (vi x :: st) := by
  obtain ⟨hd, rfl⟩ := hd
  intro p e s m args below meth c H locs ls C hP hS hl
  exact lv_istore C.1 C.2.1 hd hl hn rfl (fun ls hl => k p e s m args below meth c H locs _ C hP hS hl)
theorem j_lload_n {g : Gl} {y : Mt} {F : Ex} {σ : Sg} {lv : List (Nat × Value)} {pc nx : Nat} {st : List Value} {n : Fin 4} {x : Int} (hd : Dc y pc (.lload_n n) 1 nx) (hv : lv.lookup n.1 = some (vl x)) (k : jv g y F σ lv nx (vl x :: st)) : jv g y F σ lv pc st := by
  obtain ⟨hd, rfl⟩ := hd
  intro p e s m args below meth c H locs ls C hP hS hl
  exact lv_lload_n C.1 C.2.1 hd rfl (lk_at hl hv) (k p e s m args below meth c H locs _ C hP hS hl)
theorem j_lload {g : Gl} {y : Mt} {F : Ex} {σ : Sg} {lv : List (Nat × Value)} {pc nx : Nat} {st : List Value} {n : Nat} {x : Int} (hd : Dc y pc (.lload n) 2 nx) (hv : lv.lookup n = some (vl x)) (k : jv g y F σ lv nx (vl x :: st)) : jv g y F σ lv pc st := by
  obtain ⟨hd, rfl⟩ := hd
  intro p e s m args below meth c H locs ls C hP hS hl
  exact lv_lload C.1 C.2.1 hd (lk_at hl hv) (k p e s m args below meth c H locs _ C hP hS hl)
theorem j_lstore_n {g : Gl} {y : Mt} {F : Ex} {σ : Sg} {lv : List (Nat × Value)} {pc nx : Nat} {st : List Value} {n : Fin 4} {x : Int} (hd : Dc y pc (.lstore_n n) 1 nx) (hn : n.1 + 1 < y.2.2.1) (k : jv g y F σ (lst2 n.1 (vl x) lv) nx st) : jv g y F σ lv pc (vl x :: st) := by
  obtain ⟨hd, rfl⟩ := hd
  intro p e s m args below meth c H locs ls C hP hS hl
  exact lv_lstore_n C.1 C.2.1 hd rfl hl hn rfl (fun ls hl => k p e s m args below meth c H locs _ C hP hS hl)
theorem j_lstore {g : Gl} {y : Mt} {F : Ex} {σ : Sg} {lv : List (Nat × Value)} {pc nx : Nat} {st : List Value} {n : Nat} {x : Int} (hd : Dc y pc (.lstore n) 2 nx) (hn : n + 1 < y.2.2.1) (k : jv g y F σ (lst2 n (vl x) lv) nx st) : jv g y F σ lv pc (vl x :: st) := by
  obtain ⟨hd, rfl⟩ := hd
  intro p e s m args below meth c H locs ls C hP hS hl
  exact lv_lstore C.1 C.2.1 hd hl hn rfl (fun ls hl => k p e s m args below meth c H locs _ C hP hS hl)
theorem j_aload_n {g : Gl} {y : Mt} {F : Ex} {σ : Sg} {lv : List (Nat × Value)} {pc nx : Nat} {st : List Value} {n : Fin 4} {x : Nat} (hd : Dc y pc (.aload_n n) 1 nx) (hv : lv.lookup n.1 = some (Value.ref x)) (k : jv g y F σ lv nx (Value.ref x :: st)) : jv g y F σ lv pc st := by
  obtain ⟨hd, rfl⟩ := hd
  intro p e s m args below meth c H locs ls C hP hS hl
  exact lv_aload_n C.1 C.2.1 hd rfl (lk_at hl hv) (k p e s m args below meth c H locs _ C hP hS hl)
theorem j_aload {g : Gl} {y : Mt} {F : Ex} {σ : Sg} {lv : List (Nat × Value)} {pc nx : Nat} {st : List Value} {n : Nat} {x : Nat} (hd : Dc y pc (.aload n) 2 nx) (hv : lv.lookup n = some (Value.ref x)) (k : jv g y F σ lv nx (Value.ref x :: st)) : jv g y F σ lv pc st := by
  obtain ⟨hd, rfl⟩ := hd
  intro p e s m args below meth c H locs ls C hP hS hl
  exact lv_aload C.1 C.2.1 hd (lk_at hl hv) (k p e s m args below meth c H locs _ C hP hS hl)
theorem j_astore_n {g : Gl} {y : Mt} {F : Ex} {σ : Sg} {lv : List (Nat × Value)} {pc nx : Nat} {st : List Value} {n : Fin 4} {x : Nat} (hd : Dc y pc (.astore_n n) 1 nx) (hn : n.1 < y.2.2.1) (k : jv g y F σ (lst1 n.1 (Value.ref x) lv) nx st) : jv g y F σ lv pc (Value.ref x :: st) := by
  obtain ⟨hd, rfl⟩ := hd
  intro p e s m args below meth c H locs ls C hP hS hl
  exact lv_astore_n C.1 C.2.1 hd rfl hl hn rfl (fun ls hl => k p e s m args below meth c H locs _ C hP hS hl)
theorem j_astore {g : Gl} {y : Mt} {F : Ex} {σ : Sg} {lv : List (Nat × Value)} {pc nx : Nat} {st : List Value} {n : Nat} {x : Nat} (hd : Dc y pc (.astore n) 2 nx) (hn : n < y.2.2.1) (k : jv g y F σ (lst1 n (Value.ref x) lv) nx st) : jv g y F σ lv pc (Value.ref x :: st) := by
  obtain ⟨hd, rfl⟩ := hd
  intro p e s m args below meth c H locs ls C hP hS hl
  exact lv_astore C.1 C.2.1 hd hl hn rfl (fun ls hl => k p e s m args below meth c H locs _ C hP hS hl)
theorem lk_ix {lv : List (Nat × Value)} {i : Nat} {v : Value} (h : lv.lookup i = some v) : ∃ k : Nat, lv[k]? = some (i, v) := by
  induction lv with
  | nil => cases h
  | cons q r ih =>
    obtain ⟨a, b⟩ := q
    rw [List.lookup_cons] at h
    by_cases hi : (i == a) = true
    · rw [hi] at h
      have hia : i = a := by simpa using hi
      cases h
      exact ⟨0, by rw [hia]; rfl⟩
    · have hi' : (i == a) = false := by simpa using hi
      rw [hi'] at h
      obtain ⟨k, hk⟩ := ih h
      exact ⟨k + 1, hk⟩
theorem j_iinc {g : Gl} {y : Mt} {F : Ex} {σ : Sg} {lv : List (Nat × Value)} {pc nx : Nat} {st : List Value} {n : Nat} {x a : Int} (hd : Dc y pc (.iinc n a) 3 nx) (hv : lv.lookup n = some (vi x)) (hn : n < y.2.2.1) (k : jv g y F σ (lst1 n (vi (x + a)) lv) nx st) : jv g y F σ lv pc st := by
  obtain ⟨hd, rfl⟩ := hd
  intro p e s m args below meth c H locs ls C hP hS hl
  obtain ⟨i, hi⟩ := lk_ix hv
  exact lv_iinc C.1 C.2.1 hd hl hi (Int32.ofInt_add x a).symm hn rfl (fun ls hl => k p e s m args below meth c H locs _ C hP hS hl)
theorem j_iadd {g : Gl} {y : Mt} {F : Ex} {σ : Sg} {lv : List (Nat × Value)} {pc nx : Nat} {st : List Value} {a b : Int} (hd : Dc y pc (.iadd) 1 nx) (k : jv g y F σ lv nx (vi (a + b) :: st)) : jv g y F σ lv pc (vi b :: vi a :: st) := by
  obtain ⟨hd, rfl⟩ := hd
  intro p e s m args below meth c H locs ls C hP hS hl
  refine lv_iadd C.1 C.2.1 hd ?_
  rw [show kI a + kI b = kI (a + b) from (Int32.ofInt_add a b).symm]
  exact k p e s m args below meth c H locs _ C hP hS hl
theorem j_isub {g : Gl} {y : Mt} {F : Ex} {σ : Sg} {lv : List (Nat × Value)} {pc nx : Nat} {st : List Value} {a b : Int} (hd : Dc y pc (.isub) 1 nx) (k : jv g y F σ lv nx (vi (a - b) :: st)) : jv g y F σ lv pc (vi b :: vi a :: st) := by
  obtain ⟨hd, rfl⟩ := hd
  intro p e s m args below meth c H locs ls C hP hS hl
  refine lv_isub C.1 C.2.1 hd ?_
  rw [show kI a - kI b = kI (a - b) from (Int32.ofInt_sub a b).symm]
  exact k p e s m args below meth c H locs _ C hP hS hl
theorem j_imul {g : Gl} {y : Mt} {F : Ex} {σ : Sg} {lv : List (Nat × Value)} {pc nx : Nat} {st : List Value} {a b : Int} (hd : Dc y pc (.imul) 1 nx) (k : jv g y F σ lv nx (vi (a * b) :: st)) : jv g y F σ lv pc (vi b :: vi a :: st) := by
  obtain ⟨hd, rfl⟩ := hd
  intro p e s m args below meth c H locs ls C hP hS hl
  refine lv_imul C.1 C.2.1 hd ?_
  rw [show kI a * kI b = kI (a * b) from (Int32.ofInt_mul a b).symm]
  exact k p e s m args below meth c H locs _ C hP hS hl
theorem j_ladd {g : Gl} {y : Mt} {F : Ex} {σ : Sg} {lv : List (Nat × Value)} {pc nx : Nat} {st : List Value} {a b : Int} (hd : Dc y pc (.ladd) 1 nx) (k : jv g y F σ lv nx (vl (a + b) :: st)) : jv g y F σ lv pc (vl b :: vl a :: st) := by
  obtain ⟨hd, rfl⟩ := hd
  intro p e s m args below meth c H locs ls C hP hS hl
  refine lv_ladd C.1 C.2.1 hd ?_
  rw [show kL a + kL b = kL (a + b) from (Int64.ofInt_add a b).symm]
  exact k p e s m args below meth c H locs _ C hP hS hl
theorem j_lsub {g : Gl} {y : Mt} {F : Ex} {σ : Sg} {lv : List (Nat × Value)} {pc nx : Nat} {st : List Value} {a b : Int} (hd : Dc y pc (.lsub) 1 nx) (k : jv g y F σ lv nx (vl (a - b) :: st)) : jv g y F σ lv pc (vl b :: vl a :: st) := by
  obtain ⟨hd, rfl⟩ := hd
  intro p e s m args below meth c H locs ls C hP hS hl
  refine lv_lsub C.1 C.2.1 hd ?_
  rw [show kL a - kL b = kL (a - b) from (Int64.ofInt_sub a b).symm]
  exact k p e s m args below meth c H locs _ C hP hS hl
theorem j_lmul {g : Gl} {y : Mt} {F : Ex} {σ : Sg} {lv : List (Nat × Value)} {pc nx : Nat} {st : List Value} {a b : Int} (hd : Dc y pc (.lmul) 1 nx) (k : jv g y F σ lv nx (vl (a * b) :: st)) : jv g y F σ lv pc (vl b :: vl a :: st) := by
  obtain ⟨hd, rfl⟩ := hd
  intro p e s m args below meth c H locs ls C hP hS hl
  refine lv_lmul C.1 C.2.1 hd ?_
  rw [show kL a * kL b = kL (a * b) from (Int64.ofInt_mul a b).symm]
  exact k p e s m args below meth c H locs _ C hP hS hl
theorem j_ineg {g : Gl} {y : Mt} {F : Ex} {σ : Sg} {lv : List (Nat × Value)} {pc nx : Nat} {st : List Value} {a : Int} (hd : Dc y pc (.ineg) 1 nx) (k : jv g y F σ lv nx (vi (-a) :: st)) : jv g y F σ lv pc (vi a :: st) := by
  obtain ⟨hd, rfl⟩ := hd
  intro p e s m args below meth c H locs ls C hP hS hl
  refine lv_ineg C.1 C.2.1 hd ?_
  rw [show - kI a = kI (-a) from (Int32.ofInt_neg a).symm]
  exact k p e s m args below meth c H locs _ C hP hS hl
theorem j_lneg {g : Gl} {y : Mt} {F : Ex} {σ : Sg} {lv : List (Nat × Value)} {pc nx : Nat} {st : List Value} {a : Int} (hd : Dc y pc (.lneg) 1 nx) (k : jv g y F σ lv nx (vl (-a) :: st)) : jv g y F σ lv pc (vl a :: st) := by
  obtain ⟨hd, rfl⟩ := hd
  intro p e s m args below meth c H locs ls C hP hS hl
  refine lv_lneg C.1 C.2.1 hd ?_
  rw [show - kL a = kL (-a) from (Int64.ofInt_neg a).symm]
  exact k p e s m args below meth c H locs _ C hP hS hl
theorem j_i2l {g : Gl} {y : Mt} {F : Ex} {σ : Sg} {lv : List (Nat × Value)} {pc nx : Nat} {st : List Value} {a : Int} (ha : -2147483648 ≤ a ∧ a ≤ 2147483647) (hd : Dc y pc (.i2l) 1 nx) (k : jv g y F σ lv nx (vl a :: st)) : jv g y F σ lv pc (vi a :: st) := by
  obtain ⟨hd, rfl⟩ := hd
  intro p e s m args below meth c H locs ls C hP hS hl
  exact lv_i2l C.1 C.2.1 hd (by show (kI a).toInt64 = kL a; rw [← Int64.ofInt_int32ToInt, kI_toInt ha.1 ha.2]; rfl) (k p e s m args below meth c H locs _ C hP hS hl)
theorem j_idiv {g : Gl} {y : Mt} {F : Ex} {σ : Sg} {lv : List (Nat × Value)} {pc nx : Nat} {st : List Value} {a b : Int} (h : -2147483648 ≤ a ∧ a ≤ 2147483647 ∧ -2147483648 ≤ b ∧ b ≤ 2147483647 ∧ b ≠ 0) (hd : Dc y pc (.idiv) 1 nx) (k : jv g y F σ lv nx (vi (Int.tdiv a b) :: st)) : jv g y F σ lv pc (vi b :: vi a :: st) := by
  obtain ⟨hd, rfl⟩ := hd
  intro p e s m args below meth c H locs ls C hP hS hl
  have hb : ¬ kI b = 0 := fun z => h.2.2.2.2 ((kI_eq (a := b) (b := 0) (by omega)).mp z)
  refine lv_idiv C.1 C.2.1 hd hb ?_
  rw [show kI a / kI b = kI (Int.tdiv a b) from (Int32.ofInt_tdiv (by show -2147483648 ≤ a; omega) (by show a ≤ 2147483647; omega) (by show -2147483648 ≤ b; omega) (by show b ≤ 2147483647; omega)).symm]
  exact k p e s m args below meth c H locs _ C hP hS hl
theorem j_irem {g : Gl} {y : Mt} {F : Ex} {σ : Sg} {lv : List (Nat × Value)} {pc nx : Nat} {st : List Value} {a b : Int} (h : -2147483648 ≤ a ∧ a ≤ 2147483647 ∧ -2147483648 ≤ b ∧ b ≤ 2147483647 ∧ b ≠ 0) (hd : Dc y pc (.irem) 1 nx) (k : jv g y F σ lv nx (vi (Int.tmod a b) :: st)) : jv g y F σ lv pc (vi b :: vi a :: st) := by
  obtain ⟨hd, rfl⟩ := hd
  intro p e s m args below meth c H locs ls C hP hS hl
  have hb : ¬ kI b = 0 := fun z => h.2.2.2.2 ((kI_eq (a := b) (b := 0) (by omega)).mp z)
  refine lv_irem C.1 C.2.1 hd hb ?_
  rw [show kI a / kI b = kI (Int.tdiv a b) from (Int32.ofInt_tdiv (by show -2147483648 ≤ a; omega) (by show a ≤ 2147483647; omega) (by show -2147483648 ≤ b; omega) (by show b ≤ 2147483647; omega)).symm, show kI (Int.tdiv a b) * kI b = kI (Int.tdiv a b * b) from (Int32.ofInt_mul _ _).symm, show kI a - kI (Int.tdiv a b * b) = kI (a - Int.tdiv a b * b) from (Int32.ofInt_sub _ _).symm, show a - Int.tdiv a b * b = Int.tmod a b from by rw [Int.tmod_def, Int.mul_comm]]
  exact k p e s m args below meth c H locs _ C hP hS hl
theorem j_ldiv {g : Gl} {y : Mt} {F : Ex} {σ : Sg} {lv : List (Nat × Value)} {pc nx : Nat} {st : List Value} {a b : Int} (h : -9223372036854775808 ≤ a ∧ a ≤ 9223372036854775807 ∧ -9223372036854775808 ≤ b ∧ b ≤ 9223372036854775807 ∧ b ≠ 0) (hd : Dc y pc (.ldiv) 1 nx) (k : jv g y F σ lv nx (vl (Int.tdiv a b) :: st)) : jv g y F σ lv pc (vl b :: vl a :: st) := by
  obtain ⟨hd, rfl⟩ := hd
  intro p e s m args below meth c H locs ls C hP hS hl
  have hb : ¬ kL b = 0 := fun z => h.2.2.2.2 ((kL_eq (a := b) (b := 0) (by omega)).mp z)
  refine lv_ldiv C.1 C.2.1 hd hb ?_
  rw [show kL a / kL b = kL (Int.tdiv a b) from (Int64.ofInt_tdiv (by show -9223372036854775808 ≤ a; omega) (by show a ≤ 9223372036854775807; omega) (by show -9223372036854775808 ≤ b; omega) (by show b ≤ 9223372036854775807; omega)).symm]
  exact k p e s m args below meth c H locs _ C hP hS hl
theorem j_lrem {g : Gl} {y : Mt} {F : Ex} {σ : Sg} {lv : List (Nat × Value)} {pc nx : Nat} {st : List Value} {a b : Int} (h : -9223372036854775808 ≤ a ∧ a ≤ 9223372036854775807 ∧ -9223372036854775808 ≤ b ∧ b ≤ 9223372036854775807 ∧ b ≠ 0) (hd : Dc y pc (.lrem) 1 nx) (k : jv g y F σ lv nx (vl (Int.tmod a b) :: st)) : jv g y F σ lv pc (vl b :: vl a :: st) := by
  obtain ⟨hd, rfl⟩ := hd
  intro p e s m args below meth c H locs ls C hP hS hl
  have hb : ¬ kL b = 0 := fun z => h.2.2.2.2 ((kL_eq (a := b) (b := 0) (by omega)).mp z)
  refine lv_lrem C.1 C.2.1 hd hb ?_
  rw [show kL a / kL b = kL (Int.tdiv a b) from (Int64.ofInt_tdiv (by show -9223372036854775808 ≤ a; omega) (by show a ≤ 9223372036854775807; omega) (by show -9223372036854775808 ≤ b; omega) (by show b ≤ 9223372036854775807; omega)).symm, show kL (Int.tdiv a b) * kL b = kL (Int.tdiv a b * b) from (Int64.ofInt_mul _ _).symm, show kL a - kL (Int.tdiv a b * b) = kL (a - Int.tdiv a b * b) from (Int64.ofInt_sub _ _).symm, show a - Int.tdiv a b * b = Int.tmod a b from by rw [Int.tmod_def, Int.mul_comm]]
  exact k p e s m args below meth c H locs _ C hP hS hl
theorem j_iand {g : Gl} {y : Mt} {F : Ex} {σ : Sg} {lv : List (Nat × Value)} {pc nx : Nat} {st : List Value} {a b v : Int} (h : kI a &&& kI b = kI v) (hd : Dc y pc (.iand) 1 nx) (k : jv g y F σ lv nx (vi v :: st)) : jv g y F σ lv pc (vi b :: vi a :: st) := by
  obtain ⟨hd, rfl⟩ := hd
  intro p e s m args below meth c H locs ls C hP hS hl
  refine lv_iand C.1 C.2.1 hd ?_
  rw [h]
  exact k p e s m args below meth c H locs _ C hP hS hl
theorem j_ior {g : Gl} {y : Mt} {F : Ex} {σ : Sg} {lv : List (Nat × Value)} {pc nx : Nat} {st : List Value} {a b v : Int} (h : kI a ||| kI b = kI v) (hd : Dc y pc (.ior) 1 nx) (k : jv g y F σ lv nx (vi v :: st)) : jv g y F σ lv pc (vi b :: vi a :: st) := by
  obtain ⟨hd, rfl⟩ := hd
  intro p e s m args below meth c H locs ls C hP hS hl
  refine lv_ior C.1 C.2.1 hd ?_
  rw [h]
  exact k p e s m args below meth c H locs _ C hP hS hl
theorem j_ishl {g : Gl} {y : Mt} {F : Ex} {σ : Sg} {lv : List (Nat × Value)} {pc nx : Nat} {st : List Value} {a b v : Int} (h : kI a <<< (kI b &&& 31) = kI v) (hd : Dc y pc (.ishl) 1 nx) (k : jv g y F σ lv nx (vi v :: st)) : jv g y F σ lv pc (vi b :: vi a :: st) := by
  obtain ⟨hd, rfl⟩ := hd
  intro p e s m args below meth c H locs ls C hP hS hl
  refine lv_ishl C.1 C.2.1 hd ?_
  rw [h]
  exact k p e s m args below meth c H locs _ C hP hS hl
theorem j_ishr {g : Gl} {y : Mt} {F : Ex} {σ : Sg} {lv : List (Nat × Value)} {pc nx : Nat} {st : List Value} {a b v : Int} (h : kI a >>> (kI b &&& 31) = kI v) (hd : Dc y pc (.ishr) 1 nx) (k : jv g y F σ lv nx (vi v :: st)) : jv g y F σ lv pc (vi b :: vi a :: st) := by
  obtain ⟨hd, rfl⟩ := hd
  intro p e s m args below meth c H locs ls C hP hS hl
  refine lv_ishr C.1 C.2.1 hd ?_
  rw [h]
  exact k p e s m args below meth c H locs _ C hP hS hl
theorem j_dup {g : Gl} {y : Mt} {F : Ex} {σ : Sg} {lv : List (Nat × Value)} {pc nx : Nat} {st : List Value} {v : Value} (hc : v.category = 1) (hd : Dc y pc (.dup) 1 nx) (k : jv g y F σ lv nx (v :: v :: st)) : jv g y F σ lv pc (v :: st) := by
  obtain ⟨hd, rfl⟩ := hd
  intro p e s m args below meth c H locs ls C hP hS hl
  exact lv_dup C.1 C.2.1 hd hc (k p e s m args below meth c H locs _ C hP hS hl)
theorem j_dup2 {g : Gl} {y : Mt} {F : Ex} {σ : Sg} {lv : List (Nat × Value)} {pc nx : Nat} {st : List Value} {v w : Value} (hc : v.category = 1) (hc2 : w.category = 1) (hd : Dc y pc (.dup2) 1 nx) (k : jv g y F σ lv nx (v :: w :: v :: w :: st)) : jv g y F σ lv pc (v :: w :: st) := by
  obtain ⟨hd, rfl⟩ := hd
  intro p e s m args below meth c H locs ls C hP hS hl
  exact lv_dup2_11 C.1 C.2.1 hd hc hc2 (k p e s m args below meth c H locs _ C hP hS hl)
theorem j_icmp_lt {g : Gl} {y : Mt} {F : Ex} {σ : Sg} {lv : List (Nat × Value)} {pc nx tgt : Nat} {st : List Value} {a b : Int} (hd : Dj y pc (.if_icmp .lt) nx tgt) (h : -2147483648 ≤ a ∧ a ≤ 2147483647 ∧ -2147483648 ≤ b ∧ b ≤ 2147483647) (kt : a < b → jv g y F σ lv tgt st) (kf : ¬ a < b → jv g y F σ lv nx st) : jv g y F σ lv pc (vi b :: vi a :: st) := by
  obtain ⟨off, hd, rfl, ht⟩ := hd
  intro p e s m args below meth c H locs ls C hP hS hl
  have hx := kI_lt h
  exact lv_icmp_lt C.1 C.2.1 hd ht (fun z => (fun h9 => kt h9 p e s m args below meth c H locs _ C hP hS hl) (hx.mp z)) (fun z => (fun h9 => kf h9 p e s m args below meth c H locs _ C hP hS hl) (fun q => z (hx.mpr q)))
theorem j_icmp_ge {g : Gl} {y : Mt} {F : Ex} {σ : Sg} {lv : List (Nat × Value)} {pc nx tgt : Nat} {st : List Value} {a b : Int} (hd : Dj y pc (.if_icmp .ge) nx tgt) (h : -2147483648 ≤ a ∧ a ≤ 2147483647 ∧ -2147483648 ≤ b ∧ b ≤ 2147483647) (kt : b ≤ a → jv g y F σ lv tgt st) (kf : ¬ b ≤ a → jv g y F σ lv nx st) : jv g y F σ lv pc (vi b :: vi a :: st) := by
  obtain ⟨off, hd, rfl, ht⟩ := hd
  intro p e s m args below meth c H locs ls C hP hS hl
  have hx := kI_le ⟨h.2.2.1, h.2.2.2, h.1, h.2.1⟩
  exact lv_icmp_ge C.1 C.2.1 hd ht (fun z => (fun h9 => kt h9 p e s m args below meth c H locs _ C hP hS hl) (hx.mp z)) (fun z => (fun h9 => kf h9 p e s m args below meth c H locs _ C hP hS hl) (fun q => z (hx.mpr q)))
theorem j_icmp_gt {g : Gl} {y : Mt} {F : Ex} {σ : Sg} {lv : List (Nat × Value)} {pc nx tgt : Nat} {st : List Value} {a b : Int} (hd : Dj y pc (.if_icmp .gt) nx tgt) (h : -2147483648 ≤ a ∧ a ≤ 2147483647 ∧ -2147483648 ≤ b ∧ b ≤ 2147483647) (kt : b < a → jv g y F σ lv tgt st) (kf : ¬ b < a → jv g y F σ lv nx st) : jv g y F σ lv pc (vi b :: vi a :: st) := by
  obtain ⟨off, hd, rfl, ht⟩ := hd
  intro p e s m args below meth c H locs ls C hP hS hl
  have hx := kI_lt ⟨h.2.2.1, h.2.2.2, h.1, h.2.1⟩
  exact lv_icmp_gt C.1 C.2.1 hd ht (fun z => (fun h9 => kt h9 p e s m args below meth c H locs _ C hP hS hl) (hx.mp z)) (fun z => (fun h9 => kf h9 p e s m args below meth c H locs _ C hP hS hl) (fun q => z (hx.mpr q)))
theorem j_icmp_le {g : Gl} {y : Mt} {F : Ex} {σ : Sg} {lv : List (Nat × Value)} {pc nx tgt : Nat} {st : List Value} {a b : Int} (hd : Dj y pc (.if_icmp .le) nx tgt) (h : -2147483648 ≤ a ∧ a ≤ 2147483647 ∧ -2147483648 ≤ b ∧ b ≤ 2147483647) (kt : a ≤ b → jv g y F σ lv tgt st) (kf : ¬ a ≤ b → jv g y F σ lv nx st) : jv g y F σ lv pc (vi b :: vi a :: st) := by
  obtain ⟨off, hd, rfl, ht⟩ := hd
  intro p e s m args below meth c H locs ls C hP hS hl
  have hx := kI_le h
  exact lv_icmp_le C.1 C.2.1 hd ht (fun z => (fun h9 => kt h9 p e s m args below meth c H locs _ C hP hS hl) (hx.mp z)) (fun z => (fun h9 => kf h9 p e s m args below meth c H locs _ C hP hS hl) (fun q => z (hx.mpr q)))
theorem j_icmp_eq {g : Gl} {y : Mt} {F : Ex} {σ : Sg} {lv : List (Nat × Value)} {pc nx tgt : Nat} {st : List Value} {a b : Int} (hd : Dj y pc (.if_icmp .eq) nx tgt) (h : -2147483648 ≤ a ∧ a ≤ 2147483647 ∧ -2147483648 ≤ b ∧ b ≤ 2147483647) (kt : a = b → jv g y F σ lv tgt st) (kf : ¬ a = b → jv g y F σ lv nx st) : jv g y F σ lv pc (vi b :: vi a :: st) := by
  obtain ⟨off, hd, rfl, ht⟩ := hd
  intro p e s m args below meth c H locs ls C hP hS hl
  have hx := kI_eq h
  exact lv_icmp_eq C.1 C.2.1 hd ht (fun z => (fun h9 => kt h9 p e s m args below meth c H locs _ C hP hS hl) (hx.mp z)) (fun z => (fun h9 => kf h9 p e s m args below meth c H locs _ C hP hS hl) (fun q => z (hx.mpr q)))
theorem j_icmp_ne {g : Gl} {y : Mt} {F : Ex} {σ : Sg} {lv : List (Nat × Value)} {pc nx tgt : Nat} {st : List Value} {a b : Int} (hd : Dj y pc (.if_icmp .ne) nx tgt) (h : -2147483648 ≤ a ∧ a ≤ 2147483647 ∧ -2147483648 ≤ b ∧ b ≤ 2147483647) (kt : ¬ a = b → jv g y F σ lv tgt st) (kf : a = b → jv g y F σ lv nx st) : jv g y F σ lv pc (vi b :: vi a :: st) := by
  obtain ⟨off, hd, rfl, ht⟩ := hd
  intro p e s m args below meth c H locs ls C hP hS hl
  refine lv_icmp_ne C.1 C.2.1 hd ht (fun z => ?_) (fun z => ?_)
  · have h9 : ¬ a = b := fun q => z ((kI_eq h).mpr q)
    exact kt h9 p e s m args below meth c H locs _ C hP hS hl
  · have h9 : a = b := (kI_eq h).mp z
    exact kf h9 p e s m args below meth c H locs _ C hP hS hl
theorem j_if_lt {g : Gl} {y : Mt} {F : Ex} {σ : Sg} {lv : List (Nat × Value)} {pc nx tgt : Nat} {st : List Value} {a : Int} (hd : Dj y pc (.ifCond .lt) nx tgt) (h : -2147483648 ≤ a ∧ a ≤ 2147483647) (kt : a < 0 → jv g y F σ lv tgt st) (kf : ¬ a < 0 → jv g y F σ lv nx st) : jv g y F σ lv pc (vi a :: st) := by
  obtain ⟨off, hd, rfl, ht⟩ := hd
  intro p e s m args below meth c H locs ls C hP hS hl
  have hx := kI_lt (a := a) (b := 0) (by omega)
  exact lv_if_lt C.1 C.2.1 hd ht (fun z => (fun h9 => kt h9 p e s m args below meth c H locs _ C hP hS hl) (hx.mp z)) (fun z => (fun h9 => kf h9 p e s m args below meth c H locs _ C hP hS hl) (fun q => z (hx.mpr q)))
theorem j_if_ge {g : Gl} {y : Mt} {F : Ex} {σ : Sg} {lv : List (Nat × Value)} {pc nx tgt : Nat} {st : List Value} {a : Int} (hd : Dj y pc (.ifCond .ge) nx tgt) (h : -2147483648 ≤ a ∧ a ≤ 2147483647) (kt : 0 ≤ a → jv g y F σ lv tgt st) (kf : ¬ 0 ≤ a → jv g y F σ lv nx st) : jv g y F σ lv pc (vi a :: st) := by
  obtain ⟨off, hd, rfl, ht⟩ := hd
  intro p e s m args below meth c H locs ls C hP hS hl
  have hx := kI_le (a := 0) (b := a) (by omega)
  exact lv_if_ge C.1 C.2.1 hd ht (fun z => (fun h9 => kt h9 p e s m args below meth c H locs _ C hP hS hl) (hx.mp z)) (fun z => (fun h9 => kf h9 p e s m args below meth c H locs _ C hP hS hl) (fun q => z (hx.mpr q)))
theorem j_if_gt {g : Gl} {y : Mt} {F : Ex} {σ : Sg} {lv : List (Nat × Value)} {pc nx tgt : Nat} {st : List Value} {a : Int} (hd : Dj y pc (.ifCond .gt) nx tgt) (h : -2147483648 ≤ a ∧ a ≤ 2147483647) (kt : 0 < a → jv g y F σ lv tgt st) (kf : ¬ 0 < a → jv g y F σ lv nx st) : jv g y F σ lv pc (vi a :: st) := by
  obtain ⟨off, hd, rfl, ht⟩ := hd
  intro p e s m args below meth c H locs ls C hP hS hl
  have hx := kI_lt (a := 0) (b := a) (by omega)
  exact lv_if_gt C.1 C.2.1 hd ht (fun z => (fun h9 => kt h9 p e s m args below meth c H locs _ C hP hS hl) (hx.mp z)) (fun z => (fun h9 => kf h9 p e s m args below meth c H locs _ C hP hS hl) (fun q => z (hx.mpr q)))
theorem j_if_le {g : Gl} {y : Mt} {F : Ex} {σ : Sg} {lv : List (Nat × Value)} {pc nx tgt : Nat} {st : List Value} {a : Int} (hd : Dj y pc (.ifCond .le) nx tgt) (h : -2147483648 ≤ a ∧ a ≤ 2147483647) (kt : a ≤ 0 → jv g y F σ lv tgt st) (kf : ¬ a ≤ 0 → jv g y F σ lv nx st) : jv g y F σ lv pc (vi a :: st) := by
  obtain ⟨off, hd, rfl, ht⟩ := hd
  intro p e s m args below meth c H locs ls C hP hS hl
  have hx := kI_le (a := a) (b := 0) (by omega)
  exact lv_if_le C.1 C.2.1 hd ht (fun z => (fun h9 => kt h9 p e s m args below meth c H locs _ C hP hS hl) (hx.mp z)) (fun z => (fun h9 => kf h9 p e s m args below meth c H locs _ C hP hS hl) (fun q => z (hx.mpr q)))
theorem j_if_eq {g : Gl} {y : Mt} {F : Ex} {σ : Sg} {lv : List (Nat × Value)} {pc nx tgt : Nat} {st : List Value} {a : Int} (hd : Dj y pc (.ifCond .eq) nx tgt) (h : -2147483648 ≤ a ∧ a ≤ 2147483647) (kt : a = 0 → jv g y F σ lv tgt st) (kf : ¬ a = 0 → jv g y F σ lv nx st) : jv g y F σ lv pc (vi a :: st) := by
  obtain ⟨off, hd, rfl, ht⟩ := hd
  intro p e s m args below meth c H locs ls C hP hS hl
  have hx := kI_eq (a := a) (b := 0) (by omega)
  exact lv_if_eq C.1 C.2.1 hd ht (fun z => (fun h9 => kt h9 p e s m args below meth c H locs _ C hP hS hl) (hx.mp z)) (fun z => (fun h9 => kf h9 p e s m args below meth c H locs _ C hP hS hl) (fun q => z (hx.mpr q)))
theorem j_if_ne {g : Gl} {y : Mt} {F : Ex} {σ : Sg} {lv : List (Nat × Value)} {pc nx tgt : Nat} {st : List Value} {a : Int} (hd : Dj y pc (.ifCond .ne) nx tgt) (h : -2147483648 ≤ a ∧ a ≤ 2147483647) (kt : ¬ a = 0 → jv g y F σ lv tgt st) (kf : a = 0 → jv g y F σ lv nx st) : jv g y F σ lv pc (vi a :: st) := by
  obtain ⟨off, hd, rfl, ht⟩ := hd
  intro p e s m args below meth c H locs ls C hP hS hl
  have hx := kI_eq (a := a) (b := 0) (by omega)
  refine lv_if_ne C.1 C.2.1 hd ht (fun z => ?_) (fun z => ?_)
  · have h9 : ¬ a = 0 := fun q => z (hx.mpr q)
    exact kt h9 p e s m args below meth c H locs _ C hP hS hl
  · have h9 : a = 0 := hx.mp z
    exact kf h9 p e s m args below meth c H locs _ C hP hS hl
theorem j_ifeq_0 {g : Gl} {y : Mt} {F : Ex} {σ : Sg} {lv : List (Nat × Value)} {pc nx tgt : Nat} {st : List Value} (hd : Dj y pc (.ifCond .eq) nx tgt) (k : jv g y F σ lv tgt st) : jv g y F σ lv pc (vi 0 :: st) := j_if_eq hd (by omega) (fun _ => k) (fun z => absurd rfl z)
theorem j_ifeq_1 {g : Gl} {y : Mt} {F : Ex} {σ : Sg} {lv : List (Nat × Value)} {pc nx tgt : Nat} {st : List Value} (hd : Dj y pc (.ifCond .eq) nx tgt) (k : jv g y F σ lv nx st) : jv g y F σ lv pc (vi 1 :: st) := j_if_eq hd (by omega) (fun z => absurd z (by decide)) (fun _ => k)
theorem j_ifne_0 {g : Gl} {y : Mt} {F : Ex} {σ : Sg} {lv : List (Nat × Value)} {pc nx tgt : Nat} {st : List Value} (hd : Dj y pc (.ifCond .ne) nx tgt) (k : jv g y F σ lv nx st) : jv g y F σ lv pc (vi 0 :: st) := j_if_ne hd (by omega) (fun z => absurd rfl z) (fun _ => k)
theorem j_ifne_1 {g : Gl} {y : Mt} {F : Ex} {σ : Sg} {lv : List (Nat × Value)} {pc nx tgt : Nat} {st : List Value} (hd : Dj y pc (.ifCond .ne) nx tgt) (k : jv g y F σ lv tgt st) : jv g y F σ lv pc (vi 1 :: st) := j_if_ne hd (by omega) (fun _ => k) (fun z => absurd z (by decide))
theorem j_goto {g : Gl} {y : Mt} {F : Ex} {σ : Sg} {lv : List (Nat × Value)} {pc nx tgt : Nat} {st : List Value} (hd : Dj y pc .goto nx tgt) (k : jv g y F σ lv tgt st) : jv g y F σ lv pc st := by
  obtain ⟨off, hd, rfl, ht⟩ := hd
  intro p e s m args below meth c H locs ls C hP hS hl
  exact lv_goto C.1 C.2.1 hd ht (k p e s m args below meth c H locs _ C hP hS hl)
def sg3 (a b : Int) : Int := if b < a then 1 else if a = b then 0 else -1
theorem kL_cmp {a b : Int} (h : -9223372036854775808 ≤ a ∧ a ≤ 9223372036854775807 ∧ -9223372036854775808 ≤ b ∧ b ≤ 9223372036854775807) : lg_cmp (kL a) (kL b) = kI (sg3 a b) := by
  have h1 := kL_lt h
  have h2 := kL_lt (a := b) (b := a) ⟨h.2.2.1, h.2.2.2, h.1, h.2.1⟩
  have h3 := kL_eq h
  unfold lg_cmp sg3
  by_cases q1 : b < a
  · have q2 : ¬ a < b := by omega
    have q3 : ¬ a = b := by omega
    simp [h1, h2, h3, q1, q2, q3, kI] <;> rfl
  · by_cases q2 : a = b
    · have q3 : ¬ a < b := by omega
      simp [h1, h2, h3, q1, q2, q3, kI] <;> rfl
    · have q3 : a < b := by omega
      simp [h1, h2, h3, q1, q2, q3, kI] <;> rfl
theorem j_lcmp {g : Gl} {y : Mt} {F : Ex} {σ : Sg} {lv : List (Nat × Value)} {pc nx : Nat} {st : List Value} {a b : Int} (h : -9223372036854775808 ≤ a ∧ a ≤ 9223372036854775807 ∧ -9223372036854775808 ≤ b ∧ b ≤ 9223372036854775807) (hd : Dc y pc (.lcmp) 1 nx) (k : jv g y F σ lv nx (vi (sg3 a b) :: st)) : jv g y F σ lv pc (vl b :: vl a :: st) := by
  obtain ⟨hd, rfl⟩ := hd
  intro p e s m args below meth c H locs ls C hP hS hl
  refine W.lcmp C.1 C.2.1 hd ?_
  rw [kL_cmp h]
  exact k p e s m args below meth c H locs _ C hP hS hl
end
section
theorem lay_small : (lay.all fun q => q.2.all fun n => decide (n ≤ 1000)) = true := by decide +kernel
theorem lay_n {k t n : Nat} {r : List Nat} (h : lay[k]? = some (t, n :: r)) : n ≤ 2147483647 := by
  have h1 := List.all_eq_true.mp lay_small _ (List.mem_of_getElem? h)
  have h2 := List.all_eq_true.mp h1 n List.mem_cons_self
  have h3 : n ≤ 1000 := by simpa using h2
  omega
/-- a field's link and its class's tables: to read it -/
def Gf (own : String) (ix ci j : Nat) (ji : Int) : Prop := ∃ (C : String) (T : u_T) (N : Nat), vwCl[ci]? = some (C, T, N) ∧ (∀ w ∈ u_ws C T N, w ∈ tblG) ∧ j < N ∧ Cond.fieldLink own ix (T j).1 (T j).2.1 (T j).2.2.1 ∈ tblG ∧ (j : Int) = ji
/-- and to write it -/
def Pf (own : String) (ix ci j : Nat) (ji : Int) (ty : FieldType) : Prop := ∃ (C : String) (T : u_T) (N : Nat) (ty0 : Nat → FieldType), vwCl[ci]? = some (C, T, N) ∧ (∀ w ∈ u_ws C T N, w ∈ tblG) ∧ j < N ∧ Cond.fieldLink own ix (T j).1 (T j).2.1 (T j).2.2.1 ∈ tblG ∧ (j : Int) = ji ∧ (∀ k, k < N → parseFieldDescriptor (T k).2.2.1 = some (ty0 k)) ∧ (∀ a, a < N → ∀ b, b < N → a ≠ b → (T a).2.1 ≠ (T b).2.1) ∧ (T j).2.2.2 = false ∧ ty0 j = ty
theorem fvs_at {g : Gl} {f : Int → Int} {cs : List Nat} {j c : Nat} (h : cs[j]? = some c) : (cs.mapIdx (fun j c => fv g f j c))[j]? = some (fv g f j c) := by
  simp [List.getElem?_mapIdx, h]
theorem fv_up {g : Gl} {f : Int → Int} {j i c : Nat} {v : Int} (h : i ≠ j) : fv g (up1 f j v) i c = fv g f i c := by
  have h2 : up1 f j v i = f i := up1_ne (by omega)
  match c with
  | 0 => show Value.int (kI (up1 f j v i)) = _; rw [h2]; rfl
  | 1 => show Value.long (kL (up1 f j v i)) = _; rw [h2]; rfl
  | c + 2 => rfl
theorem fvs_set {g : Gl} {f : Int → Int} {cs : List Nat} {j c : Nat} {v : Int} (h : cs[j]? = some c) : (cs.mapIdx (fun j c => fv g f j c)).set j (fv g (up1 f j v) j c) = cs.mapIdx (fun i c => fv g (up1 f j v) i c) := by
  apply List.ext_getElem?
  intro i
  by_cases hi : i = j
  · subst hi
    rw [fvs_at h, List.getElem?_set_self (List.getElem?_eq_some_iff.mp (fvs_at (g := g) (f := f) h)).1]
  · rw [List.getElem?_set_ne (Ne.symm hi)]
    simp only [List.getElem?_mapIdx]
    cases hq : cs[i]? with
    | none => rfl
    | some r => simp only [Option.map_some]; rw [fv_up hi]
theorem wsO_up {g : Gl} {σ : Sg} {k j ci c : Nat} {cs : List Nat} {v : Int} (h : lay[k]? = some (0, ci :: cs)) (hj : cs[j]? = some c) : (wsO g σ).set k (ga g k, .inr (ci, (cs.mapIdx (fun j c => fv g (σ k) j c)).set j (fv g (up1 (σ k) j v) j c))) = wsO g (up σ k j v) := by
  refine wsO_set h ?_ (fun i hi => up_ne hi)
  rw [up_same, fvs_set hj]
  rfl
theorem j_getI {g : Gl} {y : Mt} {F : Ex} {σ : Sg} {lv : List (Nat × Value)} {pc nx : Nat} {st : List Value} {k ci ix j : Nat} {ji : Int} {cs : List Nat} (h : Gf y.1.cls ix ci j ji) (hq : lay[k]? = some (0, ci :: cs)) (hj : cs[j]? = some (0)) (hd : Dc y pc (.getfield ix) 3 nx) (kk : jv g y F σ lv nx (vi (σ k ji) :: st)) : jv g y F σ lv pc (vr g k :: st) := by
  obtain ⟨C0, T, N, h1, h2, h3, h4, rfl⟩ := h
  obtain ⟨hd, rfl⟩ := hd
  intro p e s m args below meth c H locs ls C hP hS hl
  exact va_get C.1 C.2.1 C.2.2.2.2.2.1 h2 C.2.2.2.2.1 C.2.2.2.2.2.2.2.1 hP _ (wsO_at hq) h1 j h3 (C.2.2.2.2.2.1 _ h4) (fun _ z => z) (fvs_at hj) hd (kk p e s m args below meth c H locs _ C hP hS hl)
theorem j_getL {g : Gl} {y : Mt} {F : Ex} {σ : Sg} {lv : List (Nat × Value)} {pc nx : Nat} {st : List Value} {k ci ix j : Nat} {ji : Int} {cs : List Nat} (h : Gf y.1.cls ix ci j ji) (hq : lay[k]? = some (0, ci :: cs)) (hj : cs[j]? = some (1)) (hd : Dc y pc (.getfield ix) 3 nx) (kk : jv g y F σ lv nx (vl (σ k ji) :: st)) : jv g y F σ lv pc (vr g k :: st) := by
  obtain ⟨C0, T, N, h1, h2, h3, h4, rfl⟩ := h
  obtain ⟨hd, rfl⟩ := hd
  intro p e s m args below meth c H locs ls C hP hS hl
  exact va_get C.1 C.2.1 C.2.2.2.2.2.1 h2 C.2.2.2.2.1 C.2.2.2.2.2.2.2.1 hP _ (wsO_at hq) h1 j h3 (C.2.2.2.2.2.1 _ h4) (fun _ z => z) (fvs_at hj) hd (kk p e s m args below meth c H locs _ C hP hS hl)
theorem j_getR {g : Gl} {y : Mt} {F : Ex} {σ : Sg} {lv : List (Nat × Value)} {pc nx : Nat} {st : List Value} {k ci ix j : Nat} {ji : Int} {cs : List Nat} {c : Nat} (h : Gf y.1.cls ix ci j ji) (hq : lay[k]? = some (0, ci :: cs)) (hj : cs[j]? = some (c + 2)) (hd : Dc y pc (.getfield ix) 3 nx) (kk : jv g y F σ lv nx (vr g c :: st)) : jv g y F σ lv pc (vr g k :: st) := by
  obtain ⟨C0, T, N, h1, h2, h3, h4, rfl⟩ := h
  obtain ⟨hd, rfl⟩ := hd
  intro p e s m args below meth c H locs ls C hP hS hl
  exact va_get C.1 C.2.1 C.2.2.2.2.2.1 h2 C.2.2.2.2.1 C.2.2.2.2.2.2.2.1 hP _ (wsO_at hq) h1 j h3 (C.2.2.2.2.2.1 _ h4) (fun _ z => z) (fvs_at hj) hd (kk p e s m args below meth c H locs _ C hP hS hl)
theorem j_putI {g : Gl} {y : Mt} {F : Ex} {σ : Sg} {lv : List (Nat × Value)} {pc nx : Nat} {st : List Value} {k ci ix j : Nat} {ji v : Int} {cs : List Nat} (h : Pf y.1.cls ix ci j ji .int) (hq : lay[k]? = some (0, ci :: cs)) (hj : cs[j]? = some 0) (hd : Dc y pc (.putfield ix) 3 nx) (kk : jv g y F (up σ k ji v) lv nx st) : jv g y F σ lv pc (vi v :: vr g k :: st) := by
  obtain ⟨C0, T, N, ty0, h1, h2, h3, h4, rfl, h5, h6, h7, h8⟩ := h
  obtain ⟨hd, rfl⟩ := hd
  intro p e s m args below meth c H locs ls C hP hS hl
  have hDD := wsO_D (g := g) (σ := σ) C.2.2.2.2.2.2.2.2.1 C.2.2.2.2.2.2.2.2.2.2.1
  refine va_put C.1 C.2.1 C.2.2.2.2.2.1 h2 ty0 h5 h6 C.2.2.2.2.1 C.2.2.2.2.2.2.2.1 hP hDD hS _ (wsO_at hq) h1 j h3 (C.2.2.2.2.2.1 _ h4) (fun _ z => z) h7 (by rw [h5 j h3, h8]) rfl rfl (by simpa using (List.getElem?_eq_some_iff.mp hj).1) hd (fun H1 locs1 hP1 _ hS1 => ?_)
  have e1 : (.int (kI v) : Value) = fv g (up1 (σ k) j v) j 0 := by show _ = Value.int (kI (up1 (σ k) j v j)); rw [up1_same]
  have hP2 : va_P g.2.1 vwCl (wsO g (up σ k j v)) H1 := by
    rw [← wsO_up hq hj, ← e1]
    exact hP1
  exact kk p e s m args below meth c H1 locs1 _ C hP2 hS1 hl
theorem j_putL {g : Gl} {y : Mt} {F : Ex} {σ : Sg} {lv : List (Nat × Value)} {pc nx : Nat} {st : List Value} {k ci ix j : Nat} {ji v : Int} {cs : List Nat} (h : Pf y.1.cls ix ci j ji .long) (hq : lay[k]? = some (0, ci :: cs)) (hj : cs[j]? = some 1) (hd : Dc y pc (.putfield ix) 3 nx) (kk : jv g y F (up σ k ji v) lv nx st) : jv g y F σ lv pc (vl v :: vr g k :: st) := by
  obtain ⟨C0, T, N, ty0, h1, h2, h3, h4, rfl, h5, h6, h7, h8⟩ := h
  obtain ⟨hd, rfl⟩ := hd
  intro p e s m args below meth c H locs ls C hP hS hl
  have hDD := wsO_D (g := g) (σ := σ) C.2.2.2.2.2.2.2.2.1 C.2.2.2.2.2.2.2.2.2.2.1
  refine va_put C.1 C.2.1 C.2.2.2.2.2.1 h2 ty0 h5 h6 C.2.2.2.2.1 C.2.2.2.2.2.2.2.1 hP hDD hS _ (wsO_at hq) h1 j h3 (C.2.2.2.2.2.1 _ h4) (fun _ z => z) h7 (by rw [h5 j h3, h8]) rfl rfl (by simpa using (List.getElem?_eq_some_iff.mp hj).1) hd (fun H1 locs1 hP1 _ hS1 => ?_)
  have e1 : (.long (kL v) : Value) = fv g (up1 (σ k) j v) j 1 := by show _ = Value.long (kL (up1 (σ k) j v j)); rw [up1_same]
  have hP2 : va_P g.2.1 vwCl (wsO g (up σ k j v)) H1 := by
    rw [← wsO_up hq hj, ← e1]
    exact hP1
  exact kk p e s m args below meth c H1 locs1 _ C hP2 hS1 hl
theorem j_putZ {g : Gl} {y : Mt} {F : Ex} {σ : Sg} {lv : List (Nat × Value)} {pc nx : Nat} {st : List Value} {k ci ix j : Nat} {ji v : Int} {cs : List Nat} (hv : v = 0 ∨ v = 1) (h : Pf y.1.cls ix ci j ji .boolean) (hq : lay[k]? = some (0, ci :: cs)) (hj : cs[j]? = some 0) (hd : Dc y pc (.putfield ix) 3 nx) (kk : jv g y F (up σ k ji v) lv nx st) : jv g y F σ lv pc (vi v :: vr g k :: st) := by
  obtain ⟨C0, T, N, ty0, h1, h2, h3, h4, rfl, h5, h6, h7, h8⟩ := h
  obtain ⟨hd, rfl⟩ := hd
  intro p e s m args below meth c H locs ls C hP hS hl
  have hDD := wsO_D (g := g) (σ := σ) C.2.2.2.2.2.2.2.2.1 C.2.2.2.2.2.2.2.2.2.2.1
  refine va_put C.1 C.2.1 C.2.2.2.2.2.1 h2 ty0 h5 h6 C.2.2.2.2.1 C.2.2.2.2.2.2.2.1 hP hDD hS _ (wsO_at hq) h1 j h3 (C.2.2.2.2.2.1 _ h4) (fun _ z => z) h7 (by rw [h5 j h3, h8]) (by rcases hv with rfl | rfl <;> decide) (by rcases hv with rfl | rfl <;> decide) (by simpa using (List.getElem?_eq_some_iff.mp hj).1) hd (fun H1 locs1 hP1 _ hS1 => ?_)
  have e1 : (.int (kI v) : Value) = fv g (up1 (σ k) j v) j 0 := by show _ = Value.int (kI (up1 (σ k) j v j)); rw [up1_same]
  have hP2 : va_P g.2.1 vwCl (wsO g (up σ k j v)) H1 := by
    rw [← wsO_up hq hj, ← e1]
    exact hP1
  exact kk p e s m args below meth c H1 locs1 _ C hP2 hS1 hl
theorem ar_I {f : Int → Int} {i x : Int} {n : Nat} (h : ((n : Nat) : Int) = i) : upd (fun j : Nat => kI (f j)) n (kI x) = fun j : Nat => kI (up1 f i x j) := by
  funext j
  unfold upd up1
  by_cases hj : j = n
  · subst hj; rw [if_pos rfl, if_pos h]
  · rw [if_neg hj, if_neg (by omega)]
theorem ar_L {f : Int → Int} {i x : Int} {n : Nat} (h : ((n : Nat) : Int) = i) : vp_updL (fun j : Nat => kL (f j)) n (kL x) = fun j : Nat => kL (up1 f i x j) := by
  funext j
  unfold vp_updL up1
  by_cases hj : j = n
  · subst hj; rw [if_pos rfl, if_pos h]
  · rw [if_neg hj, if_neg (by omega)]
theorem j_iald {g : Gl} {y : Mt} {F : Ex} {σ : Sg} {lv : List (Nat × Value)} {pc nx : Nat} {st : List Value} {k n : Nat} {i : Int} (hq : lay[k]? = some (1, [n])) (hi : 0 ≤ i ∧ i < (n : Int)) (hd : Dc y pc (.iaload) 1 nx) (kk : jv g y F σ lv nx (vi (σ k i) :: st)) : jv g y F σ lv pc (vi i :: vr g k :: st) := by
  obtain ⟨hd, rfl⟩ := hd
  intro p e s m args below meth c H locs ls C hP hS hl
  obtain ⟨h1, h2⟩ := kI_clamp hi (lay_n hq)
  refine va_iald C.1 C.2.1 C.2.2.2.2.2.2.2.1 hP _ 0 (wsO_at hq) rfl h1 hd ?_
  try dsimp only
  rw [h2]
  exact kk p e s m args below meth c H locs _ C hP hS hl
theorem j_iast {g : Gl} {y : Mt} {F : Ex} {σ : Sg} {lv : List (Nat × Value)} {pc nx : Nat} {st : List Value} {k n : Nat} {i x : Int} (hq : lay[k]? = some (1, [n])) (hi : 0 ≤ i ∧ i < (n : Int)) (hd : Dc y pc (.iastore) 1 nx) (kk : jv g y F (up σ k i x) lv nx st) : jv g y F σ lv pc (vi x :: vi i :: vr g k :: st) := by
  obtain ⟨hd, rfl⟩ := hd
  intro p e s m args below meth c H locs ls C hP hS hl
  obtain ⟨h1, h2⟩ := kI_clamp hi (lay_n hq)
  have hDD := wsO_D (g := g) (σ := σ) C.2.2.2.2.2.2.2.2.1 C.2.2.2.2.2.2.2.2.2.2.1
  refine va_iast C.1 C.2.1 C.2.2.2.2.2.2.2.1 hP hDD hS _ 0 (wsO_at hq) rfl h1 hd (fun H1 locs1 hP1 _ hS1 => ?_)
  have e2 := wsO_set (g := g) (σ := σ) (σ' := up σ k i x) (E := .inl (g.2.2.2.1 0, n, .inl (upd (fun j : Nat => kI (σ k j)) (kI i).toNatClampNeg (kI x)))) hq (by rw [up_same, ar_I h2]; rfl) (fun j hj => up_ne hj)
  have hP2 : va_P g.2.1 vwCl (wsO g (up σ k i x)) H1 := by
    rw [← e2]
    exact hP1
  exact kk p e s m args below meth c H1 locs1 _ C hP2 hS1 hl
theorem j_lald {g : Gl} {y : Mt} {F : Ex} {σ : Sg} {lv : List (Nat × Value)} {pc nx : Nat} {st : List Value} {k n : Nat} {i : Int} (hq : lay[k]? = some (2, [n])) (hi : 0 ≤ i ∧ i < (n : Int)) (hd : Dc y pc (.laload) 1 nx) (kk : jv g y F σ lv nx (vl (σ k i) :: st)) : jv g y F σ lv pc (vi i :: vr g k :: st) := by
  obtain ⟨hd, rfl⟩ := hd
  intro p e s m args below meth c H locs ls C hP hS hl
  obtain ⟨h1, h2⟩ := kI_clamp hi (lay_n hq)
  refine va_lald C.1 C.2.1 C.2.2.2.2.2.2.2.1 hP _ 1 (wsO_at hq) rfl h1 hd ?_
  try dsimp only
  rw [h2]
  exact kk p e s m args below meth c H locs _ C hP hS hl
theorem j_last {g : Gl} {y : Mt} {F : Ex} {σ : Sg} {lv : List (Nat × Value)} {pc nx : Nat} {st : List Value} {k n : Nat} {i x : Int} (hq : lay[k]? = some (2, [n])) (hi : 0 ≤ i ∧ i < (n : Int)) (hd : Dc y pc (.lastore) 1 nx) (kk : jv g y F (up σ k i x) lv nx st) : jv g y F σ lv pc (vl x :: vi i :: vr g k :: st) := by
  obtain ⟨hd, rfl⟩ := hd
  intro p e s m args below meth c H locs ls C hP hS hl
  obtain ⟨h1, h2⟩ := kI_clamp hi (lay_n hq)
  have hDD := wsO_D (g := g) (σ := σ) C.2.2.2.2.2.2.2.2.1 C.2.2.2.2.2.2.2.2.2.2.1
  refine va_last C.1 C.2.1 C.2.2.2.2.2.2.2.1 hP hDD hS _ 1 (wsO_at hq) rfl h1 hd (fun H1 locs1 hP1 _ hS1 => ?_)
  have e2 := wsO_set (g := g) (σ := σ) (σ' := up σ k i x) (E := .inl (g.2.2.2.1 1, n, .inr <| .inl (vp_updL (fun j : Nat => kL (σ k j)) (kI i).toNatClampNeg (kL x)))) hq (by rw [up_same, ar_L h2]; rfl) (fun j hj => up_ne hj)
  have hP2 : va_P g.2.1 vwCl (wsO g (up σ k i x)) H1 := by
    rw [← e2]
    exact hP1
  exact kk p e s m args below meth c H1 locs1 _ C hP2 hS1 hl
theorem j_zald {g : Gl} {y : Mt} {F : Ex} {σ : Sg} {lv : List (Nat × Value)} {pc nx : Nat} {st : List Value} {k n : Nat} {i : Int} (hq : lay[k]? = some (3, [n])) (hi : 0 ≤ i ∧ i < (n : Int)) (hd : Dc y pc (.baload) 1 nx) (kk : jv g y F σ lv nx (vi (σ k i) :: st)) : jv g y F σ lv pc (vi i :: vr g k :: st) := by
  obtain ⟨hd, rfl⟩ := hd
  intro p e s m args below meth c H locs ls C hP hS hl
  obtain ⟨h1, h2⟩ := kI_clamp hi (lay_n hq)
  refine va_zald C.1 C.2.1 C.2.2.2.2.2.2.2.1 hP _ 2 (wsO_at hq) rfl h1 hd ?_
  try dsimp only
  rw [h2]
  exact kk p e s m args below meth c H locs _ C hP hS hl
theorem j_zast {g : Gl} {y : Mt} {F : Ex} {σ : Sg} {lv : List (Nat × Value)} {pc nx : Nat} {st : List Value} {k n : Nat} {i x : Int} (hv : x = 0 ∨ x = 1) (hq : lay[k]? = some (3, [n])) (hi : 0 ≤ i ∧ i < (n : Int)) (hd : Dc y pc (.bastore) 1 nx) (kk : jv g y F (up σ k i x) lv nx st) : jv g y F σ lv pc (vi x :: vi i :: vr g k :: st) := by
  obtain ⟨hd, rfl⟩ := hd
  intro p e s m args below meth c H locs ls C hP hS hl
  obtain ⟨h1, h2⟩ := kI_clamp hi (lay_n hq)
  have hDD := wsO_D (g := g) (σ := σ) C.2.2.2.2.2.2.2.2.1 C.2.2.2.2.2.2.2.2.2.2.1
  refine va_zast C.1 C.2.1 C.2.2.2.2.2.2.2.1 hP hDD hS _ 2 (wsO_at hq) rfl h1 hd (fun H1 locs1 hP1 _ hS1 => ?_)
  rw [show vp_nar .boolean (kI x) = kI x from by rcases hv with rfl | rfl <;> decide] at hP1
  have e2 := wsO_set (g := g) (σ := σ) (σ' := up σ k i x) (E := .inl (g.2.2.2.1 2, n, .inl (upd (fun j : Nat => kI (σ k j)) (kI i).toNatClampNeg (kI x)))) hq (by rw [up_same, ar_I h2]; rfl) (fun j hj => up_ne hj)
  have hP2 : va_P g.2.1 vwCl (wsO g (up σ k i x)) H1 := by
    rw [← e2]
    exact hP1
  exact kk p e s m args below meth c H1 locs1 _ C hP2 hS1 hl
theorem j_alen {g : Gl} {y : Mt} {F : Ex} {σ : Sg} {lv : List (Nat × Value)} {pc nx : Nat} {st : List Value} {k t n : Nat} (ht : t = 1 ∨ t = 2) (hq : lay[k]? = some (t, [n])) (hd : Dc y pc (.arraylength) 1 nx) (kk : jv g y F σ lv nx (vi (n : Int) :: st)) : jv g y F σ lv pc (vr g k :: st) := by
  obtain ⟨hd, rfl⟩ := hd
  intro p e s m args below meth c H locs ls C hP hS hl
  rcases ht with rfl | rfl
  · exact va_alen C.1 C.2.1 C.2.2.2.2.2.2.2.1 hP _ 0 (wsO_at hq) rfl (by rw [← Int32.ofInt_eq_ofNat]; rfl) hd (kk p e s m args below meth c H locs _ C hP hS hl)
  · exact va_alen C.1 C.2.1 C.2.2.2.2.2.2.2.1 hP _ 1 (wsO_at hq) rfl (by rw [← Int32.ofInt_eq_ofNat]; rfl) hd (kk p e s m args below meth c H locs _ C hP hS hl)
theorem j_alenR {g : Gl} {y : Mt} {F : Ex} {σ : Sg} {lv : List (Nat × Value)} {pc nx : Nat} {st : List Value} {k : Nat} {cs : List Nat} (hq : lay[k]? = some (4, cs)) (hd : Dc y pc (.arraylength) 1 nx) (kk : jv g y F σ lv nx (vi (cs.length : Int) :: st)) : jv g y F σ lv pc (vr g k :: st) := by
  obtain ⟨hd, rfl⟩ := hd
  intro p e s m args below meth c H locs ls C hP hS hl
  exact va_alen C.1 C.2.1 C.2.2.2.2.2.2.2.1 hP _ 3 (wsO_at hq) rfl (by rw [← Int32.ofInt_eq_ofNat]; rfl) hd (kk p e s m args below meth c H locs _ C hP hS hl)
theorem j_aald {g : Gl} {y : Mt} {F : Ex} {σ : Sg} {lv : List (Nat × Value)} {pc nx : Nat} {st : List Value} {k r : Nat} {i : Int} {cs : List Nat} (hq : lay[k]? = some (4, cs)) (hi : 0 ≤ i ∧ i < (cs.length : Int)) (hr : cs[i.toNat]? = some r) (hd : Dc y pc (.aaload) 1 nx) (kk : jv g y F σ lv nx (vr g r :: st)) : jv g y F σ lv pc (vi i :: vr g k :: st) := by
  obtain ⟨hd, rfl⟩ := hd
  intro p e s m args below meth c H locs ls C hP hS hl
  have hc : cs.length ≤ 2147483647 := by
    have h1 : (lay.all fun q => decide (q.2.length ≤ 1000)) = true := by decide +kernel
    have h2 := List.all_eq_true.mp h1 _ (List.mem_of_getElem? hq)
    have h3 : cs.length ≤ 1000 := by simpa using h2
    omega
  obtain ⟨h1, h2⟩ := kI_clamp hi hc
  refine va_aldq C.1 C.2.1 C.2.2.2.2.2.2.2.1 hP _ 3 (wsO_at hq) rfl h1 hd ?_
  rw [show (kI i).toNatClampNeg = i.toNat from by omega, hr]
  exact kk p e s m args below meth c H locs _ C hP hS hl
theorem j_ways {g : Gl} {y : Mt} {F : Ex} {σ : Sg} {lv : List (Nat × Value)} {pc nx : Nat} {st : List Value} (ho : y.1.cls = "ControlSigns$Row") (hd : Dc y pc (.getstatic 80) 3 nx) (kk : jv g y F σ lv nx (.ref g.2.2.2.2.2 :: st)) : jv g y F σ lv pc st := by
  obtain ⟨hd, rfl⟩ := hd
  intro p e s m args below meth c H locs ls C hP hS hl
  have hE := C.2.2.2.2.2.2.2.2.2.1
  have ho2 := C.2.2.2.2.1
  rw [ho] at ho2
  exact va_getsN C.1 C.2.1 hE.1 hS ho2 (va_Nw.use rfl hE.2.2.2.2.2.2) (fun _ z => z) hd (kk p e s m args below meth c H locs _ C hP hS hl)
theorem j_wlen {g : Gl} {y : Mt} {F : Ex} {σ : Sg} {lv : List (Nat × Value)} {pc nx : Nat} {st : List Value} (hd : Dc y pc (.arraylength) 1 nx) (kk : jv g y F σ lv nx (vi 64 :: st)) : jv g y F σ lv pc (.ref g.2.2.2.2.2 :: st) := by
  obtain ⟨hd, rfl⟩ := hd
  intro p e s m args below meth c H locs ls C hP hS hl
  exact va_tlen C.1 C.2.1 C.2.2.2.2.2.2.2.2.2.1.2.1 hS rfl hd (kk p e s m args below meth c H locs _ C hP hS hl)
theorem j_wald {g : Gl} {y : Mt} {F : Ex} {σ : Sg} {lv : List (Nat × Value)} {pc nx : Nat} {st : List Value} {i : Int} (hi : 0 ≤ i ∧ i < 64) (hd : Dc y pc (.iaload) 1 nx) (kk : jv g y F σ lv nx (vi (waysL.getD i.toNat 0) :: st)) : jv g y F σ lv pc (vi i :: .ref g.2.2.2.2.2 :: st) := by
  obtain ⟨hd, rfl⟩ := hd
  intro p e s m args below meth c H locs ls C hP hS hl
  obtain ⟨h1, h2⟩ := kI_clamp (n := 64) hi (by decide)
  exact va_ti C.1 C.2.1 C.2.2.2.2.2.2.2.2.2.1.2.1 hS h1 (by rw [show (kI i).toNatClampNeg = i.toNat from by omega]) hd (kk p e s m args below meth c H locs _ C hP hS hl)
theorem j_slen {g : Gl} {y : Mt} {F : Ex} {σ : Sg} {lv : List (Nat × Value)} {pc nx : Nat} {st : List Value} (hd : Dc y pc (.arraylength) 1 nx) (kk : jv g y F σ lv nx (vi (g.2.2.2.2.1.2.1 : Int) :: st)) : jv g y F σ lv pc (.ref g.2.2.2.2.1.1 :: st) := by
  obtain ⟨hd, rfl⟩ := hd
  intro p e s m args below meth c H locs ls C hP hS hl
  have hE := C.2.2.2.2.2.2.2.2.2.1
  refine va_slen C.1 C.2.1 hE.2.2.1 hE.2.2.2.1 hE.2.2.2.2.1 hS hd ?_
  rw [← Int32.ofInt_eq_ofNat]
  exact kk p e s m args below meth c H locs _ C hP hS hl
theorem j_sald {g : Gl} {y : Mt} {F : Ex} {σ : Sg} {lv : List (Nat × Value)} {pc nx : Nat} {st : List Value} {i : Int} (hL : g.2.2.2.2.1.2.1 ≤ 2147483647) (hi : 0 ≤ i ∧ i < (g.2.2.2.2.1.2.1 : Int)) (hd : Dc y pc (.iaload) 1 nx) (kk : jv g y F σ lv nx (vi (g.2.2.2.2.1.2.2 i.toNat).toInt :: st)) : jv g y F σ lv pc (vi i :: .ref g.2.2.2.2.1.1 :: st) := by
  obtain ⟨hd, rfl⟩ := hd
  intro p e s m args below meth c H locs ls C hP hS hl
  have hE := C.2.2.2.2.2.2.2.2.2.1
  obtain ⟨h1, h2⟩ := kI_clamp hi hL
  refine va_sld C.1 C.2.1 hE.2.2.1 hE.2.2.2.1 hE.2.2.2.2.1 hS h1 hd ?_
  rw [show (kI i).toNatClampNeg = i.toNat from by omega, ← kI_of (g.2.2.2.2.1.2.2 i.toNat)]
  exact kk p e s m args below meth c H locs _ C hP hS hl
theorem j_minI {g : Gl} {y : Mt} {F : Ex} {σ : Sg} {lv : List (Nat × Value)} {pc nx : Nat} {st : List Value} {ix : Nat} {a b : Int} (h : -2147483648 ≤ a ∧ a ≤ 2147483647 ∧ -2147483648 ≤ b ∧ b ≤ 2147483647) (hw : Cond.methodLink y.1.cls ix Lib.Math.min.name ∈ tblG ∧ Cond.static Lib.Math.min.name ∈ tblG ∧ Cond.initialized "java/lang/Math" ∈ tblG ∧ Cond.code Lib.Math.min.name Lib.Math.min.code 2 (some .int) ∈ tblG) (hf : 1 ≤ y.2.2.2.2.frames) (hlo : (st.map fun v => v.category).sum + 13 ≤ y.2.2.2.2.locals) (hd : Dc y pc (.invokestatic ix) 3 nx) (kk : jv g y F σ lv nx (vi (if b < a then b else a) :: st)) : jv g y F σ lv pc (vi b :: vi a :: st) := by
  obtain ⟨hd, rfl⟩ := hd
  intro p e s m args below meth c H locs ls C hP hS hl
  have hT := C.2.2.2.2.2.1
  refine va_mmin C.1 C.2.1 (C.2.2.1.trans hl.1.symm) C.2.2.2.2.1 (hT _ hw.1) (hT _ hw.2.1) (hT _ hw.2.2.1) (hT _ hw.2.2.2) hf hlo C.2.2.2.2.2.2.2.2.2.2.2.1 C.2.2.2.2.2.2.2.2.2.2.2.2 hd ?_
  have e1 : (if kI b < kI a then kI b else kI a) = kI (if b < a then b else a) := by
    have hx := kI_lt (a := b) (b := a) (by omega)
    by_cases q : b < a
    · rw [if_pos (hx.mpr q), if_pos q]
    · rw [if_neg (fun z => q (hx.mp z)), if_neg q]
  rw [e1]
  exact kk p e s m args below meth c H locs _ C hP hS hl
theorem j_minL {g : Gl} {y : Mt} {F : Ex} {σ : Sg} {lv : List (Nat × Value)} {pc nx : Nat} {st : List Value} {ix : Nat} {a b : Int} (h : -9223372036854775808 ≤ a ∧ a ≤ 9223372036854775807 ∧ -9223372036854775808 ≤ b ∧ b ≤ 9223372036854775807) (hw : Cond.methodLink y.1.cls ix Lib.MathLoose.min_long.x ∈ tblG ∧ Cond.static Lib.MathLoose.min_long.x ∈ tblG ∧ Cond.initialized "java/lang/Math" ∈ tblG ∧ Cond.code Lib.MathLoose.min_long.x Lib.MathLoose.min_long.code 4 (some .long) ∈ tblG) (hf : 1 ≤ y.2.2.2.2.frames) (hlo : (st.map fun v => v.category).sum + 15 ≤ y.2.2.2.2.locals) (hd : Dc y pc (.invokestatic ix) 3 nx) (kk : jv g y F σ lv nx (vl (if b < a then b else a) :: st)) : jv g y F σ lv pc (vl b :: vl a :: st) := by
  obtain ⟨hd, rfl⟩ := hd
  intro p e s m args below meth c H locs ls C hP hS hl
  have hT := C.2.2.2.2.2.1
  refine va_mmin_long C.1 C.2.1 (C.2.2.1.trans hl.1.symm) C.2.2.2.2.1 (hT _ hw.1) (hT _ hw.2.1) (hT _ hw.2.2.1) (hT _ hw.2.2.2) hf hlo C.2.2.2.2.2.2.2.2.2.2.2.1 C.2.2.2.2.2.2.2.2.2.2.2.2 hd ?_
  have e1 : (if kL b < kL a then kL b else kL a) = kL (if b < a then b else a) := by
    have hx := kL_lt (a := b) (b := a) (by omega)
    by_cases q : b < a
    · rw [if_pos (hx.mpr q), if_pos q]
    · rw [if_neg (fun z => q (hx.mp z)), if_neg q]
  rw [e1]
  exact kk p e s m args below meth c H locs _ C hP hS hl
theorem j_absL {g : Gl} {y : Mt} {F : Ex} {σ : Sg} {lv : List (Nat × Value)} {pc nx : Nat} {st : List Value} {ix : Nat} {a : Int} (h : -9223372036854775808 ≤ a ∧ a ≤ 9223372036854775807) (hw : Cond.methodLink y.1.cls ix Lib.MathLoose.abs_long.x ∈ tblG ∧ Cond.static Lib.MathLoose.abs_long.x ∈ tblG ∧ Cond.initialized "java/lang/Math" ∈ tblG ∧ Cond.code Lib.MathLoose.abs_long.x Lib.MathLoose.abs_long.code 2 (some .long) ∈ tblG) (hf : 1 ≤ y.2.2.2.2.frames) (hlo : (st.map fun v => v.category).sum + 13 ≤ y.2.2.2.2.locals) (hd : Dc y pc (.invokestatic ix) 3 nx) (kk : jv g y F σ lv nx (vl (if 0 < a then a else -a) :: st)) : jv g y F σ lv pc (vl a :: st) := by
  obtain ⟨hd, rfl⟩ := hd
  intro p e s m args below meth c H locs ls C hP hS hl
  have hT := C.2.2.2.2.2.1
  refine va_mabs_long C.1 C.2.1 (C.2.2.1.trans hl.1.symm) C.2.2.2.2.1 (hT _ hw.1) (hT _ hw.2.1) (hT _ hw.2.2.1) (hT _ hw.2.2.2) hf hlo C.2.2.2.2.2.2.2.2.2.2.2.1 C.2.2.2.2.2.2.2.2.2.2.2.2 hd ?_
  have e1 : (if 0 < kL a then kL a else - kL a) = kL (if 0 < a then a else -a) := by
    have hx : (0 : Int64) < kL a ↔ 0 < a := kL_lt (a := 0) (b := a) (by omega)
    by_cases q : 0 < a
    · rw [if_pos (hx.mpr q), if_pos q]
    · rw [if_neg (fun z => q (hx.mp z)), if_neg q]
      exact (Int64.ofInt_neg a).symm
  rw [e1]
  exact kk p e s m args below meth c H locs _ C hP hS hl
def cp1 (f h : Int → Int) (sp dp n : Int) : Int → Int := fun i => if dp ≤ i ∧ i < dp + n then f (sp + (i - dp)) else h i
def cpy (σ : Sg) (k0 : Nat) (sp : Int) (k1 : Nat) (dp n : Int) : Sg := fun k => if k = k1 then cp1 (σ k0) (σ k1) sp dp n else σ k
theorem j_copyI {g : Gl} {y : Mt} {F : Ex} {σ : Sg} {lv : List (Nat × Value)} {pc nx : Nat} {st : List Value} {ix k0 k1 n0 n1 : Nat} {sp dp n : Int} (hq0 : lay[k0]? = some (1, [n0])) (hq1 : lay[k1]? = some (1, [n1])) (h : 0 ≤ sp ∧ 0 ≤ dp ∧ 0 ≤ n ∧ sp + n ≤ (n0 : Int) ∧ dp + n ≤ (n1 : Int)) (hw : Cond.methodLink y.1.cls ix arraycopyName ∈ tblG ∧ Cond.native arraycopyName ∈ tblG ∧ Cond.static arraycopyName ∈ tblG ∧ Cond.initialized "java/lang/System" ∈ tblG) (hf : 1 ≤ y.2.2.2.2.frames) (hlo : (st.map fun v => v.category).sum + (nativeFrameWords "java/lang/System" "arraycopy" 5 + 11) ≤ y.2.2.2.2.locals) (hd : Dc y pc (.invokestatic ix) 3 nx) (kk : jv g y F (cpy σ k0 sp k1 dp n) lv nx st) : jv g y F σ lv pc (vi n :: vi dp :: vr g k1 :: vi sp :: vr g k0 :: st) := by
  obtain ⟨hd, rfl⟩ := hd
  intro p e s m args below meth c H locs ls C hP hS hl
  have hT := C.2.2.2.2.2.1
  have m0 := lay_n hq0
  have m1 := lay_n hq1
  have cl : ∀ i : Int, 0 ≤ i → i ≤ 2147483647 → ¬ kI i < 0 ∧ (((kI i).toNatClampNeg : Nat) : Int) = i := by
    intro i a b
    have h1 : (kI i).toInt = i := kI_toInt (by omega) (by omega)
    refine ⟨fun z => ?_, ?_⟩
    · have := (kI_lt (a := i) (b := 0) (by omega)).mp z
      omega
    · show (((kI i).toInt.toNat : Nat) : Int) = i
      rw [h1]
      omega
  obtain ⟨a1, a2⟩ := cl sp (by omega) (by omega)
  obtain ⟨b1, b2⟩ := cl dp (by omega) (by omega)
  obtain ⟨c1, c2⟩ := cl n (by omega) (by omega)
  have hDD := wsO_D (g := g) (σ := σ) C.2.2.2.2.2.2.2.2.1 C.2.2.2.2.2.2.2.2.2.2.1
  refine va_copyi C.1 C.2.1 (C.2.2.1.trans hl.1.symm) C.2.2.2.2.1 (hT _ hw.1) (hT _ hw.2.1) (hT _ hw.2.2.1) (hT _ hw.2.2.2) C.2.2.2.2.2.2.2.1 hP hDD hS _ _ 0 0 (wsO_at hq0) (wsO_at hq1) rfl rfl rfl a1 b1 c1 (by show (kI sp).toNatClampNeg + (kI n).toNatClampNeg ≤ n0; omega) (by show (kI dp).toNatClampNeg + (kI n).toNatClampNeg ≤ n1; omega) (fun i _ => rfl) hf hlo hd (fun H1 locs1 hP1 _ hS1 => ?_)
  have e1 : va_cpy (fun j : Nat => kI (σ k0 j)) (fun j : Nat => kI (σ k1 j)) (kI sp).toNatClampNeg (kI dp).toNatClampNeg (kI n).toNatClampNeg = fun j : Nat => kI (cp1 (σ k0) (σ k1) sp dp n j) := by
    funext j
    unfold va_cpy cp1
    by_cases q : dp ≤ (j : Int) ∧ (j : Int) < dp + n
    · rw [if_pos q, if_pos (by omega)]
      show kI (σ k0 (((kI sp).toNatClampNeg + (j - (kI dp).toNatClampNeg) : Nat) : Int)) = _
      rw [show (((kI sp).toNatClampNeg + (j - (kI dp).toNatClampNeg) : Nat) : Int) = sp + ((j : Int) - dp) from by omega]
    · rw [if_neg q, if_neg (by omega)]
  have e3 : cpy σ k0 sp k1 dp n k1 = cp1 (σ k0) (σ k1) sp dp n := if_pos rfl
  have e2 := wsO_set (g := g) (σ := σ) (σ' := cpy σ k0 sp k1 dp n) (E := .inl (g.2.2.2.1 0, n1, .inl (va_cpy (fun j : Nat => kI (σ k0 j)) (fun j : Nat => kI (σ k1 j)) (kI sp).toNatClampNeg (kI dp).toNatClampNeg (kI n).toNatClampNeg))) hq1 (by rw [e3, e1]; rfl) (fun j hj => if_neg hj)
  have hP2 : va_P g.2.1 vwCl (wsO g (cpy σ k0 sp k1 dp n)) H1 := by
    rw [← e2]
    exact hP1
  exact kk p e s m args below meth c H1 locs1 _ C hP2 hS1 hl
theorem j_copyL {g : Gl} {y : Mt} {F : Ex} {σ : Sg} {lv : List (Nat × Value)} {pc nx : Nat} {st : List Value} {ix k0 k1 n0 n1 : Nat} {sp dp n : Int} (hq0 : lay[k0]? = some (2, [n0])) (hq1 : lay[k1]? = some (2, [n1])) (h : 0 ≤ sp ∧ 0 ≤ dp ∧ 0 ≤ n ∧ sp + n ≤ (n0 : Int) ∧ dp + n ≤ (n1 : Int)) (hw : Cond.methodLink y.1.cls ix arraycopyName ∈ tblG ∧ Cond.native arraycopyName ∈ tblG ∧ Cond.static arraycopyName ∈ tblG ∧ Cond.initialized "java/lang/System" ∈ tblG) (hf : 1 ≤ y.2.2.2.2.frames) (hlo : (st.map fun v => v.category).sum + (nativeFrameWords "java/lang/System" "arraycopy" 5 + 11) ≤ y.2.2.2.2.locals) (hd : Dc y pc (.invokestatic ix) 3 nx) (kk : jv g y F (cpy σ k0 sp k1 dp n) lv nx st) : jv g y F σ lv pc (vi n :: vi dp :: vr g k1 :: vi sp :: vr g k0 :: st) := by
  obtain ⟨hd, rfl⟩ := hd
  intro p e s m args below meth c H locs ls C hP hS hl
  have hT := C.2.2.2.2.2.1
  have m0 := lay_n hq0
  have m1 := lay_n hq1
  have cl : ∀ i : Int, 0 ≤ i → i ≤ 2147483647 → ¬ kI i < 0 ∧ (((kI i).toNatClampNeg : Nat) : Int) = i := by
    intro i a b
    have h1 : (kI i).toInt = i := kI_toInt (by omega) (by omega)
    refine ⟨fun z => ?_, ?_⟩
    · have := (kI_lt (a := i) (b := 0) (by omega)).mp z
      omega
    · show (((kI i).toInt.toNat : Nat) : Int) = i
      rw [h1]
      omega
  obtain ⟨a1, a2⟩ := cl sp (by omega) (by omega)
  obtain ⟨b1, b2⟩ := cl dp (by omega) (by omega)
  obtain ⟨c1, c2⟩ := cl n (by omega) (by omega)
  have hDD := wsO_D (g := g) (σ := σ) C.2.2.2.2.2.2.2.2.1 C.2.2.2.2.2.2.2.2.2.2.1
  refine va_copyl C.1 C.2.1 (C.2.2.1.trans hl.1.symm) C.2.2.2.2.1 (hT _ hw.1) (hT _ hw.2.1) (hT _ hw.2.2.1) (hT _ hw.2.2.2) C.2.2.2.2.2.2.2.1 hP hDD hS _ _ 1 1 (wsO_at hq0) (wsO_at hq1) rfl rfl rfl a1 b1 c1 (by show (kI sp).toNatClampNeg + (kI n).toNatClampNeg ≤ n0; omega) (by show (kI dp).toNatClampNeg + (kI n).toNatClampNeg ≤ n1; omega) (fun i _ => rfl) hf hlo hd (fun H1 locs1 hP1 _ hS1 => ?_)
  have e1 : va_cpy (fun j : Nat => kL (σ k0 j)) (fun j : Nat => kL (σ k1 j)) (kI sp).toNatClampNeg (kI dp).toNatClampNeg (kI n).toNatClampNeg = fun j : Nat => kL (cp1 (σ k0) (σ k1) sp dp n j) := by
    funext j
    unfold va_cpy cp1
    by_cases q : dp ≤ (j : Int) ∧ (j : Int) < dp + n
    · rw [if_pos q, if_pos (by omega)]
      show kL (σ k0 (((kI sp).toNatClampNeg + (j - (kI dp).toNatClampNeg) : Nat) : Int)) = _
      rw [show (((kI sp).toNatClampNeg + (j - (kI dp).toNatClampNeg) : Nat) : Int) = sp + ((j : Int) - dp) from by omega]
    · rw [if_neg q, if_neg (by omega)]
  have e3 : cpy σ k0 sp k1 dp n k1 = cp1 (σ k0) (σ k1) sp dp n := if_pos rfl
  have e2 := wsO_set (g := g) (σ := σ) (σ' := cpy σ k0 sp k1 dp n) (E := .inl (g.2.2.2.1 1, n1, .inr <| .inl (va_cpy (fun j : Nat => kL (σ k0 j)) (fun j : Nat => kL (σ k1 j)) (kI sp).toNatClampNeg (kI dp).toNatClampNeg (kI n).toNatClampNeg))) hq1 (by rw [e3, e1]; rfl) (fun j hj => if_neg hj)
  have hP2 : va_P g.2.1 vwCl (wsO g (cpy σ k0 sp k1 dp n)) H1 := by
    rw [← e2]
    exact hP1
  exact kk p e s m args below meth c H1 locs1 _ C hP2 hS1 hl
def PI (P : Int → Sg → Prop) : Option Value → Sg → Prop := fun r σ' => ∃ v : Int, r = some (vi v) ∧ P v σ'
def PL (P : Int → Sg → Prop) : Option Value → Sg → Prop := fun r σ' => ∃ v : Int, r = some (vl v) ∧ P v σ'
def PV (P : Sg → Prop) : Option Value → Sg → Prop := fun r σ' => r = none ∧ P σ'
def PR (g : Gl) (k : Nat) (σ : Sg) : Option Value → Sg → Prop := fun r σ' => r = some (vr g k) ∧ σ' = σ
abbrev PE (e : Int) (σ : Sg) : Option Value → Sg → Prop := PI (fun v σ' => v = e ∧ σ' = σ)
abbrev PEL (e : Int) (σ : Sg) : Option Value → Sg → Prop := PL (fun v σ' => v = e ∧ σ' = σ)
abbrev PB (P : Prop) (σ : Sg) : Option Value → Sg → Prop := PI (fun v σ' => σ' = σ ∧ (P ∧ v = 1 ∨ ¬ P ∧ v = 0))
abbrev PBs (P : Prop) (σ : Sg) (τ : Sg) : Option Value → Sg → Prop := PI (fun v σ' => (P ∧ v = 1 ∧ σ' = σ) ∨ (¬ P ∧ v = 0 ∧ σ' = τ))
theorem Qm_of {g : Gl} {y : Mt} {Post : Option Value → Sg → Prop} {σ : Sg} {args : Array Value} {s t : State} {H : Heap} {locs : List Loc} {r : Option Value} (h : Post r σ) (hP : va_P g.2.1 vwCl (wsO g σ) H) (hS : va_S (Aw g) s.heap H locs) (ht : t.heap = H) : Qm g Post args s (.returned r) t :=
  ⟨⟨r, σ, rfl, h, by rw [ht]; exact hP⟩, hS.F ht⟩
theorem j_iret {g : Gl} {y : Mt} {Post : Option Value → Sg → Prop} {σ : Sg} {lv : List (Nat × Value)} {pc nx : Nat} {P : Int → Sg → Prop} {v : Int} (hr : y.2.2.2.1 = some .int) (hd : Dc y pc (.ireturn) 1 nx) (h : P v σ) : jv g y (Fm g (PI P)) σ lv pc [vi v] := by
  intro p e s m args below meth c H locs ls C hP hS hl
  obtain ⟨hd, rfl⟩ := hd
  exact W.iret C.1 C.2.1 (C.2.2.2.1.trans hr) (fun t ht _ => Qm_of (y := y) ⟨v, rfl, h⟩ hP hS ht) hS.2.2 hd C.2.2.2.2.2.2.1
theorem j_zret {g : Gl} {y : Mt} {Post : Option Value → Sg → Prop} {σ : Sg} {lv : List (Nat × Value)} {pc nx : Nat} {P : Int → Sg → Prop} {v : Int} (hv : v = 0 ∨ v = 1) (hr : y.2.2.2.1 = some .boolean) (hd : Dc y pc (.ireturn) 1 nx) (h : P v σ) : jv g y (Fm g (PI P)) σ lv pc [vi v] := by
  intro p e s m args below meth c H locs ls C hP hS hl
  obtain ⟨hd, rfl⟩ := hd
  exact W.zret C.1 C.2.1 (C.2.2.2.1.trans hr) (by rcases hv with rfl | rfl <;> decide) (fun t ht _ => Qm_of (y := y) ⟨v, rfl, h⟩ hP hS ht) hS.2.2 hd C.2.2.2.2.2.2.1
theorem j_lret {g : Gl} {y : Mt} {Post : Option Value → Sg → Prop} {σ : Sg} {lv : List (Nat × Value)} {pc nx : Nat} {P : Int → Sg → Prop} {v : Int} (hr : y.2.2.2.1 = some .long) (hd : Dc y pc (.lreturn) 1 nx) (h : P v σ) : jv g y (Fm g (PL P)) σ lv pc [vl v] := by
  intro p e s m args below meth c H locs ls C hP hS hl
  obtain ⟨hd, rfl⟩ := hd
  exact W.lret C.1 C.2.1 (C.2.2.2.1.trans hr) (fun t ht _ => Qm_of (y := y) ⟨v, rfl, h⟩ hP hS ht) hS.2.2 hd C.2.2.2.2.2.2.1
theorem j_vret {g : Gl} {y : Mt} {Post : Option Value → Sg → Prop} {σ : Sg} {lv : List (Nat × Value)} {pc nx : Nat} {P : Sg → Prop} (hr : y.2.2.2.1 = none) (hd : Dc y pc (.return_) 1 nx) (h : P σ) : jv g y (Fm g (PV P)) σ lv pc [] := by
  intro p e s m args below meth c H locs ls C hP hS hl
  obtain ⟨hd, rfl⟩ := hd
  exact W.vret C.1 C.2.1 (C.2.2.2.1.trans hr) (fun t ht _ => Qm_of (y := y) ⟨rfl, h⟩ hP hS ht) hS.2.2 hd C.2.2.2.2.2.2.1
theorem j_aret {g : Gl} {y : Mt} {Post : Option Value → Sg → Prop} {σ : Sg} {lv : List (Nat × Value)} {pc nx : Nat} {C0 : String} {k : Nat} (hr : y.2.2.2.1 = some (.object C0)) (hd : Dc y pc (.areturn) 1 nx) : jv g y (Fm g (PR g k σ)) σ lv pc [vr g k] := by
  intro p e s m args below meth c H locs ls C hP hS hl
  obtain ⟨hd, rfl⟩ := hd
  exact W.aret C.1 C.2.1 (C.2.2.2.1.trans hr) (Or.inl ⟨_, rfl⟩) (Or.inr ⟨_, rfl⟩) (fun t ht _ => Qm_of (y := y) ⟨rfl, rfl⟩ hP hS ht) hS.2.2 hd C.2.2.2.2.2.2.1
/-- what a callee's name must have in the tables: an instance method, a static one -/
def Zv (z : Mt) (n : Nat) : Prop := Cond.code z.1 z.2.1 z.2.2.1 z.2.2.2.1 ∈ tblG ∧ Cond.initialized z.1.cls ∈ tblG ∧ (z.1.cls ≠ "java/lang/invoke/MethodHandle" ∧ z.1.cls ≠ "java/lang/invoke/VarHandle" ∧ (parseMethodDescriptor z.1.desc).map (fun d => d.parameters.length) = some n) ∧ z.2.2.2.2.cells = 0 ∧ z.2.2.2.2.slots = 0 ∧ Cond.instanceMethod z.1 ∈ tblG ∧ Cond.selects z.1.cls z.1 z.1 ∈ tblG
def Zs (z : Mt) (n : Nat) : Prop := Cond.code z.1 z.2.1 z.2.2.1 z.2.2.2.1 ∈ tblG ∧ Cond.initialized z.1.cls ∈ tblG ∧ (z.1.cls ≠ "java/lang/invoke/MethodHandle" ∧ z.1.cls ≠ "java/lang/invoke/VarHandle" ∧ (parseMethodDescriptor z.1.desc).map (fun d => d.parameters.length) = some n) ∧ z.2.2.2.2.cells = 0 ∧ z.2.2.2.2.slots = 0 ∧ Cond.static z.1 ∈ tblG
def Rm (y z : Mt) : Prop := z.2.2.2.2.frames + 1 ≤ y.2.2.2.2.frames ∧ 8 + (z.2.2.1 + 11) + z.2.2.2.2.locals ≤ y.2.2.2.2.locals
theorem good_ws {z : Mt} (h : Cond.code z.1 z.2.1 z.2.2.1 z.2.2.2.1 ∈ tblG) : GoodIn tblG (.code z.1 z.2.1 z.2.2.1 z.2.2.2.1 :: tblG) := by
  intro w hw
  rcases List.mem_cons.mp hw with rfl | hw
  · exact ⟨h, tblG_good h⟩
  · exact ⟨hw, tblG_good hw⟩
theorem Wo_blind {g : Gl} {av : List Value} {σ : Sg} : FrameBlind (va_Pc av (Wo g σ)) := by
  intro a U fr mk q
  obtain ⟨q0, qP, qK, qG, q1, q2, q3, q4, q5, q6⟩ := q
  exact ⟨q0, qP, va_K.moved (u := U) (U := U.calling fr mk a) (Vm.Alike.refl U.vm) qK, qG, q1, q2, q3, q4, q5, q6⟩
theorem j_run {g : Gl} {Post : Option Value → Sg → Prop} {p : Program} {l : Launch} {e : Env} {R : Room} {s : State} {m : MethodId} {args : Array Value} {below : List Frame} {meth : Method} {c : Code} {H : Heap} {locs : List Loc} {cells slots : Nat} {Q : State → Prop} {pc : Nat} {ls : Array Slot} {rest st0 : List Value} {a : Array Value} {A0 : Nat → Prop}
    (hr : va_Run p l e R s m args below meth c H locs cells slots 0 0 (F0 m pc ls st0) rest (Qm g Post a) (Aw g)) (hS : va_S A0 s.heap H locs) (hA : ∀ q, Aw g q → A0 q)
    (kk : ∀ (r : Option Value) (σ' : Sg) (H1 : Heap) (locs1 : List Loc), Post r σ' → va_P g.2.1 vwCl (wsO g σ') H1 → va_S A0 s.heap H1 locs1 → W p l e R s m args below meth c H1 locs1 cells slots Q (F0 m (pc + 3) ls (r.toList ++ rest))) : W p l e R s m args below meth c H locs cells slots Q (F0 m pc ls st0) := by
  intro T hT X
  obtain ⟨v, st₀, t, T', L, h0, X', hL, e1, e2, ⟨⟨r, u, hv, hp, hb⟩, hz, hk⟩, st⟩ := hr T hT X
  cases hv
  rw [h0] at hz hk
  obtain ⟨t2, a1, b1⟩ := kk v u T'.heap (locs ++ L) hp (by rw [e1]; exact hb)
    ⟨Nat.le_trans hS.1 (by rw [e1]; exact hz), fun q h1 h2 => by rw [e1, hk q (Nat.lt_of_lt_of_le h1 hS.1) (fun z => h2 (hA q z))]; exact hS.2.1 q h1 h2, fun q hq => by
      rcases List.mem_append.mp hq with h | h
      · exact hS.2.2 q h
      · exact hA _ (hL q h)⟩ T' rfl X'
  exact ⟨t2, st t2 a1, b1⟩
theorem j_callV {g : Gl} {y z : Mt} {F : Ex} {σ : Sg} {lv : List (Nat × Value)} {pc nx ix : Nat} {st av : List Value} {Post : Option Value → Sg → Prop} {k ci : Nat} {C : String} {T : u_T} {N : Nat} {cs : List Nat} (hz : Zv z av.length) (hk : Cond.methodLink y.1.cls ix z.1 ∈ tblG) (hR : Rm y z) (hq : lay[k]? = some (0, ci :: cs)) (hc : vwCl[ci]? = some (C, T, N)) (hC : z.1.cls = C) (hM : Ct g z (vr g k :: av) σ Post) (hr : (st.map fun v => v.category).sum ≤ 8) (hd : Dc y pc (.invokevirtual ix) 3 nx) (kk : ∀ r σ', Post r σ' → jv g y F σ' lv nx (r.toList ++ st)) : jv g y F σ lv pc (av.reverse ++ vr g k :: st) := by
  obtain ⟨hd, rfl⟩ := hd
  intro p e s m args below meth c H locs ls C hP hS hl
  have hT := C.2.2.2.2.2.1
  have hA : ∀ q, Aw g q → F.1 s q := fun q ⟨k, hk, e⟩ => by rw [e]; exact C.2.2.2.2.2.2.2.2.2.2.1 k hk
  obtain ⟨z1, z2, z3, z4, z5, z6, z7⟩ := hz
  have hpre : ∀ U : State, U.heap = H → s.WarmedH U.vm → va_Pc (vr g k :: av) (Wo g σ) (vr g k :: av).toArray U := fun U hU hW => ⟨rfl, by rw [hU]; exact hP, va_K.moved hW.alike C.2.2.2.2.2.2.2.1, C.2.2.2.2.2.2.2.2.1, C.2.2.2.2.2.2.2.2.2.1.calls hS hA hU hW⟩
  refine j_run (a := (vr g k :: av).toArray) (va_runV (As := av) (rest := st) ⟨C.1, C.2.1, C.2.2.1, C.2.2.2.2.1, hT⟩ hM ⟨callB_of av.length hT (good_ws z1) rfl z4 z5 (hT _ z2) (hT _ hk) z3 hR, hT _ z6, hT _ z7⟩ ⟨Wo_blind, (by rw [hC]; exact va_recv C.2.2.2.2.2.2.2.1 hP hc (wsO_at hq)), hpre⟩ rfl rfl hl.1 rfl (lv_room hr) hd ⟨C.2.2.2.2.2.2.2.2.2.2.2.1, C.2.2.2.2.2.2.2.2.2.2.2.2⟩) hS hA (fun r σ' H1 locs1 h1 h2 h3 => ?_)
  exact kk r σ' h1 p e s m args below meth c H1 locs1 _ C h2 h3 hl
theorem j_callVN {g : Gl} {y z : Mt} {F : Ex} {σ : Sg} {lv : List (Nat × Value)} {pc nx ix : Nat} {st av : List Value} {Post : Option Value → Sg → Prop} {k ci : Nat} {C : String} {T : u_T} {N : Nat} {cs : List Nat} (hz : Zv z av.length) {host : String} (hk : (y.1.cls, ix, z.1, host) ∈ nstL) (hR : Rm y z) (hq : lay[k]? = some (0, ci :: cs)) (hc : vwCl[ci]? = some (C, T, N)) (hC : z.1.cls = C) (hM : Ct g z (vr g k :: av) σ Post) (hr : (st.map fun v => v.category).sum ≤ 8) (hd : Dc y pc (.invokevirtual ix) 3 nx) (kk : ∀ r σ', Post r σ' → jv g y F σ' lv nx (r.toList ++ st)) : jv g y F σ lv pc (av.reverse ++ vr g k :: st) := by
  obtain ⟨hd, rfl⟩ := hd
  intro p e s m args below meth c H locs ls C hP hS hl
  have hT := C.2.2.2.2.2.1
  have hA : ∀ q, Aw g q → F.1 s q := fun q ⟨k, hk, e⟩ => by rw [e]; exact C.2.2.2.2.2.2.2.2.2.2.1 k hk
  obtain ⟨z1, z2, z3, z4, z5, z6, z7⟩ := hz
  have hpre : ∀ U : State, U.heap = H → s.WarmedH U.vm → va_Pc (vr g k :: av) (Wo g σ) (vr g k :: av).toArray U := fun U hU hW => ⟨rfl, by rw [hU]; exact hP, va_K.moved hW.alike C.2.2.2.2.2.2.2.1, C.2.2.2.2.2.2.2.2.1, C.2.2.2.2.2.2.2.2.2.1.calls hS hA hU hW⟩
  refine j_run (a := (vr g k :: av).toArray) (va_runVN (As := av) (rest := st) ⟨C.1, C.2.1, C.2.2.1, C.2.2.2.2.1, hT⟩ hM ⟨va_cnB av.length hT (good_ws z1) rfl z4 z5 (C.2.2.2.2.2.2.2.2.2.1.2.2.2.2.2.1 _ hk) (hT _ z2) z3 hR, hT _ z6, hT _ z7⟩ ⟨Wo_blind, (by rw [hC]; exact va_recv C.2.2.2.2.2.2.2.1 hP hc (wsO_at hq)), hpre⟩ rfl rfl hl.1 rfl (lv_room hr) hd ⟨C.2.2.2.2.2.2.2.2.2.2.2.1, C.2.2.2.2.2.2.2.2.2.2.2.2⟩) hS hA (fun r σ' H1 locs1 h1 h2 h3 => ?_)
  exact kk r σ' h1 p e s m args below meth c H1 locs1 _ C h2 h3 hl
theorem j_callS {g : Gl} {y z : Mt} {F : Ex} {σ : Sg} {lv : List (Nat × Value)} {pc nx ix : Nat} {st av : List Value} {Post : Option Value → Sg → Prop} (hz : Zs z av.length) (hk : Cond.methodLink y.1.cls ix z.1 ∈ tblG) (hR : Rm y z) (hM : Ct g z av σ Post) (hr : (st.map fun v => v.category).sum ≤ 8) (hd : Dc y pc (.invokestatic ix) 3 nx) (kk : ∀ r σ', Post r σ' → jv g y F σ' lv nx (r.toList ++ st)) : jv g y F σ lv pc (av.reverse ++ st) := by
  obtain ⟨hd, rfl⟩ := hd
  intro p e s m args below meth c H locs ls C hP hS hl
  have hT := C.2.2.2.2.2.1
  have hA : ∀ q, Aw g q → F.1 s q := fun q ⟨k, hk, e⟩ => by rw [e]; exact C.2.2.2.2.2.2.2.2.2.2.1 k hk
  obtain ⟨z1, z2, z3, z4, z5, z6⟩ := hz
  have hpre : ∀ U : State, U.heap = H → s.WarmedH U.vm → va_Pc av (Wo g σ) av.toArray U := fun U hU hW => ⟨rfl, by rw [hU]; exact hP, va_K.moved hW.alike C.2.2.2.2.2.2.2.1, C.2.2.2.2.2.2.2.2.1, C.2.2.2.2.2.2.2.2.2.1.calls hS hA hU hW⟩
  refine j_run (a := av.toArray) (va_runS (As := av) (rest := st) ⟨C.1, C.2.1, C.2.2.1, C.2.2.2.2.1, hT⟩ hM ⟨callB_of av.length hT (good_ws z1) rfl z4 z5 (hT _ z2) (hT _ hk) z3 hR, hT _ z6⟩ ⟨Wo_blind, hpre⟩ rfl rfl hl.1 rfl (lv_room hr) hd ⟨C.2.2.2.2.2.2.2.2.2.2.2.1, C.2.2.2.2.2.2.2.2.2.2.2.2⟩) hS hA (fun r σ' H1 locs1 h1 h2 h3 => ?_)
  exact kk r σ' h1 p e s m args below meth c H1 locs1 _ C h2 h3 hl
theorem j_callSN {g : Gl} {y z : Mt} {F : Ex} {σ : Sg} {lv : List (Nat × Value)} {pc nx ix : Nat} {st av : List Value} {Post : Option Value → Sg → Prop} (hz : Zs z av.length) {host : String} (hk : (y.1.cls, ix, z.1, host) ∈ nstL) (hR : Rm y z) (hM : Ct g z av σ Post) (hr : (st.map fun v => v.category).sum ≤ 8) (hd : Dc y pc (.invokestatic ix) 3 nx) (kk : ∀ r σ', Post r σ' → jv g y F σ' lv nx (r.toList ++ st)) : jv g y F σ lv pc (av.reverse ++ st) := by
  obtain ⟨hd, rfl⟩ := hd
  intro p e s m args below meth c H locs ls C hP hS hl
  have hT := C.2.2.2.2.2.1
  have hA : ∀ q, Aw g q → F.1 s q := fun q ⟨k, hk, e⟩ => by rw [e]; exact C.2.2.2.2.2.2.2.2.2.2.1 k hk
  obtain ⟨z1, z2, z3, z4, z5, z6⟩ := hz
  have hpre : ∀ U : State, U.heap = H → s.WarmedH U.vm → va_Pc av (Wo g σ) av.toArray U := fun U hU hW => ⟨rfl, by rw [hU]; exact hP, va_K.moved hW.alike C.2.2.2.2.2.2.2.1, C.2.2.2.2.2.2.2.2.1, C.2.2.2.2.2.2.2.2.2.1.calls hS hA hU hW⟩
  refine j_run (a := av.toArray) (va_runSN (As := av) (rest := st) ⟨C.1, C.2.1, C.2.2.1, C.2.2.2.2.1, hT⟩ hM ⟨va_cnB av.length hT (good_ws z1) rfl z4 z5 (C.2.2.2.2.2.2.2.2.2.1.2.2.2.2.2.1 _ hk) (hT _ z2) z3 hR, hT _ z6, trivial⟩ ⟨Wo_blind, hpre⟩ rfl rfl hl.1 rfl (lv_room hr) hd ⟨C.2.2.2.2.2.2.2.2.2.2.2.1, C.2.2.2.2.2.2.2.2.2.2.2.2⟩) hS hA (fun r σ' H1 locs1 h1 h2 h3 => ?_)
  exact kk r σ' h1 p e s m args below meth c H1 locs1 _ C h2 h3 hl
theorem k_I {g : Gl} {y : Mt} {F : Ex} {lv : List (Nat × Value)} {nx : Nat} {st : List Value} {P : Int → Sg → Prop} (kk : ∀ v σ', P v σ' → jv g y F σ' lv nx (vi v :: st)) : ∀ r σ', PI P r σ' → jv g y F σ' lv nx (r.toList ++ st) := by
  rintro r σ' ⟨v, rfl, h⟩
  exact kk v σ' h
theorem k_L {g : Gl} {y : Mt} {F : Ex} {lv : List (Nat × Value)} {nx : Nat} {st : List Value} {P : Int → Sg → Prop} (kk : ∀ v σ', P v σ' → jv g y F σ' lv nx (vl v :: st)) : ∀ r σ', PL P r σ' → jv g y F σ' lv nx (r.toList ++ st) := by
  rintro r σ' ⟨v, rfl, h⟩
  exact kk v σ' h
theorem k_E {g : Gl} {y : Mt} {F : Ex} {lv : List (Nat × Value)} {nx : Nat} {st : List Value} {e : Int} {σ : Sg} (kk : jv g y F σ lv nx (vi e :: st)) : ∀ r σ', PE e σ r σ' → jv g y F σ' lv nx (r.toList ++ st) := by
  rintro r σ' ⟨v, rfl, rfl, rfl⟩
  exact kk
theorem k_EL {g : Gl} {y : Mt} {F : Ex} {lv : List (Nat × Value)} {nx : Nat} {st : List Value} {e : Int} {σ : Sg} (kk : jv g y F σ lv nx (vl e :: st)) : ∀ r σ', PEL e σ r σ' → jv g y F σ' lv nx (r.toList ++ st) := by
  rintro r σ' ⟨v, rfl, rfl, rfl⟩
  exact kk
theorem k_B {g : Gl} {y : Mt} {F : Ex} {lv : List (Nat × Value)} {nx : Nat} {st : List Value} {P : Prop} {σ : Sg} (kt : P → jv g y F σ lv nx (vi 1 :: st)) (kf : ¬ P → jv g y F σ lv nx (vi 0 :: st)) : ∀ r σ', PB P σ r σ' → jv g y F σ' lv nx (r.toList ++ st) := by
  rintro r σ' ⟨v, rfl, rfl, ⟨h, rfl⟩ | ⟨h, rfl⟩⟩
  · exact kt h
  · exact kf h
theorem k_V {g : Gl} {y : Mt} {F : Ex} {lv : List (Nat × Value)} {nx : Nat} {st : List Value} {P : Sg → Prop} (kk : ∀ σ', P σ' → jv g y F σ' lv nx st) : ∀ r σ', PV P r σ' → jv g y F σ' lv nx (r.toList ++ st) := by
  rintro r σ' ⟨rfl, h⟩
  exact kk σ' h
theorem k_VE {g : Gl} {y : Mt} {F : Ex} {lv : List (Nat × Value)} {nx : Nat} {st : List Value} {τ : Sg} (kk : jv g y F τ lv nx st) : ∀ r σ', PV (fun σ' => σ' = τ) r σ' → jv g y F σ' lv nx (r.toList ++ st) := by
  rintro r σ' ⟨rfl, rfl⟩
  exact kk
theorem k_R {g : Gl} {y : Mt} {F : Ex} {lv : List (Nat × Value)} {nx : Nat} {st : List Value} {k : Nat} {σ : Sg} (kk : jv g y F σ lv nx (vr g k :: st)) : ∀ r σ', PR g k σ r σ' → jv g y F σ' lv nx (r.toList ++ st) := by
  rintro r σ' ⟨rfl, rfl⟩
  exact kk
theorem PB_t {P : Prop} {σ : Sg} (h : P) : (fun v σ' => σ' = σ ∧ (P ∧ v = 1 ∨ ¬ P ∧ v = 0)) (1 : Int) σ := ⟨rfl, Or.inl ⟨h, rfl⟩⟩
theorem PB_f {P : Prop} {σ : Sg} (h : ¬ P) : (fun v σ' => σ' = σ ∧ (P ∧ v = 1 ∨ ¬ P ∧ v = 0)) (0 : Int) σ := ⟨rfl, Or.inr ⟨h, rfl⟩⟩
theorem j_cV0 {g : Gl} {y z : Mt} {F : Ex} {σ : Sg} {lv : List (Nat × Value)} {pc nx ix : Nat} {st : List Value} {Post : Option Value → Sg → Prop} {k ci : Nat} {C : String} {T : u_T} {N : Nat} {cs : List Nat} (hz : Zv z 0) (hk : Cond.methodLink y.1.cls ix z.1 ∈ tblG) (hR : Rm y z) (hq : lay[k]? = some (0, ci :: cs)) (hc : vwCl[ci]? = some (C, T, N)) (hC : z.1.cls = C) (hM : Ct g z (vr g k :: []) σ Post) (hr : (st.map fun v => v.category).sum ≤ 8) (hd : Dc y pc (.invokevirtual ix) 3 nx) (kk : ∀ r σ', Post r σ' → jv g y F σ' lv nx (r.toList ++ st)) : jv g y F σ lv pc (vr g k :: st) := j_callV (av := []) hz hk hR hq hc hC hM hr hd kk
theorem j_cV1 {g : Gl} {y z : Mt} {F : Ex} {σ : Sg} {lv : List (Nat × Value)} {pc nx ix : Nat} {st : List Value} {Post : Option Value → Sg → Prop} {a1 : Value} {k ci : Nat} {C : String} {T : u_T} {N : Nat} {cs : List Nat} (hz : Zv z 1) (hk : Cond.methodLink y.1.cls ix z.1 ∈ tblG) (hR : Rm y z) (hq : lay[k]? = some (0, ci :: cs)) (hc : vwCl[ci]? = some (C, T, N)) (hC : z.1.cls = C) (hM : Ct g z (vr g k :: [a1]) σ Post) (hr : (st.map fun v => v.category).sum ≤ 8) (hd : Dc y pc (.invokevirtual ix) 3 nx) (kk : ∀ r σ', Post r σ' → jv g y F σ' lv nx (r.toList ++ st)) : jv g y F σ lv pc (a1 :: vr g k :: st) := j_callV (av := [a1]) hz hk hR hq hc hC hM hr hd kk
theorem j_cV2 {g : Gl} {y z : Mt} {F : Ex} {σ : Sg} {lv : List (Nat × Value)} {pc nx ix : Nat} {st : List Value} {Post : Option Value → Sg → Prop} {a1 a2 : Value} {k ci : Nat} {C : String} {T : u_T} {N : Nat} {cs : List Nat} (hz : Zv z 2) (hk : Cond.methodLink y.1.cls ix z.1 ∈ tblG) (hR : Rm y z) (hq : lay[k]? = some (0, ci :: cs)) (hc : vwCl[ci]? = some (C, T, N)) (hC : z.1.cls = C) (hM : Ct g z (vr g k :: [a1, a2]) σ Post) (hr : (st.map fun v => v.category).sum ≤ 8) (hd : Dc y pc (.invokevirtual ix) 3 nx) (kk : ∀ r σ', Post r σ' → jv g y F σ' lv nx (r.toList ++ st)) : jv g y F σ lv pc (a2 :: a1 :: vr g k :: st) := j_callV (av := [a1, a2]) hz hk hR hq hc hC hM hr hd kk
theorem j_cV3 {g : Gl} {y z : Mt} {F : Ex} {σ : Sg} {lv : List (Nat × Value)} {pc nx ix : Nat} {st : List Value} {Post : Option Value → Sg → Prop} {a1 a2 a3 : Value} {k ci : Nat} {C : String} {T : u_T} {N : Nat} {cs : List Nat} (hz : Zv z 3) (hk : Cond.methodLink y.1.cls ix z.1 ∈ tblG) (hR : Rm y z) (hq : lay[k]? = some (0, ci :: cs)) (hc : vwCl[ci]? = some (C, T, N)) (hC : z.1.cls = C) (hM : Ct g z (vr g k :: [a1, a2, a3]) σ Post) (hr : (st.map fun v => v.category).sum ≤ 8) (hd : Dc y pc (.invokevirtual ix) 3 nx) (kk : ∀ r σ', Post r σ' → jv g y F σ' lv nx (r.toList ++ st)) : jv g y F σ lv pc (a3 :: a2 :: a1 :: vr g k :: st) := j_callV (av := [a1, a2, a3]) hz hk hR hq hc hC hM hr hd kk
theorem j_cV4 {g : Gl} {y z : Mt} {F : Ex} {σ : Sg} {lv : List (Nat × Value)} {pc nx ix : Nat} {st : List Value} {Post : Option Value → Sg → Prop} {a1 a2 a3 a4 : Value} {k ci : Nat} {C : String} {T : u_T} {N : Nat} {cs : List Nat} (hz : Zv z 4) (hk : Cond.methodLink y.1.cls ix z.1 ∈ tblG) (hR : Rm y z) (hq : lay[k]? = some (0, ci :: cs)) (hc : vwCl[ci]? = some (C, T, N)) (hC : z.1.cls = C) (hM : Ct g z (vr g k :: [a1, a2, a3, a4]) σ Post) (hr : (st.map fun v => v.category).sum ≤ 8) (hd : Dc y pc (.invokevirtual ix) 3 nx) (kk : ∀ r σ', Post r σ' → jv g y F σ' lv nx (r.toList ++ st)) : jv g y F σ lv pc (a4 :: a3 :: a2 :: a1 :: vr g k :: st) := j_callV (av := [a1, a2, a3, a4]) hz hk hR hq hc hC hM hr hd kk
theorem j_cV5 {g : Gl} {y z : Mt} {F : Ex} {σ : Sg} {lv : List (Nat × Value)} {pc nx ix : Nat} {st : List Value} {Post : Option Value → Sg → Prop} {a1 a2 a3 a4 a5 : Value} {k ci : Nat} {C : String} {T : u_T} {N : Nat} {cs : List Nat} (hz : Zv z 5) (hk : Cond.methodLink y.1.cls ix z.1 ∈ tblG) (hR : Rm y z) (hq : lay[k]? = some (0, ci :: cs)) (hc : vwCl[ci]? = some (C, T, N)) (hC : z.1.cls = C) (hM : Ct g z (vr g k :: [a1, a2, a3, a4, a5]) σ Post) (hr : (st.map fun v => v.category).sum ≤ 8) (hd : Dc y pc (.invokevirtual ix) 3 nx) (kk : ∀ r σ', Post r σ' → jv g y F σ' lv nx (r.toList ++ st)) : jv g y F σ lv pc (a5 :: a4 :: a3 :: a2 :: a1 :: vr g k :: st) := j_callV (av := [a1, a2, a3, a4, a5]) hz hk hR hq hc hC hM hr hd kk
theorem j_cVN0 {g : Gl} {y z : Mt} {F : Ex} {σ : Sg} {lv : List (Nat × Value)} {pc nx ix : Nat} {st : List Value} {Post : Option Value → Sg → Prop} {k ci : Nat} {C : String} {T : u_T} {N : Nat} {cs : List Nat} (hz : Zv z 0) {host : String} (hk : (y.1.cls, ix, z.1, host) ∈ nstL) (hR : Rm y z) (hq : lay[k]? = some (0, ci :: cs)) (hc : vwCl[ci]? = some (C, T, N)) (hC : z.1.cls = C) (hM : Ct g z (vr g k :: []) σ Post) (hr : (st.map fun v => v.category).sum ≤ 8) (hd : Dc y pc (.invokevirtual ix) 3 nx) (kk : ∀ r σ', Post r σ' → jv g y F σ' lv nx (r.toList ++ st)) : jv g y F σ lv pc (vr g k :: st) := j_callVN (av := []) hz hk hR hq hc hC hM hr hd kk
theorem j_cVN1 {g : Gl} {y z : Mt} {F : Ex} {σ : Sg} {lv : List (Nat × Value)} {pc nx ix : Nat} {st : List Value} {Post : Option Value → Sg → Prop} {a1 : Value} {k ci : Nat} {C : String} {T : u_T} {N : Nat} {cs : List Nat} (hz : Zv z 1) {host : String} (hk : (y.1.cls, ix, z.1, host) ∈ nstL) (hR : Rm y z) (hq : lay[k]? = some (0, ci :: cs)) (hc : vwCl[ci]? = some (C, T, N)) (hC : z.1.cls = C) (hM : Ct g z (vr g k :: [a1]) σ Post) (hr : (st.map fun v => v.category).sum ≤ 8) (hd : Dc y pc (.invokevirtual ix) 3 nx) (kk : ∀ r σ', Post r σ' → jv g y F σ' lv nx (r.toList ++ st)) : jv g y F σ lv pc (a1 :: vr g k :: st) := j_callVN (av := [a1]) hz hk hR hq hc hC hM hr hd kk
theorem j_cVN2 {g : Gl} {y z : Mt} {F : Ex} {σ : Sg} {lv : List (Nat × Value)} {pc nx ix : Nat} {st : List Value} {Post : Option Value → Sg → Prop} {a1 a2 : Value} {k ci : Nat} {C : String} {T : u_T} {N : Nat} {cs : List Nat} (hz : Zv z 2) {host : String} (hk : (y.1.cls, ix, z.1, host) ∈ nstL) (hR : Rm y z) (hq : lay[k]? = some (0, ci :: cs)) (hc : vwCl[ci]? = some (C, T, N)) (hC : z.1.cls = C) (hM : Ct g z (vr g k :: [a1, a2]) σ Post) (hr : (st.map fun v => v.category).sum ≤ 8) (hd : Dc y pc (.invokevirtual ix) 3 nx) (kk : ∀ r σ', Post r σ' → jv g y F σ' lv nx (r.toList ++ st)) : jv g y F σ lv pc (a2 :: a1 :: vr g k :: st) := j_callVN (av := [a1, a2]) hz hk hR hq hc hC hM hr hd kk
theorem j_cVN3 {g : Gl} {y z : Mt} {F : Ex} {σ : Sg} {lv : List (Nat × Value)} {pc nx ix : Nat} {st : List Value} {Post : Option Value → Sg → Prop} {a1 a2 a3 : Value} {k ci : Nat} {C : String} {T : u_T} {N : Nat} {cs : List Nat} (hz : Zv z 3) {host : String} (hk : (y.1.cls, ix, z.1, host) ∈ nstL) (hR : Rm y z) (hq : lay[k]? = some (0, ci :: cs)) (hc : vwCl[ci]? = some (C, T, N)) (hC : z.1.cls = C) (hM : Ct g z (vr g k :: [a1, a2, a3]) σ Post) (hr : (st.map fun v => v.category).sum ≤ 8) (hd : Dc y pc (.invokevirtual ix) 3 nx) (kk : ∀ r σ', Post r σ' → jv g y F σ' lv nx (r.toList ++ st)) : jv g y F σ lv pc (a3 :: a2 :: a1 :: vr g k :: st) := j_callVN (av := [a1, a2, a3]) hz hk hR hq hc hC hM hr hd kk
theorem j_cVN4 {g : Gl} {y z : Mt} {F : Ex} {σ : Sg} {lv : List (Nat × Value)} {pc nx ix : Nat} {st : List Value} {Post : Option Value → Sg → Prop} {a1 a2 a3 a4 : Value} {k ci : Nat} {C : String} {T : u_T} {N : Nat} {cs : List Nat} (hz : Zv z 4) {host : String} (hk : (y.1.cls, ix, z.1, host) ∈ nstL) (hR : Rm y z) (hq : lay[k]? = some (0, ci :: cs)) (hc : vwCl[ci]? = some (C, T, N)) (hC : z.1.cls = C) (hM : Ct g z (vr g k :: [a1, a2, a3, a4]) σ Post) (hr : (st.map fun v => v.category).sum ≤ 8) (hd : Dc y pc (.invokevirtual ix) 3 nx) (kk : ∀ r σ', Post r σ' → jv g y F σ' lv nx (r.toList ++ st)) : jv g y F σ lv pc (a4 :: a3 :: a2 :: a1 :: vr g k :: st) := j_callVN (av := [a1, a2, a3, a4]) hz hk hR hq hc hC hM hr hd kk
theorem j_cVN5 {g : Gl} {y z : Mt} {F : Ex} {σ : Sg} {lv : List (Nat × Value)} {pc nx ix : Nat} {st : List Value} {Post : Option Value → Sg → Prop} {a1 a2 a3 a4 a5 : Value} {k ci : Nat} {C : String} {T : u_T} {N : Nat} {cs : List Nat} (hz : Zv z 5) {host : String} (hk : (y.1.cls, ix, z.1, host) ∈ nstL) (hR : Rm y z) (hq : lay[k]? = some (0, ci :: cs)) (hc : vwCl[ci]? = some (C, T, N)) (hC : z.1.cls = C) (hM : Ct g z (vr g k :: [a1, a2, a3, a4, a5]) σ Post) (hr : (st.map fun v => v.category).sum ≤ 8) (hd : Dc y pc (.invokevirtual ix) 3 nx) (kk : ∀ r σ', Post r σ' → jv g y F σ' lv nx (r.toList ++ st)) : jv g y F σ lv pc (a5 :: a4 :: a3 :: a2 :: a1 :: vr g k :: st) := j_callVN (av := [a1, a2, a3, a4, a5]) hz hk hR hq hc hC hM hr hd kk
theorem j_cS0 {g : Gl} {y z : Mt} {F : Ex} {σ : Sg} {lv : List (Nat × Value)} {pc nx ix : Nat} {st : List Value} {Post : Option Value → Sg → Prop} (hz : Zs z 0) (hk : Cond.methodLink y.1.cls ix z.1 ∈ tblG) (hR : Rm y z) (hM : Ct g z [] σ Post) (hr : (st.map fun v => v.category).sum ≤ 8) (hd : Dc y pc (.invokestatic ix) 3 nx) (kk : ∀ r σ', Post r σ' → jv g y F σ' lv nx (r.toList ++ st)) : jv g y F σ lv pc (st) := j_callS (av := []) hz hk hR hM hr hd kk
theorem j_cS1 {g : Gl} {y z : Mt} {F : Ex} {σ : Sg} {lv : List (Nat × Value)} {pc nx ix : Nat} {st : List Value} {Post : Option Value → Sg → Prop} {a1 : Value} (hz : Zs z 1) (hk : Cond.methodLink y.1.cls ix z.1 ∈ tblG) (hR : Rm y z) (hM : Ct g z [a1] σ Post) (hr : (st.map fun v => v.category).sum ≤ 8) (hd : Dc y pc (.invokestatic ix) 3 nx) (kk : ∀ r σ', Post r σ' → jv g y F σ' lv nx (r.toList ++ st)) : jv g y F σ lv pc (a1 :: st) := j_callS (av := [a1]) hz hk hR hM hr hd kk
theorem j_cS2 {g : Gl} {y z : Mt} {F : Ex} {σ : Sg} {lv : List (Nat × Value)} {pc nx ix : Nat} {st : List Value} {Post : Option Value → Sg → Prop} {a1 a2 : Value} (hz : Zs z 2) (hk : Cond.methodLink y.1.cls ix z.1 ∈ tblG) (hR : Rm y z) (hM : Ct g z [a1, a2] σ Post) (hr : (st.map fun v => v.category).sum ≤ 8) (hd : Dc y pc (.invokestatic ix) 3 nx) (kk : ∀ r σ', Post r σ' → jv g y F σ' lv nx (r.toList ++ st)) : jv g y F σ lv pc (a2 :: a1 :: st) := j_callS (av := [a1, a2]) hz hk hR hM hr hd kk
theorem j_cS3 {g : Gl} {y z : Mt} {F : Ex} {σ : Sg} {lv : List (Nat × Value)} {pc nx ix : Nat} {st : List Value} {Post : Option Value → Sg → Prop} {a1 a2 a3 : Value} (hz : Zs z 3) (hk : Cond.methodLink y.1.cls ix z.1 ∈ tblG) (hR : Rm y z) (hM : Ct g z [a1, a2, a3] σ Post) (hr : (st.map fun v => v.category).sum ≤ 8) (hd : Dc y pc (.invokestatic ix) 3 nx) (kk : ∀ r σ', Post r σ' → jv g y F σ' lv nx (r.toList ++ st)) : jv g y F σ lv pc (a3 :: a2 :: a1 :: st) := j_callS (av := [a1, a2, a3]) hz hk hR hM hr hd kk
theorem j_cS4 {g : Gl} {y z : Mt} {F : Ex} {σ : Sg} {lv : List (Nat × Value)} {pc nx ix : Nat} {st : List Value} {Post : Option Value → Sg → Prop} {a1 a2 a3 a4 : Value} (hz : Zs z 4) (hk : Cond.methodLink y.1.cls ix z.1 ∈ tblG) (hR : Rm y z) (hM : Ct g z [a1, a2, a3, a4] σ Post) (hr : (st.map fun v => v.category).sum ≤ 8) (hd : Dc y pc (.invokestatic ix) 3 nx) (kk : ∀ r σ', Post r σ' → jv g y F σ' lv nx (r.toList ++ st)) : jv g y F σ lv pc (a4 :: a3 :: a2 :: a1 :: st) := j_callS (av := [a1, a2, a3, a4]) hz hk hR hM hr hd kk
theorem j_cS5 {g : Gl} {y z : Mt} {F : Ex} {σ : Sg} {lv : List (Nat × Value)} {pc nx ix : Nat} {st : List Value} {Post : Option Value → Sg → Prop} {a1 a2 a3 a4 a5 : Value} (hz : Zs z 5) (hk : Cond.methodLink y.1.cls ix z.1 ∈ tblG) (hR : Rm y z) (hM : Ct g z [a1, a2, a3, a4, a5] σ Post) (hr : (st.map fun v => v.category).sum ≤ 8) (hd : Dc y pc (.invokestatic ix) 3 nx) (kk : ∀ r σ', Post r σ' → jv g y F σ' lv nx (r.toList ++ st)) : jv g y F σ lv pc (a5 :: a4 :: a3 :: a2 :: a1 :: st) := j_callS (av := [a1, a2, a3, a4, a5]) hz hk hR hM hr hd kk
theorem j_cSN0 {g : Gl} {y z : Mt} {F : Ex} {σ : Sg} {lv : List (Nat × Value)} {pc nx ix : Nat} {st : List Value} {Post : Option Value → Sg → Prop} (hz : Zs z 0) {host : String} (hk : (y.1.cls, ix, z.1, host) ∈ nstL) (hR : Rm y z) (hM : Ct g z [] σ Post) (hr : (st.map fun v => v.category).sum ≤ 8) (hd : Dc y pc (.invokestatic ix) 3 nx) (kk : ∀ r σ', Post r σ' → jv g y F σ' lv nx (r.toList ++ st)) : jv g y F σ lv pc (st) := j_callSN (av := []) hz hk hR hM hr hd kk
theorem j_cSN1 {g : Gl} {y z : Mt} {F : Ex} {σ : Sg} {lv : List (Nat × Value)} {pc nx ix : Nat} {st : List Value} {Post : Option Value → Sg → Prop} {a1 : Value} (hz : Zs z 1) {host : String} (hk : (y.1.cls, ix, z.1, host) ∈ nstL) (hR : Rm y z) (hM : Ct g z [a1] σ Post) (hr : (st.map fun v => v.category).sum ≤ 8) (hd : Dc y pc (.invokestatic ix) 3 nx) (kk : ∀ r σ', Post r σ' → jv g y F σ' lv nx (r.toList ++ st)) : jv g y F σ lv pc (a1 :: st) := j_callSN (av := [a1]) hz hk hR hM hr hd kk
theorem j_cSN2 {g : Gl} {y z : Mt} {F : Ex} {σ : Sg} {lv : List (Nat × Value)} {pc nx ix : Nat} {st : List Value} {Post : Option Value → Sg → Prop} {a1 a2 : Value} (hz : Zs z 2) {host : String} (hk : (y.1.cls, ix, z.1, host) ∈ nstL) (hR : Rm y z) (hM : Ct g z [a1, a2] σ Post) (hr : (st.map fun v => v.category).sum ≤ 8) (hd : Dc y pc (.invokestatic ix) 3 nx) (kk : ∀ r σ', Post r σ' → jv g y F σ' lv nx (r.toList ++ st)) : jv g y F σ lv pc (a2 :: a1 :: st) := j_callSN (av := [a1, a2]) hz hk hR hM hr hd kk
theorem j_cSN3 {g : Gl} {y z : Mt} {F : Ex} {σ : Sg} {lv : List (Nat × Value)} {pc nx ix : Nat} {st : List Value} {Post : Option Value → Sg → Prop} {a1 a2 a3 : Value} (hz : Zs z 3) {host : String} (hk : (y.1.cls, ix, z.1, host) ∈ nstL) (hR : Rm y z) (hM : Ct g z [a1, a2, a3] σ Post) (hr : (st.map fun v => v.category).sum ≤ 8) (hd : Dc y pc (.invokestatic ix) 3 nx) (kk : ∀ r σ', Post r σ' → jv g y F σ' lv nx (r.toList ++ st)) : jv g y F σ lv pc (a3 :: a2 :: a1 :: st) := j_callSN (av := [a1, a2, a3]) hz hk hR hM hr hd kk
theorem j_cSN4 {g : Gl} {y z : Mt} {F : Ex} {σ : Sg} {lv : List (Nat × Value)} {pc nx ix : Nat} {st : List Value} {Post : Option Value → Sg → Prop} {a1 a2 a3 a4 : Value} (hz : Zs z 4) {host : String} (hk : (y.1.cls, ix, z.1, host) ∈ nstL) (hR : Rm y z) (hM : Ct g z [a1, a2, a3, a4] σ Post) (hr : (st.map fun v => v.category).sum ≤ 8) (hd : Dc y pc (.invokestatic ix) 3 nx) (kk : ∀ r σ', Post r σ' → jv g y F σ' lv nx (r.toList ++ st)) : jv g y F σ lv pc (a4 :: a3 :: a2 :: a1 :: st) := j_callSN (av := [a1, a2, a3, a4]) hz hk hR hM hr hd kk
theorem j_cSN5 {g : Gl} {y z : Mt} {F : Ex} {σ : Sg} {lv : List (Nat × Value)} {pc nx ix : Nat} {st : List Value} {Post : Option Value → Sg → Prop} {a1 a2 a3 a4 a5 : Value} (hz : Zs z 5) {host : String} (hk : (y.1.cls, ix, z.1, host) ∈ nstL) (hR : Rm y z) (hM : Ct g z [a1, a2, a3, a4, a5] σ Post) (hr : (st.map fun v => v.category).sum ≤ 8) (hd : Dc y pc (.invokestatic ix) 3 nx) (kk : ∀ r σ', Post r σ' → jv g y F σ' lv nx (r.toList ++ st)) : jv g y F σ lv pc (a5 :: a4 :: a3 :: a2 :: a1 :: st) := j_callSN (av := [a1, a2, a3, a4, a5]) hz hk hR hM hr hd kk
end
section
theorem ly0 : lay[0]? = some (0, 10 :: [0, 0, 3, 4, 5, 6, 7]) := rfl
theorem ly1 : lay[1]? = some (1, [3]) := rfl
theorem ly2 : lay[2]? = some (1, [18]) := rfl
theorem ly3 : lay[3]? = some (1, [3]) := rfl
theorem ly4 : lay[4]? = some (1, [3]) := rfl
theorem ly5 : lay[5]? = some (1, [3]) := rfl
theorem ly6 : lay[6]? = some (0, 10 :: [0, 0, 9, 10, 11, 12, 13]) := rfl
theorem ly7 : lay[7]? = some (1, [3]) := rfl
theorem ly8 : lay[8]? = some (1, [18]) := rfl
theorem ly9 : lay[9]? = some (1, [3]) := rfl
theorem ly10 : lay[10]? = some (1, [3]) := rfl
theorem ly11 : lay[11]? = some (1, [3]) := rfl
theorem ly12 : lay[12]? = some (0, 10 :: [0, 0, 15, 16, 17, 18, 19]) := rfl
theorem ly13 : lay[13]? = some (1, [3]) := rfl
theorem ly14 : lay[14]? = some (1, [18]) := rfl
theorem ly15 : lay[15]? = some (1, [3]) := rfl
theorem ly16 : lay[16]? = some (1, [3]) := rfl
theorem ly17 : lay[17]? = some (1, [3]) := rfl
theorem ly18 : lay[18]? = some (0, 10 :: [0, 0, 21, 22, 23, 24, 25]) := rfl
theorem ly19 : lay[19]? = some (1, [3]) := rfl
theorem ly20 : lay[20]? = some (1, [18]) := rfl
theorem ly21 : lay[21]? = some (1, [3]) := rfl
theorem ly22 : lay[22]? = some (1, [3]) := rfl
theorem ly23 : lay[23]? = some (1, [3]) := rfl
theorem ly24 : lay[24]? = some (0, 11 :: [27, 2, 29, 30, 32, 0, 33, 36, 37, 39, 42, 44, 48]) := rfl
theorem ly25 : lay[25]? = some (0, 8 :: [28, 0]) := rfl
theorem ly26 : lay[26]? = some (1, [120]) := rfl
theorem ly27 : lay[27]? = some (0, 7 :: [2, 0, 0]) := rfl
theorem ly28 : lay[28]? = some (0, 1 :: [31, 0]) := rfl
theorem ly29 : lay[29]? = some (1, [50]) := rfl
theorem ly30 : lay[30]? = some (4, [6, 12]) := rfl
theorem ly31 : lay[31]? = some (0, 6 :: [34, 35, 0]) := rfl
theorem ly32 : lay[32]? = some (1, [6]) := rfl
theorem ly33 : lay[33]? = some (1, [6]) := rfl
theorem ly34 : lay[34]? = some (0, 9 :: [20, 0, 0, 0, 0]) := rfl
theorem ly35 : lay[35]? = some (0, 4 :: [38, 0, 1]) := rfl
theorem ly36 : lay[36]? = some (2, [8]) := rfl
theorem ly37 : lay[37]? = some (0, 3 :: [40, 41, 0]) := rfl
theorem ly38 : lay[38]? = some (1, [127]) := rfl
theorem ly39 : lay[39]? = some (1, [127]) := rfl
theorem ly40 : lay[40]? = some (0, 2 :: [43, 0, 0]) := rfl
theorem ly41 : lay[41]? = some (1, [127]) := rfl
theorem ly42 : lay[42]? = some (0, 0 :: [45, 46, 47, 0]) := rfl
theorem ly43 : lay[43]? = some (1, [21]) := rfl
theorem ly44 : lay[44]? = some (2, [21]) := rfl
theorem ly45 : lay[45]? = some (2, [21]) := rfl
theorem ly46 : lay[46]? = some (0, 5 :: [49]) := rfl
theorem ly47 : lay[47]? = some (1, [3]) := rfl
theorem ly48 : lay[48]? = some (0, 12 :: [51, 52, 53, 54, 55, 0, 0, 0, 56, 57, 0, 58, 0, 59, 60, 61, 0, 0, 0, 62, 0, 1, 63, 64, 0, 65, 66, 0, 67, 0, 0, 68, 0, 69]) := rfl
theorem ly49 : lay[49]? = some (1, [32]) := rfl
theorem ly50 : lay[50]? = some (1, [32]) := rfl
theorem ly51 : lay[51]? = some (1, [64]) := rfl
theorem ly52 : lay[52]? = some (3, [2]) := rfl
theorem ly53 : lay[53]? = some (1, [40]) := rfl
theorem ly54 : lay[54]? = some (1, [6]) := rfl
theorem ly55 : lay[55]? = some (1, [6]) := rfl
theorem ly56 : lay[56]? = some (1, [120]) := rfl
theorem ly57 : lay[57]? = some (1, [120]) := rfl
theorem ly58 : lay[58]? = some (1, [120]) := rfl
theorem ly59 : lay[59]? = some (1, [120]) := rfl
theorem ly60 : lay[60]? = some (2, [8]) := rfl
theorem ly61 : lay[61]? = some (2, [6]) := rfl
theorem ly62 : lay[62]? = some (1, [400]) := rfl
theorem ly63 : lay[63]? = some (1, [200]) := rfl
theorem ly64 : lay[64]? = some (1, [200]) := rfl
theorem ly65 : lay[65]? = some (1, [130]) := rfl
theorem ly66 : lay[66]? = some (1, [30]) := rfl
theorem ly67 : lay[67]? = some (1, [3]) := rfl
theorem uw0 : ∀ w ∈ u_ws RX0 TX0 4, w ∈ tblG := by
  intro w hw
  have h1 : u_ws RX0 TX0 4 = [249, 251, 253, 255].filterMap (fun i => lw_tbl[i]?) := by decide +kernel
  have h2 : (u_ws RX0 TX0 4).all goodWord = true := by decide +kernel
  refine List.mem_filter.mpr ⟨?_, List.all_eq_true.mp h2 w hw⟩
  rw [h1] at hw
  obtain ⟨i, -, hi⟩ := List.mem_filterMap.mp hw
  exact List.mem_of_getElem? hi
theorem uw1 : ∀ w ∈ u_ws RX1 TX1 2, w ∈ tblG := by
  intro w hw
  have h1 : u_ws RX1 TX1 2 = [144, 146].filterMap (fun i => lw_tbl[i]?) := by decide +kernel
  have h2 : (u_ws RX1 TX1 2).all goodWord = true := by decide +kernel
  refine List.mem_filter.mpr ⟨?_, List.all_eq_true.mp h2 w hw⟩
  rw [h1] at hw
  obtain ⟨i, -, hi⟩ := List.mem_filterMap.mp hw
  exact List.mem_of_getElem? hi
theorem uw2 : ∀ w ∈ u_ws RX2 TX2 3, w ∈ tblG := by
  intro w hw
  have h1 : u_ws RX2 TX2 3 = [232, 234, 236].filterMap (fun i => lw_tbl[i]?) := by decide +kernel
  have h2 : (u_ws RX2 TX2 3).all goodWord = true := by decide +kernel
  refine List.mem_filter.mpr ⟨?_, List.all_eq_true.mp h2 w hw⟩
  rw [h1] at hw
  obtain ⟨i, -, hi⟩ := List.mem_filterMap.mp hw
  exact List.mem_of_getElem? hi
theorem uw3 : ∀ w ∈ u_ws RX3 TX3 3, w ∈ tblG := by
  intro w hw
  have h1 : u_ws RX3 TX3 3 = [216, 218, 220].filterMap (fun i => lw_tbl[i]?) := by decide +kernel
  have h2 : (u_ws RX3 TX3 3).all goodWord = true := by decide +kernel
  refine List.mem_filter.mpr ⟨?_, List.all_eq_true.mp h2 w hw⟩
  rw [h1] at hw
  obtain ⟨i, -, hi⟩ := List.mem_filterMap.mp hw
  exact List.mem_of_getElem? hi
theorem uw4 : ∀ w ∈ u_ws RX4 TX4 3, w ∈ tblG := by
  intro w hw
  have h1 : u_ws RX4 TX4 3 = [199, 201, 203].filterMap (fun i => lw_tbl[i]?) := by decide +kernel
  have h2 : (u_ws RX4 TX4 3).all goodWord = true := by decide +kernel
  refine List.mem_filter.mpr ⟨?_, List.all_eq_true.mp h2 w hw⟩
  rw [h1] at hw
  obtain ⟨i, -, hi⟩ := List.mem_filterMap.mp hw
  exact List.mem_of_getElem? hi
theorem uw5 : ∀ w ∈ u_ws RX5 TX5 1, w ∈ tblG := by
  intro w hw
  have h1 : u_ws RX5 TX5 1 = [265].filterMap (fun i => lw_tbl[i]?) := by decide +kernel
  have h2 : (u_ws RX5 TX5 1).all goodWord = true := by decide +kernel
  refine List.mem_filter.mpr ⟨?_, List.all_eq_true.mp h2 w hw⟩
  rw [h1] at hw
  obtain ⟨i, -, hi⟩ := List.mem_filterMap.mp hw
  exact List.mem_of_getElem? hi
theorem uw6 : ∀ w ∈ u_ws RX6 TX6 3, w ∈ tblG := by
  intro w hw
  have h1 : u_ws RX6 TX6 3 = [159, 161, 163].filterMap (fun i => lw_tbl[i]?) := by decide +kernel
  have h2 : (u_ws RX6 TX6 3).all goodWord = true := by decide +kernel
  refine List.mem_filter.mpr ⟨?_, List.all_eq_true.mp h2 w hw⟩
  rw [h1] at hw
  obtain ⟨i, -, hi⟩ := List.mem_filterMap.mp hw
  exact List.mem_of_getElem? hi
theorem uw7 : ∀ w ∈ u_ws RX7 TX7 3, w ∈ tblG := by
  intro w hw
  have h1 : u_ws RX7 TX7 3 = [129, 131, 133].filterMap (fun i => lw_tbl[i]?) := by decide +kernel
  have h2 : (u_ws RX7 TX7 3).all goodWord = true := by decide +kernel
  refine List.mem_filter.mpr ⟨?_, List.all_eq_true.mp h2 w hw⟩
  rw [h1] at hw
  obtain ⟨i, -, hi⟩ := List.mem_filterMap.mp hw
  exact List.mem_of_getElem? hi
theorem uw8 : ∀ w ∈ u_ws RX8 TX8 2, w ∈ tblG := by
  intro w hw
  have h1 : u_ws RX8 TX8 2 = [86, 88].filterMap (fun i => lw_tbl[i]?) := by decide +kernel
  have h2 : (u_ws RX8 TX8 2).all goodWord = true := by decide +kernel
  refine List.mem_filter.mpr ⟨?_, List.all_eq_true.mp h2 w hw⟩
  rw [h1] at hw
  obtain ⟨i, -, hi⟩ := List.mem_filterMap.mp hw
  exact List.mem_of_getElem? hi
theorem uw9 : ∀ w ∈ u_ws RX9 TX9 5, w ∈ tblG := by
  intro w hw
  have h1 : u_ws RX9 TX9 5 = [179, 181, 183, 185, 187].filterMap (fun i => lw_tbl[i]?) := by decide +kernel
  have h2 : (u_ws RX9 TX9 5).all goodWord = true := by decide +kernel
  refine List.mem_filter.mpr ⟨?_, List.all_eq_true.mp h2 w hw⟩
  rw [h1] at hw
  obtain ⟨i, -, hi⟩ := List.mem_filterMap.mp hw
  exact List.mem_of_getElem? hi
theorem uw10 : ∀ w ∈ u_ws RX10 TX10 7, w ∈ tblG := by
  intro w hw
  have h1 : u_ws RX10 TX10 7 = [105, 107, 109, 111, 113, 115, 117].filterMap (fun i => lw_tbl[i]?) := by decide +kernel
  have h2 : (u_ws RX10 TX10 7).all goodWord = true := by decide +kernel
  refine List.mem_filter.mpr ⟨?_, List.all_eq_true.mp h2 w hw⟩
  rw [h1] at hw
  obtain ⟨i, -, hi⟩ := List.mem_filterMap.mp hw
  exact List.mem_of_getElem? hi
theorem uw11 : ∀ w ∈ u_ws RX11 TX11 13, w ∈ tblG := by
  intro w hw
  have h1 : u_ws RX11 TX11 13 = [281, 283, 285, 287, 289, 291, 293, 295, 297, 299, 301, 303, 305].filterMap (fun i => lw_tbl[i]?) := by decide +kernel
  have h2 : (u_ws RX11 TX11 13).all goodWord = true := by decide +kernel
  refine List.mem_filter.mpr ⟨?_, List.all_eq_true.mp h2 w hw⟩
  rw [h1] at hw
  obtain ⟨i, -, hi⟩ := List.mem_filterMap.mp hw
  exact List.mem_of_getElem? hi
theorem uw12 : ∀ w ∈ u_ws RX12 TX12 34, w ∈ tblG := by
  intro w hw
  have h1 : u_ws RX12 TX12 34 = [981, 983, 985, 987, 989, 991, 993, 995, 997, 999, 1001, 1003, 1005, 1007, 1009, 1011, 1013, 1015, 1017, 1019, 1021, 1023, 1025, 1027, 1029, 1031, 1033, 1035, 1037, 1039, 1041, 1043, 1045, 1047].filterMap (fun i => lw_tbl[i]?) := by decide +kernel
  have h2 : (u_ws RX12 TX12 34).all goodWord = true := by decide +kernel
  refine List.mem_filter.mpr ⟨?_, List.all_eq_true.mp h2 w hw⟩
  rw [h1] at hw
  obtain ⟨i, -, hi⟩ := List.mem_filterMap.mp hw
  exact List.mem_of_getElem? hi
theorem flX11_12 : Gf RX11 12 11 0 0 := ⟨_, _, _, rfl, uw11, by decide, tblG_at 268 (by decide +kernel) (by decide +kernel), rfl⟩
theorem flX11_19 : Gf RX11 19 11 1 1 := ⟨_, _, _, rfl, uw11, by decide, tblG_at 269 (by decide +kernel) (by decide +kernel), rfl⟩
theorem flX11_28 : Gf RX11 28 11 2 2 := ⟨_, _, _, rfl, uw11, by decide, tblG_at 270 (by decide +kernel) (by decide +kernel), rfl⟩
theorem flX11_35 : Gf RX11 35 11 3 3 := ⟨_, _, _, rfl, uw11, by decide, tblG_at 271 (by decide +kernel) (by decide +kernel), rfl⟩
theorem flX11_39 : Gf RX11 39 11 4 4 := ⟨_, _, _, rfl, uw11, by decide, tblG_at 272 (by decide +kernel) (by decide +kernel), rfl⟩
theorem flX11_46 : Gf RX11 46 11 6 6 := ⟨_, _, _, rfl, uw11, by decide, tblG_at 274 (by decide +kernel) (by decide +kernel), rfl⟩
theorem flX11_53 : Gf RX11 53 11 7 7 := ⟨_, _, _, rfl, uw11, by decide, tblG_at 275 (by decide +kernel) (by decide +kernel), rfl⟩
theorem flX11_60 : Gf RX11 60 11 8 8 := ⟨_, _, _, rfl, uw11, by decide, tblG_at 276 (by decide +kernel) (by decide +kernel), rfl⟩
theorem flX11_67 : Gf RX11 67 11 9 9 := ⟨_, _, _, rfl, uw11, by decide, tblG_at 277 (by decide +kernel) (by decide +kernel), rfl⟩
theorem flX11_74 : Gf RX11 74 11 10 10 := ⟨_, _, _, rfl, uw11, by decide, tblG_at 278 (by decide +kernel) (by decide +kernel), rfl⟩
theorem flX11_81 : Gf RX11 81 11 11 11 := ⟨_, _, _, rfl, uw11, by decide, tblG_at 279 (by decide +kernel) (by decide +kernel), rfl⟩
theorem flX11_88 : Gf RX11 88 11 12 12 := ⟨_, _, _, rfl, uw11, by decide, tblG_at 280 (by decide +kernel) (by decide +kernel), rfl⟩
theorem flX11_127 : Gf RX11 127 11 5 5 := ⟨_, _, _, rfl, uw11, by decide, tblG_at 273 (by decide +kernel) (by decide +kernel), rfl⟩
theorem fpX11_127 : Pf RX11 127 11 5 5 .int := ⟨_, _, _, tyX11, rfl, uw11, by decide, tblG_at 273 (by decide +kernel) (by decide +kernel), rfl, tyX11_ok, nmX11, rfl, rfl⟩
theorem cnX11_153 : Cond.constantLong RX11 153 (kL (-4611686018427387904)) ∈ tblG := tblG_at 476 (by decide +kernel) (by decide +kernel)
theorem cnX11_234 : Cond.constantLong RX11 234 (kL (64)) ∈ tblG := tblG_at 671 (by decide +kernel) (by decide +kernel)
theorem flX0_11 : Gf RX0 11 0 0 0 := ⟨_, _, _, rfl, uw0, by decide, tblG_at 245 (by decide +kernel) (by decide +kernel), rfl⟩
theorem flX0_15 : Gf RX0 15 0 1 1 := ⟨_, _, _, rfl, uw0, by decide, tblG_at 246 (by decide +kernel) (by decide +kernel), rfl⟩
theorem flX0_19 : Gf RX0 19 0 2 2 := ⟨_, _, _, rfl, uw0, by decide, tblG_at 247 (by decide +kernel) (by decide +kernel), rfl⟩
theorem flX0_22 : Gf RX0 22 0 3 3 := ⟨_, _, _, rfl, uw0, by decide, tblG_at 248 (by decide +kernel) (by decide +kernel), rfl⟩
theorem fpX0_22 : Pf RX0 22 0 3 3 .int := ⟨_, _, _, tyX0, rfl, uw0, by decide, tblG_at 248 (by decide +kernel) (by decide +kernel), rfl, tyX0_ok, nmX0, rfl, rfl⟩
theorem flX1_11 : Gf RX1 11 1 0 0 := ⟨_, _, _, rfl, uw1, by decide, tblG_at 142 (by decide +kernel) (by decide +kernel), rfl⟩
theorem flX1_15 : Gf RX1 15 1 1 1 := ⟨_, _, _, rfl, uw1, by decide, tblG_at 143 (by decide +kernel) (by decide +kernel), rfl⟩
theorem fpX1_15 : Pf RX1 15 1 1 1 .int := ⟨_, _, _, tyX1, rfl, uw1, by decide, tblG_at 143 (by decide +kernel) (by decide +kernel), rfl, tyX1_ok, nmX1, rfl, rfl⟩
theorem flX2_9 : Gf RX2 9 2 0 0 := ⟨_, _, _, rfl, uw2, by decide, tblG_at 229 (by decide +kernel) (by decide +kernel), rfl⟩
theorem flX2_15 : Gf RX2 15 2 1 1 := ⟨_, _, _, rfl, uw2, by decide, tblG_at 230 (by decide +kernel) (by decide +kernel), rfl⟩
theorem fpX2_15 : Pf RX2 15 2 1 1 .int := ⟨_, _, _, tyX2, rfl, uw2, by decide, tblG_at 230 (by decide +kernel) (by decide +kernel), rfl, tyX2_ok, nmX2, rfl, rfl⟩
theorem flX2_19 : Gf RX2 19 2 2 2 := ⟨_, _, _, rfl, uw2, by decide, tblG_at 231 (by decide +kernel) (by decide +kernel), rfl⟩
theorem fpX2_19 : Pf RX2 19 2 2 2 .int := ⟨_, _, _, tyX2, rfl, uw2, by decide, tblG_at 231 (by decide +kernel) (by decide +kernel), rfl, tyX2_ok, nmX2, rfl, rfl⟩
theorem flX3_9 : Gf RX3 9 3 0 0 := ⟨_, _, _, rfl, uw3, by decide, tblG_at 213 (by decide +kernel) (by decide +kernel), rfl⟩
theorem flX3_15 : Gf RX3 15 3 1 1 := ⟨_, _, _, rfl, uw3, by decide, tblG_at 214 (by decide +kernel) (by decide +kernel), rfl⟩
theorem flX3_18 : Gf RX3 18 3 2 2 := ⟨_, _, _, rfl, uw3, by decide, tblG_at 215 (by decide +kernel) (by decide +kernel), rfl⟩
theorem fpX3_18 : Pf RX3 18 3 2 2 .int := ⟨_, _, _, tyX3, rfl, uw3, by decide, tblG_at 215 (by decide +kernel) (by decide +kernel), rfl, tyX3_ok, nmX3, rfl, rfl⟩
theorem flX4_9 : Gf RX4 9 4 0 0 := ⟨_, _, _, rfl, uw4, by decide, tblG_at 196 (by decide +kernel) (by decide +kernel), rfl⟩
theorem flX4_15 : Gf RX4 15 4 1 1 := ⟨_, _, _, rfl, uw4, by decide, tblG_at 197 (by decide +kernel) (by decide +kernel), rfl⟩
theorem fpX4_15 : Pf RX4 15 4 1 1 .int := ⟨_, _, _, tyX4, rfl, uw4, by decide, tblG_at 197 (by decide +kernel) (by decide +kernel), rfl, tyX4_ok, nmX4, rfl, rfl⟩
theorem flX4_60 : Gf RX4 60 4 2 2 := ⟨_, _, _, rfl, uw4, by decide, tblG_at 198 (by decide +kernel) (by decide +kernel), rfl⟩
theorem fpX4_60 : Pf RX4 60 4 2 2 .long := ⟨_, _, _, tyX4, rfl, uw4, by decide, tblG_at 198 (by decide +kernel) (by decide +kernel), rfl, tyX4_ok, nmX4, rfl, rfl⟩
theorem cnX4_67 : Cond.constantLong RX4 67 (kL (64)) ∈ tblG := tblG_at 617 (by decide +kernel) (by decide +kernel)
theorem cnX4_88 : Cond.constantLong RX4 88 (kL (60)) ∈ tblG := tblG_at 839 (by decide +kernel) (by decide +kernel)
theorem flX5_11 : Gf RX5 11 5 0 0 := ⟨_, _, _, rfl, uw5, by decide, tblG_at 264 (by decide +kernel) (by decide +kernel), rfl⟩
theorem flX6_9 : Gf RX6 9 6 0 0 := ⟨_, _, _, rfl, uw6, by decide, tblG_at 156 (by decide +kernel) (by decide +kernel), rfl⟩
theorem flX6_15 : Gf RX6 15 6 1 1 := ⟨_, _, _, rfl, uw6, by decide, tblG_at 157 (by decide +kernel) (by decide +kernel), rfl⟩
theorem flX6_18 : Gf RX6 18 6 2 2 := ⟨_, _, _, rfl, uw6, by decide, tblG_at 158 (by decide +kernel) (by decide +kernel), rfl⟩
theorem fpX6_18 : Pf RX6 18 6 2 2 .int := ⟨_, _, _, tyX6, rfl, uw6, by decide, tblG_at 158 (by decide +kernel) (by decide +kernel), rfl, tyX6_ok, nmX6, rfl, rfl⟩
theorem flX7_9 : Gf RX7 9 7 0 0 := ⟨_, _, _, rfl, uw7, by decide, tblG_at 126 (by decide +kernel) (by decide +kernel), rfl⟩
theorem flX7_15 : Gf RX7 15 7 1 1 := ⟨_, _, _, rfl, uw7, by decide, tblG_at 127 (by decide +kernel) (by decide +kernel), rfl⟩
theorem fpX7_15 : Pf RX7 15 7 1 1 .int := ⟨_, _, _, tyX7, rfl, uw7, by decide, tblG_at 127 (by decide +kernel) (by decide +kernel), rfl, tyX7_ok, nmX7, rfl, rfl⟩
theorem flX7_19 : Gf RX7 19 7 2 2 := ⟨_, _, _, rfl, uw7, by decide, tblG_at 128 (by decide +kernel) (by decide +kernel), rfl⟩
theorem fpX7_19 : Pf RX7 19 7 2 2 .int := ⟨_, _, _, tyX7, rfl, uw7, by decide, tblG_at 128 (by decide +kernel) (by decide +kernel), rfl, tyX7_ok, nmX7, rfl, rfl⟩
theorem flX8_9 : Gf RX8 9 8 0 0 := ⟨_, _, _, rfl, uw8, by decide, tblG_at 84 (by decide +kernel) (by decide +kernel), rfl⟩
theorem flX8_15 : Gf RX8 15 8 1 1 := ⟨_, _, _, rfl, uw8, by decide, tblG_at 85 (by decide +kernel) (by decide +kernel), rfl⟩
theorem fpX8_15 : Pf RX8 15 8 1 1 .int := ⟨_, _, _, tyX8, rfl, uw8, by decide, tblG_at 85 (by decide +kernel) (by decide +kernel), rfl, tyX8_ok, nmX8, rfl, rfl⟩
theorem flX9_12 : Gf RX9 12 9 0 0 := ⟨_, _, _, rfl, uw9, by decide, tblG_at 174 (by decide +kernel) (by decide +kernel), rfl⟩
theorem flX9_21 : Gf RX9 21 9 1 1 := ⟨_, _, _, rfl, uw9, by decide, tblG_at 175 (by decide +kernel) (by decide +kernel), rfl⟩
theorem fpX9_21 : Pf RX9 21 9 1 1 .int := ⟨_, _, _, tyX9, rfl, uw9, by decide, tblG_at 175 (by decide +kernel) (by decide +kernel), rfl, tyX9_ok, nmX9, rfl, rfl⟩
theorem flX9_75 : Gf RX9 75 9 2 2 := ⟨_, _, _, rfl, uw9, by decide, tblG_at 176 (by decide +kernel) (by decide +kernel), rfl⟩
theorem fpX9_75 : Pf RX9 75 9 2 2 .int := ⟨_, _, _, tyX9, rfl, uw9, by decide, tblG_at 176 (by decide +kernel) (by decide +kernel), rfl, tyX9_ok, nmX9, rfl, rfl⟩
theorem flX9_78 : Gf RX9 78 9 3 3 := ⟨_, _, _, rfl, uw9, by decide, tblG_at 177 (by decide +kernel) (by decide +kernel), rfl⟩
theorem fpX9_78 : Pf RX9 78 9 3 3 .boolean := ⟨_, _, _, tyX9, rfl, uw9, by decide, tblG_at 177 (by decide +kernel) (by decide +kernel), rfl, tyX9_ok, nmX9, rfl, rfl⟩
theorem flX9_100 : Gf RX9 100 9 4 4 := ⟨_, _, _, rfl, uw9, by decide, tblG_at 178 (by decide +kernel) (by decide +kernel), rfl⟩
theorem fpX9_100 : Pf RX9 100 9 4 4 .int := ⟨_, _, _, tyX9, rfl, uw9, by decide, tblG_at 178 (by decide +kernel) (by decide +kernel), rfl, tyX9_ok, nmX9, rfl, rfl⟩
theorem flX10_9 : Gf RX10 9 10 2 2 := ⟨_, _, _, rfl, uw10, by decide, tblG_at 100 (by decide +kernel) (by decide +kernel), rfl⟩
theorem flX10_15 : Gf RX10 15 10 3 3 := ⟨_, _, _, rfl, uw10, by decide, tblG_at 101 (by decide +kernel) (by decide +kernel), rfl⟩
theorem flX10_18 : Gf RX10 18 10 4 4 := ⟨_, _, _, rfl, uw10, by decide, tblG_at 102 (by decide +kernel) (by decide +kernel), rfl⟩
theorem flX10_21 : Gf RX10 21 10 5 5 := ⟨_, _, _, rfl, uw10, by decide, tblG_at 103 (by decide +kernel) (by decide +kernel), rfl⟩
theorem flX10_24 : Gf RX10 24 10 6 6 := ⟨_, _, _, rfl, uw10, by decide, tblG_at 104 (by decide +kernel) (by decide +kernel), rfl⟩
theorem flX10_27 : Gf RX10 27 10 0 0 := ⟨_, _, _, rfl, uw10, by decide, tblG_at 98 (by decide +kernel) (by decide +kernel), rfl⟩
theorem fpX10_27 : Pf RX10 27 10 0 0 .int := ⟨_, _, _, tyX10, rfl, uw10, by decide, tblG_at 98 (by decide +kernel) (by decide +kernel), rfl, tyX10_ok, nmX10, rfl, rfl⟩
theorem flX10_31 : Gf RX10 31 10 1 1 := ⟨_, _, _, rfl, uw10, by decide, tblG_at 99 (by decide +kernel) (by decide +kernel), rfl⟩
theorem fpX10_31 : Pf RX10 31 10 1 1 .int := ⟨_, _, _, tyX10, rfl, uw10, by decide, tblG_at 99 (by decide +kernel) (by decide +kernel), rfl, tyX10_ok, nmX10, rfl, rfl⟩
theorem flX12_7 : Gf RX12 7 12 0 0 := ⟨_, _, _, rfl, uw12, by decide, tblG_at 947 (by decide +kernel) (by decide +kernel), rfl⟩
theorem flX12_13 : Gf RX12 13 12 1 1 := ⟨_, _, _, rfl, uw12, by decide, tblG_at 948 (by decide +kernel) (by decide +kernel), rfl⟩
theorem flX12_16 : Gf RX12 16 12 2 2 := ⟨_, _, _, rfl, uw12, by decide, tblG_at 949 (by decide +kernel) (by decide +kernel), rfl⟩
theorem flX12_19 : Gf RX12 19 12 3 3 := ⟨_, _, _, rfl, uw12, by decide, tblG_at 950 (by decide +kernel) (by decide +kernel), rfl⟩
theorem flX12_23 : Gf RX12 23 12 4 4 := ⟨_, _, _, rfl, uw12, by decide, tblG_at 951 (by decide +kernel) (by decide +kernel), rfl⟩
theorem flX12_26 : Gf RX12 26 12 8 8 := ⟨_, _, _, rfl, uw12, by decide, tblG_at 955 (by decide +kernel) (by decide +kernel), rfl⟩
theorem flX12_29 : Gf RX12 29 12 9 9 := ⟨_, _, _, rfl, uw12, by decide, tblG_at 956 (by decide +kernel) (by decide +kernel), rfl⟩
theorem flX12_32 : Gf RX12 32 12 11 11 := ⟨_, _, _, rfl, uw12, by decide, tblG_at 958 (by decide +kernel) (by decide +kernel), rfl⟩
theorem flX12_35 : Gf RX12 35 12 13 13 := ⟨_, _, _, rfl, uw12, by decide, tblG_at 960 (by decide +kernel) (by decide +kernel), rfl⟩
theorem flX12_38 : Gf RX12 38 12 14 14 := ⟨_, _, _, rfl, uw12, by decide, tblG_at 961 (by decide +kernel) (by decide +kernel), rfl⟩
theorem flX12_41 : Gf RX12 41 12 15 15 := ⟨_, _, _, rfl, uw12, by decide, tblG_at 962 (by decide +kernel) (by decide +kernel), rfl⟩
theorem flX12_44 : Gf RX12 44 12 19 19 := ⟨_, _, _, rfl, uw12, by decide, tblG_at 966 (by decide +kernel) (by decide +kernel), rfl⟩
theorem flX12_48 : Gf RX12 48 12 22 22 := ⟨_, _, _, rfl, uw12, by decide, tblG_at 969 (by decide +kernel) (by decide +kernel), rfl⟩
theorem flX12_51 : Gf RX12 51 12 23 23 := ⟨_, _, _, rfl, uw12, by decide, tblG_at 970 (by decide +kernel) (by decide +kernel), rfl⟩
theorem flX12_54 : Gf RX12 54 12 25 25 := ⟨_, _, _, rfl, uw12, by decide, tblG_at 972 (by decide +kernel) (by decide +kernel), rfl⟩
theorem flX12_57 : Gf RX12 57 12 26 26 := ⟨_, _, _, rfl, uw12, by decide, tblG_at 973 (by decide +kernel) (by decide +kernel), rfl⟩
theorem flX12_60 : Gf RX12 60 12 28 28 := ⟨_, _, _, rfl, uw12, by decide, tblG_at 975 (by decide +kernel) (by decide +kernel), rfl⟩
theorem flX12_63 : Gf RX12 63 12 31 31 := ⟨_, _, _, rfl, uw12, by decide, tblG_at 978 (by decide +kernel) (by decide +kernel), rfl⟩
theorem flX12_66 : Gf RX12 66 12 33 33 := ⟨_, _, _, rfl, uw12, by decide, tblG_at 980 (by decide +kernel) (by decide +kernel), rfl⟩
theorem flX12_72 : Gf RX12 72 12 5 5 := ⟨_, _, _, rfl, uw12, by decide, tblG_at 952 (by decide +kernel) (by decide +kernel), rfl⟩
theorem fpX12_72 : Pf RX12 72 12 5 5 .int := ⟨_, _, _, tyX12, rfl, uw12, by decide, tblG_at 952 (by decide +kernel) (by decide +kernel), rfl, tyX12_ok, nmX12, rfl, rfl⟩
theorem flX12_76 : Gf RX12 76 12 10 10 := ⟨_, _, _, rfl, uw12, by decide, tblG_at 957 (by decide +kernel) (by decide +kernel), rfl⟩
theorem fpX12_76 : Pf RX12 76 12 10 10 .int := ⟨_, _, _, tyX12, rfl, uw12, by decide, tblG_at 957 (by decide +kernel) (by decide +kernel), rfl, tyX12_ok, nmX12, rfl, rfl⟩
theorem flX12_79 : Gf RX12 79 12 6 6 := ⟨_, _, _, rfl, uw12, by decide, tblG_at 953 (by decide +kernel) (by decide +kernel), rfl⟩
theorem fpX12_79 : Pf RX12 79 12 6 6 .int := ⟨_, _, _, tyX12, rfl, uw12, by decide, tblG_at 953 (by decide +kernel) (by decide +kernel), rfl, tyX12_ok, nmX12, rfl, rfl⟩
theorem flX12_82 : Gf RX12 82 12 7 7 := ⟨_, _, _, rfl, uw12, by decide, tblG_at 954 (by decide +kernel) (by decide +kernel), rfl⟩
theorem fpX12_82 : Pf RX12 82 12 7 7 .int := ⟨_, _, _, tyX12, rfl, uw12, by decide, tblG_at 954 (by decide +kernel) (by decide +kernel), rfl, tyX12_ok, nmX12, rfl, rfl⟩
theorem flX12_89 : Gf RX12 89 12 12 12 := ⟨_, _, _, rfl, uw12, by decide, tblG_at 959 (by decide +kernel) (by decide +kernel), rfl⟩
theorem fpX12_89 : Pf RX12 89 12 12 12 .int := ⟨_, _, _, tyX12, rfl, uw12, by decide, tblG_at 959 (by decide +kernel) (by decide +kernel), rfl, tyX12_ok, nmX12, rfl, rfl⟩
theorem flX12_92 : Gf RX12 92 12 16 16 := ⟨_, _, _, rfl, uw12, by decide, tblG_at 963 (by decide +kernel) (by decide +kernel), rfl⟩
theorem fpX12_92 : Pf RX12 92 12 16 16 .int := ⟨_, _, _, tyX12, rfl, uw12, by decide, tblG_at 963 (by decide +kernel) (by decide +kernel), rfl, tyX12_ok, nmX12, rfl, rfl⟩
theorem flX12_99 : Gf RX12 99 12 17 17 := ⟨_, _, _, rfl, uw12, by decide, tblG_at 964 (by decide +kernel) (by decide +kernel), rfl⟩
theorem fpX12_99 : Pf RX12 99 12 17 17 .int := ⟨_, _, _, tyX12, rfl, uw12, by decide, tblG_at 964 (by decide +kernel) (by decide +kernel), rfl, tyX12_ok, nmX12, rfl, rfl⟩
theorem flX12_106 : Gf RX12 106 12 18 18 := ⟨_, _, _, rfl, uw12, by decide, tblG_at 965 (by decide +kernel) (by decide +kernel), rfl⟩
theorem fpX12_106 : Pf RX12 106 12 18 18 .int := ⟨_, _, _, tyX12, rfl, uw12, by decide, tblG_at 965 (by decide +kernel) (by decide +kernel), rfl, tyX12_ok, nmX12, rfl, rfl⟩
theorem cnX12_132 : Cond.constantLong RX12 132 (kL (-4611686018427387904)) ∈ tblG := tblG_at 1110 (by decide +kernel) (by decide +kernel)
theorem cnX12_148 : Cond.constantLong RX12 148 (kL (64)) ∈ tblG := tblG_at 1165 (by decide +kernel) (by decide +kernel)
theorem flX12_161 : Gf RX12 161 12 20 20 := ⟨_, _, _, rfl, uw12, by decide, tblG_at 967 (by decide +kernel) (by decide +kernel), rfl⟩
theorem fpX12_161 : Pf RX12 161 12 20 20 .int := ⟨_, _, _, tyX12, rfl, uw12, by decide, tblG_at 967 (by decide +kernel) (by decide +kernel), rfl, tyX12_ok, nmX12, rfl, rfl⟩
theorem flX12_168 : Gf RX12 168 12 21 21 := ⟨_, _, _, rfl, uw12, by decide, tblG_at 968 (by decide +kernel) (by decide +kernel), rfl⟩
theorem fpX12_168 : Pf RX12 168 12 21 21 .long := ⟨_, _, _, tyX12, rfl, uw12, by decide, tblG_at 968 (by decide +kernel) (by decide +kernel), rfl, tyX12_ok, nmX12, rfl, rfl⟩
theorem flX12_193 : Gf RX12 193 12 24 24 := ⟨_, _, _, rfl, uw12, by decide, tblG_at 971 (by decide +kernel) (by decide +kernel), rfl⟩
theorem fpX12_193 : Pf RX12 193 12 24 24 .int := ⟨_, _, _, tyX12, rfl, uw12, by decide, tblG_at 971 (by decide +kernel) (by decide +kernel), rfl, tyX12_ok, nmX12, rfl, rfl⟩
theorem flX12_196 : Gf RX12 196 12 27 27 := ⟨_, _, _, rfl, uw12, by decide, tblG_at 974 (by decide +kernel) (by decide +kernel), rfl⟩
theorem fpX12_196 : Pf RX12 196 12 27 27 .int := ⟨_, _, _, tyX12, rfl, uw12, by decide, tblG_at 974 (by decide +kernel) (by decide +kernel), rfl, tyX12_ok, nmX12, rfl, rfl⟩
theorem flX12_209 : Gf RX12 209 12 29 29 := ⟨_, _, _, rfl, uw12, by decide, tblG_at 976 (by decide +kernel) (by decide +kernel), rfl⟩
theorem fpX12_209 : Pf RX12 209 12 29 29 .int := ⟨_, _, _, tyX12, rfl, uw12, by decide, tblG_at 976 (by decide +kernel) (by decide +kernel), rfl, tyX12_ok, nmX12, rfl, rfl⟩
theorem flX12_216 : Gf RX12 216 12 30 30 := ⟨_, _, _, rfl, uw12, by decide, tblG_at 977 (by decide +kernel) (by decide +kernel), rfl⟩
theorem fpX12_216 : Pf RX12 216 12 30 30 .int := ⟨_, _, _, tyX12, rfl, uw12, by decide, tblG_at 977 (by decide +kernel) (by decide +kernel), rfl, tyX12_ok, nmX12, rfl, rfl⟩
theorem flX12_222 : Gf RX12 222 12 32 32 := ⟨_, _, _, rfl, uw12, by decide, tblG_at 979 (by decide +kernel) (by decide +kernel), rfl⟩
theorem fpX12_222 : Pf RX12 222 12 32 32 .int := ⟨_, _, _, tyX12, rfl, uw12, by decide, tblG_at 979 (by decide +kernel) (by decide +kernel), rfl, tyX12_ok, nmX12, rfl, rfl⟩
def mJ7_fill_53178 : Mt := (yJ7_fill_53178, cJ7_fill_53178, 4, none, { frames := 0, cells := 0, slots := 0, locals := 0 })
theorem zJ7_fill_53178 : Zs mJ7_fill_53178 2 := ⟨tblG_at 851 (by decide +kernel) (by decide +kernel), tblG_at 69 (by decide +kernel) (by decide +kernel), ⟨by decide +kernel, by decide +kernel, by decide +kernel⟩, rfl, rfl, tblG_at 850 (by decide +kernel) (by decide +kernel)⟩
def mJ7_fill_d0a16 : Mt := (yJ7_fill_d0a16, cJ7_fill_d0a16, 5, none, { frames := 0, cells := 0, slots := 0, locals := 0 })
theorem zJ7_fill_d0a16 : Zs mJ7_fill_d0a16 2 := ⟨tblG_at 615 (by decide +kernel) (by decide +kernel), tblG_at 69 (by decide +kernel) (by decide +kernel), ⟨by decide +kernel, by decide +kernel, by decide +kernel⟩, rfl, rfl, tblG_at 614 (by decide +kernel) (by decide +kernel)⟩
def mL_law : Mt := (yL_law, cL_law, 4, some .boolean, room_1)
def mX0_leastEnd : Mt := (yX0_leastEnd, cX0_leastEnd, 1, (some .long), { frames := 2, cells := 0, slots := 0, locals := 47 })
theorem zX0_leastEnd : Zv mX0_leastEnd 0 := ⟨tblG_at 834 (by decide +kernel) (by decide +kernel), tblG_at 64 (by decide +kernel) (by decide +kernel), ⟨by decide +kernel, by decide +kernel, by decide +kernel⟩, rfl, rfl, tblG_at 832 (by decide +kernel) (by decide +kernel), tblG_at 833 (by decide +kernel) (by decide +kernel)⟩
def mX0_leastNumber : Mt := (yX0_leastNumber, cX0_leastNumber, 1, (some .long), { frames := 2, cells := 0, slots := 0, locals := 47 })
theorem zX0_leastNumber : Zv mX0_leastNumber 0 := ⟨tblG_at 825 (by decide +kernel) (by decide +kernel), tblG_at 64 (by decide +kernel) (by decide +kernel), ⟨by decide +kernel, by decide +kernel, by decide +kernel⟩, rfl, rfl, tblG_at 823 (by decide +kernel) (by decide +kernel), tblG_at 824 (by decide +kernel) (by decide +kernel)⟩
def mX0_leastOf : Mt := (yX0_leastOf, cX0_leastOf, 5, (some .long), { frames := 1, cells := 0, slots := 0, locals := 23 })
theorem zX0_leastOf : Zv mX0_leastOf 1 := ⟨tblG_at 829 (by decide +kernel) (by decide +kernel), tblG_at 64 (by decide +kernel) (by decide +kernel), ⟨by decide +kernel, by decide +kernel, by decide +kernel⟩, rfl, rfl, tblG_at 828 (by decide +kernel) (by decide +kernel), tblG_at 22 (by decide +kernel) (by decide +kernel)⟩
def mX0_lowest : Mt := (yX0_lowest, cX0_lowest, 3, (some .int), { frames := 0, cells := 0, slots := 0, locals := 0 })
theorem zX0_lowest : Zv mX0_lowest 0 := ⟨tblG_at 816 (by decide +kernel) (by decide +kernel), tblG_at 64 (by decide +kernel) (by decide +kernel), ⟨by decide +kernel, by decide +kernel, by decide +kernel⟩, rfl, rfl, tblG_at 815 (by decide +kernel) (by decide +kernel), tblG_at 20 (by decide +kernel) (by decide +kernel)⟩
def mX0_makeRoom : Mt := (yX0_makeRoom, cX0_makeRoom, 3, none, { frames := 1, cells := 0, slots := 0, locals := 48 })
theorem zX0_makeRoom : Zv mX0_makeRoom 1 := ⟨tblG_at 820 (by decide +kernel) (by decide +kernel), tblG_at 64 (by decide +kernel) (by decide +kernel), ⟨by decide +kernel, by decide +kernel, by decide +kernel⟩, rfl, rfl, tblG_at 819 (by decide +kernel) (by decide +kernel), tblG_at 21 (by decide +kernel) (by decide +kernel)⟩
def mX0_narrow : Mt := (yX0_narrow, cX0_narrow, 7, none, { frames := 5, cells := 0, slots := 0, locals := 121 })
theorem zX0_narrow : Zv mX0_narrow 3 := ⟨tblG_at 792 (by decide +kernel) (by decide +kernel), tblG_at 64 (by decide +kernel) (by decide +kernel), ⟨by decide +kernel, by decide +kernel, by decide +kernel⟩, rfl, rfl, tblG_at 790 (by decide +kernel) (by decide +kernel), tblG_at 791 (by decide +kernel) (by decide +kernel)⟩
def mX0_put : Mt := (yX0_put, cX0_put, 5, none, { frames := 4, cells := 0, slots := 0, locals := 97 })
theorem zX0_put : Zv mX0_put 4 := ⟨tblG_at 796 (by decide +kernel) (by decide +kernel), tblG_at 64 (by decide +kernel) (by decide +kernel), ⟨by decide +kernel, by decide +kernel, by decide +kernel⟩, rfl, rfl, tblG_at 795 (by decide +kernel) (by decide +kernel), tblG_at 18 (by decide +kernel) (by decide +kernel)⟩
def mX10_addBox : Mt := (yX10_addBox, cX10_addBox, 3, none, { frames := 0, cells := 0, slots := 0, locals := 0 })
theorem zX10_addBox : Zv mX10_addBox 2 := ⟨tblG_at 392 (by decide +kernel) (by decide +kernel), tblG_at 56 (by decide +kernel) (by decide +kernel), ⟨by decide +kernel, by decide +kernel, by decide +kernel⟩, rfl, rfl, tblG_at 390 (by decide +kernel) (by decide +kernel), tblG_at 391 (by decide +kernel) (by decide +kernel)⟩
def mX10_addCoefficient : Mt := (yX10_addCoefficient, cX10_addCoefficient, 3, none, { frames := 1, cells := 0, slots := 0, locals := 21 })
theorem zX10_addCoefficient : Zv mX10_addCoefficient 1 := ⟨tblG_at 377 (by decide +kernel) (by decide +kernel), tblG_at 56 (by decide +kernel) (by decide +kernel), ⟨by decide +kernel, by decide +kernel, by decide +kernel⟩, rfl, rfl, tblG_at 375 (by decide +kernel) (by decide +kernel), tblG_at 376 (by decide +kernel) (by decide +kernel)⟩
def mX10_addPolynomial : Mt := (yX10_addPolynomial, cX10_addPolynomial, 1, none, { frames := 0, cells := 0, slots := 0, locals := 0 })
theorem zX10_addPolynomial : Zv mX10_addPolynomial 0 := ⟨tblG_at 408 (by decide +kernel) (by decide +kernel), tblG_at 56 (by decide +kernel) (by decide +kernel), ⟨by decide +kernel, by decide +kernel, by decide +kernel⟩, rfl, rfl, tblG_at 406 (by decide +kernel) (by decide +kernel), tblG_at 407 (by decide +kernel) (by decide +kernel)⟩
def mX10_at : Mt := (yX10_at, cX10_at, 5, (some .int), { frames := 2, cells := 0, slots := 0, locals := 44 })
theorem zX10_at : Zv mX10_at 2 := ⟨tblG_at 913 (by decide +kernel) (by decide +kernel), tblG_at 56 (by decide +kernel) (by decide +kernel), ⟨by decide +kernel, by decide +kernel, by decide +kernel⟩, rfl, rfl, tblG_at 911 (by decide +kernel) (by decide +kernel), tblG_at 912 (by decide +kernel) (by decide +kernel)⟩
def mX10_become : Mt := (yX10_become, cX10_become, 2, none, { frames := 1, cells := 0, slots := 0, locals := 48 })
theorem zX10_become : Zv mX10_become 1 := ⟨tblG_at 436 (by decide +kernel) (by decide +kernel), tblG_at 56 (by decide +kernel) (by decide +kernel), ⟨by decide +kernel, by decide +kernel, by decide +kernel⟩, rfl, rfl, tblG_at 434 (by decide +kernel) (by decide +kernel), tblG_at 435 (by decide +kernel) (by decide +kernel)⟩
def mX10_boxes : Mt := (yX10_boxes, cX10_boxes, 1, (some .int), { frames := 0, cells := 0, slots := 0, locals := 0 })
theorem zX10_boxes : Zv mX10_boxes 0 := ⟨tblG_at 420 (by decide +kernel) (by decide +kernel), tblG_at 56 (by decide +kernel) (by decide +kernel), ⟨by decide +kernel, by decide +kernel, by decide +kernel⟩, rfl, rfl, tblG_at 418 (by decide +kernel) (by decide +kernel), tblG_at 419 (by decide +kernel) (by decide +kernel)⟩
def mX10_coefficient : Mt := (yX10_coefficient, cX10_coefficient, 3, (some .int), { frames := 1, cells := 0, slots := 0, locals := 22 })
theorem zX10_coefficient : Zv mX10_coefficient 2 := ⟨tblG_at 474 (by decide +kernel) (by decide +kernel), tblG_at 56 (by decide +kernel) (by decide +kernel), ⟨by decide +kernel, by decide +kernel, by decide +kernel⟩, rfl, rfl, tblG_at 472 (by decide +kernel) (by decide +kernel), tblG_at 473 (by decide +kernel) (by decide +kernel)⟩
def mX10_degree : Mt := (yX10_degree, cX10_degree, 2, (some .int), { frames := 1, cells := 0, slots := 0, locals := 21 })
theorem zX10_degree : Zv mX10_degree 1 := ⟨tblG_at 580 (by decide +kernel) (by decide +kernel), tblG_at 56 (by decide +kernel) (by decide +kernel), ⟨by decide +kernel, by decide +kernel, by decide +kernel⟩, rfl, rfl, tblG_at 578 (by decide +kernel) (by decide +kernel), tblG_at 579 (by decide +kernel) (by decide +kernel)⟩
def mX10_empty : Mt := (yX10_empty, cX10_empty, 1, none, { frames := 0, cells := 0, slots := 0, locals := 0 })
theorem zX10_empty : Zv mX10_empty 0 := ⟨tblG_at 346 (by decide +kernel) (by decide +kernel), tblG_at 56 (by decide +kernel) (by decide +kernel), ⟨by decide +kernel, by decide +kernel, by decide +kernel⟩, rfl, rfl, tblG_at 344 (by decide +kernel) (by decide +kernel), tblG_at 345 (by decide +kernel) (by decide +kernel)⟩
def mX10_hasBox : Mt := (yX10_hasBox, cX10_hasBox, 2, (some .boolean), { frames := 0, cells := 0, slots := 0, locals := 0 })
theorem zX10_hasBox : Zv mX10_hasBox 1 := ⟨tblG_at 462 (by decide +kernel) (by decide +kernel), tblG_at 56 (by decide +kernel) (by decide +kernel), ⟨by decide +kernel, by decide +kernel, by decide +kernel⟩, rfl, rfl, tblG_at 460 (by decide +kernel) (by decide +kernel), tblG_at 461 (by decide +kernel) (by decide +kernel)⟩
def mX10_hasCoefficient : Mt := (yX10_hasCoefficient, cX10_hasCoefficient, 3, (some .boolean), { frames := 0, cells := 0, slots := 0, locals := 0 })
theorem zX10_hasCoefficient : Zv mX10_hasCoefficient 2 := ⟨tblG_at 470 (by decide +kernel) (by decide +kernel), tblG_at 56 (by decide +kernel) (by decide +kernel), ⟨by decide +kernel, by decide +kernel, by decide +kernel⟩, rfl, rfl, tblG_at 468 (by decide +kernel) (by decide +kernel), tblG_at 469 (by decide +kernel) (by decide +kernel)⟩
def mX10_hasPolynomial : Mt := (yX10_hasPolynomial, cX10_hasPolynomial, 2, (some .boolean), { frames := 0, cells := 0, slots := 0, locals := 0 })
theorem zX10_hasPolynomial : Zv mX10_hasPolynomial 1 := ⟨tblG_at 381 (by decide +kernel) (by decide +kernel), tblG_at 56 (by decide +kernel) (by decide +kernel), ⟨by decide +kernel, by decide +kernel, by decide +kernel⟩, rfl, rfl, tblG_at 379 (by decide +kernel) (by decide +kernel), tblG_at 380 (by decide +kernel) (by decide +kernel)⟩
def mX10_lower : Mt := (yX10_lower, cX10_lower, 2, (some .int), { frames := 1, cells := 0, slots := 0, locals := 21 })
theorem zX10_lower : Zv mX10_lower 1 := ⟨tblG_at 484 (by decide +kernel) (by decide +kernel), tblG_at 56 (by decide +kernel) (by decide +kernel), ⟨by decide +kernel, by decide +kernel, by decide +kernel⟩, rfl, rfl, tblG_at 482 (by decide +kernel) (by decide +kernel), tblG_at 483 (by decide +kernel) (by decide +kernel)⟩
def mX10_placeBehind : Mt := (yX10_placeBehind, cX10_placeBehind, 3, (some .int), { frames := 0, cells := 0, slots := 0, locals := 0 })
theorem zX10_placeBehind : Zv mX10_placeBehind 2 := ⟨tblG_at 604 (by decide +kernel) (by decide +kernel), tblG_at 56 (by decide +kernel) (by decide +kernel), ⟨by decide +kernel, by decide +kernel, by decide +kernel⟩, rfl, rfl, tblG_at 602 (by decide +kernel) (by decide +kernel), tblG_at 603 (by decide +kernel) (by decide +kernel)⟩
def mX10_polynomials : Mt := (yX10_polynomials, cX10_polynomials, 1, (some .int), { frames := 0, cells := 0, slots := 0, locals := 0 })
theorem zX10_polynomials : Zv mX10_polynomials 0 := ⟨tblG_at 404 (by decide +kernel) (by decide +kernel), tblG_at 56 (by decide +kernel) (by decide +kernel), ⟨by decide +kernel, by decide +kernel, by decide +kernel⟩, rfl, rfl, tblG_at 402 (by decide +kernel) (by decide +kernel), tblG_at 403 (by decide +kernel) (by decide +kernel)⟩
def mX10_putBox : Mt := (yX10_putBox, cX10_putBox, 4, none, { frames := 1, cells := 0, slots := 0, locals := 21 })
theorem zX10_putBox : Zv mX10_putBox 3 := ⟨tblG_at 523 (by decide +kernel) (by decide +kernel), tblG_at 56 (by decide +kernel) (by decide +kernel), ⟨by decide +kernel, by decide +kernel, by decide +kernel⟩, rfl, rfl, tblG_at 521 (by decide +kernel) (by decide +kernel), tblG_at 522 (by decide +kernel) (by decide +kernel)⟩
def mX10_putCoefficient : Mt := (yX10_putCoefficient, cX10_putCoefficient, 4, none, { frames := 1, cells := 0, slots := 0, locals := 22 })
theorem zX10_putCoefficient : Zv mX10_putCoefficient 3 := ⟨tblG_at 508 (by decide +kernel) (by decide +kernel), tblG_at 56 (by decide +kernel) (by decide +kernel), ⟨by decide +kernel, by decide +kernel, by decide +kernel⟩, rfl, rfl, tblG_at 506 (by decide +kernel) (by decide +kernel), tblG_at 507 (by decide +kernel) (by decide +kernel)⟩
def mX10_upper : Mt := (yX10_upper, cX10_upper, 2, (some .int), { frames := 1, cells := 0, slots := 0, locals := 21 })
theorem zX10_upper : Zv mX10_upper 1 := ⟨tblG_at 489 (by decide +kernel) (by decide +kernel), tblG_at 56 (by decide +kernel) (by decide +kernel), ⟨by decide +kernel, by decide +kernel, by decide +kernel⟩, rfl, rfl, tblG_at 487 (by decide +kernel) (by decide +kernel), tblG_at 488 (by decide +kernel) (by decide +kernel)⟩
def mX10_want : Mt := (yX10_want, cX10_want, 3, none, { frames := 1, cells := 0, slots := 0, locals := 21 })
theorem zX10_want : Zv mX10_want 2 := ⟨tblG_at 540 (by decide +kernel) (by decide +kernel), tblG_at 56 (by decide +kernel) (by decide +kernel), ⟨by decide +kernel, by decide +kernel, by decide +kernel⟩, rfl, rfl, tblG_at 538 (by decide +kernel) (by decide +kernel), tblG_at 539 (by decide +kernel) (by decide +kernel)⟩
def mX10_wanted : Mt := (yX10_wanted, cX10_wanted, 2, (some .int), { frames := 1, cells := 0, slots := 0, locals := 21 })
theorem zX10_wanted : Zv mX10_wanted 1 := ⟨tblG_at 531 (by decide +kernel) (by decide +kernel), tblG_at 56 (by decide +kernel) (by decide +kernel), ⟨by decide +kernel, by decide +kernel, by decide +kernel⟩, rfl, rfl, tblG_at 529 (by decide +kernel) (by decide +kernel), tblG_at 530 (by decide +kernel) (by decide +kernel)⟩
def mX11_back : Mt := (yX11_back, cX11_back, 2, (some .int), { frames := 2, cells := 0, slots := 0, locals := 69 })
theorem zX11_back : Zv mX11_back 1 := ⟨tblG_at 928 (by decide +kernel) (by decide +kernel), tblG_at 54 (by decide +kernel) (by decide +kernel), ⟨by decide +kernel, by decide +kernel, by decide +kernel⟩, rfl, rfl, tblG_at 926 (by decide +kernel) (by decide +kernel), tblG_at 927 (by decide +kernel) (by decide +kernel)⟩
def mX11_behind : Mt := (yX11_behind, cX11_behind, 2, (some .int), { frames := 0, cells := 0, slots := 0, locals := 0 })
theorem zX11_behind : Zs mX11_behind 1 := ⟨tblG_at 704 (by decide +kernel) (by decide +kernel), tblG_at 54 (by decide +kernel) (by decide +kernel), ⟨by decide +kernel, by decide +kernel, by decide +kernel⟩, rfl, rfl, tblG_at 703 (by decide +kernel) (by decide +kernel)⟩
def mX11_box : Mt := (yX11_box, cX11_box, 3, (some .long), { frames := 2, cells := 0, slots := 0, locals := 42 })
theorem zX11_box : Zv mX11_box 2 := ⟨tblG_at 480 (by decide +kernel) (by decide +kernel), tblG_at 54 (by decide +kernel) (by decide +kernel), ⟨by decide +kernel, by decide +kernel, by decide +kernel⟩, rfl, rfl, tblG_at 478 (by decide +kernel) (by decide +kernel), tblG_at 479 (by decide +kernel) (by decide +kernel)⟩
def mX11_bracket : Mt := (yX11_bracket, cX11_bracket, 3, (some .int), { frames := 5, cells := 0, slots := 0, locals := 122 })
theorem zX11_bracket : Zv mX11_bracket 2 := ⟨tblG_at 716 (by decide +kernel) (by decide +kernel), tblG_at 54 (by decide +kernel) (by decide +kernel), ⟨by decide +kernel, by decide +kernel, by decide +kernel⟩, rfl, rfl, tblG_at 714 (by decide +kernel) (by decide +kernel), tblG_at 715 (by decide +kernel) (by decide +kernel)⟩
def mX11_brackets : Mt := (yX11_brackets, cX11_brackets, 1, (some .int), { frames := 5, cells := 0, slots := 0, locals := 122 })
theorem zX11_brackets : Zv mX11_brackets 0 := ⟨tblG_at 687 (by decide +kernel) (by decide +kernel), tblG_at 54 (by decide +kernel) (by decide +kernel), ⟨by decide +kernel, by decide +kernel, by decide +kernel⟩, rfl, rfl, tblG_at 685 (by decide +kernel) (by decide +kernel), tblG_at 686 (by decide +kernel) (by decide +kernel)⟩
def mX11_clear : Mt := (yX11_clear, cX11_clear, 2, (some .int), { frames := 1, cells := 0, slots := 0, locals := 20 })
theorem zX11_clear : Zv mX11_clear 0 := ⟨tblG_at 330 (by decide +kernel) (by decide +kernel), tblG_at 54 (by decide +kernel) (by decide +kernel), ⟨by decide +kernel, by decide +kernel, by decide +kernel⟩, rfl, rfl, tblG_at 328 (by decide +kernel) (by decide +kernel), tblG_at 329 (by decide +kernel) (by decide +kernel)⟩
def mX11_coef : Mt := (yX11_coef, cX11_coef, 3, (some .long), { frames := 2, cells := 0, slots := 0, locals := 44 })
theorem zX11_coef : Zv mX11_coef 2 := ⟨tblG_at 466 (by decide +kernel) (by decide +kernel), tblG_at 54 (by decide +kernel) (by decide +kernel), ⟨by decide +kernel, by decide +kernel, by decide +kernel⟩, rfl, rfl, tblG_at 464 (by decide +kernel) (by decide +kernel), tblG_at 465 (by decide +kernel) (by decide +kernel)⟩
def mX11_coefs : Mt := (yX11_coefs, cX11_coefs, 4, (some .int), { frames := 3, cells := 0, slots := 0, locals := 97 })
theorem zX11_coefs : Zv mX11_coefs 3 := ⟨tblG_at 493 (by decide +kernel) (by decide +kernel), tblG_at 54 (by decide +kernel) (by decide +kernel), ⟨by decide +kernel, by decide +kernel, by decide +kernel⟩, rfl, rfl, tblG_at 491 (by decide +kernel) (by decide +kernel), tblG_at 492 (by decide +kernel) (by decide +kernel)⟩
def mX11_commonDivisor : Mt := (yX11_commonDivisor, cX11_commonDivisor, 11, (some .long), { frames := 0, cells := 0, slots := 0, locals := 0 })
theorem zX11_commonDivisor : Zs mX11_commonDivisor 2 := ⟨tblG_at 652 (by decide +kernel) (by decide +kernel), tblG_at 54 (by decide +kernel) (by decide +kernel), ⟨by decide +kernel, by decide +kernel, by decide +kernel⟩, rfl, rfl, tblG_at 651 (by decide +kernel) (by decide +kernel)⟩
def mX11_control : Mt := (yX11_control, cX11_control, 5, (some .long), { frames := 4, cells := 0, slots := 0, locals := 99 })
theorem zX11_control : Zv mX11_control 4 := ⟨tblG_at 559 (by decide +kernel) (by decide +kernel), tblG_at 54 (by decide +kernel) (by decide +kernel), ⟨by decide +kernel, by decide +kernel, by decide +kernel⟩, rfl, rfl, tblG_at 557 (by decide +kernel) (by decide +kernel), tblG_at 558 (by decide +kernel) (by decide +kernel)⟩
def mX11_count : Mt := (yX11_count, cX11_count, 2, (some .int), { frames := 2, cells := 0, slots := 0, locals := 42 })
theorem zX11_count : Zv mX11_count 1 := ⟨tblG_at 932 (by decide +kernel) (by decide +kernel), tblG_at 54 (by decide +kernel) (by decide +kernel), ⟨by decide +kernel, by decide +kernel, by decide +kernel⟩, rfl, rfl, tblG_at 930 (by decide +kernel) (by decide +kernel), tblG_at 931 (by decide +kernel) (by decide +kernel)⟩
def mX11_end : Mt := (yX11_end, cX11_end, 5, (some .long), { frames := 3, cells := 0, slots := 0, locals := 61 })
theorem zX11_end : Zv mX11_end 3 := ⟨tblG_at 668 (by decide +kernel) (by decide +kernel), tblG_at 54 (by decide +kernel) (by decide +kernel), ⟨by decide +kernel, by decide +kernel, by decide +kernel⟩, rfl, rfl, tblG_at 666 (by decide +kernel) (by decide +kernel), tblG_at 667 (by decide +kernel) (by decide +kernel)⟩
def mX11_ends : Mt := (yX11_ends, cX11_ends, 4, (some .int), { frames := 3, cells := 0, slots := 0, locals := 96 })
theorem zX11_ends : Zv mX11_ends 3 := ⟨tblG_at 512 (by decide +kernel) (by decide +kernel), tblG_at 54 (by decide +kernel) (by decide +kernel), ⟨by decide +kernel, by decide +kernel, by decide +kernel⟩, rfl, rfl, tblG_at 510 (by decide +kernel) (by decide +kernel), tblG_at 511 (by decide +kernel) (by decide +kernel)⟩
def mX11_first : Mt := (yX11_first, cX11_first, 1, (some .int), { frames := 5, cells := 0, slots := 0, locals := 124 })
theorem zX11_first : Zv mX11_first 0 := ⟨tblG_at 873 (by decide +kernel) (by decide +kernel), tblG_at 54 (by decide +kernel) (by decide +kernel), ⟨by decide +kernel, by decide +kernel, by decide +kernel⟩, rfl, rfl, tblG_at 871 (by decide +kernel) (by decide +kernel), tblG_at 872 (by decide +kernel) (by decide +kernel)⟩
def mX11_forget : Mt := (yX11_forget, cX11_forget, 2, (some .int), { frames := 1, cells := 0, slots := 0, locals := 20 })
theorem zX11_forget : Zv mX11_forget 0 := ⟨tblG_at 901 (by decide +kernel) (by decide +kernel), tblG_at 54 (by decide +kernel) (by decide +kernel), ⟨by decide +kernel, by decide +kernel, by decide +kernel⟩, rfl, rfl, tblG_at 899 (by decide +kernel) (by decide +kernel), tblG_at 900 (by decide +kernel) (by decide +kernel)⟩
def mX11_house : Mt := (yX11_house, cX11_house, 2, (some .int), { frames := 6, cells := 0, slots := 0, locals := 134 })
theorem zX11_house : Zv mX11_house 0 := ⟨tblG_at 338 (by decide +kernel) (by decide +kernel), tblG_at 54 (by decide +kernel) (by decide +kernel), ⟨by decide +kernel, by decide +kernel, by decide +kernel⟩, rfl, rfl, tblG_at 336 (by decide +kernel) (by decide +kernel), tblG_at 337 (by decide +kernel) (by decide +kernel)⟩
def mX11_isCoefficient : Mt := (yX11_isCoefficient, cX11_isCoefficient, 1, (some .boolean), { frames := 1, cells := 0, slots := 0, locals := 22 })
theorem zX11_isCoefficient : Zs mX11_isCoefficient 1 := ⟨tblG_at 373 (by decide +kernel) (by decide +kernel), tblG_at 54 (by decide +kernel) (by decide +kernel), ⟨by decide +kernel, by decide +kernel, by decide +kernel⟩, rfl, rfl, tblG_at 372 (by decide +kernel) (by decide +kernel)⟩
def mX11_isImage : Mt := (yX11_isImage, cX11_isImage, 2, (some .boolean), { frames := 0, cells := 0, slots := 0, locals := 0 })
theorem zX11_isImage : Zv mX11_isImage 1 := ⟨tblG_at 924 (by decide +kernel) (by decide +kernel), tblG_at 54 (by decide +kernel) (by decide +kernel), ⟨by decide +kernel, by decide +kernel, by decide +kernel⟩, rfl, rfl, tblG_at 923 (by decide +kernel) (by decide +kernel), tblG_at 24 (by decide +kernel) (by decide +kernel)⟩
def mX11_isNode : Mt := (yX11_isNode, cX11_isNode, 1, (some .boolean), { frames := 1, cells := 0, slots := 0, locals := 22 })
theorem zX11_isNode : Zs mX11_isNode 1 := ⟨tblG_at 562 (by decide +kernel) (by decide +kernel), tblG_at 54 (by decide +kernel) (by decide +kernel), ⟨by decide +kernel, by decide +kernel, by decide +kernel⟩, rfl, rfl, tblG_at 561 (by decide +kernel) (by decide +kernel)⟩
def mX11_isPlace : Mt := (yX11_isPlace, cX11_isPlace, 1, (some .boolean), { frames := 1, cells := 0, slots := 0, locals := 22 })
theorem zX11_isPlace : Zs mX11_isPlace 1 := ⟨tblG_at 388 (by decide +kernel) (by decide +kernel), tblG_at 54 (by decide +kernel) (by decide +kernel), ⟨by decide +kernel, by decide +kernel, by decide +kernel⟩, rfl, rfl, tblG_at 387 (by decide +kernel) (by decide +kernel)⟩
def mX11_isWithin : Mt := (yX11_isWithin, cX11_isWithin, 3, (some .boolean), { frames := 0, cells := 0, slots := 0, locals := 0 })
theorem zX11_isWithin : Zs mX11_isWithin 3 := ⟨tblG_at 314 (by decide +kernel) (by decide +kernel), tblG_at 54 (by decide +kernel) (by decide +kernel), ⟨by decide +kernel, by decide +kernel, by decide +kernel⟩, rfl, rfl, tblG_at 313 (by decide +kernel) (by decide +kernel)⟩
def mX11_keep : Mt := (yX11_keep, cX11_keep, 2, (some .int), { frames := 2, cells := 0, slots := 0, locals := 69 })
theorem zX11_keep : Zv mX11_keep 1 := ⟨tblG_at 920 (by decide +kernel) (by decide +kernel), tblG_at 54 (by decide +kernel) (by decide +kernel), ⟨by decide +kernel, by decide +kernel, by decide +kernel⟩, rfl, rfl, tblG_at 918 (by decide +kernel) (by decide +kernel), tblG_at 919 (by decide +kernel) (by decide +kernel)⟩
def mX11_makes : Mt := (yX11_makes, cX11_makes, 1, (some .int), { frames := 6, cells := 0, slots := 0, locals := 145 })
theorem zX11_makes : Zv mX11_makes 0 := ⟨tblG_at 728 (by decide +kernel) (by decide +kernel), tblG_at 54 (by decide +kernel) (by decide +kernel), ⟨by decide +kernel, by decide +kernel, by decide +kernel⟩, rfl, rfl, tblG_at 726 (by decide +kernel) (by decide +kernel), tblG_at 727 (by decide +kernel) (by decide +kernel)⟩
def mX11_narrowed : Mt := (yX11_narrowed, cX11_narrowed, 6, (some .long), { frames := 6, cells := 0, slots := 0, locals := 147 })
theorem zX11_narrowed : Zv mX11_narrowed 3 := ⟨tblG_at 788 (by decide +kernel) (by decide +kernel), tblG_at 54 (by decide +kernel) (by decide +kernel), ⟨by decide +kernel, by decide +kernel, by decide +kernel⟩, rfl, rfl, tblG_at 786 (by decide +kernel) (by decide +kernel), tblG_at 787 (by decide +kernel) (by decide +kernel)⟩
def mX11_paper : Mt := (yX11_paper, cX11_paper, 3, (some .int), { frames := 6, cells := 0, slots := 0, locals := 145 })
theorem zX11_paper : Zv mX11_paper 1 := ⟨tblG_at 757 (by decide +kernel) (by decide +kernel), tblG_at 54 (by decide +kernel) (by decide +kernel), ⟨by decide +kernel, by decide +kernel, by decide +kernel⟩, rfl, rfl, tblG_at 755 (by decide +kernel) (by decide +kernel), tblG_at 756 (by decide +kernel) (by decide +kernel)⟩
def mX11_part : Mt := (yX11_part, cX11_part, 7, (some .long), { frames := 1, cells := 0, slots := 0, locals := 30 })
theorem zX11_part : Zs mX11_part 3 := ⟨tblG_at 646 (by decide +kernel) (by decide +kernel), tblG_at 54 (by decide +kernel) (by decide +kernel), ⟨by decide +kernel, by decide +kernel, by decide +kernel⟩, rfl, rfl, tblG_at 645 (by decide +kernel) (by decide +kernel)⟩
def mX11_partsOf : Mt := (yX11_partsOf, cX11_partsOf, 3, (some .int), { frames := 0, cells := 0, slots := 0, locals := 0 })
theorem zX11_partsOf : Zs mX11_partsOf 1 := ⟨tblG_at 600 (by decide +kernel) (by decide +kernel), tblG_at 54 (by decide +kernel) (by decide +kernel), ⟨by decide +kernel, by decide +kernel, by decide +kernel⟩, rfl, rfl, tblG_at 599 (by decide +kernel) (by decide +kernel)⟩
def mX11_proves : Mt := (yX11_proves, cX11_proves, 1, (some .int), { frames := 6, cells := 0, slots := 0, locals := 150 })
theorem zX11_proves : Zv mX11_proves 0 := ⟨tblG_at 773 (by decide +kernel) (by decide +kernel), tblG_at 54 (by decide +kernel) (by decide +kernel), ⟨by decide +kernel, by decide +kernel, by decide +kernel⟩, rfl, rfl, tblG_at 771 (by decide +kernel) (by decide +kernel), tblG_at 772 (by decide +kernel) (by decide +kernel)⟩
def mX11_sees : Mt := (yX11_sees, cX11_sees, 3, (some .int), { frames := 2, cells := 0, slots := 0, locals := 42 })
theorem zX11_sees : Zv mX11_sees 2 := ⟨tblG_at 885 (by decide +kernel) (by decide +kernel), tblG_at 54 (by decide +kernel) (by decide +kernel), ⟨by decide +kernel, by decide +kernel, by decide +kernel⟩, rfl, rfl, tblG_at 883 (by decide +kernel) (by decide +kernel), tblG_at 884 (by decide +kernel) (by decide +kernel)⟩
def mX11_signOf : Mt := (yX11_signOf, cX11_signOf, 2, (some .int), { frames := 0, cells := 0, slots := 0, locals := 0 })
theorem zX11_signOf : Zs mX11_signOf 1 := ⟨tblG_at 664 (by decide +kernel) (by decide +kernel), tblG_at 54 (by decide +kernel) (by decide +kernel), ⟨by decide +kernel, by decide +kernel, by decide +kernel⟩, rfl, rfl, tblG_at 663 (by decide +kernel) (by decide +kernel)⟩
def mX11_sure : Mt := (yX11_sure, cX11_sure, 2, (some .int), { frames := 5, cells := 0, slots := 0, locals := 126 })
theorem zX11_sure : Zv mX11_sure 1 := ⟨tblG_at 843 (by decide +kernel) (by decide +kernel), tblG_at 54 (by decide +kernel) (by decide +kernel), ⟨by decide +kernel, by decide +kernel, by decide +kernel⟩, rfl, rfl, tblG_at 841 (by decide +kernel) (by decide +kernel), tblG_at 842 (by decide +kernel) (by decide +kernel)⟩
def mX11_takes : Mt := (yX11_takes, cX11_takes, 3, (some .int), { frames := 1, cells := 0, slots := 0, locals := 22 })
theorem zX11_takes : Zv mX11_takes 2 := ⟨tblG_at 457 (by decide +kernel) (by decide +kernel), tblG_at 54 (by decide +kernel) (by decide +kernel), ⟨by decide +kernel, by decide +kernel, by decide +kernel⟩, rfl, rfl, tblG_at 455 (by decide +kernel) (by decide +kernel), tblG_at 456 (by decide +kernel) (by decide +kernel)⟩
def mX11_type : Mt := (yX11_type, cX11_type, 2, (some .int), { frames := 1, cells := 0, slots := 0, locals := 22 })
theorem zX11_type : Zv mX11_type 1 := ⟨tblG_at 311 (by decide +kernel) (by decide +kernel), tblG_at 54 (by decide +kernel) (by decide +kernel), ⟨by decide +kernel, by decide +kernel, by decide +kernel⟩, rfl, rfl, tblG_at 309 (by decide +kernel) (by decide +kernel), tblG_at 310 (by decide +kernel) (by decide +kernel)⟩
def mX11_undo : Mt := (yX11_undo, cX11_undo, 1, (some .int), { frames := 3, cells := 0, slots := 0, locals := 68 })
theorem zX11_undo : Zv mX11_undo 0 := ⟨tblG_at 544 (by decide +kernel) (by decide +kernel), tblG_at 54 (by decide +kernel) (by decide +kernel), ⟨by decide +kernel, by decide +kernel, by decide +kernel⟩, rfl, rfl, tblG_at 542 (by decide +kernel) (by decide +kernel), tblG_at 543 (by decide +kernel) (by decide +kernel)⟩
def mX11_unseen : Mt := (yX11_unseen, cX11_unseen, 3, (some .int), { frames := 4, cells := 0, slots := 0, locals := 91 })
theorem zX11_unseen : Zv mX11_unseen 0 := ⟨tblG_at 905 (by decide +kernel) (by decide +kernel), tblG_at 54 (by decide +kernel) (by decide +kernel), ⟨by decide +kernel, by decide +kernel, by decide +kernel⟩, rfl, rfl, tblG_at 903 (by decide +kernel) (by decide +kernel), tblG_at 904 (by decide +kernel) (by decide +kernel)⟩
def mX11_value : Mt := (yX11_value, cX11_value, 5, (some .long), { frames := 4, cells := 0, slots := 0, locals := 97 })
theorem zX11_value : Zv mX11_value 3 := ⟨tblG_at 675 (by decide +kernel) (by decide +kernel), tblG_at 54 (by decide +kernel) (by decide +kernel), ⟨by decide +kernel, by decide +kernel, by decide +kernel⟩, rfl, rfl, tblG_at 673 (by decide +kernel) (by decide +kernel), tblG_at 674 (by decide +kernel) (by decide +kernel)⟩
def mX11_variation : Mt := (yX11_variation, cX11_variation, 3, (some .int), { frames := 4, cells := 0, slots := 0, locals := 99 })
theorem zX11_variation : Zv mX11_variation 2 := ⟨tblG_at 656 (by decide +kernel) (by decide +kernel), tblG_at 54 (by decide +kernel) (by decide +kernel), ⟨by decide +kernel, by decide +kernel, by decide +kernel⟩, rfl, rfl, tblG_at 654 (by decide +kernel) (by decide +kernel), tblG_at 655 (by decide +kernel) (by decide +kernel)⟩
def mX11_wish : Mt := (yX11_wish, cX11_wish, 2, (some .long), { frames := 2, cells := 0, slots := 0, locals := 42 })
theorem zX11_wish : Zv mX11_wish 1 := ⟨tblG_at 881 (by decide +kernel) (by decide +kernel), tblG_at 54 (by decide +kernel) (by decide +kernel), ⟨by decide +kernel, by decide +kernel, by decide +kernel⟩, rfl, rfl, tblG_at 879 (by decide +kernel) (by decide +kernel), tblG_at 880 (by decide +kernel) (by decide +kernel)⟩
def mX11_wishes : Mt := (yX11_wishes, cX11_wishes, 3, (some .int), { frames := 3, cells := 0, slots := 0, locals := 96 })
theorem zX11_wishes : Zv mX11_wishes 2 := ⟨tblG_at 527 (by decide +kernel) (by decide +kernel), tblG_at 54 (by decide +kernel) (by decide +kernel), ⟨by decide +kernel, by decide +kernel, by decide +kernel⟩, rfl, rfl, tblG_at 525 (by decide +kernel) (by decide +kernel), tblG_at 526 (by decide +kernel) (by decide +kernel)⟩
def mX11_witness : Mt := (yX11_witness, cX11_witness, 2, (some .long), { frames := 6, cells := 0, slots := 0, locals := 145 })
theorem zX11_witness : Zv mX11_witness 1 := ⟨tblG_at 765 (by decide +kernel) (by decide +kernel), tblG_at 54 (by decide +kernel) (by decide +kernel), ⟨by decide +kernel, by decide +kernel, by decide +kernel⟩, rfl, rfl, tblG_at 763 (by decide +kernel) (by decide +kernel), tblG_at 764 (by decide +kernel) (by decide +kernel)⟩
def mX12_back : Mt := (yX12_back, cX12_back, 3, (some .int), { frames := 1, cells := 0, slots := 0, locals := 22 })
theorem zX12_back : Zv mX12_back 1 := ⟨tblG_at 1297 (by decide +kernel) (by decide +kernel), tblG_at 66 (by decide +kernel) (by decide +kernel), ⟨by decide +kernel, by decide +kernel, by decide +kernel⟩, rfl, rfl, tblG_at 1295 (by decide +kernel) (by decide +kernel), tblG_at 1296 (by decide +kernel) (by decide +kernel)⟩
def mX12_becomes : Mt := (yX12_becomes, cX12_becomes, 2, none, { frames := 0, cells := 0, slots := 0, locals := 0 })
theorem zX12_becomes : Zv mX12_becomes 0 := ⟨tblG_at 946 (by decide +kernel) (by decide +kernel), tblG_at 66 (by decide +kernel) (by decide +kernel), ⟨by decide +kernel, by decide +kernel, by decide +kernel⟩, rfl, rfl, tblG_at 945 (by decide +kernel) (by decide +kernel), tblG_at 25 (by decide +kernel) (by decide +kernel)⟩
def mX12_box : Mt := (yX12_box, cX12_box, 3, (some .long), { frames := 2, cells := 0, slots := 0, locals := 43 })
theorem zX12_box : Zv mX12_box 2 := ⟨tblG_at 1114 (by decide +kernel) (by decide +kernel), tblG_at 66 (by decide +kernel) (by decide +kernel), ⟨by decide +kernel, by decide +kernel, by decide +kernel⟩, rfl, rfl, tblG_at 1112 (by decide +kernel) (by decide +kernel), tblG_at 1113 (by decide +kernel) (by decide +kernel)⟩
def mX12_boxTold : Mt := (yX12_boxTold, cX12_boxTold, 2, (some .boolean), { frames := 2, cells := 0, slots := 0, locals := 46 })
theorem zX12_boxTold : Zv mX12_boxTold 0 := ⟨tblG_at 1089 (by decide +kernel) (by decide +kernel), tblG_at 66 (by decide +kernel) (by decide +kernel), ⟨by decide +kernel, by decide +kernel, by decide +kernel⟩, rfl, rfl, tblG_at 1088 (by decide +kernel) (by decide +kernel), tblG_at 31 (by decide +kernel) (by decide +kernel)⟩
def mX12_bracket : Mt := (yX12_bracket, cX12_bracket, 3, (some .int), { frames := 6, cells := 0, slots := 0, locals := 153 })
theorem zX12_bracket : Zv mX12_bracket 2 := ⟨tblG_at 1217 (by decide +kernel) (by decide +kernel), tblG_at 66 (by decide +kernel) (by decide +kernel), ⟨by decide +kernel, by decide +kernel, by decide +kernel⟩, rfl, rfl, tblG_at 1215 (by decide +kernel) (by decide +kernel), tblG_at 1216 (by decide +kernel) (by decide +kernel)⟩
def mX12_brackets : Mt := (yX12_brackets, cX12_brackets, 1, (some .int), { frames := 6, cells := 0, slots := 0, locals := 153 })
theorem zX12_brackets : Zv mX12_brackets 0 := ⟨tblG_at 1201 (by decide +kernel) (by decide +kernel), tblG_at 66 (by decide +kernel) (by decide +kernel), ⟨by decide +kernel, by decide +kernel, by decide +kernel⟩, rfl, rfl, tblG_at 1199 (by decide +kernel) (by decide +kernel), tblG_at 1200 (by decide +kernel) (by decide +kernel)⟩
def mX12_brings : Mt := (yX12_brings, cX12_brings, 3, none, { frames := 5, cells := 0, slots := 0, locals := 131 })
theorem zX12_brings : Zv mX12_brings 0 := ⟨tblG_at 1205 (by decide +kernel) (by decide +kernel), tblG_at 66 (by decide +kernel) (by decide +kernel), ⟨by decide +kernel, by decide +kernel, by decide +kernel⟩, rfl, rfl, tblG_at 1204 (by decide +kernel) (by decide +kernel), tblG_at 43 (by decide +kernel) (by decide +kernel)⟩
def mX12_choose : Mt := (yX12_choose, cX12_choose, 5, (some .long), { frames := 0, cells := 0, slots := 0, locals := 0 })
theorem zX12_choose : Zs mX12_choose 2 := ⟨tblG_at 1171 (by decide +kernel) (by decide +kernel), tblG_at 66 (by decide +kernel) (by decide +kernel), ⟨by decide +kernel, by decide +kernel, by decide +kernel⟩, rfl, rfl, tblG_at 1170 (by decide +kernel) (by decide +kernel)⟩
def mX12_clear : Mt := (yX12_clear, cX12_clear, 2, (some .int), { frames := 0, cells := 0, slots := 0, locals := 0 })
theorem zX12_clear : Zv mX12_clear 0 := ⟨tblG_at 1061 (by decide +kernel) (by decide +kernel), tblG_at 66 (by decide +kernel) (by decide +kernel), ⟨by decide +kernel, by decide +kernel, by decide +kernel⟩, rfl, rfl, tblG_at 1059 (by decide +kernel) (by decide +kernel), tblG_at 1060 (by decide +kernel) (by decide +kernel)⟩
def mX12_coef : Mt := (yX12_coef, cX12_coef, 3, (some .long), { frames := 3, cells := 0, slots := 0, locals := 65 })
theorem zX12_coef : Zv mX12_coef 2 := ⟨tblG_at 1105 (by decide +kernel) (by decide +kernel), tblG_at 66 (by decide +kernel) (by decide +kernel), ⟨by decide +kernel, by decide +kernel, by decide +kernel⟩, rfl, rfl, tblG_at 1103 (by decide +kernel) (by decide +kernel), tblG_at 1104 (by decide +kernel) (by decide +kernel)⟩
def mX12_coefs : Mt := (yX12_coefs, cX12_coefs, 5, (some .int), { frames := 3, cells := 0, slots := 0, locals := 65 })
theorem zX12_coefs : Zv mX12_coefs 3 := ⟨tblG_at 1118 (by decide +kernel) (by decide +kernel), tblG_at 66 (by decide +kernel) (by decide +kernel), ⟨by decide +kernel, by decide +kernel, by decide +kernel⟩, rfl, rfl, tblG_at 1116 (by decide +kernel) (by decide +kernel), tblG_at 1117 (by decide +kernel) (by decide +kernel)⟩
def mX12_common : Mt := (yX12_common, cX12_common, 10, (some .long), { frames := 0, cells := 0, slots := 0, locals := 0 })
theorem zX12_common : Zs mX12_common 2 := ⟨tblG_at 1174 (by decide +kernel) (by decide +kernel), tblG_at 66 (by decide +kernel) (by decide +kernel), ⟨by decide +kernel, by decide +kernel, by decide +kernel⟩, rfl, rfl, tblG_at 1173 (by decide +kernel) (by decide +kernel)⟩
def mX12_control : Mt := (yX12_control, cX12_control, 5, (some .long), { frames := 4, cells := 0, slots := 0, locals := 105 })
theorem zX12_control : Zv mX12_control 4 := ⟨tblG_at 1138 (by decide +kernel) (by decide +kernel), tblG_at 66 (by decide +kernel) (by decide +kernel), ⟨by decide +kernel, by decide +kernel, by decide +kernel⟩, rfl, rfl, tblG_at 1136 (by decide +kernel) (by decide +kernel), tblG_at 1137 (by decide +kernel) (by decide +kernel)⟩
def mX12_count : Mt := (yX12_count, cX12_count, 2, (some .int), { frames := 2, cells := 0, slots := 0, locals := 43 })
theorem zX12_count : Zv mX12_count 1 := ⟨tblG_at 1301 (by decide +kernel) (by decide +kernel), tblG_at 66 (by decide +kernel) (by decide +kernel), ⟨by decide +kernel, by decide +kernel, by decide +kernel⟩, rfl, rfl, tblG_at 1299 (by decide +kernel) (by decide +kernel), tblG_at 1300 (by decide +kernel) (by decide +kernel)⟩
def mX12_end : Mt := (yX12_end, cX12_end, 4, (some .long), { frames := 3, cells := 0, slots := 0, locals := 65 })
theorem zX12_end : Zv mX12_end 3 := ⟨tblG_at 1189 (by decide +kernel) (by decide +kernel), tblG_at 66 (by decide +kernel) (by decide +kernel), ⟨by decide +kernel, by decide +kernel, by decide +kernel⟩, rfl, rfl, tblG_at 1187 (by decide +kernel) (by decide +kernel), tblG_at 1188 (by decide +kernel) (by decide +kernel)⟩
def mX12_ends : Mt := (yX12_ends, cX12_ends, 4, (some .int), { frames := 2, cells := 0, slots := 0, locals := 43 })
theorem zX12_ends : Zv mX12_ends 3 := ⟨tblG_at 1126 (by decide +kernel) (by decide +kernel), tblG_at 66 (by decide +kernel) (by decide +kernel), ⟨by decide +kernel, by decide +kernel, by decide +kernel⟩, rfl, rfl, tblG_at 1124 (by decide +kernel) (by decide +kernel), tblG_at 1125 (by decide +kernel) (by decide +kernel)⟩
def mX12_finds : Mt := (yX12_finds, cX12_finds, 3, none, { frames := 0, cells := 0, slots := 0, locals := 0 })
theorem zX12_finds : Zv mX12_finds 2 := ⟨tblG_at 1213 (by decide +kernel) (by decide +kernel), tblG_at 66 (by decide +kernel) (by decide +kernel), ⟨by decide +kernel, by decide +kernel, by decide +kernel⟩, rfl, rfl, tblG_at 1212 (by decide +kernel) (by decide +kernel), tblG_at 45 (by decide +kernel) (by decide +kernel)⟩
def mX12_first : Mt := (yX12_first, cX12_first, 2, (some .int), { frames := 6, cells := 0, slots := 0, locals := 154 })
theorem zX12_first : Zv mX12_first 0 := ⟨tblG_at 1269 (by decide +kernel) (by decide +kernel), tblG_at 66 (by decide +kernel) (by decide +kernel), ⟨by decide +kernel, by decide +kernel, by decide +kernel⟩, rfl, rfl, tblG_at 1267 (by decide +kernel) (by decide +kernel), tblG_at 1268 (by decide +kernel) (by decide +kernel)⟩
def mX12_forget : Mt := (yX12_forget, cX12_forget, 2, (some .int), { frames := 0, cells := 0, slots := 0, locals := 0 })
theorem zX12_forget : Zv mX12_forget 0 := ⟨tblG_at 1281 (by decide +kernel) (by decide +kernel), tblG_at 66 (by decide +kernel) (by decide +kernel), ⟨by decide +kernel, by decide +kernel, by decide +kernel⟩, rfl, rfl, tblG_at 1279 (by decide +kernel) (by decide +kernel), tblG_at 1280 (by decide +kernel) (by decide +kernel)⟩
def mX12_fraction : Mt := (yX12_fraction, cX12_fraction, 7, (some .long), { frames := 1, cells := 0, slots := 0, locals := 29 })
theorem zX12_fraction : Zs mX12_fraction 3 := ⟨tblG_at 1177 (by decide +kernel) (by decide +kernel), tblG_at 66 (by decide +kernel) (by decide +kernel), ⟨by decide +kernel, by decide +kernel, by decide +kernel⟩, rfl, rfl, tblG_at 1176 (by decide +kernel) (by decide +kernel)⟩
def mX12_highOf : Mt := (yX12_highOf, cX12_highOf, 2, (some .int), { frames := 2, cells := 0, slots := 0, locals := 44 })
theorem zX12_highOf : Zv mX12_highOf 1 := ⟨tblG_at 1193 (by decide +kernel) (by decide +kernel), tblG_at 66 (by decide +kernel) (by decide +kernel), ⟨by decide +kernel, by decide +kernel, by decide +kernel⟩, rfl, rfl, tblG_at 1192 (by decide +kernel) (by decide +kernel), tblG_at 42 (by decide +kernel) (by decide +kernel)⟩
def mX12_house : Mt := (yX12_house, cX12_house, 3, (some .int), { frames := 3, cells := 0, slots := 0, locals := 68 })
theorem zX12_house : Zv mX12_house 0 := ⟨tblG_at 1065 (by decide +kernel) (by decide +kernel), tblG_at 66 (by decide +kernel) (by decide +kernel), ⟨by decide +kernel, by decide +kernel, by decide +kernel⟩, rfl, rfl, tblG_at 1063 (by decide +kernel) (by decide +kernel), tblG_at 1064 (by decide +kernel) (by decide +kernel)⟩
def mX12_in : Mt := (yX12_in, cX12_in, 3, (some .boolean), { frames := 0, cells := 0, slots := 0, locals := 0 })
theorem zX12_in : Zs mX12_in 3 := ⟨tblG_at 1057 (by decide +kernel) (by decide +kernel), tblG_at 66 (by decide +kernel) (by decide +kernel), ⟨by decide +kernel, by decide +kernel, by decide +kernel⟩, rfl, rfl, tblG_at 1056 (by decide +kernel) (by decide +kernel)⟩
def mX12_isAbove : Mt := (yX12_isAbove, cX12_isAbove, 7, (some .boolean), { frames := 4, cells := 0, slots := 0, locals := 105 })
theorem zX12_isAbove : Zv mX12_isAbove 4 := ⟨tblG_at 1229 (by decide +kernel) (by decide +kernel), tblG_at 66 (by decide +kernel) (by decide +kernel), ⟨by decide +kernel, by decide +kernel, by decide +kernel⟩, rfl, rfl, tblG_at 1228 (by decide +kernel) (by decide +kernel), tblG_at 47 (by decide +kernel) (by decide +kernel)⟩
def mX12_isBox : Mt := (yX12_isBox, cX12_isBox, 2, (some .boolean), { frames := 1, cells := 0, slots := 0, locals := 22 })
theorem zX12_isBox : Zv mX12_isBox 1 := ⟨tblG_at 1101 (by decide +kernel) (by decide +kernel), tblG_at 66 (by decide +kernel) (by decide +kernel), ⟨by decide +kernel, by decide +kernel, by decide +kernel⟩, rfl, rfl, tblG_at 1100 (by decide +kernel) (by decide +kernel), tblG_at 33 (by decide +kernel) (by decide +kernel)⟩
def mX12_isBroken : Mt := (yX12_isBroken, cX12_isBroken, 4, (some .boolean), { frames := 5, cells := 0, slots := 0, locals := 131 })
theorem zX12_isBroken : Zv mX12_isBroken 1 := ⟨tblG_at 1265 (by decide +kernel) (by decide +kernel), tblG_at 66 (by decide +kernel) (by decide +kernel), ⟨by decide +kernel, by decide +kernel, by decide +kernel⟩, rfl, rfl, tblG_at 1264 (by decide +kernel) (by decide +kernel), tblG_at 51 (by decide +kernel) (by decide +kernel)⟩
def mX12_isCoefficient : Mt := (yX12_isCoefficient, cX12_isCoefficient, 3, (some .boolean), { frames := 2, cells := 0, slots := 0, locals := 43 })
theorem zX12_isCoefficient : Zv mX12_isCoefficient 2 := ⟨tblG_at 1109 (by decide +kernel) (by decide +kernel), tblG_at 66 (by decide +kernel) (by decide +kernel), ⟨by decide +kernel, by decide +kernel, by decide +kernel⟩, rfl, rfl, tblG_at 1108 (by decide +kernel) (by decide +kernel), tblG_at 34 (by decide +kernel) (by decide +kernel)⟩
def mX12_isHeld : Mt := (yX12_isHeld, cX12_isHeld, 4, (some .boolean), { frames := 5, cells := 0, slots := 0, locals := 131 })
theorem zX12_isHeld : Zv mX12_isHeld 1 := ⟨tblG_at 1261 (by decide +kernel) (by decide +kernel), tblG_at 66 (by decide +kernel) (by decide +kernel), ⟨by decide +kernel, by decide +kernel, by decide +kernel⟩, rfl, rfl, tblG_at 1260 (by decide +kernel) (by decide +kernel), tblG_at 50 (by decide +kernel) (by decide +kernel)⟩
def mX12_isKind : Mt := (yX12_isKind, cX12_isKind, 2, (some .boolean), { frames := 0, cells := 0, slots := 0, locals := 0 })
theorem zX12_isKind : Zv mX12_isKind 1 := ⟨tblG_at 1077 (by decide +kernel) (by decide +kernel), tblG_at 66 (by decide +kernel) (by decide +kernel), ⟨by decide +kernel, by decide +kernel, by decide +kernel⟩, rfl, rfl, tblG_at 1076 (by decide +kernel) (by decide +kernel), tblG_at 28 (by decide +kernel) (by decide +kernel)⟩
def mX12_isNode : Mt := (yX12_isNode, cX12_isNode, 1, (some .boolean), { frames := 1, cells := 0, slots := 0, locals := 22 })
theorem zX12_isNode : Zs mX12_isNode 1 := ⟨tblG_at 1141 (by decide +kernel) (by decide +kernel), tblG_at 66 (by decide +kernel) (by decide +kernel), ⟨by decide +kernel, by decide +kernel, by decide +kernel⟩, rfl, rfl, tblG_at 1140 (by decide +kernel) (by decide +kernel)⟩
def mX12_isPolynomial : Mt := (yX12_isPolynomial, cX12_isPolynomial, 2, (some .boolean), { frames := 1, cells := 0, slots := 0, locals := 22 })
theorem zX12_isPolynomial : Zv mX12_isPolynomial 1 := ⟨tblG_at 1097 (by decide +kernel) (by decide +kernel), tblG_at 66 (by decide +kernel) (by decide +kernel), ⟨by decide +kernel, by decide +kernel, by decide +kernel⟩, rfl, rfl, tblG_at 1096 (by decide +kernel) (by decide +kernel), tblG_at 32 (by decide +kernel) (by decide +kernel)⟩
def mX12_isTaken : Mt := (yX12_isTaken, cX12_isTaken, 1, (some .boolean), { frames := 2, cells := 0, slots := 0, locals := 43 })
theorem zX12_isTaken : Zv mX12_isTaken 0 := ⟨tblG_at 1145 (by decide +kernel) (by decide +kernel), tblG_at 66 (by decide +kernel) (by decide +kernel), ⟨by decide +kernel, by decide +kernel, by decide +kernel⟩, rfl, rfl, tblG_at 1144 (by decide +kernel) (by decide +kernel), tblG_at 36 (by decide +kernel) (by decide +kernel)⟩
def mX12_keep : Mt := (yX12_keep, cX12_keep, 3, (some .int), { frames := 1, cells := 0, slots := 0, locals := 22 })
theorem zX12_keep : Zv mX12_keep 1 := ⟨tblG_at 1293 (by decide +kernel) (by decide +kernel), tblG_at 66 (by decide +kernel) (by decide +kernel), ⟨by decide +kernel, by decide +kernel, by decide +kernel⟩, rfl, rfl, tblG_at 1291 (by decide +kernel) (by decide +kernel), tblG_at 1292 (by decide +kernel) (by decide +kernel)⟩
def mX12_knows : Mt := (yX12_knows, cX12_knows, 4, none, { frames := 0, cells := 0, slots := 0, locals := 0 })
theorem zX12_knows : Zv mX12_knows 2 := ⟨tblG_at 1122 (by decide +kernel) (by decide +kernel), tblG_at 66 (by decide +kernel) (by decide +kernel), ⟨by decide +kernel, by decide +kernel, by decide +kernel⟩, rfl, rfl, tblG_at 1121 (by decide +kernel) (by decide +kernel), tblG_at 35 (by decide +kernel) (by decide +kernel)⟩
def mX12_lays : Mt := (yX12_lays, cX12_lays, 11, none, { frames := 3, cells := 0, slots := 0, locals := 75 })
theorem zX12_lays : Zv mX12_lays 3 := ⟨tblG_at 1149 (by decide +kernel) (by decide +kernel), tblG_at 66 (by decide +kernel) (by decide +kernel), ⟨by decide +kernel, by decide +kernel, by decide +kernel⟩, rfl, rfl, tblG_at 1148 (by decide +kernel) (by decide +kernel), tblG_at 37 (by decide +kernel) (by decide +kernel)⟩
def mX12_laysOwn : Mt := (yX12_laysOwn, cX12_laysOwn, 12, none, { frames := 2, cells := 0, slots := 0, locals := 44 })
theorem zX12_laysOwn : Zv mX12_laysOwn 2 := ⟨tblG_at 1153 (by decide +kernel) (by decide +kernel), tblG_at 66 (by decide +kernel) (by decide +kernel), ⟨by decide +kernel, by decide +kernel, by decide +kernel⟩, rfl, rfl, tblG_at 1152 (by decide +kernel) (by decide +kernel), tblG_at 38 (by decide +kernel) (by decide +kernel)⟩
def mX12_leastOf : Mt := (yX12_leastOf, cX12_leastOf, 5, (some .long), { frames := 4, cells := 0, slots := 0, locals := 105 })
theorem zX12_leastOf : Zv mX12_leastOf 1 := ⟨tblG_at 1253 (by decide +kernel) (by decide +kernel), tblG_at 66 (by decide +kernel) (by decide +kernel), ⟨by decide +kernel, by decide +kernel, by decide +kernel⟩, rfl, rfl, tblG_at 1252 (by decide +kernel) (by decide +kernel), tblG_at 49 (by decide +kernel) (by decide +kernel)⟩
def mX12_lengthOf : Mt := (yX12_lengthOf, cX12_lengthOf, 1, (some .int), { frames := 0, cells := 0, slots := 0, locals := 0 })
theorem zX12_lengthOf : Zv mX12_lengthOf 0 := ⟨tblG_at 1164 (by decide +kernel) (by decide +kernel), tblG_at 66 (by decide +kernel) (by decide +kernel), ⟨by decide +kernel, by decide +kernel, by decide +kernel⟩, rfl, rfl, tblG_at 1163 (by decide +kernel) (by decide +kernel), tblG_at 40 (by decide +kernel) (by decide +kernel)⟩
def mX12_lowOf : Mt := (yX12_lowOf, cX12_lowOf, 3, (some .int), { frames := 1, cells := 0, slots := 0, locals := 22 })
theorem zX12_lowOf : Zv mX12_lowOf 1 := ⟨tblG_at 1157 (by decide +kernel) (by decide +kernel), tblG_at 66 (by decide +kernel) (by decide +kernel), ⟨by decide +kernel, by decide +kernel, by decide +kernel⟩, rfl, rfl, tblG_at 1156 (by decide +kernel) (by decide +kernel), tblG_at 39 (by decide +kernel) (by decide +kernel)⟩
def mX12_makes : Mt := (yX12_makes, cX12_makes, 1, (some .int), { frames := 6, cells := 0, slots := 0, locals := 153 })
theorem zX12_makes : Zv mX12_makes 0 := ⟨tblG_at 1221 (by decide +kernel) (by decide +kernel), tblG_at 66 (by decide +kernel) (by decide +kernel), ⟨by decide +kernel, by decide +kernel, by decide +kernel⟩, rfl, rfl, tblG_at 1219 (by decide +kernel) (by decide +kernel), tblG_at 1220 (by decide +kernel) (by decide +kernel)⟩
def mX12_narrowed : Mt := (yX12_narrowed, cX12_narrowed, 11, (some .long), { frames := 6, cells := 0, slots := 0, locals := 158 })
theorem zX12_narrowed : Zv mX12_narrowed 3 := ⟨tblG_at 1245 (by decide +kernel) (by decide +kernel), tblG_at 66 (by decide +kernel) (by decide +kernel), ⟨by decide +kernel, by decide +kernel, by decide +kernel⟩, rfl, rfl, tblG_at 1243 (by decide +kernel) (by decide +kernel), tblG_at 1244 (by decide +kernel) (by decide +kernel)⟩
def mX12_narrows : Mt := (yX12_narrows, cX12_narrows, 10, none, { frames := 5, cells := 0, slots := 0, locals := 129 })
theorem zX12_narrows : Zv mX12_narrows 1 := ⟨tblG_at 1249 (by decide +kernel) (by decide +kernel), tblG_at 66 (by decide +kernel) (by decide +kernel), ⟨by decide +kernel, by decide +kernel, by decide +kernel⟩, rfl, rfl, tblG_at 1248 (by decide +kernel) (by decide +kernel), tblG_at 48 (by decide +kernel) (by decide +kernel)⟩
def mX12_numbered : Mt := (yX12_numbered, cX12_numbered, 4, (some .int), { frames := 1, cells := 0, slots := 0, locals := 22 })
theorem zX12_numbered : Zv mX12_numbered 1 := ⟨tblG_at 1073 (by decide +kernel) (by decide +kernel), tblG_at 66 (by decide +kernel) (by decide +kernel), ⟨by decide +kernel, by decide +kernel, by decide +kernel⟩, rfl, rfl, tblG_at 1072 (by decide +kernel) (by decide +kernel), tblG_at 27 (by decide +kernel) (by decide +kernel)⟩
def mX12_paper : Mt := (yX12_paper, cX12_paper, 2, (some .int), { frames := 6, cells := 0, slots := 0, locals := 153 })
theorem zX12_paper : Zv mX12_paper 1 := ⟨tblG_at 1233 (by decide +kernel) (by decide +kernel), tblG_at 66 (by decide +kernel) (by decide +kernel), ⟨by decide +kernel, by decide +kernel, by decide +kernel⟩, rfl, rfl, tblG_at 1231 (by decide +kernel) (by decide +kernel), tblG_at 1232 (by decide +kernel) (by decide +kernel)⟩
def mX12_polynomial : Mt := (yX12_polynomial, cX12_polynomial, 3, (some .boolean), { frames := 2, cells := 0, slots := 0, locals := 46 })
theorem zX12_polynomial : Zv mX12_polynomial 0 := ⟨tblG_at 1081 (by decide +kernel) (by decide +kernel), tblG_at 66 (by decide +kernel) (by decide +kernel), ⟨by decide +kernel, by decide +kernel, by decide +kernel⟩, rfl, rfl, tblG_at 1080 (by decide +kernel) (by decide +kernel), tblG_at 29 (by decide +kernel) (by decide +kernel)⟩
def mX12_power : Mt := (yX12_power, cX12_power, 6, (some .long), { frames := 0, cells := 0, slots := 0, locals := 0 })
theorem zX12_power : Zs mX12_power 2 := ⟨tblG_at 1168 (by decide +kernel) (by decide +kernel), tblG_at 66 (by decide +kernel) (by decide +kernel), ⟨by decide +kernel, by decide +kernel, by decide +kernel⟩, rfl, rfl, tblG_at 1167 (by decide +kernel) (by decide +kernel)⟩
def mX12_proves : Mt := (yX12_proves, cX12_proves, 5, (some .int), { frames := 5, cells := 0, slots := 0, locals := 131 })
theorem zX12_proves : Zv mX12_proves 0 := ⟨tblG_at 1241 (by decide +kernel) (by decide +kernel), tblG_at 66 (by decide +kernel) (by decide +kernel), ⟨by decide +kernel, by decide +kernel, by decide +kernel⟩, rfl, rfl, tblG_at 1239 (by decide +kernel) (by decide +kernel), tblG_at 1240 (by decide +kernel) (by decide +kernel)⟩
def mX12_puts : Mt := (yX12_puts, cX12_puts, 2, none, { frames := 0, cells := 0, slots := 0, locals := 0 })
theorem zX12_puts : Zv mX12_puts 1 := ⟨tblG_at 1209 (by decide +kernel) (by decide +kernel), tblG_at 66 (by decide +kernel) (by decide +kernel), ⟨by decide +kernel, by decide +kernel, by decide +kernel⟩, rfl, rfl, tblG_at 1208 (by decide +kernel) (by decide +kernel), tblG_at 44 (by decide +kernel) (by decide +kernel)⟩
def mX12_sees : Mt := (yX12_sees, cX12_sees, 3, (some .int), { frames := 1, cells := 0, slots := 0, locals := 22 })
theorem zX12_sees : Zv mX12_sees 2 := ⟨tblG_at 1277 (by decide +kernel) (by decide +kernel), tblG_at 66 (by decide +kernel) (by decide +kernel), ⟨by decide +kernel, by decide +kernel, by decide +kernel⟩, rfl, rfl, tblG_at 1275 (by decide +kernel) (by decide +kernel), tblG_at 1276 (by decide +kernel) (by decide +kernel)⟩
def mX12_signAt : Mt := (yX12_signAt, cX12_signAt, 6, (some .int), { frames := 1, cells := 0, slots := 0, locals := 25 })
theorem zX12_signAt : Zv mX12_signAt 2 := ⟨tblG_at 1289 (by decide +kernel) (by decide +kernel), tblG_at 66 (by decide +kernel) (by decide +kernel), ⟨by decide +kernel, by decide +kernel, by decide +kernel⟩, rfl, rfl, tblG_at 1288 (by decide +kernel) (by decide +kernel), tblG_at 52 (by decide +kernel) (by decide +kernel)⟩
def mX12_sizeOf : Mt := (yX12_sizeOf, cX12_sizeOf, 3, (some .int), { frames := 0, cells := 0, slots := 0, locals := 0 })
theorem zX12_sizeOf : Zs mX12_sizeOf 1 := ⟨tblG_at 1160 (by decide +kernel) (by decide +kernel), tblG_at 66 (by decide +kernel) (by decide +kernel), ⟨by decide +kernel, by decide +kernel, by decide +kernel⟩, rfl, rfl, tblG_at 1159 (by decide +kernel) (by decide +kernel)⟩
def mX12_split : Mt := (yX12_split, cX12_split, 3, none, { frames := 2, cells := 0, slots := 0, locals := 45 })
theorem zX12_split : Zv mX12_split 0 := ⟨tblG_at 1069 (by decide +kernel) (by decide +kernel), tblG_at 66 (by decide +kernel) (by decide +kernel), ⟨by decide +kernel, by decide +kernel, by decide +kernel⟩, rfl, rfl, tblG_at 1068 (by decide +kernel) (by decide +kernel), tblG_at 26 (by decide +kernel) (by decide +kernel)⟩
def mX12_sure : Mt := (yX12_sure, cX12_sure, 4, (some .int), { frames := 6, cells := 0, slots := 0, locals := 154 })
theorem zX12_sure : Zv mX12_sure 1 := ⟨tblG_at 1257 (by decide +kernel) (by decide +kernel), tblG_at 66 (by decide +kernel) (by decide +kernel), ⟨by decide +kernel, by decide +kernel, by decide +kernel⟩, rfl, rfl, tblG_at 1255 (by decide +kernel) (by decide +kernel), tblG_at 1256 (by decide +kernel) (by decide +kernel)⟩
def mX12_takes : Mt := (yX12_takes, cX12_takes, 3, (some .int), { frames := 2, cells := 0, slots := 0, locals := 43 })
theorem zX12_takes : Zv mX12_takes 2 := ⟨tblG_at 1093 (by decide +kernel) (by decide +kernel), tblG_at 66 (by decide +kernel) (by decide +kernel), ⟨by decide +kernel, by decide +kernel, by decide +kernel⟩, rfl, rfl, tblG_at 1091 (by decide +kernel) (by decide +kernel), tblG_at 1092 (by decide +kernel) (by decide +kernel)⟩
def mX12_takesNumber : Mt := (yX12_takesNumber, cX12_takesNumber, 5, (some .boolean), { frames := 1, cells := 0, slots := 0, locals := 22 })
theorem zX12_takesNumber : Zv mX12_takesNumber 2 := ⟨tblG_at 1085 (by decide +kernel) (by decide +kernel), tblG_at 66 (by decide +kernel) (by decide +kernel), ⟨by decide +kernel, by decide +kernel, by decide +kernel⟩, rfl, rfl, tblG_at 1084 (by decide +kernel) (by decide +kernel), tblG_at 30 (by decide +kernel) (by decide +kernel)⟩
def mX12_type : Mt := (yX12_type, cX12_type, 2, (some .int), { frames := 1, cells := 0, slots := 0, locals := 22 })
theorem zX12_type : Zv mX12_type 1 := ⟨tblG_at 1054 (by decide +kernel) (by decide +kernel), tblG_at 66 (by decide +kernel) (by decide +kernel), ⟨by decide +kernel, by decide +kernel, by decide +kernel⟩, rfl, rfl, tblG_at 1052 (by decide +kernel) (by decide +kernel), tblG_at 1053 (by decide +kernel) (by decide +kernel)⟩
def mX12_undo : Mt := (yX12_undo, cX12_undo, 1, (some .int), { frames := 0, cells := 0, slots := 0, locals := 0 })
theorem zX12_undo : Zv mX12_undo 0 := ⟨tblG_at 1134 (by decide +kernel) (by decide +kernel), tblG_at 66 (by decide +kernel) (by decide +kernel), ⟨by decide +kernel, by decide +kernel, by decide +kernel⟩, rfl, rfl, tblG_at 1132 (by decide +kernel) (by decide +kernel), tblG_at 1133 (by decide +kernel) (by decide +kernel)⟩
def mX12_unseen : Mt := (yX12_unseen, cX12_unseen, 5, (some .int), { frames := 2, cells := 0, slots := 0, locals := 50 })
theorem zX12_unseen : Zv mX12_unseen 0 := ⟨tblG_at 1285 (by decide +kernel) (by decide +kernel), tblG_at 66 (by decide +kernel) (by decide +kernel), ⟨by decide +kernel, by decide +kernel, by decide +kernel⟩, rfl, rfl, tblG_at 1283 (by decide +kernel) (by decide +kernel), tblG_at 1284 (by decide +kernel) (by decide +kernel)⟩
def mX12_value : Mt := (yX12_value, cX12_value, 4, (some .long), { frames := 4, cells := 0, slots := 0, locals := 105 })
theorem zX12_value : Zv mX12_value 3 := ⟨tblG_at 1197 (by decide +kernel) (by decide +kernel), tblG_at 66 (by decide +kernel) (by decide +kernel), ⟨by decide +kernel, by decide +kernel, by decide +kernel⟩, rfl, rfl, tblG_at 1195 (by decide +kernel) (by decide +kernel), tblG_at 1196 (by decide +kernel) (by decide +kernel)⟩
def mX12_variation : Mt := (yX12_variation, cX12_variation, 3, (some .int), { frames := 5, cells := 0, slots := 0, locals := 131 })
theorem zX12_variation : Zv mX12_variation 2 := ⟨tblG_at 1181 (by decide +kernel) (by decide +kernel), tblG_at 66 (by decide +kernel) (by decide +kernel), ⟨by decide +kernel, by decide +kernel, by decide +kernel⟩, rfl, rfl, tblG_at 1179 (by decide +kernel) (by decide +kernel), tblG_at 1180 (by decide +kernel) (by decide +kernel)⟩
def mX12_varies : Mt := (yX12_varies, cX12_varies, 7, (some .int), { frames := 4, cells := 0, slots := 0, locals := 105 })
theorem zX12_varies : Zv mX12_varies 2 := ⟨tblG_at 1185 (by decide +kernel) (by decide +kernel), tblG_at 66 (by decide +kernel) (by decide +kernel), ⟨by decide +kernel, by decide +kernel, by decide +kernel⟩, rfl, rfl, tblG_at 1184 (by decide +kernel) (by decide +kernel), tblG_at 41 (by decide +kernel) (by decide +kernel)⟩
def mX12_wish : Mt := (yX12_wish, cX12_wish, 2, (some .long), { frames := 2, cells := 0, slots := 0, locals := 43 })
theorem zX12_wish : Zv mX12_wish 1 := ⟨tblG_at 1273 (by decide +kernel) (by decide +kernel), tblG_at 66 (by decide +kernel) (by decide +kernel), ⟨by decide +kernel, by decide +kernel, by decide +kernel⟩, rfl, rfl, tblG_at 1271 (by decide +kernel) (by decide +kernel), tblG_at 1272 (by decide +kernel) (by decide +kernel)⟩
def mX12_wishes : Mt := (yX12_wishes, cX12_wishes, 3, (some .int), { frames := 2, cells := 0, slots := 0, locals := 43 })
theorem zX12_wishes : Zv mX12_wishes 2 := ⟨tblG_at 1130 (by decide +kernel) (by decide +kernel), tblG_at 66 (by decide +kernel) (by decide +kernel), ⟨by decide +kernel, by decide +kernel, by decide +kernel⟩, rfl, rfl, tblG_at 1128 (by decide +kernel) (by decide +kernel), tblG_at 1129 (by decide +kernel) (by decide +kernel)⟩
def mX12_witness : Mt := (yX12_witness, cX12_witness, 2, (some .long), { frames := 6, cells := 0, slots := 0, locals := 153 })
theorem zX12_witness : Zv mX12_witness 1 := ⟨tblG_at 1237 (by decide +kernel) (by decide +kernel), tblG_at 66 (by decide +kernel) (by decide +kernel), ⟨by decide +kernel, by decide +kernel, by decide +kernel⟩, rfl, rfl, tblG_at 1235 (by decide +kernel) (by decide +kernel), tblG_at 1236 (by decide +kernel) (by decide +kernel)⟩
def mX12_writes : Mt := (yX12_writes, cX12_writes, 3, (some .int), { frames := 5, cells := 0, slots := 0, locals := 131 })
theorem zX12_writes : Zv mX12_writes 0 := ⟨tblG_at 1225 (by decide +kernel) (by decide +kernel), tblG_at 66 (by decide +kernel) (by decide +kernel), ⟨by decide +kernel, by decide +kernel, by decide +kernel⟩, rfl, rfl, tblG_at 1224 (by decide +kernel) (by decide +kernel), tblG_at 46 (by decide +kernel) (by decide +kernel)⟩
def mX1_empty : Mt := (yX1_empty, cX1_empty, 1, none, { frames := 0, cells := 0, slots := 0, locals := 0 })
theorem zX1_empty : Zv mX1_empty 0 := ⟨tblG_at 447 (by decide +kernel) (by decide +kernel), tblG_at 58 (by decide +kernel) (by decide +kernel), ⟨by decide +kernel, by decide +kernel, by decide +kernel⟩, rfl, rfl, tblG_at 445 (by decide +kernel) (by decide +kernel), tblG_at 446 (by decide +kernel) (by decide +kernel)⟩
def mX1_remember : Mt := (yX1_remember, cX1_remember, 7, none, { frames := 1, cells := 0, slots := 0, locals := 48 })
theorem zX1_remember : Zv mX1_remember 5 := ⟨tblG_at 503 (by decide +kernel) (by decide +kernel), tblG_at 58 (by decide +kernel) (by decide +kernel), ⟨by decide +kernel, by decide +kernel, by decide +kernel⟩, rfl, rfl, tblG_at 502 (by decide +kernel) (by decide +kernel), tblG_at 11 (by decide +kernel) (by decide +kernel)⟩
def mX1_rememberBox : Mt := (yX1_rememberBox, cX1_rememberBox, 3, none, { frames := 2, cells := 0, slots := 0, locals := 74 })
theorem zX1_rememberBox : Zv mX1_rememberBox 2 := ⟨tblG_at 517 (by decide +kernel) (by decide +kernel), tblG_at 58 (by decide +kernel) (by decide +kernel), ⟨by decide +kernel, by decide +kernel, by decide +kernel⟩, rfl, rfl, tblG_at 515 (by decide +kernel) (by decide +kernel), tblG_at 516 (by decide +kernel) (by decide +kernel)⟩
def mX1_rememberCoefficient : Mt := (yX1_rememberCoefficient, cX1_rememberCoefficient, 4, none, { frames := 2, cells := 0, slots := 0, locals := 74 })
theorem zX1_rememberCoefficient : Zv mX1_rememberCoefficient 3 := ⟨tblG_at 498 (by decide +kernel) (by decide +kernel), tblG_at 58 (by decide +kernel) (by decide +kernel), ⟨by decide +kernel, by decide +kernel, by decide +kernel⟩, rfl, rfl, tblG_at 496 (by decide +kernel) (by decide +kernel), tblG_at 497 (by decide +kernel) (by decide +kernel)⟩
def mX1_rememberWish : Mt := (yX1_rememberWish, cX1_rememberWish, 3, none, { frames := 2, cells := 0, slots := 0, locals := 74 })
theorem zX1_rememberWish : Zv mX1_rememberWish 2 := ⟨tblG_at 535 (by decide +kernel) (by decide +kernel), tblG_at 58 (by decide +kernel) (by decide +kernel), ⟨by decide +kernel, by decide +kernel, by decide +kernel⟩, rfl, rfl, tblG_at 533 (by decide +kernel) (by decide +kernel), tblG_at 534 (by decide +kernel) (by decide +kernel)⟩
def mX1_size : Mt := (yX1_size, cX1_size, 1, (some .int), { frames := 0, cells := 0, slots := 0, locals := 0 })
theorem zX1_size : Zv mX1_size 0 := ⟨tblG_at 548 (by decide +kernel) (by decide +kernel), tblG_at 58 (by decide +kernel) (by decide +kernel), ⟨by decide +kernel, by decide +kernel, by decide +kernel⟩, rfl, rfl, tblG_at 546 (by decide +kernel) (by decide +kernel), tblG_at 547 (by decide +kernel) (by decide +kernel)⟩
def mX1_takeBack : Mt := (yX1_takeBack, cX1_takeBack, 4, none, { frames := 2, cells := 0, slots := 0, locals := 45 })
theorem zX1_takeBack : Zv mX1_takeBack 1 := ⟨tblG_at 552 (by decide +kernel) (by decide +kernel), tblG_at 58 (by decide +kernel) (by decide +kernel), ⟨by decide +kernel, by decide +kernel, by decide +kernel⟩, rfl, rfl, tblG_at 550 (by decide +kernel) (by decide +kernel), tblG_at 551 (by decide +kernel) (by decide +kernel)⟩
def mX2_add : Mt := (yX2_add, cX2_add, 2, none, { frames := 0, cells := 0, slots := 0, locals := 0 })
theorem zX2_add : Zv mX2_add 1 := ⟨tblG_at 745 (by decide +kernel) (by decide +kernel), tblG_at 63 (by decide +kernel) (by decide +kernel), ⟨by decide +kernel, by decide +kernel, by decide +kernel⟩, rfl, rfl, tblG_at 744 (by decide +kernel) (by decide +kernel), tblG_at 17 (by decide +kernel) (by decide +kernel)⟩
def mX2_isRight : Mt := (yX2_isRight, cX2_isRight, 4, (some .boolean), { frames := 4, cells := 0, slots := 0, locals := 99 })
theorem zX2_isRight : Zs mX2_isRight 4 := ⟨tblG_at 783 (by decide +kernel) (by decide +kernel), tblG_at 63 (by decide +kernel) (by decide +kernel), ⟨by decide +kernel, by decide +kernel, by decide +kernel⟩, rfl, rfl, tblG_at 782 (by decide +kernel) (by decide +kernel)⟩
def mX2_leastFigure : Mt := (yX2_leastFigure, cX2_leastFigure, 4, (some .int), { frames := 4, cells := 0, slots := 0, locals := 97 })
theorem zX2_leastFigure : Zs mX2_leastFigure 3 := ⟨tblG_at 735 (by decide +kernel) (by decide +kernel), tblG_at 63 (by decide +kernel) (by decide +kernel), ⟨by decide +kernel, by decide +kernel, by decide +kernel⟩, rfl, rfl, tblG_at 734 (by decide +kernel) (by decide +kernel)⟩
def mX2_letter : Mt := (yX2_letter, cX2_letter, 2, (some .int), { frames := 0, cells := 0, slots := 0, locals := 0 })
theorem zX2_letter : Zv mX2_letter 1 := ⟨tblG_at 761 (by decide +kernel) (by decide +kernel), tblG_at 63 (by decide +kernel) (by decide +kernel), ⟨by decide +kernel, by decide +kernel, by decide +kernel⟩, rfl, rfl, tblG_at 759 (by decide +kernel) (by decide +kernel), tblG_at 760 (by decide +kernel) (by decide +kernel)⟩
def mX2_place : Mt := (yX2_place, cX2_place, 1, (some .int), { frames := 0, cells := 0, slots := 0, locals := 0 })
theorem zX2_place : Zv mX2_place 0 := ⟨tblG_at 769 (by decide +kernel) (by decide +kernel), tblG_at 63 (by decide +kernel) (by decide +kernel), ⟨by decide +kernel, by decide +kernel, by decide +kernel⟩, rfl, rfl, tblG_at 767 (by decide +kernel) (by decide +kernel), tblG_at 768 (by decide +kernel) (by decide +kernel)⟩
def mX2_read : Mt := (yX2_read, cX2_read, 9, (some .int), { frames := 5, cells := 0, slots := 0, locals := 122 })
theorem zX2_read : Zv mX2_read 3 := ⟨tblG_at 777 (by decide +kernel) (by decide +kernel), tblG_at 63 (by decide +kernel) (by decide +kernel), ⟨by decide +kernel, by decide +kernel, by decide +kernel⟩, rfl, rfl, tblG_at 775 (by decide +kernel) (by decide +kernel), tblG_at 776 (by decide +kernel) (by decide +kernel)⟩
def mX2_write : Mt := (yX2_write, cX2_write, 6, (some .int), { frames := 5, cells := 0, slots := 0, locals := 120 })
theorem zX2_write : Zv mX2_write 2 := ⟨tblG_at 732 (by decide +kernel) (by decide +kernel), tblG_at 63 (by decide +kernel) (by decide +kernel), ⟨by decide +kernel, by decide +kernel, by decide +kernel⟩, rfl, rfl, tblG_at 730 (by decide +kernel) (by decide +kernel), tblG_at 731 (by decide +kernel) (by decide +kernel)⟩
def mX3_add : Mt := (yX3_add, cX3_add, 3, none, { frames := 0, cells := 0, slots := 0, locals := 0 })
theorem zX3_add : Zv mX3_add 2 := ⟨tblG_at 697 (by decide +kernel) (by decide +kernel), tblG_at 62 (by decide +kernel) (by decide +kernel), ⟨by decide +kernel, by decide +kernel, by decide +kernel⟩, rfl, rfl, tblG_at 696 (by decide +kernel) (by decide +kernel), tblG_at 15 (by decide +kernel) (by decide +kernel)⟩
def mX3_find : Mt := (yX3_find, cX3_find, 6, none, { frames := 4, cells := 0, slots := 0, locals := 97 })
theorem zX3_find : Zv mX3_find 2 := ⟨tblG_at 691 (by decide +kernel) (by decide +kernel), tblG_at 62 (by decide +kernel) (by decide +kernel), ⟨by decide +kernel, by decide +kernel, by decide +kernel⟩, rfl, rfl, tblG_at 689 (by decide +kernel) (by decide +kernel), tblG_at 690 (by decide +kernel) (by decide +kernel)⟩
def mX3_kind : Mt := (yX3_kind, cX3_kind, 2, (some .int), { frames := 0, cells := 0, slots := 0, locals := 0 })
theorem zX3_kind : Zv mX3_kind 1 := ⟨tblG_at 724 (by decide +kernel) (by decide +kernel), tblG_at 62 (by decide +kernel) (by decide +kernel), ⟨by decide +kernel, by decide +kernel, by decide +kernel⟩, rfl, rfl, tblG_at 722 (by decide +kernel) (by decide +kernel), tblG_at 723 (by decide +kernel) (by decide +kernel)⟩
def mX3_node : Mt := (yX3_node, cX3_node, 2, (some .int), { frames := 0, cells := 0, slots := 0, locals := 0 })
theorem zX3_node : Zv mX3_node 1 := ⟨tblG_at 720 (by decide +kernel) (by decide +kernel), tblG_at 62 (by decide +kernel) (by decide +kernel), ⟨by decide +kernel, by decide +kernel, by decide +kernel⟩, rfl, rfl, tblG_at 718 (by decide +kernel) (by decide +kernel), tblG_at 719 (by decide +kernel) (by decide +kernel)⟩
def mX3_pass : Mt := (yX3_pass, cX3_pass, 4, (some .int), { frames := 2, cells := 0, slots := 0, locals := 41 })
theorem zX3_pass : Zv mX3_pass 2 := ⟨tblG_at 701 (by decide +kernel) (by decide +kernel), tblG_at 62 (by decide +kernel) (by decide +kernel), ⟨by decide +kernel, by decide +kernel, by decide +kernel⟩, rfl, rfl, tblG_at 700 (by decide +kernel) (by decide +kernel), tblG_at 16 (by decide +kernel) (by decide +kernel)⟩
def mX3_size : Mt := (yX3_size, cX3_size, 1, (some .int), { frames := 0, cells := 0, slots := 0, locals := 0 })
theorem zX3_size : Zv mX3_size 0 := ⟨tblG_at 712 (by decide +kernel) (by decide +kernel), tblG_at 62 (by decide +kernel) (by decide +kernel), ⟨by decide +kernel, by decide +kernel, by decide +kernel⟩, rfl, rfl, tblG_at 710 (by decide +kernel) (by decide +kernel), tblG_at 711 (by decide +kernel) (by decide +kernel)⟩
def mX4_addWhole : Mt := (yX4_addWhole, cX4_addWhole, 4, none, { frames := 1, cells := 0, slots := 0, locals := 22 })
theorem zX4_addWhole : Zv mX4_addWhole 1 := ⟨tblG_at 625 (by decide +kernel) (by decide +kernel), tblG_at 61 (by decide +kernel) (by decide +kernel), ⟨by decide +kernel, by decide +kernel, by decide +kernel⟩, rfl, rfl, tblG_at 624 (by decide +kernel) (by decide +kernel), tblG_at 13 (by decide +kernel) (by decide +kernel)⟩
def mX4_allHave : Mt := (yX4_allHave, cX4_allHave, 3, (some .boolean), { frames := 1, cells := 0, slots := 0, locals := 21 })
theorem zX4_allHave : Zv mX4_allHave 1 := ⟨tblG_at 740 (by decide +kernel) (by decide +kernel), tblG_at 61 (by decide +kernel) (by decide +kernel), ⟨by decide +kernel, by decide +kernel, by decide +kernel⟩, rfl, rfl, tblG_at 738 (by decide +kernel) (by decide +kernel), tblG_at 739 (by decide +kernel) (by decide +kernel)⟩
def mX4_below : Mt := (yX4_below, cX4_below, 2, (some .long), { frames := 1, cells := 0, slots := 0, locals := 22 })
theorem zX4_below : Zv mX4_below 1 := ⟨tblG_at 643 (by decide +kernel) (by decide +kernel), tblG_at 61 (by decide +kernel) (by decide +kernel), ⟨by decide +kernel, by decide +kernel, by decide +kernel⟩, rfl, rfl, tblG_at 641 (by decide +kernel) (by decide +kernel), tblG_at 642 (by decide +kernel) (by decide +kernel)⟩
def mX4_commonBelow : Mt := (yX4_commonBelow, cX4_commonBelow, 1, (some .long), { frames := 0, cells := 0, slots := 0, locals := 0 })
theorem zX4_commonBelow : Zv mX4_commonBelow 0 := ⟨tblG_at 838 (by decide +kernel) (by decide +kernel), tblG_at 61 (by decide +kernel) (by decide +kernel), ⟨by decide +kernel, by decide +kernel, by decide +kernel⟩, rfl, rfl, tblG_at 836 (by decide +kernel) (by decide +kernel), tblG_at 837 (by decide +kernel) (by decide +kernel)⟩
def mX4_commonNumber : Mt := (yX4_commonNumber, cX4_commonNumber, 3, (some .long), { frames := 1, cells := 0, slots := 0, locals := 22 })
theorem zX4_commonNumber : Zv mX4_commonNumber 1 := ⟨tblG_at 805 (by decide +kernel) (by decide +kernel), tblG_at 61 (by decide +kernel) (by decide +kernel), ⟨by decide +kernel, by decide +kernel, by decide +kernel⟩, rfl, rfl, tblG_at 804 (by decide +kernel) (by decide +kernel), tblG_at 19 (by decide +kernel) (by decide +kernel)⟩
def mX4_lay : Mt := (yX4_lay, cX4_lay, 3, none, { frames := 3, cells := 0, slots := 0, locals := 75 })
theorem zX4_lay : Zv mX4_lay 2 := ⟨tblG_at 679 (by decide +kernel) (by decide +kernel), tblG_at 61 (by decide +kernel) (by decide +kernel), ⟨by decide +kernel, by decide +kernel, by decide +kernel⟩, rfl, rfl, tblG_at 677 (by decide +kernel) (by decide +kernel), tblG_at 678 (by decide +kernel) (by decide +kernel)⟩
def mX4_layOne : Mt := (yX4_layOne, cX4_layOne, 11, none, { frames := 2, cells := 0, slots := 0, locals := 45 })
theorem zX4_layOne : Zv mX4_layOne 3 := ⟨tblG_at 589 (by decide +kernel) (by decide +kernel), tblG_at 61 (by decide +kernel) (by decide +kernel), ⟨by decide +kernel, by decide +kernel, by decide +kernel⟩, rfl, rfl, tblG_at 587 (by decide +kernel) (by decide +kernel), tblG_at 588 (by decide +kernel) (by decide +kernel)⟩
def mX4_layRaised : Mt := (yX4_layRaised, cX4_layRaised, 5, none, { frames := 3, cells := 0, slots := 0, locals := 75 })
theorem zX4_layRaised : Zv mX4_layRaised 3 := ⟨tblG_at 584 (by decide +kernel) (by decide +kernel), tblG_at 61 (by decide +kernel) (by decide +kernel), ⟨by decide +kernel, by decide +kernel, by decide +kernel⟩, rfl, rfl, tblG_at 582 (by decide +kernel) (by decide +kernel), tblG_at 583 (by decide +kernel) (by decide +kernel)⟩
def mX4_least : Mt := (yX4_least, cX4_least, 4, (some .long), { frames := 2, cells := 0, slots := 0, locals := 44 })
theorem zX4_least : Zv mX4_least 0 := ⟨tblG_at 801 (by decide +kernel) (by decide +kernel), tblG_at 61 (by decide +kernel) (by decide +kernel), ⟨by decide +kernel, by decide +kernel, by decide +kernel⟩, rfl, rfl, tblG_at 799 (by decide +kernel) (by decide +kernel), tblG_at 800 (by decide +kernel) (by decide +kernel)⟩
def mX4_leastEnd : Mt := (yX4_leastEnd, cX4_leastEnd, 1, (some .long), { frames := 2, cells := 0, slots := 0, locals := 44 })
theorem zX4_leastEnd : Zv mX4_leastEnd 0 := ⟨tblG_at 812 (by decide +kernel) (by decide +kernel), tblG_at 61 (by decide +kernel) (by decide +kernel), ⟨by decide +kernel, by decide +kernel, by decide +kernel⟩, rfl, rfl, tblG_at 810 (by decide +kernel) (by decide +kernel), tblG_at 811 (by decide +kernel) (by decide +kernel)⟩
def mX4_multiply : Mt := (yX4_multiply, cX4_multiply, 6, none, { frames := 0, cells := 0, slots := 0, locals := 0 })
theorem zX4_multiply : Zv mX4_multiply 2 := ⟨tblG_at 621 (by decide +kernel) (by decide +kernel), tblG_at 61 (by decide +kernel) (by decide +kernel), ⟨by decide +kernel, by decide +kernel, by decide +kernel⟩, rfl, rfl, tblG_at 620 (by decide +kernel) (by decide +kernel), tblG_at 12 (by decide +kernel) (by decide +kernel)⟩
def mX4_number : Mt := (yX4_number, cX4_number, 2, (some .long), { frames := 0, cells := 0, slots := 0, locals := 0 })
theorem zX4_number : Zv mX4_number 1 := ⟨tblG_at 639 (by decide +kernel) (by decide +kernel), tblG_at 61 (by decide +kernel) (by decide +kernel), ⟨by decide +kernel, by decide +kernel, by decide +kernel⟩, rfl, rfl, tblG_at 637 (by decide +kernel) (by decide +kernel), tblG_at 638 (by decide +kernel) (by decide +kernel)⟩
def mX4_raise : Mt := (yX4_raise, cX4_raise, 1, none, { frames := 1, cells := 0, slots := 0, locals := 25 })
theorem zX4_raise : Zv mX4_raise 0 := ⟨tblG_at 635 (by decide +kernel) (by decide +kernel), tblG_at 61 (by decide +kernel) (by decide +kernel), ⟨by decide +kernel, by decide +kernel, by decide +kernel⟩, rfl, rfl, tblG_at 633 (by decide +kernel) (by decide +kernel), tblG_at 634 (by decide +kernel) (by decide +kernel)⟩
def mX4_signAtHigh : Mt := (yX4_signAtHigh, cX4_signAtHigh, 1, (some .int), { frames := 1, cells := 0, slots := 0, locals := 21 })
theorem zX4_signAtHigh : Zv mX4_signAtHigh 0 := ⟨tblG_at 708 (by decide +kernel) (by decide +kernel), tblG_at 61 (by decide +kernel) (by decide +kernel), ⟨by decide +kernel, by decide +kernel, by decide +kernel⟩, rfl, rfl, tblG_at 706 (by decide +kernel) (by decide +kernel), tblG_at 707 (by decide +kernel) (by decide +kernel)⟩
def mX4_signAtLow : Mt := (yX4_signAtLow, cX4_signAtLow, 1, (some .int), { frames := 1, cells := 0, slots := 0, locals := 21 })
theorem zX4_signAtLow : Zv mX4_signAtLow 0 := ⟨tblG_at 750 (by decide +kernel) (by decide +kernel), tblG_at 61 (by decide +kernel) (by decide +kernel), ⟨by decide +kernel, by decide +kernel, by decide +kernel⟩, rfl, rfl, tblG_at 748 (by decide +kernel) (by decide +kernel), tblG_at 749 (by decide +kernel) (by decide +kernel)⟩
def mX4_signChanges : Mt := (yX4_signChanges, cX4_signChanges, 5, (some .int), { frames := 1, cells := 0, slots := 0, locals := 21 })
theorem zX4_signChanges : Zv mX4_signChanges 0 := ⟨tblG_at 660 (by decide +kernel) (by decide +kernel), tblG_at 61 (by decide +kernel) (by decide +kernel), ⟨by decide +kernel, by decide +kernel, by decide +kernel⟩, rfl, rfl, tblG_at 658 (by decide +kernel) (by decide +kernel), tblG_at 659 (by decide +kernel) (by decide +kernel)⟩
def mX4_top : Mt := (yX4_top, cX4_top, 1, (some .int), { frames := 0, cells := 0, slots := 0, locals := 0 })
theorem zX4_top : Zv mX4_top 0 := ⟨tblG_at 683 (by decide +kernel) (by decide +kernel), tblG_at 61 (by decide +kernel) (by decide +kernel), ⟨by decide +kernel, by decide +kernel, by decide +kernel⟩, rfl, rfl, tblG_at 681 (by decide +kernel) (by decide +kernel), tblG_at 682 (by decide +kernel) (by decide +kernel)⟩
def mX4_ways : Mt := (yX4_ways, cX4_ways, 3, (some .int), { frames := 0, cells := 0, slots := 0, locals := 0 })
theorem zX4_ways : Zv mX4_ways 1 := ⟨tblG_at 629 (by decide +kernel) (by decide +kernel), tblG_at 61 (by decide +kernel) (by decide +kernel), ⟨by decide +kernel, by decide +kernel, by decide +kernel⟩, rfl, rfl, tblG_at 628 (by decide +kernel) (by decide +kernel), tblG_at 14 (by decide +kernel) (by decide +kernel)⟩
def mX5_add : Mt := (yX5_add, cX5_add, 3, none, { frames := 0, cells := 0, slots := 0, locals := 0 })
theorem zX5_add : Zv mX5_add 2 := ⟨tblG_at 864 (by decide +kernel) (by decide +kernel), tblG_at 65 (by decide +kernel) (by decide +kernel), ⟨by decide +kernel, by decide +kernel, by decide +kernel⟩, rfl, rfl, tblG_at 863 (by decide +kernel) (by decide +kernel), tblG_at 23 (by decide +kernel) (by decide +kernel)⟩
def mX5_firstHeld : Mt := (yX5_firstHeld, cX5_firstHeld, 4, (some .int), { frames := 4, cells := 0, slots := 0, locals := 101 })
theorem zX5_firstHeld : Zv mX5_firstHeld 2 := ⟨tblG_at 877 (by decide +kernel) (by decide +kernel), tblG_at 65 (by decide +kernel) (by decide +kernel), ⟨by decide +kernel, by decide +kernel, by decide +kernel⟩, rfl, rfl, tblG_at 875 (by decide +kernel) (by decide +kernel), tblG_at 876 (by decide +kernel) (by decide +kernel)⟩
def mX5_judge : Mt := (yX5_judge, cX5_judge, 7, (some .int), { frames := 3, cells := 0, slots := 0, locals := 75 })
theorem zX5_judge : Zs mX5_judge 3 := ⟨tblG_at 854 (by decide +kernel) (by decide +kernel), tblG_at 65 (by decide +kernel) (by decide +kernel), ⟨by decide +kernel, by decide +kernel, by decide +kernel⟩, rfl, rfl, tblG_at 853 (by decide +kernel) (by decide +kernel)⟩
def mX5_measure : Mt := (yX5_measure, cX5_measure, 6, none, { frames := 4, cells := 0, slots := 0, locals := 101 })
theorem zX5_measure : Zv mX5_measure 2 := ⟨tblG_at 848 (by decide +kernel) (by decide +kernel), tblG_at 65 (by decide +kernel) (by decide +kernel), ⟨by decide +kernel, by decide +kernel, by decide +kernel⟩, rfl, rfl, tblG_at 846 (by decide +kernel) (by decide +kernel), tblG_at 847 (by decide +kernel) (by decide +kernel)⟩
def mX5_share : Mt := (yX5_share, cX5_share, 2, (some .int), { frames := 0, cells := 0, slots := 0, locals := 0 })
theorem zX5_share : Zv mX5_share 1 := ⟨tblG_at 869 (by decide +kernel) (by decide +kernel), tblG_at 65 (by decide +kernel) (by decide +kernel), ⟨by decide +kernel, by decide +kernel, by decide +kernel⟩, rfl, rfl, tblG_at 867 (by decide +kernel) (by decide +kernel), tblG_at 868 (by decide +kernel) (by decide +kernel)⟩
def mX6_add : Mt := (yX6_add, cX6_add, 3, none, { frames := 0, cells := 0, slots := 0, locals := 0 })
theorem zX6_add : Zv mX6_add 2 := ⟨tblG_at 893 (by decide +kernel) (by decide +kernel), tblG_at 59 (by decide +kernel) (by decide +kernel), ⟨by decide +kernel, by decide +kernel, by decide +kernel⟩, rfl, rfl, tblG_at 891 (by decide +kernel) (by decide +kernel), tblG_at 892 (by decide +kernel) (by decide +kernel)⟩
def mX6_empty : Mt := (yX6_empty, cX6_empty, 1, none, { frames := 0, cells := 0, slots := 0, locals := 0 })
theorem zX6_empty : Zv mX6_empty 0 := ⟨tblG_at 451 (by decide +kernel) (by decide +kernel), tblG_at 59 (by decide +kernel) (by decide +kernel), ⟨by decide +kernel, by decide +kernel, by decide +kernel⟩, rfl, rfl, tblG_at 449 (by decide +kernel) (by decide +kernel), tblG_at 450 (by decide +kernel) (by decide +kernel)⟩
def mX6_fit : Mt := (yX6_fit, cX6_fit, 4, (some .boolean), { frames := 3, cells := 0, slots := 0, locals := 68 })
theorem zX6_fit : Zv mX6_fit 2 := ⟨tblG_at 909 (by decide +kernel) (by decide +kernel), tblG_at 59 (by decide +kernel) (by decide +kernel), ⟨by decide +kernel, by decide +kernel, by decide +kernel⟩, rfl, rfl, tblG_at 907 (by decide +kernel) (by decide +kernel), tblG_at 908 (by decide +kernel) (by decide +kernel)⟩
def mX6_isFull : Mt := (yX6_isFull, cX6_isFull, 1, (some .boolean), { frames := 0, cells := 0, slots := 0, locals := 0 })
theorem zX6_isFull : Zv mX6_isFull 0 := ⟨tblG_at 889 (by decide +kernel) (by decide +kernel), tblG_at 59 (by decide +kernel) (by decide +kernel), ⟨by decide +kernel, by decide +kernel, by decide +kernel⟩, rfl, rfl, tblG_at 887 (by decide +kernel) (by decide +kernel), tblG_at 888 (by decide +kernel) (by decide +kernel)⟩
def mX6_size : Mt := (yX6_size, cX6_size, 1, (some .int), { frames := 0, cells := 0, slots := 0, locals := 0 })
theorem zX6_size : Zv mX6_size 0 := ⟨tblG_at 897 (by decide +kernel) (by decide +kernel), tblG_at 59 (by decide +kernel) (by decide +kernel), ⟨by decide +kernel, by decide +kernel, by decide +kernel⟩, rfl, rfl, tblG_at 895 (by decide +kernel) (by decide +kernel), tblG_at 896 (by decide +kernel) (by decide +kernel)⟩
def mX7_hasBox : Mt := (yX7_hasBox, cX7_hasBox, 1, (some .boolean), { frames := 1, cells := 0, slots := 0, locals := 21 })
theorem zX7_hasBox : Zv mX7_hasBox 0 := ⟨tblG_at 571 (by decide +kernel) (by decide +kernel), tblG_at 57 (by decide +kernel) (by decide +kernel), ⟨by decide +kernel, by decide +kernel, by decide +kernel⟩, rfl, rfl, tblG_at 569 (by decide +kernel) (by decide +kernel), tblG_at 570 (by decide +kernel) (by decide +kernel)⟩
def mX7_high : Mt := (yX7_high, cX7_high, 2, (some .int), { frames := 1, cells := 0, slots := 0, locals := 22 })
theorem zX7_high : Zv mX7_high 1 := ⟨tblG_at 608 (by decide +kernel) (by decide +kernel), tblG_at 57 (by decide +kernel) (by decide +kernel), ⟨by decide +kernel, by decide +kernel, by decide +kernel⟩, rfl, rfl, tblG_at 606 (by decide +kernel) (by decide +kernel), tblG_at 607 (by decide +kernel) (by decide +kernel)⟩
def mX7_isThere : Mt := (yX7_isThere, cX7_isThere, 1, (some .boolean), { frames := 2, cells := 0, slots := 0, locals := 41 })
theorem zX7_isThere : Zv mX7_isThere 0 := ⟨tblG_at 566 (by decide +kernel) (by decide +kernel), tblG_at 57 (by decide +kernel) (by decide +kernel), ⟨by decide +kernel, by decide +kernel, by decide +kernel⟩, rfl, rfl, tblG_at 564 (by decide +kernel) (by decide +kernel), tblG_at 565 (by decide +kernel) (by decide +kernel)⟩
def mX7_low : Mt := (yX7_low, cX7_low, 2, (some .int), { frames := 1, cells := 0, slots := 0, locals := 22 })
theorem zX7_low : Zv mX7_low 1 := ⟨tblG_at 597 (by decide +kernel) (by decide +kernel), tblG_at 57 (by decide +kernel) (by decide +kernel), ⟨by decide +kernel, by decide +kernel, by decide +kernel⟩, rfl, rfl, tblG_at 595 (by decide +kernel) (by decide +kernel), tblG_at 596 (by decide +kernel) (by decide +kernel)⟩
def mX7_take : Mt := (yX7_take, cX7_take, 3, none, { frames := 0, cells := 0, slots := 0, locals := 0 })
theorem zX7_take : Zv mX7_take 2 := ⟨tblG_at 443 (by decide +kernel) (by decide +kernel), tblG_at 57 (by decide +kernel) (by decide +kernel), ⟨by decide +kernel, by decide +kernel, by decide +kernel⟩, rfl, rfl, tblG_at 441 (by decide +kernel) (by decide +kernel), tblG_at 442 (by decide +kernel) (by decide +kernel)⟩
def mX7_takenBox : Mt := (yX7_takenBox, cX7_takenBox, 1, (some .int), { frames := 0, cells := 0, slots := 0, locals := 0 })
theorem zX7_takenBox : Zv mX7_takenBox 0 := ⟨tblG_at 936 (by decide +kernel) (by decide +kernel), tblG_at 57 (by decide +kernel) (by decide +kernel), ⟨by decide +kernel, by decide +kernel, by decide +kernel⟩, rfl, rfl, tblG_at 934 (by decide +kernel) (by decide +kernel), tblG_at 935 (by decide +kernel) (by decide +kernel)⟩
def mX7_takenPolynomial : Mt := (yX7_takenPolynomial, cX7_takenPolynomial, 1, (some .int), { frames := 0, cells := 0, slots := 0, locals := 0 })
theorem zX7_takenPolynomial : Zv mX7_takenPolynomial 0 := ⟨tblG_at 576 (by decide +kernel) (by decide +kernel), tblG_at 57 (by decide +kernel) (by decide +kernel), ⟨by decide +kernel, by decide +kernel, by decide +kernel⟩, rfl, rfl, tblG_at 574 (by decide +kernel) (by decide +kernel), tblG_at 575 (by decide +kernel) (by decide +kernel)⟩
def mX7_told : Mt := (yX7_told, cX7_told, 1, (some (.object "ControlSigns$Told")), { frames := 0, cells := 0, slots := 0, locals := 0 })
theorem zX7_told : Zv mX7_told 0 := ⟨tblG_at 593 (by decide +kernel) (by decide +kernel), tblG_at 57 (by decide +kernel) (by decide +kernel), ⟨by decide +kernel, by decide +kernel, by decide +kernel⟩, rfl, rfl, tblG_at 591 (by decide +kernel) (by decide +kernel), tblG_at 592 (by decide +kernel) (by decide +kernel)⟩
def mX8_add : Mt := (yX8_add, cX8_add, 2, none, { frames := 0, cells := 0, slots := 0, locals := 0 })
theorem zX8_add : Zv mX8_add 1 := ⟨tblG_at 322 (by decide +kernel) (by decide +kernel), tblG_at 55 (by decide +kernel) (by decide +kernel), ⟨by decide +kernel, by decide +kernel, by decide +kernel⟩, rfl, rfl, tblG_at 320 (by decide +kernel) (by decide +kernel), tblG_at 321 (by decide +kernel) (by decide +kernel)⟩
def mX8_at : Mt := (yX8_at, cX8_at, 2, (some .int), { frames := 0, cells := 0, slots := 0, locals := 0 })
theorem zX8_at : Zv mX8_at 1 := ⟨tblG_at 355 (by decide +kernel) (by decide +kernel), tblG_at 55 (by decide +kernel) (by decide +kernel), ⟨by decide +kernel, by decide +kernel, by decide +kernel⟩, rfl, rfl, tblG_at 353 (by decide +kernel) (by decide +kernel), tblG_at 354 (by decide +kernel) (by decide +kernel)⟩
def mX8_empty : Mt := (yX8_empty, cX8_empty, 1, none, { frames := 0, cells := 0, slots := 0, locals := 0 })
theorem zX8_empty : Zv mX8_empty 0 := ⟨tblG_at 334 (by decide +kernel) (by decide +kernel), tblG_at 55 (by decide +kernel) (by decide +kernel), ⟨by decide +kernel, by decide +kernel, by decide +kernel⟩, rfl, rfl, tblG_at 332 (by decide +kernel) (by decide +kernel), tblG_at 333 (by decide +kernel) (by decide +kernel)⟩
def mX8_isFull : Mt := (yX8_isFull, cX8_isFull, 1, (some .boolean), { frames := 0, cells := 0, slots := 0, locals := 0 })
theorem zX8_isFull : Zv mX8_isFull 0 := ⟨tblG_at 318 (by decide +kernel) (by decide +kernel), tblG_at 55 (by decide +kernel) (by decide +kernel), ⟨by decide +kernel, by decide +kernel, by decide +kernel⟩, rfl, rfl, tblG_at 316 (by decide +kernel) (by decide +kernel), tblG_at 317 (by decide +kernel) (by decide +kernel)⟩
def mX8_length : Mt := (yX8_length, cX8_length, 1, (some .int), { frames := 0, cells := 0, slots := 0, locals := 0 })
theorem zX8_length : Zv mX8_length 0 := ⟨tblG_at 326 (by decide +kernel) (by decide +kernel), tblG_at 55 (by decide +kernel) (by decide +kernel), ⟨by decide +kernel, by decide +kernel, by decide +kernel⟩, rfl, rfl, tblG_at 324 (by decide +kernel) (by decide +kernel), tblG_at 325 (by decide +kernel) (by decide +kernel)⟩
def mX9_closes : Mt := (yX9_closes, cX9_closes, 1, (some .boolean), { frames := 0, cells := 0, slots := 0, locals := 0 })
theorem zX9_closes : Zv mX9_closes 0 := ⟨tblG_at 428 (by decide +kernel) (by decide +kernel), tblG_at 60 (by decide +kernel) (by decide +kernel), ⟨by decide +kernel, by decide +kernel, by decide +kernel⟩, rfl, rfl, tblG_at 427 (by decide +kernel) (by decide +kernel), tblG_at 10 (by decide +kernel) (by decide +kernel)⟩
def mX9_draft : Mt := (yX9_draft, cX9_draft, 1, (some (.object "ControlSigns$Told")), { frames := 0, cells := 0, slots := 0, locals := 0 })
theorem zX9_draft : Zv mX9_draft 0 := ⟨tblG_at 432 (by decide +kernel) (by decide +kernel), tblG_at 60 (by decide +kernel) (by decide +kernel), ⟨by decide +kernel, by decide +kernel, by decide +kernel⟩, rfl, rfl, tblG_at 430 (by decide +kernel) (by decide +kernel), tblG_at 431 (by decide +kernel) (by decide +kernel)⟩
def mX9_hasRoom : Mt := (yX9_hasRoom, cX9_hasRoom, 1, (some .boolean), { frames := 0, cells := 0, slots := 0, locals := 0 })
theorem zX9_hasRoom : Zv mX9_hasRoom 0 := ⟨tblG_at 366 (by decide +kernel) (by decide +kernel), tblG_at 60 (by decide +kernel) (by decide +kernel), ⟨by decide +kernel, by decide +kernel, by decide +kernel⟩, rfl, rfl, tblG_at 365 (by decide +kernel) (by decide +kernel), tblG_at 2 (by decide +kernel) (by decide +kernel)⟩
def mX9_isDigit : Mt := (yX9_isDigit, cX9_isDigit, 1, (some .boolean), { frames := 0, cells := 0, slots := 0, locals := 0 })
theorem zX9_isDigit : Zs mX9_isDigit 1 := ⟨tblG_at 358 (by decide +kernel) (by decide +kernel), tblG_at 60 (by decide +kernel) (by decide +kernel), ⟨by decide +kernel, by decide +kernel, by decide +kernel⟩, rfl, rfl, tblG_at 357 (by decide +kernel) (by decide +kernel)⟩
def mX9_open : Mt := (yX9_open, cX9_open, 2, none, { frames := 0, cells := 0, slots := 0, locals := 0 })
theorem zX9_open : Zv mX9_open 1 := ⟨tblG_at 412 (by decide +kernel) (by decide +kernel), tblG_at 60 (by decide +kernel) (by decide +kernel), ⟨by decide +kernel, by decide +kernel, by decide +kernel⟩, rfl, rfl, tblG_at 411 (by decide +kernel) (by decide +kernel), tblG_at 7 (by decide +kernel) (by decide +kernel)⟩
def mX9_opensBox : Mt := (yX9_opensBox, cX9_opensBox, 1, (some .boolean), { frames := 1, cells := 0, slots := 0, locals := 21 })
theorem zX9_opensBox : Zv mX9_opensBox 0 := ⟨tblG_at 416 (by decide +kernel) (by decide +kernel), tblG_at 60 (by decide +kernel) (by decide +kernel), ⟨by decide +kernel, by decide +kernel, by decide +kernel⟩, rfl, rfl, tblG_at 415 (by decide +kernel) (by decide +kernel), tblG_at 8 (by decide +kernel) (by decide +kernel)⟩
def mX9_opensPolynomial : Mt := (yX9_opensPolynomial, cX9_opensPolynomial, 1, (some .boolean), { frames := 1, cells := 0, slots := 0, locals := 21 })
theorem zX9_opensPolynomial : Zv mX9_opensPolynomial 0 := ⟨tblG_at 400 (by decide +kernel) (by decide +kernel), tblG_at 60 (by decide +kernel) (by decide +kernel), ⟨by decide +kernel, by decide +kernel, by decide +kernel⟩, rfl, rfl, tblG_at 399 (by decide +kernel) (by decide +kernel), tblG_at 6 (by decide +kernel) (by decide +kernel)⟩
def mX9_read : Mt := (yX9_read, cX9_read, 3, (some .int), { frames := 5, cells := 0, slots := 0, locals := 112 })
theorem zX9_read : Zv mX9_read 1 := ⟨tblG_at 342 (by decide +kernel) (by decide +kernel), tblG_at 60 (by decide +kernel) (by decide +kernel), ⟨by decide +kernel, by decide +kernel, by decide +kernel⟩, rfl, rfl, tblG_at 340 (by decide +kernel) (by decide +kernel), tblG_at 341 (by decide +kernel) (by decide +kernel)⟩
def mX9_stands : Mt := (yX9_stands, cX9_stands, 4, (some .boolean), { frames := 4, cells := 0, slots := 0, locals := 89 })
theorem zX9_stands : Zv mX9_stands 2 := ⟨tblG_at 351 (by decide +kernel) (by decide +kernel), tblG_at 60 (by decide +kernel) (by decide +kernel), ⟨by decide +kernel, by decide +kernel, by decide +kernel⟩, rfl, rfl, tblG_at 350 (by decide +kernel) (by decide +kernel), tblG_at 0 (by decide +kernel) (by decide +kernel)⟩
def mX9_takesCoefficient : Mt := (yX9_takesCoefficient, cX9_takesCoefficient, 2, (some .boolean), { frames := 2, cells := 0, slots := 0, locals := 43 })
theorem zX9_takesCoefficient : Zv mX9_takesCoefficient 1 := ⟨tblG_at 370 (by decide +kernel) (by decide +kernel), tblG_at 60 (by decide +kernel) (by decide +kernel), ⟨by decide +kernel, by decide +kernel, by decide +kernel⟩, rfl, rfl, tblG_at 369 (by decide +kernel) (by decide +kernel), tblG_at 3 (by decide +kernel) (by decide +kernel)⟩
def mX9_takesEnd : Mt := (yX9_takesEnd, cX9_takesEnd, 2, (some .boolean), { frames := 2, cells := 0, slots := 0, locals := 42 })
theorem zX9_takesEnd : Zv mX9_takesEnd 1 := ⟨tblG_at 385 (by decide +kernel) (by decide +kernel), tblG_at 60 (by decide +kernel) (by decide +kernel), ⟨by decide +kernel, by decide +kernel, by decide +kernel⟩, rfl, rfl, tblG_at 384 (by decide +kernel) (by decide +kernel), tblG_at 4 (by decide +kernel) (by decide +kernel)⟩
def mX9_takesMinus : Mt := (yX9_takesMinus, cX9_takesMinus, 1, (some .boolean), { frames := 1, cells := 0, slots := 0, locals := 20 })
theorem zX9_takesMinus : Zv mX9_takesMinus 0 := ⟨tblG_at 424 (by decide +kernel) (by decide +kernel), tblG_at 60 (by decide +kernel) (by decide +kernel), ⟨by decide +kernel, by decide +kernel, by decide +kernel⟩, rfl, rfl, tblG_at 423 (by decide +kernel) (by decide +kernel), tblG_at 9 (by decide +kernel) (by decide +kernel)⟩
def mX9_takesNumber : Mt := (yX9_takesNumber, cX9_takesNumber, 6, (some .boolean), { frames := 3, cells := 0, slots := 0, locals := 64 })
theorem zX9_takesNumber : Zv mX9_takesNumber 2 := ⟨tblG_at 362 (by decide +kernel) (by decide +kernel), tblG_at 60 (by decide +kernel) (by decide +kernel), ⟨by decide +kernel, by decide +kernel, by decide +kernel⟩, rfl, rfl, tblG_at 361 (by decide +kernel) (by decide +kernel), tblG_at 1 (by decide +kernel) (by decide +kernel)⟩
def mX9_takesSign : Mt := (yX9_takesSign, cX9_takesSign, 2, (some .boolean), { frames := 2, cells := 0, slots := 0, locals := 41 })
theorem zX9_takesSign : Zv mX9_takesSign 1 := ⟨tblG_at 396 (by decide +kernel) (by decide +kernel), tblG_at 60 (by decide +kernel) (by decide +kernel), ⟨by decide +kernel, by decide +kernel, by decide +kernel⟩, rfl, rfl, tblG_at 395 (by decide +kernel) (by decide +kernel), tblG_at 5 (by decide +kernel) (by decide +kernel)⟩
theorem lkX9_91 : (RX9, 91, yX11_isCoefficient, "ControlSigns") ∈ nstL := List.mem_of_getElem? (i := 11) (by decide +kernel)
theorem lkX9_97 : (RX9, 97, yX11_isPlace, "ControlSigns") ∈ nstL := List.mem_of_getElem? (i := 12) (by decide +kernel)
theorem lkX7_34 : (RX7, 34, yX11_partsOf, "ControlSigns") ∈ nstL := List.mem_of_getElem? (i := 13) (by decide +kernel)
theorem lkX4_96 : (RX4, 96, yX11_signOf, "ControlSigns") ∈ nstL := List.mem_of_getElem? (i := 14) (by decide +kernel)
theorem lkX3_40 : (RX3, 40, yX11_behind, "ControlSigns") ∈ nstL := List.mem_of_getElem? (i := 15) (by decide +kernel)
theorem lkX2_30 : (RX2, 30, yX11_behind, "ControlSigns") ∈ nstL := List.mem_of_getElem? (i := 16) (by decide +kernel)
theorem lkX2_70 : (RX2, 70, yX11_isWithin, "ControlSigns") ∈ nstL := List.mem_of_getElem? (i := 17) (by decide +kernel)
theorem lkX5_25 : (RX5, 25, yX11_partsOf, "ControlSigns") ∈ nstL := List.mem_of_getElem? (i := 18) (by decide +kernel)
theorem lkX5_33 : (RX5, 33, yX11_behind, "ControlSigns") ∈ nstL := List.mem_of_getElem? (i := 19) (by decide +kernel)
theorem lkX6_28 : (RX6, 28, yX11_signOf, "ControlSigns") ∈ nstL := List.mem_of_getElem? (i := 20) (by decide +kernel)
theorem lkX11_92 : Cond.methodLink RX11 92 yX11_isWithin ∈ tblG := tblG_at 312 (by decide +kernel) (by decide +kernel)
theorem lkX11_96 : Cond.methodLink RX11 96 yX8_isFull ∈ tblG := tblG_at 315 (by decide +kernel) (by decide +kernel)
theorem lkX11_100 : Cond.methodLink RX11 100 yX8_add ∈ tblG := tblG_at 319 (by decide +kernel) (by decide +kernel)
theorem lkX11_104 : Cond.methodLink RX11 104 yX8_length ∈ tblG := tblG_at 323 (by decide +kernel) (by decide +kernel)
theorem lkX11_108 : Cond.methodLink RX11 108 yX8_empty ∈ tblG := tblG_at 331 (by decide +kernel) (by decide +kernel)
theorem lkX11_111 : Cond.methodLink RX11 111 yX9_read ∈ tblG := tblG_at 339 (by decide +kernel) (by decide +kernel)
theorem lkX11_115 : Cond.methodLink RX11 115 yX9_draft ∈ tblG := tblG_at 429 (by decide +kernel) (by decide +kernel)
theorem lkX11_119 : Cond.methodLink RX11 119 yX10_become ∈ tblG := tblG_at 433 (by decide +kernel) (by decide +kernel)
theorem lkX11_122 : Cond.methodLink RX11 122 yX7_take ∈ tblG := tblG_at 440 (by decide +kernel) (by decide +kernel)
theorem lkX11_126 : Cond.methodLink RX11 126 yX1_empty ∈ tblG := tblG_at 444 (by decide +kernel) (by decide +kernel)
theorem lkX11_131 : Cond.methodLink RX11 131 yX6_empty ∈ tblG := tblG_at 448 (by decide +kernel) (by decide +kernel)
theorem lkX11_132 : Cond.methodLink RX11 132 yX10_polynomials ∈ tblG := tblG_at 452 (by decide +kernel) (by decide +kernel)
theorem lkX11_135 : Cond.methodLink RX11 135 yX10_boxes ∈ tblG := tblG_at 453 (by decide +kernel) (by decide +kernel)
theorem lkX11_138 : Cond.methodLink RX11 138 yX10_hasPolynomial ∈ tblG := tblG_at 458 (by decide +kernel) (by decide +kernel)
theorem lkX11_142 : Cond.methodLink RX11 142 yX10_hasBox ∈ tblG := tblG_at 459 (by decide +kernel) (by decide +kernel)
theorem lkX11_145 : Cond.methodLink RX11 145 yX10_hasCoefficient ∈ tblG := tblG_at 467 (by decide +kernel) (by decide +kernel)
theorem lkX11_149 : Cond.methodLink RX11 149 yX10_coefficient ∈ tblG := tblG_at 471 (by decide +kernel) (by decide +kernel)
theorem lkX11_155 : Cond.methodLink RX11 155 yX10_lower ∈ tblG := tblG_at 481 (by decide +kernel) (by decide +kernel)
theorem lkX11_159 : Cond.methodLink RX11 159 yX10_upper ∈ tblG := tblG_at 486 (by decide +kernel) (by decide +kernel)
theorem lkX11_162 : Cond.methodLink RX11 162 yX11_isCoefficient ∈ tblG := tblG_at 494 (by decide +kernel) (by decide +kernel)
theorem lkX11_165 : Cond.methodLink RX11 165 yX1_rememberCoefficient ∈ tblG := tblG_at 495 (by decide +kernel) (by decide +kernel)
theorem lkX11_169 : Cond.methodLink RX11 169 yX10_putCoefficient ∈ tblG := tblG_at 505 (by decide +kernel) (by decide +kernel)
theorem lkX11_173 : Cond.methodLink RX11 173 yX11_isPlace ∈ tblG := tblG_at 513 (by decide +kernel) (by decide +kernel)
theorem lkX11_176 : Cond.methodLink RX11 176 yX1_rememberBox ∈ tblG := tblG_at 514 (by decide +kernel) (by decide +kernel)
theorem lkX11_180 : Cond.methodLink RX11 180 yX10_putBox ∈ tblG := tblG_at 520 (by decide +kernel) (by decide +kernel)
theorem lkX11_183 : Cond.methodLink RX11 183 yX10_wanted ∈ tblG := tblG_at 528 (by decide +kernel) (by decide +kernel)
theorem lkX11_186 : Cond.methodLink RX11 186 yX1_rememberWish ∈ tblG := tblG_at 532 (by decide +kernel) (by decide +kernel)
theorem lkX11_189 : Cond.methodLink RX11 189 yX10_want ∈ tblG := tblG_at 537 (by decide +kernel) (by decide +kernel)
theorem lkX11_192 : Cond.methodLink RX11 192 yX1_size ∈ tblG := tblG_at 545 (by decide +kernel) (by decide +kernel)
theorem lkX11_195 : Cond.methodLink RX11 195 yX1_takeBack ∈ tblG := tblG_at 549 (by decide +kernel) (by decide +kernel)
theorem lkX11_198 : Cond.methodLink RX11 198 yX11_isNode ∈ tblG := tblG_at 560 (by decide +kernel) (by decide +kernel)
theorem lkX11_201 : Cond.methodLink RX11 201 yX7_isThere ∈ tblG := tblG_at 563 (by decide +kernel) (by decide +kernel)
theorem lkX11_204 : Cond.methodLink RX11 204 yX7_takenPolynomial ∈ tblG := tblG_at 573 (by decide +kernel) (by decide +kernel)
theorem lkX11_207 : Cond.methodLink RX11 207 yX10_degree ∈ tblG := tblG_at 577 (by decide +kernel) (by decide +kernel)
theorem lkX11_210 : Cond.methodLink RX11 210 yX4_layRaised ∈ tblG := tblG_at 581 (by decide +kernel) (by decide +kernel)
theorem lkX11_214 : Cond.methodLink RX11 214 yX4_number ∈ tblG := tblG_at 636 (by decide +kernel) (by decide +kernel)
theorem lkX11_218 : Cond.methodLink RX11 218 yX4_below ∈ tblG := tblG_at 640 (by decide +kernel) (by decide +kernel)
theorem lkX11_221 : Cond.methodLink RX11 221 yX11_part ∈ tblG := tblG_at 644 (by decide +kernel) (by decide +kernel)
theorem lkX11_225 : Cond.methodLink RX11 225 yX4_signChanges ∈ tblG := tblG_at 657 (by decide +kernel) (by decide +kernel)
theorem lkX11_228 : Cond.methodLink RX11 228 yX7_low ∈ tblG := tblG_at 669 (by decide +kernel) (by decide +kernel)
theorem lkX11_231 : Cond.methodLink RX11 231 yX7_high ∈ tblG := tblG_at 670 (by decide +kernel) (by decide +kernel)
theorem lkX11_236 : Cond.methodLink RX11 236 yX4_lay ∈ tblG := tblG_at 676 (by decide +kernel) (by decide +kernel)
theorem lkX11_240 : Cond.methodLink RX11 240 yX4_top ∈ tblG := tblG_at 680 (by decide +kernel) (by decide +kernel)
theorem lkX11_243 : Cond.methodLink RX11 243 yX3_find ∈ tblG := tblG_at 688 (by decide +kernel) (by decide +kernel)
theorem lkX11_247 : Cond.methodLink RX11 247 yX3_size ∈ tblG := tblG_at 709 (by decide +kernel) (by decide +kernel)
theorem lkX11_248 : Cond.methodLink RX11 248 yX3_node ∈ tblG := tblG_at 717 (by decide +kernel) (by decide +kernel)
theorem lkX11_251 : Cond.methodLink RX11 251 yX3_kind ∈ tblG := tblG_at 721 (by decide +kernel) (by decide +kernel)
theorem lkX11_254 : Cond.methodLink RX11 254 yX2_write ∈ tblG := tblG_at 729 (by decide +kernel) (by decide +kernel)
theorem lkX11_258 : Cond.methodLink RX11 258 yX2_letter ∈ tblG := tblG_at 758 (by decide +kernel) (by decide +kernel)
theorem lkX11_261 : Cond.methodLink RX11 261 yX2_place ∈ tblG := tblG_at 766 (by decide +kernel) (by decide +kernel)
theorem lkX11_264 : Cond.methodLink RX11 264 yX2_read ∈ tblG := tblG_at 774 (by decide +kernel) (by decide +kernel)
theorem lkX11_267 : Cond.methodLink RX11 267 yX0_narrow ∈ tblG := tblG_at 789 (by decide +kernel) (by decide +kernel)
theorem lkX11_271 : Cond.methodLink RX11 271 yX0_leastNumber ∈ tblG := tblG_at 822 (by decide +kernel) (by decide +kernel)
theorem lkX11_275 : Cond.methodLink RX11 275 yX0_leastEnd ∈ tblG := tblG_at 831 (by decide +kernel) (by decide +kernel)
theorem lkX11_278 : Cond.methodLink RX11 278 yX4_commonBelow ∈ tblG := tblG_at 835 (by decide +kernel) (by decide +kernel)
theorem lkX11_281 : Cond.methodLink RX11 281 yX7_hasBox ∈ tblG := tblG_at 844 (by decide +kernel) (by decide +kernel)
theorem lkX11_283 : Cond.methodLink RX11 283 yX5_measure ∈ tblG := tblG_at 845 (by decide +kernel) (by decide +kernel)
theorem lkX11_286 : Cond.methodLink RX11 286 yX5_share ∈ tblG := tblG_at 866 (by decide +kernel) (by decide +kernel)
theorem lkX11_289 : Cond.methodLink RX11 289 yX5_firstHeld ∈ tblG := tblG_at 874 (by decide +kernel) (by decide +kernel)
theorem lkX11_292 : Cond.methodLink RX11 292 yX6_isFull ∈ tblG := tblG_at 886 (by decide +kernel) (by decide +kernel)
theorem lkX11_293 : Cond.methodLink RX11 293 yX6_add ∈ tblG := tblG_at 890 (by decide +kernel) (by decide +kernel)
theorem lkX11_295 : Cond.methodLink RX11 295 yX6_size ∈ tblG := tblG_at 894 (by decide +kernel) (by decide +kernel)
theorem lkX11_296 : Cond.methodLink RX11 296 yX6_fit ∈ tblG := tblG_at 906 (by decide +kernel) (by decide +kernel)
theorem lkX11_300 : Cond.methodLink RX11 300 yX11_isImage ∈ tblG := tblG_at 921 (by decide +kernel) (by decide +kernel)
theorem lkX11_303 : Cond.methodLink RX11 303 yX7_takenBox ∈ tblG := tblG_at 933 (by decide +kernel) (by decide +kernel)
theorem lkX11_306 : Cond.methodLink RX11 306 Lib.MathLoose.abs_long.x ∈ tblG ∧ Cond.static Lib.MathLoose.abs_long.x ∈ tblG ∧ Cond.initialized "java/lang/Math" ∈ tblG ∧ Cond.code Lib.MathLoose.abs_long.x Lib.MathLoose.abs_long.code 2 (some .long) ∈ tblG := ⟨tblG_at 647 (by decide +kernel) (by decide +kernel), tblG_at 648 (by decide +kernel) (by decide +kernel), tblG_at 68 (by decide +kernel) (by decide +kernel), tblG_at 649 (by decide +kernel) (by decide +kernel)⟩
theorem lkX11_312 : Cond.methodLink RX11 312 yX11_commonDivisor ∈ tblG := tblG_at 650 (by decide +kernel) (by decide +kernel)
theorem lkX0_26 : Cond.methodLink RX0 26 yX0_put ∈ tblG := tblG_at 793 (by decide +kernel) (by decide +kernel)
theorem lkX0_30 : Cond.methodLink RX0 30 yX0_lowest ∈ tblG := tblG_at 813 (by decide +kernel) (by decide +kernel)
theorem lkX0_34 : Cond.methodLink RX0 34 yX0_makeRoom ∈ tblG := tblG_at 817 (by decide +kernel) (by decide +kernel)
theorem lkX0_38 : Cond.methodLink RX0 38 arraycopyName ∈ tblG ∧ Cond.native arraycopyName ∈ tblG ∧ Cond.static arraycopyName ∈ tblG ∧ Cond.initialized "java/lang/System" ∈ tblG := ⟨tblG_at 821 (by decide +kernel) (by decide +kernel), tblG_at 439 (by decide +kernel) (by decide +kernel), tblG_at 438 (by decide +kernel) (by decide +kernel), tblG_at 67 (by decide +kernel) (by decide +kernel)⟩
theorem lkX0_44 : Cond.methodLink RX0 44 yX4_lay ∈ tblG := tblG_at 797 (by decide +kernel) (by decide +kernel)
theorem lkX0_50 : Cond.methodLink RX0 50 yX4_least ∈ tblG := tblG_at 798 (by decide +kernel) (by decide +kernel)
theorem lkX0_54 : Cond.methodLink RX0 54 yX4_leastEnd ∈ tblG := tblG_at 809 (by decide +kernel) (by decide +kernel)
theorem lkX0_57 : Cond.methodLink RX0 57 yX0_leastOf ∈ tblG := tblG_at 826 (by decide +kernel) (by decide +kernel)
theorem lkX0_61 : Cond.methodLink RX0 61 Lib.MathLoose.min_long.x ∈ tblG ∧ Cond.static Lib.MathLoose.min_long.x ∈ tblG ∧ Cond.initialized "java/lang/Math" ∈ tblG ∧ Cond.code Lib.MathLoose.min_long.x Lib.MathLoose.min_long.code 4 (some .long) ∈ tblG := ⟨tblG_at 830 (by decide +kernel) (by decide +kernel), tblG_at 807 (by decide +kernel) (by decide +kernel), tblG_at 68 (by decide +kernel) (by decide +kernel), tblG_at 808 (by decide +kernel) (by decide +kernel)⟩
theorem lkX1_19 : Cond.methodLink RX1 19 yX10_coefficient ∈ tblG := tblG_at 499 (by decide +kernel) (by decide +kernel)
theorem lkX1_25 : Cond.methodLink RX1 25 yX1_remember ∈ tblG := tblG_at 500 (by decide +kernel) (by decide +kernel)
theorem lkX1_29 : Cond.methodLink RX1 29 yX10_lower ∈ tblG := tblG_at 518 (by decide +kernel) (by decide +kernel)
theorem lkX1_33 : Cond.methodLink RX1 33 yX10_upper ∈ tblG := tblG_at 519 (by decide +kernel) (by decide +kernel)
theorem lkX1_36 : Cond.methodLink RX1 36 yX10_wanted ∈ tblG := tblG_at 536 (by decide +kernel) (by decide +kernel)
theorem lkX1_39 : Cond.methodLink RX1 39 arraycopyName ∈ tblG ∧ Cond.native arraycopyName ∈ tblG ∧ Cond.static arraycopyName ∈ tblG ∧ Cond.initialized "java/lang/System" ∈ tblG := ⟨tblG_at 504 (by decide +kernel) (by decide +kernel), tblG_at 439 (by decide +kernel) (by decide +kernel), tblG_at 438 (by decide +kernel) (by decide +kernel), tblG_at 67 (by decide +kernel) (by decide +kernel)⟩
theorem lkX1_45 : Cond.methodLink RX1 45 yX10_putCoefficient ∈ tblG := tblG_at 553 (by decide +kernel) (by decide +kernel)
theorem lkX1_49 : Cond.methodLink RX1 49 yX10_putBox ∈ tblG := tblG_at 554 (by decide +kernel) (by decide +kernel)
theorem lkX1_52 : Cond.methodLink RX1 52 yX10_want ∈ tblG := tblG_at 555 (by decide +kernel) (by decide +kernel)
theorem lkX2_22 : Cond.methodLink RX2 22 yX2_leastFigure ∈ tblG := tblG_at 733 (by decide +kernel) (by decide +kernel)
theorem lkX2_26 : Cond.methodLink RX2 26 yX2_add ∈ tblG := tblG_at 742 (by decide +kernel) (by decide +kernel)
theorem lkX2_34 : Cond.methodLink RX2 34 yX4_signAtLow ∈ tblG := tblG_at 747 (by decide +kernel) (by decide +kernel)
theorem lkX2_40 : Cond.methodLink RX2 40 yX7_low ∈ tblG := tblG_at 751 (by decide +kernel) (by decide +kernel)
theorem lkX2_45 : Cond.methodLink RX2 45 yX4_signAtHigh ∈ tblG := tblG_at 752 (by decide +kernel) (by decide +kernel)
theorem lkX2_48 : Cond.methodLink RX2 48 yX7_high ∈ tblG := tblG_at 753 (by decide +kernel) (by decide +kernel)
theorem lkX2_51 : Cond.methodLink RX2 51 yX4_lay ∈ tblG := tblG_at 736 (by decide +kernel) (by decide +kernel)
theorem lkX2_55 : Cond.methodLink RX2 55 yX4_allHave ∈ tblG := tblG_at 737 (by decide +kernel) (by decide +kernel)
theorem lkX2_59 : Cond.methodLink RX2 59 yX4_raise ∈ tblG := tblG_at 741 (by decide +kernel) (by decide +kernel)
theorem lkX2_62 : Cond.methodLink RX2 62 yX8_length ∈ tblG := tblG_at 778 (by decide +kernel) (by decide +kernel)
theorem lkX2_67 : Cond.methodLink RX2 67 yX8_at ∈ tblG := tblG_at 779 (by decide +kernel) (by decide +kernel)
theorem lkX2_74 : Cond.methodLink RX2 74 yX2_isRight ∈ tblG := tblG_at 781 (by decide +kernel) (by decide +kernel)
theorem lkX2_78 : Cond.methodLink RX2 78 yX4_layRaised ∈ tblG := tblG_at 784 (by decide +kernel) (by decide +kernel)
theorem lkX3_22 : Cond.methodLink RX3 22 yX4_lay ∈ tblG := tblG_at 692 (by decide +kernel) (by decide +kernel)
theorem lkX3_28 : Cond.methodLink RX3 28 yX4_signChanges ∈ tblG := tblG_at 693 (by decide +kernel) (by decide +kernel)
theorem lkX3_32 : Cond.methodLink RX3 32 yX3_add ∈ tblG := tblG_at 694 (by decide +kernel) (by decide +kernel)
theorem lkX3_36 : Cond.methodLink RX3 36 yX3_pass ∈ tblG := tblG_at 698 (by decide +kernel) (by decide +kernel)
theorem lkX3_44 : Cond.methodLink RX3 44 yX4_signAtHigh ∈ tblG := tblG_at 705 (by decide +kernel) (by decide +kernel)
theorem lkX4_19 : Cond.methodLink RX4 19 yX7_takenPolynomial ∈ tblG := tblG_at 585 (by decide +kernel) (by decide +kernel)
theorem lkX4_25 : Cond.methodLink RX4 25 yX4_layOne ∈ tblG := tblG_at 586 (by decide +kernel) (by decide +kernel)
theorem lkX4_29 : Cond.methodLink RX4 29 yX4_raise ∈ tblG := tblG_at 632 (by decide +kernel) (by decide +kernel)
theorem lkX4_32 : Cond.methodLink RX4 32 yX7_told ∈ tblG := tblG_at 590 (by decide +kernel) (by decide +kernel)
theorem lkX4_36 : Cond.methodLink RX4 36 yX7_low ∈ tblG := tblG_at 594 (by decide +kernel) (by decide +kernel)
theorem lkX4_40 : Cond.methodLink RX4 40 yX7_high ∈ tblG := tblG_at 605 (by decide +kernel) (by decide +kernel)
theorem lkX4_43 : Cond.methodLink RX4 43 yX10_degree ∈ tblG := tblG_at 609 (by decide +kernel) (by decide +kernel)
theorem lkX4_48 : Cond.methodLink RX4 48 Lib.Math.min.name ∈ tblG ∧ Cond.static Lib.Math.min.name ∈ tblG ∧ Cond.initialized "java/lang/Math" ∈ tblG ∧ Cond.code Lib.Math.min.name Lib.Math.min.code 2 (some .int) ∈ tblG := ⟨tblG_at 610 (by decide +kernel) (by decide +kernel), tblG_at 611 (by decide +kernel) (by decide +kernel), tblG_at 68 (by decide +kernel) (by decide +kernel), tblG_at 612 (by decide +kernel) (by decide +kernel)⟩
theorem lkX4_54 : Cond.methodLink RX4 54 yJ7_fill_d0a16 ∈ tblG := tblG_at 613 (by decide +kernel) (by decide +kernel)
theorem lkX4_64 : Cond.methodLink RX4 64 yX10_coefficient ∈ tblG := tblG_at 616 (by decide +kernel) (by decide +kernel)
theorem lkX4_69 : Cond.methodLink RX4 69 yX4_multiply ∈ tblG := tblG_at 618 (by decide +kernel) (by decide +kernel)
theorem lkX4_73 : Cond.methodLink RX4 73 yX4_addWhole ∈ tblG := tblG_at 622 (by decide +kernel) (by decide +kernel)
theorem lkX4_77 : Cond.methodLink RX4 77 yX4_ways ∈ tblG := tblG_at 626 (by decide +kernel) (by decide +kernel)
theorem lkX4_84 : Cond.methodLink RX4 84 yX4_number ∈ tblG := tblG_at 661 (by decide +kernel) (by decide +kernel)
theorem lkX4_90 : Cond.methodLink RX4 90 yX4_commonNumber ∈ tblG := tblG_at 802 (by decide +kernel) (by decide +kernel)
theorem lkX4_93 : Cond.methodLink RX4 93 Lib.MathLoose.min_long.x ∈ tblG ∧ Cond.static Lib.MathLoose.min_long.x ∈ tblG ∧ Cond.initialized "java/lang/Math" ∈ tblG ∧ Cond.code Lib.MathLoose.min_long.x Lib.MathLoose.min_long.code 4 (some .long) ∈ tblG := ⟨tblG_at 806 (by decide +kernel) (by decide +kernel), tblG_at 807 (by decide +kernel) (by decide +kernel), tblG_at 68 (by decide +kernel) (by decide +kernel), tblG_at 808 (by decide +kernel) (by decide +kernel)⟩
theorem lkX5_15 : Cond.methodLink RX5 15 yJ7_fill_53178 ∈ tblG := tblG_at 849 (by decide +kernel) (by decide +kernel)
theorem lkX5_21 : Cond.methodLink RX5 21 yX5_judge ∈ tblG := tblG_at 852 (by decide +kernel) (by decide +kernel)
theorem lkX5_29 : Cond.methodLink RX5 29 yX5_add ∈ tblG := tblG_at 861 (by decide +kernel) (by decide +kernel)
theorem lkX5_36 : Cond.methodLink RX5 36 yX7_told ∈ tblG := tblG_at 855 (by decide +kernel) (by decide +kernel)
theorem lkX5_42 : Cond.methodLink RX5 42 yX10_polynomials ∈ tblG := tblG_at 856 (by decide +kernel) (by decide +kernel)
theorem lkX5_48 : Cond.methodLink RX5 48 yX10_wanted ∈ tblG := tblG_at 857 (by decide +kernel) (by decide +kernel)
theorem lkX5_51 : Cond.methodLink RX5 51 yX4_layOne ∈ tblG := tblG_at 858 (by decide +kernel) (by decide +kernel)
theorem lkX5_57 : Cond.methodLink RX5 57 yX4_allHave ∈ tblG := tblG_at 859 (by decide +kernel) (by decide +kernel)
theorem lkX6_22 : Cond.methodLink RX6 22 yX10_at ∈ tblG := tblG_at 910 (by decide +kernel) (by decide +kernel)
theorem lkX7_22 : Cond.methodLink RX7 22 yX10_hasBox ∈ tblG := tblG_at 572 (by decide +kernel) (by decide +kernel)
theorem lkX7_28 : Cond.methodLink RX7 28 yX10_hasPolynomial ∈ tblG := tblG_at 567 (by decide +kernel) (by decide +kernel)
theorem lkX7_31 : Cond.methodLink RX7 31 yX7_hasBox ∈ tblG := tblG_at 568 (by decide +kernel) (by decide +kernel)
theorem lkX7_38 : Cond.methodLink RX7 38 yX10_placeBehind ∈ tblG := tblG_at 601 (by decide +kernel) (by decide +kernel)
theorem lkX9_18 : Cond.methodLink RX9 18 yX10_empty ∈ tblG := tblG_at 343 (by decide +kernel) (by decide +kernel)
theorem lkX9_25 : Cond.methodLink RX9 25 yX8_length ∈ tblG := tblG_at 347 (by decide +kernel) (by decide +kernel)
theorem lkX9_31 : Cond.methodLink RX9 31 yX9_stands ∈ tblG := tblG_at 348 (by decide +kernel) (by decide +kernel)
theorem lkX9_35 : Cond.methodLink RX9 35 yX8_at ∈ tblG := tblG_at 352 (by decide +kernel) (by decide +kernel)
theorem lkX9_39 : Cond.methodLink RX9 39 yX9_isDigit ∈ tblG := tblG_at 356 (by decide +kernel) (by decide +kernel)
theorem lkX9_43 : Cond.methodLink RX9 43 yX9_takesNumber ∈ tblG := tblG_at 359 (by decide +kernel) (by decide +kernel)
theorem lkX9_46 : Cond.methodLink RX9 46 yX9_takesSign ∈ tblG := tblG_at 393 (by decide +kernel) (by decide +kernel)
theorem lkX9_49 : Cond.methodLink RX9 49 yX9_opensPolynomial ∈ tblG := tblG_at 397 (by decide +kernel) (by decide +kernel)
theorem lkX9_53 : Cond.methodLink RX9 53 yX9_opensBox ∈ tblG := tblG_at 413 (by decide +kernel) (by decide +kernel)
theorem lkX9_56 : Cond.methodLink RX9 56 yX9_takesMinus ∈ tblG := tblG_at 421 (by decide +kernel) (by decide +kernel)
theorem lkX9_59 : Cond.methodLink RX9 59 yX9_closes ∈ tblG := tblG_at 425 (by decide +kernel) (by decide +kernel)
theorem lkX9_62 : Cond.methodLink RX9 62 yX10_polynomials ∈ tblG := tblG_at 401 (by decide +kernel) (by decide +kernel)
theorem lkX9_65 : Cond.methodLink RX9 65 yX10_addPolynomial ∈ tblG := tblG_at 405 (by decide +kernel) (by decide +kernel)
theorem lkX9_68 : Cond.methodLink RX9 68 yX9_open ∈ tblG := tblG_at 409 (by decide +kernel) (by decide +kernel)
theorem lkX9_72 : Cond.methodLink RX9 72 yX10_boxes ∈ tblG := tblG_at 417 (by decide +kernel) (by decide +kernel)
theorem lkX9_82 : Cond.methodLink RX9 82 yX9_hasRoom ∈ tblG := tblG_at 363 (by decide +kernel) (by decide +kernel)
theorem lkX9_85 : Cond.methodLink RX9 85 yX9_takesCoefficient ∈ tblG := tblG_at 367 (by decide +kernel) (by decide +kernel)
theorem lkX9_88 : Cond.methodLink RX9 88 yX9_takesEnd ∈ tblG := tblG_at 382 (by decide +kernel) (by decide +kernel)
theorem lkX9_94 : Cond.methodLink RX9 94 yX10_addCoefficient ∈ tblG := tblG_at 374 (by decide +kernel) (by decide +kernel)
theorem lkX9_103 : Cond.methodLink RX9 103 yX10_addBox ∈ tblG := tblG_at 389 (by decide +kernel) (by decide +kernel)
theorem lkX10_34 : Cond.methodLink RX10 34 yX10_hasPolynomial ∈ tblG := tblG_at 378 (by decide +kernel) (by decide +kernel)
theorem lkX10_38 : Cond.methodLink RX10 38 yX10_hasCoefficient ∈ tblG := tblG_at 475 (by decide +kernel) (by decide +kernel)
theorem lkX10_42 : Cond.methodLink RX10 42 yX10_hasBox ∈ tblG := tblG_at 485 (by decide +kernel) (by decide +kernel)
theorem lkX10_45 : Cond.methodLink RX10 45 yX10_degree ∈ tblG := tblG_at 914 (by decide +kernel) (by decide +kernel)
theorem lkX10_49 : Cond.methodLink RX10 49 yX10_coefficient ∈ tblG := tblG_at 915 (by decide +kernel) (by decide +kernel)
theorem lkX10_53 : Cond.methodLink RX10 53 arraycopyName ∈ tblG ∧ Cond.native arraycopyName ∈ tblG ∧ Cond.static arraycopyName ∈ tblG ∧ Cond.initialized "java/lang/System" ∈ tblG := ⟨tblG_at 437 (by decide +kernel) (by decide +kernel), tblG_at 439 (by decide +kernel) (by decide +kernel), tblG_at 438 (by decide +kernel) (by decide +kernel), tblG_at 67 (by decide +kernel) (by decide +kernel)⟩
theorem lkL_13 : Cond.methodLink RL 13 yX11_type ∈ tblG := tblG_at 308 (by decide +kernel) (by decide +kernel)
theorem lkL_17 : Cond.methodLink RL 17 yX12_type ∈ tblG := tblG_at 1051 (by decide +kernel) (by decide +kernel)
theorem lkL_18 : Cond.methodLink RL 18 yX11_clear ∈ tblG := tblG_at 327 (by decide +kernel) (by decide +kernel)
theorem lkL_22 : Cond.methodLink RL 22 yX12_clear ∈ tblG := tblG_at 1058 (by decide +kernel) (by decide +kernel)
theorem lkL_23 : Cond.methodLink RL 23 yX11_house ∈ tblG := tblG_at 335 (by decide +kernel) (by decide +kernel)
theorem lkL_26 : Cond.methodLink RL 26 yX12_house ∈ tblG := tblG_at 1062 (by decide +kernel) (by decide +kernel)
theorem lkL_27 : Cond.methodLink RL 27 yX11_takes ∈ tblG := tblG_at 454 (by decide +kernel) (by decide +kernel)
theorem lkL_31 : Cond.methodLink RL 31 yX12_takes ∈ tblG := tblG_at 1090 (by decide +kernel) (by decide +kernel)
theorem lkL_32 : Cond.methodLink RL 32 yX11_coef ∈ tblG := tblG_at 463 (by decide +kernel) (by decide +kernel)
theorem lkL_36 : Cond.methodLink RL 36 yX12_coef ∈ tblG := tblG_at 1102 (by decide +kernel) (by decide +kernel)
theorem lkL_37 : Cond.methodLink RL 37 yX11_box ∈ tblG := tblG_at 477 (by decide +kernel) (by decide +kernel)
theorem lkL_40 : Cond.methodLink RL 40 yX12_box ∈ tblG := tblG_at 1111 (by decide +kernel) (by decide +kernel)
theorem lkL_41 : Cond.methodLink RL 41 yX11_coefs ∈ tblG := tblG_at 490 (by decide +kernel) (by decide +kernel)
theorem lkL_45 : Cond.methodLink RL 45 yX12_coefs ∈ tblG := tblG_at 1115 (by decide +kernel) (by decide +kernel)
theorem lkL_46 : Cond.methodLink RL 46 yX11_ends ∈ tblG := tblG_at 509 (by decide +kernel) (by decide +kernel)
theorem lkL_49 : Cond.methodLink RL 49 yX12_ends ∈ tblG := tblG_at 1123 (by decide +kernel) (by decide +kernel)
theorem lkL_50 : Cond.methodLink RL 50 yX11_wishes ∈ tblG := tblG_at 524 (by decide +kernel) (by decide +kernel)
theorem lkL_53 : Cond.methodLink RL 53 yX12_wishes ∈ tblG := tblG_at 1127 (by decide +kernel) (by decide +kernel)
theorem lkL_54 : Cond.methodLink RL 54 yX11_undo ∈ tblG := tblG_at 541 (by decide +kernel) (by decide +kernel)
theorem lkL_57 : Cond.methodLink RL 57 yX12_undo ∈ tblG := tblG_at 1131 (by decide +kernel) (by decide +kernel)
theorem lkL_58 : Cond.methodLink RL 58 yX11_control ∈ tblG := tblG_at 556 (by decide +kernel) (by decide +kernel)
theorem lkL_62 : Cond.methodLink RL 62 yX12_control ∈ tblG := tblG_at 1135 (by decide +kernel) (by decide +kernel)
theorem lkL_63 : Cond.methodLink RL 63 yX11_variation ∈ tblG := tblG_at 653 (by decide +kernel) (by decide +kernel)
theorem lkL_66 : Cond.methodLink RL 66 yX12_variation ∈ tblG := tblG_at 1178 (by decide +kernel) (by decide +kernel)
theorem lkL_67 : Cond.methodLink RL 67 yX11_end ∈ tblG := tblG_at 665 (by decide +kernel) (by decide +kernel)
theorem lkL_71 : Cond.methodLink RL 71 yX12_end ∈ tblG := tblG_at 1186 (by decide +kernel) (by decide +kernel)
theorem lkL_72 : Cond.methodLink RL 72 yX11_value ∈ tblG := tblG_at 672 (by decide +kernel) (by decide +kernel)
theorem lkL_75 : Cond.methodLink RL 75 yX12_value ∈ tblG := tblG_at 1194 (by decide +kernel) (by decide +kernel)
theorem lkL_76 : Cond.methodLink RL 76 yX11_brackets ∈ tblG := tblG_at 684 (by decide +kernel) (by decide +kernel)
theorem lkL_79 : Cond.methodLink RL 79 yX12_brackets ∈ tblG := tblG_at 1198 (by decide +kernel) (by decide +kernel)
theorem lkL_80 : Cond.methodLink RL 80 yX11_bracket ∈ tblG := tblG_at 713 (by decide +kernel) (by decide +kernel)
theorem lkL_83 : Cond.methodLink RL 83 yX12_bracket ∈ tblG := tblG_at 1214 (by decide +kernel) (by decide +kernel)
theorem lkL_84 : Cond.methodLink RL 84 yX11_makes ∈ tblG := tblG_at 725 (by decide +kernel) (by decide +kernel)
theorem lkL_87 : Cond.methodLink RL 87 yX12_makes ∈ tblG := tblG_at 1218 (by decide +kernel) (by decide +kernel)
theorem lkL_88 : Cond.methodLink RL 88 yX11_paper ∈ tblG := tblG_at 754 (by decide +kernel) (by decide +kernel)
theorem lkL_91 : Cond.methodLink RL 91 yX12_paper ∈ tblG := tblG_at 1230 (by decide +kernel) (by decide +kernel)
theorem lkL_92 : Cond.methodLink RL 92 yX11_witness ∈ tblG := tblG_at 762 (by decide +kernel) (by decide +kernel)
theorem lkL_96 : Cond.methodLink RL 96 yX12_witness ∈ tblG := tblG_at 1234 (by decide +kernel) (by decide +kernel)
theorem lkL_97 : Cond.methodLink RL 97 yX11_proves ∈ tblG := tblG_at 770 (by decide +kernel) (by decide +kernel)
theorem lkL_100 : Cond.methodLink RL 100 yX12_proves ∈ tblG := tblG_at 1238 (by decide +kernel) (by decide +kernel)
theorem lkL_101 : Cond.methodLink RL 101 yX11_narrowed ∈ tblG := tblG_at 785 (by decide +kernel) (by decide +kernel)
theorem lkL_104 : Cond.methodLink RL 104 yX12_narrowed ∈ tblG := tblG_at 1242 (by decide +kernel) (by decide +kernel)
theorem lkL_105 : Cond.methodLink RL 105 yX11_sure ∈ tblG := tblG_at 840 (by decide +kernel) (by decide +kernel)
theorem lkL_108 : Cond.methodLink RL 108 yX12_sure ∈ tblG := tblG_at 1254 (by decide +kernel) (by decide +kernel)
theorem lkL_109 : Cond.methodLink RL 109 yX11_first ∈ tblG := tblG_at 870 (by decide +kernel) (by decide +kernel)
theorem lkL_112 : Cond.methodLink RL 112 yX12_first ∈ tblG := tblG_at 1266 (by decide +kernel) (by decide +kernel)
theorem lkL_113 : Cond.methodLink RL 113 yX11_wish ∈ tblG := tblG_at 878 (by decide +kernel) (by decide +kernel)
theorem lkL_116 : Cond.methodLink RL 116 yX12_wish ∈ tblG := tblG_at 1270 (by decide +kernel) (by decide +kernel)
theorem lkL_117 : Cond.methodLink RL 117 yX11_sees ∈ tblG := tblG_at 882 (by decide +kernel) (by decide +kernel)
theorem lkL_120 : Cond.methodLink RL 120 yX12_sees ∈ tblG := tblG_at 1274 (by decide +kernel) (by decide +kernel)
theorem lkL_121 : Cond.methodLink RL 121 yX11_forget ∈ tblG := tblG_at 898 (by decide +kernel) (by decide +kernel)
theorem lkL_124 : Cond.methodLink RL 124 yX12_forget ∈ tblG := tblG_at 1278 (by decide +kernel) (by decide +kernel)
theorem lkL_125 : Cond.methodLink RL 125 yX11_unseen ∈ tblG := tblG_at 902 (by decide +kernel) (by decide +kernel)
theorem lkL_128 : Cond.methodLink RL 128 yX12_unseen ∈ tblG := tblG_at 1282 (by decide +kernel) (by decide +kernel)
theorem lkL_129 : Cond.methodLink RL 129 yX11_keep ∈ tblG := tblG_at 917 (by decide +kernel) (by decide +kernel)
theorem lkL_132 : Cond.methodLink RL 132 yX12_keep ∈ tblG := tblG_at 1290 (by decide +kernel) (by decide +kernel)
theorem lkL_133 : Cond.methodLink RL 133 yX11_back ∈ tblG := tblG_at 925 (by decide +kernel) (by decide +kernel)
theorem lkL_136 : Cond.methodLink RL 136 yX12_back ∈ tblG := tblG_at 1294 (by decide +kernel) (by decide +kernel)
theorem lkL_137 : Cond.methodLink RL 137 yX11_count ∈ tblG := tblG_at 929 (by decide +kernel) (by decide +kernel)
theorem lkL_140 : Cond.methodLink RL 140 yX12_count ∈ tblG := tblG_at 1298 (by decide +kernel) (by decide +kernel)
theorem lkX12_69 : Cond.methodLink RX12 69 yX12_becomes ∈ tblG := tblG_at 943 (by decide +kernel) (by decide +kernel)
theorem lkX12_85 : Cond.methodLink RX12 85 yX12_in ∈ tblG := tblG_at 1055 (by decide +kernel) (by decide +kernel)
theorem lkX12_95 : Cond.methodLink RX12 95 yX12_numbered ∈ tblG := tblG_at 1070 (by decide +kernel) (by decide +kernel)
theorem lkX12_102 : Cond.methodLink RX12 102 yX12_isKind ∈ tblG := tblG_at 1074 (by decide +kernel) (by decide +kernel)
theorem lkX12_109 : Cond.methodLink RX12 109 yX12_takesNumber ∈ tblG := tblG_at 1082 (by decide +kernel) (by decide +kernel)
theorem lkX12_113 : Cond.methodLink RX12 113 yX12_split ∈ tblG := tblG_at 1066 (by decide +kernel) (by decide +kernel)
theorem lkX12_116 : Cond.methodLink RX12 116 yX12_polynomial ∈ tblG := tblG_at 1078 (by decide +kernel) (by decide +kernel)
theorem lkX12_120 : Cond.methodLink RX12 120 yX12_boxTold ∈ tblG := tblG_at 1086 (by decide +kernel) (by decide +kernel)
theorem lkX12_123 : Cond.methodLink RX12 123 yX12_isPolynomial ∈ tblG := tblG_at 1094 (by decide +kernel) (by decide +kernel)
theorem lkX12_126 : Cond.methodLink RX12 126 yX12_isBox ∈ tblG := tblG_at 1098 (by decide +kernel) (by decide +kernel)
theorem lkX12_129 : Cond.methodLink RX12 129 yX12_isCoefficient ∈ tblG := tblG_at 1106 (by decide +kernel) (by decide +kernel)
theorem lkX12_134 : Cond.methodLink RX12 134 yX12_knows ∈ tblG := tblG_at 1119 (by decide +kernel) (by decide +kernel)
theorem lkX12_138 : Cond.methodLink RX12 138 yX12_sizeOf ∈ tblG := tblG_at 1158 (by decide +kernel) (by decide +kernel)
theorem lkX12_141 : Cond.methodLink RX12 141 yX12_lengthOf ∈ tblG := tblG_at 1161 (by decide +kernel) (by decide +kernel)
theorem lkX12_145 : Cond.methodLink RX12 145 yX12_lowOf ∈ tblG := tblG_at 1154 (by decide +kernel) (by decide +kernel)
theorem lkX12_150 : Cond.methodLink RX12 150 yX12_power ∈ tblG := tblG_at 1166 (by decide +kernel) (by decide +kernel)
theorem lkX12_154 : Cond.methodLink RX12 154 yX12_choose ∈ tblG := tblG_at 1169 (by decide +kernel) (by decide +kernel)
theorem lkX12_158 : Cond.methodLink RX12 158 yX12_laysOwn ∈ tblG := tblG_at 1150 (by decide +kernel) (by decide +kernel)
theorem lkX12_164 : Cond.methodLink RX12 164 yX12_common ∈ tblG := tblG_at 1172 (by decide +kernel) (by decide +kernel)
theorem lkX12_172 : Cond.methodLink RX12 172 yX12_isNode ∈ tblG := tblG_at 1139 (by decide +kernel) (by decide +kernel)
theorem lkX12_175 : Cond.methodLink RX12 175 yX12_isTaken ∈ tblG := tblG_at 1142 (by decide +kernel) (by decide +kernel)
theorem lkX12_178 : Cond.methodLink RX12 178 yX12_lays ∈ tblG := tblG_at 1146 (by decide +kernel) (by decide +kernel)
theorem lkX12_182 : Cond.methodLink RX12 182 yX12_fraction ∈ tblG := tblG_at 1175 (by decide +kernel) (by decide +kernel)
theorem lkX12_186 : Cond.methodLink RX12 186 yX12_varies ∈ tblG := tblG_at 1182 (by decide +kernel) (by decide +kernel)
theorem lkX12_190 : Cond.methodLink RX12 190 yX12_highOf ∈ tblG := tblG_at 1190 (by decide +kernel) (by decide +kernel)
theorem lkX12_199 : Cond.methodLink RX12 199 yX12_puts ∈ tblG := tblG_at 1206 (by decide +kernel) (by decide +kernel)
theorem lkX12_203 : Cond.methodLink RX12 203 yX12_finds ∈ tblG := tblG_at 1210 (by decide +kernel) (by decide +kernel)
theorem lkX12_206 : Cond.methodLink RX12 206 yX12_brings ∈ tblG := tblG_at 1202 (by decide +kernel) (by decide +kernel)
theorem lkX12_212 : Cond.methodLink RX12 212 yX12_isAbove ∈ tblG := tblG_at 1226 (by decide +kernel) (by decide +kernel)
theorem lkX12_219 : Cond.methodLink RX12 219 yX12_writes ∈ tblG := tblG_at 1222 (by decide +kernel) (by decide +kernel)
theorem lkX12_225 : Cond.methodLink RX12 225 yX12_leastOf ∈ tblG := tblG_at 1250 (by decide +kernel) (by decide +kernel)
theorem lkX12_229 : Cond.methodLink RX12 229 yX12_narrows ∈ tblG := tblG_at 1246 (by decide +kernel) (by decide +kernel)
theorem lkX12_232 : Cond.methodLink RX12 232 yX12_isHeld ∈ tblG := tblG_at 1258 (by decide +kernel) (by decide +kernel)
theorem lkX12_235 : Cond.methodLink RX12 235 yX12_isBroken ∈ tblG := tblG_at 1262 (by decide +kernel) (by decide +kernel)
theorem lkX12_238 : Cond.methodLink RX12 238 yX12_signAt ∈ tblG := tblG_at 1286 (by decide +kernel) (by decide +kernel)
end
section
theorem eL_law_0 : Dc mL_law 0 (.new 7) 3 3 := ⟨by decide +kernel, rfl⟩
theorem eL_law_3 : Dc mL_law 3 (.dup) 1 4 := ⟨by decide +kernel, rfl⟩
theorem eL_law_4 : Dc mL_law 4 (.invokespecial 9) 3 7 := ⟨by decide +kernel, rfl⟩
theorem eL_law_7 : Dc mL_law 7 (.astore_n 1) 1 8 := ⟨by decide +kernel, rfl⟩
theorem eL_law_8 : Dc mL_law 8 (.new 10) 3 11 := ⟨by decide +kernel, rfl⟩
theorem eL_law_11 : Dc mL_law 11 (.dup) 1 12 := ⟨by decide +kernel, rfl⟩
theorem eL_law_12 : Dc mL_law 12 (.invokespecial 12) 3 15 := ⟨by decide +kernel, rfl⟩
theorem eL_law_15 : Dc mL_law 15 (.astore_n 2) 1 16 := ⟨by decide +kernel, rfl⟩
theorem eL_law_16 : Dc mL_law 16 (.iconst 0) 1 17 := ⟨by decide +kernel, rfl⟩
theorem eL_law_17 : Dc mL_law 17 (.istore_n 3) 1 18 := ⟨by decide +kernel, rfl⟩
theorem eL_law_18 : Dc mL_law 18 (.iload_n 3) 1 19 := ⟨by decide +kernel, rfl⟩
theorem eL_law_19 : Dc mL_law 19 (.aload_n 0) 1 20 := ⟨by decide +kernel, rfl⟩
theorem eL_law_20 : Dc mL_law 20 (.arraylength) 1 21 := ⟨by decide +kernel, rfl⟩
theorem eL_law_21 : Dc mL_law 21 (.iconst 5) 1 22 := ⟨by decide +kernel, rfl⟩
theorem eL_law_22 : Dc mL_law 22 (.isub) 1 23 := ⟨by decide +kernel, rfl⟩
theorem eL_law_23 : Dj mL_law 23 (.if_icmp .gt) 26 982 := ⟨959, by decide +kernel, rfl, by decide⟩
theorem eL_law_26 : Dc mL_law 26 (.aload_n 0) 1 27 := ⟨by decide +kernel, rfl⟩
theorem eL_law_27 : Dc mL_law 27 (.iload_n 3) 1 28 := ⟨by decide +kernel, rfl⟩
theorem eL_law_28 : Dc mL_law 28 (.iaload) 1 29 := ⟨by decide +kernel, rfl⟩
theorem eL_law_29 : Dc mL_law 29 (.bipush 31) 2 31 := ⟨by decide +kernel, rfl⟩
theorem eL_law_31 : Dc mL_law 31 (.iand) 1 32 := ⟨by decide +kernel, rfl⟩
theorem eL_law_32 : Dc mL_law 32 (.tableswitch 944 0 29 #[136, 159, 172, 185, 218, 252, 286, 329, 372, 405, 418, 472, 505, 549, 593, 606, 639, 652, 675, 699, 712, 756, 779, 792, 816, 849, 862, 875, 898, 921]) 136 168 := ⟨by decide +kernel, rfl⟩
theorem eL_law_168 : Dc mL_law 168 (.aload_n 1) 1 169 := ⟨by decide +kernel, rfl⟩
theorem eL_law_169 : Dc mL_law 169 (.aload_n 0) 1 170 := ⟨by decide +kernel, rfl⟩
theorem eL_law_170 : Dc mL_law 170 (.iload_n 3) 1 171 := ⟨by decide +kernel, rfl⟩
theorem eL_law_171 : Dc mL_law 171 (.iconst 1) 1 172 := ⟨by decide +kernel, rfl⟩
theorem eL_law_172 : Dc mL_law 172 (.iadd) 1 173 := ⟨by decide +kernel, rfl⟩
theorem eL_law_173 : Dc mL_law 173 (.iaload) 1 174 := ⟨by decide +kernel, rfl⟩
theorem eL_law_174 : Dc mL_law 174 (.invokevirtual 13) 3 177 := ⟨by decide +kernel, rfl⟩
theorem eL_law_177 : Dc mL_law 177 (.aload_n 2) 1 178 := ⟨by decide +kernel, rfl⟩
theorem eL_law_178 : Dc mL_law 178 (.aload_n 0) 1 179 := ⟨by decide +kernel, rfl⟩
theorem eL_law_179 : Dc mL_law 179 (.iload_n 3) 1 180 := ⟨by decide +kernel, rfl⟩
theorem eL_law_180 : Dc mL_law 180 (.iconst 1) 1 181 := ⟨by decide +kernel, rfl⟩
theorem eL_law_181 : Dc mL_law 181 (.iadd) 1 182 := ⟨by decide +kernel, rfl⟩
theorem eL_law_182 : Dc mL_law 182 (.iaload) 1 183 := ⟨by decide +kernel, rfl⟩
theorem eL_law_183 : Dc mL_law 183 (.invokevirtual 17) 3 186 := ⟨by decide +kernel, rfl⟩
theorem eL_law_186 : Dj mL_law 186 (.if_icmp .eq) 189 976 := ⟨790, by decide +kernel, rfl, by decide⟩
theorem eL_law_189 : Dc mL_law 189 (.iconst 0) 1 190 := ⟨by decide +kernel, rfl⟩
theorem eL_law_190 : Dc mL_law 190 (.ireturn) 1 191 := ⟨by decide +kernel, rfl⟩
theorem eL_law_191 : Dc mL_law 191 (.aload_n 1) 1 192 := ⟨by decide +kernel, rfl⟩
theorem eL_law_192 : Dc mL_law 192 (.invokevirtual 18) 3 195 := ⟨by decide +kernel, rfl⟩
theorem eL_law_195 : Dc mL_law 195 (.aload_n 2) 1 196 := ⟨by decide +kernel, rfl⟩
theorem eL_law_196 : Dc mL_law 196 (.invokevirtual 22) 3 199 := ⟨by decide +kernel, rfl⟩
theorem eL_law_199 : Dj mL_law 199 (.if_icmp .eq) 202 976 := ⟨777, by decide +kernel, rfl, by decide⟩
theorem eL_law_202 : Dc mL_law 202 (.iconst 0) 1 203 := ⟨by decide +kernel, rfl⟩
theorem eL_law_203 : Dc mL_law 203 (.ireturn) 1 204 := ⟨by decide +kernel, rfl⟩
theorem eL_law_204 : Dc mL_law 204 (.aload_n 1) 1 205 := ⟨by decide +kernel, rfl⟩
theorem eL_law_205 : Dc mL_law 205 (.invokevirtual 23) 3 208 := ⟨by decide +kernel, rfl⟩
theorem eL_law_208 : Dc mL_law 208 (.aload_n 2) 1 209 := ⟨by decide +kernel, rfl⟩
theorem eL_law_209 : Dc mL_law 209 (.invokevirtual 26) 3 212 := ⟨by decide +kernel, rfl⟩
theorem eL_law_212 : Dj mL_law 212 (.if_icmp .eq) 215 976 := ⟨764, by decide +kernel, rfl, by decide⟩
theorem eL_law_215 : Dc mL_law 215 (.iconst 0) 1 216 := ⟨by decide +kernel, rfl⟩
theorem eL_law_216 : Dc mL_law 216 (.ireturn) 1 217 := ⟨by decide +kernel, rfl⟩
theorem eL_law_217 : Dc mL_law 217 (.aload_n 1) 1 218 := ⟨by decide +kernel, rfl⟩
theorem eL_law_218 : Dc mL_law 218 (.aload_n 0) 1 219 := ⟨by decide +kernel, rfl⟩
theorem eL_law_219 : Dc mL_law 219 (.iload_n 3) 1 220 := ⟨by decide +kernel, rfl⟩
theorem eL_law_220 : Dc mL_law 220 (.iconst 1) 1 221 := ⟨by decide +kernel, rfl⟩
theorem eL_law_221 : Dc mL_law 221 (.iadd) 1 222 := ⟨by decide +kernel, rfl⟩
theorem eL_law_222 : Dc mL_law 222 (.iaload) 1 223 := ⟨by decide +kernel, rfl⟩
theorem eL_law_223 : Dc mL_law 223 (.aload_n 0) 1 224 := ⟨by decide +kernel, rfl⟩
theorem eL_law_224 : Dc mL_law 224 (.iload_n 3) 1 225 := ⟨by decide +kernel, rfl⟩
theorem eL_law_225 : Dc mL_law 225 (.iconst 2) 1 226 := ⟨by decide +kernel, rfl⟩
theorem eL_law_226 : Dc mL_law 226 (.iadd) 1 227 := ⟨by decide +kernel, rfl⟩
theorem eL_law_227 : Dc mL_law 227 (.iaload) 1 228 := ⟨by decide +kernel, rfl⟩
theorem eL_law_228 : Dc mL_law 228 (.invokevirtual 27) 3 231 := ⟨by decide +kernel, rfl⟩
theorem eL_law_231 : Dc mL_law 231 (.aload_n 2) 1 232 := ⟨by decide +kernel, rfl⟩
theorem eL_law_232 : Dc mL_law 232 (.aload_n 0) 1 233 := ⟨by decide +kernel, rfl⟩
theorem eL_law_233 : Dc mL_law 233 (.iload_n 3) 1 234 := ⟨by decide +kernel, rfl⟩
theorem eL_law_234 : Dc mL_law 234 (.iconst 1) 1 235 := ⟨by decide +kernel, rfl⟩
theorem eL_law_235 : Dc mL_law 235 (.iadd) 1 236 := ⟨by decide +kernel, rfl⟩
theorem eL_law_236 : Dc mL_law 236 (.iaload) 1 237 := ⟨by decide +kernel, rfl⟩
theorem eL_law_237 : Dc mL_law 237 (.aload_n 0) 1 238 := ⟨by decide +kernel, rfl⟩
theorem eL_law_238 : Dc mL_law 238 (.iload_n 3) 1 239 := ⟨by decide +kernel, rfl⟩
theorem eL_law_239 : Dc mL_law 239 (.iconst 2) 1 240 := ⟨by decide +kernel, rfl⟩
theorem eL_law_240 : Dc mL_law 240 (.iadd) 1 241 := ⟨by decide +kernel, rfl⟩
theorem eL_law_241 : Dc mL_law 241 (.iaload) 1 242 := ⟨by decide +kernel, rfl⟩
theorem eL_law_242 : Dc mL_law 242 (.invokevirtual 31) 3 245 := ⟨by decide +kernel, rfl⟩
theorem eL_law_245 : Dj mL_law 245 (.if_icmp .eq) 248 976 := ⟨731, by decide +kernel, rfl, by decide⟩
theorem eL_law_248 : Dc mL_law 248 (.iconst 0) 1 249 := ⟨by decide +kernel, rfl⟩
theorem eL_law_249 : Dc mL_law 249 (.ireturn) 1 250 := ⟨by decide +kernel, rfl⟩
theorem eL_law_250 : Dc mL_law 250 (.aload_n 1) 1 251 := ⟨by decide +kernel, rfl⟩
theorem eL_law_251 : Dc mL_law 251 (.aload_n 0) 1 252 := ⟨by decide +kernel, rfl⟩
theorem eL_law_252 : Dc mL_law 252 (.iload_n 3) 1 253 := ⟨by decide +kernel, rfl⟩
theorem eL_law_253 : Dc mL_law 253 (.iconst 1) 1 254 := ⟨by decide +kernel, rfl⟩
theorem eL_law_254 : Dc mL_law 254 (.iadd) 1 255 := ⟨by decide +kernel, rfl⟩
theorem eL_law_255 : Dc mL_law 255 (.iaload) 1 256 := ⟨by decide +kernel, rfl⟩
theorem eL_law_256 : Dc mL_law 256 (.aload_n 0) 1 257 := ⟨by decide +kernel, rfl⟩
theorem eL_law_257 : Dc mL_law 257 (.iload_n 3) 1 258 := ⟨by decide +kernel, rfl⟩
theorem eL_law_258 : Dc mL_law 258 (.iconst 2) 1 259 := ⟨by decide +kernel, rfl⟩
theorem eL_law_259 : Dc mL_law 259 (.iadd) 1 260 := ⟨by decide +kernel, rfl⟩
theorem eL_law_260 : Dc mL_law 260 (.iaload) 1 261 := ⟨by decide +kernel, rfl⟩
theorem eL_law_261 : Dc mL_law 261 (.invokevirtual 32) 3 264 := ⟨by decide +kernel, rfl⟩
theorem eL_law_264 : Dc mL_law 264 (.aload_n 2) 1 265 := ⟨by decide +kernel, rfl⟩
theorem eL_law_265 : Dc mL_law 265 (.aload_n 0) 1 266 := ⟨by decide +kernel, rfl⟩
theorem eL_law_266 : Dc mL_law 266 (.iload_n 3) 1 267 := ⟨by decide +kernel, rfl⟩
theorem eL_law_267 : Dc mL_law 267 (.iconst 1) 1 268 := ⟨by decide +kernel, rfl⟩
theorem eL_law_268 : Dc mL_law 268 (.iadd) 1 269 := ⟨by decide +kernel, rfl⟩
theorem eL_law_269 : Dc mL_law 269 (.iaload) 1 270 := ⟨by decide +kernel, rfl⟩
theorem eL_law_270 : Dc mL_law 270 (.aload_n 0) 1 271 := ⟨by decide +kernel, rfl⟩
theorem eL_law_271 : Dc mL_law 271 (.iload_n 3) 1 272 := ⟨by decide +kernel, rfl⟩
theorem eL_law_272 : Dc mL_law 272 (.iconst 2) 1 273 := ⟨by decide +kernel, rfl⟩
theorem eL_law_273 : Dc mL_law 273 (.iadd) 1 274 := ⟨by decide +kernel, rfl⟩
theorem eL_law_274 : Dc mL_law 274 (.iaload) 1 275 := ⟨by decide +kernel, rfl⟩
theorem eL_law_275 : Dc mL_law 275 (.invokevirtual 36) 3 278 := ⟨by decide +kernel, rfl⟩
theorem eL_law_278 : Dc mL_law 278 (.lcmp) 1 279 := ⟨by decide +kernel, rfl⟩
theorem eL_law_279 : Dj mL_law 279 (.ifCond .eq) 282 976 := ⟨697, by decide +kernel, rfl, by decide⟩
theorem eL_law_282 : Dc mL_law 282 (.iconst 0) 1 283 := ⟨by decide +kernel, rfl⟩
theorem eL_law_283 : Dc mL_law 283 (.ireturn) 1 284 := ⟨by decide +kernel, rfl⟩
theorem eL_law_284 : Dc mL_law 284 (.aload_n 1) 1 285 := ⟨by decide +kernel, rfl⟩
theorem eL_law_285 : Dc mL_law 285 (.aload_n 0) 1 286 := ⟨by decide +kernel, rfl⟩
theorem eL_law_286 : Dc mL_law 286 (.iload_n 3) 1 287 := ⟨by decide +kernel, rfl⟩
theorem eL_law_287 : Dc mL_law 287 (.iconst 1) 1 288 := ⟨by decide +kernel, rfl⟩
theorem eL_law_288 : Dc mL_law 288 (.iadd) 1 289 := ⟨by decide +kernel, rfl⟩
theorem eL_law_289 : Dc mL_law 289 (.iaload) 1 290 := ⟨by decide +kernel, rfl⟩
theorem eL_law_290 : Dc mL_law 290 (.aload_n 0) 1 291 := ⟨by decide +kernel, rfl⟩
theorem eL_law_291 : Dc mL_law 291 (.iload_n 3) 1 292 := ⟨by decide +kernel, rfl⟩
theorem eL_law_292 : Dc mL_law 292 (.iconst 2) 1 293 := ⟨by decide +kernel, rfl⟩
theorem eL_law_293 : Dc mL_law 293 (.iadd) 1 294 := ⟨by decide +kernel, rfl⟩
theorem eL_law_294 : Dc mL_law 294 (.iaload) 1 295 := ⟨by decide +kernel, rfl⟩
theorem eL_law_295 : Dc mL_law 295 (.invokevirtual 37) 3 298 := ⟨by decide +kernel, rfl⟩
theorem eL_law_298 : Dc mL_law 298 (.aload_n 2) 1 299 := ⟨by decide +kernel, rfl⟩
theorem eL_law_299 : Dc mL_law 299 (.aload_n 0) 1 300 := ⟨by decide +kernel, rfl⟩
theorem eL_law_300 : Dc mL_law 300 (.iload_n 3) 1 301 := ⟨by decide +kernel, rfl⟩
theorem eL_law_301 : Dc mL_law 301 (.iconst 1) 1 302 := ⟨by decide +kernel, rfl⟩
theorem eL_law_302 : Dc mL_law 302 (.iadd) 1 303 := ⟨by decide +kernel, rfl⟩
theorem eL_law_303 : Dc mL_law 303 (.iaload) 1 304 := ⟨by decide +kernel, rfl⟩
theorem eL_law_304 : Dc mL_law 304 (.aload_n 0) 1 305 := ⟨by decide +kernel, rfl⟩
theorem eL_law_305 : Dc mL_law 305 (.iload_n 3) 1 306 := ⟨by decide +kernel, rfl⟩
theorem eL_law_306 : Dc mL_law 306 (.iconst 2) 1 307 := ⟨by decide +kernel, rfl⟩
theorem eL_law_307 : Dc mL_law 307 (.iadd) 1 308 := ⟨by decide +kernel, rfl⟩
theorem eL_law_308 : Dc mL_law 308 (.iaload) 1 309 := ⟨by decide +kernel, rfl⟩
theorem eL_law_309 : Dc mL_law 309 (.invokevirtual 40) 3 312 := ⟨by decide +kernel, rfl⟩
theorem eL_law_312 : Dc mL_law 312 (.lcmp) 1 313 := ⟨by decide +kernel, rfl⟩
theorem eL_law_313 : Dj mL_law 313 (.ifCond .eq) 316 976 := ⟨663, by decide +kernel, rfl, by decide⟩
theorem eL_law_316 : Dc mL_law 316 (.iconst 0) 1 317 := ⟨by decide +kernel, rfl⟩
theorem eL_law_317 : Dc mL_law 317 (.ireturn) 1 318 := ⟨by decide +kernel, rfl⟩
theorem eL_law_318 : Dc mL_law 318 (.aload_n 1) 1 319 := ⟨by decide +kernel, rfl⟩
theorem eL_law_319 : Dc mL_law 319 (.aload_n 0) 1 320 := ⟨by decide +kernel, rfl⟩
theorem eL_law_320 : Dc mL_law 320 (.iload_n 3) 1 321 := ⟨by decide +kernel, rfl⟩
theorem eL_law_321 : Dc mL_law 321 (.iconst 1) 1 322 := ⟨by decide +kernel, rfl⟩
theorem eL_law_322 : Dc mL_law 322 (.iadd) 1 323 := ⟨by decide +kernel, rfl⟩
theorem eL_law_323 : Dc mL_law 323 (.iaload) 1 324 := ⟨by decide +kernel, rfl⟩
theorem eL_law_324 : Dc mL_law 324 (.aload_n 0) 1 325 := ⟨by decide +kernel, rfl⟩
theorem eL_law_325 : Dc mL_law 325 (.iload_n 3) 1 326 := ⟨by decide +kernel, rfl⟩
theorem eL_law_326 : Dc mL_law 326 (.iconst 2) 1 327 := ⟨by decide +kernel, rfl⟩
theorem eL_law_327 : Dc mL_law 327 (.iadd) 1 328 := ⟨by decide +kernel, rfl⟩
theorem eL_law_328 : Dc mL_law 328 (.iaload) 1 329 := ⟨by decide +kernel, rfl⟩
theorem eL_law_329 : Dc mL_law 329 (.aload_n 0) 1 330 := ⟨by decide +kernel, rfl⟩
theorem eL_law_330 : Dc mL_law 330 (.iload_n 3) 1 331 := ⟨by decide +kernel, rfl⟩
theorem eL_law_331 : Dc mL_law 331 (.iconst 3) 1 332 := ⟨by decide +kernel, rfl⟩
theorem eL_law_332 : Dc mL_law 332 (.iadd) 1 333 := ⟨by decide +kernel, rfl⟩
theorem eL_law_333 : Dc mL_law 333 (.iaload) 1 334 := ⟨by decide +kernel, rfl⟩
theorem eL_law_334 : Dc mL_law 334 (.invokevirtual 41) 3 337 := ⟨by decide +kernel, rfl⟩
theorem eL_law_337 : Dc mL_law 337 (.aload_n 2) 1 338 := ⟨by decide +kernel, rfl⟩
theorem eL_law_338 : Dc mL_law 338 (.aload_n 0) 1 339 := ⟨by decide +kernel, rfl⟩
theorem eL_law_339 : Dc mL_law 339 (.iload_n 3) 1 340 := ⟨by decide +kernel, rfl⟩
theorem eL_law_340 : Dc mL_law 340 (.iconst 1) 1 341 := ⟨by decide +kernel, rfl⟩
theorem eL_law_341 : Dc mL_law 341 (.iadd) 1 342 := ⟨by decide +kernel, rfl⟩
theorem eL_law_342 : Dc mL_law 342 (.iaload) 1 343 := ⟨by decide +kernel, rfl⟩
theorem eL_law_343 : Dc mL_law 343 (.aload_n 0) 1 344 := ⟨by decide +kernel, rfl⟩
theorem eL_law_344 : Dc mL_law 344 (.iload_n 3) 1 345 := ⟨by decide +kernel, rfl⟩
theorem eL_law_345 : Dc mL_law 345 (.iconst 2) 1 346 := ⟨by decide +kernel, rfl⟩
theorem eL_law_346 : Dc mL_law 346 (.iadd) 1 347 := ⟨by decide +kernel, rfl⟩
theorem eL_law_347 : Dc mL_law 347 (.iaload) 1 348 := ⟨by decide +kernel, rfl⟩
theorem eL_law_348 : Dc mL_law 348 (.aload_n 0) 1 349 := ⟨by decide +kernel, rfl⟩
theorem eL_law_349 : Dc mL_law 349 (.iload_n 3) 1 350 := ⟨by decide +kernel, rfl⟩
theorem eL_law_350 : Dc mL_law 350 (.iconst 3) 1 351 := ⟨by decide +kernel, rfl⟩
theorem eL_law_351 : Dc mL_law 351 (.iadd) 1 352 := ⟨by decide +kernel, rfl⟩
theorem eL_law_352 : Dc mL_law 352 (.iaload) 1 353 := ⟨by decide +kernel, rfl⟩
theorem eL_law_353 : Dc mL_law 353 (.invokevirtual 45) 3 356 := ⟨by decide +kernel, rfl⟩
theorem eL_law_356 : Dj mL_law 356 (.if_icmp .eq) 359 976 := ⟨620, by decide +kernel, rfl, by decide⟩
theorem eL_law_359 : Dc mL_law 359 (.iconst 0) 1 360 := ⟨by decide +kernel, rfl⟩
theorem eL_law_360 : Dc mL_law 360 (.ireturn) 1 361 := ⟨by decide +kernel, rfl⟩
theorem eL_law_361 : Dc mL_law 361 (.aload_n 1) 1 362 := ⟨by decide +kernel, rfl⟩
theorem eL_law_362 : Dc mL_law 362 (.aload_n 0) 1 363 := ⟨by decide +kernel, rfl⟩
theorem eL_law_363 : Dc mL_law 363 (.iload_n 3) 1 364 := ⟨by decide +kernel, rfl⟩
theorem eL_law_364 : Dc mL_law 364 (.iconst 1) 1 365 := ⟨by decide +kernel, rfl⟩
theorem eL_law_365 : Dc mL_law 365 (.iadd) 1 366 := ⟨by decide +kernel, rfl⟩
theorem eL_law_366 : Dc mL_law 366 (.iaload) 1 367 := ⟨by decide +kernel, rfl⟩
theorem eL_law_367 : Dc mL_law 367 (.aload_n 0) 1 368 := ⟨by decide +kernel, rfl⟩
theorem eL_law_368 : Dc mL_law 368 (.iload_n 3) 1 369 := ⟨by decide +kernel, rfl⟩
theorem eL_law_369 : Dc mL_law 369 (.iconst 2) 1 370 := ⟨by decide +kernel, rfl⟩
theorem eL_law_370 : Dc mL_law 370 (.iadd) 1 371 := ⟨by decide +kernel, rfl⟩
theorem eL_law_371 : Dc mL_law 371 (.iaload) 1 372 := ⟨by decide +kernel, rfl⟩
theorem eL_law_372 : Dc mL_law 372 (.aload_n 0) 1 373 := ⟨by decide +kernel, rfl⟩
theorem eL_law_373 : Dc mL_law 373 (.iload_n 3) 1 374 := ⟨by decide +kernel, rfl⟩
theorem eL_law_374 : Dc mL_law 374 (.iconst 3) 1 375 := ⟨by decide +kernel, rfl⟩
theorem eL_law_375 : Dc mL_law 375 (.iadd) 1 376 := ⟨by decide +kernel, rfl⟩
theorem eL_law_376 : Dc mL_law 376 (.iaload) 1 377 := ⟨by decide +kernel, rfl⟩
theorem eL_law_377 : Dc mL_law 377 (.invokevirtual 46) 3 380 := ⟨by decide +kernel, rfl⟩
theorem eL_law_380 : Dc mL_law 380 (.aload_n 2) 1 381 := ⟨by decide +kernel, rfl⟩
theorem eL_law_381 : Dc mL_law 381 (.aload_n 0) 1 382 := ⟨by decide +kernel, rfl⟩
theorem eL_law_382 : Dc mL_law 382 (.iload_n 3) 1 383 := ⟨by decide +kernel, rfl⟩
theorem eL_law_383 : Dc mL_law 383 (.iconst 1) 1 384 := ⟨by decide +kernel, rfl⟩
theorem eL_law_384 : Dc mL_law 384 (.iadd) 1 385 := ⟨by decide +kernel, rfl⟩
theorem eL_law_385 : Dc mL_law 385 (.iaload) 1 386 := ⟨by decide +kernel, rfl⟩
theorem eL_law_386 : Dc mL_law 386 (.aload_n 0) 1 387 := ⟨by decide +kernel, rfl⟩
theorem eL_law_387 : Dc mL_law 387 (.iload_n 3) 1 388 := ⟨by decide +kernel, rfl⟩
theorem eL_law_388 : Dc mL_law 388 (.iconst 2) 1 389 := ⟨by decide +kernel, rfl⟩
theorem eL_law_389 : Dc mL_law 389 (.iadd) 1 390 := ⟨by decide +kernel, rfl⟩
theorem eL_law_390 : Dc mL_law 390 (.iaload) 1 391 := ⟨by decide +kernel, rfl⟩
theorem eL_law_391 : Dc mL_law 391 (.aload_n 0) 1 392 := ⟨by decide +kernel, rfl⟩
theorem eL_law_392 : Dc mL_law 392 (.iload_n 3) 1 393 := ⟨by decide +kernel, rfl⟩
theorem eL_law_393 : Dc mL_law 393 (.iconst 3) 1 394 := ⟨by decide +kernel, rfl⟩
theorem eL_law_394 : Dc mL_law 394 (.iadd) 1 395 := ⟨by decide +kernel, rfl⟩
theorem eL_law_395 : Dc mL_law 395 (.iaload) 1 396 := ⟨by decide +kernel, rfl⟩
theorem eL_law_396 : Dc mL_law 396 (.invokevirtual 49) 3 399 := ⟨by decide +kernel, rfl⟩
theorem eL_law_399 : Dj mL_law 399 (.if_icmp .eq) 402 976 := ⟨577, by decide +kernel, rfl, by decide⟩
theorem eL_law_402 : Dc mL_law 402 (.iconst 0) 1 403 := ⟨by decide +kernel, rfl⟩
theorem eL_law_403 : Dc mL_law 403 (.ireturn) 1 404 := ⟨by decide +kernel, rfl⟩
theorem eL_law_404 : Dc mL_law 404 (.aload_n 1) 1 405 := ⟨by decide +kernel, rfl⟩
theorem eL_law_405 : Dc mL_law 405 (.aload_n 0) 1 406 := ⟨by decide +kernel, rfl⟩
theorem eL_law_406 : Dc mL_law 406 (.iload_n 3) 1 407 := ⟨by decide +kernel, rfl⟩
theorem eL_law_407 : Dc mL_law 407 (.iconst 1) 1 408 := ⟨by decide +kernel, rfl⟩
theorem eL_law_408 : Dc mL_law 408 (.iadd) 1 409 := ⟨by decide +kernel, rfl⟩
theorem eL_law_409 : Dc mL_law 409 (.iaload) 1 410 := ⟨by decide +kernel, rfl⟩
theorem eL_law_410 : Dc mL_law 410 (.aload_n 0) 1 411 := ⟨by decide +kernel, rfl⟩
theorem eL_law_411 : Dc mL_law 411 (.iload_n 3) 1 412 := ⟨by decide +kernel, rfl⟩
theorem eL_law_412 : Dc mL_law 412 (.iconst 2) 1 413 := ⟨by decide +kernel, rfl⟩
theorem eL_law_413 : Dc mL_law 413 (.iadd) 1 414 := ⟨by decide +kernel, rfl⟩
theorem eL_law_414 : Dc mL_law 414 (.iaload) 1 415 := ⟨by decide +kernel, rfl⟩
theorem eL_law_415 : Dc mL_law 415 (.invokevirtual 50) 3 418 := ⟨by decide +kernel, rfl⟩
theorem eL_law_418 : Dc mL_law 418 (.aload_n 2) 1 419 := ⟨by decide +kernel, rfl⟩
theorem eL_law_419 : Dc mL_law 419 (.aload_n 0) 1 420 := ⟨by decide +kernel, rfl⟩
theorem eL_law_420 : Dc mL_law 420 (.iload_n 3) 1 421 := ⟨by decide +kernel, rfl⟩
theorem eL_law_421 : Dc mL_law 421 (.iconst 1) 1 422 := ⟨by decide +kernel, rfl⟩
theorem eL_law_422 : Dc mL_law 422 (.iadd) 1 423 := ⟨by decide +kernel, rfl⟩
theorem eL_law_423 : Dc mL_law 423 (.iaload) 1 424 := ⟨by decide +kernel, rfl⟩
theorem eL_law_424 : Dc mL_law 424 (.aload_n 0) 1 425 := ⟨by decide +kernel, rfl⟩
theorem eL_law_425 : Dc mL_law 425 (.iload_n 3) 1 426 := ⟨by decide +kernel, rfl⟩
theorem eL_law_426 : Dc mL_law 426 (.iconst 2) 1 427 := ⟨by decide +kernel, rfl⟩
theorem eL_law_427 : Dc mL_law 427 (.iadd) 1 428 := ⟨by decide +kernel, rfl⟩
theorem eL_law_428 : Dc mL_law 428 (.iaload) 1 429 := ⟨by decide +kernel, rfl⟩
theorem eL_law_429 : Dc mL_law 429 (.invokevirtual 53) 3 432 := ⟨by decide +kernel, rfl⟩
theorem eL_law_432 : Dj mL_law 432 (.if_icmp .eq) 435 976 := ⟨544, by decide +kernel, rfl, by decide⟩
theorem eL_law_435 : Dc mL_law 435 (.iconst 0) 1 436 := ⟨by decide +kernel, rfl⟩
theorem eL_law_436 : Dc mL_law 436 (.ireturn) 1 437 := ⟨by decide +kernel, rfl⟩
theorem eL_law_437 : Dc mL_law 437 (.aload_n 1) 1 438 := ⟨by decide +kernel, rfl⟩
theorem eL_law_438 : Dc mL_law 438 (.invokevirtual 54) 3 441 := ⟨by decide +kernel, rfl⟩
theorem eL_law_441 : Dc mL_law 441 (.aload_n 2) 1 442 := ⟨by decide +kernel, rfl⟩
theorem eL_law_442 : Dc mL_law 442 (.invokevirtual 57) 3 445 := ⟨by decide +kernel, rfl⟩
theorem eL_law_445 : Dj mL_law 445 (.if_icmp .eq) 448 976 := ⟨531, by decide +kernel, rfl, by decide⟩
theorem eL_law_448 : Dc mL_law 448 (.iconst 0) 1 449 := ⟨by decide +kernel, rfl⟩
theorem eL_law_449 : Dc mL_law 449 (.ireturn) 1 450 := ⟨by decide +kernel, rfl⟩
theorem eL_law_450 : Dc mL_law 450 (.aload_n 1) 1 451 := ⟨by decide +kernel, rfl⟩
theorem eL_law_451 : Dc mL_law 451 (.aload_n 0) 1 452 := ⟨by decide +kernel, rfl⟩
theorem eL_law_452 : Dc mL_law 452 (.iload_n 3) 1 453 := ⟨by decide +kernel, rfl⟩
theorem eL_law_453 : Dc mL_law 453 (.iconst 1) 1 454 := ⟨by decide +kernel, rfl⟩
theorem eL_law_454 : Dc mL_law 454 (.iadd) 1 455 := ⟨by decide +kernel, rfl⟩
theorem eL_law_455 : Dc mL_law 455 (.iaload) 1 456 := ⟨by decide +kernel, rfl⟩
theorem eL_law_456 : Dc mL_law 456 (.aload_n 0) 1 457 := ⟨by decide +kernel, rfl⟩
theorem eL_law_457 : Dc mL_law 457 (.iload_n 3) 1 458 := ⟨by decide +kernel, rfl⟩
theorem eL_law_458 : Dc mL_law 458 (.iconst 2) 1 459 := ⟨by decide +kernel, rfl⟩
theorem eL_law_459 : Dc mL_law 459 (.iadd) 1 460 := ⟨by decide +kernel, rfl⟩
theorem eL_law_460 : Dc mL_law 460 (.iaload) 1 461 := ⟨by decide +kernel, rfl⟩
theorem eL_law_461 : Dc mL_law 461 (.aload_n 0) 1 462 := ⟨by decide +kernel, rfl⟩
theorem eL_law_462 : Dc mL_law 462 (.iload_n 3) 1 463 := ⟨by decide +kernel, rfl⟩
theorem eL_law_463 : Dc mL_law 463 (.iconst 3) 1 464 := ⟨by decide +kernel, rfl⟩
theorem eL_law_464 : Dc mL_law 464 (.iadd) 1 465 := ⟨by decide +kernel, rfl⟩
theorem eL_law_465 : Dc mL_law 465 (.iaload) 1 466 := ⟨by decide +kernel, rfl⟩
theorem eL_law_466 : Dc mL_law 466 (.aload_n 0) 1 467 := ⟨by decide +kernel, rfl⟩
theorem eL_law_467 : Dc mL_law 467 (.iload_n 3) 1 468 := ⟨by decide +kernel, rfl⟩
theorem eL_law_468 : Dc mL_law 468 (.iconst 4) 1 469 := ⟨by decide +kernel, rfl⟩
theorem eL_law_469 : Dc mL_law 469 (.iadd) 1 470 := ⟨by decide +kernel, rfl⟩
theorem eL_law_470 : Dc mL_law 470 (.iaload) 1 471 := ⟨by decide +kernel, rfl⟩
theorem eL_law_471 : Dc mL_law 471 (.invokevirtual 58) 3 474 := ⟨by decide +kernel, rfl⟩
theorem eL_law_474 : Dc mL_law 474 (.aload_n 2) 1 475 := ⟨by decide +kernel, rfl⟩
theorem eL_law_475 : Dc mL_law 475 (.aload_n 0) 1 476 := ⟨by decide +kernel, rfl⟩
theorem eL_law_476 : Dc mL_law 476 (.iload_n 3) 1 477 := ⟨by decide +kernel, rfl⟩
theorem eL_law_477 : Dc mL_law 477 (.iconst 1) 1 478 := ⟨by decide +kernel, rfl⟩
theorem eL_law_478 : Dc mL_law 478 (.iadd) 1 479 := ⟨by decide +kernel, rfl⟩
theorem eL_law_479 : Dc mL_law 479 (.iaload) 1 480 := ⟨by decide +kernel, rfl⟩
theorem eL_law_480 : Dc mL_law 480 (.aload_n 0) 1 481 := ⟨by decide +kernel, rfl⟩
theorem eL_law_481 : Dc mL_law 481 (.iload_n 3) 1 482 := ⟨by decide +kernel, rfl⟩
theorem eL_law_482 : Dc mL_law 482 (.iconst 2) 1 483 := ⟨by decide +kernel, rfl⟩
theorem eL_law_483 : Dc mL_law 483 (.iadd) 1 484 := ⟨by decide +kernel, rfl⟩
theorem eL_law_484 : Dc mL_law 484 (.iaload) 1 485 := ⟨by decide +kernel, rfl⟩
theorem eL_law_485 : Dc mL_law 485 (.aload_n 0) 1 486 := ⟨by decide +kernel, rfl⟩
theorem eL_law_486 : Dc mL_law 486 (.iload_n 3) 1 487 := ⟨by decide +kernel, rfl⟩
theorem eL_law_487 : Dc mL_law 487 (.iconst 3) 1 488 := ⟨by decide +kernel, rfl⟩
theorem eL_law_488 : Dc mL_law 488 (.iadd) 1 489 := ⟨by decide +kernel, rfl⟩
theorem eL_law_489 : Dc mL_law 489 (.iaload) 1 490 := ⟨by decide +kernel, rfl⟩
theorem eL_law_490 : Dc mL_law 490 (.aload_n 0) 1 491 := ⟨by decide +kernel, rfl⟩
theorem eL_law_491 : Dc mL_law 491 (.iload_n 3) 1 492 := ⟨by decide +kernel, rfl⟩
theorem eL_law_492 : Dc mL_law 492 (.iconst 4) 1 493 := ⟨by decide +kernel, rfl⟩
theorem eL_law_493 : Dc mL_law 493 (.iadd) 1 494 := ⟨by decide +kernel, rfl⟩
theorem eL_law_494 : Dc mL_law 494 (.iaload) 1 495 := ⟨by decide +kernel, rfl⟩
theorem eL_law_495 : Dc mL_law 495 (.invokevirtual 62) 3 498 := ⟨by decide +kernel, rfl⟩
theorem eL_law_498 : Dc mL_law 498 (.lcmp) 1 499 := ⟨by decide +kernel, rfl⟩
theorem eL_law_499 : Dj mL_law 499 (.ifCond .eq) 502 976 := ⟨477, by decide +kernel, rfl, by decide⟩
theorem eL_law_502 : Dc mL_law 502 (.iconst 0) 1 503 := ⟨by decide +kernel, rfl⟩
theorem eL_law_503 : Dc mL_law 503 (.ireturn) 1 504 := ⟨by decide +kernel, rfl⟩
theorem eL_law_504 : Dc mL_law 504 (.aload_n 1) 1 505 := ⟨by decide +kernel, rfl⟩
theorem eL_law_505 : Dc mL_law 505 (.aload_n 0) 1 506 := ⟨by decide +kernel, rfl⟩
theorem eL_law_506 : Dc mL_law 506 (.iload_n 3) 1 507 := ⟨by decide +kernel, rfl⟩
theorem eL_law_507 : Dc mL_law 507 (.iconst 1) 1 508 := ⟨by decide +kernel, rfl⟩
theorem eL_law_508 : Dc mL_law 508 (.iadd) 1 509 := ⟨by decide +kernel, rfl⟩
theorem eL_law_509 : Dc mL_law 509 (.iaload) 1 510 := ⟨by decide +kernel, rfl⟩
theorem eL_law_510 : Dc mL_law 510 (.aload_n 0) 1 511 := ⟨by decide +kernel, rfl⟩
theorem eL_law_511 : Dc mL_law 511 (.iload_n 3) 1 512 := ⟨by decide +kernel, rfl⟩
theorem eL_law_512 : Dc mL_law 512 (.iconst 2) 1 513 := ⟨by decide +kernel, rfl⟩
theorem eL_law_513 : Dc mL_law 513 (.iadd) 1 514 := ⟨by decide +kernel, rfl⟩
theorem eL_law_514 : Dc mL_law 514 (.iaload) 1 515 := ⟨by decide +kernel, rfl⟩
theorem eL_law_515 : Dc mL_law 515 (.invokevirtual 63) 3 518 := ⟨by decide +kernel, rfl⟩
theorem eL_law_518 : Dc mL_law 518 (.aload_n 2) 1 519 := ⟨by decide +kernel, rfl⟩
theorem eL_law_519 : Dc mL_law 519 (.aload_n 0) 1 520 := ⟨by decide +kernel, rfl⟩
theorem eL_law_520 : Dc mL_law 520 (.iload_n 3) 1 521 := ⟨by decide +kernel, rfl⟩
theorem eL_law_521 : Dc mL_law 521 (.iconst 1) 1 522 := ⟨by decide +kernel, rfl⟩
theorem eL_law_522 : Dc mL_law 522 (.iadd) 1 523 := ⟨by decide +kernel, rfl⟩
theorem eL_law_523 : Dc mL_law 523 (.iaload) 1 524 := ⟨by decide +kernel, rfl⟩
theorem eL_law_524 : Dc mL_law 524 (.aload_n 0) 1 525 := ⟨by decide +kernel, rfl⟩
theorem eL_law_525 : Dc mL_law 525 (.iload_n 3) 1 526 := ⟨by decide +kernel, rfl⟩
theorem eL_law_526 : Dc mL_law 526 (.iconst 2) 1 527 := ⟨by decide +kernel, rfl⟩
theorem eL_law_527 : Dc mL_law 527 (.iadd) 1 528 := ⟨by decide +kernel, rfl⟩
theorem eL_law_528 : Dc mL_law 528 (.iaload) 1 529 := ⟨by decide +kernel, rfl⟩
theorem eL_law_529 : Dc mL_law 529 (.invokevirtual 66) 3 532 := ⟨by decide +kernel, rfl⟩
theorem eL_law_532 : Dj mL_law 532 (.if_icmp .eq) 535 976 := ⟨444, by decide +kernel, rfl, by decide⟩
theorem eL_law_535 : Dc mL_law 535 (.iconst 0) 1 536 := ⟨by decide +kernel, rfl⟩
theorem eL_law_536 : Dc mL_law 536 (.ireturn) 1 537 := ⟨by decide +kernel, rfl⟩
theorem eL_law_537 : Dc mL_law 537 (.aload_n 1) 1 538 := ⟨by decide +kernel, rfl⟩
theorem eL_law_538 : Dc mL_law 538 (.aload_n 0) 1 539 := ⟨by decide +kernel, rfl⟩
theorem eL_law_539 : Dc mL_law 539 (.iload_n 3) 1 540 := ⟨by decide +kernel, rfl⟩
theorem eL_law_540 : Dc mL_law 540 (.iconst 1) 1 541 := ⟨by decide +kernel, rfl⟩
theorem eL_law_541 : Dc mL_law 541 (.iadd) 1 542 := ⟨by decide +kernel, rfl⟩
theorem eL_law_542 : Dc mL_law 542 (.iaload) 1 543 := ⟨by decide +kernel, rfl⟩
theorem eL_law_543 : Dc mL_law 543 (.aload_n 0) 1 544 := ⟨by decide +kernel, rfl⟩
theorem eL_law_544 : Dc mL_law 544 (.iload_n 3) 1 545 := ⟨by decide +kernel, rfl⟩
theorem eL_law_545 : Dc mL_law 545 (.iconst 2) 1 546 := ⟨by decide +kernel, rfl⟩
theorem eL_law_546 : Dc mL_law 546 (.iadd) 1 547 := ⟨by decide +kernel, rfl⟩
theorem eL_law_547 : Dc mL_law 547 (.iaload) 1 548 := ⟨by decide +kernel, rfl⟩
theorem eL_law_548 : Dc mL_law 548 (.aload_n 0) 1 549 := ⟨by decide +kernel, rfl⟩
theorem eL_law_549 : Dc mL_law 549 (.iload_n 3) 1 550 := ⟨by decide +kernel, rfl⟩
theorem eL_law_550 : Dc mL_law 550 (.iconst 3) 1 551 := ⟨by decide +kernel, rfl⟩
theorem eL_law_551 : Dc mL_law 551 (.iadd) 1 552 := ⟨by decide +kernel, rfl⟩
theorem eL_law_552 : Dc mL_law 552 (.iaload) 1 553 := ⟨by decide +kernel, rfl⟩
theorem eL_law_553 : Dc mL_law 553 (.invokevirtual 67) 3 556 := ⟨by decide +kernel, rfl⟩
theorem eL_law_556 : Dc mL_law 556 (.aload_n 2) 1 557 := ⟨by decide +kernel, rfl⟩
theorem eL_law_557 : Dc mL_law 557 (.aload_n 0) 1 558 := ⟨by decide +kernel, rfl⟩
theorem eL_law_558 : Dc mL_law 558 (.iload_n 3) 1 559 := ⟨by decide +kernel, rfl⟩
theorem eL_law_559 : Dc mL_law 559 (.iconst 1) 1 560 := ⟨by decide +kernel, rfl⟩
theorem eL_law_560 : Dc mL_law 560 (.iadd) 1 561 := ⟨by decide +kernel, rfl⟩
theorem eL_law_561 : Dc mL_law 561 (.iaload) 1 562 := ⟨by decide +kernel, rfl⟩
theorem eL_law_562 : Dc mL_law 562 (.aload_n 0) 1 563 := ⟨by decide +kernel, rfl⟩
theorem eL_law_563 : Dc mL_law 563 (.iload_n 3) 1 564 := ⟨by decide +kernel, rfl⟩
theorem eL_law_564 : Dc mL_law 564 (.iconst 2) 1 565 := ⟨by decide +kernel, rfl⟩
theorem eL_law_565 : Dc mL_law 565 (.iadd) 1 566 := ⟨by decide +kernel, rfl⟩
theorem eL_law_566 : Dc mL_law 566 (.iaload) 1 567 := ⟨by decide +kernel, rfl⟩
theorem eL_law_567 : Dc mL_law 567 (.aload_n 0) 1 568 := ⟨by decide +kernel, rfl⟩
theorem eL_law_568 : Dc mL_law 568 (.iload_n 3) 1 569 := ⟨by decide +kernel, rfl⟩
theorem eL_law_569 : Dc mL_law 569 (.iconst 3) 1 570 := ⟨by decide +kernel, rfl⟩
theorem eL_law_570 : Dc mL_law 570 (.iadd) 1 571 := ⟨by decide +kernel, rfl⟩
theorem eL_law_571 : Dc mL_law 571 (.iaload) 1 572 := ⟨by decide +kernel, rfl⟩
theorem eL_law_572 : Dc mL_law 572 (.invokevirtual 71) 3 575 := ⟨by decide +kernel, rfl⟩
theorem eL_law_575 : Dc mL_law 575 (.lcmp) 1 576 := ⟨by decide +kernel, rfl⟩
theorem eL_law_576 : Dj mL_law 576 (.ifCond .eq) 579 976 := ⟨400, by decide +kernel, rfl, by decide⟩
theorem eL_law_579 : Dc mL_law 579 (.iconst 0) 1 580 := ⟨by decide +kernel, rfl⟩
theorem eL_law_580 : Dc mL_law 580 (.ireturn) 1 581 := ⟨by decide +kernel, rfl⟩
theorem eL_law_581 : Dc mL_law 581 (.aload_n 1) 1 582 := ⟨by decide +kernel, rfl⟩
theorem eL_law_582 : Dc mL_law 582 (.aload_n 0) 1 583 := ⟨by decide +kernel, rfl⟩
theorem eL_law_583 : Dc mL_law 583 (.iload_n 3) 1 584 := ⟨by decide +kernel, rfl⟩
theorem eL_law_584 : Dc mL_law 584 (.iconst 1) 1 585 := ⟨by decide +kernel, rfl⟩
theorem eL_law_585 : Dc mL_law 585 (.iadd) 1 586 := ⟨by decide +kernel, rfl⟩
theorem eL_law_586 : Dc mL_law 586 (.iaload) 1 587 := ⟨by decide +kernel, rfl⟩
theorem eL_law_587 : Dc mL_law 587 (.aload_n 0) 1 588 := ⟨by decide +kernel, rfl⟩
theorem eL_law_588 : Dc mL_law 588 (.iload_n 3) 1 589 := ⟨by decide +kernel, rfl⟩
theorem eL_law_589 : Dc mL_law 589 (.iconst 2) 1 590 := ⟨by decide +kernel, rfl⟩
theorem eL_law_590 : Dc mL_law 590 (.iadd) 1 591 := ⟨by decide +kernel, rfl⟩
theorem eL_law_591 : Dc mL_law 591 (.iaload) 1 592 := ⟨by decide +kernel, rfl⟩
theorem eL_law_592 : Dc mL_law 592 (.aload_n 0) 1 593 := ⟨by decide +kernel, rfl⟩
theorem eL_law_593 : Dc mL_law 593 (.iload_n 3) 1 594 := ⟨by decide +kernel, rfl⟩
theorem eL_law_594 : Dc mL_law 594 (.iconst 3) 1 595 := ⟨by decide +kernel, rfl⟩
theorem eL_law_595 : Dc mL_law 595 (.iadd) 1 596 := ⟨by decide +kernel, rfl⟩
theorem eL_law_596 : Dc mL_law 596 (.iaload) 1 597 := ⟨by decide +kernel, rfl⟩
theorem eL_law_597 : Dc mL_law 597 (.invokevirtual 72) 3 600 := ⟨by decide +kernel, rfl⟩
theorem eL_law_600 : Dc mL_law 600 (.aload_n 2) 1 601 := ⟨by decide +kernel, rfl⟩
theorem eL_law_601 : Dc mL_law 601 (.aload_n 0) 1 602 := ⟨by decide +kernel, rfl⟩
theorem eL_law_602 : Dc mL_law 602 (.iload_n 3) 1 603 := ⟨by decide +kernel, rfl⟩
theorem eL_law_603 : Dc mL_law 603 (.iconst 1) 1 604 := ⟨by decide +kernel, rfl⟩
theorem eL_law_604 : Dc mL_law 604 (.iadd) 1 605 := ⟨by decide +kernel, rfl⟩
theorem eL_law_605 : Dc mL_law 605 (.iaload) 1 606 := ⟨by decide +kernel, rfl⟩
theorem eL_law_606 : Dc mL_law 606 (.aload_n 0) 1 607 := ⟨by decide +kernel, rfl⟩
theorem eL_law_607 : Dc mL_law 607 (.iload_n 3) 1 608 := ⟨by decide +kernel, rfl⟩
theorem eL_law_608 : Dc mL_law 608 (.iconst 2) 1 609 := ⟨by decide +kernel, rfl⟩
theorem eL_law_609 : Dc mL_law 609 (.iadd) 1 610 := ⟨by decide +kernel, rfl⟩
theorem eL_law_610 : Dc mL_law 610 (.iaload) 1 611 := ⟨by decide +kernel, rfl⟩
theorem eL_law_611 : Dc mL_law 611 (.aload_n 0) 1 612 := ⟨by decide +kernel, rfl⟩
theorem eL_law_612 : Dc mL_law 612 (.iload_n 3) 1 613 := ⟨by decide +kernel, rfl⟩
theorem eL_law_613 : Dc mL_law 613 (.iconst 3) 1 614 := ⟨by decide +kernel, rfl⟩
theorem eL_law_614 : Dc mL_law 614 (.iadd) 1 615 := ⟨by decide +kernel, rfl⟩
theorem eL_law_615 : Dc mL_law 615 (.iaload) 1 616 := ⟨by decide +kernel, rfl⟩
theorem eL_law_616 : Dc mL_law 616 (.invokevirtual 75) 3 619 := ⟨by decide +kernel, rfl⟩
theorem eL_law_619 : Dc mL_law 619 (.lcmp) 1 620 := ⟨by decide +kernel, rfl⟩
theorem eL_law_620 : Dj mL_law 620 (.ifCond .eq) 623 976 := ⟨356, by decide +kernel, rfl, by decide⟩
theorem eL_law_623 : Dc mL_law 623 (.iconst 0) 1 624 := ⟨by decide +kernel, rfl⟩
theorem eL_law_624 : Dc mL_law 624 (.ireturn) 1 625 := ⟨by decide +kernel, rfl⟩
theorem eL_law_625 : Dc mL_law 625 (.aload_n 1) 1 626 := ⟨by decide +kernel, rfl⟩
theorem eL_law_626 : Dc mL_law 626 (.invokevirtual 76) 3 629 := ⟨by decide +kernel, rfl⟩
theorem eL_law_629 : Dc mL_law 629 (.aload_n 2) 1 630 := ⟨by decide +kernel, rfl⟩
theorem eL_law_630 : Dc mL_law 630 (.invokevirtual 79) 3 633 := ⟨by decide +kernel, rfl⟩
theorem eL_law_633 : Dj mL_law 633 (.if_icmp .eq) 636 976 := ⟨343, by decide +kernel, rfl, by decide⟩
theorem eL_law_636 : Dc mL_law 636 (.iconst 0) 1 637 := ⟨by decide +kernel, rfl⟩
theorem eL_law_637 : Dc mL_law 637 (.ireturn) 1 638 := ⟨by decide +kernel, rfl⟩
theorem eL_law_638 : Dc mL_law 638 (.aload_n 1) 1 639 := ⟨by decide +kernel, rfl⟩
theorem eL_law_639 : Dc mL_law 639 (.aload_n 0) 1 640 := ⟨by decide +kernel, rfl⟩
theorem eL_law_640 : Dc mL_law 640 (.iload_n 3) 1 641 := ⟨by decide +kernel, rfl⟩
theorem eL_law_641 : Dc mL_law 641 (.iconst 1) 1 642 := ⟨by decide +kernel, rfl⟩
theorem eL_law_642 : Dc mL_law 642 (.iadd) 1 643 := ⟨by decide +kernel, rfl⟩
theorem eL_law_643 : Dc mL_law 643 (.iaload) 1 644 := ⟨by decide +kernel, rfl⟩
theorem eL_law_644 : Dc mL_law 644 (.aload_n 0) 1 645 := ⟨by decide +kernel, rfl⟩
theorem eL_law_645 : Dc mL_law 645 (.iload_n 3) 1 646 := ⟨by decide +kernel, rfl⟩
theorem eL_law_646 : Dc mL_law 646 (.iconst 2) 1 647 := ⟨by decide +kernel, rfl⟩
theorem eL_law_647 : Dc mL_law 647 (.iadd) 1 648 := ⟨by decide +kernel, rfl⟩
theorem eL_law_648 : Dc mL_law 648 (.iaload) 1 649 := ⟨by decide +kernel, rfl⟩
theorem eL_law_649 : Dc mL_law 649 (.invokevirtual 80) 3 652 := ⟨by decide +kernel, rfl⟩
theorem eL_law_652 : Dc mL_law 652 (.aload_n 2) 1 653 := ⟨by decide +kernel, rfl⟩
theorem eL_law_653 : Dc mL_law 653 (.aload_n 0) 1 654 := ⟨by decide +kernel, rfl⟩
theorem eL_law_654 : Dc mL_law 654 (.iload_n 3) 1 655 := ⟨by decide +kernel, rfl⟩
theorem eL_law_655 : Dc mL_law 655 (.iconst 1) 1 656 := ⟨by decide +kernel, rfl⟩
theorem eL_law_656 : Dc mL_law 656 (.iadd) 1 657 := ⟨by decide +kernel, rfl⟩
theorem eL_law_657 : Dc mL_law 657 (.iaload) 1 658 := ⟨by decide +kernel, rfl⟩
theorem eL_law_658 : Dc mL_law 658 (.aload_n 0) 1 659 := ⟨by decide +kernel, rfl⟩
theorem eL_law_659 : Dc mL_law 659 (.iload_n 3) 1 660 := ⟨by decide +kernel, rfl⟩
theorem eL_law_660 : Dc mL_law 660 (.iconst 2) 1 661 := ⟨by decide +kernel, rfl⟩
theorem eL_law_661 : Dc mL_law 661 (.iadd) 1 662 := ⟨by decide +kernel, rfl⟩
theorem eL_law_662 : Dc mL_law 662 (.iaload) 1 663 := ⟨by decide +kernel, rfl⟩
theorem eL_law_663 : Dc mL_law 663 (.invokevirtual 83) 3 666 := ⟨by decide +kernel, rfl⟩
theorem eL_law_666 : Dj mL_law 666 (.if_icmp .eq) 669 976 := ⟨310, by decide +kernel, rfl, by decide⟩
theorem eL_law_669 : Dc mL_law 669 (.iconst 0) 1 670 := ⟨by decide +kernel, rfl⟩
theorem eL_law_670 : Dc mL_law 670 (.ireturn) 1 671 := ⟨by decide +kernel, rfl⟩
theorem eL_law_671 : Dc mL_law 671 (.aload_n 1) 1 672 := ⟨by decide +kernel, rfl⟩
theorem eL_law_672 : Dc mL_law 672 (.invokevirtual 84) 3 675 := ⟨by decide +kernel, rfl⟩
theorem eL_law_675 : Dc mL_law 675 (.aload_n 2) 1 676 := ⟨by decide +kernel, rfl⟩
theorem eL_law_676 : Dc mL_law 676 (.invokevirtual 87) 3 679 := ⟨by decide +kernel, rfl⟩
theorem eL_law_679 : Dj mL_law 679 (.if_icmp .eq) 682 976 := ⟨297, by decide +kernel, rfl, by decide⟩
theorem eL_law_682 : Dc mL_law 682 (.iconst 0) 1 683 := ⟨by decide +kernel, rfl⟩
theorem eL_law_683 : Dc mL_law 683 (.ireturn) 1 684 := ⟨by decide +kernel, rfl⟩
theorem eL_law_684 : Dc mL_law 684 (.aload_n 1) 1 685 := ⟨by decide +kernel, rfl⟩
theorem eL_law_685 : Dc mL_law 685 (.aload_n 0) 1 686 := ⟨by decide +kernel, rfl⟩
theorem eL_law_686 : Dc mL_law 686 (.iload_n 3) 1 687 := ⟨by decide +kernel, rfl⟩
theorem eL_law_687 : Dc mL_law 687 (.iconst 1) 1 688 := ⟨by decide +kernel, rfl⟩
theorem eL_law_688 : Dc mL_law 688 (.iadd) 1 689 := ⟨by decide +kernel, rfl⟩
theorem eL_law_689 : Dc mL_law 689 (.iaload) 1 690 := ⟨by decide +kernel, rfl⟩
theorem eL_law_690 : Dc mL_law 690 (.invokevirtual 88) 3 693 := ⟨by decide +kernel, rfl⟩
theorem eL_law_693 : Dc mL_law 693 (.aload_n 2) 1 694 := ⟨by decide +kernel, rfl⟩
theorem eL_law_694 : Dc mL_law 694 (.aload_n 0) 1 695 := ⟨by decide +kernel, rfl⟩
theorem eL_law_695 : Dc mL_law 695 (.iload_n 3) 1 696 := ⟨by decide +kernel, rfl⟩
theorem eL_law_696 : Dc mL_law 696 (.iconst 1) 1 697 := ⟨by decide +kernel, rfl⟩
theorem eL_law_697 : Dc mL_law 697 (.iadd) 1 698 := ⟨by decide +kernel, rfl⟩
theorem eL_law_698 : Dc mL_law 698 (.iaload) 1 699 := ⟨by decide +kernel, rfl⟩
theorem eL_law_699 : Dc mL_law 699 (.invokevirtual 91) 3 702 := ⟨by decide +kernel, rfl⟩
theorem eL_law_702 : Dj mL_law 702 (.if_icmp .eq) 705 976 := ⟨274, by decide +kernel, rfl, by decide⟩
theorem eL_law_705 : Dc mL_law 705 (.iconst 0) 1 706 := ⟨by decide +kernel, rfl⟩
theorem eL_law_706 : Dc mL_law 706 (.ireturn) 1 707 := ⟨by decide +kernel, rfl⟩
theorem eL_law_707 : Dc mL_law 707 (.aload_n 1) 1 708 := ⟨by decide +kernel, rfl⟩
theorem eL_law_708 : Dc mL_law 708 (.aload_n 0) 1 709 := ⟨by decide +kernel, rfl⟩
theorem eL_law_709 : Dc mL_law 709 (.iload_n 3) 1 710 := ⟨by decide +kernel, rfl⟩
theorem eL_law_710 : Dc mL_law 710 (.iconst 1) 1 711 := ⟨by decide +kernel, rfl⟩
theorem eL_law_711 : Dc mL_law 711 (.iadd) 1 712 := ⟨by decide +kernel, rfl⟩
theorem eL_law_712 : Dc mL_law 712 (.iaload) 1 713 := ⟨by decide +kernel, rfl⟩
theorem eL_law_713 : Dc mL_law 713 (.invokevirtual 92) 3 716 := ⟨by decide +kernel, rfl⟩
theorem eL_law_716 : Dc mL_law 716 (.aload_n 2) 1 717 := ⟨by decide +kernel, rfl⟩
theorem eL_law_717 : Dc mL_law 717 (.aload_n 0) 1 718 := ⟨by decide +kernel, rfl⟩
theorem eL_law_718 : Dc mL_law 718 (.iload_n 3) 1 719 := ⟨by decide +kernel, rfl⟩
theorem eL_law_719 : Dc mL_law 719 (.iconst 1) 1 720 := ⟨by decide +kernel, rfl⟩
theorem eL_law_720 : Dc mL_law 720 (.iadd) 1 721 := ⟨by decide +kernel, rfl⟩
theorem eL_law_721 : Dc mL_law 721 (.iaload) 1 722 := ⟨by decide +kernel, rfl⟩
theorem eL_law_722 : Dc mL_law 722 (.invokevirtual 96) 3 725 := ⟨by decide +kernel, rfl⟩
theorem eL_law_725 : Dc mL_law 725 (.lcmp) 1 726 := ⟨by decide +kernel, rfl⟩
theorem eL_law_726 : Dj mL_law 726 (.ifCond .eq) 729 976 := ⟨250, by decide +kernel, rfl, by decide⟩
theorem eL_law_729 : Dc mL_law 729 (.iconst 0) 1 730 := ⟨by decide +kernel, rfl⟩
theorem eL_law_730 : Dc mL_law 730 (.ireturn) 1 731 := ⟨by decide +kernel, rfl⟩
theorem eL_law_731 : Dc mL_law 731 (.aload_n 1) 1 732 := ⟨by decide +kernel, rfl⟩
theorem eL_law_732 : Dc mL_law 732 (.invokevirtual 97) 3 735 := ⟨by decide +kernel, rfl⟩
theorem eL_law_735 : Dc mL_law 735 (.aload_n 2) 1 736 := ⟨by decide +kernel, rfl⟩
theorem eL_law_736 : Dc mL_law 736 (.invokevirtual 100) 3 739 := ⟨by decide +kernel, rfl⟩
theorem eL_law_739 : Dj mL_law 739 (.if_icmp .eq) 742 976 := ⟨237, by decide +kernel, rfl, by decide⟩
theorem eL_law_742 : Dc mL_law 742 (.iconst 0) 1 743 := ⟨by decide +kernel, rfl⟩
theorem eL_law_743 : Dc mL_law 743 (.ireturn) 1 744 := ⟨by decide +kernel, rfl⟩
theorem eL_law_744 : Dc mL_law 744 (.aload_n 1) 1 745 := ⟨by decide +kernel, rfl⟩
theorem eL_law_745 : Dc mL_law 745 (.aload_n 0) 1 746 := ⟨by decide +kernel, rfl⟩
theorem eL_law_746 : Dc mL_law 746 (.iload_n 3) 1 747 := ⟨by decide +kernel, rfl⟩
theorem eL_law_747 : Dc mL_law 747 (.iconst 1) 1 748 := ⟨by decide +kernel, rfl⟩
theorem eL_law_748 : Dc mL_law 748 (.iadd) 1 749 := ⟨by decide +kernel, rfl⟩
theorem eL_law_749 : Dc mL_law 749 (.iaload) 1 750 := ⟨by decide +kernel, rfl⟩
theorem eL_law_750 : Dc mL_law 750 (.aload_n 0) 1 751 := ⟨by decide +kernel, rfl⟩
theorem eL_law_751 : Dc mL_law 751 (.iload_n 3) 1 752 := ⟨by decide +kernel, rfl⟩
theorem eL_law_752 : Dc mL_law 752 (.iconst 2) 1 753 := ⟨by decide +kernel, rfl⟩
theorem eL_law_753 : Dc mL_law 753 (.iadd) 1 754 := ⟨by decide +kernel, rfl⟩
theorem eL_law_754 : Dc mL_law 754 (.iaload) 1 755 := ⟨by decide +kernel, rfl⟩
theorem eL_law_755 : Dc mL_law 755 (.aload_n 0) 1 756 := ⟨by decide +kernel, rfl⟩
theorem eL_law_756 : Dc mL_law 756 (.iload_n 3) 1 757 := ⟨by decide +kernel, rfl⟩
theorem eL_law_757 : Dc mL_law 757 (.iconst 3) 1 758 := ⟨by decide +kernel, rfl⟩
theorem eL_law_758 : Dc mL_law 758 (.iadd) 1 759 := ⟨by decide +kernel, rfl⟩
theorem eL_law_759 : Dc mL_law 759 (.iaload) 1 760 := ⟨by decide +kernel, rfl⟩
theorem eL_law_760 : Dc mL_law 760 (.invokevirtual 101) 3 763 := ⟨by decide +kernel, rfl⟩
theorem eL_law_763 : Dc mL_law 763 (.aload_n 2) 1 764 := ⟨by decide +kernel, rfl⟩
theorem eL_law_764 : Dc mL_law 764 (.aload_n 0) 1 765 := ⟨by decide +kernel, rfl⟩
theorem eL_law_765 : Dc mL_law 765 (.iload_n 3) 1 766 := ⟨by decide +kernel, rfl⟩
theorem eL_law_766 : Dc mL_law 766 (.iconst 1) 1 767 := ⟨by decide +kernel, rfl⟩
theorem eL_law_767 : Dc mL_law 767 (.iadd) 1 768 := ⟨by decide +kernel, rfl⟩
theorem eL_law_768 : Dc mL_law 768 (.iaload) 1 769 := ⟨by decide +kernel, rfl⟩
theorem eL_law_769 : Dc mL_law 769 (.aload_n 0) 1 770 := ⟨by decide +kernel, rfl⟩
theorem eL_law_770 : Dc mL_law 770 (.iload_n 3) 1 771 := ⟨by decide +kernel, rfl⟩
theorem eL_law_771 : Dc mL_law 771 (.iconst 2) 1 772 := ⟨by decide +kernel, rfl⟩
theorem eL_law_772 : Dc mL_law 772 (.iadd) 1 773 := ⟨by decide +kernel, rfl⟩
theorem eL_law_773 : Dc mL_law 773 (.iaload) 1 774 := ⟨by decide +kernel, rfl⟩
theorem eL_law_774 : Dc mL_law 774 (.aload_n 0) 1 775 := ⟨by decide +kernel, rfl⟩
theorem eL_law_775 : Dc mL_law 775 (.iload_n 3) 1 776 := ⟨by decide +kernel, rfl⟩
theorem eL_law_776 : Dc mL_law 776 (.iconst 3) 1 777 := ⟨by decide +kernel, rfl⟩
theorem eL_law_777 : Dc mL_law 777 (.iadd) 1 778 := ⟨by decide +kernel, rfl⟩
theorem eL_law_778 : Dc mL_law 778 (.iaload) 1 779 := ⟨by decide +kernel, rfl⟩
theorem eL_law_779 : Dc mL_law 779 (.invokevirtual 104) 3 782 := ⟨by decide +kernel, rfl⟩
theorem eL_law_782 : Dc mL_law 782 (.lcmp) 1 783 := ⟨by decide +kernel, rfl⟩
theorem eL_law_783 : Dj mL_law 783 (.ifCond .eq) 786 976 := ⟨193, by decide +kernel, rfl, by decide⟩
theorem eL_law_786 : Dc mL_law 786 (.iconst 0) 1 787 := ⟨by decide +kernel, rfl⟩
theorem eL_law_787 : Dc mL_law 787 (.ireturn) 1 788 := ⟨by decide +kernel, rfl⟩
theorem eL_law_788 : Dc mL_law 788 (.aload_n 1) 1 789 := ⟨by decide +kernel, rfl⟩
theorem eL_law_789 : Dc mL_law 789 (.aload_n 0) 1 790 := ⟨by decide +kernel, rfl⟩
theorem eL_law_790 : Dc mL_law 790 (.iload_n 3) 1 791 := ⟨by decide +kernel, rfl⟩
theorem eL_law_791 : Dc mL_law 791 (.iconst 1) 1 792 := ⟨by decide +kernel, rfl⟩
theorem eL_law_792 : Dc mL_law 792 (.iadd) 1 793 := ⟨by decide +kernel, rfl⟩
theorem eL_law_793 : Dc mL_law 793 (.iaload) 1 794 := ⟨by decide +kernel, rfl⟩
theorem eL_law_794 : Dc mL_law 794 (.invokevirtual 105) 3 797 := ⟨by decide +kernel, rfl⟩
theorem eL_law_797 : Dc mL_law 797 (.aload_n 2) 1 798 := ⟨by decide +kernel, rfl⟩
theorem eL_law_798 : Dc mL_law 798 (.aload_n 0) 1 799 := ⟨by decide +kernel, rfl⟩
theorem eL_law_799 : Dc mL_law 799 (.iload_n 3) 1 800 := ⟨by decide +kernel, rfl⟩
theorem eL_law_800 : Dc mL_law 800 (.iconst 1) 1 801 := ⟨by decide +kernel, rfl⟩
theorem eL_law_801 : Dc mL_law 801 (.iadd) 1 802 := ⟨by decide +kernel, rfl⟩
theorem eL_law_802 : Dc mL_law 802 (.iaload) 1 803 := ⟨by decide +kernel, rfl⟩
theorem eL_law_803 : Dc mL_law 803 (.invokevirtual 108) 3 806 := ⟨by decide +kernel, rfl⟩
theorem eL_law_806 : Dj mL_law 806 (.if_icmp .eq) 809 976 := ⟨170, by decide +kernel, rfl, by decide⟩
theorem eL_law_809 : Dc mL_law 809 (.iconst 0) 1 810 := ⟨by decide +kernel, rfl⟩
theorem eL_law_810 : Dc mL_law 810 (.ireturn) 1 811 := ⟨by decide +kernel, rfl⟩
theorem eL_law_811 : Dc mL_law 811 (.aload_n 1) 1 812 := ⟨by decide +kernel, rfl⟩
theorem eL_law_812 : Dc mL_law 812 (.invokevirtual 109) 3 815 := ⟨by decide +kernel, rfl⟩
theorem eL_law_815 : Dc mL_law 815 (.aload_n 2) 1 816 := ⟨by decide +kernel, rfl⟩
theorem eL_law_816 : Dc mL_law 816 (.invokevirtual 112) 3 819 := ⟨by decide +kernel, rfl⟩
theorem eL_law_819 : Dj mL_law 819 (.if_icmp .eq) 822 976 := ⟨157, by decide +kernel, rfl, by decide⟩
theorem eL_law_822 : Dc mL_law 822 (.iconst 0) 1 823 := ⟨by decide +kernel, rfl⟩
theorem eL_law_823 : Dc mL_law 823 (.ireturn) 1 824 := ⟨by decide +kernel, rfl⟩
theorem eL_law_824 : Dc mL_law 824 (.aload_n 1) 1 825 := ⟨by decide +kernel, rfl⟩
theorem eL_law_825 : Dc mL_law 825 (.aload_n 0) 1 826 := ⟨by decide +kernel, rfl⟩
theorem eL_law_826 : Dc mL_law 826 (.iload_n 3) 1 827 := ⟨by decide +kernel, rfl⟩
theorem eL_law_827 : Dc mL_law 827 (.iconst 1) 1 828 := ⟨by decide +kernel, rfl⟩
theorem eL_law_828 : Dc mL_law 828 (.iadd) 1 829 := ⟨by decide +kernel, rfl⟩
theorem eL_law_829 : Dc mL_law 829 (.iaload) 1 830 := ⟨by decide +kernel, rfl⟩
theorem eL_law_830 : Dc mL_law 830 (.invokevirtual 113) 3 833 := ⟨by decide +kernel, rfl⟩
theorem eL_law_833 : Dc mL_law 833 (.aload_n 2) 1 834 := ⟨by decide +kernel, rfl⟩
theorem eL_law_834 : Dc mL_law 834 (.aload_n 0) 1 835 := ⟨by decide +kernel, rfl⟩
theorem eL_law_835 : Dc mL_law 835 (.iload_n 3) 1 836 := ⟨by decide +kernel, rfl⟩
theorem eL_law_836 : Dc mL_law 836 (.iconst 1) 1 837 := ⟨by decide +kernel, rfl⟩
theorem eL_law_837 : Dc mL_law 837 (.iadd) 1 838 := ⟨by decide +kernel, rfl⟩
theorem eL_law_838 : Dc mL_law 838 (.iaload) 1 839 := ⟨by decide +kernel, rfl⟩
theorem eL_law_839 : Dc mL_law 839 (.invokevirtual 116) 3 842 := ⟨by decide +kernel, rfl⟩
theorem eL_law_842 : Dc mL_law 842 (.lcmp) 1 843 := ⟨by decide +kernel, rfl⟩
theorem eL_law_843 : Dj mL_law 843 (.ifCond .eq) 846 976 := ⟨133, by decide +kernel, rfl, by decide⟩
theorem eL_law_846 : Dc mL_law 846 (.iconst 0) 1 847 := ⟨by decide +kernel, rfl⟩
theorem eL_law_847 : Dc mL_law 847 (.ireturn) 1 848 := ⟨by decide +kernel, rfl⟩
theorem eL_law_848 : Dc mL_law 848 (.aload_n 1) 1 849 := ⟨by decide +kernel, rfl⟩
theorem eL_law_849 : Dc mL_law 849 (.aload_n 0) 1 850 := ⟨by decide +kernel, rfl⟩
theorem eL_law_850 : Dc mL_law 850 (.iload_n 3) 1 851 := ⟨by decide +kernel, rfl⟩
theorem eL_law_851 : Dc mL_law 851 (.iconst 1) 1 852 := ⟨by decide +kernel, rfl⟩
theorem eL_law_852 : Dc mL_law 852 (.iadd) 1 853 := ⟨by decide +kernel, rfl⟩
theorem eL_law_853 : Dc mL_law 853 (.iaload) 1 854 := ⟨by decide +kernel, rfl⟩
theorem eL_law_854 : Dc mL_law 854 (.aload_n 0) 1 855 := ⟨by decide +kernel, rfl⟩
theorem eL_law_855 : Dc mL_law 855 (.iload_n 3) 1 856 := ⟨by decide +kernel, rfl⟩
theorem eL_law_856 : Dc mL_law 856 (.iconst 2) 1 857 := ⟨by decide +kernel, rfl⟩
theorem eL_law_857 : Dc mL_law 857 (.iadd) 1 858 := ⟨by decide +kernel, rfl⟩
theorem eL_law_858 : Dc mL_law 858 (.iaload) 1 859 := ⟨by decide +kernel, rfl⟩
theorem eL_law_859 : Dc mL_law 859 (.invokevirtual 117) 3 862 := ⟨by decide +kernel, rfl⟩
theorem eL_law_862 : Dc mL_law 862 (.aload_n 2) 1 863 := ⟨by decide +kernel, rfl⟩
theorem eL_law_863 : Dc mL_law 863 (.aload_n 0) 1 864 := ⟨by decide +kernel, rfl⟩
theorem eL_law_864 : Dc mL_law 864 (.iload_n 3) 1 865 := ⟨by decide +kernel, rfl⟩
theorem eL_law_865 : Dc mL_law 865 (.iconst 1) 1 866 := ⟨by decide +kernel, rfl⟩
theorem eL_law_866 : Dc mL_law 866 (.iadd) 1 867 := ⟨by decide +kernel, rfl⟩
theorem eL_law_867 : Dc mL_law 867 (.iaload) 1 868 := ⟨by decide +kernel, rfl⟩
theorem eL_law_868 : Dc mL_law 868 (.aload_n 0) 1 869 := ⟨by decide +kernel, rfl⟩
theorem eL_law_869 : Dc mL_law 869 (.iload_n 3) 1 870 := ⟨by decide +kernel, rfl⟩
theorem eL_law_870 : Dc mL_law 870 (.iconst 2) 1 871 := ⟨by decide +kernel, rfl⟩
theorem eL_law_871 : Dc mL_law 871 (.iadd) 1 872 := ⟨by decide +kernel, rfl⟩
theorem eL_law_872 : Dc mL_law 872 (.iaload) 1 873 := ⟨by decide +kernel, rfl⟩
theorem eL_law_873 : Dc mL_law 873 (.invokevirtual 120) 3 876 := ⟨by decide +kernel, rfl⟩
theorem eL_law_876 : Dj mL_law 876 (.if_icmp .eq) 879 976 := ⟨100, by decide +kernel, rfl, by decide⟩
theorem eL_law_879 : Dc mL_law 879 (.iconst 0) 1 880 := ⟨by decide +kernel, rfl⟩
theorem eL_law_880 : Dc mL_law 880 (.ireturn) 1 881 := ⟨by decide +kernel, rfl⟩
theorem eL_law_881 : Dc mL_law 881 (.aload_n 1) 1 882 := ⟨by decide +kernel, rfl⟩
theorem eL_law_882 : Dc mL_law 882 (.invokevirtual 121) 3 885 := ⟨by decide +kernel, rfl⟩
theorem eL_law_885 : Dc mL_law 885 (.aload_n 2) 1 886 := ⟨by decide +kernel, rfl⟩
theorem eL_law_886 : Dc mL_law 886 (.invokevirtual 124) 3 889 := ⟨by decide +kernel, rfl⟩
theorem eL_law_889 : Dj mL_law 889 (.if_icmp .eq) 892 976 := ⟨87, by decide +kernel, rfl, by decide⟩
theorem eL_law_892 : Dc mL_law 892 (.iconst 0) 1 893 := ⟨by decide +kernel, rfl⟩
theorem eL_law_893 : Dc mL_law 893 (.ireturn) 1 894 := ⟨by decide +kernel, rfl⟩
theorem eL_law_894 : Dc mL_law 894 (.aload_n 1) 1 895 := ⟨by decide +kernel, rfl⟩
theorem eL_law_895 : Dc mL_law 895 (.invokevirtual 125) 3 898 := ⟨by decide +kernel, rfl⟩
theorem eL_law_898 : Dc mL_law 898 (.aload_n 2) 1 899 := ⟨by decide +kernel, rfl⟩
theorem eL_law_899 : Dc mL_law 899 (.invokevirtual 128) 3 902 := ⟨by decide +kernel, rfl⟩
theorem eL_law_902 : Dj mL_law 902 (.if_icmp .eq) 905 976 := ⟨74, by decide +kernel, rfl, by decide⟩
theorem eL_law_905 : Dc mL_law 905 (.iconst 0) 1 906 := ⟨by decide +kernel, rfl⟩
theorem eL_law_906 : Dc mL_law 906 (.ireturn) 1 907 := ⟨by decide +kernel, rfl⟩
theorem eL_law_907 : Dc mL_law 907 (.aload_n 1) 1 908 := ⟨by decide +kernel, rfl⟩
theorem eL_law_908 : Dc mL_law 908 (.aload_n 0) 1 909 := ⟨by decide +kernel, rfl⟩
theorem eL_law_909 : Dc mL_law 909 (.iload_n 3) 1 910 := ⟨by decide +kernel, rfl⟩
theorem eL_law_910 : Dc mL_law 910 (.iconst 1) 1 911 := ⟨by decide +kernel, rfl⟩
theorem eL_law_911 : Dc mL_law 911 (.iadd) 1 912 := ⟨by decide +kernel, rfl⟩
theorem eL_law_912 : Dc mL_law 912 (.iaload) 1 913 := ⟨by decide +kernel, rfl⟩
theorem eL_law_913 : Dc mL_law 913 (.invokevirtual 129) 3 916 := ⟨by decide +kernel, rfl⟩
theorem eL_law_916 : Dc mL_law 916 (.aload_n 2) 1 917 := ⟨by decide +kernel, rfl⟩
theorem eL_law_917 : Dc mL_law 917 (.aload_n 0) 1 918 := ⟨by decide +kernel, rfl⟩
theorem eL_law_918 : Dc mL_law 918 (.iload_n 3) 1 919 := ⟨by decide +kernel, rfl⟩
theorem eL_law_919 : Dc mL_law 919 (.iconst 1) 1 920 := ⟨by decide +kernel, rfl⟩
theorem eL_law_920 : Dc mL_law 920 (.iadd) 1 921 := ⟨by decide +kernel, rfl⟩
theorem eL_law_921 : Dc mL_law 921 (.iaload) 1 922 := ⟨by decide +kernel, rfl⟩
theorem eL_law_922 : Dc mL_law 922 (.invokevirtual 132) 3 925 := ⟨by decide +kernel, rfl⟩
theorem eL_law_925 : Dj mL_law 925 (.if_icmp .eq) 928 976 := ⟨51, by decide +kernel, rfl, by decide⟩
theorem eL_law_928 : Dc mL_law 928 (.iconst 0) 1 929 := ⟨by decide +kernel, rfl⟩
theorem eL_law_929 : Dc mL_law 929 (.ireturn) 1 930 := ⟨by decide +kernel, rfl⟩
theorem eL_law_930 : Dc mL_law 930 (.aload_n 1) 1 931 := ⟨by decide +kernel, rfl⟩
theorem eL_law_931 : Dc mL_law 931 (.aload_n 0) 1 932 := ⟨by decide +kernel, rfl⟩
theorem eL_law_932 : Dc mL_law 932 (.iload_n 3) 1 933 := ⟨by decide +kernel, rfl⟩
theorem eL_law_933 : Dc mL_law 933 (.iconst 1) 1 934 := ⟨by decide +kernel, rfl⟩
theorem eL_law_934 : Dc mL_law 934 (.iadd) 1 935 := ⟨by decide +kernel, rfl⟩
theorem eL_law_935 : Dc mL_law 935 (.iaload) 1 936 := ⟨by decide +kernel, rfl⟩
theorem eL_law_936 : Dc mL_law 936 (.invokevirtual 133) 3 939 := ⟨by decide +kernel, rfl⟩
theorem eL_law_939 : Dc mL_law 939 (.aload_n 2) 1 940 := ⟨by decide +kernel, rfl⟩
theorem eL_law_940 : Dc mL_law 940 (.aload_n 0) 1 941 := ⟨by decide +kernel, rfl⟩
theorem eL_law_941 : Dc mL_law 941 (.iload_n 3) 1 942 := ⟨by decide +kernel, rfl⟩
theorem eL_law_942 : Dc mL_law 942 (.iconst 1) 1 943 := ⟨by decide +kernel, rfl⟩
theorem eL_law_943 : Dc mL_law 943 (.iadd) 1 944 := ⟨by decide +kernel, rfl⟩
theorem eL_law_944 : Dc mL_law 944 (.iaload) 1 945 := ⟨by decide +kernel, rfl⟩
theorem eL_law_945 : Dc mL_law 945 (.invokevirtual 136) 3 948 := ⟨by decide +kernel, rfl⟩
theorem eL_law_948 : Dj mL_law 948 (.if_icmp .eq) 951 976 := ⟨28, by decide +kernel, rfl, by decide⟩
theorem eL_law_951 : Dc mL_law 951 (.iconst 0) 1 952 := ⟨by decide +kernel, rfl⟩
theorem eL_law_952 : Dc mL_law 952 (.ireturn) 1 953 := ⟨by decide +kernel, rfl⟩
theorem eL_law_953 : Dc mL_law 953 (.aload_n 1) 1 954 := ⟨by decide +kernel, rfl⟩
theorem eL_law_954 : Dc mL_law 954 (.aload_n 0) 1 955 := ⟨by decide +kernel, rfl⟩
theorem eL_law_955 : Dc mL_law 955 (.iload_n 3) 1 956 := ⟨by decide +kernel, rfl⟩
theorem eL_law_956 : Dc mL_law 956 (.iconst 1) 1 957 := ⟨by decide +kernel, rfl⟩
theorem eL_law_957 : Dc mL_law 957 (.iadd) 1 958 := ⟨by decide +kernel, rfl⟩
theorem eL_law_958 : Dc mL_law 958 (.iaload) 1 959 := ⟨by decide +kernel, rfl⟩
theorem eL_law_959 : Dc mL_law 959 (.invokevirtual 137) 3 962 := ⟨by decide +kernel, rfl⟩
theorem eL_law_962 : Dc mL_law 962 (.aload_n 2) 1 963 := ⟨by decide +kernel, rfl⟩
theorem eL_law_963 : Dc mL_law 963 (.aload_n 0) 1 964 := ⟨by decide +kernel, rfl⟩
theorem eL_law_964 : Dc mL_law 964 (.iload_n 3) 1 965 := ⟨by decide +kernel, rfl⟩
theorem eL_law_965 : Dc mL_law 965 (.iconst 1) 1 966 := ⟨by decide +kernel, rfl⟩
theorem eL_law_966 : Dc mL_law 966 (.iadd) 1 967 := ⟨by decide +kernel, rfl⟩
theorem eL_law_967 : Dc mL_law 967 (.iaload) 1 968 := ⟨by decide +kernel, rfl⟩
theorem eL_law_968 : Dc mL_law 968 (.invokevirtual 140) 3 971 := ⟨by decide +kernel, rfl⟩
theorem eL_law_971 : Dj mL_law 971 (.if_icmp .eq) 974 976 := ⟨5, by decide +kernel, rfl, by decide⟩
theorem eL_law_974 : Dc mL_law 974 (.iconst 0) 1 975 := ⟨by decide +kernel, rfl⟩
theorem eL_law_975 : Dc mL_law 975 (.ireturn) 1 976 := ⟨by decide +kernel, rfl⟩
theorem eL_law_976 : Dc mL_law 976 (.iinc 3 5) 3 979 := ⟨by decide +kernel, rfl⟩
theorem eL_law_979 : Dj mL_law 979 (.goto) 982 18 := ⟨-961, by decide +kernel, rfl, by decide⟩
theorem eL_law_982 : Dc mL_law 982 (.iconst 1) 1 983 := ⟨by decide +kernel, rfl⟩
theorem eL_law_983 : Dc mL_law 983 (.ireturn) 1 984 := ⟨by decide +kernel, rfl⟩
end
section
theorem eX12_back_0 : Dc mX12_back 0 (.iload_n 1) 1 1 := ⟨by decide +kernel, rfl⟩
theorem eX12_back_1 : Dc mX12_back 1 (.iconst 0) 1 2 := ⟨by decide +kernel, rfl⟩
theorem eX12_back_2 : Dc mX12_back 2 (.iconst 1) 1 3 := ⟨by decide +kernel, rfl⟩
theorem eX12_back_3 : Dc mX12_back 3 (.invokestatic 85) 3 6 := ⟨by decide +kernel, rfl⟩
theorem eX12_back_6 : Dj mX12_back 6 (.ifCond .ne) 9 11 := ⟨5, by decide +kernel, rfl, by decide⟩
theorem eX12_back_9 : Dc mX12_back 9 (.iconst (-1)) 1 10 := ⟨by decide +kernel, rfl⟩
theorem eX12_back_10 : Dc mX12_back 10 (.ireturn) 1 11 := ⟨by decide +kernel, rfl⟩
theorem eX12_back_11 : Dc mX12_back 11 (.aload_n 0) 1 12 := ⟨by decide +kernel, rfl⟩
theorem eX12_back_12 : Dc mX12_back 12 (.getfield 19) 3 15 := ⟨by decide +kernel, rfl⟩
theorem eX12_back_15 : Dc mX12_back 15 (.iload_n 1) 1 16 := ⟨by decide +kernel, rfl⟩
theorem eX12_back_16 : Dc mX12_back 16 (.baload) 1 17 := ⟨by decide +kernel, rfl⟩
theorem eX12_back_17 : Dj mX12_back 17 (.ifCond .ne) 20 23 := ⟨6, by decide +kernel, rfl, by decide⟩
theorem eX12_back_20 : Dc mX12_back 20 (.bipush (-2)) 2 22 := ⟨by decide +kernel, rfl⟩
theorem eX12_back_22 : Dc mX12_back 22 (.ireturn) 1 23 := ⟨by decide +kernel, rfl⟩
theorem eX12_back_23 : Dc mX12_back 23 (.iconst 0) 1 24 := ⟨by decide +kernel, rfl⟩
theorem eX12_back_24 : Dc mX12_back 24 (.istore_n 2) 1 25 := ⟨by decide +kernel, rfl⟩
theorem eX12_back_25 : Dc mX12_back 25 (.iload_n 2) 1 26 := ⟨by decide +kernel, rfl⟩
theorem eX12_back_26 : Dc mX12_back 26 (.bipush 32) 2 28 := ⟨by decide +kernel, rfl⟩
theorem eX12_back_28 : Dj mX12_back 28 (.if_icmp .ge) 31 54 := ⟨26, by decide +kernel, rfl, by decide⟩
theorem eX12_back_31 : Dc mX12_back 31 (.aload_n 0) 1 32 := ⟨by decide +kernel, rfl⟩
theorem eX12_back_32 : Dc mX12_back 32 (.getfield 7) 3 35 := ⟨by decide +kernel, rfl⟩
theorem eX12_back_35 : Dc mX12_back 35 (.iload_n 2) 1 36 := ⟨by decide +kernel, rfl⟩
theorem eX12_back_36 : Dc mX12_back 36 (.aload_n 0) 1 37 := ⟨by decide +kernel, rfl⟩
theorem eX12_back_37 : Dc mX12_back 37 (.getfield 16) 3 40 := ⟨by decide +kernel, rfl⟩
theorem eX12_back_40 : Dc mX12_back 40 (.bipush 32) 2 42 := ⟨by decide +kernel, rfl⟩
theorem eX12_back_42 : Dc mX12_back 42 (.iload_n 1) 1 43 := ⟨by decide +kernel, rfl⟩
theorem eX12_back_43 : Dc mX12_back 43 (.imul) 1 44 := ⟨by decide +kernel, rfl⟩
theorem eX12_back_44 : Dc mX12_back 44 (.iload_n 2) 1 45 := ⟨by decide +kernel, rfl⟩
theorem eX12_back_45 : Dc mX12_back 45 (.iadd) 1 46 := ⟨by decide +kernel, rfl⟩
theorem eX12_back_46 : Dc mX12_back 46 (.iaload) 1 47 := ⟨by decide +kernel, rfl⟩
theorem eX12_back_47 : Dc mX12_back 47 (.iastore) 1 48 := ⟨by decide +kernel, rfl⟩
theorem eX12_back_48 : Dc mX12_back 48 (.iinc 2 1) 3 51 := ⟨by decide +kernel, rfl⟩
theorem eX12_back_51 : Dj mX12_back 51 (.goto) 54 25 := ⟨-26, by decide +kernel, rfl, by decide⟩
theorem eX12_back_54 : Dc mX12_back 54 (.aload_n 0) 1 55 := ⟨by decide +kernel, rfl⟩
theorem eX12_back_55 : Dc mX12_back 55 (.iconst 0) 1 56 := ⟨by decide +kernel, rfl⟩
theorem eX12_back_56 : Dc mX12_back 56 (.putfield 72) 3 59 := ⟨by decide +kernel, rfl⟩
theorem eX12_back_59 : Dc mX12_back 59 (.aload_n 0) 1 60 := ⟨by decide +kernel, rfl⟩
theorem eX12_back_60 : Dc mX12_back 60 (.getfield 7) 3 63 := ⟨by decide +kernel, rfl⟩
theorem eX12_back_63 : Dc mX12_back 63 (.iconst 0) 1 64 := ⟨by decide +kernel, rfl⟩
theorem eX12_back_64 : Dc mX12_back 64 (.iaload) 1 65 := ⟨by decide +kernel, rfl⟩
theorem eX12_back_65 : Dc mX12_back 65 (.ireturn) 1 66 := ⟨by decide +kernel, rfl⟩
theorem eX12_becomes_0 : Dc mX12_becomes 0 (.iconst 0) 1 1 := ⟨by decide +kernel, rfl⟩
theorem eX12_becomes_1 : Dc mX12_becomes 1 (.istore_n 1) 1 2 := ⟨by decide +kernel, rfl⟩
theorem eX12_becomes_2 : Dc mX12_becomes 2 (.iload_n 1) 1 3 := ⟨by decide +kernel, rfl⟩
theorem eX12_becomes_3 : Dc mX12_becomes 3 (.bipush 32) 2 5 := ⟨by decide +kernel, rfl⟩
theorem eX12_becomes_5 : Dj mX12_becomes 5 (.if_icmp .ge) 8 26 := ⟨21, by decide +kernel, rfl, by decide⟩
theorem eX12_becomes_8 : Dc mX12_becomes 8 (.aload_n 0) 1 9 := ⟨by decide +kernel, rfl⟩
theorem eX12_becomes_9 : Dc mX12_becomes 9 (.getfield 7) 3 12 := ⟨by decide +kernel, rfl⟩
theorem eX12_becomes_12 : Dc mX12_becomes 12 (.iload_n 1) 1 13 := ⟨by decide +kernel, rfl⟩
theorem eX12_becomes_13 : Dc mX12_becomes 13 (.aload_n 0) 1 14 := ⟨by decide +kernel, rfl⟩
theorem eX12_becomes_14 : Dc mX12_becomes 14 (.getfield 13) 3 17 := ⟨by decide +kernel, rfl⟩
theorem eX12_becomes_17 : Dc mX12_becomes 17 (.iload_n 1) 1 18 := ⟨by decide +kernel, rfl⟩
theorem eX12_becomes_18 : Dc mX12_becomes 18 (.iaload) 1 19 := ⟨by decide +kernel, rfl⟩
theorem eX12_becomes_19 : Dc mX12_becomes 19 (.iastore) 1 20 := ⟨by decide +kernel, rfl⟩
theorem eX12_becomes_20 : Dc mX12_becomes 20 (.iinc 1 1) 3 23 := ⟨by decide +kernel, rfl⟩
theorem eX12_becomes_23 : Dj mX12_becomes 23 (.goto) 26 2 := ⟨-21, by decide +kernel, rfl, by decide⟩
theorem eX12_becomes_26 : Dc mX12_becomes 26 (.aload_n 0) 1 27 := ⟨by decide +kernel, rfl⟩
theorem eX12_becomes_27 : Dc mX12_becomes 27 (.getfield 19) 3 30 := ⟨by decide +kernel, rfl⟩
theorem eX12_becomes_30 : Dc mX12_becomes 30 (.iconst 0) 1 31 := ⟨by decide +kernel, rfl⟩
theorem eX12_becomes_31 : Dc mX12_becomes 31 (.iconst 0) 1 32 := ⟨by decide +kernel, rfl⟩
theorem eX12_becomes_32 : Dc mX12_becomes 32 (.bastore) 1 33 := ⟨by decide +kernel, rfl⟩
theorem eX12_becomes_33 : Dc mX12_becomes 33 (.aload_n 0) 1 34 := ⟨by decide +kernel, rfl⟩
theorem eX12_becomes_34 : Dc mX12_becomes 34 (.getfield 19) 3 37 := ⟨by decide +kernel, rfl⟩
theorem eX12_becomes_37 : Dc mX12_becomes 37 (.iconst 1) 1 38 := ⟨by decide +kernel, rfl⟩
theorem eX12_becomes_38 : Dc mX12_becomes 38 (.iconst 0) 1 39 := ⟨by decide +kernel, rfl⟩
theorem eX12_becomes_39 : Dc mX12_becomes 39 (.bastore) 1 40 := ⟨by decide +kernel, rfl⟩
theorem eX12_becomes_40 : Dc mX12_becomes 40 (.aload_n 0) 1 41 := ⟨by decide +kernel, rfl⟩
theorem eX12_becomes_41 : Dc mX12_becomes 41 (.iconst 0) 1 42 := ⟨by decide +kernel, rfl⟩
theorem eX12_becomes_42 : Dc mX12_becomes 42 (.putfield 72) 3 45 := ⟨by decide +kernel, rfl⟩
theorem eX12_becomes_45 : Dc mX12_becomes 45 (.aload_n 0) 1 46 := ⟨by decide +kernel, rfl⟩
theorem eX12_becomes_46 : Dc mX12_becomes 46 (.iconst 0) 1 47 := ⟨by decide +kernel, rfl⟩
theorem eX12_becomes_47 : Dc mX12_becomes 47 (.putfield 76) 3 50 := ⟨by decide +kernel, rfl⟩
theorem eX12_becomes_50 : Dc mX12_becomes 50 (.aload_n 0) 1 51 := ⟨by decide +kernel, rfl⟩
theorem eX12_becomes_51 : Dc mX12_becomes 51 (.iconst 0) 1 52 := ⟨by decide +kernel, rfl⟩
theorem eX12_becomes_52 : Dc mX12_becomes 52 (.putfield 79) 3 55 := ⟨by decide +kernel, rfl⟩
theorem eX12_becomes_55 : Dc mX12_becomes 55 (.aload_n 0) 1 56 := ⟨by decide +kernel, rfl⟩
theorem eX12_becomes_56 : Dc mX12_becomes 56 (.iconst 0) 1 57 := ⟨by decide +kernel, rfl⟩
theorem eX12_becomes_57 : Dc mX12_becomes 57 (.putfield 82) 3 60 := ⟨by decide +kernel, rfl⟩
theorem eX12_becomes_60 : Dc mX12_becomes 60 (.return_) 1 61 := ⟨by decide +kernel, rfl⟩
theorem eX12_box_0 : Dc mX12_box 0 (.aload_n 0) 1 1 := ⟨by decide +kernel, rfl⟩
theorem eX12_box_1 : Dc mX12_box 1 (.iload_n 1) 1 2 := ⟨by decide +kernel, rfl⟩
theorem eX12_box_2 : Dc mX12_box 2 (.invokevirtual 126) 3 5 := ⟨by decide +kernel, rfl⟩
theorem eX12_box_5 : Dj mX12_box 5 (.ifCond .eq) 8 39 := ⟨34, by decide +kernel, rfl, by decide⟩
theorem eX12_box_8 : Dc mX12_box 8 (.iload_n 2) 1 9 := ⟨by decide +kernel, rfl⟩
theorem eX12_box_9 : Dc mX12_box 9 (.iconst 0) 1 10 := ⟨by decide +kernel, rfl⟩
theorem eX12_box_10 : Dc mX12_box 10 (.iconst 1) 1 11 := ⟨by decide +kernel, rfl⟩
theorem eX12_box_11 : Dc mX12_box 11 (.invokestatic 85) 3 14 := ⟨by decide +kernel, rfl⟩
theorem eX12_box_14 : Dj mX12_box 14 (.ifCond .eq) 17 39 := ⟨25, by decide +kernel, rfl, by decide⟩
theorem eX12_box_17 : Dc mX12_box 17 (.aload_n 0) 1 18 := ⟨by decide +kernel, rfl⟩
theorem eX12_box_18 : Dc mX12_box 18 (.getfield 7) 3 21 := ⟨by decide +kernel, rfl⟩
theorem eX12_box_21 : Dc mX12_box 21 (.iload_n 2) 1 22 := ⟨by decide +kernel, rfl⟩
theorem eX12_box_22 : Dj mX12_box 22 (.ifCond .ne) 25 30 := ⟨8, by decide +kernel, rfl, by decide⟩
theorem eX12_box_25 : Dc mX12_box 25 (.bipush 23) 2 27 := ⟨by decide +kernel, rfl⟩
theorem eX12_box_27 : Dj mX12_box 27 (.goto) 30 32 := ⟨5, by decide +kernel, rfl, by decide⟩
theorem eX12_box_30 : Dc mX12_box 30 (.bipush 26) 2 32 := ⟨by decide +kernel, rfl⟩
theorem eX12_box_32 : Dc mX12_box 32 (.iload_n 1) 1 33 := ⟨by decide +kernel, rfl⟩
theorem eX12_box_33 : Dc mX12_box 33 (.iadd) 1 34 := ⟨by decide +kernel, rfl⟩
theorem eX12_box_34 : Dc mX12_box 34 (.iaload) 1 35 := ⟨by decide +kernel, rfl⟩
theorem eX12_box_35 : Dc mX12_box 35 (.i2l) 1 36 := ⟨by decide +kernel, rfl⟩
theorem eX12_box_36 : Dj mX12_box 36 (.goto) 39 42 := ⟨6, by decide +kernel, rfl, by decide⟩
theorem eX12_box_39 : Dc mX12_box 39 (.ldc2_w 132) 3 42 := ⟨by decide +kernel, rfl⟩
theorem eX12_box_42 : Dc mX12_box 42 (.lreturn) 1 43 := ⟨by decide +kernel, rfl⟩
theorem eX12_boxTold_0 : Dc mX12_boxTold 0 (.aload_n 0) 1 1 := ⟨by decide +kernel, rfl⟩
theorem eX12_boxTold_1 : Dc mX12_boxTold 1 (.getfield 13) 3 4 := ⟨by decide +kernel, rfl⟩
theorem eX12_boxTold_4 : Dc mX12_boxTold 4 (.iconst 1) 1 5 := ⟨by decide +kernel, rfl⟩
theorem eX12_boxTold_5 : Dc mX12_boxTold 5 (.iaload) 1 6 := ⟨by decide +kernel, rfl⟩
theorem eX12_boxTold_6 : Dc mX12_boxTold 6 (.istore_n 1) 1 7 := ⟨by decide +kernel, rfl⟩
theorem eX12_boxTold_7 : Dc mX12_boxTold 7 (.iload_n 1) 1 8 := ⟨by decide +kernel, rfl⟩
theorem eX12_boxTold_8 : Dc mX12_boxTold 8 (.iconst 3) 1 9 := ⟨by decide +kernel, rfl⟩
theorem eX12_boxTold_9 : Dj mX12_boxTold 9 (.if_icmp .ne) 12 14 := ⟨5, by decide +kernel, rfl, by decide⟩
theorem eX12_boxTold_12 : Dc mX12_boxTold 12 (.iconst 0) 1 13 := ⟨by decide +kernel, rfl⟩
theorem eX12_boxTold_13 : Dc mX12_boxTold 13 (.ireturn) 1 14 := ⟨by decide +kernel, rfl⟩
theorem eX12_boxTold_14 : Dc mX12_boxTold 14 (.aload_n 0) 1 15 := ⟨by decide +kernel, rfl⟩
theorem eX12_boxTold_15 : Dc mX12_boxTold 15 (.dup) 1 16 := ⟨by decide +kernel, rfl⟩
theorem eX12_boxTold_16 : Dc mX12_boxTold 16 (.getfield 99) 3 19 := ⟨by decide +kernel, rfl⟩
theorem eX12_boxTold_19 : Dc mX12_boxTold 19 (.iconst 1) 1 20 := ⟨by decide +kernel, rfl⟩
theorem eX12_boxTold_20 : Dc mX12_boxTold 20 (.iadd) 1 21 := ⟨by decide +kernel, rfl⟩
theorem eX12_boxTold_21 : Dc mX12_boxTold 21 (.putfield 99) 3 24 := ⟨by decide +kernel, rfl⟩
theorem eX12_boxTold_24 : Dc mX12_boxTold 24 (.aload_n 0) 1 25 := ⟨by decide +kernel, rfl⟩
theorem eX12_boxTold_25 : Dc mX12_boxTold 25 (.bipush (-5)) 2 27 := ⟨by decide +kernel, rfl⟩
theorem eX12_boxTold_27 : Dc mX12_boxTold 27 (.iconst 5) 1 28 := ⟨by decide +kernel, rfl⟩
theorem eX12_boxTold_28 : Dc mX12_boxTold 28 (.invokevirtual 109) 3 31 := ⟨by decide +kernel, rfl⟩
theorem eX12_boxTold_31 : Dj mX12_boxTold 31 (.ifCond .ne) 34 36 := ⟨5, by decide +kernel, rfl, by decide⟩
theorem eX12_boxTold_34 : Dc mX12_boxTold 34 (.iconst 0) 1 35 := ⟨by decide +kernel, rfl⟩
theorem eX12_boxTold_35 : Dc mX12_boxTold 35 (.ireturn) 1 36 := ⟨by decide +kernel, rfl⟩
theorem eX12_boxTold_36 : Dc mX12_boxTold 36 (.aload_n 0) 1 37 := ⟨by decide +kernel, rfl⟩
theorem eX12_boxTold_37 : Dc mX12_boxTold 37 (.getfield 13) 3 40 := ⟨by decide +kernel, rfl⟩
theorem eX12_boxTold_40 : Dc mX12_boxTold 40 (.bipush 23) 2 42 := ⟨by decide +kernel, rfl⟩
theorem eX12_boxTold_42 : Dc mX12_boxTold 42 (.iload_n 1) 1 43 := ⟨by decide +kernel, rfl⟩
theorem eX12_boxTold_43 : Dc mX12_boxTold 43 (.iadd) 1 44 := ⟨by decide +kernel, rfl⟩
theorem eX12_boxTold_44 : Dc mX12_boxTold 44 (.aload_n 0) 1 45 := ⟨by decide +kernel, rfl⟩
theorem eX12_boxTold_45 : Dc mX12_boxTold 45 (.getfield 106) 3 48 := ⟨by decide +kernel, rfl⟩
theorem eX12_boxTold_48 : Dc mX12_boxTold 48 (.iastore) 1 49 := ⟨by decide +kernel, rfl⟩
theorem eX12_boxTold_49 : Dc mX12_boxTold 49 (.aload_n 0) 1 50 := ⟨by decide +kernel, rfl⟩
theorem eX12_boxTold_50 : Dc mX12_boxTold 50 (.aload_n 0) 1 51 := ⟨by decide +kernel, rfl⟩
theorem eX12_boxTold_51 : Dc mX12_boxTold 51 (.getfield 106) 3 54 := ⟨by decide +kernel, rfl⟩
theorem eX12_boxTold_54 : Dc mX12_boxTold 54 (.iconst 1) 1 55 := ⟨by decide +kernel, rfl⟩
theorem eX12_boxTold_55 : Dc mX12_boxTold 55 (.iadd) 1 56 := ⟨by decide +kernel, rfl⟩
theorem eX12_boxTold_56 : Dc mX12_boxTold 56 (.iconst 5) 1 57 := ⟨by decide +kernel, rfl⟩
theorem eX12_boxTold_57 : Dc mX12_boxTold 57 (.invokevirtual 109) 3 60 := ⟨by decide +kernel, rfl⟩
theorem eX12_boxTold_60 : Dj mX12_boxTold 60 (.ifCond .ne) 63 65 := ⟨5, by decide +kernel, rfl, by decide⟩
theorem eX12_boxTold_63 : Dc mX12_boxTold 63 (.iconst 0) 1 64 := ⟨by decide +kernel, rfl⟩
theorem eX12_boxTold_64 : Dc mX12_boxTold 64 (.ireturn) 1 65 := ⟨by decide +kernel, rfl⟩
theorem eX12_boxTold_65 : Dc mX12_boxTold 65 (.aload_n 0) 1 66 := ⟨by decide +kernel, rfl⟩
theorem eX12_boxTold_66 : Dc mX12_boxTold 66 (.getfield 13) 3 69 := ⟨by decide +kernel, rfl⟩
theorem eX12_boxTold_69 : Dc mX12_boxTold 69 (.bipush 26) 2 71 := ⟨by decide +kernel, rfl⟩
theorem eX12_boxTold_71 : Dc mX12_boxTold 71 (.iload_n 1) 1 72 := ⟨by decide +kernel, rfl⟩
theorem eX12_boxTold_72 : Dc mX12_boxTold 72 (.iadd) 1 73 := ⟨by decide +kernel, rfl⟩
theorem eX12_boxTold_73 : Dc mX12_boxTold 73 (.aload_n 0) 1 74 := ⟨by decide +kernel, rfl⟩
theorem eX12_boxTold_74 : Dc mX12_boxTold 74 (.getfield 106) 3 77 := ⟨by decide +kernel, rfl⟩
theorem eX12_boxTold_77 : Dc mX12_boxTold 77 (.iastore) 1 78 := ⟨by decide +kernel, rfl⟩
theorem eX12_boxTold_78 : Dc mX12_boxTold 78 (.aload_n 0) 1 79 := ⟨by decide +kernel, rfl⟩
theorem eX12_boxTold_79 : Dc mX12_boxTold 79 (.getfield 13) 3 82 := ⟨by decide +kernel, rfl⟩
theorem eX12_boxTold_82 : Dc mX12_boxTold 82 (.iconst 1) 1 83 := ⟨by decide +kernel, rfl⟩
theorem eX12_boxTold_83 : Dc mX12_boxTold 83 (.dup2) 1 84 := ⟨by decide +kernel, rfl⟩
theorem eX12_boxTold_84 : Dc mX12_boxTold 84 (.iaload) 1 85 := ⟨by decide +kernel, rfl⟩
theorem eX12_boxTold_85 : Dc mX12_boxTold 85 (.iconst 1) 1 86 := ⟨by decide +kernel, rfl⟩
theorem eX12_boxTold_86 : Dc mX12_boxTold 86 (.iadd) 1 87 := ⟨by decide +kernel, rfl⟩
theorem eX12_boxTold_87 : Dc mX12_boxTold 87 (.iastore) 1 88 := ⟨by decide +kernel, rfl⟩
theorem eX12_boxTold_88 : Dc mX12_boxTold 88 (.iconst 1) 1 89 := ⟨by decide +kernel, rfl⟩
theorem eX12_boxTold_89 : Dc mX12_boxTold 89 (.ireturn) 1 90 := ⟨by decide +kernel, rfl⟩
theorem eX12_bracket_0 : Dc mX12_bracket 0 (.iload_n 1) 1 1 := ⟨by decide +kernel, rfl⟩
theorem eX12_bracket_1 : Dj mX12_bracket 1 (.ifCond .lt) 4 13 := ⟨12, by decide +kernel, rfl, by decide⟩
theorem eX12_bracket_4 : Dc mX12_bracket 4 (.iload_n 2) 1 5 := ⟨by decide +kernel, rfl⟩
theorem eX12_bracket_5 : Dc mX12_bracket 5 (.iconst 0) 1 6 := ⟨by decide +kernel, rfl⟩
theorem eX12_bracket_6 : Dc mX12_bracket 6 (.iconst 1) 1 7 := ⟨by decide +kernel, rfl⟩
theorem eX12_bracket_7 : Dc mX12_bracket 7 (.invokestatic 85) 3 10 := ⟨by decide +kernel, rfl⟩
theorem eX12_bracket_10 : Dj mX12_bracket 10 (.ifCond .ne) 13 15 := ⟨5, by decide +kernel, rfl, by decide⟩
theorem eX12_bracket_13 : Dc mX12_bracket 13 (.iconst (-1)) 1 14 := ⟨by decide +kernel, rfl⟩
theorem eX12_bracket_14 : Dc mX12_bracket 14 (.ireturn) 1 15 := ⟨by decide +kernel, rfl⟩
theorem eX12_bracket_15 : Dc mX12_bracket 15 (.aload_n 0) 1 16 := ⟨by decide +kernel, rfl⟩
theorem eX12_bracket_16 : Dc mX12_bracket 16 (.invokevirtual 175) 3 19 := ⟨by decide +kernel, rfl⟩
theorem eX12_bracket_19 : Dj mX12_bracket 19 (.ifCond .ne) 22 25 := ⟨6, by decide +kernel, rfl, by decide⟩
theorem eX12_bracket_22 : Dc mX12_bracket 22 (.bipush (-2)) 2 24 := ⟨by decide +kernel, rfl⟩
theorem eX12_bracket_24 : Dc mX12_bracket 24 (.ireturn) 1 25 := ⟨by decide +kernel, rfl⟩
theorem eX12_bracket_25 : Dc mX12_bracket 25 (.aload_n 0) 1 26 := ⟨by decide +kernel, rfl⟩
theorem eX12_bracket_26 : Dc mX12_bracket 26 (.invokevirtual 206) 3 29 := ⟨by decide +kernel, rfl⟩
theorem eX12_bracket_29 : Dc mX12_bracket 29 (.iload_n 1) 1 30 := ⟨by decide +kernel, rfl⟩
theorem eX12_bracket_30 : Dc mX12_bracket 30 (.aload_n 0) 1 31 := ⟨by decide +kernel, rfl⟩
theorem eX12_bracket_31 : Dc mX12_bracket 31 (.getfield 196) 3 34 := ⟨by decide +kernel, rfl⟩
theorem eX12_bracket_34 : Dj mX12_bracket 34 (.if_icmp .lt) 37 42 := ⟨8, by decide +kernel, rfl, by decide⟩
theorem eX12_bracket_37 : Dc mX12_bracket 37 (.bipush (-9)) 2 39 := ⟨by decide +kernel, rfl⟩
theorem eX12_bracket_39 : Dj mX12_bracket 39 (.goto) 42 61 := ⟨22, by decide +kernel, rfl, by decide⟩
theorem eX12_bracket_42 : Dc mX12_bracket 42 (.iload_n 2) 1 43 := ⟨by decide +kernel, rfl⟩
theorem eX12_bracket_43 : Dj mX12_bracket 43 (.ifCond .ne) 46 55 := ⟨12, by decide +kernel, rfl, by decide⟩
theorem eX12_bracket_46 : Dc mX12_bracket 46 (.aload_n 0) 1 47 := ⟨by decide +kernel, rfl⟩
theorem eX12_bracket_47 : Dc mX12_bracket 47 (.getfield 54) 3 50 := ⟨by decide +kernel, rfl⟩
theorem eX12_bracket_50 : Dc mX12_bracket 50 (.iload_n 1) 1 51 := ⟨by decide +kernel, rfl⟩
theorem eX12_bracket_51 : Dc mX12_bracket 51 (.iaload) 1 52 := ⟨by decide +kernel, rfl⟩
theorem eX12_bracket_52 : Dj mX12_bracket 52 (.goto) 55 61 := ⟨9, by decide +kernel, rfl, by decide⟩
theorem eX12_bracket_55 : Dc mX12_bracket 55 (.aload_n 0) 1 56 := ⟨by decide +kernel, rfl⟩
theorem eX12_bracket_56 : Dc mX12_bracket 56 (.getfield 57) 3 59 := ⟨by decide +kernel, rfl⟩
theorem eX12_bracket_59 : Dc mX12_bracket 59 (.iload_n 1) 1 60 := ⟨by decide +kernel, rfl⟩
theorem eX12_bracket_60 : Dc mX12_bracket 60 (.iaload) 1 61 := ⟨by decide +kernel, rfl⟩
theorem eX12_bracket_61 : Dc mX12_bracket 61 (.ireturn) 1 62 := ⟨by decide +kernel, rfl⟩
theorem eX12_brackets_0 : Dc mX12_brackets 0 (.aload_n 0) 1 1 := ⟨by decide +kernel, rfl⟩
theorem eX12_brackets_1 : Dc mX12_brackets 1 (.invokevirtual 175) 3 4 := ⟨by decide +kernel, rfl⟩
theorem eX12_brackets_4 : Dj mX12_brackets 4 (.ifCond .ne) 7 10 := ⟨6, by decide +kernel, rfl, by decide⟩
theorem eX12_brackets_7 : Dc mX12_brackets 7 (.bipush (-2)) 2 9 := ⟨by decide +kernel, rfl⟩
theorem eX12_brackets_9 : Dc mX12_brackets 9 (.ireturn) 1 10 := ⟨by decide +kernel, rfl⟩
theorem eX12_brackets_10 : Dc mX12_brackets 10 (.aload_n 0) 1 11 := ⟨by decide +kernel, rfl⟩
theorem eX12_brackets_11 : Dc mX12_brackets 11 (.invokevirtual 206) 3 14 := ⟨by decide +kernel, rfl⟩
theorem eX12_brackets_14 : Dc mX12_brackets 14 (.aload_n 0) 1 15 := ⟨by decide +kernel, rfl⟩
theorem eX12_brackets_15 : Dc mX12_brackets 15 (.getfield 196) 3 18 := ⟨by decide +kernel, rfl⟩
theorem eX12_brackets_18 : Dc mX12_brackets 18 (.ireturn) 1 19 := ⟨by decide +kernel, rfl⟩
theorem eX12_brings_0 : Dc mX12_brings 0 (.aload_n 0) 1 1 := ⟨by decide +kernel, rfl⟩
theorem eX12_brings_1 : Dc mX12_brings 1 (.iconst 0) 1 2 := ⟨by decide +kernel, rfl⟩
theorem eX12_brings_2 : Dc mX12_brings 2 (.putfield 196) 3 5 := ⟨by decide +kernel, rfl⟩
theorem eX12_brings_5 : Dc mX12_brings 5 (.aload_n 0) 1 6 := ⟨by decide +kernel, rfl⟩
theorem eX12_brings_6 : Dc mX12_brings 6 (.iconst 0) 1 7 := ⟨by decide +kernel, rfl⟩
theorem eX12_brings_7 : Dc mX12_brings 7 (.putfield 193) 3 10 := ⟨by decide +kernel, rfl⟩
theorem eX12_brings_10 : Dc mX12_brings 10 (.aload_n 0) 1 11 := ⟨by decide +kernel, rfl⟩
theorem eX12_brings_11 : Dc mX12_brings 11 (.iconst 1) 1 12 := ⟨by decide +kernel, rfl⟩
theorem eX12_brings_12 : Dc mX12_brings 12 (.invokevirtual 199) 3 15 := ⟨by decide +kernel, rfl⟩
theorem eX12_brings_15 : Dc mX12_brings 15 (.aload_n 0) 1 16 := ⟨by decide +kernel, rfl⟩
theorem eX12_brings_16 : Dc mX12_brings 16 (.getfield 193) 3 19 := ⟨by decide +kernel, rfl⟩
theorem eX12_brings_19 : Dj mX12_brings 19 (.ifCond .le) 22 154 := ⟨135, by decide +kernel, rfl, by decide⟩
theorem eX12_brings_22 : Dc mX12_brings 22 (.aload_n 0) 1 23 := ⟨by decide +kernel, rfl⟩
theorem eX12_brings_23 : Dc mX12_brings 23 (.dup) 1 24 := ⟨by decide +kernel, rfl⟩
theorem eX12_brings_24 : Dc mX12_brings 24 (.getfield 193) 3 27 := ⟨by decide +kernel, rfl⟩
theorem eX12_brings_27 : Dc mX12_brings 27 (.iconst 1) 1 28 := ⟨by decide +kernel, rfl⟩
theorem eX12_brings_28 : Dc mX12_brings 28 (.isub) 1 29 := ⟨by decide +kernel, rfl⟩
theorem eX12_brings_29 : Dc mX12_brings 29 (.putfield 193) 3 32 := ⟨by decide +kernel, rfl⟩
theorem eX12_brings_32 : Dc mX12_brings 32 (.aload_n 0) 1 33 := ⟨by decide +kernel, rfl⟩
theorem eX12_brings_33 : Dc mX12_brings 33 (.getfield 51) 3 36 := ⟨by decide +kernel, rfl⟩
theorem eX12_brings_36 : Dc mX12_brings 36 (.aload_n 0) 1 37 := ⟨by decide +kernel, rfl⟩
theorem eX12_brings_37 : Dc mX12_brings 37 (.getfield 193) 3 40 := ⟨by decide +kernel, rfl⟩
theorem eX12_brings_40 : Dc mX12_brings 40 (.iaload) 1 41 := ⟨by decide +kernel, rfl⟩
theorem eX12_brings_41 : Dc mX12_brings 41 (.istore_n 1) 1 42 := ⟨by decide +kernel, rfl⟩
theorem eX12_brings_42 : Dc mX12_brings 42 (.iload_n 1) 1 43 := ⟨by decide +kernel, rfl⟩
theorem eX12_brings_43 : Dj mX12_brings 43 (.ifCond .ge) 46 50 := ⟨7, by decide +kernel, rfl, by decide⟩
theorem eX12_brings_46 : Dc mX12_brings 46 (.iconst 0) 1 47 := ⟨by decide +kernel, rfl⟩
theorem eX12_brings_47 : Dj mX12_brings 47 (.goto) 50 56 := ⟨9, by decide +kernel, rfl, by decide⟩
theorem eX12_brings_50 : Dc mX12_brings 50 (.aload_n 0) 1 51 := ⟨by decide +kernel, rfl⟩
theorem eX12_brings_51 : Dc mX12_brings 51 (.iload_n 1) 1 52 := ⟨by decide +kernel, rfl⟩
theorem eX12_brings_52 : Dc mX12_brings 52 (.iconst 0) 1 53 := ⟨by decide +kernel, rfl⟩
theorem eX12_brings_53 : Dc mX12_brings 53 (.invokevirtual 186) 3 56 := ⟨by decide +kernel, rfl⟩
theorem eX12_brings_56 : Dc mX12_brings 56 (.istore_n 2) 1 57 := ⟨by decide +kernel, rfl⟩
theorem eX12_brings_57 : Dc mX12_brings 57 (.iload_n 1) 1 58 := ⟨by decide +kernel, rfl⟩
theorem eX12_brings_58 : Dj mX12_brings 58 (.ifCond .ge) 61 96 := ⟨38, by decide +kernel, rfl, by decide⟩
theorem eX12_brings_61 : Dc mX12_brings 61 (.aload_n 0) 1 62 := ⟨by decide +kernel, rfl⟩
theorem eX12_brings_62 : Dc mX12_brings 62 (.aload_n 0) 1 63 := ⟨by decide +kernel, rfl⟩
theorem eX12_brings_63 : Dc mX12_brings 63 (.getfield 79) 3 66 := ⟨by decide +kernel, rfl⟩
theorem eX12_brings_66 : Dc mX12_brings 66 (.iconst 1) 1 67 := ⟨by decide +kernel, rfl⟩
theorem eX12_brings_67 : Dc mX12_brings 67 (.iconst 2) 1 68 := ⟨by decide +kernel, rfl⟩
theorem eX12_brings_68 : Dc mX12_brings 68 (.iload_n 1) 1 69 := ⟨by decide +kernel, rfl⟩
theorem eX12_brings_69 : Dc mX12_brings 69 (.imul) 1 70 := ⟨by decide +kernel, rfl⟩
theorem eX12_brings_70 : Dc mX12_brings 70 (.isub) 1 71 := ⟨by decide +kernel, rfl⟩
theorem eX12_brings_71 : Dc mX12_brings 71 (.iconst 0) 1 72 := ⟨by decide +kernel, rfl⟩
theorem eX12_brings_72 : Dc mX12_brings 72 (.invokevirtual 178) 3 75 := ⟨by decide +kernel, rfl⟩
theorem eX12_brings_75 : Dc mX12_brings 75 (.aload_n 0) 1 76 := ⟨by decide +kernel, rfl⟩
theorem eX12_brings_76 : Dc mX12_brings 76 (.getfield 44) 3 79 := ⟨by decide +kernel, rfl⟩
theorem eX12_brings_79 : Dc mX12_brings 79 (.iconst 0) 1 80 := ⟨by decide +kernel, rfl⟩
theorem eX12_brings_80 : Dc mX12_brings 80 (.laload) 1 81 := ⟨by decide +kernel, rfl⟩
theorem eX12_brings_81 : Dc mX12_brings 81 (.lconst 0) 1 82 := ⟨by decide +kernel, rfl⟩
theorem eX12_brings_82 : Dc mX12_brings 82 (.lcmp) 1 83 := ⟨by decide +kernel, rfl⟩
theorem eX12_brings_83 : Dj mX12_brings 83 (.ifCond .ne) 86 151 := ⟨68, by decide +kernel, rfl, by decide⟩
theorem eX12_brings_86 : Dc mX12_brings 86 (.aload_n 0) 1 87 := ⟨by decide +kernel, rfl⟩
theorem eX12_brings_87 : Dc mX12_brings 87 (.iload_n 1) 1 88 := ⟨by decide +kernel, rfl⟩
theorem eX12_brings_88 : Dc mX12_brings 88 (.ineg) 1 89 := ⟨by decide +kernel, rfl⟩
theorem eX12_brings_89 : Dc mX12_brings 89 (.iconst 1) 1 90 := ⟨by decide +kernel, rfl⟩
theorem eX12_brings_90 : Dc mX12_brings 90 (.invokevirtual 203) 3 93 := ⟨by decide +kernel, rfl⟩
theorem eX12_brings_93 : Dj mX12_brings 93 (.goto) 96 151 := ⟨58, by decide +kernel, rfl, by decide⟩
theorem eX12_brings_96 : Dc mX12_brings 96 (.iload_n 2) 1 97 := ⟨by decide +kernel, rfl⟩
theorem eX12_brings_97 : Dc mX12_brings 97 (.iconst 1) 1 98 := ⟨by decide +kernel, rfl⟩
theorem eX12_brings_98 : Dj mX12_brings 98 (.if_icmp .le) 101 132 := ⟨34, by decide +kernel, rfl, by decide⟩
theorem eX12_brings_101 : Dc mX12_brings 101 (.iload_n 1) 1 102 := ⟨by decide +kernel, rfl⟩
theorem eX12_brings_102 : Dc mX12_brings 102 (.bipush 64) 2 104 := ⟨by decide +kernel, rfl⟩
theorem eX12_brings_104 : Dj mX12_brings 104 (.if_icmp .ge) 107 132 := ⟨28, by decide +kernel, rfl, by decide⟩
theorem eX12_brings_107 : Dc mX12_brings 107 (.aload_n 0) 1 108 := ⟨by decide +kernel, rfl⟩
theorem eX12_brings_108 : Dc mX12_brings 108 (.iconst 2) 1 109 := ⟨by decide +kernel, rfl⟩
theorem eX12_brings_109 : Dc mX12_brings 109 (.iload_n 1) 1 110 := ⟨by decide +kernel, rfl⟩
theorem eX12_brings_110 : Dc mX12_brings 110 (.imul) 1 111 := ⟨by decide +kernel, rfl⟩
theorem eX12_brings_111 : Dc mX12_brings 111 (.iconst 1) 1 112 := ⟨by decide +kernel, rfl⟩
theorem eX12_brings_112 : Dc mX12_brings 112 (.iadd) 1 113 := ⟨by decide +kernel, rfl⟩
theorem eX12_brings_113 : Dc mX12_brings 113 (.invokevirtual 199) 3 116 := ⟨by decide +kernel, rfl⟩
theorem eX12_brings_116 : Dc mX12_brings 116 (.aload_n 0) 1 117 := ⟨by decide +kernel, rfl⟩
theorem eX12_brings_117 : Dc mX12_brings 117 (.iload_n 1) 1 118 := ⟨by decide +kernel, rfl⟩
theorem eX12_brings_118 : Dc mX12_brings 118 (.ineg) 1 119 := ⟨by decide +kernel, rfl⟩
theorem eX12_brings_119 : Dc mX12_brings 119 (.invokevirtual 199) 3 122 := ⟨by decide +kernel, rfl⟩
theorem eX12_brings_122 : Dc mX12_brings 122 (.aload_n 0) 1 123 := ⟨by decide +kernel, rfl⟩
theorem eX12_brings_123 : Dc mX12_brings 123 (.iconst 2) 1 124 := ⟨by decide +kernel, rfl⟩
theorem eX12_brings_124 : Dc mX12_brings 124 (.iload_n 1) 1 125 := ⟨by decide +kernel, rfl⟩
theorem eX12_brings_125 : Dc mX12_brings 125 (.imul) 1 126 := ⟨by decide +kernel, rfl⟩
theorem eX12_brings_126 : Dc mX12_brings 126 (.invokevirtual 199) 3 129 := ⟨by decide +kernel, rfl⟩
theorem eX12_brings_129 : Dj mX12_brings 129 (.goto) 132 151 := ⟨22, by decide +kernel, rfl, by decide⟩
theorem eX12_brings_132 : Dc mX12_brings 132 (.iload_n 2) 1 133 := ⟨by decide +kernel, rfl⟩
theorem eX12_brings_133 : Dj mX12_brings 133 (.ifCond .le) 136 151 := ⟨18, by decide +kernel, rfl, by decide⟩
theorem eX12_brings_136 : Dc mX12_brings 136 (.aload_n 0) 1 137 := ⟨by decide +kernel, rfl⟩
theorem eX12_brings_137 : Dc mX12_brings 137 (.iload_n 1) 1 138 := ⟨by decide +kernel, rfl⟩
theorem eX12_brings_138 : Dc mX12_brings 138 (.iload_n 2) 1 139 := ⟨by decide +kernel, rfl⟩
theorem eX12_brings_139 : Dc mX12_brings 139 (.iconst 1) 1 140 := ⟨by decide +kernel, rfl⟩
theorem eX12_brings_140 : Dj mX12_brings 140 (.if_icmp .ne) 143 147 := ⟨7, by decide +kernel, rfl, by decide⟩
theorem eX12_brings_143 : Dc mX12_brings 143 (.iconst 0) 1 144 := ⟨by decide +kernel, rfl⟩
theorem eX12_brings_144 : Dj mX12_brings 144 (.goto) 147 148 := ⟨4, by decide +kernel, rfl, by decide⟩
theorem eX12_brings_147 : Dc mX12_brings 147 (.iconst 2) 1 148 := ⟨by decide +kernel, rfl⟩
theorem eX12_brings_148 : Dc mX12_brings 148 (.invokevirtual 203) 3 151 := ⟨by decide +kernel, rfl⟩
theorem eX12_brings_151 : Dj mX12_brings 151 (.goto) 154 15 := ⟨-136, by decide +kernel, rfl, by decide⟩
theorem eX12_brings_154 : Dc mX12_brings 154 (.return_) 1 155 := ⟨by decide +kernel, rfl⟩
theorem eX12_choose_0 : Dc mX12_choose 0 (.lconst 1) 1 1 := ⟨by decide +kernel, rfl⟩
theorem eX12_choose_1 : Dc mX12_choose 1 (.lstore_n 2) 1 2 := ⟨by decide +kernel, rfl⟩
theorem eX12_choose_2 : Dc mX12_choose 2 (.iconst 0) 1 3 := ⟨by decide +kernel, rfl⟩
theorem eX12_choose_3 : Dc mX12_choose 3 (.istore 4) 2 5 := ⟨by decide +kernel, rfl⟩
theorem eX12_choose_5 : Dc mX12_choose 5 (.iload 4) 2 7 := ⟨by decide +kernel, rfl⟩
theorem eX12_choose_7 : Dc mX12_choose 7 (.iload_n 1) 1 8 := ⟨by decide +kernel, rfl⟩
theorem eX12_choose_8 : Dj mX12_choose 8 (.if_icmp .ge) 11 31 := ⟨23, by decide +kernel, rfl, by decide⟩
theorem eX12_choose_11 : Dc mX12_choose 11 (.lload_n 2) 1 12 := ⟨by decide +kernel, rfl⟩
theorem eX12_choose_12 : Dc mX12_choose 12 (.iload_n 0) 1 13 := ⟨by decide +kernel, rfl⟩
theorem eX12_choose_13 : Dc mX12_choose 13 (.iload 4) 2 15 := ⟨by decide +kernel, rfl⟩
theorem eX12_choose_15 : Dc mX12_choose 15 (.isub) 1 16 := ⟨by decide +kernel, rfl⟩
theorem eX12_choose_16 : Dc mX12_choose 16 (.i2l) 1 17 := ⟨by decide +kernel, rfl⟩
theorem eX12_choose_17 : Dc mX12_choose 17 (.lmul) 1 18 := ⟨by decide +kernel, rfl⟩
theorem eX12_choose_18 : Dc mX12_choose 18 (.iload 4) 2 20 := ⟨by decide +kernel, rfl⟩
theorem eX12_choose_20 : Dc mX12_choose 20 (.iconst 1) 1 21 := ⟨by decide +kernel, rfl⟩
theorem eX12_choose_21 : Dc mX12_choose 21 (.iadd) 1 22 := ⟨by decide +kernel, rfl⟩
theorem eX12_choose_22 : Dc mX12_choose 22 (.i2l) 1 23 := ⟨by decide +kernel, rfl⟩
theorem eX12_choose_23 : Dc mX12_choose 23 (.ldiv) 1 24 := ⟨by decide +kernel, rfl⟩
theorem eX12_choose_24 : Dc mX12_choose 24 (.lstore_n 2) 1 25 := ⟨by decide +kernel, rfl⟩
theorem eX12_choose_25 : Dc mX12_choose 25 (.iinc 4 1) 3 28 := ⟨by decide +kernel, rfl⟩
theorem eX12_choose_28 : Dj mX12_choose 28 (.goto) 31 5 := ⟨-23, by decide +kernel, rfl, by decide⟩
theorem eX12_choose_31 : Dc mX12_choose 31 (.iload_n 1) 1 32 := ⟨by decide +kernel, rfl⟩
theorem eX12_choose_32 : Dc mX12_choose 32 (.iload_n 0) 1 33 := ⟨by decide +kernel, rfl⟩
theorem eX12_choose_33 : Dj mX12_choose 33 (.if_icmp .le) 36 40 := ⟨7, by decide +kernel, rfl, by decide⟩
theorem eX12_choose_36 : Dc mX12_choose 36 (.lconst 0) 1 37 := ⟨by decide +kernel, rfl⟩
theorem eX12_choose_37 : Dj mX12_choose 37 (.goto) 40 41 := ⟨4, by decide +kernel, rfl, by decide⟩
theorem eX12_choose_40 : Dc mX12_choose 40 (.lload_n 2) 1 41 := ⟨by decide +kernel, rfl⟩
theorem eX12_choose_41 : Dc mX12_choose 41 (.lreturn) 1 42 := ⟨by decide +kernel, rfl⟩
theorem eX12_clear_0 : Dc mX12_clear 0 (.aload_n 0) 1 1 := ⟨by decide +kernel, rfl⟩
theorem eX12_clear_1 : Dc mX12_clear 1 (.getfield 89) 3 4 := ⟨by decide +kernel, rfl⟩
theorem eX12_clear_4 : Dc mX12_clear 4 (.istore_n 1) 1 5 := ⟨by decide +kernel, rfl⟩
theorem eX12_clear_5 : Dc mX12_clear 5 (.aload_n 0) 1 6 := ⟨by decide +kernel, rfl⟩
theorem eX12_clear_6 : Dc mX12_clear 6 (.iconst 0) 1 7 := ⟨by decide +kernel, rfl⟩
theorem eX12_clear_7 : Dc mX12_clear 7 (.putfield 89) 3 10 := ⟨by decide +kernel, rfl⟩
theorem eX12_clear_10 : Dc mX12_clear 10 (.iload_n 1) 1 11 := ⟨by decide +kernel, rfl⟩
theorem eX12_clear_11 : Dc mX12_clear 11 (.ireturn) 1 12 := ⟨by decide +kernel, rfl⟩
theorem eX12_coef_0 : Dc mX12_coef 0 (.aload_n 0) 1 1 := ⟨by decide +kernel, rfl⟩
theorem eX12_coef_1 : Dc mX12_coef 1 (.iload_n 1) 1 2 := ⟨by decide +kernel, rfl⟩
theorem eX12_coef_2 : Dc mX12_coef 2 (.iload_n 2) 1 3 := ⟨by decide +kernel, rfl⟩
theorem eX12_coef_3 : Dc mX12_coef 3 (.invokevirtual 129) 3 6 := ⟨by decide +kernel, rfl⟩
theorem eX12_coef_6 : Dj mX12_coef 6 (.ifCond .eq) 9 26 := ⟨20, by decide +kernel, rfl, by decide⟩
theorem eX12_coef_9 : Dc mX12_coef 9 (.aload_n 0) 1 10 := ⟨by decide +kernel, rfl⟩
theorem eX12_coef_10 : Dc mX12_coef 10 (.getfield 7) 3 13 := ⟨by decide +kernel, rfl⟩
theorem eX12_coef_13 : Dc mX12_coef 13 (.iconst 5) 1 14 := ⟨by decide +kernel, rfl⟩
theorem eX12_coef_14 : Dc mX12_coef 14 (.bipush 6) 2 16 := ⟨by decide +kernel, rfl⟩
theorem eX12_coef_16 : Dc mX12_coef 16 (.iload_n 1) 1 17 := ⟨by decide +kernel, rfl⟩
theorem eX12_coef_17 : Dc mX12_coef 17 (.imul) 1 18 := ⟨by decide +kernel, rfl⟩
theorem eX12_coef_18 : Dc mX12_coef 18 (.iadd) 1 19 := ⟨by decide +kernel, rfl⟩
theorem eX12_coef_19 : Dc mX12_coef 19 (.iload_n 2) 1 20 := ⟨by decide +kernel, rfl⟩
theorem eX12_coef_20 : Dc mX12_coef 20 (.iadd) 1 21 := ⟨by decide +kernel, rfl⟩
theorem eX12_coef_21 : Dc mX12_coef 21 (.iaload) 1 22 := ⟨by decide +kernel, rfl⟩
theorem eX12_coef_22 : Dc mX12_coef 22 (.i2l) 1 23 := ⟨by decide +kernel, rfl⟩
theorem eX12_coef_23 : Dj mX12_coef 23 (.goto) 26 29 := ⟨6, by decide +kernel, rfl, by decide⟩
theorem eX12_coef_26 : Dc mX12_coef 26 (.ldc2_w 132) 3 29 := ⟨by decide +kernel, rfl⟩
theorem eX12_coef_29 : Dc mX12_coef 29 (.lreturn) 1 30 := ⟨by decide +kernel, rfl⟩
theorem eX12_coefs_0 : Dc mX12_coefs 0 (.aload_n 0) 1 1 := ⟨by decide +kernel, rfl⟩
theorem eX12_coefs_1 : Dc mX12_coefs 1 (.iload_n 1) 1 2 := ⟨by decide +kernel, rfl⟩
theorem eX12_coefs_2 : Dc mX12_coefs 2 (.iload_n 2) 1 3 := ⟨by decide +kernel, rfl⟩
theorem eX12_coefs_3 : Dc mX12_coefs 3 (.invokevirtual 129) 3 6 := ⟨by decide +kernel, rfl⟩
theorem eX12_coefs_6 : Dj mX12_coefs 6 (.ifCond .eq) 9 20 := ⟨14, by decide +kernel, rfl, by decide⟩
theorem eX12_coefs_9 : Dc mX12_coefs 9 (.iload_n 3) 1 10 := ⟨by decide +kernel, rfl⟩
theorem eX12_coefs_10 : Dc mX12_coefs 10 (.bipush (-50)) 2 12 := ⟨by decide +kernel, rfl⟩
theorem eX12_coefs_12 : Dc mX12_coefs 12 (.bipush 50) 2 14 := ⟨by decide +kernel, rfl⟩
theorem eX12_coefs_14 : Dc mX12_coefs 14 (.invokestatic 85) 3 17 := ⟨by decide +kernel, rfl⟩
theorem eX12_coefs_17 : Dj mX12_coefs 17 (.ifCond .ne) 20 22 := ⟨5, by decide +kernel, rfl, by decide⟩
theorem eX12_coefs_20 : Dc mX12_coefs 20 (.iconst (-1)) 1 21 := ⟨by decide +kernel, rfl⟩
theorem eX12_coefs_21 : Dc mX12_coefs 21 (.ireturn) 1 22 := ⟨by decide +kernel, rfl⟩
theorem eX12_coefs_22 : Dc mX12_coefs 22 (.iconst 5) 1 23 := ⟨by decide +kernel, rfl⟩
theorem eX12_coefs_23 : Dc mX12_coefs 23 (.bipush 6) 2 25 := ⟨by decide +kernel, rfl⟩
theorem eX12_coefs_25 : Dc mX12_coefs 25 (.iload_n 1) 1 26 := ⟨by decide +kernel, rfl⟩
theorem eX12_coefs_26 : Dc mX12_coefs 26 (.imul) 1 27 := ⟨by decide +kernel, rfl⟩
theorem eX12_coefs_27 : Dc mX12_coefs 27 (.iadd) 1 28 := ⟨by decide +kernel, rfl⟩
theorem eX12_coefs_28 : Dc mX12_coefs 28 (.iload_n 2) 1 29 := ⟨by decide +kernel, rfl⟩
theorem eX12_coefs_29 : Dc mX12_coefs 29 (.iadd) 1 30 := ⟨by decide +kernel, rfl⟩
theorem eX12_coefs_30 : Dc mX12_coefs 30 (.istore 4) 2 32 := ⟨by decide +kernel, rfl⟩
theorem eX12_coefs_32 : Dc mX12_coefs 32 (.aload_n 0) 1 33 := ⟨by decide +kernel, rfl⟩
theorem eX12_coefs_33 : Dc mX12_coefs 33 (.getfield 7) 3 36 := ⟨by decide +kernel, rfl⟩
theorem eX12_coefs_36 : Dc mX12_coefs 36 (.iload 4) 2 38 := ⟨by decide +kernel, rfl⟩
theorem eX12_coefs_38 : Dc mX12_coefs 38 (.iaload) 1 39 := ⟨by decide +kernel, rfl⟩
theorem eX12_coefs_39 : Dc mX12_coefs 39 (.iload_n 3) 1 40 := ⟨by decide +kernel, rfl⟩
theorem eX12_coefs_40 : Dj mX12_coefs 40 (.if_icmp .ne) 43 46 := ⟨6, by decide +kernel, rfl, by decide⟩
theorem eX12_coefs_43 : Dc mX12_coefs 43 (.bipush (-2)) 2 45 := ⟨by decide +kernel, rfl⟩
theorem eX12_coefs_45 : Dc mX12_coefs 45 (.ireturn) 1 46 := ⟨by decide +kernel, rfl⟩
theorem eX12_coefs_46 : Dc mX12_coefs 46 (.aload_n 0) 1 47 := ⟨by decide +kernel, rfl⟩
theorem eX12_coefs_47 : Dc mX12_coefs 47 (.iload 4) 2 49 := ⟨by decide +kernel, rfl⟩
theorem eX12_coefs_49 : Dc mX12_coefs 49 (.iload 4) 2 51 := ⟨by decide +kernel, rfl⟩
theorem eX12_coefs_51 : Dc mX12_coefs 51 (.invokevirtual 134) 3 54 := ⟨by decide +kernel, rfl⟩
theorem eX12_coefs_54 : Dc mX12_coefs 54 (.aload_n 0) 1 55 := ⟨by decide +kernel, rfl⟩
theorem eX12_coefs_55 : Dc mX12_coefs 55 (.getfield 7) 3 58 := ⟨by decide +kernel, rfl⟩
theorem eX12_coefs_58 : Dc mX12_coefs 58 (.iload 4) 2 60 := ⟨by decide +kernel, rfl⟩
theorem eX12_coefs_60 : Dc mX12_coefs 60 (.iload_n 3) 1 61 := ⟨by decide +kernel, rfl⟩
theorem eX12_coefs_61 : Dc mX12_coefs 61 (.iastore) 1 62 := ⟨by decide +kernel, rfl⟩
theorem eX12_coefs_62 : Dc mX12_coefs 62 (.iconst 1) 1 63 := ⟨by decide +kernel, rfl⟩
theorem eX12_coefs_63 : Dc mX12_coefs 63 (.ireturn) 1 64 := ⟨by decide +kernel, rfl⟩
theorem eX12_common_0 : Dc mX12_common 0 (.lload_n 0) 1 1 := ⟨by decide +kernel, rfl⟩
theorem eX12_common_1 : Dc mX12_common 1 (.lconst 0) 1 2 := ⟨by decide +kernel, rfl⟩
theorem eX12_common_2 : Dc mX12_common 2 (.lcmp) 1 3 := ⟨by decide +kernel, rfl⟩
theorem eX12_common_3 : Dj mX12_common 3 (.ifCond .ge) 6 11 := ⟨8, by decide +kernel, rfl, by decide⟩
theorem eX12_common_6 : Dc mX12_common 6 (.lload_n 0) 1 7 := ⟨by decide +kernel, rfl⟩
theorem eX12_common_7 : Dc mX12_common 7 (.lneg) 1 8 := ⟨by decide +kernel, rfl⟩
theorem eX12_common_8 : Dj mX12_common 8 (.goto) 11 12 := ⟨4, by decide +kernel, rfl, by decide⟩
theorem eX12_common_11 : Dc mX12_common 11 (.lload_n 0) 1 12 := ⟨by decide +kernel, rfl⟩
theorem eX12_common_12 : Dc mX12_common 12 (.lstore 4) 2 14 := ⟨by decide +kernel, rfl⟩
theorem eX12_common_14 : Dc mX12_common 14 (.lload_n 2) 1 15 := ⟨by decide +kernel, rfl⟩
theorem eX12_common_15 : Dc mX12_common 15 (.lconst 0) 1 16 := ⟨by decide +kernel, rfl⟩
theorem eX12_common_16 : Dc mX12_common 16 (.lcmp) 1 17 := ⟨by decide +kernel, rfl⟩
theorem eX12_common_17 : Dj mX12_common 17 (.ifCond .ge) 20 25 := ⟨8, by decide +kernel, rfl, by decide⟩
theorem eX12_common_20 : Dc mX12_common 20 (.lload_n 2) 1 21 := ⟨by decide +kernel, rfl⟩
theorem eX12_common_21 : Dc mX12_common 21 (.lneg) 1 22 := ⟨by decide +kernel, rfl⟩
theorem eX12_common_22 : Dj mX12_common 22 (.goto) 25 26 := ⟨4, by decide +kernel, rfl, by decide⟩
theorem eX12_common_25 : Dc mX12_common 25 (.lload_n 2) 1 26 := ⟨by decide +kernel, rfl⟩
theorem eX12_common_26 : Dc mX12_common 26 (.lstore 6) 2 28 := ⟨by decide +kernel, rfl⟩
theorem eX12_common_28 : Dc mX12_common 28 (.lload 6) 2 30 := ⟨by decide +kernel, rfl⟩
theorem eX12_common_30 : Dc mX12_common 30 (.lconst 0) 1 31 := ⟨by decide +kernel, rfl⟩
theorem eX12_common_31 : Dc mX12_common 31 (.lcmp) 1 32 := ⟨by decide +kernel, rfl⟩
theorem eX12_common_32 : Dj mX12_common 32 (.ifCond .eq) 35 53 := ⟨21, by decide +kernel, rfl, by decide⟩
theorem eX12_common_35 : Dc mX12_common 35 (.lload 4) 2 37 := ⟨by decide +kernel, rfl⟩
theorem eX12_common_37 : Dc mX12_common 37 (.lload 6) 2 39 := ⟨by decide +kernel, rfl⟩
theorem eX12_common_39 : Dc mX12_common 39 (.lrem) 1 40 := ⟨by decide +kernel, rfl⟩
theorem eX12_common_40 : Dc mX12_common 40 (.lstore 8) 2 42 := ⟨by decide +kernel, rfl⟩
theorem eX12_common_42 : Dc mX12_common 42 (.lload 6) 2 44 := ⟨by decide +kernel, rfl⟩
theorem eX12_common_44 : Dc mX12_common 44 (.lstore 4) 2 46 := ⟨by decide +kernel, rfl⟩
theorem eX12_common_46 : Dc mX12_common 46 (.lload 8) 2 48 := ⟨by decide +kernel, rfl⟩
theorem eX12_common_48 : Dc mX12_common 48 (.lstore 6) 2 50 := ⟨by decide +kernel, rfl⟩
theorem eX12_common_50 : Dj mX12_common 50 (.goto) 53 28 := ⟨-22, by decide +kernel, rfl, by decide⟩
theorem eX12_common_53 : Dc mX12_common 53 (.lload 4) 2 55 := ⟨by decide +kernel, rfl⟩
theorem eX12_common_55 : Dc mX12_common 55 (.lreturn) 1 56 := ⟨by decide +kernel, rfl⟩
theorem eX12_control_0 : Dc mX12_control 0 (.iload_n 1) 1 1 := ⟨by decide +kernel, rfl⟩
theorem eX12_control_1 : Dc mX12_control 1 (.invokestatic 172) 3 4 := ⟨by decide +kernel, rfl⟩
theorem eX12_control_4 : Dj mX12_control 4 (.ifCond .eq) 7 54 := ⟨50, by decide +kernel, rfl, by decide⟩
theorem eX12_control_7 : Dc mX12_control 7 (.iload_n 2) 1 8 := ⟨by decide +kernel, rfl⟩
theorem eX12_control_8 : Dc mX12_control 8 (.iconst 0) 1 9 := ⟨by decide +kernel, rfl⟩
theorem eX12_control_9 : Dc mX12_control 9 (.iconst 2) 1 10 := ⟨by decide +kernel, rfl⟩
theorem eX12_control_10 : Dc mX12_control 10 (.invokestatic 85) 3 13 := ⟨by decide +kernel, rfl⟩
theorem eX12_control_13 : Dj mX12_control 13 (.ifCond .eq) 16 54 := ⟨41, by decide +kernel, rfl, by decide⟩
theorem eX12_control_16 : Dc mX12_control 16 (.iload 4) 2 18 := ⟨by decide +kernel, rfl⟩
theorem eX12_control_18 : Dc mX12_control 18 (.iconst 0) 1 19 := ⟨by decide +kernel, rfl⟩
theorem eX12_control_19 : Dc mX12_control 19 (.iconst 1) 1 20 := ⟨by decide +kernel, rfl⟩
theorem eX12_control_20 : Dc mX12_control 20 (.invokestatic 85) 3 23 := ⟨by decide +kernel, rfl⟩
theorem eX12_control_23 : Dj mX12_control 23 (.ifCond .eq) 26 54 := ⟨31, by decide +kernel, rfl, by decide⟩
theorem eX12_control_26 : Dc mX12_control 26 (.aload_n 0) 1 27 := ⟨by decide +kernel, rfl⟩
theorem eX12_control_27 : Dc mX12_control 27 (.invokevirtual 175) 3 30 := ⟨by decide +kernel, rfl⟩
theorem eX12_control_30 : Dj mX12_control 30 (.ifCond .eq) 33 54 := ⟨24, by decide +kernel, rfl, by decide⟩
theorem eX12_control_33 : Dc mX12_control 33 (.iload_n 3) 1 34 := ⟨by decide +kernel, rfl⟩
theorem eX12_control_34 : Dc mX12_control 34 (.iconst 0) 1 35 := ⟨by decide +kernel, rfl⟩
theorem eX12_control_35 : Dc mX12_control 35 (.aload_n 0) 1 36 := ⟨by decide +kernel, rfl⟩
theorem eX12_control_36 : Dc mX12_control 36 (.getfield 7) 3 39 := ⟨by decide +kernel, rfl⟩
theorem eX12_control_39 : Dc mX12_control 39 (.iconst 2) 1 40 := ⟨by decide +kernel, rfl⟩
theorem eX12_control_40 : Dc mX12_control 40 (.aload_n 0) 1 41 := ⟨by decide +kernel, rfl⟩
theorem eX12_control_41 : Dc mX12_control 41 (.getfield 79) 3 44 := ⟨by decide +kernel, rfl⟩
theorem eX12_control_44 : Dc mX12_control 44 (.iadd) 1 45 := ⟨by decide +kernel, rfl⟩
theorem eX12_control_45 : Dc mX12_control 45 (.iaload) 1 46 := ⟨by decide +kernel, rfl⟩
theorem eX12_control_46 : Dc mX12_control 46 (.iload_n 2) 1 47 := ⟨by decide +kernel, rfl⟩
theorem eX12_control_47 : Dc mX12_control 47 (.iadd) 1 48 := ⟨by decide +kernel, rfl⟩
theorem eX12_control_48 : Dc mX12_control 48 (.invokestatic 85) 3 51 := ⟨by decide +kernel, rfl⟩
theorem eX12_control_51 : Dj mX12_control 51 (.ifCond .ne) 54 58 := ⟨7, by decide +kernel, rfl, by decide⟩
theorem eX12_control_54 : Dc mX12_control 54 (.ldc2_w 132) 3 57 := ⟨by decide +kernel, rfl⟩
theorem eX12_control_57 : Dc mX12_control 57 (.lreturn) 1 58 := ⟨by decide +kernel, rfl⟩
theorem eX12_control_58 : Dc mX12_control 58 (.aload_n 0) 1 59 := ⟨by decide +kernel, rfl⟩
theorem eX12_control_59 : Dc mX12_control 59 (.aload_n 0) 1 60 := ⟨by decide +kernel, rfl⟩
theorem eX12_control_60 : Dc mX12_control 60 (.getfield 79) 3 63 := ⟨by decide +kernel, rfl⟩
theorem eX12_control_63 : Dc mX12_control 63 (.iload_n 1) 1 64 := ⟨by decide +kernel, rfl⟩
theorem eX12_control_64 : Dc mX12_control 64 (.iload_n 2) 1 65 := ⟨by decide +kernel, rfl⟩
theorem eX12_control_65 : Dc mX12_control 65 (.invokevirtual 178) 3 68 := ⟨by decide +kernel, rfl⟩
theorem eX12_control_68 : Dc mX12_control 68 (.aload_n 0) 1 69 := ⟨by decide +kernel, rfl⟩
theorem eX12_control_69 : Dc mX12_control 69 (.getfield 44) 3 72 := ⟨by decide +kernel, rfl⟩
theorem eX12_control_72 : Dc mX12_control 72 (.iload_n 3) 1 73 := ⟨by decide +kernel, rfl⟩
theorem eX12_control_73 : Dc mX12_control 73 (.laload) 1 74 := ⟨by decide +kernel, rfl⟩
theorem eX12_control_74 : Dc mX12_control 74 (.aload_n 0) 1 75 := ⟨by decide +kernel, rfl⟩
theorem eX12_control_75 : Dc mX12_control 75 (.getfield 168) 3 78 := ⟨by decide +kernel, rfl⟩
theorem eX12_control_78 : Dc mX12_control 78 (.iload 4) 2 80 := ⟨by decide +kernel, rfl⟩
theorem eX12_control_80 : Dc mX12_control 80 (.invokestatic 182) 3 83 := ⟨by decide +kernel, rfl⟩
theorem eX12_control_83 : Dc mX12_control 83 (.lreturn) 1 84 := ⟨by decide +kernel, rfl⟩
theorem eX12_count_0 : Dc mX12_count 0 (.iload_n 1) 1 1 := ⟨by decide +kernel, rfl⟩
theorem eX12_count_1 : Dc mX12_count 1 (.tableswitch 114 0 7 #[47, 54, 61, 66, 71, 99, 104, 109]) 47 48 := ⟨by decide +kernel, rfl⟩
theorem eX12_count_48 : Dc mX12_count 48 (.aload_n 0) 1 49 := ⟨by decide +kernel, rfl⟩
theorem eX12_count_49 : Dc mX12_count 49 (.getfield 7) 3 52 := ⟨by decide +kernel, rfl⟩
theorem eX12_count_52 : Dc mX12_count 52 (.iconst 0) 1 53 := ⟨by decide +kernel, rfl⟩
theorem eX12_count_53 : Dc mX12_count 53 (.iaload) 1 54 := ⟨by decide +kernel, rfl⟩
theorem eX12_count_54 : Dc mX12_count 54 (.ireturn) 1 55 := ⟨by decide +kernel, rfl⟩
theorem eX12_count_55 : Dc mX12_count 55 (.aload_n 0) 1 56 := ⟨by decide +kernel, rfl⟩
theorem eX12_count_56 : Dc mX12_count 56 (.getfield 7) 3 59 := ⟨by decide +kernel, rfl⟩
theorem eX12_count_59 : Dc mX12_count 59 (.iconst 1) 1 60 := ⟨by decide +kernel, rfl⟩
theorem eX12_count_60 : Dc mX12_count 60 (.iaload) 1 61 := ⟨by decide +kernel, rfl⟩
theorem eX12_count_61 : Dc mX12_count 61 (.ireturn) 1 62 := ⟨by decide +kernel, rfl⟩
theorem eX12_count_62 : Dc mX12_count 62 (.aload_n 0) 1 63 := ⟨by decide +kernel, rfl⟩
theorem eX12_count_63 : Dc mX12_count 63 (.getfield 79) 3 66 := ⟨by decide +kernel, rfl⟩
theorem eX12_count_66 : Dc mX12_count 66 (.ireturn) 1 67 := ⟨by decide +kernel, rfl⟩
theorem eX12_count_67 : Dc mX12_count 67 (.aload_n 0) 1 68 := ⟨by decide +kernel, rfl⟩
theorem eX12_count_68 : Dc mX12_count 68 (.getfield 82) 3 71 := ⟨by decide +kernel, rfl⟩
theorem eX12_count_71 : Dc mX12_count 71 (.ireturn) 1 72 := ⟨by decide +kernel, rfl⟩
theorem eX12_count_72 : Dc mX12_count 72 (.aload_n 0) 1 73 := ⟨by decide +kernel, rfl⟩
theorem eX12_count_73 : Dc mX12_count 73 (.aload_n 0) 1 74 := ⟨by decide +kernel, rfl⟩
theorem eX12_count_74 : Dc mX12_count 74 (.getfield 79) 3 77 := ⟨by decide +kernel, rfl⟩
theorem eX12_count_77 : Dc mX12_count 77 (.invokevirtual 123) 3 80 := ⟨by decide +kernel, rfl⟩
theorem eX12_count_80 : Dj mX12_count 80 (.ifCond .eq) 83 97 := ⟨17, by decide +kernel, rfl, by decide⟩
theorem eX12_count_83 : Dc mX12_count 83 (.aload_n 0) 1 84 := ⟨by decide +kernel, rfl⟩
theorem eX12_count_84 : Dc mX12_count 84 (.getfield 7) 3 87 := ⟨by decide +kernel, rfl⟩
theorem eX12_count_87 : Dc mX12_count 87 (.iconst 2) 1 88 := ⟨by decide +kernel, rfl⟩
theorem eX12_count_88 : Dc mX12_count 88 (.aload_n 0) 1 89 := ⟨by decide +kernel, rfl⟩
theorem eX12_count_89 : Dc mX12_count 89 (.getfield 79) 3 92 := ⟨by decide +kernel, rfl⟩
theorem eX12_count_92 : Dc mX12_count 92 (.iadd) 1 93 := ⟨by decide +kernel, rfl⟩
theorem eX12_count_93 : Dc mX12_count 93 (.iaload) 1 94 := ⟨by decide +kernel, rfl⟩
theorem eX12_count_94 : Dj mX12_count 94 (.goto) 97 99 := ⟨5, by decide +kernel, rfl, by decide⟩
theorem eX12_count_97 : Dc mX12_count 97 (.bipush (-9)) 2 99 := ⟨by decide +kernel, rfl⟩
theorem eX12_count_99 : Dc mX12_count 99 (.ireturn) 1 100 := ⟨by decide +kernel, rfl⟩
theorem eX12_count_100 : Dc mX12_count 100 (.aload_n 0) 1 101 := ⟨by decide +kernel, rfl⟩
theorem eX12_count_101 : Dc mX12_count 101 (.getfield 76) 3 104 := ⟨by decide +kernel, rfl⟩
theorem eX12_count_104 : Dc mX12_count 104 (.ireturn) 1 105 := ⟨by decide +kernel, rfl⟩
theorem eX12_count_105 : Dc mX12_count 105 (.aload_n 0) 1 106 := ⟨by decide +kernel, rfl⟩
theorem eX12_count_106 : Dc mX12_count 106 (.getfield 89) 3 109 := ⟨by decide +kernel, rfl⟩
theorem eX12_count_109 : Dc mX12_count 109 (.ireturn) 1 110 := ⟨by decide +kernel, rfl⟩
theorem eX12_count_110 : Dc mX12_count 110 (.aload_n 0) 1 111 := ⟨by decide +kernel, rfl⟩
theorem eX12_count_111 : Dc mX12_count 111 (.getfield 72) 3 114 := ⟨by decide +kernel, rfl⟩
theorem eX12_count_114 : Dc mX12_count 114 (.ireturn) 1 115 := ⟨by decide +kernel, rfl⟩
theorem eX12_count_115 : Dc mX12_count 115 (.iconst (-1)) 1 116 := ⟨by decide +kernel, rfl⟩
theorem eX12_count_116 : Dc mX12_count 116 (.ireturn) 1 117 := ⟨by decide +kernel, rfl⟩
theorem eX12_end_0 : Dc mX12_end 0 (.iload_n 1) 1 1 := ⟨by decide +kernel, rfl⟩
theorem eX12_end_1 : Dc mX12_end 1 (.invokestatic 172) 3 4 := ⟨by decide +kernel, rfl⟩
theorem eX12_end_4 : Dj mX12_end 4 (.ifCond .eq) 7 32 := ⟨28, by decide +kernel, rfl, by decide⟩
theorem eX12_end_7 : Dc mX12_end 7 (.iload_n 2) 1 8 := ⟨by decide +kernel, rfl⟩
theorem eX12_end_8 : Dc mX12_end 8 (.iconst 0) 1 9 := ⟨by decide +kernel, rfl⟩
theorem eX12_end_9 : Dc mX12_end 9 (.iconst 1) 1 10 := ⟨by decide +kernel, rfl⟩
theorem eX12_end_10 : Dc mX12_end 10 (.invokestatic 85) 3 13 := ⟨by decide +kernel, rfl⟩
theorem eX12_end_13 : Dj mX12_end 13 (.ifCond .eq) 16 32 := ⟨19, by decide +kernel, rfl, by decide⟩
theorem eX12_end_16 : Dc mX12_end 16 (.iload_n 3) 1 17 := ⟨by decide +kernel, rfl⟩
theorem eX12_end_17 : Dc mX12_end 17 (.iconst 0) 1 18 := ⟨by decide +kernel, rfl⟩
theorem eX12_end_18 : Dc mX12_end 18 (.iconst 1) 1 19 := ⟨by decide +kernel, rfl⟩
theorem eX12_end_19 : Dc mX12_end 19 (.invokestatic 85) 3 22 := ⟨by decide +kernel, rfl⟩
theorem eX12_end_22 : Dj mX12_end 22 (.ifCond .eq) 25 32 := ⟨10, by decide +kernel, rfl, by decide⟩
theorem eX12_end_25 : Dc mX12_end 25 (.aload_n 0) 1 26 := ⟨by decide +kernel, rfl⟩
theorem eX12_end_26 : Dc mX12_end 26 (.invokevirtual 175) 3 29 := ⟨by decide +kernel, rfl⟩
theorem eX12_end_29 : Dj mX12_end 29 (.ifCond .ne) 32 36 := ⟨7, by decide +kernel, rfl, by decide⟩
theorem eX12_end_32 : Dc mX12_end 32 (.ldc2_w 132) 3 35 := ⟨by decide +kernel, rfl⟩
theorem eX12_end_35 : Dc mX12_end 35 (.lreturn) 1 36 := ⟨by decide +kernel, rfl⟩
theorem eX12_end_36 : Dc mX12_end 36 (.iload_n 2) 1 37 := ⟨by decide +kernel, rfl⟩
theorem eX12_end_37 : Dj mX12_end 37 (.ifCond .ne) 40 49 := ⟨12, by decide +kernel, rfl, by decide⟩
theorem eX12_end_40 : Dc mX12_end 40 (.aload_n 0) 1 41 := ⟨by decide +kernel, rfl⟩
theorem eX12_end_41 : Dc mX12_end 41 (.iload_n 1) 1 42 := ⟨by decide +kernel, rfl⟩
theorem eX12_end_42 : Dc mX12_end 42 (.invokevirtual 145) 3 45 := ⟨by decide +kernel, rfl⟩
theorem eX12_end_45 : Dc mX12_end 45 (.i2l) 1 46 := ⟨by decide +kernel, rfl⟩
theorem eX12_end_46 : Dj mX12_end 46 (.goto) 49 55 := ⟨9, by decide +kernel, rfl, by decide⟩
theorem eX12_end_49 : Dc mX12_end 49 (.aload_n 0) 1 50 := ⟨by decide +kernel, rfl⟩
theorem eX12_end_50 : Dc mX12_end 50 (.iload_n 1) 1 51 := ⟨by decide +kernel, rfl⟩
theorem eX12_end_51 : Dc mX12_end 51 (.invokevirtual 190) 3 54 := ⟨by decide +kernel, rfl⟩
theorem eX12_end_54 : Dc mX12_end 54 (.i2l) 1 55 := ⟨by decide +kernel, rfl⟩
theorem eX12_end_55 : Dc mX12_end 55 (.ldc2_w 148) 3 58 := ⟨by decide +kernel, rfl⟩
theorem eX12_end_58 : Dc mX12_end 58 (.iload_n 3) 1 59 := ⟨by decide +kernel, rfl⟩
theorem eX12_end_59 : Dc mX12_end 59 (.invokestatic 182) 3 62 := ⟨by decide +kernel, rfl⟩
theorem eX12_end_62 : Dc mX12_end 62 (.lreturn) 1 63 := ⟨by decide +kernel, rfl⟩
theorem eX12_ends_0 : Dc mX12_ends 0 (.aload_n 0) 1 1 := ⟨by decide +kernel, rfl⟩
theorem eX12_ends_1 : Dc mX12_ends 1 (.iload_n 1) 1 2 := ⟨by decide +kernel, rfl⟩
theorem eX12_ends_2 : Dc mX12_ends 2 (.invokevirtual 126) 3 5 := ⟨by decide +kernel, rfl⟩
theorem eX12_ends_5 : Dj mX12_ends 5 (.ifCond .eq) 8 33 := ⟨28, by decide +kernel, rfl, by decide⟩
theorem eX12_ends_8 : Dc mX12_ends 8 (.iload_n 2) 1 9 := ⟨by decide +kernel, rfl⟩
theorem eX12_ends_9 : Dc mX12_ends 9 (.bipush (-5)) 2 11 := ⟨by decide +kernel, rfl⟩
theorem eX12_ends_11 : Dc mX12_ends 11 (.iconst 5) 1 12 := ⟨by decide +kernel, rfl⟩
theorem eX12_ends_12 : Dc mX12_ends 12 (.invokestatic 85) 3 15 := ⟨by decide +kernel, rfl⟩
theorem eX12_ends_15 : Dj mX12_ends 15 (.ifCond .eq) 18 33 := ⟨18, by decide +kernel, rfl, by decide⟩
theorem eX12_ends_18 : Dc mX12_ends 18 (.iload_n 3) 1 19 := ⟨by decide +kernel, rfl⟩
theorem eX12_ends_19 : Dc mX12_ends 19 (.bipush (-5)) 2 21 := ⟨by decide +kernel, rfl⟩
theorem eX12_ends_21 : Dc mX12_ends 21 (.iconst 5) 1 22 := ⟨by decide +kernel, rfl⟩
theorem eX12_ends_22 : Dc mX12_ends 22 (.invokestatic 85) 3 25 := ⟨by decide +kernel, rfl⟩
theorem eX12_ends_25 : Dj mX12_ends 25 (.ifCond .eq) 28 33 := ⟨8, by decide +kernel, rfl, by decide⟩
theorem eX12_ends_28 : Dc mX12_ends 28 (.iload_n 2) 1 29 := ⟨by decide +kernel, rfl⟩
theorem eX12_ends_29 : Dc mX12_ends 29 (.iload_n 3) 1 30 := ⟨by decide +kernel, rfl⟩
theorem eX12_ends_30 : Dj mX12_ends 30 (.if_icmp .lt) 33 35 := ⟨5, by decide +kernel, rfl, by decide⟩
theorem eX12_ends_33 : Dc mX12_ends 33 (.iconst (-1)) 1 34 := ⟨by decide +kernel, rfl⟩
theorem eX12_ends_34 : Dc mX12_ends 34 (.ireturn) 1 35 := ⟨by decide +kernel, rfl⟩
theorem eX12_ends_35 : Dc mX12_ends 35 (.aload_n 0) 1 36 := ⟨by decide +kernel, rfl⟩
theorem eX12_ends_36 : Dc mX12_ends 36 (.getfield 7) 3 39 := ⟨by decide +kernel, rfl⟩
theorem eX12_ends_39 : Dc mX12_ends 39 (.bipush 23) 2 41 := ⟨by decide +kernel, rfl⟩
theorem eX12_ends_41 : Dc mX12_ends 41 (.iload_n 1) 1 42 := ⟨by decide +kernel, rfl⟩
theorem eX12_ends_42 : Dc mX12_ends 42 (.iadd) 1 43 := ⟨by decide +kernel, rfl⟩
theorem eX12_ends_43 : Dc mX12_ends 43 (.iaload) 1 44 := ⟨by decide +kernel, rfl⟩
theorem eX12_ends_44 : Dc mX12_ends 44 (.iload_n 2) 1 45 := ⟨by decide +kernel, rfl⟩
theorem eX12_ends_45 : Dj mX12_ends 45 (.if_icmp .ne) 48 64 := ⟨19, by decide +kernel, rfl, by decide⟩
theorem eX12_ends_48 : Dc mX12_ends 48 (.aload_n 0) 1 49 := ⟨by decide +kernel, rfl⟩
theorem eX12_ends_49 : Dc mX12_ends 49 (.getfield 7) 3 52 := ⟨by decide +kernel, rfl⟩
theorem eX12_ends_52 : Dc mX12_ends 52 (.bipush 26) 2 54 := ⟨by decide +kernel, rfl⟩
theorem eX12_ends_54 : Dc mX12_ends 54 (.iload_n 1) 1 55 := ⟨by decide +kernel, rfl⟩
theorem eX12_ends_55 : Dc mX12_ends 55 (.iadd) 1 56 := ⟨by decide +kernel, rfl⟩
theorem eX12_ends_56 : Dc mX12_ends 56 (.iaload) 1 57 := ⟨by decide +kernel, rfl⟩
theorem eX12_ends_57 : Dc mX12_ends 57 (.iload_n 3) 1 58 := ⟨by decide +kernel, rfl⟩
theorem eX12_ends_58 : Dj mX12_ends 58 (.if_icmp .ne) 61 64 := ⟨6, by decide +kernel, rfl, by decide⟩
theorem eX12_ends_61 : Dc mX12_ends 61 (.bipush (-2)) 2 63 := ⟨by decide +kernel, rfl⟩
theorem eX12_ends_63 : Dc mX12_ends 63 (.ireturn) 1 64 := ⟨by decide +kernel, rfl⟩
theorem eX12_ends_64 : Dc mX12_ends 64 (.aload_n 0) 1 65 := ⟨by decide +kernel, rfl⟩
theorem eX12_ends_65 : Dc mX12_ends 65 (.bipush 23) 2 67 := ⟨by decide +kernel, rfl⟩
theorem eX12_ends_67 : Dc mX12_ends 67 (.iload_n 1) 1 68 := ⟨by decide +kernel, rfl⟩
theorem eX12_ends_68 : Dc mX12_ends 68 (.iadd) 1 69 := ⟨by decide +kernel, rfl⟩
theorem eX12_ends_69 : Dc mX12_ends 69 (.bipush 26) 2 71 := ⟨by decide +kernel, rfl⟩
theorem eX12_ends_71 : Dc mX12_ends 71 (.iload_n 1) 1 72 := ⟨by decide +kernel, rfl⟩
theorem eX12_ends_72 : Dc mX12_ends 72 (.iadd) 1 73 := ⟨by decide +kernel, rfl⟩
theorem eX12_ends_73 : Dc mX12_ends 73 (.invokevirtual 134) 3 76 := ⟨by decide +kernel, rfl⟩
theorem eX12_ends_76 : Dc mX12_ends 76 (.aload_n 0) 1 77 := ⟨by decide +kernel, rfl⟩
theorem eX12_ends_77 : Dc mX12_ends 77 (.getfield 7) 3 80 := ⟨by decide +kernel, rfl⟩
theorem eX12_ends_80 : Dc mX12_ends 80 (.bipush 23) 2 82 := ⟨by decide +kernel, rfl⟩
theorem eX12_ends_82 : Dc mX12_ends 82 (.iload_n 1) 1 83 := ⟨by decide +kernel, rfl⟩
theorem eX12_ends_83 : Dc mX12_ends 83 (.iadd) 1 84 := ⟨by decide +kernel, rfl⟩
theorem eX12_ends_84 : Dc mX12_ends 84 (.iload_n 2) 1 85 := ⟨by decide +kernel, rfl⟩
theorem eX12_ends_85 : Dc mX12_ends 85 (.iastore) 1 86 := ⟨by decide +kernel, rfl⟩
theorem eX12_ends_86 : Dc mX12_ends 86 (.aload_n 0) 1 87 := ⟨by decide +kernel, rfl⟩
theorem eX12_ends_87 : Dc mX12_ends 87 (.getfield 7) 3 90 := ⟨by decide +kernel, rfl⟩
theorem eX12_ends_90 : Dc mX12_ends 90 (.bipush 26) 2 92 := ⟨by decide +kernel, rfl⟩
theorem eX12_ends_92 : Dc mX12_ends 92 (.iload_n 1) 1 93 := ⟨by decide +kernel, rfl⟩
theorem eX12_ends_93 : Dc mX12_ends 93 (.iadd) 1 94 := ⟨by decide +kernel, rfl⟩
theorem eX12_ends_94 : Dc mX12_ends 94 (.iload_n 3) 1 95 := ⟨by decide +kernel, rfl⟩
theorem eX12_ends_95 : Dc mX12_ends 95 (.iastore) 1 96 := ⟨by decide +kernel, rfl⟩
theorem eX12_ends_96 : Dc mX12_ends 96 (.iconst 1) 1 97 := ⟨by decide +kernel, rfl⟩
theorem eX12_ends_97 : Dc mX12_ends 97 (.ireturn) 1 98 := ⟨by decide +kernel, rfl⟩
theorem eX12_finds_0 : Dc mX12_finds 0 (.aload_n 0) 1 1 := ⟨by decide +kernel, rfl⟩
theorem eX12_finds_1 : Dc mX12_finds 1 (.getfield 54) 3 4 := ⟨by decide +kernel, rfl⟩
theorem eX12_finds_4 : Dc mX12_finds 4 (.aload_n 0) 1 5 := ⟨by decide +kernel, rfl⟩
theorem eX12_finds_5 : Dc mX12_finds 5 (.getfield 196) 3 8 := ⟨by decide +kernel, rfl⟩
theorem eX12_finds_8 : Dc mX12_finds 8 (.iload_n 1) 1 9 := ⟨by decide +kernel, rfl⟩
theorem eX12_finds_9 : Dc mX12_finds 9 (.iastore) 1 10 := ⟨by decide +kernel, rfl⟩
theorem eX12_finds_10 : Dc mX12_finds 10 (.aload_n 0) 1 11 := ⟨by decide +kernel, rfl⟩
theorem eX12_finds_11 : Dc mX12_finds 11 (.getfield 57) 3 14 := ⟨by decide +kernel, rfl⟩
theorem eX12_finds_14 : Dc mX12_finds 14 (.aload_n 0) 1 15 := ⟨by decide +kernel, rfl⟩
theorem eX12_finds_15 : Dc mX12_finds 15 (.getfield 196) 3 18 := ⟨by decide +kernel, rfl⟩
theorem eX12_finds_18 : Dc mX12_finds 18 (.iload_n 2) 1 19 := ⟨by decide +kernel, rfl⟩
theorem eX12_finds_19 : Dc mX12_finds 19 (.iastore) 1 20 := ⟨by decide +kernel, rfl⟩
theorem eX12_finds_20 : Dc mX12_finds 20 (.aload_n 0) 1 21 := ⟨by decide +kernel, rfl⟩
theorem eX12_finds_21 : Dc mX12_finds 21 (.dup) 1 22 := ⟨by decide +kernel, rfl⟩
theorem eX12_finds_22 : Dc mX12_finds 22 (.getfield 196) 3 25 := ⟨by decide +kernel, rfl⟩
theorem eX12_finds_25 : Dc mX12_finds 25 (.iconst 1) 1 26 := ⟨by decide +kernel, rfl⟩
theorem eX12_finds_26 : Dc mX12_finds 26 (.iadd) 1 27 := ⟨by decide +kernel, rfl⟩
theorem eX12_finds_27 : Dc mX12_finds 27 (.putfield 196) 3 30 := ⟨by decide +kernel, rfl⟩
theorem eX12_finds_30 : Dc mX12_finds 30 (.return_) 1 31 := ⟨by decide +kernel, rfl⟩
theorem eX12_first_0 : Dc mX12_first 0 (.aload_n 0) 1 1 := ⟨by decide +kernel, rfl⟩
theorem eX12_first_1 : Dc mX12_first 1 (.aload_n 0) 1 2 := ⟨by decide +kernel, rfl⟩
theorem eX12_first_2 : Dc mX12_first 2 (.getfield 82) 3 5 := ⟨by decide +kernel, rfl⟩
theorem eX12_first_5 : Dc mX12_first 5 (.invokevirtual 126) 3 8 := ⟨by decide +kernel, rfl⟩
theorem eX12_first_8 : Dj mX12_first 8 (.ifCond .ne) 11 14 := ⟨6, by decide +kernel, rfl, by decide⟩
theorem eX12_first_11 : Dc mX12_first 11 (.bipush (-2)) 2 13 := ⟨by decide +kernel, rfl⟩
theorem eX12_first_13 : Dc mX12_first 13 (.ireturn) 1 14 := ⟨by decide +kernel, rfl⟩
theorem eX12_first_14 : Dc mX12_first 14 (.iconst 1) 1 15 := ⟨by decide +kernel, rfl⟩
theorem eX12_first_15 : Dc mX12_first 15 (.istore_n 1) 1 16 := ⟨by decide +kernel, rfl⟩
theorem eX12_first_16 : Dc mX12_first 16 (.iload_n 1) 1 17 := ⟨by decide +kernel, rfl⟩
theorem eX12_first_17 : Dc mX12_first 17 (.bipush 127) 2 19 := ⟨by decide +kernel, rfl⟩
theorem eX12_first_19 : Dj mX12_first 19 (.if_icmp .gt) 22 36 := ⟨17, by decide +kernel, rfl, by decide⟩
theorem eX12_first_22 : Dc mX12_first 22 (.aload_n 0) 1 23 := ⟨by decide +kernel, rfl⟩
theorem eX12_first_23 : Dc mX12_first 23 (.iload_n 1) 1 24 := ⟨by decide +kernel, rfl⟩
theorem eX12_first_24 : Dc mX12_first 24 (.invokevirtual 232) 3 27 := ⟨by decide +kernel, rfl⟩
theorem eX12_first_27 : Dj mX12_first 27 (.ifCond .ne) 30 36 := ⟨9, by decide +kernel, rfl, by decide⟩
theorem eX12_first_30 : Dc mX12_first 30 (.iinc 1 1) 3 33 := ⟨by decide +kernel, rfl⟩
theorem eX12_first_33 : Dj mX12_first 33 (.goto) 36 16 := ⟨-17, by decide +kernel, rfl, by decide⟩
theorem eX12_first_36 : Dc mX12_first 36 (.iload_n 1) 1 37 := ⟨by decide +kernel, rfl⟩
theorem eX12_first_37 : Dc mX12_first 37 (.bipush 127) 2 39 := ⟨by decide +kernel, rfl⟩
theorem eX12_first_39 : Dj mX12_first 39 (.if_icmp .le) 42 47 := ⟨8, by decide +kernel, rfl, by decide⟩
theorem eX12_first_42 : Dc mX12_first 42 (.bipush (-9)) 2 44 := ⟨by decide +kernel, rfl⟩
theorem eX12_first_44 : Dj mX12_first 44 (.goto) 47 48 := ⟨4, by decide +kernel, rfl, by decide⟩
theorem eX12_first_47 : Dc mX12_first 47 (.iload_n 1) 1 48 := ⟨by decide +kernel, rfl⟩
theorem eX12_first_48 : Dc mX12_first 48 (.ireturn) 1 49 := ⟨by decide +kernel, rfl⟩
theorem eX12_forget_0 : Dc mX12_forget 0 (.aload_n 0) 1 1 := ⟨by decide +kernel, rfl⟩
theorem eX12_forget_1 : Dc mX12_forget 1 (.getfield 76) 3 4 := ⟨by decide +kernel, rfl⟩
theorem eX12_forget_4 : Dc mX12_forget 4 (.istore_n 1) 1 5 := ⟨by decide +kernel, rfl⟩
theorem eX12_forget_5 : Dc mX12_forget 5 (.aload_n 0) 1 6 := ⟨by decide +kernel, rfl⟩
theorem eX12_forget_6 : Dc mX12_forget 6 (.iconst 0) 1 7 := ⟨by decide +kernel, rfl⟩
theorem eX12_forget_7 : Dc mX12_forget 7 (.putfield 76) 3 10 := ⟨by decide +kernel, rfl⟩
theorem eX12_forget_10 : Dc mX12_forget 10 (.iload_n 1) 1 11 := ⟨by decide +kernel, rfl⟩
theorem eX12_forget_11 : Dc mX12_forget 11 (.ireturn) 1 12 := ⟨by decide +kernel, rfl⟩
theorem eX12_fraction_0 : Dc mX12_fraction 0 (.lload_n 0) 1 1 := ⟨by decide +kernel, rfl⟩
theorem eX12_fraction_1 : Dc mX12_fraction 1 (.lload_n 2) 1 2 := ⟨by decide +kernel, rfl⟩
theorem eX12_fraction_2 : Dc mX12_fraction 2 (.invokestatic 164) 3 5 := ⟨by decide +kernel, rfl⟩
theorem eX12_fraction_5 : Dc mX12_fraction 5 (.lstore 5) 2 7 := ⟨by decide +kernel, rfl⟩
theorem eX12_fraction_7 : Dc mX12_fraction 7 (.iload 4) 2 9 := ⟨by decide +kernel, rfl⟩
theorem eX12_fraction_9 : Dj mX12_fraction 9 (.ifCond .ne) 12 19 := ⟨10, by decide +kernel, rfl, by decide⟩
theorem eX12_fraction_12 : Dc mX12_fraction 12 (.lload_n 0) 1 13 := ⟨by decide +kernel, rfl⟩
theorem eX12_fraction_13 : Dc mX12_fraction 13 (.lload 5) 2 15 := ⟨by decide +kernel, rfl⟩
theorem eX12_fraction_15 : Dc mX12_fraction 15 (.ldiv) 1 16 := ⟨by decide +kernel, rfl⟩
theorem eX12_fraction_16 : Dj mX12_fraction 16 (.goto) 19 23 := ⟨7, by decide +kernel, rfl, by decide⟩
theorem eX12_fraction_19 : Dc mX12_fraction 19 (.lload_n 2) 1 20 := ⟨by decide +kernel, rfl⟩
theorem eX12_fraction_20 : Dc mX12_fraction 20 (.lload 5) 2 22 := ⟨by decide +kernel, rfl⟩
theorem eX12_fraction_22 : Dc mX12_fraction 22 (.ldiv) 1 23 := ⟨by decide +kernel, rfl⟩
theorem eX12_fraction_23 : Dc mX12_fraction 23 (.lreturn) 1 24 := ⟨by decide +kernel, rfl⟩
theorem eX12_highOf_0 : Dc mX12_highOf 0 (.aload_n 0) 1 1 := ⟨by decide +kernel, rfl⟩
theorem eX12_highOf_1 : Dc mX12_highOf 1 (.iload_n 1) 1 2 := ⟨by decide +kernel, rfl⟩
theorem eX12_highOf_2 : Dc mX12_highOf 2 (.invokevirtual 145) 3 5 := ⟨by decide +kernel, rfl⟩
theorem eX12_highOf_5 : Dc mX12_highOf 5 (.aload_n 0) 1 6 := ⟨by decide +kernel, rfl⟩
theorem eX12_highOf_6 : Dc mX12_highOf 6 (.invokevirtual 141) 3 9 := ⟨by decide +kernel, rfl⟩
theorem eX12_highOf_9 : Dc mX12_highOf 9 (.iload_n 1) 1 10 := ⟨by decide +kernel, rfl⟩
theorem eX12_highOf_10 : Dc mX12_highOf 10 (.invokestatic 138) 3 13 := ⟨by decide +kernel, rfl⟩
theorem eX12_highOf_13 : Dc mX12_highOf 13 (.imul) 1 14 := ⟨by decide +kernel, rfl⟩
theorem eX12_highOf_14 : Dc mX12_highOf 14 (.iadd) 1 15 := ⟨by decide +kernel, rfl⟩
theorem eX12_highOf_15 : Dc mX12_highOf 15 (.ireturn) 1 16 := ⟨by decide +kernel, rfl⟩
theorem eX12_house_0 : Dc mX12_house 0 (.aload_n 0) 1 1 := ⟨by decide +kernel, rfl⟩
theorem eX12_house_1 : Dc mX12_house 1 (.invokevirtual 113) 3 4 := ⟨by decide +kernel, rfl⟩
theorem eX12_house_4 : Dc mX12_house 4 (.iconst 0) 1 5 := ⟨by decide +kernel, rfl⟩
theorem eX12_house_5 : Dc mX12_house 5 (.istore_n 1) 1 6 := ⟨by decide +kernel, rfl⟩
theorem eX12_house_6 : Dc mX12_house 6 (.iload_n 1) 1 7 := ⟨by decide +kernel, rfl⟩
theorem eX12_house_7 : Dc mX12_house 7 (.bipush 32) 2 9 := ⟨by decide +kernel, rfl⟩
theorem eX12_house_9 : Dj mX12_house 9 (.if_icmp .ge) 12 25 := ⟨16, by decide +kernel, rfl, by decide⟩
theorem eX12_house_12 : Dc mX12_house 12 (.aload_n 0) 1 13 := ⟨by decide +kernel, rfl⟩
theorem eX12_house_13 : Dc mX12_house 13 (.getfield 13) 3 16 := ⟨by decide +kernel, rfl⟩
theorem eX12_house_16 : Dc mX12_house 16 (.iload_n 1) 1 17 := ⟨by decide +kernel, rfl⟩
theorem eX12_house_17 : Dc mX12_house 17 (.iconst 0) 1 18 := ⟨by decide +kernel, rfl⟩
theorem eX12_house_18 : Dc mX12_house 18 (.iastore) 1 19 := ⟨by decide +kernel, rfl⟩
theorem eX12_house_19 : Dc mX12_house 19 (.iinc 1 1) 3 22 := ⟨by decide +kernel, rfl⟩
theorem eX12_house_22 : Dj mX12_house 22 (.goto) 25 6 := ⟨-16, by decide +kernel, rfl, by decide⟩
theorem eX12_house_25 : Dc mX12_house 25 (.aload_n 0) 1 26 := ⟨by decide +kernel, rfl⟩
theorem eX12_house_26 : Dc mX12_house 26 (.iconst 0) 1 27 := ⟨by decide +kernel, rfl⟩
theorem eX12_house_27 : Dc mX12_house 27 (.putfield 99) 3 30 := ⟨by decide +kernel, rfl⟩
theorem eX12_house_30 : Dc mX12_house 30 (.iconst 0) 1 31 := ⟨by decide +kernel, rfl⟩
theorem eX12_house_31 : Dc mX12_house 31 (.istore_n 1) 1 32 := ⟨by decide +kernel, rfl⟩
theorem eX12_house_32 : Dc mX12_house 32 (.aload_n 0) 1 33 := ⟨by decide +kernel, rfl⟩
theorem eX12_house_33 : Dc mX12_house 33 (.getfield 99) 3 36 := ⟨by decide +kernel, rfl⟩
theorem eX12_house_36 : Dc mX12_house 36 (.aload_n 0) 1 37 := ⟨by decide +kernel, rfl⟩
theorem eX12_house_37 : Dc mX12_house 37 (.getfield 92) 3 40 := ⟨by decide +kernel, rfl⟩
theorem eX12_house_40 : Dj mX12_house 40 (.if_icmp .ge) 43 141 := ⟨101, by decide +kernel, rfl, by decide⟩
theorem eX12_house_43 : Dc mX12_house 43 (.aload_n 0) 1 44 := ⟨by decide +kernel, rfl⟩
theorem eX12_house_44 : Dc mX12_house 44 (.bipush 112) 2 46 := ⟨by decide +kernel, rfl⟩
theorem eX12_house_46 : Dc mX12_house 46 (.invokevirtual 102) 3 49 := ⟨by decide +kernel, rfl⟩
theorem eX12_house_49 : Dj mX12_house 49 (.ifCond .eq) 52 59 := ⟨10, by decide +kernel, rfl, by decide⟩
theorem eX12_house_52 : Dc mX12_house 52 (.aload_n 0) 1 53 := ⟨by decide +kernel, rfl⟩
theorem eX12_house_53 : Dc mX12_house 53 (.invokevirtual 116) 3 56 := ⟨by decide +kernel, rfl⟩
theorem eX12_house_56 : Dj mX12_house 56 (.goto) 59 80 := ⟨24, by decide +kernel, rfl, by decide⟩
theorem eX12_house_59 : Dc mX12_house 59 (.aload_n 0) 1 60 := ⟨by decide +kernel, rfl⟩
theorem eX12_house_60 : Dc mX12_house 60 (.bipush 98) 2 62 := ⟨by decide +kernel, rfl⟩
theorem eX12_house_62 : Dc mX12_house 62 (.invokevirtual 102) 3 65 := ⟨by decide +kernel, rfl⟩
theorem eX12_house_65 : Dj mX12_house 65 (.ifCond .eq) 68 79 := ⟨14, by decide +kernel, rfl, by decide⟩
theorem eX12_house_68 : Dc mX12_house 68 (.aload_n 0) 1 69 := ⟨by decide +kernel, rfl⟩
theorem eX12_house_69 : Dc mX12_house 69 (.invokevirtual 120) 3 72 := ⟨by decide +kernel, rfl⟩
theorem eX12_house_72 : Dj mX12_house 72 (.ifCond .eq) 75 79 := ⟨7, by decide +kernel, rfl, by decide⟩
theorem eX12_house_75 : Dc mX12_house 75 (.iconst 1) 1 76 := ⟨by decide +kernel, rfl⟩
theorem eX12_house_76 : Dj mX12_house 76 (.goto) 79 80 := ⟨4, by decide +kernel, rfl, by decide⟩
theorem eX12_house_79 : Dc mX12_house 79 (.iconst 0) 1 80 := ⟨by decide +kernel, rfl⟩
theorem eX12_house_80 : Dc mX12_house 80 (.istore_n 2) 1 81 := ⟨by decide +kernel, rfl⟩
theorem eX12_house_81 : Dc mX12_house 81 (.iload_n 2) 1 82 := ⟨by decide +kernel, rfl⟩
theorem eX12_house_82 : Dj mX12_house 82 (.ifCond .eq) 85 94 := ⟨12, by decide +kernel, rfl, by decide⟩
theorem eX12_house_85 : Dc mX12_house 85 (.aload_n 0) 1 86 := ⟨by decide +kernel, rfl⟩
theorem eX12_house_86 : Dc mX12_house 86 (.bipush 59) 2 88 := ⟨by decide +kernel, rfl⟩
theorem eX12_house_88 : Dc mX12_house 88 (.invokevirtual 102) 3 91 := ⟨by decide +kernel, rfl⟩
theorem eX12_house_91 : Dj mX12_house 91 (.ifCond .ne) 94 125 := ⟨34, by decide +kernel, rfl, by decide⟩
theorem eX12_house_94 : Dc mX12_house 94 (.bipush (-10)) 2 96 := ⟨by decide +kernel, rfl⟩
theorem eX12_house_96 : Dc mX12_house 96 (.aload_n 0) 1 97 := ⟨by decide +kernel, rfl⟩
theorem eX12_house_97 : Dc mX12_house 97 (.getfield 99) 3 100 := ⟨by decide +kernel, rfl⟩
theorem eX12_house_100 : Dc mX12_house 100 (.aload_n 0) 1 101 := ⟨by decide +kernel, rfl⟩
theorem eX12_house_101 : Dc mX12_house 101 (.getfield 92) 3 104 := ⟨by decide +kernel, rfl⟩
theorem eX12_house_104 : Dj mX12_house 104 (.if_icmp .ge) 107 119 := ⟨15, by decide +kernel, rfl, by decide⟩
theorem eX12_house_107 : Dc mX12_house 107 (.aload_n 0) 1 108 := ⟨by decide +kernel, rfl⟩
theorem eX12_house_108 : Dc mX12_house 108 (.getfield 38) 3 111 := ⟨by decide +kernel, rfl⟩
theorem eX12_house_111 : Dc mX12_house 111 (.aload_n 0) 1 112 := ⟨by decide +kernel, rfl⟩
theorem eX12_house_112 : Dc mX12_house 112 (.getfield 99) 3 115 := ⟨by decide +kernel, rfl⟩
theorem eX12_house_115 : Dc mX12_house 115 (.iaload) 1 116 := ⟨by decide +kernel, rfl⟩
theorem eX12_house_116 : Dj mX12_house 116 (.goto) 119 123 := ⟨7, by decide +kernel, rfl, by decide⟩
theorem eX12_house_119 : Dc mX12_house 119 (.aload_n 0) 1 120 := ⟨by decide +kernel, rfl⟩
theorem eX12_house_120 : Dc mX12_house 120 (.getfield 89) 3 123 := ⟨by decide +kernel, rfl⟩
theorem eX12_house_123 : Dc mX12_house 123 (.isub) 1 124 := ⟨by decide +kernel, rfl⟩
theorem eX12_house_124 : Dc mX12_house 124 (.ireturn) 1 125 := ⟨by decide +kernel, rfl⟩
theorem eX12_house_125 : Dc mX12_house 125 (.aload_n 0) 1 126 := ⟨by decide +kernel, rfl⟩
theorem eX12_house_126 : Dc mX12_house 126 (.dup) 1 127 := ⟨by decide +kernel, rfl⟩
theorem eX12_house_127 : Dc mX12_house 127 (.getfield 99) 3 130 := ⟨by decide +kernel, rfl⟩
theorem eX12_house_130 : Dc mX12_house 130 (.iconst 1) 1 131 := ⟨by decide +kernel, rfl⟩
theorem eX12_house_131 : Dc mX12_house 131 (.iadd) 1 132 := ⟨by decide +kernel, rfl⟩
theorem eX12_house_132 : Dc mX12_house 132 (.putfield 99) 3 135 := ⟨by decide +kernel, rfl⟩
theorem eX12_house_135 : Dc mX12_house 135 (.iinc 1 1) 3 138 := ⟨by decide +kernel, rfl⟩
theorem eX12_house_138 : Dj mX12_house 138 (.goto) 141 32 := ⟨-106, by decide +kernel, rfl, by decide⟩
theorem eX12_house_141 : Dc mX12_house 141 (.aload_n 0) 1 142 := ⟨by decide +kernel, rfl⟩
theorem eX12_house_142 : Dc mX12_house 142 (.invokevirtual 69) 3 145 := ⟨by decide +kernel, rfl⟩
theorem eX12_house_145 : Dc mX12_house 145 (.aload_n 0) 1 146 := ⟨by decide +kernel, rfl⟩
theorem eX12_house_146 : Dc mX12_house 146 (.iconst 0) 1 147 := ⟨by decide +kernel, rfl⟩
theorem eX12_house_147 : Dc mX12_house 147 (.putfield 89) 3 150 := ⟨by decide +kernel, rfl⟩
theorem eX12_house_150 : Dc mX12_house 150 (.iload_n 1) 1 151 := ⟨by decide +kernel, rfl⟩
theorem eX12_house_151 : Dc mX12_house 151 (.ireturn) 1 152 := ⟨by decide +kernel, rfl⟩
theorem eX12_in_0 : Dc mX12_in 0 (.iload_n 0) 1 1 := ⟨by decide +kernel, rfl⟩
theorem eX12_in_1 : Dc mX12_in 1 (.iload_n 1) 1 2 := ⟨by decide +kernel, rfl⟩
theorem eX12_in_2 : Dj mX12_in 2 (.if_icmp .lt) 5 14 := ⟨12, by decide +kernel, rfl, by decide⟩
theorem eX12_in_5 : Dc mX12_in 5 (.iload_n 0) 1 6 := ⟨by decide +kernel, rfl⟩
theorem eX12_in_6 : Dc mX12_in 6 (.iload_n 2) 1 7 := ⟨by decide +kernel, rfl⟩
theorem eX12_in_7 : Dj mX12_in 7 (.if_icmp .gt) 10 14 := ⟨7, by decide +kernel, rfl, by decide⟩
theorem eX12_in_10 : Dc mX12_in 10 (.iconst 1) 1 11 := ⟨by decide +kernel, rfl⟩
theorem eX12_in_11 : Dj mX12_in 11 (.goto) 14 15 := ⟨4, by decide +kernel, rfl, by decide⟩
theorem eX12_in_14 : Dc mX12_in 14 (.iconst 0) 1 15 := ⟨by decide +kernel, rfl⟩
theorem eX12_in_15 : Dc mX12_in 15 (.ireturn) 1 16 := ⟨by decide +kernel, rfl⟩
theorem eX12_isAbove_0 : Dc mX12_isAbove 0 (.aload_n 0) 1 1 := ⟨by decide +kernel, rfl⟩
theorem eX12_isAbove_1 : Dc mX12_isAbove 1 (.iload_n 1) 1 2 := ⟨by decide +kernel, rfl⟩
theorem eX12_isAbove_2 : Dc mX12_isAbove 2 (.iload_n 2) 1 3 := ⟨by decide +kernel, rfl⟩
theorem eX12_isAbove_3 : Dc mX12_isAbove 3 (.iload_n 3) 1 4 := ⟨by decide +kernel, rfl⟩
theorem eX12_isAbove_4 : Dc mX12_isAbove 4 (.invokevirtual 178) 3 7 := ⟨by decide +kernel, rfl⟩
theorem eX12_isAbove_7 : Dc mX12_isAbove 7 (.iconst 1) 1 8 := ⟨by decide +kernel, rfl⟩
theorem eX12_isAbove_8 : Dc mX12_isAbove 8 (.istore 5) 2 10 := ⟨by decide +kernel, rfl⟩
theorem eX12_isAbove_10 : Dc mX12_isAbove 10 (.iconst 0) 1 11 := ⟨by decide +kernel, rfl⟩
theorem eX12_isAbove_11 : Dc mX12_isAbove 11 (.istore 6) 2 13 := ⟨by decide +kernel, rfl⟩
theorem eX12_isAbove_13 : Dc mX12_isAbove 13 (.iload 6) 2 15 := ⟨by decide +kernel, rfl⟩
theorem eX12_isAbove_15 : Dc mX12_isAbove 15 (.aload_n 0) 1 16 := ⟨by decide +kernel, rfl⟩
theorem eX12_isAbove_16 : Dc mX12_isAbove 16 (.getfield 161) 3 19 := ⟨by decide +kernel, rfl⟩
theorem eX12_isAbove_19 : Dj mX12_isAbove 19 (.if_icmp .gt) 22 72 := ⟨53, by decide +kernel, rfl, by decide⟩
theorem eX12_isAbove_22 : Dc mX12_isAbove 22 (.iload 5) 2 24 := ⟨by decide +kernel, rfl⟩
theorem eX12_isAbove_24 : Dj mX12_isAbove 24 (.ifCond .eq) 27 63 := ⟨39, by decide +kernel, rfl, by decide⟩
theorem eX12_isAbove_27 : Dc mX12_isAbove 27 (.iload 4) 2 29 := ⟨by decide +kernel, rfl⟩
theorem eX12_isAbove_29 : Dj mX12_isAbove 29 (.ifCond .le) 32 47 := ⟨18, by decide +kernel, rfl, by decide⟩
theorem eX12_isAbove_32 : Dc mX12_isAbove 32 (.aload_n 0) 1 33 := ⟨by decide +kernel, rfl⟩
theorem eX12_isAbove_33 : Dc mX12_isAbove 33 (.getfield 44) 3 36 := ⟨by decide +kernel, rfl⟩
theorem eX12_isAbove_36 : Dc mX12_isAbove 36 (.iload 6) 2 38 := ⟨by decide +kernel, rfl⟩
theorem eX12_isAbove_38 : Dc mX12_isAbove 38 (.laload) 1 39 := ⟨by decide +kernel, rfl⟩
theorem eX12_isAbove_39 : Dc mX12_isAbove 39 (.lconst 0) 1 40 := ⟨by decide +kernel, rfl⟩
theorem eX12_isAbove_40 : Dc mX12_isAbove 40 (.lcmp) 1 41 := ⟨by decide +kernel, rfl⟩
theorem eX12_isAbove_41 : Dj mX12_isAbove 41 (.ifCond .le) 44 63 := ⟨22, by decide +kernel, rfl, by decide⟩
theorem eX12_isAbove_44 : Dj mX12_isAbove 44 (.goto) 47 59 := ⟨15, by decide +kernel, rfl, by decide⟩
theorem eX12_isAbove_47 : Dc mX12_isAbove 47 (.aload_n 0) 1 48 := ⟨by decide +kernel, rfl⟩
theorem eX12_isAbove_48 : Dc mX12_isAbove 48 (.getfield 44) 3 51 := ⟨by decide +kernel, rfl⟩
theorem eX12_isAbove_51 : Dc mX12_isAbove 51 (.iload 6) 2 53 := ⟨by decide +kernel, rfl⟩
theorem eX12_isAbove_53 : Dc mX12_isAbove 53 (.laload) 1 54 := ⟨by decide +kernel, rfl⟩
theorem eX12_isAbove_54 : Dc mX12_isAbove 54 (.lconst 0) 1 55 := ⟨by decide +kernel, rfl⟩
theorem eX12_isAbove_55 : Dc mX12_isAbove 55 (.lcmp) 1 56 := ⟨by decide +kernel, rfl⟩
theorem eX12_isAbove_56 : Dj mX12_isAbove 56 (.ifCond .ge) 59 63 := ⟨7, by decide +kernel, rfl, by decide⟩
theorem eX12_isAbove_59 : Dc mX12_isAbove 59 (.iconst 1) 1 60 := ⟨by decide +kernel, rfl⟩
theorem eX12_isAbove_60 : Dj mX12_isAbove 60 (.goto) 63 64 := ⟨4, by decide +kernel, rfl, by decide⟩
theorem eX12_isAbove_63 : Dc mX12_isAbove 63 (.iconst 0) 1 64 := ⟨by decide +kernel, rfl⟩
theorem eX12_isAbove_64 : Dc mX12_isAbove 64 (.istore 5) 2 66 := ⟨by decide +kernel, rfl⟩
theorem eX12_isAbove_66 : Dc mX12_isAbove 66 (.iinc 6 1) 3 69 := ⟨by decide +kernel, rfl⟩
theorem eX12_isAbove_69 : Dj mX12_isAbove 69 (.goto) 72 13 := ⟨-56, by decide +kernel, rfl, by decide⟩
theorem eX12_isAbove_72 : Dc mX12_isAbove 72 (.iload 5) 2 74 := ⟨by decide +kernel, rfl⟩
theorem eX12_isAbove_74 : Dc mX12_isAbove 74 (.ireturn) 1 75 := ⟨by decide +kernel, rfl⟩
theorem eX12_isBox_0 : Dc mX12_isBox 0 (.iload_n 1) 1 1 := ⟨by decide +kernel, rfl⟩
theorem eX12_isBox_1 : Dc mX12_isBox 1 (.iconst 0) 1 2 := ⟨by decide +kernel, rfl⟩
theorem eX12_isBox_2 : Dc mX12_isBox 2 (.aload_n 0) 1 3 := ⟨by decide +kernel, rfl⟩
theorem eX12_isBox_3 : Dc mX12_isBox 3 (.getfield 7) 3 6 := ⟨by decide +kernel, rfl⟩
theorem eX12_isBox_6 : Dc mX12_isBox 6 (.iconst 1) 1 7 := ⟨by decide +kernel, rfl⟩
theorem eX12_isBox_7 : Dc mX12_isBox 7 (.iaload) 1 8 := ⟨by decide +kernel, rfl⟩
theorem eX12_isBox_8 : Dc mX12_isBox 8 (.iconst 1) 1 9 := ⟨by decide +kernel, rfl⟩
theorem eX12_isBox_9 : Dc mX12_isBox 9 (.isub) 1 10 := ⟨by decide +kernel, rfl⟩
theorem eX12_isBox_10 : Dc mX12_isBox 10 (.invokestatic 85) 3 13 := ⟨by decide +kernel, rfl⟩
theorem eX12_isBox_13 : Dc mX12_isBox 13 (.ireturn) 1 14 := ⟨by decide +kernel, rfl⟩
theorem eX12_isBroken_0 : Dc mX12_isBroken 0 (.iconst 0) 1 1 := ⟨by decide +kernel, rfl⟩
theorem eX12_isBroken_1 : Dc mX12_isBroken 1 (.istore_n 2) 1 2 := ⟨by decide +kernel, rfl⟩
theorem eX12_isBroken_2 : Dc mX12_isBroken 2 (.iconst 0) 1 3 := ⟨by decide +kernel, rfl⟩
theorem eX12_isBroken_3 : Dc mX12_isBroken 3 (.istore_n 3) 1 4 := ⟨by decide +kernel, rfl⟩
theorem eX12_isBroken_4 : Dc mX12_isBroken 4 (.iload_n 3) 1 5 := ⟨by decide +kernel, rfl⟩
theorem eX12_isBroken_5 : Dc mX12_isBroken 5 (.aload_n 0) 1 6 := ⟨by decide +kernel, rfl⟩
theorem eX12_isBroken_6 : Dc mX12_isBroken 6 (.getfield 7) 3 9 := ⟨by decide +kernel, rfl⟩
theorem eX12_isBroken_9 : Dc mX12_isBroken 9 (.iconst 0) 1 10 := ⟨by decide +kernel, rfl⟩
theorem eX12_isBroken_10 : Dc mX12_isBroken 10 (.iaload) 1 11 := ⟨by decide +kernel, rfl⟩
theorem eX12_isBroken_11 : Dj mX12_isBroken 11 (.if_icmp .ge) 14 62 := ⟨51, by decide +kernel, rfl, by decide⟩
theorem eX12_isBroken_14 : Dc mX12_isBroken 14 (.iload_n 2) 1 15 := ⟨by decide +kernel, rfl⟩
theorem eX12_isBroken_15 : Dj mX12_isBroken 15 (.ifCond .ne) 18 50 := ⟨35, by decide +kernel, rfl, by decide⟩
theorem eX12_isBroken_18 : Dc mX12_isBroken 18 (.aload_n 0) 1 19 := ⟨by decide +kernel, rfl⟩
theorem eX12_isBroken_19 : Dc mX12_isBroken 19 (.getfield 7) 3 22 := ⟨by decide +kernel, rfl⟩
theorem eX12_isBroken_22 : Dc mX12_isBroken 22 (.bipush 29) 2 24 := ⟨by decide +kernel, rfl⟩
theorem eX12_isBroken_24 : Dc mX12_isBroken 24 (.iload_n 3) 1 25 := ⟨by decide +kernel, rfl⟩
theorem eX12_isBroken_25 : Dc mX12_isBroken 25 (.iadd) 1 26 := ⟨by decide +kernel, rfl⟩
theorem eX12_isBroken_26 : Dc mX12_isBroken 26 (.iaload) 1 27 := ⟨by decide +kernel, rfl⟩
theorem eX12_isBroken_27 : Dj mX12_isBroken 27 (.ifCond .eq) 30 54 := ⟨27, by decide +kernel, rfl, by decide⟩
theorem eX12_isBroken_30 : Dc mX12_isBroken 30 (.aload_n 0) 1 31 := ⟨by decide +kernel, rfl⟩
theorem eX12_isBroken_31 : Dc mX12_isBroken 31 (.iload_n 3) 1 32 := ⟨by decide +kernel, rfl⟩
theorem eX12_isBroken_32 : Dc mX12_isBroken 32 (.iload_n 1) 1 33 := ⟨by decide +kernel, rfl⟩
theorem eX12_isBroken_33 : Dc mX12_isBroken 33 (.iconst 0) 1 34 := ⟨by decide +kernel, rfl⟩
theorem eX12_isBroken_34 : Dc mX12_isBroken 34 (.aload_n 0) 1 35 := ⟨by decide +kernel, rfl⟩
theorem eX12_isBroken_35 : Dc mX12_isBroken 35 (.getfield 7) 3 38 := ⟨by decide +kernel, rfl⟩
theorem eX12_isBroken_38 : Dc mX12_isBroken 38 (.bipush 29) 2 40 := ⟨by decide +kernel, rfl⟩
theorem eX12_isBroken_40 : Dc mX12_isBroken 40 (.iload_n 3) 1 41 := ⟨by decide +kernel, rfl⟩
theorem eX12_isBroken_41 : Dc mX12_isBroken 41 (.iadd) 1 42 := ⟨by decide +kernel, rfl⟩
theorem eX12_isBroken_42 : Dc mX12_isBroken 42 (.iaload) 1 43 := ⟨by decide +kernel, rfl⟩
theorem eX12_isBroken_43 : Dc mX12_isBroken 43 (.ineg) 1 44 := ⟨by decide +kernel, rfl⟩
theorem eX12_isBroken_44 : Dc mX12_isBroken 44 (.invokevirtual 212) 3 47 := ⟨by decide +kernel, rfl⟩
theorem eX12_isBroken_47 : Dj mX12_isBroken 47 (.ifCond .eq) 50 54 := ⟨7, by decide +kernel, rfl, by decide⟩
theorem eX12_isBroken_50 : Dc mX12_isBroken 50 (.iconst 1) 1 51 := ⟨by decide +kernel, rfl⟩
theorem eX12_isBroken_51 : Dj mX12_isBroken 51 (.goto) 54 55 := ⟨4, by decide +kernel, rfl, by decide⟩
theorem eX12_isBroken_54 : Dc mX12_isBroken 54 (.iconst 0) 1 55 := ⟨by decide +kernel, rfl⟩
theorem eX12_isBroken_55 : Dc mX12_isBroken 55 (.istore_n 2) 1 56 := ⟨by decide +kernel, rfl⟩
theorem eX12_isBroken_56 : Dc mX12_isBroken 56 (.iinc 3 1) 3 59 := ⟨by decide +kernel, rfl⟩
theorem eX12_isBroken_59 : Dj mX12_isBroken 59 (.goto) 62 4 := ⟨-55, by decide +kernel, rfl, by decide⟩
theorem eX12_isBroken_62 : Dc mX12_isBroken 62 (.iload_n 2) 1 63 := ⟨by decide +kernel, rfl⟩
theorem eX12_isBroken_63 : Dc mX12_isBroken 63 (.ireturn) 1 64 := ⟨by decide +kernel, rfl⟩
theorem eX12_isCoefficient_0 : Dc mX12_isCoefficient 0 (.aload_n 0) 1 1 := ⟨by decide +kernel, rfl⟩
theorem eX12_isCoefficient_1 : Dc mX12_isCoefficient 1 (.iload_n 1) 1 2 := ⟨by decide +kernel, rfl⟩
theorem eX12_isCoefficient_2 : Dc mX12_isCoefficient 2 (.invokevirtual 123) 3 5 := ⟨by decide +kernel, rfl⟩
theorem eX12_isCoefficient_5 : Dj mX12_isCoefficient 5 (.ifCond .eq) 8 28 := ⟨23, by decide +kernel, rfl, by decide⟩
theorem eX12_isCoefficient_8 : Dc mX12_isCoefficient 8 (.iload_n 2) 1 9 := ⟨by decide +kernel, rfl⟩
theorem eX12_isCoefficient_9 : Dc mX12_isCoefficient 9 (.iconst 0) 1 10 := ⟨by decide +kernel, rfl⟩
theorem eX12_isCoefficient_10 : Dc mX12_isCoefficient 10 (.aload_n 0) 1 11 := ⟨by decide +kernel, rfl⟩
theorem eX12_isCoefficient_11 : Dc mX12_isCoefficient 11 (.getfield 7) 3 14 := ⟨by decide +kernel, rfl⟩
theorem eX12_isCoefficient_14 : Dc mX12_isCoefficient 14 (.iconst 2) 1 15 := ⟨by decide +kernel, rfl⟩
theorem eX12_isCoefficient_15 : Dc mX12_isCoefficient 15 (.iload_n 1) 1 16 := ⟨by decide +kernel, rfl⟩
theorem eX12_isCoefficient_16 : Dc mX12_isCoefficient 16 (.iadd) 1 17 := ⟨by decide +kernel, rfl⟩
theorem eX12_isCoefficient_17 : Dc mX12_isCoefficient 17 (.iaload) 1 18 := ⟨by decide +kernel, rfl⟩
theorem eX12_isCoefficient_18 : Dc mX12_isCoefficient 18 (.invokestatic 85) 3 21 := ⟨by decide +kernel, rfl⟩
theorem eX12_isCoefficient_21 : Dj mX12_isCoefficient 21 (.ifCond .eq) 24 28 := ⟨7, by decide +kernel, rfl, by decide⟩
theorem eX12_isCoefficient_24 : Dc mX12_isCoefficient 24 (.iconst 1) 1 25 := ⟨by decide +kernel, rfl⟩
theorem eX12_isCoefficient_25 : Dj mX12_isCoefficient 25 (.goto) 28 29 := ⟨4, by decide +kernel, rfl, by decide⟩
theorem eX12_isCoefficient_28 : Dc mX12_isCoefficient 28 (.iconst 0) 1 29 := ⟨by decide +kernel, rfl⟩
theorem eX12_isCoefficient_29 : Dc mX12_isCoefficient 29 (.ireturn) 1 30 := ⟨by decide +kernel, rfl⟩
theorem eX12_isHeld_0 : Dc mX12_isHeld 0 (.iconst 1) 1 1 := ⟨by decide +kernel, rfl⟩
theorem eX12_isHeld_1 : Dc mX12_isHeld 1 (.istore_n 2) 1 2 := ⟨by decide +kernel, rfl⟩
theorem eX12_isHeld_2 : Dc mX12_isHeld 2 (.iconst 0) 1 3 := ⟨by decide +kernel, rfl⟩
theorem eX12_isHeld_3 : Dc mX12_isHeld 3 (.istore_n 3) 1 4 := ⟨by decide +kernel, rfl⟩
theorem eX12_isHeld_4 : Dc mX12_isHeld 4 (.iload_n 3) 1 5 := ⟨by decide +kernel, rfl⟩
theorem eX12_isHeld_5 : Dc mX12_isHeld 5 (.aload_n 0) 1 6 := ⟨by decide +kernel, rfl⟩
theorem eX12_isHeld_6 : Dc mX12_isHeld 6 (.getfield 7) 3 9 := ⟨by decide +kernel, rfl⟩
theorem eX12_isHeld_9 : Dc mX12_isHeld 9 (.iconst 0) 1 10 := ⟨by decide +kernel, rfl⟩
theorem eX12_isHeld_10 : Dc mX12_isHeld 10 (.iaload) 1 11 := ⟨by decide +kernel, rfl⟩
theorem eX12_isHeld_11 : Dj mX12_isHeld 11 (.if_icmp .ge) 14 61 := ⟨50, by decide +kernel, rfl, by decide⟩
theorem eX12_isHeld_14 : Dc mX12_isHeld 14 (.iload_n 2) 1 15 := ⟨by decide +kernel, rfl⟩
theorem eX12_isHeld_15 : Dj mX12_isHeld 15 (.ifCond .eq) 18 53 := ⟨38, by decide +kernel, rfl, by decide⟩
theorem eX12_isHeld_18 : Dc mX12_isHeld 18 (.aload_n 0) 1 19 := ⟨by decide +kernel, rfl⟩
theorem eX12_isHeld_19 : Dc mX12_isHeld 19 (.getfield 7) 3 22 := ⟨by decide +kernel, rfl⟩
theorem eX12_isHeld_22 : Dc mX12_isHeld 22 (.bipush 29) 2 24 := ⟨by decide +kernel, rfl⟩
theorem eX12_isHeld_24 : Dc mX12_isHeld 24 (.iload_n 3) 1 25 := ⟨by decide +kernel, rfl⟩
theorem eX12_isHeld_25 : Dc mX12_isHeld 25 (.iadd) 1 26 := ⟨by decide +kernel, rfl⟩
theorem eX12_isHeld_26 : Dc mX12_isHeld 26 (.iaload) 1 27 := ⟨by decide +kernel, rfl⟩
theorem eX12_isHeld_27 : Dj mX12_isHeld 27 (.ifCond .eq) 30 49 := ⟨22, by decide +kernel, rfl, by decide⟩
theorem eX12_isHeld_30 : Dc mX12_isHeld 30 (.aload_n 0) 1 31 := ⟨by decide +kernel, rfl⟩
theorem eX12_isHeld_31 : Dc mX12_isHeld 31 (.iload_n 3) 1 32 := ⟨by decide +kernel, rfl⟩
theorem eX12_isHeld_32 : Dc mX12_isHeld 32 (.iload_n 1) 1 33 := ⟨by decide +kernel, rfl⟩
theorem eX12_isHeld_33 : Dc mX12_isHeld 33 (.iconst 0) 1 34 := ⟨by decide +kernel, rfl⟩
theorem eX12_isHeld_34 : Dc mX12_isHeld 34 (.aload_n 0) 1 35 := ⟨by decide +kernel, rfl⟩
theorem eX12_isHeld_35 : Dc mX12_isHeld 35 (.getfield 7) 3 38 := ⟨by decide +kernel, rfl⟩
theorem eX12_isHeld_38 : Dc mX12_isHeld 38 (.bipush 29) 2 40 := ⟨by decide +kernel, rfl⟩
theorem eX12_isHeld_40 : Dc mX12_isHeld 40 (.iload_n 3) 1 41 := ⟨by decide +kernel, rfl⟩
theorem eX12_isHeld_41 : Dc mX12_isHeld 41 (.iadd) 1 42 := ⟨by decide +kernel, rfl⟩
theorem eX12_isHeld_42 : Dc mX12_isHeld 42 (.iaload) 1 43 := ⟨by decide +kernel, rfl⟩
theorem eX12_isHeld_43 : Dc mX12_isHeld 43 (.invokevirtual 212) 3 46 := ⟨by decide +kernel, rfl⟩
theorem eX12_isHeld_46 : Dj mX12_isHeld 46 (.ifCond .eq) 49 53 := ⟨7, by decide +kernel, rfl, by decide⟩
theorem eX12_isHeld_49 : Dc mX12_isHeld 49 (.iconst 1) 1 50 := ⟨by decide +kernel, rfl⟩
theorem eX12_isHeld_50 : Dj mX12_isHeld 50 (.goto) 53 54 := ⟨4, by decide +kernel, rfl, by decide⟩
theorem eX12_isHeld_53 : Dc mX12_isHeld 53 (.iconst 0) 1 54 := ⟨by decide +kernel, rfl⟩
theorem eX12_isHeld_54 : Dc mX12_isHeld 54 (.istore_n 2) 1 55 := ⟨by decide +kernel, rfl⟩
theorem eX12_isHeld_55 : Dc mX12_isHeld 55 (.iinc 3 1) 3 58 := ⟨by decide +kernel, rfl⟩
theorem eX12_isHeld_58 : Dj mX12_isHeld 58 (.goto) 61 4 := ⟨-54, by decide +kernel, rfl, by decide⟩
theorem eX12_isHeld_61 : Dc mX12_isHeld 61 (.iload_n 2) 1 62 := ⟨by decide +kernel, rfl⟩
theorem eX12_isHeld_62 : Dc mX12_isHeld 62 (.ireturn) 1 63 := ⟨by decide +kernel, rfl⟩
theorem eX12_isKind_0 : Dc mX12_isKind 0 (.aload_n 0) 1 1 := ⟨by decide +kernel, rfl⟩
theorem eX12_isKind_1 : Dc mX12_isKind 1 (.getfield 99) 3 4 := ⟨by decide +kernel, rfl⟩
theorem eX12_isKind_4 : Dc mX12_isKind 4 (.aload_n 0) 1 5 := ⟨by decide +kernel, rfl⟩
theorem eX12_isKind_5 : Dc mX12_isKind 5 (.getfield 92) 3 8 := ⟨by decide +kernel, rfl⟩
theorem eX12_isKind_8 : Dj mX12_isKind 8 (.if_icmp .ge) 11 28 := ⟨20, by decide +kernel, rfl, by decide⟩
theorem eX12_isKind_11 : Dc mX12_isKind 11 (.aload_n 0) 1 12 := ⟨by decide +kernel, rfl⟩
theorem eX12_isKind_12 : Dc mX12_isKind 12 (.getfield 35) 3 15 := ⟨by decide +kernel, rfl⟩
theorem eX12_isKind_15 : Dc mX12_isKind 15 (.aload_n 0) 1 16 := ⟨by decide +kernel, rfl⟩
theorem eX12_isKind_16 : Dc mX12_isKind 16 (.getfield 99) 3 19 := ⟨by decide +kernel, rfl⟩
theorem eX12_isKind_19 : Dc mX12_isKind 19 (.iaload) 1 20 := ⟨by decide +kernel, rfl⟩
theorem eX12_isKind_20 : Dc mX12_isKind 20 (.iload_n 1) 1 21 := ⟨by decide +kernel, rfl⟩
theorem eX12_isKind_21 : Dj mX12_isKind 21 (.if_icmp .ne) 24 28 := ⟨7, by decide +kernel, rfl, by decide⟩
theorem eX12_isKind_24 : Dc mX12_isKind 24 (.iconst 1) 1 25 := ⟨by decide +kernel, rfl⟩
theorem eX12_isKind_25 : Dj mX12_isKind 25 (.goto) 28 29 := ⟨4, by decide +kernel, rfl, by decide⟩
theorem eX12_isKind_28 : Dc mX12_isKind 28 (.iconst 0) 1 29 := ⟨by decide +kernel, rfl⟩
theorem eX12_isKind_29 : Dc mX12_isKind 29 (.ireturn) 1 30 := ⟨by decide +kernel, rfl⟩
theorem eX12_isNode_0 : Dc mX12_isNode 0 (.iload_n 0) 1 1 := ⟨by decide +kernel, rfl⟩
theorem eX12_isNode_1 : Dc mX12_isNode 1 (.iconst 1) 1 2 := ⟨by decide +kernel, rfl⟩
theorem eX12_isNode_2 : Dc mX12_isNode 2 (.bipush 127) 2 4 := ⟨by decide +kernel, rfl⟩
theorem eX12_isNode_4 : Dc mX12_isNode 4 (.invokestatic 85) 3 7 := ⟨by decide +kernel, rfl⟩
theorem eX12_isNode_7 : Dc mX12_isNode 7 (.ireturn) 1 8 := ⟨by decide +kernel, rfl⟩
theorem eX12_isPolynomial_0 : Dc mX12_isPolynomial 0 (.iload_n 1) 1 1 := ⟨by decide +kernel, rfl⟩
theorem eX12_isPolynomial_1 : Dc mX12_isPolynomial 1 (.iconst 0) 1 2 := ⟨by decide +kernel, rfl⟩
theorem eX12_isPolynomial_2 : Dc mX12_isPolynomial 2 (.aload_n 0) 1 3 := ⟨by decide +kernel, rfl⟩
theorem eX12_isPolynomial_3 : Dc mX12_isPolynomial 3 (.getfield 7) 3 6 := ⟨by decide +kernel, rfl⟩
theorem eX12_isPolynomial_6 : Dc mX12_isPolynomial 6 (.iconst 0) 1 7 := ⟨by decide +kernel, rfl⟩
theorem eX12_isPolynomial_7 : Dc mX12_isPolynomial 7 (.iaload) 1 8 := ⟨by decide +kernel, rfl⟩
theorem eX12_isPolynomial_8 : Dc mX12_isPolynomial 8 (.iconst 1) 1 9 := ⟨by decide +kernel, rfl⟩
theorem eX12_isPolynomial_9 : Dc mX12_isPolynomial 9 (.isub) 1 10 := ⟨by decide +kernel, rfl⟩
theorem eX12_isPolynomial_10 : Dc mX12_isPolynomial 10 (.invokestatic 85) 3 13 := ⟨by decide +kernel, rfl⟩
theorem eX12_isPolynomial_13 : Dc mX12_isPolynomial 13 (.ireturn) 1 14 := ⟨by decide +kernel, rfl⟩
theorem eX12_isTaken_0 : Dc mX12_isTaken 0 (.aload_n 0) 1 1 := ⟨by decide +kernel, rfl⟩
theorem eX12_isTaken_1 : Dc mX12_isTaken 1 (.aload_n 0) 1 2 := ⟨by decide +kernel, rfl⟩
theorem eX12_isTaken_2 : Dc mX12_isTaken 2 (.getfield 79) 3 5 := ⟨by decide +kernel, rfl⟩
theorem eX12_isTaken_5 : Dc mX12_isTaken 5 (.invokevirtual 123) 3 8 := ⟨by decide +kernel, rfl⟩
theorem eX12_isTaken_8 : Dj mX12_isTaken 8 (.ifCond .eq) 11 26 := ⟨18, by decide +kernel, rfl, by decide⟩
theorem eX12_isTaken_11 : Dc mX12_isTaken 11 (.aload_n 0) 1 12 := ⟨by decide +kernel, rfl⟩
theorem eX12_isTaken_12 : Dc mX12_isTaken 12 (.aload_n 0) 1 13 := ⟨by decide +kernel, rfl⟩
theorem eX12_isTaken_13 : Dc mX12_isTaken 13 (.getfield 82) 3 16 := ⟨by decide +kernel, rfl⟩
theorem eX12_isTaken_16 : Dc mX12_isTaken 16 (.invokevirtual 126) 3 19 := ⟨by decide +kernel, rfl⟩
theorem eX12_isTaken_19 : Dj mX12_isTaken 19 (.ifCond .eq) 22 26 := ⟨7, by decide +kernel, rfl, by decide⟩
theorem eX12_isTaken_22 : Dc mX12_isTaken 22 (.iconst 1) 1 23 := ⟨by decide +kernel, rfl⟩
theorem eX12_isTaken_23 : Dj mX12_isTaken 23 (.goto) 26 27 := ⟨4, by decide +kernel, rfl, by decide⟩
theorem eX12_isTaken_26 : Dc mX12_isTaken 26 (.iconst 0) 1 27 := ⟨by decide +kernel, rfl⟩
theorem eX12_isTaken_27 : Dc mX12_isTaken 27 (.ireturn) 1 28 := ⟨by decide +kernel, rfl⟩
theorem eX12_keep_0 : Dc mX12_keep 0 (.iload_n 1) 1 1 := ⟨by decide +kernel, rfl⟩
theorem eX12_keep_1 : Dc mX12_keep 1 (.iconst 0) 1 2 := ⟨by decide +kernel, rfl⟩
theorem eX12_keep_2 : Dc mX12_keep 2 (.iconst 1) 1 3 := ⟨by decide +kernel, rfl⟩
theorem eX12_keep_3 : Dc mX12_keep 3 (.invokestatic 85) 3 6 := ⟨by decide +kernel, rfl⟩
theorem eX12_keep_6 : Dj mX12_keep 6 (.ifCond .ne) 9 11 := ⟨5, by decide +kernel, rfl, by decide⟩
theorem eX12_keep_9 : Dc mX12_keep 9 (.iconst (-1)) 1 10 := ⟨by decide +kernel, rfl⟩
theorem eX12_keep_10 : Dc mX12_keep 10 (.ireturn) 1 11 := ⟨by decide +kernel, rfl⟩
theorem eX12_keep_11 : Dc mX12_keep 11 (.iconst 0) 1 12 := ⟨by decide +kernel, rfl⟩
theorem eX12_keep_12 : Dc mX12_keep 12 (.istore_n 2) 1 13 := ⟨by decide +kernel, rfl⟩
theorem eX12_keep_13 : Dc mX12_keep 13 (.iload_n 2) 1 14 := ⟨by decide +kernel, rfl⟩
theorem eX12_keep_14 : Dc mX12_keep 14 (.bipush 32) 2 16 := ⟨by decide +kernel, rfl⟩
theorem eX12_keep_16 : Dj mX12_keep 16 (.if_icmp .ge) 19 42 := ⟨26, by decide +kernel, rfl, by decide⟩
theorem eX12_keep_19 : Dc mX12_keep 19 (.aload_n 0) 1 20 := ⟨by decide +kernel, rfl⟩
theorem eX12_keep_20 : Dc mX12_keep 20 (.getfield 16) 3 23 := ⟨by decide +kernel, rfl⟩
theorem eX12_keep_23 : Dc mX12_keep 23 (.bipush 32) 2 25 := ⟨by decide +kernel, rfl⟩
theorem eX12_keep_25 : Dc mX12_keep 25 (.iload_n 1) 1 26 := ⟨by decide +kernel, rfl⟩
theorem eX12_keep_26 : Dc mX12_keep 26 (.imul) 1 27 := ⟨by decide +kernel, rfl⟩
theorem eX12_keep_27 : Dc mX12_keep 27 (.iload_n 2) 1 28 := ⟨by decide +kernel, rfl⟩
theorem eX12_keep_28 : Dc mX12_keep 28 (.iadd) 1 29 := ⟨by decide +kernel, rfl⟩
theorem eX12_keep_29 : Dc mX12_keep 29 (.aload_n 0) 1 30 := ⟨by decide +kernel, rfl⟩
theorem eX12_keep_30 : Dc mX12_keep 30 (.getfield 7) 3 33 := ⟨by decide +kernel, rfl⟩
theorem eX12_keep_33 : Dc mX12_keep 33 (.iload_n 2) 1 34 := ⟨by decide +kernel, rfl⟩
theorem eX12_keep_34 : Dc mX12_keep 34 (.iaload) 1 35 := ⟨by decide +kernel, rfl⟩
theorem eX12_keep_35 : Dc mX12_keep 35 (.iastore) 1 36 := ⟨by decide +kernel, rfl⟩
theorem eX12_keep_36 : Dc mX12_keep 36 (.iinc 2 1) 3 39 := ⟨by decide +kernel, rfl⟩
theorem eX12_keep_39 : Dj mX12_keep 39 (.goto) 42 13 := ⟨-26, by decide +kernel, rfl, by decide⟩
theorem eX12_keep_42 : Dc mX12_keep 42 (.aload_n 0) 1 43 := ⟨by decide +kernel, rfl⟩
theorem eX12_keep_43 : Dc mX12_keep 43 (.getfield 19) 3 46 := ⟨by decide +kernel, rfl⟩
theorem eX12_keep_46 : Dc mX12_keep 46 (.iload_n 1) 1 47 := ⟨by decide +kernel, rfl⟩
theorem eX12_keep_47 : Dc mX12_keep 47 (.iconst 1) 1 48 := ⟨by decide +kernel, rfl⟩
theorem eX12_keep_48 : Dc mX12_keep 48 (.bastore) 1 49 := ⟨by decide +kernel, rfl⟩
theorem eX12_keep_49 : Dc mX12_keep 49 (.aload_n 0) 1 50 := ⟨by decide +kernel, rfl⟩
theorem eX12_keep_50 : Dc mX12_keep 50 (.getfield 7) 3 53 := ⟨by decide +kernel, rfl⟩
theorem eX12_keep_53 : Dc mX12_keep 53 (.iconst 0) 1 54 := ⟨by decide +kernel, rfl⟩
theorem eX12_keep_54 : Dc mX12_keep 54 (.iaload) 1 55 := ⟨by decide +kernel, rfl⟩
theorem eX12_keep_55 : Dc mX12_keep 55 (.ireturn) 1 56 := ⟨by decide +kernel, rfl⟩
theorem eX12_knows_0 : Dc mX12_knows 0 (.aload_n 0) 1 1 := ⟨by decide +kernel, rfl⟩
theorem eX12_knows_1 : Dc mX12_knows 1 (.getfield 72) 3 4 := ⟨by decide +kernel, rfl⟩
theorem eX12_knows_4 : Dc mX12_knows 4 (.bipush 10) 2 6 := ⟨by decide +kernel, rfl⟩
theorem eX12_knows_6 : Dj mX12_knows 6 (.if_icmp .ne) 9 47 := ⟨41, by decide +kernel, rfl, by decide⟩
theorem eX12_knows_9 : Dc mX12_knows 9 (.iconst 0) 1 10 := ⟨by decide +kernel, rfl⟩
theorem eX12_knows_10 : Dc mX12_knows 10 (.istore_n 3) 1 11 := ⟨by decide +kernel, rfl⟩
theorem eX12_knows_11 : Dc mX12_knows 11 (.iload_n 3) 1 12 := ⟨by decide +kernel, rfl⟩
theorem eX12_knows_12 : Dc mX12_knows 12 (.bipush 36) 2 14 := ⟨by decide +kernel, rfl⟩
theorem eX12_knows_14 : Dj mX12_knows 14 (.if_icmp .ge) 17 37 := ⟨23, by decide +kernel, rfl, by decide⟩
theorem eX12_knows_17 : Dc mX12_knows 17 (.aload_n 0) 1 18 := ⟨by decide +kernel, rfl⟩
theorem eX12_knows_18 : Dc mX12_knows 18 (.getfield 23) 3 21 := ⟨by decide +kernel, rfl⟩
theorem eX12_knows_21 : Dc mX12_knows 21 (.iload_n 3) 1 22 := ⟨by decide +kernel, rfl⟩
theorem eX12_knows_22 : Dc mX12_knows 22 (.aload_n 0) 1 23 := ⟨by decide +kernel, rfl⟩
theorem eX12_knows_23 : Dc mX12_knows 23 (.getfield 23) 3 26 := ⟨by decide +kernel, rfl⟩
theorem eX12_knows_26 : Dc mX12_knows 26 (.iload_n 3) 1 27 := ⟨by decide +kernel, rfl⟩
theorem eX12_knows_27 : Dc mX12_knows 27 (.iconst 4) 1 28 := ⟨by decide +kernel, rfl⟩
theorem eX12_knows_28 : Dc mX12_knows 28 (.iadd) 1 29 := ⟨by decide +kernel, rfl⟩
theorem eX12_knows_29 : Dc mX12_knows 29 (.iaload) 1 30 := ⟨by decide +kernel, rfl⟩
theorem eX12_knows_30 : Dc mX12_knows 30 (.iastore) 1 31 := ⟨by decide +kernel, rfl⟩
theorem eX12_knows_31 : Dc mX12_knows 31 (.iinc 3 1) 3 34 := ⟨by decide +kernel, rfl⟩
theorem eX12_knows_34 : Dj mX12_knows 34 (.goto) 37 11 := ⟨-23, by decide +kernel, rfl, by decide⟩
theorem eX12_knows_37 : Dc mX12_knows 37 (.aload_n 0) 1 38 := ⟨by decide +kernel, rfl⟩
theorem eX12_knows_38 : Dc mX12_knows 38 (.dup) 1 39 := ⟨by decide +kernel, rfl⟩
theorem eX12_knows_39 : Dc mX12_knows 39 (.getfield 72) 3 42 := ⟨by decide +kernel, rfl⟩
theorem eX12_knows_42 : Dc mX12_knows 42 (.iconst 1) 1 43 := ⟨by decide +kernel, rfl⟩
theorem eX12_knows_43 : Dc mX12_knows 43 (.isub) 1 44 := ⟨by decide +kernel, rfl⟩
theorem eX12_knows_44 : Dc mX12_knows 44 (.putfield 72) 3 47 := ⟨by decide +kernel, rfl⟩
theorem eX12_knows_47 : Dc mX12_knows 47 (.aload_n 0) 1 48 := ⟨by decide +kernel, rfl⟩
theorem eX12_knows_48 : Dc mX12_knows 48 (.getfield 23) 3 51 := ⟨by decide +kernel, rfl⟩
theorem eX12_knows_51 : Dc mX12_knows 51 (.iconst 4) 1 52 := ⟨by decide +kernel, rfl⟩
theorem eX12_knows_52 : Dc mX12_knows 52 (.aload_n 0) 1 53 := ⟨by decide +kernel, rfl⟩
theorem eX12_knows_53 : Dc mX12_knows 53 (.getfield 72) 3 56 := ⟨by decide +kernel, rfl⟩
theorem eX12_knows_56 : Dc mX12_knows 56 (.imul) 1 57 := ⟨by decide +kernel, rfl⟩
theorem eX12_knows_57 : Dc mX12_knows 57 (.iload_n 1) 1 58 := ⟨by decide +kernel, rfl⟩
theorem eX12_knows_58 : Dc mX12_knows 58 (.iastore) 1 59 := ⟨by decide +kernel, rfl⟩
theorem eX12_knows_59 : Dc mX12_knows 59 (.aload_n 0) 1 60 := ⟨by decide +kernel, rfl⟩
theorem eX12_knows_60 : Dc mX12_knows 60 (.getfield 23) 3 63 := ⟨by decide +kernel, rfl⟩
theorem eX12_knows_63 : Dc mX12_knows 63 (.iconst 4) 1 64 := ⟨by decide +kernel, rfl⟩
theorem eX12_knows_64 : Dc mX12_knows 64 (.aload_n 0) 1 65 := ⟨by decide +kernel, rfl⟩
theorem eX12_knows_65 : Dc mX12_knows 65 (.getfield 72) 3 68 := ⟨by decide +kernel, rfl⟩
theorem eX12_knows_68 : Dc mX12_knows 68 (.imul) 1 69 := ⟨by decide +kernel, rfl⟩
theorem eX12_knows_69 : Dc mX12_knows 69 (.iconst 1) 1 70 := ⟨by decide +kernel, rfl⟩
theorem eX12_knows_70 : Dc mX12_knows 70 (.iadd) 1 71 := ⟨by decide +kernel, rfl⟩
theorem eX12_knows_71 : Dc mX12_knows 71 (.aload_n 0) 1 72 := ⟨by decide +kernel, rfl⟩
theorem eX12_knows_72 : Dc mX12_knows 72 (.getfield 7) 3 75 := ⟨by decide +kernel, rfl⟩
theorem eX12_knows_75 : Dc mX12_knows 75 (.iload_n 1) 1 76 := ⟨by decide +kernel, rfl⟩
theorem eX12_knows_76 : Dc mX12_knows 76 (.iaload) 1 77 := ⟨by decide +kernel, rfl⟩
theorem eX12_knows_77 : Dc mX12_knows 77 (.iastore) 1 78 := ⟨by decide +kernel, rfl⟩
theorem eX12_knows_78 : Dc mX12_knows 78 (.aload_n 0) 1 79 := ⟨by decide +kernel, rfl⟩
theorem eX12_knows_79 : Dc mX12_knows 79 (.getfield 23) 3 82 := ⟨by decide +kernel, rfl⟩
theorem eX12_knows_82 : Dc mX12_knows 82 (.iconst 4) 1 83 := ⟨by decide +kernel, rfl⟩
theorem eX12_knows_83 : Dc mX12_knows 83 (.aload_n 0) 1 84 := ⟨by decide +kernel, rfl⟩
theorem eX12_knows_84 : Dc mX12_knows 84 (.getfield 72) 3 87 := ⟨by decide +kernel, rfl⟩
theorem eX12_knows_87 : Dc mX12_knows 87 (.imul) 1 88 := ⟨by decide +kernel, rfl⟩
theorem eX12_knows_88 : Dc mX12_knows 88 (.iconst 2) 1 89 := ⟨by decide +kernel, rfl⟩
theorem eX12_knows_89 : Dc mX12_knows 89 (.iadd) 1 90 := ⟨by decide +kernel, rfl⟩
theorem eX12_knows_90 : Dc mX12_knows 90 (.iload_n 2) 1 91 := ⟨by decide +kernel, rfl⟩
theorem eX12_knows_91 : Dc mX12_knows 91 (.iastore) 1 92 := ⟨by decide +kernel, rfl⟩
theorem eX12_knows_92 : Dc mX12_knows 92 (.aload_n 0) 1 93 := ⟨by decide +kernel, rfl⟩
theorem eX12_knows_93 : Dc mX12_knows 93 (.getfield 23) 3 96 := ⟨by decide +kernel, rfl⟩
theorem eX12_knows_96 : Dc mX12_knows 96 (.iconst 4) 1 97 := ⟨by decide +kernel, rfl⟩
theorem eX12_knows_97 : Dc mX12_knows 97 (.aload_n 0) 1 98 := ⟨by decide +kernel, rfl⟩
theorem eX12_knows_98 : Dc mX12_knows 98 (.getfield 72) 3 101 := ⟨by decide +kernel, rfl⟩
theorem eX12_knows_101 : Dc mX12_knows 101 (.imul) 1 102 := ⟨by decide +kernel, rfl⟩
theorem eX12_knows_102 : Dc mX12_knows 102 (.iconst 3) 1 103 := ⟨by decide +kernel, rfl⟩
theorem eX12_knows_103 : Dc mX12_knows 103 (.iadd) 1 104 := ⟨by decide +kernel, rfl⟩
theorem eX12_knows_104 : Dc mX12_knows 104 (.aload_n 0) 1 105 := ⟨by decide +kernel, rfl⟩
theorem eX12_knows_105 : Dc mX12_knows 105 (.getfield 7) 3 108 := ⟨by decide +kernel, rfl⟩
theorem eX12_knows_108 : Dc mX12_knows 108 (.iload_n 2) 1 109 := ⟨by decide +kernel, rfl⟩
theorem eX12_knows_109 : Dc mX12_knows 109 (.iaload) 1 110 := ⟨by decide +kernel, rfl⟩
theorem eX12_knows_110 : Dc mX12_knows 110 (.iastore) 1 111 := ⟨by decide +kernel, rfl⟩
theorem eX12_knows_111 : Dc mX12_knows 111 (.aload_n 0) 1 112 := ⟨by decide +kernel, rfl⟩
theorem eX12_knows_112 : Dc mX12_knows 112 (.dup) 1 113 := ⟨by decide +kernel, rfl⟩
theorem eX12_knows_113 : Dc mX12_knows 113 (.getfield 72) 3 116 := ⟨by decide +kernel, rfl⟩
theorem eX12_knows_116 : Dc mX12_knows 116 (.iconst 1) 1 117 := ⟨by decide +kernel, rfl⟩
theorem eX12_knows_117 : Dc mX12_knows 117 (.iadd) 1 118 := ⟨by decide +kernel, rfl⟩
theorem eX12_knows_118 : Dc mX12_knows 118 (.putfield 72) 3 121 := ⟨by decide +kernel, rfl⟩
theorem eX12_knows_121 : Dc mX12_knows 121 (.return_) 1 122 := ⟨by decide +kernel, rfl⟩
theorem eX12_lays_0 : Dc mX12_lays 0 (.aload_n 0) 1 1 := ⟨by decide +kernel, rfl⟩
theorem eX12_lays_1 : Dc mX12_lays 1 (.iload_n 1) 1 2 := ⟨by decide +kernel, rfl⟩
theorem eX12_lays_2 : Dc mX12_lays 2 (.iload_n 2) 1 3 := ⟨by decide +kernel, rfl⟩
theorem eX12_lays_3 : Dc mX12_lays 3 (.invokevirtual 158) 3 6 := ⟨by decide +kernel, rfl⟩
theorem eX12_lays_6 : Dc mX12_lays 6 (.aload_n 0) 1 7 := ⟨by decide +kernel, rfl⟩
theorem eX12_lays_7 : Dc mX12_lays 7 (.getfield 7) 3 10 := ⟨by decide +kernel, rfl⟩
theorem eX12_lays_10 : Dc mX12_lays 10 (.iconst 2) 1 11 := ⟨by decide +kernel, rfl⟩
theorem eX12_lays_11 : Dc mX12_lays 11 (.iload_n 1) 1 12 := ⟨by decide +kernel, rfl⟩
theorem eX12_lays_12 : Dc mX12_lays 12 (.iadd) 1 13 := ⟨by decide +kernel, rfl⟩
theorem eX12_lays_13 : Dc mX12_lays 13 (.iaload) 1 14 := ⟨by decide +kernel, rfl⟩
theorem eX12_lays_14 : Dc mX12_lays 14 (.istore 4) 2 16 := ⟨by decide +kernel, rfl⟩
theorem eX12_lays_16 : Dc mX12_lays 16 (.aload_n 0) 1 17 := ⟨by decide +kernel, rfl⟩
theorem eX12_lays_17 : Dc mX12_lays 17 (.iload 4) 2 19 := ⟨by decide +kernel, rfl⟩
theorem eX12_lays_19 : Dc mX12_lays 19 (.iload_n 3) 1 20 := ⟨by decide +kernel, rfl⟩
theorem eX12_lays_20 : Dc mX12_lays 20 (.iadd) 1 21 := ⟨by decide +kernel, rfl⟩
theorem eX12_lays_21 : Dc mX12_lays 21 (.putfield 161) 3 24 := ⟨by decide +kernel, rfl⟩
theorem eX12_lays_24 : Dc mX12_lays 24 (.lconst 1) 1 25 := ⟨by decide +kernel, rfl⟩
theorem eX12_lays_25 : Dc mX12_lays 25 (.lstore 5) 2 27 := ⟨by decide +kernel, rfl⟩
theorem eX12_lays_27 : Dc mX12_lays 27 (.iconst 0) 1 28 := ⟨by decide +kernel, rfl⟩
theorem eX12_lays_28 : Dc mX12_lays 28 (.istore 7) 2 30 := ⟨by decide +kernel, rfl⟩
theorem eX12_lays_30 : Dc mX12_lays 30 (.iload 7) 2 32 := ⟨by decide +kernel, rfl⟩
theorem eX12_lays_32 : Dc mX12_lays 32 (.iload 4) 2 34 := ⟨by decide +kernel, rfl⟩
theorem eX12_lays_34 : Dj mX12_lays 34 (.if_icmp .gt) 37 69 := ⟨35, by decide +kernel, rfl, by decide⟩
theorem eX12_lays_37 : Dc mX12_lays 37 (.aload_n 0) 1 38 := ⟨by decide +kernel, rfl⟩
theorem eX12_lays_38 : Dc mX12_lays 38 (.getfield 161) 3 41 := ⟨by decide +kernel, rfl⟩
theorem eX12_lays_41 : Dc mX12_lays 41 (.iload 7) 2 43 := ⟨by decide +kernel, rfl⟩
theorem eX12_lays_43 : Dc mX12_lays 43 (.invokestatic 154) 3 46 := ⟨by decide +kernel, rfl⟩
theorem eX12_lays_46 : Dc mX12_lays 46 (.lstore 8) 2 48 := ⟨by decide +kernel, rfl⟩
theorem eX12_lays_48 : Dc mX12_lays 48 (.lload 5) 2 50 := ⟨by decide +kernel, rfl⟩
theorem eX12_lays_50 : Dc mX12_lays 50 (.lload 5) 2 52 := ⟨by decide +kernel, rfl⟩
theorem eX12_lays_52 : Dc mX12_lays 52 (.lload 8) 2 54 := ⟨by decide +kernel, rfl⟩
theorem eX12_lays_54 : Dc mX12_lays 54 (.invokestatic 164) 3 57 := ⟨by decide +kernel, rfl⟩
theorem eX12_lays_57 : Dc mX12_lays 57 (.ldiv) 1 58 := ⟨by decide +kernel, rfl⟩
theorem eX12_lays_58 : Dc mX12_lays 58 (.lload 8) 2 60 := ⟨by decide +kernel, rfl⟩
theorem eX12_lays_60 : Dc mX12_lays 60 (.lmul) 1 61 := ⟨by decide +kernel, rfl⟩
theorem eX12_lays_61 : Dc mX12_lays 61 (.lstore 5) 2 63 := ⟨by decide +kernel, rfl⟩
theorem eX12_lays_63 : Dc mX12_lays 63 (.iinc 7 1) 3 66 := ⟨by decide +kernel, rfl⟩
theorem eX12_lays_66 : Dj mX12_lays 66 (.goto) 69 30 := ⟨-36, by decide +kernel, rfl, by decide⟩
theorem eX12_lays_69 : Dc mX12_lays 69 (.iconst 0) 1 70 := ⟨by decide +kernel, rfl⟩
theorem eX12_lays_70 : Dc mX12_lays 70 (.istore 7) 2 72 := ⟨by decide +kernel, rfl⟩
theorem eX12_lays_72 : Dc mX12_lays 72 (.iload 7) 2 74 := ⟨by decide +kernel, rfl⟩
theorem eX12_lays_74 : Dc mX12_lays 74 (.aload_n 0) 1 75 := ⟨by decide +kernel, rfl⟩
theorem eX12_lays_75 : Dc mX12_lays 75 (.getfield 161) 3 78 := ⟨by decide +kernel, rfl⟩
theorem eX12_lays_78 : Dj mX12_lays 78 (.if_icmp .gt) 81 155 := ⟨77, by decide +kernel, rfl, by decide⟩
theorem eX12_lays_81 : Dc mX12_lays 81 (.lconst 0) 1 82 := ⟨by decide +kernel, rfl⟩
theorem eX12_lays_82 : Dc mX12_lays 82 (.lstore 8) 2 84 := ⟨by decide +kernel, rfl⟩
theorem eX12_lays_84 : Dc mX12_lays 84 (.iconst 0) 1 85 := ⟨by decide +kernel, rfl⟩
theorem eX12_lays_85 : Dc mX12_lays 85 (.istore 10) 2 87 := ⟨by decide +kernel, rfl⟩
theorem eX12_lays_87 : Dc mX12_lays 87 (.iload 10) 2 89 := ⟨by decide +kernel, rfl⟩
theorem eX12_lays_89 : Dc mX12_lays 89 (.iload 7) 2 91 := ⟨by decide +kernel, rfl⟩
theorem eX12_lays_91 : Dj mX12_lays 91 (.if_icmp .gt) 94 140 := ⟨49, by decide +kernel, rfl, by decide⟩
theorem eX12_lays_94 : Dc mX12_lays 94 (.iload 10) 2 96 := ⟨by decide +kernel, rfl⟩
theorem eX12_lays_96 : Dc mX12_lays 96 (.iload 4) 2 98 := ⟨by decide +kernel, rfl⟩
theorem eX12_lays_98 : Dj mX12_lays 98 (.if_icmp .gt) 101 140 := ⟨42, by decide +kernel, rfl, by decide⟩
theorem eX12_lays_101 : Dc mX12_lays 101 (.lload 8) 2 103 := ⟨by decide +kernel, rfl⟩
theorem eX12_lays_103 : Dc mX12_lays 103 (.lload 5) 2 105 := ⟨by decide +kernel, rfl⟩
theorem eX12_lays_105 : Dc mX12_lays 105 (.aload_n 0) 1 106 := ⟨by decide +kernel, rfl⟩
theorem eX12_lays_106 : Dc mX12_lays 106 (.getfield 161) 3 109 := ⟨by decide +kernel, rfl⟩
theorem eX12_lays_109 : Dc mX12_lays 109 (.iload 10) 2 111 := ⟨by decide +kernel, rfl⟩
theorem eX12_lays_111 : Dc mX12_lays 111 (.invokestatic 154) 3 114 := ⟨by decide +kernel, rfl⟩
theorem eX12_lays_114 : Dc mX12_lays 114 (.ldiv) 1 115 := ⟨by decide +kernel, rfl⟩
theorem eX12_lays_115 : Dc mX12_lays 115 (.iload 7) 2 117 := ⟨by decide +kernel, rfl⟩
theorem eX12_lays_117 : Dc mX12_lays 117 (.iload 10) 2 119 := ⟨by decide +kernel, rfl⟩
theorem eX12_lays_119 : Dc mX12_lays 119 (.invokestatic 154) 3 122 := ⟨by decide +kernel, rfl⟩
theorem eX12_lays_122 : Dc mX12_lays 122 (.lmul) 1 123 := ⟨by decide +kernel, rfl⟩
theorem eX12_lays_123 : Dc mX12_lays 123 (.aload_n 0) 1 124 := ⟨by decide +kernel, rfl⟩
theorem eX12_lays_124 : Dc mX12_lays 124 (.getfield 48) 3 127 := ⟨by decide +kernel, rfl⟩
theorem eX12_lays_127 : Dc mX12_lays 127 (.iload 10) 2 129 := ⟨by decide +kernel, rfl⟩
theorem eX12_lays_129 : Dc mX12_lays 129 (.laload) 1 130 := ⟨by decide +kernel, rfl⟩
theorem eX12_lays_130 : Dc mX12_lays 130 (.lmul) 1 131 := ⟨by decide +kernel, rfl⟩
theorem eX12_lays_131 : Dc mX12_lays 131 (.ladd) 1 132 := ⟨by decide +kernel, rfl⟩
theorem eX12_lays_132 : Dc mX12_lays 132 (.lstore 8) 2 134 := ⟨by decide +kernel, rfl⟩
theorem eX12_lays_134 : Dc mX12_lays 134 (.iinc 10 1) 3 137 := ⟨by decide +kernel, rfl⟩
theorem eX12_lays_137 : Dj mX12_lays 137 (.goto) 140 87 := ⟨-50, by decide +kernel, rfl, by decide⟩
theorem eX12_lays_140 : Dc mX12_lays 140 (.aload_n 0) 1 141 := ⟨by decide +kernel, rfl⟩
theorem eX12_lays_141 : Dc mX12_lays 141 (.getfield 44) 3 144 := ⟨by decide +kernel, rfl⟩
theorem eX12_lays_144 : Dc mX12_lays 144 (.iload 7) 2 146 := ⟨by decide +kernel, rfl⟩
theorem eX12_lays_146 : Dc mX12_lays 146 (.lload 8) 2 148 := ⟨by decide +kernel, rfl⟩
theorem eX12_lays_148 : Dc mX12_lays 148 (.lastore) 1 149 := ⟨by decide +kernel, rfl⟩
theorem eX12_lays_149 : Dc mX12_lays 149 (.iinc 7 1) 3 152 := ⟨by decide +kernel, rfl⟩
theorem eX12_lays_152 : Dj mX12_lays 152 (.goto) 155 72 := ⟨-80, by decide +kernel, rfl, by decide⟩
theorem eX12_lays_155 : Dc mX12_lays 155 (.aload_n 0) 1 156 := ⟨by decide +kernel, rfl⟩
theorem eX12_lays_156 : Dc mX12_lays 156 (.lload 5) 2 158 := ⟨by decide +kernel, rfl⟩
theorem eX12_lays_158 : Dc mX12_lays 158 (.ldc2_w 148) 3 161 := ⟨by decide +kernel, rfl⟩
theorem eX12_lays_161 : Dc mX12_lays 161 (.iload 4) 2 163 := ⟨by decide +kernel, rfl⟩
theorem eX12_lays_163 : Dc mX12_lays 163 (.invokestatic 150) 3 166 := ⟨by decide +kernel, rfl⟩
theorem eX12_lays_166 : Dc mX12_lays 166 (.lmul) 1 167 := ⟨by decide +kernel, rfl⟩
theorem eX12_lays_167 : Dc mX12_lays 167 (.putfield 168) 3 170 := ⟨by decide +kernel, rfl⟩
theorem eX12_lays_170 : Dc mX12_lays 170 (.return_) 1 171 := ⟨by decide +kernel, rfl⟩
end
section
theorem eX12_laysOwn_0 : Dc mX12_laysOwn 0 (.aload_n 0) 1 1 := ⟨by decide +kernel, rfl⟩
theorem eX12_laysOwn_1 : Dc mX12_laysOwn 1 (.getfield 7) 3 4 := ⟨by decide +kernel, rfl⟩
theorem eX12_laysOwn_4 : Dc mX12_laysOwn 4 (.iconst 2) 1 5 := ⟨by decide +kernel, rfl⟩
theorem eX12_laysOwn_5 : Dc mX12_laysOwn 5 (.iload_n 1) 1 6 := ⟨by decide +kernel, rfl⟩
theorem eX12_laysOwn_6 : Dc mX12_laysOwn 6 (.iadd) 1 7 := ⟨by decide +kernel, rfl⟩
theorem eX12_laysOwn_7 : Dc mX12_laysOwn 7 (.iaload) 1 8 := ⟨by decide +kernel, rfl⟩
theorem eX12_laysOwn_8 : Dc mX12_laysOwn 8 (.istore_n 3) 1 9 := ⟨by decide +kernel, rfl⟩
theorem eX12_laysOwn_9 : Dc mX12_laysOwn 9 (.aload_n 0) 1 10 := ⟨by decide +kernel, rfl⟩
theorem eX12_laysOwn_10 : Dc mX12_laysOwn 10 (.iload_n 2) 1 11 := ⟨by decide +kernel, rfl⟩
theorem eX12_laysOwn_11 : Dc mX12_laysOwn 11 (.invokevirtual 145) 3 14 := ⟨by decide +kernel, rfl⟩
theorem eX12_laysOwn_14 : Dc mX12_laysOwn 14 (.i2l) 1 15 := ⟨by decide +kernel, rfl⟩
theorem eX12_laysOwn_15 : Dc mX12_laysOwn 15 (.lstore 4) 2 17 := ⟨by decide +kernel, rfl⟩
theorem eX12_laysOwn_17 : Dc mX12_laysOwn 17 (.aload_n 0) 1 18 := ⟨by decide +kernel, rfl⟩
theorem eX12_laysOwn_18 : Dc mX12_laysOwn 18 (.invokevirtual 141) 3 21 := ⟨by decide +kernel, rfl⟩
theorem eX12_laysOwn_21 : Dc mX12_laysOwn 21 (.iload_n 2) 1 22 := ⟨by decide +kernel, rfl⟩
theorem eX12_laysOwn_22 : Dc mX12_laysOwn 22 (.invokestatic 138) 3 25 := ⟨by decide +kernel, rfl⟩
theorem eX12_laysOwn_25 : Dc mX12_laysOwn 25 (.imul) 1 26 := ⟨by decide +kernel, rfl⟩
theorem eX12_laysOwn_26 : Dc mX12_laysOwn 26 (.i2l) 1 27 := ⟨by decide +kernel, rfl⟩
theorem eX12_laysOwn_27 : Dc mX12_laysOwn 27 (.lstore 6) 2 29 := ⟨by decide +kernel, rfl⟩
theorem eX12_laysOwn_29 : Dc mX12_laysOwn 29 (.iconst 0) 1 30 := ⟨by decide +kernel, rfl⟩
theorem eX12_laysOwn_30 : Dc mX12_laysOwn 30 (.istore 8) 2 32 := ⟨by decide +kernel, rfl⟩
theorem eX12_laysOwn_32 : Dc mX12_laysOwn 32 (.iload 8) 2 34 := ⟨by decide +kernel, rfl⟩
theorem eX12_laysOwn_34 : Dc mX12_laysOwn 34 (.iload_n 3) 1 35 := ⟨by decide +kernel, rfl⟩
theorem eX12_laysOwn_35 : Dj mX12_laysOwn 35 (.if_icmp .gt) 38 130 := ⟨95, by decide +kernel, rfl, by decide⟩
theorem eX12_laysOwn_38 : Dc mX12_laysOwn 38 (.lconst 0) 1 39 := ⟨by decide +kernel, rfl⟩
theorem eX12_laysOwn_39 : Dc mX12_laysOwn 39 (.lstore 9) 2 41 := ⟨by decide +kernel, rfl⟩
theorem eX12_laysOwn_41 : Dc mX12_laysOwn 41 (.iload 8) 2 43 := ⟨by decide +kernel, rfl⟩
theorem eX12_laysOwn_43 : Dc mX12_laysOwn 43 (.istore 11) 2 45 := ⟨by decide +kernel, rfl⟩
theorem eX12_laysOwn_45 : Dc mX12_laysOwn 45 (.iload 11) 2 47 := ⟨by decide +kernel, rfl⟩
theorem eX12_laysOwn_47 : Dc mX12_laysOwn 47 (.iload_n 3) 1 48 := ⟨by decide +kernel, rfl⟩
theorem eX12_laysOwn_48 : Dj mX12_laysOwn 48 (.if_icmp .gt) 51 115 := ⟨67, by decide +kernel, rfl, by decide⟩
theorem eX12_laysOwn_51 : Dc mX12_laysOwn 51 (.lload 9) 2 53 := ⟨by decide +kernel, rfl⟩
theorem eX12_laysOwn_53 : Dc mX12_laysOwn 53 (.aload_n 0) 1 54 := ⟨by decide +kernel, rfl⟩
theorem eX12_laysOwn_54 : Dc mX12_laysOwn 54 (.getfield 7) 3 57 := ⟨by decide +kernel, rfl⟩
theorem eX12_laysOwn_57 : Dc mX12_laysOwn 57 (.iconst 5) 1 58 := ⟨by decide +kernel, rfl⟩
theorem eX12_laysOwn_58 : Dc mX12_laysOwn 58 (.bipush 6) 2 60 := ⟨by decide +kernel, rfl⟩
theorem eX12_laysOwn_60 : Dc mX12_laysOwn 60 (.iload_n 1) 1 61 := ⟨by decide +kernel, rfl⟩
theorem eX12_laysOwn_61 : Dc mX12_laysOwn 61 (.imul) 1 62 := ⟨by decide +kernel, rfl⟩
theorem eX12_laysOwn_62 : Dc mX12_laysOwn 62 (.iadd) 1 63 := ⟨by decide +kernel, rfl⟩
theorem eX12_laysOwn_63 : Dc mX12_laysOwn 63 (.iload 11) 2 65 := ⟨by decide +kernel, rfl⟩
theorem eX12_laysOwn_65 : Dc mX12_laysOwn 65 (.iadd) 1 66 := ⟨by decide +kernel, rfl⟩
theorem eX12_laysOwn_66 : Dc mX12_laysOwn 66 (.iaload) 1 67 := ⟨by decide +kernel, rfl⟩
theorem eX12_laysOwn_67 : Dc mX12_laysOwn 67 (.i2l) 1 68 := ⟨by decide +kernel, rfl⟩
theorem eX12_laysOwn_68 : Dc mX12_laysOwn 68 (.ldc2_w 148) 3 71 := ⟨by decide +kernel, rfl⟩
theorem eX12_laysOwn_71 : Dc mX12_laysOwn 71 (.iload_n 3) 1 72 := ⟨by decide +kernel, rfl⟩
theorem eX12_laysOwn_72 : Dc mX12_laysOwn 72 (.iload 11) 2 74 := ⟨by decide +kernel, rfl⟩
theorem eX12_laysOwn_74 : Dc mX12_laysOwn 74 (.isub) 1 75 := ⟨by decide +kernel, rfl⟩
theorem eX12_laysOwn_75 : Dc mX12_laysOwn 75 (.invokestatic 150) 3 78 := ⟨by decide +kernel, rfl⟩
theorem eX12_laysOwn_78 : Dc mX12_laysOwn 78 (.lmul) 1 79 := ⟨by decide +kernel, rfl⟩
theorem eX12_laysOwn_79 : Dc mX12_laysOwn 79 (.iload 11) 2 81 := ⟨by decide +kernel, rfl⟩
theorem eX12_laysOwn_81 : Dc mX12_laysOwn 81 (.iload 8) 2 83 := ⟨by decide +kernel, rfl⟩
theorem eX12_laysOwn_83 : Dc mX12_laysOwn 83 (.invokestatic 154) 3 86 := ⟨by decide +kernel, rfl⟩
theorem eX12_laysOwn_86 : Dc mX12_laysOwn 86 (.lmul) 1 87 := ⟨by decide +kernel, rfl⟩
theorem eX12_laysOwn_87 : Dc mX12_laysOwn 87 (.lload 4) 2 89 := ⟨by decide +kernel, rfl⟩
theorem eX12_laysOwn_89 : Dc mX12_laysOwn 89 (.iload 11) 2 91 := ⟨by decide +kernel, rfl⟩
theorem eX12_laysOwn_91 : Dc mX12_laysOwn 91 (.iload 8) 2 93 := ⟨by decide +kernel, rfl⟩
theorem eX12_laysOwn_93 : Dc mX12_laysOwn 93 (.isub) 1 94 := ⟨by decide +kernel, rfl⟩
theorem eX12_laysOwn_94 : Dc mX12_laysOwn 94 (.invokestatic 150) 3 97 := ⟨by decide +kernel, rfl⟩
theorem eX12_laysOwn_97 : Dc mX12_laysOwn 97 (.lmul) 1 98 := ⟨by decide +kernel, rfl⟩
theorem eX12_laysOwn_98 : Dc mX12_laysOwn 98 (.lload 6) 2 100 := ⟨by decide +kernel, rfl⟩
theorem eX12_laysOwn_100 : Dc mX12_laysOwn 100 (.iload 8) 2 102 := ⟨by decide +kernel, rfl⟩
theorem eX12_laysOwn_102 : Dc mX12_laysOwn 102 (.invokestatic 150) 3 105 := ⟨by decide +kernel, rfl⟩
theorem eX12_laysOwn_105 : Dc mX12_laysOwn 105 (.lmul) 1 106 := ⟨by decide +kernel, rfl⟩
theorem eX12_laysOwn_106 : Dc mX12_laysOwn 106 (.ladd) 1 107 := ⟨by decide +kernel, rfl⟩
theorem eX12_laysOwn_107 : Dc mX12_laysOwn 107 (.lstore 9) 2 109 := ⟨by decide +kernel, rfl⟩
theorem eX12_laysOwn_109 : Dc mX12_laysOwn 109 (.iinc 11 1) 3 112 := ⟨by decide +kernel, rfl⟩
theorem eX12_laysOwn_112 : Dj mX12_laysOwn 112 (.goto) 115 45 := ⟨-67, by decide +kernel, rfl, by decide⟩
theorem eX12_laysOwn_115 : Dc mX12_laysOwn 115 (.aload_n 0) 1 116 := ⟨by decide +kernel, rfl⟩
theorem eX12_laysOwn_116 : Dc mX12_laysOwn 116 (.getfield 48) 3 119 := ⟨by decide +kernel, rfl⟩
theorem eX12_laysOwn_119 : Dc mX12_laysOwn 119 (.iload 8) 2 121 := ⟨by decide +kernel, rfl⟩
theorem eX12_laysOwn_121 : Dc mX12_laysOwn 121 (.lload 9) 2 123 := ⟨by decide +kernel, rfl⟩
theorem eX12_laysOwn_123 : Dc mX12_laysOwn 123 (.lastore) 1 124 := ⟨by decide +kernel, rfl⟩
theorem eX12_laysOwn_124 : Dc mX12_laysOwn 124 (.iinc 8 1) 3 127 := ⟨by decide +kernel, rfl⟩
theorem eX12_laysOwn_127 : Dj mX12_laysOwn 127 (.goto) 130 32 := ⟨-95, by decide +kernel, rfl, by decide⟩
theorem eX12_laysOwn_130 : Dc mX12_laysOwn 130 (.return_) 1 131 := ⟨by decide +kernel, rfl⟩
theorem eX12_leastOf_0 : Dc mX12_leastOf 0 (.aload_n 0) 1 1 := ⟨by decide +kernel, rfl⟩
theorem eX12_leastOf_1 : Dc mX12_leastOf 1 (.aload_n 0) 1 2 := ⟨by decide +kernel, rfl⟩
theorem eX12_leastOf_2 : Dc mX12_leastOf 2 (.getfield 79) 3 5 := ⟨by decide +kernel, rfl⟩
theorem eX12_leastOf_5 : Dc mX12_leastOf 5 (.iload_n 1) 1 6 := ⟨by decide +kernel, rfl⟩
theorem eX12_leastOf_6 : Dc mX12_leastOf 6 (.iconst 0) 1 7 := ⟨by decide +kernel, rfl⟩
theorem eX12_leastOf_7 : Dc mX12_leastOf 7 (.invokevirtual 178) 3 10 := ⟨by decide +kernel, rfl⟩
theorem eX12_leastOf_10 : Dc mX12_leastOf 10 (.aload_n 0) 1 11 := ⟨by decide +kernel, rfl⟩
theorem eX12_leastOf_11 : Dc mX12_leastOf 11 (.getfield 44) 3 14 := ⟨by decide +kernel, rfl⟩
theorem eX12_leastOf_14 : Dc mX12_leastOf 14 (.iconst 0) 1 15 := ⟨by decide +kernel, rfl⟩
theorem eX12_leastOf_15 : Dc mX12_leastOf 15 (.laload) 1 16 := ⟨by decide +kernel, rfl⟩
theorem eX12_leastOf_16 : Dc mX12_leastOf 16 (.lstore_n 2) 1 17 := ⟨by decide +kernel, rfl⟩
theorem eX12_leastOf_17 : Dc mX12_leastOf 17 (.iconst 1) 1 18 := ⟨by decide +kernel, rfl⟩
theorem eX12_leastOf_18 : Dc mX12_leastOf 18 (.istore 4) 2 20 := ⟨by decide +kernel, rfl⟩
theorem eX12_leastOf_20 : Dc mX12_leastOf 20 (.iload 4) 2 22 := ⟨by decide +kernel, rfl⟩
theorem eX12_leastOf_22 : Dc mX12_leastOf 22 (.aload_n 0) 1 23 := ⟨by decide +kernel, rfl⟩
theorem eX12_leastOf_23 : Dc mX12_leastOf 23 (.getfield 161) 3 26 := ⟨by decide +kernel, rfl⟩
theorem eX12_leastOf_26 : Dj mX12_leastOf 26 (.if_icmp .gt) 29 59 := ⟨33, by decide +kernel, rfl, by decide⟩
theorem eX12_leastOf_29 : Dc mX12_leastOf 29 (.aload_n 0) 1 30 := ⟨by decide +kernel, rfl⟩
theorem eX12_leastOf_30 : Dc mX12_leastOf 30 (.getfield 44) 3 33 := ⟨by decide +kernel, rfl⟩
theorem eX12_leastOf_33 : Dc mX12_leastOf 33 (.iload 4) 2 35 := ⟨by decide +kernel, rfl⟩
theorem eX12_leastOf_35 : Dc mX12_leastOf 35 (.laload) 1 36 := ⟨by decide +kernel, rfl⟩
theorem eX12_leastOf_36 : Dc mX12_leastOf 36 (.lload_n 2) 1 37 := ⟨by decide +kernel, rfl⟩
theorem eX12_leastOf_37 : Dc mX12_leastOf 37 (.lcmp) 1 38 := ⟨by decide +kernel, rfl⟩
theorem eX12_leastOf_38 : Dj mX12_leastOf 38 (.ifCond .ge) 41 51 := ⟨13, by decide +kernel, rfl, by decide⟩
theorem eX12_leastOf_41 : Dc mX12_leastOf 41 (.aload_n 0) 1 42 := ⟨by decide +kernel, rfl⟩
theorem eX12_leastOf_42 : Dc mX12_leastOf 42 (.getfield 44) 3 45 := ⟨by decide +kernel, rfl⟩
theorem eX12_leastOf_45 : Dc mX12_leastOf 45 (.iload 4) 2 47 := ⟨by decide +kernel, rfl⟩
theorem eX12_leastOf_47 : Dc mX12_leastOf 47 (.laload) 1 48 := ⟨by decide +kernel, rfl⟩
theorem eX12_leastOf_48 : Dj mX12_leastOf 48 (.goto) 51 52 := ⟨4, by decide +kernel, rfl, by decide⟩
theorem eX12_leastOf_51 : Dc mX12_leastOf 51 (.lload_n 2) 1 52 := ⟨by decide +kernel, rfl⟩
theorem eX12_leastOf_52 : Dc mX12_leastOf 52 (.lstore_n 2) 1 53 := ⟨by decide +kernel, rfl⟩
theorem eX12_leastOf_53 : Dc mX12_leastOf 53 (.iinc 4 1) 3 56 := ⟨by decide +kernel, rfl⟩
theorem eX12_leastOf_56 : Dj mX12_leastOf 56 (.goto) 59 20 := ⟨-36, by decide +kernel, rfl, by decide⟩
theorem eX12_leastOf_59 : Dc mX12_leastOf 59 (.lload_n 2) 1 60 := ⟨by decide +kernel, rfl⟩
theorem eX12_leastOf_60 : Dc mX12_leastOf 60 (.lreturn) 1 61 := ⟨by decide +kernel, rfl⟩
theorem eX12_lengthOf_0 : Dc mX12_lengthOf 0 (.aload_n 0) 1 1 := ⟨by decide +kernel, rfl⟩
theorem eX12_lengthOf_1 : Dc mX12_lengthOf 1 (.getfield 7) 3 4 := ⟨by decide +kernel, rfl⟩
theorem eX12_lengthOf_4 : Dc mX12_lengthOf 4 (.bipush 26) 2 6 := ⟨by decide +kernel, rfl⟩
theorem eX12_lengthOf_6 : Dc mX12_lengthOf 6 (.aload_n 0) 1 7 := ⟨by decide +kernel, rfl⟩
theorem eX12_lengthOf_7 : Dc mX12_lengthOf 7 (.getfield 82) 3 10 := ⟨by decide +kernel, rfl⟩
theorem eX12_lengthOf_10 : Dc mX12_lengthOf 10 (.iadd) 1 11 := ⟨by decide +kernel, rfl⟩
theorem eX12_lengthOf_11 : Dc mX12_lengthOf 11 (.iaload) 1 12 := ⟨by decide +kernel, rfl⟩
theorem eX12_lengthOf_12 : Dc mX12_lengthOf 12 (.aload_n 0) 1 13 := ⟨by decide +kernel, rfl⟩
theorem eX12_lengthOf_13 : Dc mX12_lengthOf 13 (.getfield 7) 3 16 := ⟨by decide +kernel, rfl⟩
theorem eX12_lengthOf_16 : Dc mX12_lengthOf 16 (.bipush 23) 2 18 := ⟨by decide +kernel, rfl⟩
theorem eX12_lengthOf_18 : Dc mX12_lengthOf 18 (.aload_n 0) 1 19 := ⟨by decide +kernel, rfl⟩
theorem eX12_lengthOf_19 : Dc mX12_lengthOf 19 (.getfield 82) 3 22 := ⟨by decide +kernel, rfl⟩
theorem eX12_lengthOf_22 : Dc mX12_lengthOf 22 (.iadd) 1 23 := ⟨by decide +kernel, rfl⟩
theorem eX12_lengthOf_23 : Dc mX12_lengthOf 23 (.iaload) 1 24 := ⟨by decide +kernel, rfl⟩
theorem eX12_lengthOf_24 : Dc mX12_lengthOf 24 (.isub) 1 25 := ⟨by decide +kernel, rfl⟩
theorem eX12_lengthOf_25 : Dc mX12_lengthOf 25 (.ireturn) 1 26 := ⟨by decide +kernel, rfl⟩
theorem eX12_lowOf_0 : Dc mX12_lowOf 0 (.iload_n 1) 1 1 := ⟨by decide +kernel, rfl⟩
theorem eX12_lowOf_1 : Dc mX12_lowOf 1 (.invokestatic 138) 3 4 := ⟨by decide +kernel, rfl⟩
theorem eX12_lowOf_4 : Dc mX12_lowOf 4 (.istore_n 2) 1 5 := ⟨by decide +kernel, rfl⟩
theorem eX12_lowOf_5 : Dc mX12_lowOf 5 (.bipush 64) 2 7 := ⟨by decide +kernel, rfl⟩
theorem eX12_lowOf_7 : Dc mX12_lowOf 7 (.aload_n 0) 1 8 := ⟨by decide +kernel, rfl⟩
theorem eX12_lowOf_8 : Dc mX12_lowOf 8 (.getfield 7) 3 11 := ⟨by decide +kernel, rfl⟩
theorem eX12_lowOf_11 : Dc mX12_lowOf 11 (.bipush 23) 2 13 := ⟨by decide +kernel, rfl⟩
theorem eX12_lowOf_13 : Dc mX12_lowOf 13 (.aload_n 0) 1 14 := ⟨by decide +kernel, rfl⟩
theorem eX12_lowOf_14 : Dc mX12_lowOf 14 (.getfield 82) 3 17 := ⟨by decide +kernel, rfl⟩
theorem eX12_lowOf_17 : Dc mX12_lowOf 17 (.iadd) 1 18 := ⟨by decide +kernel, rfl⟩
theorem eX12_lowOf_18 : Dc mX12_lowOf 18 (.iaload) 1 19 := ⟨by decide +kernel, rfl⟩
theorem eX12_lowOf_19 : Dc mX12_lowOf 19 (.imul) 1 20 := ⟨by decide +kernel, rfl⟩
theorem eX12_lowOf_20 : Dc mX12_lowOf 20 (.aload_n 0) 1 21 := ⟨by decide +kernel, rfl⟩
theorem eX12_lowOf_21 : Dc mX12_lowOf 21 (.invokevirtual 141) 3 24 := ⟨by decide +kernel, rfl⟩
theorem eX12_lowOf_24 : Dc mX12_lowOf 24 (.iload_n 2) 1 25 := ⟨by decide +kernel, rfl⟩
theorem eX12_lowOf_25 : Dc mX12_lowOf 25 (.imul) 1 26 := ⟨by decide +kernel, rfl⟩
theorem eX12_lowOf_26 : Dc mX12_lowOf 26 (.iload_n 1) 1 27 := ⟨by decide +kernel, rfl⟩
theorem eX12_lowOf_27 : Dc mX12_lowOf 27 (.bipush 64) 2 29 := ⟨by decide +kernel, rfl⟩
theorem eX12_lowOf_29 : Dc mX12_lowOf 29 (.iload_n 2) 1 30 := ⟨by decide +kernel, rfl⟩
theorem eX12_lowOf_30 : Dc mX12_lowOf 30 (.idiv) 1 31 := ⟨by decide +kernel, rfl⟩
theorem eX12_lowOf_31 : Dc mX12_lowOf 31 (.isub) 1 32 := ⟨by decide +kernel, rfl⟩
theorem eX12_lowOf_32 : Dc mX12_lowOf 32 (.imul) 1 33 := ⟨by decide +kernel, rfl⟩
theorem eX12_lowOf_33 : Dc mX12_lowOf 33 (.iadd) 1 34 := ⟨by decide +kernel, rfl⟩
theorem eX12_lowOf_34 : Dc mX12_lowOf 34 (.ireturn) 1 35 := ⟨by decide +kernel, rfl⟩
theorem eX12_makes_0 : Dc mX12_makes 0 (.aload_n 0) 1 1 := ⟨by decide +kernel, rfl⟩
theorem eX12_makes_1 : Dc mX12_makes 1 (.invokevirtual 175) 3 4 := ⟨by decide +kernel, rfl⟩
theorem eX12_makes_4 : Dj mX12_makes 4 (.ifCond .eq) 7 14 := ⟨10, by decide +kernel, rfl, by decide⟩
theorem eX12_makes_7 : Dc mX12_makes 7 (.aload_n 0) 1 8 := ⟨by decide +kernel, rfl⟩
theorem eX12_makes_8 : Dc mX12_makes 8 (.invokevirtual 219) 3 11 := ⟨by decide +kernel, rfl⟩
theorem eX12_makes_11 : Dj mX12_makes 11 (.goto) 14 16 := ⟨5, by decide +kernel, rfl, by decide⟩
theorem eX12_makes_14 : Dc mX12_makes 14 (.bipush (-2)) 2 16 := ⟨by decide +kernel, rfl⟩
theorem eX12_makes_16 : Dc mX12_makes 16 (.ireturn) 1 17 := ⟨by decide +kernel, rfl⟩
theorem eX12_narrowed_0 : Dc mX12_narrowed 0 (.iload_n 1) 1 1 := ⟨by decide +kernel, rfl⟩
theorem eX12_narrowed_1 : Dc mX12_narrowed 1 (.iconst 0) 1 2 := ⟨by decide +kernel, rfl⟩
theorem eX12_narrowed_2 : Dc mX12_narrowed 2 (.bipush 20) 2 4 := ⟨by decide +kernel, rfl⟩
theorem eX12_narrowed_4 : Dc mX12_narrowed 4 (.invokestatic 85) 3 7 := ⟨by decide +kernel, rfl⟩
theorem eX12_narrowed_7 : Dj mX12_narrowed 7 (.ifCond .eq) 10 35 := ⟨28, by decide +kernel, rfl, by decide⟩
theorem eX12_narrowed_10 : Dc mX12_narrowed 10 (.iload_n 2) 1 11 := ⟨by decide +kernel, rfl⟩
theorem eX12_narrowed_11 : Dc mX12_narrowed 11 (.iconst 0) 1 12 := ⟨by decide +kernel, rfl⟩
theorem eX12_narrowed_12 : Dc mX12_narrowed 12 (.iconst 1) 1 13 := ⟨by decide +kernel, rfl⟩
theorem eX12_narrowed_13 : Dc mX12_narrowed 13 (.invokestatic 85) 3 16 := ⟨by decide +kernel, rfl⟩
theorem eX12_narrowed_16 : Dj mX12_narrowed 16 (.ifCond .eq) 19 35 := ⟨19, by decide +kernel, rfl, by decide⟩
theorem eX12_narrowed_19 : Dc mX12_narrowed 19 (.iload_n 3) 1 20 := ⟨by decide +kernel, rfl⟩
theorem eX12_narrowed_20 : Dc mX12_narrowed 20 (.iconst 0) 1 21 := ⟨by decide +kernel, rfl⟩
theorem eX12_narrowed_21 : Dc mX12_narrowed 21 (.iconst 1) 1 22 := ⟨by decide +kernel, rfl⟩
theorem eX12_narrowed_22 : Dc mX12_narrowed 22 (.invokestatic 85) 3 25 := ⟨by decide +kernel, rfl⟩
theorem eX12_narrowed_25 : Dj mX12_narrowed 25 (.ifCond .eq) 28 35 := ⟨10, by decide +kernel, rfl, by decide⟩
theorem eX12_narrowed_28 : Dc mX12_narrowed 28 (.aload_n 0) 1 29 := ⟨by decide +kernel, rfl⟩
theorem eX12_narrowed_29 : Dc mX12_narrowed 29 (.invokevirtual 175) 3 32 := ⟨by decide +kernel, rfl⟩
theorem eX12_narrowed_32 : Dj mX12_narrowed 32 (.ifCond .ne) 35 39 := ⟨7, by decide +kernel, rfl, by decide⟩
theorem eX12_narrowed_35 : Dc mX12_narrowed 35 (.ldc2_w 132) 3 38 := ⟨by decide +kernel, rfl⟩
theorem eX12_narrowed_38 : Dc mX12_narrowed 38 (.lreturn) 1 39 := ⟨by decide +kernel, rfl⟩
theorem eX12_narrowed_39 : Dc mX12_narrowed 39 (.aload_n 0) 1 40 := ⟨by decide +kernel, rfl⟩
theorem eX12_narrowed_40 : Dc mX12_narrowed 40 (.iload_n 1) 1 41 := ⟨by decide +kernel, rfl⟩
theorem eX12_narrowed_41 : Dc mX12_narrowed 41 (.invokevirtual 229) 3 44 := ⟨by decide +kernel, rfl⟩
theorem eX12_narrowed_44 : Dc mX12_narrowed 44 (.aload_n 0) 1 45 := ⟨by decide +kernel, rfl⟩
theorem eX12_narrowed_45 : Dc mX12_narrowed 45 (.aload_n 0) 1 46 := ⟨by decide +kernel, rfl⟩
theorem eX12_narrowed_46 : Dc mX12_narrowed 46 (.getfield 63) 3 49 := ⟨by decide +kernel, rfl⟩
theorem eX12_narrowed_49 : Dc mX12_narrowed 49 (.iconst 0) 1 50 := ⟨by decide +kernel, rfl⟩
theorem eX12_narrowed_50 : Dc mX12_narrowed 50 (.iaload) 1 51 := ⟨by decide +kernel, rfl⟩
theorem eX12_narrowed_51 : Dc mX12_narrowed 51 (.invokevirtual 225) 3 54 := ⟨by decide +kernel, rfl⟩
theorem eX12_narrowed_54 : Dc mX12_narrowed 54 (.lstore 4) 2 56 := ⟨by decide +kernel, rfl⟩
theorem eX12_narrowed_56 : Dc mX12_narrowed 56 (.aload_n 0) 1 57 := ⟨by decide +kernel, rfl⟩
theorem eX12_narrowed_57 : Dc mX12_narrowed 57 (.getfield 44) 3 60 := ⟨by decide +kernel, rfl⟩
theorem eX12_narrowed_60 : Dc mX12_narrowed 60 (.iconst 0) 1 61 := ⟨by decide +kernel, rfl⟩
theorem eX12_narrowed_61 : Dc mX12_narrowed 61 (.laload) 1 62 := ⟨by decide +kernel, rfl⟩
theorem eX12_narrowed_62 : Dc mX12_narrowed 62 (.lstore 6) 2 64 := ⟨by decide +kernel, rfl⟩
theorem eX12_narrowed_64 : Dc mX12_narrowed 64 (.iconst 0) 1 65 := ⟨by decide +kernel, rfl⟩
theorem eX12_narrowed_65 : Dc mX12_narrowed 65 (.istore 8) 2 67 := ⟨by decide +kernel, rfl⟩
theorem eX12_narrowed_67 : Dc mX12_narrowed 67 (.iload 8) 2 69 := ⟨by decide +kernel, rfl⟩
theorem eX12_narrowed_69 : Dc mX12_narrowed 69 (.aload_n 0) 1 70 := ⟨by decide +kernel, rfl⟩
theorem eX12_narrowed_70 : Dc mX12_narrowed 70 (.getfield 222) 3 73 := ⟨by decide +kernel, rfl⟩
theorem eX12_narrowed_73 : Dj mX12_narrowed 73 (.if_icmp .ge) 76 168 := ⟨95, by decide +kernel, rfl, by decide⟩
theorem eX12_narrowed_76 : Dc mX12_narrowed 76 (.aload_n 0) 1 77 := ⟨by decide +kernel, rfl⟩
theorem eX12_narrowed_77 : Dc mX12_narrowed 77 (.aload_n 0) 1 78 := ⟨by decide +kernel, rfl⟩
theorem eX12_narrowed_78 : Dc mX12_narrowed 78 (.getfield 63) 3 81 := ⟨by decide +kernel, rfl⟩
theorem eX12_narrowed_81 : Dc mX12_narrowed 81 (.iload 8) 2 83 := ⟨by decide +kernel, rfl⟩
theorem eX12_narrowed_83 : Dc mX12_narrowed 83 (.iaload) 1 84 := ⟨by decide +kernel, rfl⟩
theorem eX12_narrowed_84 : Dc mX12_narrowed 84 (.invokevirtual 225) 3 87 := ⟨by decide +kernel, rfl⟩
theorem eX12_narrowed_87 : Dc mX12_narrowed 87 (.lstore 9) 2 89 := ⟨by decide +kernel, rfl⟩
theorem eX12_narrowed_89 : Dc mX12_narrowed 89 (.lload 9) 2 91 := ⟨by decide +kernel, rfl⟩
theorem eX12_narrowed_91 : Dc mX12_narrowed 91 (.lload 4) 2 93 := ⟨by decide +kernel, rfl⟩
theorem eX12_narrowed_93 : Dc mX12_narrowed 93 (.lcmp) 1 94 := ⟨by decide +kernel, rfl⟩
theorem eX12_narrowed_94 : Dj mX12_narrowed 94 (.ifCond .ge) 97 102 := ⟨8, by decide +kernel, rfl, by decide⟩
theorem eX12_narrowed_97 : Dc mX12_narrowed 97 (.lload 9) 2 99 := ⟨by decide +kernel, rfl⟩
theorem eX12_narrowed_99 : Dj mX12_narrowed 99 (.goto) 102 104 := ⟨5, by decide +kernel, rfl, by decide⟩
theorem eX12_narrowed_102 : Dc mX12_narrowed 102 (.lload 4) 2 104 := ⟨by decide +kernel, rfl⟩
theorem eX12_narrowed_104 : Dc mX12_narrowed 104 (.lstore 4) 2 106 := ⟨by decide +kernel, rfl⟩
theorem eX12_narrowed_106 : Dc mX12_narrowed 106 (.aload_n 0) 1 107 := ⟨by decide +kernel, rfl⟩
theorem eX12_narrowed_107 : Dc mX12_narrowed 107 (.getfield 44) 3 110 := ⟨by decide +kernel, rfl⟩
theorem eX12_narrowed_110 : Dc mX12_narrowed 110 (.iconst 0) 1 111 := ⟨by decide +kernel, rfl⟩
theorem eX12_narrowed_111 : Dc mX12_narrowed 111 (.laload) 1 112 := ⟨by decide +kernel, rfl⟩
theorem eX12_narrowed_112 : Dc mX12_narrowed 112 (.lload 6) 2 114 := ⟨by decide +kernel, rfl⟩
theorem eX12_narrowed_114 : Dc mX12_narrowed 114 (.lcmp) 1 115 := ⟨by decide +kernel, rfl⟩
theorem eX12_narrowed_115 : Dj mX12_narrowed 115 (.ifCond .ge) 118 127 := ⟨12, by decide +kernel, rfl, by decide⟩
theorem eX12_narrowed_118 : Dc mX12_narrowed 118 (.aload_n 0) 1 119 := ⟨by decide +kernel, rfl⟩
theorem eX12_narrowed_119 : Dc mX12_narrowed 119 (.getfield 44) 3 122 := ⟨by decide +kernel, rfl⟩
theorem eX12_narrowed_122 : Dc mX12_narrowed 122 (.iconst 0) 1 123 := ⟨by decide +kernel, rfl⟩
theorem eX12_narrowed_123 : Dc mX12_narrowed 123 (.laload) 1 124 := ⟨by decide +kernel, rfl⟩
theorem eX12_narrowed_124 : Dj mX12_narrowed 124 (.goto) 127 129 := ⟨5, by decide +kernel, rfl, by decide⟩
theorem eX12_narrowed_127 : Dc mX12_narrowed 127 (.lload 6) 2 129 := ⟨by decide +kernel, rfl⟩
theorem eX12_narrowed_129 : Dc mX12_narrowed 129 (.lstore 6) 2 131 := ⟨by decide +kernel, rfl⟩
theorem eX12_narrowed_131 : Dc mX12_narrowed 131 (.aload_n 0) 1 132 := ⟨by decide +kernel, rfl⟩
theorem eX12_narrowed_132 : Dc mX12_narrowed 132 (.getfield 44) 3 135 := ⟨by decide +kernel, rfl⟩
theorem eX12_narrowed_135 : Dc mX12_narrowed 135 (.aload_n 0) 1 136 := ⟨by decide +kernel, rfl⟩
theorem eX12_narrowed_136 : Dc mX12_narrowed 136 (.getfield 161) 3 139 := ⟨by decide +kernel, rfl⟩
theorem eX12_narrowed_139 : Dc mX12_narrowed 139 (.laload) 1 140 := ⟨by decide +kernel, rfl⟩
theorem eX12_narrowed_140 : Dc mX12_narrowed 140 (.lload 6) 2 142 := ⟨by decide +kernel, rfl⟩
theorem eX12_narrowed_142 : Dc mX12_narrowed 142 (.lcmp) 1 143 := ⟨by decide +kernel, rfl⟩
theorem eX12_narrowed_143 : Dj mX12_narrowed 143 (.ifCond .ge) 146 158 := ⟨15, by decide +kernel, rfl, by decide⟩
theorem eX12_narrowed_146 : Dc mX12_narrowed 146 (.aload_n 0) 1 147 := ⟨by decide +kernel, rfl⟩
theorem eX12_narrowed_147 : Dc mX12_narrowed 147 (.getfield 44) 3 150 := ⟨by decide +kernel, rfl⟩
theorem eX12_narrowed_150 : Dc mX12_narrowed 150 (.aload_n 0) 1 151 := ⟨by decide +kernel, rfl⟩
theorem eX12_narrowed_151 : Dc mX12_narrowed 151 (.getfield 161) 3 154 := ⟨by decide +kernel, rfl⟩
theorem eX12_narrowed_154 : Dc mX12_narrowed 154 (.laload) 1 155 := ⟨by decide +kernel, rfl⟩
theorem eX12_narrowed_155 : Dj mX12_narrowed 155 (.goto) 158 160 := ⟨5, by decide +kernel, rfl, by decide⟩
theorem eX12_narrowed_158 : Dc mX12_narrowed 158 (.lload 6) 2 160 := ⟨by decide +kernel, rfl⟩
theorem eX12_narrowed_160 : Dc mX12_narrowed 160 (.lstore 6) 2 162 := ⟨by decide +kernel, rfl⟩
theorem eX12_narrowed_162 : Dc mX12_narrowed 162 (.iinc 8 1) 3 165 := ⟨by decide +kernel, rfl⟩
theorem eX12_narrowed_165 : Dj mX12_narrowed 165 (.goto) 168 67 := ⟨-98, by decide +kernel, rfl, by decide⟩
theorem eX12_narrowed_168 : Dc mX12_narrowed 168 (.iload_n 2) 1 169 := ⟨by decide +kernel, rfl⟩
theorem eX12_narrowed_169 : Dj mX12_narrowed 169 (.ifCond .ne) 172 177 := ⟨8, by decide +kernel, rfl, by decide⟩
theorem eX12_narrowed_172 : Dc mX12_narrowed 172 (.lload 4) 2 174 := ⟨by decide +kernel, rfl⟩
theorem eX12_narrowed_174 : Dj mX12_narrowed 174 (.goto) 177 179 := ⟨5, by decide +kernel, rfl, by decide⟩
theorem eX12_narrowed_177 : Dc mX12_narrowed 177 (.lload 6) 2 179 := ⟨by decide +kernel, rfl⟩
theorem eX12_narrowed_179 : Dc mX12_narrowed 179 (.aload_n 0) 1 180 := ⟨by decide +kernel, rfl⟩
theorem eX12_narrowed_180 : Dc mX12_narrowed 180 (.getfield 168) 3 183 := ⟨by decide +kernel, rfl⟩
theorem eX12_narrowed_183 : Dc mX12_narrowed 183 (.iload_n 3) 1 184 := ⟨by decide +kernel, rfl⟩
theorem eX12_narrowed_184 : Dc mX12_narrowed 184 (.invokestatic 182) 3 187 := ⟨by decide +kernel, rfl⟩
theorem eX12_narrowed_187 : Dc mX12_narrowed 187 (.lreturn) 1 188 := ⟨by decide +kernel, rfl⟩
theorem eX12_narrows_0 : Dc mX12_narrows 0 (.aload_n 0) 1 1 := ⟨by decide +kernel, rfl⟩
theorem eX12_narrows_1 : Dc mX12_narrows 1 (.getfield 63) 3 4 := ⟨by decide +kernel, rfl⟩
theorem eX12_narrows_4 : Dc mX12_narrows 4 (.iconst 0) 1 5 := ⟨by decide +kernel, rfl⟩
theorem eX12_narrows_5 : Dc mX12_narrows 5 (.iconst 1) 1 6 := ⟨by decide +kernel, rfl⟩
theorem eX12_narrows_6 : Dc mX12_narrows 6 (.iastore) 1 7 := ⟨by decide +kernel, rfl⟩
theorem eX12_narrows_7 : Dc mX12_narrows 7 (.aload_n 0) 1 8 := ⟨by decide +kernel, rfl⟩
theorem eX12_narrows_8 : Dc mX12_narrows 8 (.iconst 1) 1 9 := ⟨by decide +kernel, rfl⟩
theorem eX12_narrows_9 : Dc mX12_narrows 9 (.putfield 222) 3 12 := ⟨by decide +kernel, rfl⟩
theorem eX12_narrows_12 : Dc mX12_narrows 12 (.iconst 1) 1 13 := ⟨by decide +kernel, rfl⟩
theorem eX12_narrows_13 : Dc mX12_narrows 13 (.istore_n 2) 1 14 := ⟨by decide +kernel, rfl⟩
theorem eX12_narrows_14 : Dc mX12_narrows 14 (.iconst 0) 1 15 := ⟨by decide +kernel, rfl⟩
theorem eX12_narrows_15 : Dc mX12_narrows 15 (.istore_n 3) 1 16 := ⟨by decide +kernel, rfl⟩
theorem eX12_narrows_16 : Dc mX12_narrows 16 (.iload_n 3) 1 17 := ⟨by decide +kernel, rfl⟩
theorem eX12_narrows_17 : Dc mX12_narrows 17 (.iload_n 1) 1 18 := ⟨by decide +kernel, rfl⟩
theorem eX12_narrows_18 : Dj mX12_narrows 18 (.if_icmp .ge) 21 216 := ⟨198, by decide +kernel, rfl, by decide⟩
theorem eX12_narrows_21 : Dc mX12_narrows 21 (.iload_n 2) 1 22 := ⟨by decide +kernel, rfl⟩
theorem eX12_narrows_22 : Dj mX12_narrows 22 (.ifCond .eq) 25 216 := ⟨194, by decide +kernel, rfl, by decide⟩
theorem eX12_narrows_25 : Dc mX12_narrows 25 (.iconst 0) 1 26 := ⟨by decide +kernel, rfl⟩
theorem eX12_narrows_26 : Dc mX12_narrows 26 (.istore 4) 2 28 := ⟨by decide +kernel, rfl⟩
theorem eX12_narrows_28 : Dc mX12_narrows 28 (.aload_n 0) 1 29 := ⟨by decide +kernel, rfl⟩
theorem eX12_narrows_29 : Dc mX12_narrows 29 (.aload_n 0) 1 30 := ⟨by decide +kernel, rfl⟩
theorem eX12_narrows_30 : Dc mX12_narrows 30 (.getfield 63) 3 33 := ⟨by decide +kernel, rfl⟩
theorem eX12_narrows_33 : Dc mX12_narrows 33 (.iconst 0) 1 34 := ⟨by decide +kernel, rfl⟩
theorem eX12_narrows_34 : Dc mX12_narrows 34 (.iaload) 1 35 := ⟨by decide +kernel, rfl⟩
theorem eX12_narrows_35 : Dc mX12_narrows 35 (.invokevirtual 225) 3 38 := ⟨by decide +kernel, rfl⟩
theorem eX12_narrows_38 : Dc mX12_narrows 38 (.lstore 5) 2 40 := ⟨by decide +kernel, rfl⟩
theorem eX12_narrows_40 : Dc mX12_narrows 40 (.iconst 1) 1 41 := ⟨by decide +kernel, rfl⟩
theorem eX12_narrows_41 : Dc mX12_narrows 41 (.istore 7) 2 43 := ⟨by decide +kernel, rfl⟩
theorem eX12_narrows_43 : Dc mX12_narrows 43 (.iload 7) 2 45 := ⟨by decide +kernel, rfl⟩
theorem eX12_narrows_45 : Dc mX12_narrows 45 (.aload_n 0) 1 46 := ⟨by decide +kernel, rfl⟩
theorem eX12_narrows_46 : Dc mX12_narrows 46 (.getfield 222) 3 49 := ⟨by decide +kernel, rfl⟩
theorem eX12_narrows_49 : Dj mX12_narrows 49 (.if_icmp .ge) 52 105 := ⟨56, by decide +kernel, rfl, by decide⟩
theorem eX12_narrows_52 : Dc mX12_narrows 52 (.aload_n 0) 1 53 := ⟨by decide +kernel, rfl⟩
theorem eX12_narrows_53 : Dc mX12_narrows 53 (.aload_n 0) 1 54 := ⟨by decide +kernel, rfl⟩
theorem eX12_narrows_54 : Dc mX12_narrows 54 (.getfield 63) 3 57 := ⟨by decide +kernel, rfl⟩
theorem eX12_narrows_57 : Dc mX12_narrows 57 (.iload 7) 2 59 := ⟨by decide +kernel, rfl⟩
theorem eX12_narrows_59 : Dc mX12_narrows 59 (.iaload) 1 60 := ⟨by decide +kernel, rfl⟩
theorem eX12_narrows_60 : Dc mX12_narrows 60 (.invokevirtual 225) 3 63 := ⟨by decide +kernel, rfl⟩
theorem eX12_narrows_63 : Dc mX12_narrows 63 (.lstore 8) 2 65 := ⟨by decide +kernel, rfl⟩
theorem eX12_narrows_65 : Dc mX12_narrows 65 (.lload 8) 2 67 := ⟨by decide +kernel, rfl⟩
theorem eX12_narrows_67 : Dc mX12_narrows 67 (.lload 5) 2 69 := ⟨by decide +kernel, rfl⟩
theorem eX12_narrows_69 : Dc mX12_narrows 69 (.lcmp) 1 70 := ⟨by decide +kernel, rfl⟩
theorem eX12_narrows_70 : Dj mX12_narrows 70 (.ifCond .ge) 73 78 := ⟨8, by decide +kernel, rfl, by decide⟩
theorem eX12_narrows_73 : Dc mX12_narrows 73 (.iload 7) 2 75 := ⟨by decide +kernel, rfl⟩
theorem eX12_narrows_75 : Dj mX12_narrows 75 (.goto) 78 80 := ⟨5, by decide +kernel, rfl, by decide⟩
theorem eX12_narrows_78 : Dc mX12_narrows 78 (.iload 4) 2 80 := ⟨by decide +kernel, rfl⟩
theorem eX12_narrows_80 : Dc mX12_narrows 80 (.istore 4) 2 82 := ⟨by decide +kernel, rfl⟩
theorem eX12_narrows_82 : Dc mX12_narrows 82 (.lload 8) 2 84 := ⟨by decide +kernel, rfl⟩
theorem eX12_narrows_84 : Dc mX12_narrows 84 (.lload 5) 2 86 := ⟨by decide +kernel, rfl⟩
theorem eX12_narrows_86 : Dc mX12_narrows 86 (.lcmp) 1 87 := ⟨by decide +kernel, rfl⟩
theorem eX12_narrows_87 : Dj mX12_narrows 87 (.ifCond .ge) 90 95 := ⟨8, by decide +kernel, rfl, by decide⟩
theorem eX12_narrows_90 : Dc mX12_narrows 90 (.lload 8) 2 92 := ⟨by decide +kernel, rfl⟩
theorem eX12_narrows_92 : Dj mX12_narrows 92 (.goto) 95 97 := ⟨5, by decide +kernel, rfl, by decide⟩
theorem eX12_narrows_95 : Dc mX12_narrows 95 (.lload 5) 2 97 := ⟨by decide +kernel, rfl⟩
theorem eX12_narrows_97 : Dc mX12_narrows 97 (.lstore 5) 2 99 := ⟨by decide +kernel, rfl⟩
theorem eX12_narrows_99 : Dc mX12_narrows 99 (.iinc 7 1) 3 102 := ⟨by decide +kernel, rfl⟩
theorem eX12_narrows_102 : Dj mX12_narrows 102 (.goto) 105 43 := ⟨-59, by decide +kernel, rfl, by decide⟩
theorem eX12_narrows_105 : Dc mX12_narrows 105 (.aload_n 0) 1 106 := ⟨by decide +kernel, rfl⟩
theorem eX12_narrows_106 : Dc mX12_narrows 106 (.getfield 63) 3 109 := ⟨by decide +kernel, rfl⟩
theorem eX12_narrows_109 : Dc mX12_narrows 109 (.iload 4) 2 111 := ⟨by decide +kernel, rfl⟩
theorem eX12_narrows_111 : Dc mX12_narrows 111 (.iaload) 1 112 := ⟨by decide +kernel, rfl⟩
theorem eX12_narrows_112 : Dc mX12_narrows 112 (.bipush 64) 2 114 := ⟨by decide +kernel, rfl⟩
theorem eX12_narrows_114 : Dj mX12_narrows 114 (.if_icmp .ge) 117 121 := ⟨7, by decide +kernel, rfl, by decide⟩
theorem eX12_narrows_117 : Dc mX12_narrows 117 (.iconst 1) 1 118 := ⟨by decide +kernel, rfl⟩
theorem eX12_narrows_118 : Dj mX12_narrows 118 (.goto) 121 122 := ⟨4, by decide +kernel, rfl, by decide⟩
theorem eX12_narrows_121 : Dc mX12_narrows 121 (.iconst 0) 1 122 := ⟨by decide +kernel, rfl⟩
theorem eX12_narrows_122 : Dc mX12_narrows 122 (.istore_n 2) 1 123 := ⟨by decide +kernel, rfl⟩
theorem eX12_narrows_123 : Dc mX12_narrows 123 (.iload_n 2) 1 124 := ⟨by decide +kernel, rfl⟩
theorem eX12_narrows_124 : Dj mX12_narrows 124 (.ifCond .eq) 127 210 := ⟨86, by decide +kernel, rfl, by decide⟩
theorem eX12_narrows_127 : Dc mX12_narrows 127 (.aload_n 0) 1 128 := ⟨by decide +kernel, rfl⟩
theorem eX12_narrows_128 : Dc mX12_narrows 128 (.getfield 222) 3 131 := ⟨by decide +kernel, rfl⟩
theorem eX12_narrows_131 : Dc mX12_narrows 131 (.istore 7) 2 133 := ⟨by decide +kernel, rfl⟩
theorem eX12_narrows_133 : Dc mX12_narrows 133 (.iload 7) 2 135 := ⟨by decide +kernel, rfl⟩
theorem eX12_narrows_135 : Dc mX12_narrows 135 (.iload 4) 2 137 := ⟨by decide +kernel, rfl⟩
theorem eX12_narrows_137 : Dc mX12_narrows 137 (.iconst 1) 1 138 := ⟨by decide +kernel, rfl⟩
theorem eX12_narrows_138 : Dc mX12_narrows 138 (.iadd) 1 139 := ⟨by decide +kernel, rfl⟩
theorem eX12_narrows_139 : Dj mX12_narrows 139 (.if_icmp .le) 142 164 := ⟨25, by decide +kernel, rfl, by decide⟩
theorem eX12_narrows_142 : Dc mX12_narrows 142 (.aload_n 0) 1 143 := ⟨by decide +kernel, rfl⟩
theorem eX12_narrows_143 : Dc mX12_narrows 143 (.getfield 63) 3 146 := ⟨by decide +kernel, rfl⟩
theorem eX12_narrows_146 : Dc mX12_narrows 146 (.iload 7) 2 148 := ⟨by decide +kernel, rfl⟩
theorem eX12_narrows_148 : Dc mX12_narrows 148 (.aload_n 0) 1 149 := ⟨by decide +kernel, rfl⟩
theorem eX12_narrows_149 : Dc mX12_narrows 149 (.getfield 63) 3 152 := ⟨by decide +kernel, rfl⟩
theorem eX12_narrows_152 : Dc mX12_narrows 152 (.iload 7) 2 154 := ⟨by decide +kernel, rfl⟩
theorem eX12_narrows_154 : Dc mX12_narrows 154 (.iconst 1) 1 155 := ⟨by decide +kernel, rfl⟩
theorem eX12_narrows_155 : Dc mX12_narrows 155 (.isub) 1 156 := ⟨by decide +kernel, rfl⟩
theorem eX12_narrows_156 : Dc mX12_narrows 156 (.iaload) 1 157 := ⟨by decide +kernel, rfl⟩
theorem eX12_narrows_157 : Dc mX12_narrows 157 (.iastore) 1 158 := ⟨by decide +kernel, rfl⟩
theorem eX12_narrows_158 : Dc mX12_narrows 158 (.iinc 7 (-1)) 3 161 := ⟨by decide +kernel, rfl⟩
theorem eX12_narrows_161 : Dj mX12_narrows 161 (.goto) 164 133 := ⟨-28, by decide +kernel, rfl, by decide⟩
theorem eX12_narrows_164 : Dc mX12_narrows 164 (.aload_n 0) 1 165 := ⟨by decide +kernel, rfl⟩
theorem eX12_narrows_165 : Dc mX12_narrows 165 (.getfield 63) 3 168 := ⟨by decide +kernel, rfl⟩
theorem eX12_narrows_168 : Dc mX12_narrows 168 (.iload 4) 2 170 := ⟨by decide +kernel, rfl⟩
theorem eX12_narrows_170 : Dc mX12_narrows 170 (.iconst 1) 1 171 := ⟨by decide +kernel, rfl⟩
theorem eX12_narrows_171 : Dc mX12_narrows 171 (.iadd) 1 172 := ⟨by decide +kernel, rfl⟩
theorem eX12_narrows_172 : Dc mX12_narrows 172 (.iconst 2) 1 173 := ⟨by decide +kernel, rfl⟩
theorem eX12_narrows_173 : Dc mX12_narrows 173 (.aload_n 0) 1 174 := ⟨by decide +kernel, rfl⟩
theorem eX12_narrows_174 : Dc mX12_narrows 174 (.getfield 63) 3 177 := ⟨by decide +kernel, rfl⟩
theorem eX12_narrows_177 : Dc mX12_narrows 177 (.iload 4) 2 179 := ⟨by decide +kernel, rfl⟩
theorem eX12_narrows_179 : Dc mX12_narrows 179 (.iaload) 1 180 := ⟨by decide +kernel, rfl⟩
theorem eX12_narrows_180 : Dc mX12_narrows 180 (.imul) 1 181 := ⟨by decide +kernel, rfl⟩
theorem eX12_narrows_181 : Dc mX12_narrows 181 (.iconst 1) 1 182 := ⟨by decide +kernel, rfl⟩
theorem eX12_narrows_182 : Dc mX12_narrows 182 (.iadd) 1 183 := ⟨by decide +kernel, rfl⟩
theorem eX12_narrows_183 : Dc mX12_narrows 183 (.iastore) 1 184 := ⟨by decide +kernel, rfl⟩
theorem eX12_narrows_184 : Dc mX12_narrows 184 (.aload_n 0) 1 185 := ⟨by decide +kernel, rfl⟩
theorem eX12_narrows_185 : Dc mX12_narrows 185 (.getfield 63) 3 188 := ⟨by decide +kernel, rfl⟩
theorem eX12_narrows_188 : Dc mX12_narrows 188 (.iload 4) 2 190 := ⟨by decide +kernel, rfl⟩
theorem eX12_narrows_190 : Dc mX12_narrows 190 (.iconst 2) 1 191 := ⟨by decide +kernel, rfl⟩
theorem eX12_narrows_191 : Dc mX12_narrows 191 (.aload_n 0) 1 192 := ⟨by decide +kernel, rfl⟩
theorem eX12_narrows_192 : Dc mX12_narrows 192 (.getfield 63) 3 195 := ⟨by decide +kernel, rfl⟩
theorem eX12_narrows_195 : Dc mX12_narrows 195 (.iload 4) 2 197 := ⟨by decide +kernel, rfl⟩
theorem eX12_narrows_197 : Dc mX12_narrows 197 (.iaload) 1 198 := ⟨by decide +kernel, rfl⟩
theorem eX12_narrows_198 : Dc mX12_narrows 198 (.imul) 1 199 := ⟨by decide +kernel, rfl⟩
theorem eX12_narrows_199 : Dc mX12_narrows 199 (.iastore) 1 200 := ⟨by decide +kernel, rfl⟩
theorem eX12_narrows_200 : Dc mX12_narrows 200 (.aload_n 0) 1 201 := ⟨by decide +kernel, rfl⟩
theorem eX12_narrows_201 : Dc mX12_narrows 201 (.dup) 1 202 := ⟨by decide +kernel, rfl⟩
theorem eX12_narrows_202 : Dc mX12_narrows 202 (.getfield 222) 3 205 := ⟨by decide +kernel, rfl⟩
theorem eX12_narrows_205 : Dc mX12_narrows 205 (.iconst 1) 1 206 := ⟨by decide +kernel, rfl⟩
theorem eX12_narrows_206 : Dc mX12_narrows 206 (.iadd) 1 207 := ⟨by decide +kernel, rfl⟩
theorem eX12_narrows_207 : Dc mX12_narrows 207 (.putfield 222) 3 210 := ⟨by decide +kernel, rfl⟩
theorem eX12_narrows_210 : Dc mX12_narrows 210 (.iinc 3 1) 3 213 := ⟨by decide +kernel, rfl⟩
theorem eX12_narrows_213 : Dj mX12_narrows 213 (.goto) 216 16 := ⟨-197, by decide +kernel, rfl, by decide⟩
theorem eX12_narrows_216 : Dc mX12_narrows 216 (.return_) 1 217 := ⟨by decide +kernel, rfl⟩
theorem eX12_numbered_0 : Dc mX12_numbered 0 (.iload_n 1) 1 1 := ⟨by decide +kernel, rfl⟩
theorem eX12_numbered_1 : Dc mX12_numbered 1 (.istore_n 2) 1 2 := ⟨by decide +kernel, rfl⟩
theorem eX12_numbered_2 : Dc mX12_numbered 2 (.iconst 0) 1 3 := ⟨by decide +kernel, rfl⟩
theorem eX12_numbered_3 : Dc mX12_numbered 3 (.istore_n 3) 1 4 := ⟨by decide +kernel, rfl⟩
theorem eX12_numbered_4 : Dc mX12_numbered 4 (.iload_n 2) 1 5 := ⟨by decide +kernel, rfl⟩
theorem eX12_numbered_5 : Dc mX12_numbered 5 (.aload_n 0) 1 6 := ⟨by decide +kernel, rfl⟩
theorem eX12_numbered_6 : Dc mX12_numbered 6 (.getfield 89) 3 9 := ⟨by decide +kernel, rfl⟩
theorem eX12_numbered_9 : Dj mX12_numbered 9 (.if_icmp .ge) 12 59 := ⟨50, by decide +kernel, rfl, by decide⟩
theorem eX12_numbered_12 : Dc mX12_numbered 12 (.aload_n 0) 1 13 := ⟨by decide +kernel, rfl⟩
theorem eX12_numbered_13 : Dc mX12_numbered 13 (.getfield 32) 3 16 := ⟨by decide +kernel, rfl⟩
theorem eX12_numbered_16 : Dc mX12_numbered 16 (.iload_n 2) 1 17 := ⟨by decide +kernel, rfl⟩
theorem eX12_numbered_17 : Dc mX12_numbered 17 (.iaload) 1 18 := ⟨by decide +kernel, rfl⟩
theorem eX12_numbered_18 : Dc mX12_numbered 18 (.bipush 48) 2 20 := ⟨by decide +kernel, rfl⟩
theorem eX12_numbered_20 : Dc mX12_numbered 20 (.bipush 57) 2 22 := ⟨by decide +kernel, rfl⟩
theorem eX12_numbered_22 : Dc mX12_numbered 22 (.invokestatic 85) 3 25 := ⟨by decide +kernel, rfl⟩
theorem eX12_numbered_25 : Dj mX12_numbered 25 (.ifCond .eq) 28 59 := ⟨34, by decide +kernel, rfl, by decide⟩
theorem eX12_numbered_28 : Dc mX12_numbered 28 (.iload_n 3) 1 29 := ⟨by decide +kernel, rfl⟩
theorem eX12_numbered_29 : Dc mX12_numbered 29 (.bipush 100) 2 31 := ⟨by decide +kernel, rfl⟩
theorem eX12_numbered_31 : Dj mX12_numbered 31 (.if_icmp .ge) 34 51 := ⟨20, by decide +kernel, rfl, by decide⟩
theorem eX12_numbered_34 : Dc mX12_numbered 34 (.bipush 10) 2 36 := ⟨by decide +kernel, rfl⟩
theorem eX12_numbered_36 : Dc mX12_numbered 36 (.iload_n 3) 1 37 := ⟨by decide +kernel, rfl⟩
theorem eX12_numbered_37 : Dc mX12_numbered 37 (.imul) 1 38 := ⟨by decide +kernel, rfl⟩
theorem eX12_numbered_38 : Dc mX12_numbered 38 (.aload_n 0) 1 39 := ⟨by decide +kernel, rfl⟩
theorem eX12_numbered_39 : Dc mX12_numbered 39 (.getfield 32) 3 42 := ⟨by decide +kernel, rfl⟩
theorem eX12_numbered_42 : Dc mX12_numbered 42 (.iload_n 2) 1 43 := ⟨by decide +kernel, rfl⟩
theorem eX12_numbered_43 : Dc mX12_numbered 43 (.iaload) 1 44 := ⟨by decide +kernel, rfl⟩
theorem eX12_numbered_44 : Dc mX12_numbered 44 (.iadd) 1 45 := ⟨by decide +kernel, rfl⟩
theorem eX12_numbered_45 : Dc mX12_numbered 45 (.bipush 48) 2 47 := ⟨by decide +kernel, rfl⟩
theorem eX12_numbered_47 : Dc mX12_numbered 47 (.isub) 1 48 := ⟨by decide +kernel, rfl⟩
theorem eX12_numbered_48 : Dj mX12_numbered 48 (.goto) 51 52 := ⟨4, by decide +kernel, rfl, by decide⟩
theorem eX12_numbered_51 : Dc mX12_numbered 51 (.iload_n 3) 1 52 := ⟨by decide +kernel, rfl⟩
theorem eX12_numbered_52 : Dc mX12_numbered 52 (.istore_n 3) 1 53 := ⟨by decide +kernel, rfl⟩
theorem eX12_numbered_53 : Dc mX12_numbered 53 (.iinc 2 1) 3 56 := ⟨by decide +kernel, rfl⟩
theorem eX12_numbered_56 : Dj mX12_numbered 56 (.goto) 59 4 := ⟨-52, by decide +kernel, rfl, by decide⟩
theorem eX12_numbered_59 : Dc mX12_numbered 59 (.aload_n 0) 1 60 := ⟨by decide +kernel, rfl⟩
theorem eX12_numbered_60 : Dc mX12_numbered 60 (.getfield 35) 3 63 := ⟨by decide +kernel, rfl⟩
theorem eX12_numbered_63 : Dc mX12_numbered 63 (.aload_n 0) 1 64 := ⟨by decide +kernel, rfl⟩
theorem eX12_numbered_64 : Dc mX12_numbered 64 (.getfield 92) 3 67 := ⟨by decide +kernel, rfl⟩
theorem eX12_numbered_67 : Dc mX12_numbered 67 (.iload_n 3) 1 68 := ⟨by decide +kernel, rfl⟩
theorem eX12_numbered_68 : Dc mX12_numbered 68 (.bipush 99) 2 70 := ⟨by decide +kernel, rfl⟩
theorem eX12_numbered_70 : Dj mX12_numbered 70 (.if_icmp .gt) 73 91 := ⟨21, by decide +kernel, rfl, by decide⟩
theorem eX12_numbered_73 : Dc mX12_numbered 73 (.aload_n 0) 1 74 := ⟨by decide +kernel, rfl⟩
theorem eX12_numbered_74 : Dc mX12_numbered 74 (.getfield 32) 3 77 := ⟨by decide +kernel, rfl⟩
theorem eX12_numbered_77 : Dc mX12_numbered 77 (.iload_n 1) 1 78 := ⟨by decide +kernel, rfl⟩
theorem eX12_numbered_78 : Dc mX12_numbered 78 (.iaload) 1 79 := ⟨by decide +kernel, rfl⟩
theorem eX12_numbered_79 : Dc mX12_numbered 79 (.bipush 48) 2 81 := ⟨by decide +kernel, rfl⟩
theorem eX12_numbered_81 : Dj mX12_numbered 81 (.if_icmp .ne) 84 95 := ⟨14, by decide +kernel, rfl, by decide⟩
theorem eX12_numbered_84 : Dc mX12_numbered 84 (.iload_n 2) 1 85 := ⟨by decide +kernel, rfl⟩
theorem eX12_numbered_85 : Dc mX12_numbered 85 (.iload_n 1) 1 86 := ⟨by decide +kernel, rfl⟩
theorem eX12_numbered_86 : Dc mX12_numbered 86 (.iconst 1) 1 87 := ⟨by decide +kernel, rfl⟩
theorem eX12_numbered_87 : Dc mX12_numbered 87 (.iadd) 1 88 := ⟨by decide +kernel, rfl⟩
theorem eX12_numbered_88 : Dj mX12_numbered 88 (.if_icmp .le) 91 95 := ⟨7, by decide +kernel, rfl, by decide⟩
theorem eX12_numbered_91 : Dc mX12_numbered 91 (.iconst 2) 1 92 := ⟨by decide +kernel, rfl⟩
theorem eX12_numbered_92 : Dj mX12_numbered 92 (.goto) 95 96 := ⟨4, by decide +kernel, rfl, by decide⟩
theorem eX12_numbered_95 : Dc mX12_numbered 95 (.iconst 1) 1 96 := ⟨by decide +kernel, rfl⟩
theorem eX12_numbered_96 : Dc mX12_numbered 96 (.iastore) 1 97 := ⟨by decide +kernel, rfl⟩
theorem eX12_numbered_97 : Dc mX12_numbered 97 (.aload_n 0) 1 98 := ⟨by decide +kernel, rfl⟩
theorem eX12_numbered_98 : Dc mX12_numbered 98 (.getfield 41) 3 101 := ⟨by decide +kernel, rfl⟩
theorem eX12_numbered_101 : Dc mX12_numbered 101 (.aload_n 0) 1 102 := ⟨by decide +kernel, rfl⟩
theorem eX12_numbered_102 : Dc mX12_numbered 102 (.getfield 92) 3 105 := ⟨by decide +kernel, rfl⟩
theorem eX12_numbered_105 : Dc mX12_numbered 105 (.iload_n 3) 1 106 := ⟨by decide +kernel, rfl⟩
theorem eX12_numbered_106 : Dc mX12_numbered 106 (.iastore) 1 107 := ⟨by decide +kernel, rfl⟩
theorem eX12_numbered_107 : Dc mX12_numbered 107 (.iload_n 2) 1 108 := ⟨by decide +kernel, rfl⟩
theorem eX12_numbered_108 : Dc mX12_numbered 108 (.ireturn) 1 109 := ⟨by decide +kernel, rfl⟩
theorem eX12_paper_0 : Dc mX12_paper 0 (.iload_n 1) 1 1 := ⟨by decide +kernel, rfl⟩
theorem eX12_paper_1 : Dj mX12_paper 1 (.ifCond .ge) 4 6 := ⟨5, by decide +kernel, rfl, by decide⟩
theorem eX12_paper_4 : Dc mX12_paper 4 (.iconst (-1)) 1 5 := ⟨by decide +kernel, rfl⟩
theorem eX12_paper_5 : Dc mX12_paper 5 (.ireturn) 1 6 := ⟨by decide +kernel, rfl⟩
theorem eX12_paper_6 : Dc mX12_paper 6 (.aload_n 0) 1 7 := ⟨by decide +kernel, rfl⟩
theorem eX12_paper_7 : Dc mX12_paper 7 (.invokevirtual 175) 3 10 := ⟨by decide +kernel, rfl⟩
theorem eX12_paper_10 : Dj mX12_paper 10 (.ifCond .ne) 13 16 := ⟨6, by decide +kernel, rfl, by decide⟩
theorem eX12_paper_13 : Dc mX12_paper 13 (.bipush (-2)) 2 15 := ⟨by decide +kernel, rfl⟩
theorem eX12_paper_15 : Dc mX12_paper 15 (.ireturn) 1 16 := ⟨by decide +kernel, rfl⟩
theorem eX12_paper_16 : Dc mX12_paper 16 (.iload_n 1) 1 17 := ⟨by decide +kernel, rfl⟩
theorem eX12_paper_17 : Dc mX12_paper 17 (.aload_n 0) 1 18 := ⟨by decide +kernel, rfl⟩
theorem eX12_paper_18 : Dc mX12_paper 18 (.invokevirtual 219) 3 21 := ⟨by decide +kernel, rfl⟩
theorem eX12_paper_21 : Dj mX12_paper 21 (.if_icmp .ge) 24 33 := ⟨12, by decide +kernel, rfl, by decide⟩
theorem eX12_paper_24 : Dc mX12_paper 24 (.aload_n 0) 1 25 := ⟨by decide +kernel, rfl⟩
theorem eX12_paper_25 : Dc mX12_paper 25 (.getfield 60) 3 28 := ⟨by decide +kernel, rfl⟩
theorem eX12_paper_28 : Dc mX12_paper 28 (.iload_n 1) 1 29 := ⟨by decide +kernel, rfl⟩
theorem eX12_paper_29 : Dc mX12_paper 29 (.iaload) 1 30 := ⟨by decide +kernel, rfl⟩
theorem eX12_paper_30 : Dj mX12_paper 30 (.goto) 33 35 := ⟨5, by decide +kernel, rfl, by decide⟩
theorem eX12_paper_33 : Dc mX12_paper 33 (.bipush (-9)) 2 35 := ⟨by decide +kernel, rfl⟩
theorem eX12_paper_35 : Dc mX12_paper 35 (.ireturn) 1 36 := ⟨by decide +kernel, rfl⟩
theorem eX12_polynomial_0 : Dc mX12_polynomial 0 (.aload_n 0) 1 1 := ⟨by decide +kernel, rfl⟩
theorem eX12_polynomial_1 : Dc mX12_polynomial 1 (.getfield 13) 3 4 := ⟨by decide +kernel, rfl⟩
theorem eX12_polynomial_4 : Dc mX12_polynomial 4 (.iconst 0) 1 5 := ⟨by decide +kernel, rfl⟩
theorem eX12_polynomial_5 : Dc mX12_polynomial 5 (.iaload) 1 6 := ⟨by decide +kernel, rfl⟩
theorem eX12_polynomial_6 : Dc mX12_polynomial 6 (.istore_n 1) 1 7 := ⟨by decide +kernel, rfl⟩
theorem eX12_polynomial_7 : Dc mX12_polynomial 7 (.iload_n 1) 1 8 := ⟨by decide +kernel, rfl⟩
theorem eX12_polynomial_8 : Dc mX12_polynomial 8 (.iconst 3) 1 9 := ⟨by decide +kernel, rfl⟩
theorem eX12_polynomial_9 : Dj mX12_polynomial 9 (.if_icmp .ne) 12 14 := ⟨5, by decide +kernel, rfl, by decide⟩
theorem eX12_polynomial_12 : Dc mX12_polynomial 12 (.iconst 0) 1 13 := ⟨by decide +kernel, rfl⟩
theorem eX12_polynomial_13 : Dc mX12_polynomial 13 (.ireturn) 1 14 := ⟨by decide +kernel, rfl⟩
theorem eX12_polynomial_14 : Dc mX12_polynomial 14 (.aload_n 0) 1 15 := ⟨by decide +kernel, rfl⟩
theorem eX12_polynomial_15 : Dc mX12_polynomial 15 (.dup) 1 16 := ⟨by decide +kernel, rfl⟩
theorem eX12_polynomial_16 : Dc mX12_polynomial 16 (.getfield 99) 3 19 := ⟨by decide +kernel, rfl⟩
theorem eX12_polynomial_19 : Dc mX12_polynomial 19 (.iconst 1) 1 20 := ⟨by decide +kernel, rfl⟩
theorem eX12_polynomial_20 : Dc mX12_polynomial 20 (.iadd) 1 21 := ⟨by decide +kernel, rfl⟩
theorem eX12_polynomial_21 : Dc mX12_polynomial 21 (.putfield 99) 3 24 := ⟨by decide +kernel, rfl⟩
theorem eX12_polynomial_24 : Dc mX12_polynomial 24 (.iconst 0) 1 25 := ⟨by decide +kernel, rfl⟩
theorem eX12_polynomial_25 : Dc mX12_polynomial 25 (.istore_n 2) 1 26 := ⟨by decide +kernel, rfl⟩
theorem eX12_polynomial_26 : Dc mX12_polynomial 26 (.iload_n 2) 1 27 := ⟨by decide +kernel, rfl⟩
theorem eX12_polynomial_27 : Dc mX12_polynomial 27 (.bipush 6) 2 29 := ⟨by decide +kernel, rfl⟩
theorem eX12_polynomial_29 : Dj mX12_polynomial 29 (.if_icmp .ge) 32 81 := ⟨52, by decide +kernel, rfl, by decide⟩
theorem eX12_polynomial_32 : Dc mX12_polynomial 32 (.iload_n 2) 1 33 := ⟨by decide +kernel, rfl⟩
theorem eX12_polynomial_33 : Dj mX12_polynomial 33 (.ifCond .eq) 36 45 := ⟨12, by decide +kernel, rfl, by decide⟩
theorem eX12_polynomial_36 : Dc mX12_polynomial 36 (.aload_n 0) 1 37 := ⟨by decide +kernel, rfl⟩
theorem eX12_polynomial_37 : Dc mX12_polynomial 37 (.bipush 59) 2 39 := ⟨by decide +kernel, rfl⟩
theorem eX12_polynomial_39 : Dc mX12_polynomial 39 (.invokevirtual 102) 3 42 := ⟨by decide +kernel, rfl⟩
theorem eX12_polynomial_42 : Dj mX12_polynomial 42 (.ifCond .ne) 45 81 := ⟨39, by decide +kernel, rfl, by decide⟩
theorem eX12_polynomial_45 : Dc mX12_polynomial 45 (.aload_n 0) 1 46 := ⟨by decide +kernel, rfl⟩
theorem eX12_polynomial_46 : Dc mX12_polynomial 46 (.bipush (-50)) 2 48 := ⟨by decide +kernel, rfl⟩
theorem eX12_polynomial_48 : Dc mX12_polynomial 48 (.bipush 50) 2 50 := ⟨by decide +kernel, rfl⟩
theorem eX12_polynomial_50 : Dc mX12_polynomial 50 (.invokevirtual 109) 3 53 := ⟨by decide +kernel, rfl⟩
theorem eX12_polynomial_53 : Dj mX12_polynomial 53 (.ifCond .ne) 56 58 := ⟨5, by decide +kernel, rfl, by decide⟩
theorem eX12_polynomial_56 : Dc mX12_polynomial 56 (.iconst 0) 1 57 := ⟨by decide +kernel, rfl⟩
theorem eX12_polynomial_57 : Dc mX12_polynomial 57 (.ireturn) 1 58 := ⟨by decide +kernel, rfl⟩
theorem eX12_polynomial_58 : Dc mX12_polynomial 58 (.aload_n 0) 1 59 := ⟨by decide +kernel, rfl⟩
theorem eX12_polynomial_59 : Dc mX12_polynomial 59 (.getfield 13) 3 62 := ⟨by decide +kernel, rfl⟩
theorem eX12_polynomial_62 : Dc mX12_polynomial 62 (.iconst 5) 1 63 := ⟨by decide +kernel, rfl⟩
theorem eX12_polynomial_63 : Dc mX12_polynomial 63 (.bipush 6) 2 65 := ⟨by decide +kernel, rfl⟩
theorem eX12_polynomial_65 : Dc mX12_polynomial 65 (.iload_n 1) 1 66 := ⟨by decide +kernel, rfl⟩
theorem eX12_polynomial_66 : Dc mX12_polynomial 66 (.imul) 1 67 := ⟨by decide +kernel, rfl⟩
theorem eX12_polynomial_67 : Dc mX12_polynomial 67 (.iadd) 1 68 := ⟨by decide +kernel, rfl⟩
theorem eX12_polynomial_68 : Dc mX12_polynomial 68 (.iload_n 2) 1 69 := ⟨by decide +kernel, rfl⟩
theorem eX12_polynomial_69 : Dc mX12_polynomial 69 (.iadd) 1 70 := ⟨by decide +kernel, rfl⟩
theorem eX12_polynomial_70 : Dc mX12_polynomial 70 (.aload_n 0) 1 71 := ⟨by decide +kernel, rfl⟩
theorem eX12_polynomial_71 : Dc mX12_polynomial 71 (.getfield 106) 3 74 := ⟨by decide +kernel, rfl⟩
theorem eX12_polynomial_74 : Dc mX12_polynomial 74 (.iastore) 1 75 := ⟨by decide +kernel, rfl⟩
theorem eX12_polynomial_75 : Dc mX12_polynomial 75 (.iinc 2 1) 3 78 := ⟨by decide +kernel, rfl⟩
theorem eX12_polynomial_78 : Dj mX12_polynomial 78 (.goto) 81 26 := ⟨-52, by decide +kernel, rfl, by decide⟩
theorem eX12_polynomial_81 : Dc mX12_polynomial 81 (.aload_n 0) 1 82 := ⟨by decide +kernel, rfl⟩
theorem eX12_polynomial_82 : Dc mX12_polynomial 82 (.getfield 13) 3 85 := ⟨by decide +kernel, rfl⟩
theorem eX12_polynomial_85 : Dc mX12_polynomial 85 (.iconst 2) 1 86 := ⟨by decide +kernel, rfl⟩
theorem eX12_polynomial_86 : Dc mX12_polynomial 86 (.iload_n 1) 1 87 := ⟨by decide +kernel, rfl⟩
theorem eX12_polynomial_87 : Dc mX12_polynomial 87 (.iadd) 1 88 := ⟨by decide +kernel, rfl⟩
theorem eX12_polynomial_88 : Dc mX12_polynomial 88 (.iload_n 2) 1 89 := ⟨by decide +kernel, rfl⟩
theorem eX12_polynomial_89 : Dc mX12_polynomial 89 (.iconst 1) 1 90 := ⟨by decide +kernel, rfl⟩
theorem eX12_polynomial_90 : Dc mX12_polynomial 90 (.isub) 1 91 := ⟨by decide +kernel, rfl⟩
theorem eX12_polynomial_91 : Dc mX12_polynomial 91 (.iastore) 1 92 := ⟨by decide +kernel, rfl⟩
theorem eX12_polynomial_92 : Dc mX12_polynomial 92 (.aload_n 0) 1 93 := ⟨by decide +kernel, rfl⟩
theorem eX12_polynomial_93 : Dc mX12_polynomial 93 (.getfield 13) 3 96 := ⟨by decide +kernel, rfl⟩
theorem eX12_polynomial_96 : Dc mX12_polynomial 96 (.iconst 0) 1 97 := ⟨by decide +kernel, rfl⟩
theorem eX12_polynomial_97 : Dc mX12_polynomial 97 (.dup2) 1 98 := ⟨by decide +kernel, rfl⟩
theorem eX12_polynomial_98 : Dc mX12_polynomial 98 (.iaload) 1 99 := ⟨by decide +kernel, rfl⟩
theorem eX12_polynomial_99 : Dc mX12_polynomial 99 (.iconst 1) 1 100 := ⟨by decide +kernel, rfl⟩
theorem eX12_polynomial_100 : Dc mX12_polynomial 100 (.iadd) 1 101 := ⟨by decide +kernel, rfl⟩
theorem eX12_polynomial_101 : Dc mX12_polynomial 101 (.iastore) 1 102 := ⟨by decide +kernel, rfl⟩
theorem eX12_polynomial_102 : Dc mX12_polynomial 102 (.iconst 1) 1 103 := ⟨by decide +kernel, rfl⟩
theorem eX12_polynomial_103 : Dc mX12_polynomial 103 (.ireturn) 1 104 := ⟨by decide +kernel, rfl⟩
theorem eX12_power_0 : Dc mX12_power 0 (.lconst 1) 1 1 := ⟨by decide +kernel, rfl⟩
theorem eX12_power_1 : Dc mX12_power 1 (.lstore_n 3) 1 2 := ⟨by decide +kernel, rfl⟩
theorem eX12_power_2 : Dc mX12_power 2 (.iconst 0) 1 3 := ⟨by decide +kernel, rfl⟩
theorem eX12_power_3 : Dc mX12_power 3 (.istore 5) 2 5 := ⟨by decide +kernel, rfl⟩
theorem eX12_power_5 : Dc mX12_power 5 (.iload 5) 2 7 := ⟨by decide +kernel, rfl⟩
theorem eX12_power_7 : Dc mX12_power 7 (.iload_n 2) 1 8 := ⟨by decide +kernel, rfl⟩
theorem eX12_power_8 : Dj mX12_power 8 (.if_icmp .ge) 11 21 := ⟨13, by decide +kernel, rfl, by decide⟩
theorem eX12_power_11 : Dc mX12_power 11 (.lload_n 3) 1 12 := ⟨by decide +kernel, rfl⟩
theorem eX12_power_12 : Dc mX12_power 12 (.lload_n 0) 1 13 := ⟨by decide +kernel, rfl⟩
theorem eX12_power_13 : Dc mX12_power 13 (.lmul) 1 14 := ⟨by decide +kernel, rfl⟩
theorem eX12_power_14 : Dc mX12_power 14 (.lstore_n 3) 1 15 := ⟨by decide +kernel, rfl⟩
theorem eX12_power_15 : Dc mX12_power 15 (.iinc 5 1) 3 18 := ⟨by decide +kernel, rfl⟩
theorem eX12_power_18 : Dj mX12_power 18 (.goto) 21 5 := ⟨-13, by decide +kernel, rfl, by decide⟩
theorem eX12_power_21 : Dc mX12_power 21 (.lload_n 3) 1 22 := ⟨by decide +kernel, rfl⟩
theorem eX12_power_22 : Dc mX12_power 22 (.lreturn) 1 23 := ⟨by decide +kernel, rfl⟩
theorem eX12_proves_0 : Dc mX12_proves 0 (.aload_n 0) 1 1 := ⟨by decide +kernel, rfl⟩
theorem eX12_proves_1 : Dc mX12_proves 1 (.invokevirtual 175) 3 4 := ⟨by decide +kernel, rfl⟩
theorem eX12_proves_4 : Dj mX12_proves 4 (.ifCond .ne) 7 10 := ⟨6, by decide +kernel, rfl, by decide⟩
theorem eX12_proves_7 : Dc mX12_proves 7 (.bipush (-2)) 2 9 := ⟨by decide +kernel, rfl⟩
theorem eX12_proves_9 : Dc mX12_proves 9 (.ireturn) 1 10 := ⟨by decide +kernel, rfl⟩
theorem eX12_proves_10 : Dc mX12_proves 10 (.aload_n 0) 1 11 := ⟨by decide +kernel, rfl⟩
theorem eX12_proves_11 : Dc mX12_proves 11 (.iconst 0) 1 12 := ⟨by decide +kernel, rfl⟩
theorem eX12_proves_12 : Dc mX12_proves 12 (.putfield 193) 3 15 := ⟨by decide +kernel, rfl⟩
theorem eX12_proves_15 : Dc mX12_proves 15 (.aload_n 0) 1 16 := ⟨by decide +kernel, rfl⟩
theorem eX12_proves_16 : Dc mX12_proves 16 (.iconst 1) 1 17 := ⟨by decide +kernel, rfl⟩
theorem eX12_proves_17 : Dc mX12_proves 17 (.invokevirtual 199) 3 20 := ⟨by decide +kernel, rfl⟩
theorem eX12_proves_20 : Dc mX12_proves 20 (.iconst 0) 1 21 := ⟨by decide +kernel, rfl⟩
theorem eX12_proves_21 : Dc mX12_proves 21 (.istore_n 1) 1 22 := ⟨by decide +kernel, rfl⟩
theorem eX12_proves_22 : Dc mX12_proves 22 (.iconst 1) 1 23 := ⟨by decide +kernel, rfl⟩
theorem eX12_proves_23 : Dc mX12_proves 23 (.istore_n 2) 1 24 := ⟨by decide +kernel, rfl⟩
theorem eX12_proves_24 : Dc mX12_proves 24 (.aload_n 0) 1 25 := ⟨by decide +kernel, rfl⟩
theorem eX12_proves_25 : Dc mX12_proves 25 (.getfield 193) 3 28 := ⟨by decide +kernel, rfl⟩
theorem eX12_proves_28 : Dj mX12_proves 28 (.ifCond .le) 31 164 := ⟨136, by decide +kernel, rfl, by decide⟩
theorem eX12_proves_31 : Dc mX12_proves 31 (.aload_n 0) 1 32 := ⟨by decide +kernel, rfl⟩
theorem eX12_proves_32 : Dc mX12_proves 32 (.getfield 51) 3 35 := ⟨by decide +kernel, rfl⟩
theorem eX12_proves_35 : Dc mX12_proves 35 (.aload_n 0) 1 36 := ⟨by decide +kernel, rfl⟩
theorem eX12_proves_36 : Dc mX12_proves 36 (.getfield 193) 3 39 := ⟨by decide +kernel, rfl⟩
theorem eX12_proves_39 : Dc mX12_proves 39 (.iconst 1) 1 40 := ⟨by decide +kernel, rfl⟩
theorem eX12_proves_40 : Dc mX12_proves 40 (.isub) 1 41 := ⟨by decide +kernel, rfl⟩
theorem eX12_proves_41 : Dc mX12_proves 41 (.iaload) 1 42 := ⟨by decide +kernel, rfl⟩
theorem eX12_proves_42 : Dc mX12_proves 42 (.istore_n 3) 1 43 := ⟨by decide +kernel, rfl⟩
theorem eX12_proves_43 : Dc mX12_proves 43 (.iload_n 1) 1 44 := ⟨by decide +kernel, rfl⟩
theorem eX12_proves_44 : Dc mX12_proves 44 (.aload_n 0) 1 45 := ⟨by decide +kernel, rfl⟩
theorem eX12_proves_45 : Dc mX12_proves 45 (.getfield 89) 3 48 := ⟨by decide +kernel, rfl⟩
theorem eX12_proves_48 : Dj mX12_proves 48 (.if_icmp .ge) 51 60 := ⟨12, by decide +kernel, rfl, by decide⟩
theorem eX12_proves_51 : Dc mX12_proves 51 (.aload_n 0) 1 52 := ⟨by decide +kernel, rfl⟩
theorem eX12_proves_52 : Dc mX12_proves 52 (.getfield 32) 3 55 := ⟨by decide +kernel, rfl⟩
theorem eX12_proves_55 : Dc mX12_proves 55 (.iload_n 1) 1 56 := ⟨by decide +kernel, rfl⟩
theorem eX12_proves_56 : Dc mX12_proves 56 (.iaload) 1 57 := ⟨by decide +kernel, rfl⟩
theorem eX12_proves_57 : Dj mX12_proves 57 (.goto) 60 62 := ⟨5, by decide +kernel, rfl, by decide⟩
theorem eX12_proves_60 : Dc mX12_proves 60 (.bipush (-9)) 2 62 := ⟨by decide +kernel, rfl⟩
theorem eX12_proves_62 : Dc mX12_proves 62 (.istore 4) 2 64 := ⟨by decide +kernel, rfl⟩
theorem eX12_proves_64 : Dc mX12_proves 64 (.iload 4) 2 66 := ⟨by decide +kernel, rfl⟩
theorem eX12_proves_66 : Dc mX12_proves 66 (.bipush 48) 2 68 := ⟨by decide +kernel, rfl⟩
theorem eX12_proves_68 : Dc mX12_proves 68 (.bipush 50) 2 70 := ⟨by decide +kernel, rfl⟩
theorem eX12_proves_70 : Dc mX12_proves 70 (.invokestatic 85) 3 73 := ⟨by decide +kernel, rfl⟩
theorem eX12_proves_73 : Dj mX12_proves 73 (.ifCond .ne) 76 94 := ⟨21, by decide +kernel, rfl, by decide⟩
theorem eX12_proves_76 : Dc mX12_proves 76 (.iload 4) 2 78 := ⟨by decide +kernel, rfl⟩
theorem eX12_proves_78 : Dc mX12_proves 78 (.bipush 115) 2 80 := ⟨by decide +kernel, rfl⟩
theorem eX12_proves_80 : Dj mX12_proves 80 (.if_icmp .ne) 83 89 := ⟨9, by decide +kernel, rfl, by decide⟩
theorem eX12_proves_83 : Dc mX12_proves 83 (.iload_n 3) 1 84 := ⟨by decide +kernel, rfl⟩
theorem eX12_proves_84 : Dc mX12_proves 84 (.bipush 64) 2 86 := ⟨by decide +kernel, rfl⟩
theorem eX12_proves_86 : Dj mX12_proves 86 (.if_icmp .lt) 89 94 := ⟨8, by decide +kernel, rfl, by decide⟩
theorem eX12_proves_89 : Dc mX12_proves 89 (.bipush (-10)) 2 91 := ⟨by decide +kernel, rfl⟩
theorem eX12_proves_91 : Dc mX12_proves 91 (.iload_n 1) 1 92 := ⟨by decide +kernel, rfl⟩
theorem eX12_proves_92 : Dc mX12_proves 92 (.isub) 1 93 := ⟨by decide +kernel, rfl⟩
theorem eX12_proves_93 : Dc mX12_proves 93 (.ireturn) 1 94 := ⟨by decide +kernel, rfl⟩
theorem eX12_proves_94 : Dc mX12_proves 94 (.aload_n 0) 1 95 := ⟨by decide +kernel, rfl⟩
theorem eX12_proves_95 : Dc mX12_proves 95 (.dup) 1 96 := ⟨by decide +kernel, rfl⟩
theorem eX12_proves_96 : Dc mX12_proves 96 (.getfield 193) 3 99 := ⟨by decide +kernel, rfl⟩
theorem eX12_proves_99 : Dc mX12_proves 99 (.iconst 1) 1 100 := ⟨by decide +kernel, rfl⟩
theorem eX12_proves_100 : Dc mX12_proves 100 (.isub) 1 101 := ⟨by decide +kernel, rfl⟩
theorem eX12_proves_101 : Dc mX12_proves 101 (.putfield 193) 3 104 := ⟨by decide +kernel, rfl⟩
theorem eX12_proves_104 : Dc mX12_proves 104 (.iinc 1 1) 3 107 := ⟨by decide +kernel, rfl⟩
theorem eX12_proves_107 : Dc mX12_proves 107 (.iload 4) 2 109 := ⟨by decide +kernel, rfl⟩
theorem eX12_proves_109 : Dc mX12_proves 109 (.bipush 115) 2 111 := ⟨by decide +kernel, rfl⟩
theorem eX12_proves_111 : Dj mX12_proves 111 (.if_icmp .ne) 114 133 := ⟨22, by decide +kernel, rfl, by decide⟩
theorem eX12_proves_114 : Dc mX12_proves 114 (.aload_n 0) 1 115 := ⟨by decide +kernel, rfl⟩
theorem eX12_proves_115 : Dc mX12_proves 115 (.iconst 2) 1 116 := ⟨by decide +kernel, rfl⟩
theorem eX12_proves_116 : Dc mX12_proves 116 (.iload_n 3) 1 117 := ⟨by decide +kernel, rfl⟩
theorem eX12_proves_117 : Dc mX12_proves 117 (.imul) 1 118 := ⟨by decide +kernel, rfl⟩
theorem eX12_proves_118 : Dc mX12_proves 118 (.iconst 1) 1 119 := ⟨by decide +kernel, rfl⟩
theorem eX12_proves_119 : Dc mX12_proves 119 (.iadd) 1 120 := ⟨by decide +kernel, rfl⟩
theorem eX12_proves_120 : Dc mX12_proves 120 (.invokevirtual 199) 3 123 := ⟨by decide +kernel, rfl⟩
theorem eX12_proves_123 : Dc mX12_proves 123 (.aload_n 0) 1 124 := ⟨by decide +kernel, rfl⟩
theorem eX12_proves_124 : Dc mX12_proves 124 (.iconst 2) 1 125 := ⟨by decide +kernel, rfl⟩
theorem eX12_proves_125 : Dc mX12_proves 125 (.iload_n 3) 1 126 := ⟨by decide +kernel, rfl⟩
theorem eX12_proves_126 : Dc mX12_proves 126 (.imul) 1 127 := ⟨by decide +kernel, rfl⟩
theorem eX12_proves_127 : Dc mX12_proves 127 (.invokevirtual 199) 3 130 := ⟨by decide +kernel, rfl⟩
theorem eX12_proves_130 : Dj mX12_proves 130 (.goto) 133 161 := ⟨31, by decide +kernel, rfl, by decide⟩
theorem eX12_proves_133 : Dc mX12_proves 133 (.aload_n 0) 1 134 := ⟨by decide +kernel, rfl⟩
theorem eX12_proves_134 : Dc mX12_proves 134 (.aload_n 0) 1 135 := ⟨by decide +kernel, rfl⟩
theorem eX12_proves_135 : Dc mX12_proves 135 (.getfield 79) 3 138 := ⟨by decide +kernel, rfl⟩
theorem eX12_proves_138 : Dc mX12_proves 138 (.iload_n 3) 1 139 := ⟨by decide +kernel, rfl⟩
theorem eX12_proves_139 : Dc mX12_proves 139 (.iload 4) 2 141 := ⟨by decide +kernel, rfl⟩
theorem eX12_proves_141 : Dc mX12_proves 141 (.bipush 48) 2 143 := ⟨by decide +kernel, rfl⟩
theorem eX12_proves_143 : Dc mX12_proves 143 (.isub) 1 144 := ⟨by decide +kernel, rfl⟩
theorem eX12_proves_144 : Dc mX12_proves 144 (.iconst 1) 1 145 := ⟨by decide +kernel, rfl⟩
theorem eX12_proves_145 : Dc mX12_proves 145 (.invokevirtual 212) 3 148 := ⟨by decide +kernel, rfl⟩
theorem eX12_proves_148 : Dj mX12_proves 148 (.ifCond .eq) 151 159 := ⟨11, by decide +kernel, rfl, by decide⟩
theorem eX12_proves_151 : Dc mX12_proves 151 (.iload_n 2) 1 152 := ⟨by decide +kernel, rfl⟩
theorem eX12_proves_152 : Dj mX12_proves 152 (.ifCond .eq) 155 159 := ⟨7, by decide +kernel, rfl, by decide⟩
theorem eX12_proves_155 : Dc mX12_proves 155 (.iconst 1) 1 156 := ⟨by decide +kernel, rfl⟩
theorem eX12_proves_156 : Dj mX12_proves 156 (.goto) 159 160 := ⟨4, by decide +kernel, rfl, by decide⟩
theorem eX12_proves_159 : Dc mX12_proves 159 (.iconst 0) 1 160 := ⟨by decide +kernel, rfl⟩
theorem eX12_proves_160 : Dc mX12_proves 160 (.istore_n 2) 1 161 := ⟨by decide +kernel, rfl⟩
theorem eX12_proves_161 : Dj mX12_proves 161 (.goto) 164 24 := ⟨-137, by decide +kernel, rfl, by decide⟩
theorem eX12_proves_164 : Dc mX12_proves 164 (.iload_n 1) 1 165 := ⟨by decide +kernel, rfl⟩
theorem eX12_proves_165 : Dc mX12_proves 165 (.aload_n 0) 1 166 := ⟨by decide +kernel, rfl⟩
theorem eX12_proves_166 : Dc mX12_proves 166 (.getfield 89) 3 169 := ⟨by decide +kernel, rfl⟩
theorem eX12_proves_169 : Dj mX12_proves 169 (.if_icmp .ge) 172 179 := ⟨10, by decide +kernel, rfl, by decide⟩
theorem eX12_proves_172 : Dc mX12_proves 172 (.bipush (-10)) 2 174 := ⟨by decide +kernel, rfl⟩
theorem eX12_proves_174 : Dc mX12_proves 174 (.iload_n 1) 1 175 := ⟨by decide +kernel, rfl⟩
theorem eX12_proves_175 : Dc mX12_proves 175 (.isub) 1 176 := ⟨by decide +kernel, rfl⟩
theorem eX12_proves_176 : Dj mX12_proves 176 (.goto) 179 188 := ⟨12, by decide +kernel, rfl, by decide⟩
theorem eX12_proves_179 : Dc mX12_proves 179 (.iload_n 2) 1 180 := ⟨by decide +kernel, rfl⟩
theorem eX12_proves_180 : Dj mX12_proves 180 (.ifCond .eq) 183 187 := ⟨7, by decide +kernel, rfl, by decide⟩
theorem eX12_proves_183 : Dc mX12_proves 183 (.iconst 1) 1 184 := ⟨by decide +kernel, rfl⟩
theorem eX12_proves_184 : Dj mX12_proves 184 (.goto) 187 188 := ⟨4, by decide +kernel, rfl, by decide⟩
theorem eX12_proves_187 : Dc mX12_proves 187 (.iconst 0) 1 188 := ⟨by decide +kernel, rfl⟩
theorem eX12_proves_188 : Dc mX12_proves 188 (.ireturn) 1 189 := ⟨by decide +kernel, rfl⟩
theorem eX12_puts_0 : Dc mX12_puts 0 (.aload_n 0) 1 1 := ⟨by decide +kernel, rfl⟩
theorem eX12_puts_1 : Dc mX12_puts 1 (.getfield 51) 3 4 := ⟨by decide +kernel, rfl⟩
theorem eX12_puts_4 : Dc mX12_puts 4 (.aload_n 0) 1 5 := ⟨by decide +kernel, rfl⟩
theorem eX12_puts_5 : Dc mX12_puts 5 (.getfield 193) 3 8 := ⟨by decide +kernel, rfl⟩
theorem eX12_puts_8 : Dc mX12_puts 8 (.iload_n 1) 1 9 := ⟨by decide +kernel, rfl⟩
theorem eX12_puts_9 : Dc mX12_puts 9 (.iastore) 1 10 := ⟨by decide +kernel, rfl⟩
theorem eX12_puts_10 : Dc mX12_puts 10 (.aload_n 0) 1 11 := ⟨by decide +kernel, rfl⟩
theorem eX12_puts_11 : Dc mX12_puts 11 (.dup) 1 12 := ⟨by decide +kernel, rfl⟩
theorem eX12_puts_12 : Dc mX12_puts 12 (.getfield 193) 3 15 := ⟨by decide +kernel, rfl⟩
theorem eX12_puts_15 : Dc mX12_puts 15 (.iconst 1) 1 16 := ⟨by decide +kernel, rfl⟩
theorem eX12_puts_16 : Dc mX12_puts 16 (.iadd) 1 17 := ⟨by decide +kernel, rfl⟩
theorem eX12_puts_17 : Dc mX12_puts 17 (.putfield 193) 3 20 := ⟨by decide +kernel, rfl⟩
theorem eX12_puts_20 : Dc mX12_puts 20 (.return_) 1 21 := ⟨by decide +kernel, rfl⟩
theorem eX12_sees_0 : Dc mX12_sees 0 (.iload_n 1) 1 1 := ⟨by decide +kernel, rfl⟩
theorem eX12_sees_1 : Dc mX12_sees 1 (.bipush (-5)) 2 3 := ⟨by decide +kernel, rfl⟩
theorem eX12_sees_3 : Dc mX12_sees 3 (.iconst 5) 1 4 := ⟨by decide +kernel, rfl⟩
theorem eX12_sees_4 : Dc mX12_sees 4 (.invokestatic 85) 3 7 := ⟨by decide +kernel, rfl⟩
theorem eX12_sees_7 : Dj mX12_sees 7 (.ifCond .eq) 10 19 := ⟨12, by decide +kernel, rfl, by decide⟩
theorem eX12_sees_10 : Dc mX12_sees 10 (.iload_n 2) 1 11 := ⟨by decide +kernel, rfl⟩
theorem eX12_sees_11 : Dc mX12_sees 11 (.iconst (-1)) 1 12 := ⟨by decide +kernel, rfl⟩
theorem eX12_sees_12 : Dc mX12_sees 12 (.iconst 1) 1 13 := ⟨by decide +kernel, rfl⟩
theorem eX12_sees_13 : Dc mX12_sees 13 (.invokestatic 85) 3 16 := ⟨by decide +kernel, rfl⟩
theorem eX12_sees_16 : Dj mX12_sees 16 (.ifCond .ne) 19 21 := ⟨5, by decide +kernel, rfl, by decide⟩
theorem eX12_sees_19 : Dc mX12_sees 19 (.iconst (-1)) 1 20 := ⟨by decide +kernel, rfl⟩
theorem eX12_sees_20 : Dc mX12_sees 20 (.ireturn) 1 21 := ⟨by decide +kernel, rfl⟩
theorem eX12_sees_21 : Dc mX12_sees 21 (.aload_n 0) 1 22 := ⟨by decide +kernel, rfl⟩
theorem eX12_sees_22 : Dc mX12_sees 22 (.getfield 76) 3 25 := ⟨by decide +kernel, rfl⟩
theorem eX12_sees_25 : Dc mX12_sees 25 (.bipush 6) 2 27 := ⟨by decide +kernel, rfl⟩
theorem eX12_sees_27 : Dj mX12_sees 27 (.if_icmp .ne) 30 33 := ⟨6, by decide +kernel, rfl, by decide⟩
theorem eX12_sees_30 : Dc mX12_sees 30 (.bipush (-3)) 2 32 := ⟨by decide +kernel, rfl⟩
theorem eX12_sees_32 : Dc mX12_sees 32 (.ireturn) 1 33 := ⟨by decide +kernel, rfl⟩
theorem eX12_sees_33 : Dc mX12_sees 33 (.aload_n 0) 1 34 := ⟨by decide +kernel, rfl⟩
theorem eX12_sees_34 : Dc mX12_sees 34 (.getfield 26) 3 37 := ⟨by decide +kernel, rfl⟩
theorem eX12_sees_37 : Dc mX12_sees 37 (.aload_n 0) 1 38 := ⟨by decide +kernel, rfl⟩
theorem eX12_sees_38 : Dc mX12_sees 38 (.getfield 76) 3 41 := ⟨by decide +kernel, rfl⟩
theorem eX12_sees_41 : Dc mX12_sees 41 (.iload_n 1) 1 42 := ⟨by decide +kernel, rfl⟩
theorem eX12_sees_42 : Dc mX12_sees 42 (.iastore) 1 43 := ⟨by decide +kernel, rfl⟩
theorem eX12_sees_43 : Dc mX12_sees 43 (.aload_n 0) 1 44 := ⟨by decide +kernel, rfl⟩
theorem eX12_sees_44 : Dc mX12_sees 44 (.getfield 29) 3 47 := ⟨by decide +kernel, rfl⟩
theorem eX12_sees_47 : Dc mX12_sees 47 (.aload_n 0) 1 48 := ⟨by decide +kernel, rfl⟩
theorem eX12_sees_48 : Dc mX12_sees 48 (.getfield 76) 3 51 := ⟨by decide +kernel, rfl⟩
theorem eX12_sees_51 : Dc mX12_sees 51 (.iload_n 2) 1 52 := ⟨by decide +kernel, rfl⟩
theorem eX12_sees_52 : Dc mX12_sees 52 (.iastore) 1 53 := ⟨by decide +kernel, rfl⟩
theorem eX12_sees_53 : Dc mX12_sees 53 (.aload_n 0) 1 54 := ⟨by decide +kernel, rfl⟩
theorem eX12_sees_54 : Dc mX12_sees 54 (.dup) 1 55 := ⟨by decide +kernel, rfl⟩
theorem eX12_sees_55 : Dc mX12_sees 55 (.getfield 76) 3 58 := ⟨by decide +kernel, rfl⟩
theorem eX12_sees_58 : Dc mX12_sees 58 (.iconst 1) 1 59 := ⟨by decide +kernel, rfl⟩
theorem eX12_sees_59 : Dc mX12_sees 59 (.iadd) 1 60 := ⟨by decide +kernel, rfl⟩
theorem eX12_sees_60 : Dc mX12_sees 60 (.putfield 76) 3 63 := ⟨by decide +kernel, rfl⟩
theorem eX12_sees_63 : Dc mX12_sees 63 (.aload_n 0) 1 64 := ⟨by decide +kernel, rfl⟩
theorem eX12_sees_64 : Dc mX12_sees 64 (.getfield 76) 3 67 := ⟨by decide +kernel, rfl⟩
theorem eX12_sees_67 : Dc mX12_sees 67 (.ireturn) 1 68 := ⟨by decide +kernel, rfl⟩
theorem eX12_signAt_0 : Dc mX12_signAt 0 (.lconst 0) 1 1 := ⟨by decide +kernel, rfl⟩
theorem eX12_signAt_1 : Dc mX12_signAt 1 (.lstore_n 3) 1 2 := ⟨by decide +kernel, rfl⟩
theorem eX12_signAt_2 : Dc mX12_signAt 2 (.iconst 0) 1 3 := ⟨by decide +kernel, rfl⟩
theorem eX12_signAt_3 : Dc mX12_signAt 3 (.istore 5) 2 5 := ⟨by decide +kernel, rfl⟩
theorem eX12_signAt_5 : Dc mX12_signAt 5 (.iload 5) 2 7 := ⟨by decide +kernel, rfl⟩
theorem eX12_signAt_7 : Dc mX12_signAt 7 (.aload_n 0) 1 8 := ⟨by decide +kernel, rfl⟩
theorem eX12_signAt_8 : Dc mX12_signAt 8 (.getfield 7) 3 11 := ⟨by decide +kernel, rfl⟩
theorem eX12_signAt_11 : Dc mX12_signAt 11 (.iconst 2) 1 12 := ⟨by decide +kernel, rfl⟩
theorem eX12_signAt_12 : Dc mX12_signAt 12 (.iload_n 1) 1 13 := ⟨by decide +kernel, rfl⟩
theorem eX12_signAt_13 : Dc mX12_signAt 13 (.iadd) 1 14 := ⟨by decide +kernel, rfl⟩
theorem eX12_signAt_14 : Dc mX12_signAt 14 (.iaload) 1 15 := ⟨by decide +kernel, rfl⟩
theorem eX12_signAt_15 : Dj mX12_signAt 15 (.if_icmp .gt) 18 50 := ⟨35, by decide +kernel, rfl, by decide⟩
theorem eX12_signAt_18 : Dc mX12_signAt 18 (.lload_n 3) 1 19 := ⟨by decide +kernel, rfl⟩
theorem eX12_signAt_19 : Dc mX12_signAt 19 (.aload_n 0) 1 20 := ⟨by decide +kernel, rfl⟩
theorem eX12_signAt_20 : Dc mX12_signAt 20 (.getfield 7) 3 23 := ⟨by decide +kernel, rfl⟩
theorem eX12_signAt_23 : Dc mX12_signAt 23 (.iconst 5) 1 24 := ⟨by decide +kernel, rfl⟩
theorem eX12_signAt_24 : Dc mX12_signAt 24 (.bipush 6) 2 26 := ⟨by decide +kernel, rfl⟩
theorem eX12_signAt_26 : Dc mX12_signAt 26 (.iload_n 1) 1 27 := ⟨by decide +kernel, rfl⟩
theorem eX12_signAt_27 : Dc mX12_signAt 27 (.imul) 1 28 := ⟨by decide +kernel, rfl⟩
theorem eX12_signAt_28 : Dc mX12_signAt 28 (.iadd) 1 29 := ⟨by decide +kernel, rfl⟩
theorem eX12_signAt_29 : Dc mX12_signAt 29 (.iload 5) 2 31 := ⟨by decide +kernel, rfl⟩
theorem eX12_signAt_31 : Dc mX12_signAt 31 (.iadd) 1 32 := ⟨by decide +kernel, rfl⟩
theorem eX12_signAt_32 : Dc mX12_signAt 32 (.iaload) 1 33 := ⟨by decide +kernel, rfl⟩
theorem eX12_signAt_33 : Dc mX12_signAt 33 (.i2l) 1 34 := ⟨by decide +kernel, rfl⟩
theorem eX12_signAt_34 : Dc mX12_signAt 34 (.iload_n 2) 1 35 := ⟨by decide +kernel, rfl⟩
theorem eX12_signAt_35 : Dc mX12_signAt 35 (.i2l) 1 36 := ⟨by decide +kernel, rfl⟩
theorem eX12_signAt_36 : Dc mX12_signAt 36 (.iload 5) 2 38 := ⟨by decide +kernel, rfl⟩
theorem eX12_signAt_38 : Dc mX12_signAt 38 (.invokestatic 150) 3 41 := ⟨by decide +kernel, rfl⟩
theorem eX12_signAt_41 : Dc mX12_signAt 41 (.lmul) 1 42 := ⟨by decide +kernel, rfl⟩
theorem eX12_signAt_42 : Dc mX12_signAt 42 (.ladd) 1 43 := ⟨by decide +kernel, rfl⟩
theorem eX12_signAt_43 : Dc mX12_signAt 43 (.lstore_n 3) 1 44 := ⟨by decide +kernel, rfl⟩
theorem eX12_signAt_44 : Dc mX12_signAt 44 (.iinc 5 1) 3 47 := ⟨by decide +kernel, rfl⟩
theorem eX12_signAt_47 : Dj mX12_signAt 47 (.goto) 50 5 := ⟨-42, by decide +kernel, rfl, by decide⟩
theorem eX12_signAt_50 : Dc mX12_signAt 50 (.lload_n 3) 1 51 := ⟨by decide +kernel, rfl⟩
theorem eX12_signAt_51 : Dc mX12_signAt 51 (.lconst 0) 1 52 := ⟨by decide +kernel, rfl⟩
theorem eX12_signAt_52 : Dc mX12_signAt 52 (.lcmp) 1 53 := ⟨by decide +kernel, rfl⟩
theorem eX12_signAt_53 : Dj mX12_signAt 53 (.ifCond .le) 56 60 := ⟨7, by decide +kernel, rfl, by decide⟩
theorem eX12_signAt_56 : Dc mX12_signAt 56 (.iconst 1) 1 57 := ⟨by decide +kernel, rfl⟩
theorem eX12_signAt_57 : Dj mX12_signAt 57 (.goto) 60 71 := ⟨14, by decide +kernel, rfl, by decide⟩
theorem eX12_signAt_60 : Dc mX12_signAt 60 (.lload_n 3) 1 61 := ⟨by decide +kernel, rfl⟩
theorem eX12_signAt_61 : Dc mX12_signAt 61 (.lconst 0) 1 62 := ⟨by decide +kernel, rfl⟩
theorem eX12_signAt_62 : Dc mX12_signAt 62 (.lcmp) 1 63 := ⟨by decide +kernel, rfl⟩
theorem eX12_signAt_63 : Dj mX12_signAt 63 (.ifCond .ge) 66 70 := ⟨7, by decide +kernel, rfl, by decide⟩
theorem eX12_signAt_66 : Dc mX12_signAt 66 (.iconst (-1)) 1 67 := ⟨by decide +kernel, rfl⟩
theorem eX12_signAt_67 : Dj mX12_signAt 67 (.goto) 70 71 := ⟨4, by decide +kernel, rfl, by decide⟩
theorem eX12_signAt_70 : Dc mX12_signAt 70 (.iconst 0) 1 71 := ⟨by decide +kernel, rfl⟩
theorem eX12_signAt_71 : Dc mX12_signAt 71 (.ireturn) 1 72 := ⟨by decide +kernel, rfl⟩
theorem eX12_sizeOf_0 : Dc mX12_sizeOf 0 (.bipush 64) 2 2 := ⟨by decide +kernel, rfl⟩
theorem eX12_sizeOf_2 : Dc mX12_sizeOf 2 (.istore_n 1) 1 3 := ⟨by decide +kernel, rfl⟩
theorem eX12_sizeOf_3 : Dc mX12_sizeOf 3 (.iload_n 0) 1 4 := ⟨by decide +kernel, rfl⟩
theorem eX12_sizeOf_4 : Dc mX12_sizeOf 4 (.istore_n 2) 1 5 := ⟨by decide +kernel, rfl⟩
theorem eX12_sizeOf_5 : Dc mX12_sizeOf 5 (.iload_n 2) 1 6 := ⟨by decide +kernel, rfl⟩
theorem eX12_sizeOf_6 : Dc mX12_sizeOf 6 (.iconst 1) 1 7 := ⟨by decide +kernel, rfl⟩
theorem eX12_sizeOf_7 : Dj mX12_sizeOf 7 (.if_icmp .le) 10 21 := ⟨14, by decide +kernel, rfl, by decide⟩
theorem eX12_sizeOf_10 : Dc mX12_sizeOf 10 (.iload_n 1) 1 11 := ⟨by decide +kernel, rfl⟩
theorem eX12_sizeOf_11 : Dc mX12_sizeOf 11 (.iconst 2) 1 12 := ⟨by decide +kernel, rfl⟩
theorem eX12_sizeOf_12 : Dc mX12_sizeOf 12 (.idiv) 1 13 := ⟨by decide +kernel, rfl⟩
theorem eX12_sizeOf_13 : Dc mX12_sizeOf 13 (.istore_n 1) 1 14 := ⟨by decide +kernel, rfl⟩
theorem eX12_sizeOf_14 : Dc mX12_sizeOf 14 (.iload_n 2) 1 15 := ⟨by decide +kernel, rfl⟩
theorem eX12_sizeOf_15 : Dc mX12_sizeOf 15 (.iconst 2) 1 16 := ⟨by decide +kernel, rfl⟩
theorem eX12_sizeOf_16 : Dc mX12_sizeOf 16 (.idiv) 1 17 := ⟨by decide +kernel, rfl⟩
theorem eX12_sizeOf_17 : Dc mX12_sizeOf 17 (.istore_n 2) 1 18 := ⟨by decide +kernel, rfl⟩
theorem eX12_sizeOf_18 : Dj mX12_sizeOf 18 (.goto) 21 5 := ⟨-13, by decide +kernel, rfl, by decide⟩
theorem eX12_sizeOf_21 : Dc mX12_sizeOf 21 (.iload_n 1) 1 22 := ⟨by decide +kernel, rfl⟩
theorem eX12_sizeOf_22 : Dc mX12_sizeOf 22 (.ireturn) 1 23 := ⟨by decide +kernel, rfl⟩
theorem eX12_split_0 : Dc mX12_split 0 (.aload_n 0) 1 1 := ⟨by decide +kernel, rfl⟩
theorem eX12_split_1 : Dc mX12_split 1 (.iconst 0) 1 2 := ⟨by decide +kernel, rfl⟩
theorem eX12_split_2 : Dc mX12_split 2 (.putfield 92) 3 5 := ⟨by decide +kernel, rfl⟩
theorem eX12_split_5 : Dc mX12_split 5 (.iconst 0) 1 6 := ⟨by decide +kernel, rfl⟩
theorem eX12_split_6 : Dc mX12_split 6 (.istore_n 1) 1 7 := ⟨by decide +kernel, rfl⟩
theorem eX12_split_7 : Dc mX12_split 7 (.iload_n 1) 1 8 := ⟨by decide +kernel, rfl⟩
theorem eX12_split_8 : Dc mX12_split 8 (.aload_n 0) 1 9 := ⟨by decide +kernel, rfl⟩
theorem eX12_split_9 : Dc mX12_split 9 (.getfield 89) 3 12 := ⟨by decide +kernel, rfl⟩
theorem eX12_split_12 : Dj mX12_split 12 (.if_icmp .ge) 15 123 := ⟨111, by decide +kernel, rfl, by decide⟩
theorem eX12_split_15 : Dc mX12_split 15 (.aload_n 0) 1 16 := ⟨by decide +kernel, rfl⟩
theorem eX12_split_16 : Dc mX12_split 16 (.getfield 32) 3 19 := ⟨by decide +kernel, rfl⟩
theorem eX12_split_19 : Dc mX12_split 19 (.iload_n 1) 1 20 := ⟨by decide +kernel, rfl⟩
theorem eX12_split_20 : Dc mX12_split 20 (.iaload) 1 21 := ⟨by decide +kernel, rfl⟩
theorem eX12_split_21 : Dc mX12_split 21 (.bipush 32) 2 23 := ⟨by decide +kernel, rfl⟩
theorem eX12_split_23 : Dj mX12_split 23 (.if_icmp .ne) 26 32 := ⟨9, by decide +kernel, rfl, by decide⟩
theorem eX12_split_26 : Dc mX12_split 26 (.iinc 1 1) 3 29 := ⟨by decide +kernel, rfl⟩
theorem eX12_split_29 : Dj mX12_split 29 (.goto) 32 7 := ⟨-22, by decide +kernel, rfl, by decide⟩
theorem eX12_split_32 : Dc mX12_split 32 (.aload_n 0) 1 33 := ⟨by decide +kernel, rfl⟩
theorem eX12_split_33 : Dc mX12_split 33 (.getfield 38) 3 36 := ⟨by decide +kernel, rfl⟩
theorem eX12_split_36 : Dc mX12_split 36 (.aload_n 0) 1 37 := ⟨by decide +kernel, rfl⟩
theorem eX12_split_37 : Dc mX12_split 37 (.getfield 92) 3 40 := ⟨by decide +kernel, rfl⟩
theorem eX12_split_40 : Dc mX12_split 40 (.iload_n 1) 1 41 := ⟨by decide +kernel, rfl⟩
theorem eX12_split_41 : Dc mX12_split 41 (.iastore) 1 42 := ⟨by decide +kernel, rfl⟩
theorem eX12_split_42 : Dc mX12_split 42 (.aload_n 0) 1 43 := ⟨by decide +kernel, rfl⟩
theorem eX12_split_43 : Dc mX12_split 43 (.getfield 32) 3 46 := ⟨by decide +kernel, rfl⟩
theorem eX12_split_46 : Dc mX12_split 46 (.iload_n 1) 1 47 := ⟨by decide +kernel, rfl⟩
theorem eX12_split_47 : Dc mX12_split 47 (.iaload) 1 48 := ⟨by decide +kernel, rfl⟩
theorem eX12_split_48 : Dc mX12_split 48 (.istore_n 2) 1 49 := ⟨by decide +kernel, rfl⟩
theorem eX12_split_49 : Dc mX12_split 49 (.iload_n 2) 1 50 := ⟨by decide +kernel, rfl⟩
theorem eX12_split_50 : Dc mX12_split 50 (.bipush 48) 2 52 := ⟨by decide +kernel, rfl⟩
theorem eX12_split_52 : Dc mX12_split 52 (.bipush 57) 2 54 := ⟨by decide +kernel, rfl⟩
theorem eX12_split_54 : Dc mX12_split 54 (.invokestatic 85) 3 57 := ⟨by decide +kernel, rfl⟩
theorem eX12_split_57 : Dj mX12_split 57 (.ifCond .eq) 60 69 := ⟨12, by decide +kernel, rfl, by decide⟩
theorem eX12_split_60 : Dc mX12_split 60 (.aload_n 0) 1 61 := ⟨by decide +kernel, rfl⟩
theorem eX12_split_61 : Dc mX12_split 61 (.iload_n 1) 1 62 := ⟨by decide +kernel, rfl⟩
theorem eX12_split_62 : Dc mX12_split 62 (.invokevirtual 95) 3 65 := ⟨by decide +kernel, rfl⟩
theorem eX12_split_65 : Dc mX12_split 65 (.istore_n 1) 1 66 := ⟨by decide +kernel, rfl⟩
theorem eX12_split_66 : Dj mX12_split 66 (.goto) 69 110 := ⟨44, by decide +kernel, rfl, by decide⟩
theorem eX12_split_69 : Dc mX12_split 69 (.aload_n 0) 1 70 := ⟨by decide +kernel, rfl⟩
theorem eX12_split_70 : Dc mX12_split 70 (.getfield 35) 3 73 := ⟨by decide +kernel, rfl⟩
theorem eX12_split_73 : Dc mX12_split 73 (.aload_n 0) 1 74 := ⟨by decide +kernel, rfl⟩
theorem eX12_split_74 : Dc mX12_split 74 (.getfield 92) 3 77 := ⟨by decide +kernel, rfl⟩
theorem eX12_split_77 : Dc mX12_split 77 (.iload_n 2) 1 78 := ⟨by decide +kernel, rfl⟩
theorem eX12_split_78 : Dc mX12_split 78 (.bipush 112) 2 80 := ⟨by decide +kernel, rfl⟩
theorem eX12_split_80 : Dj mX12_split 80 (.if_icmp .eq) 83 101 := ⟨21, by decide +kernel, rfl, by decide⟩
theorem eX12_split_83 : Dc mX12_split 83 (.iload_n 2) 1 84 := ⟨by decide +kernel, rfl⟩
theorem eX12_split_84 : Dc mX12_split 84 (.bipush 98) 2 86 := ⟨by decide +kernel, rfl⟩
theorem eX12_split_86 : Dj mX12_split 86 (.if_icmp .eq) 89 101 := ⟨15, by decide +kernel, rfl, by decide⟩
theorem eX12_split_89 : Dc mX12_split 89 (.iload_n 2) 1 90 := ⟨by decide +kernel, rfl⟩
theorem eX12_split_90 : Dc mX12_split 90 (.bipush 45) 2 92 := ⟨by decide +kernel, rfl⟩
theorem eX12_split_92 : Dj mX12_split 92 (.if_icmp .eq) 95 101 := ⟨9, by decide +kernel, rfl, by decide⟩
theorem eX12_split_95 : Dc mX12_split 95 (.iload_n 2) 1 96 := ⟨by decide +kernel, rfl⟩
theorem eX12_split_96 : Dc mX12_split 96 (.bipush 59) 2 98 := ⟨by decide +kernel, rfl⟩
theorem eX12_split_98 : Dj mX12_split 98 (.if_icmp .ne) 101 105 := ⟨7, by decide +kernel, rfl, by decide⟩
theorem eX12_split_101 : Dc mX12_split 101 (.iload_n 2) 1 102 := ⟨by decide +kernel, rfl⟩
theorem eX12_split_102 : Dj mX12_split 102 (.goto) 105 106 := ⟨4, by decide +kernel, rfl, by decide⟩
theorem eX12_split_105 : Dc mX12_split 105 (.iconst 2) 1 106 := ⟨by decide +kernel, rfl⟩
theorem eX12_split_106 : Dc mX12_split 106 (.iastore) 1 107 := ⟨by decide +kernel, rfl⟩
theorem eX12_split_107 : Dc mX12_split 107 (.iinc 1 1) 3 110 := ⟨by decide +kernel, rfl⟩
theorem eX12_split_110 : Dc mX12_split 110 (.aload_n 0) 1 111 := ⟨by decide +kernel, rfl⟩
theorem eX12_split_111 : Dc mX12_split 111 (.dup) 1 112 := ⟨by decide +kernel, rfl⟩
theorem eX12_split_112 : Dc mX12_split 112 (.getfield 92) 3 115 := ⟨by decide +kernel, rfl⟩
theorem eX12_split_115 : Dc mX12_split 115 (.iconst 1) 1 116 := ⟨by decide +kernel, rfl⟩
theorem eX12_split_116 : Dc mX12_split 116 (.iadd) 1 117 := ⟨by decide +kernel, rfl⟩
theorem eX12_split_117 : Dc mX12_split 117 (.putfield 92) 3 120 := ⟨by decide +kernel, rfl⟩
theorem eX12_split_120 : Dj mX12_split 120 (.goto) 123 7 := ⟨-113, by decide +kernel, rfl, by decide⟩
theorem eX12_split_123 : Dc mX12_split 123 (.return_) 1 124 := ⟨by decide +kernel, rfl⟩
theorem eX12_sure_0 : Dc mX12_sure 0 (.iload_n 1) 1 1 := ⟨by decide +kernel, rfl⟩
theorem eX12_sure_1 : Dc mX12_sure 1 (.iconst 0) 1 2 := ⟨by decide +kernel, rfl⟩
theorem eX12_sure_2 : Dc mX12_sure 2 (.iconst 2) 1 3 := ⟨by decide +kernel, rfl⟩
theorem eX12_sure_3 : Dc mX12_sure 3 (.invokestatic 85) 3 6 := ⟨by decide +kernel, rfl⟩
theorem eX12_sure_6 : Dj mX12_sure 6 (.ifCond .ne) 9 11 := ⟨5, by decide +kernel, rfl, by decide⟩
theorem eX12_sure_9 : Dc mX12_sure 9 (.iconst (-1)) 1 10 := ⟨by decide +kernel, rfl⟩
theorem eX12_sure_10 : Dc mX12_sure 10 (.ireturn) 1 11 := ⟨by decide +kernel, rfl⟩
theorem eX12_sure_11 : Dc mX12_sure 11 (.aload_n 0) 1 12 := ⟨by decide +kernel, rfl⟩
theorem eX12_sure_12 : Dc mX12_sure 12 (.aload_n 0) 1 13 := ⟨by decide +kernel, rfl⟩
theorem eX12_sure_13 : Dc mX12_sure 13 (.getfield 82) 3 16 := ⟨by decide +kernel, rfl⟩
theorem eX12_sure_16 : Dc mX12_sure 16 (.invokevirtual 126) 3 19 := ⟨by decide +kernel, rfl⟩
theorem eX12_sure_19 : Dj mX12_sure 19 (.ifCond .ne) 22 25 := ⟨6, by decide +kernel, rfl, by decide⟩
theorem eX12_sure_22 : Dc mX12_sure 22 (.bipush (-2)) 2 24 := ⟨by decide +kernel, rfl⟩
theorem eX12_sure_24 : Dc mX12_sure 24 (.ireturn) 1 25 := ⟨by decide +kernel, rfl⟩
theorem eX12_sure_25 : Dc mX12_sure 25 (.aload_n 0) 1 26 := ⟨by decide +kernel, rfl⟩
theorem eX12_sure_26 : Dc mX12_sure 26 (.getfield 66) 3 29 := ⟨by decide +kernel, rfl⟩
theorem eX12_sure_29 : Dc mX12_sure 29 (.iconst 0) 1 30 := ⟨by decide +kernel, rfl⟩
theorem eX12_sure_30 : Dc mX12_sure 30 (.iconst 0) 1 31 := ⟨by decide +kernel, rfl⟩
theorem eX12_sure_31 : Dc mX12_sure 31 (.iastore) 1 32 := ⟨by decide +kernel, rfl⟩
theorem eX12_sure_32 : Dc mX12_sure 32 (.aload_n 0) 1 33 := ⟨by decide +kernel, rfl⟩
theorem eX12_sure_33 : Dc mX12_sure 33 (.getfield 66) 3 36 := ⟨by decide +kernel, rfl⟩
theorem eX12_sure_36 : Dc mX12_sure 36 (.iconst 1) 1 37 := ⟨by decide +kernel, rfl⟩
theorem eX12_sure_37 : Dc mX12_sure 37 (.iconst 0) 1 38 := ⟨by decide +kernel, rfl⟩
theorem eX12_sure_38 : Dc mX12_sure 38 (.iastore) 1 39 := ⟨by decide +kernel, rfl⟩
theorem eX12_sure_39 : Dc mX12_sure 39 (.aload_n 0) 1 40 := ⟨by decide +kernel, rfl⟩
theorem eX12_sure_40 : Dc mX12_sure 40 (.getfield 66) 3 43 := ⟨by decide +kernel, rfl⟩
theorem eX12_sure_43 : Dc mX12_sure 43 (.iconst 2) 1 44 := ⟨by decide +kernel, rfl⟩
theorem eX12_sure_44 : Dc mX12_sure 44 (.iconst 0) 1 45 := ⟨by decide +kernel, rfl⟩
theorem eX12_sure_45 : Dc mX12_sure 45 (.iastore) 1 46 := ⟨by decide +kernel, rfl⟩
theorem eX12_sure_46 : Dc mX12_sure 46 (.aload_n 0) 1 47 := ⟨by decide +kernel, rfl⟩
theorem eX12_sure_47 : Dc mX12_sure 47 (.iconst 0) 1 48 := ⟨by decide +kernel, rfl⟩
theorem eX12_sure_48 : Dc mX12_sure 48 (.putfield 193) 3 51 := ⟨by decide +kernel, rfl⟩
theorem eX12_sure_51 : Dc mX12_sure 51 (.aload_n 0) 1 52 := ⟨by decide +kernel, rfl⟩
theorem eX12_sure_52 : Dc mX12_sure 52 (.iconst 1) 1 53 := ⟨by decide +kernel, rfl⟩
theorem eX12_sure_53 : Dc mX12_sure 53 (.invokevirtual 199) 3 56 := ⟨by decide +kernel, rfl⟩
theorem eX12_sure_56 : Dc mX12_sure 56 (.aload_n 0) 1 57 := ⟨by decide +kernel, rfl⟩
theorem eX12_sure_57 : Dc mX12_sure 57 (.getfield 193) 3 60 := ⟨by decide +kernel, rfl⟩
theorem eX12_sure_60 : Dj mX12_sure 60 (.ifCond .le) 63 159 := ⟨99, by decide +kernel, rfl, by decide⟩
theorem eX12_sure_63 : Dc mX12_sure 63 (.aload_n 0) 1 64 := ⟨by decide +kernel, rfl⟩
theorem eX12_sure_64 : Dc mX12_sure 64 (.dup) 1 65 := ⟨by decide +kernel, rfl⟩
theorem eX12_sure_65 : Dc mX12_sure 65 (.getfield 193) 3 68 := ⟨by decide +kernel, rfl⟩
theorem eX12_sure_68 : Dc mX12_sure 68 (.iconst 1) 1 69 := ⟨by decide +kernel, rfl⟩
theorem eX12_sure_69 : Dc mX12_sure 69 (.isub) 1 70 := ⟨by decide +kernel, rfl⟩
theorem eX12_sure_70 : Dc mX12_sure 70 (.putfield 193) 3 73 := ⟨by decide +kernel, rfl⟩
theorem eX12_sure_73 : Dc mX12_sure 73 (.aload_n 0) 1 74 := ⟨by decide +kernel, rfl⟩
theorem eX12_sure_74 : Dc mX12_sure 74 (.getfield 51) 3 77 := ⟨by decide +kernel, rfl⟩
theorem eX12_sure_77 : Dc mX12_sure 77 (.aload_n 0) 1 78 := ⟨by decide +kernel, rfl⟩
theorem eX12_sure_78 : Dc mX12_sure 78 (.getfield 193) 3 81 := ⟨by decide +kernel, rfl⟩
theorem eX12_sure_81 : Dc mX12_sure 81 (.iaload) 1 82 := ⟨by decide +kernel, rfl⟩
theorem eX12_sure_82 : Dc mX12_sure 82 (.istore_n 2) 1 83 := ⟨by decide +kernel, rfl⟩
theorem eX12_sure_83 : Dc mX12_sure 83 (.aload_n 0) 1 84 := ⟨by decide +kernel, rfl⟩
theorem eX12_sure_84 : Dc mX12_sure 84 (.iload_n 2) 1 85 := ⟨by decide +kernel, rfl⟩
theorem eX12_sure_85 : Dc mX12_sure 85 (.invokevirtual 232) 3 88 := ⟨by decide +kernel, rfl⟩
theorem eX12_sure_88 : Dj mX12_sure 88 (.ifCond .eq) 91 95 := ⟨7, by decide +kernel, rfl, by decide⟩
theorem eX12_sure_91 : Dc mX12_sure 91 (.iconst 0) 1 92 := ⟨by decide +kernel, rfl⟩
theorem eX12_sure_92 : Dj mX12_sure 92 (.goto) 95 118 := ⟨26, by decide +kernel, rfl, by decide⟩
theorem eX12_sure_95 : Dc mX12_sure 95 (.aload_n 0) 1 96 := ⟨by decide +kernel, rfl⟩
theorem eX12_sure_96 : Dc mX12_sure 96 (.iload_n 2) 1 97 := ⟨by decide +kernel, rfl⟩
theorem eX12_sure_97 : Dc mX12_sure 97 (.invokevirtual 235) 3 100 := ⟨by decide +kernel, rfl⟩
theorem eX12_sure_100 : Dj mX12_sure 100 (.ifCond .eq) 103 107 := ⟨7, by decide +kernel, rfl, by decide⟩
theorem eX12_sure_103 : Dc mX12_sure 103 (.iconst 1) 1 104 := ⟨by decide +kernel, rfl⟩
theorem eX12_sure_104 : Dj mX12_sure 104 (.goto) 107 118 := ⟨14, by decide +kernel, rfl, by decide⟩
theorem eX12_sure_107 : Dc mX12_sure 107 (.iload_n 2) 1 108 := ⟨by decide +kernel, rfl⟩
theorem eX12_sure_108 : Dc mX12_sure 108 (.bipush 64) 2 110 := ⟨by decide +kernel, rfl⟩
theorem eX12_sure_110 : Dj mX12_sure 110 (.if_icmp .lt) 113 117 := ⟨7, by decide +kernel, rfl, by decide⟩
theorem eX12_sure_113 : Dc mX12_sure 113 (.iconst 2) 1 114 := ⟨by decide +kernel, rfl⟩
theorem eX12_sure_114 : Dj mX12_sure 114 (.goto) 117 118 := ⟨4, by decide +kernel, rfl, by decide⟩
theorem eX12_sure_117 : Dc mX12_sure 117 (.iconst 3) 1 118 := ⟨by decide +kernel, rfl⟩
theorem eX12_sure_118 : Dc mX12_sure 118 (.istore_n 3) 1 119 := ⟨by decide +kernel, rfl⟩
theorem eX12_sure_119 : Dc mX12_sure 119 (.iload_n 3) 1 120 := ⟨by decide +kernel, rfl⟩
theorem eX12_sure_120 : Dc mX12_sure 120 (.iconst 3) 1 121 := ⟨by decide +kernel, rfl⟩
theorem eX12_sure_121 : Dj mX12_sure 121 (.if_icmp .ge) 124 140 := ⟨19, by decide +kernel, rfl, by decide⟩
theorem eX12_sure_124 : Dc mX12_sure 124 (.aload_n 0) 1 125 := ⟨by decide +kernel, rfl⟩
theorem eX12_sure_125 : Dc mX12_sure 125 (.getfield 66) 3 128 := ⟨by decide +kernel, rfl⟩
theorem eX12_sure_128 : Dc mX12_sure 128 (.iload_n 3) 1 129 := ⟨by decide +kernel, rfl⟩
theorem eX12_sure_129 : Dc mX12_sure 129 (.dup2) 1 130 := ⟨by decide +kernel, rfl⟩
theorem eX12_sure_130 : Dc mX12_sure 130 (.iaload) 1 131 := ⟨by decide +kernel, rfl⟩
theorem eX12_sure_131 : Dc mX12_sure 131 (.iload_n 2) 1 132 := ⟨by decide +kernel, rfl⟩
theorem eX12_sure_132 : Dc mX12_sure 132 (.invokestatic 138) 3 135 := ⟨by decide +kernel, rfl⟩
theorem eX12_sure_135 : Dc mX12_sure 135 (.iadd) 1 136 := ⟨by decide +kernel, rfl⟩
theorem eX12_sure_136 : Dc mX12_sure 136 (.iastore) 1 137 := ⟨by decide +kernel, rfl⟩
theorem eX12_sure_137 : Dj mX12_sure 137 (.goto) 140 156 := ⟨19, by decide +kernel, rfl, by decide⟩
theorem eX12_sure_140 : Dc mX12_sure 140 (.aload_n 0) 1 141 := ⟨by decide +kernel, rfl⟩
theorem eX12_sure_141 : Dc mX12_sure 141 (.iconst 2) 1 142 := ⟨by decide +kernel, rfl⟩
theorem eX12_sure_142 : Dc mX12_sure 142 (.iload_n 2) 1 143 := ⟨by decide +kernel, rfl⟩
theorem eX12_sure_143 : Dc mX12_sure 143 (.imul) 1 144 := ⟨by decide +kernel, rfl⟩
theorem eX12_sure_144 : Dc mX12_sure 144 (.iconst 1) 1 145 := ⟨by decide +kernel, rfl⟩
theorem eX12_sure_145 : Dc mX12_sure 145 (.iadd) 1 146 := ⟨by decide +kernel, rfl⟩
theorem eX12_sure_146 : Dc mX12_sure 146 (.invokevirtual 199) 3 149 := ⟨by decide +kernel, rfl⟩
theorem eX12_sure_149 : Dc mX12_sure 149 (.aload_n 0) 1 150 := ⟨by decide +kernel, rfl⟩
theorem eX12_sure_150 : Dc mX12_sure 150 (.iconst 2) 1 151 := ⟨by decide +kernel, rfl⟩
theorem eX12_sure_151 : Dc mX12_sure 151 (.iload_n 2) 1 152 := ⟨by decide +kernel, rfl⟩
theorem eX12_sure_152 : Dc mX12_sure 152 (.imul) 1 153 := ⟨by decide +kernel, rfl⟩
theorem eX12_sure_153 : Dc mX12_sure 153 (.invokevirtual 199) 3 156 := ⟨by decide +kernel, rfl⟩
theorem eX12_sure_156 : Dj mX12_sure 156 (.goto) 159 56 := ⟨-100, by decide +kernel, rfl, by decide⟩
theorem eX12_sure_159 : Dc mX12_sure 159 (.aload_n 0) 1 160 := ⟨by decide +kernel, rfl⟩
theorem eX12_sure_160 : Dc mX12_sure 160 (.getfield 66) 3 163 := ⟨by decide +kernel, rfl⟩
theorem eX12_sure_163 : Dc mX12_sure 163 (.iload_n 1) 1 164 := ⟨by decide +kernel, rfl⟩
theorem eX12_sure_164 : Dc mX12_sure 164 (.iaload) 1 165 := ⟨by decide +kernel, rfl⟩
theorem eX12_sure_165 : Dc mX12_sure 165 (.ireturn) 1 166 := ⟨by decide +kernel, rfl⟩
theorem eX12_takes_0 : Dc mX12_takes 0 (.aload_n 0) 1 1 := ⟨by decide +kernel, rfl⟩
theorem eX12_takes_1 : Dc mX12_takes 1 (.iload_n 1) 1 2 := ⟨by decide +kernel, rfl⟩
theorem eX12_takes_2 : Dc mX12_takes 2 (.invokevirtual 123) 3 5 := ⟨by decide +kernel, rfl⟩
theorem eX12_takes_5 : Dj mX12_takes 5 (.ifCond .eq) 8 16 := ⟨11, by decide +kernel, rfl, by decide⟩
theorem eX12_takes_8 : Dc mX12_takes 8 (.aload_n 0) 1 9 := ⟨by decide +kernel, rfl⟩
theorem eX12_takes_9 : Dc mX12_takes 9 (.iload_n 2) 1 10 := ⟨by decide +kernel, rfl⟩
theorem eX12_takes_10 : Dc mX12_takes 10 (.invokevirtual 126) 3 13 := ⟨by decide +kernel, rfl⟩
theorem eX12_takes_13 : Dj mX12_takes 13 (.ifCond .ne) 16 18 := ⟨5, by decide +kernel, rfl, by decide⟩
theorem eX12_takes_16 : Dc mX12_takes 16 (.iconst (-1)) 1 17 := ⟨by decide +kernel, rfl⟩
theorem eX12_takes_17 : Dc mX12_takes 17 (.ireturn) 1 18 := ⟨by decide +kernel, rfl⟩
theorem eX12_takes_18 : Dc mX12_takes 18 (.aload_n 0) 1 19 := ⟨by decide +kernel, rfl⟩
theorem eX12_takes_19 : Dc mX12_takes 19 (.iload_n 1) 1 20 := ⟨by decide +kernel, rfl⟩
theorem eX12_takes_20 : Dc mX12_takes 20 (.putfield 79) 3 23 := ⟨by decide +kernel, rfl⟩
theorem eX12_takes_23 : Dc mX12_takes 23 (.aload_n 0) 1 24 := ⟨by decide +kernel, rfl⟩
theorem eX12_takes_24 : Dc mX12_takes 24 (.iload_n 2) 1 25 := ⟨by decide +kernel, rfl⟩
theorem eX12_takes_25 : Dc mX12_takes 25 (.putfield 82) 3 28 := ⟨by decide +kernel, rfl⟩
theorem eX12_takes_28 : Dc mX12_takes 28 (.iconst 1) 1 29 := ⟨by decide +kernel, rfl⟩
theorem eX12_takes_29 : Dc mX12_takes 29 (.ireturn) 1 30 := ⟨by decide +kernel, rfl⟩
theorem eX12_takesNumber_0 : Dc mX12_takesNumber 0 (.aload_n 0) 1 1 := ⟨by decide +kernel, rfl⟩
theorem eX12_takesNumber_1 : Dc mX12_takesNumber 1 (.bipush 45) 2 3 := ⟨by decide +kernel, rfl⟩
theorem eX12_takesNumber_3 : Dc mX12_takesNumber 3 (.invokevirtual 102) 3 6 := ⟨by decide +kernel, rfl⟩
theorem eX12_takesNumber_6 : Dc mX12_takesNumber 6 (.istore_n 3) 1 7 := ⟨by decide +kernel, rfl⟩
theorem eX12_takesNumber_7 : Dc mX12_takesNumber 7 (.aload_n 0) 1 8 := ⟨by decide +kernel, rfl⟩
theorem eX12_takesNumber_8 : Dc mX12_takesNumber 8 (.dup) 1 9 := ⟨by decide +kernel, rfl⟩
theorem eX12_takesNumber_9 : Dc mX12_takesNumber 9 (.getfield 99) 3 12 := ⟨by decide +kernel, rfl⟩
theorem eX12_takesNumber_12 : Dc mX12_takesNumber 12 (.iload_n 3) 1 13 := ⟨by decide +kernel, rfl⟩
theorem eX12_takesNumber_13 : Dj mX12_takesNumber 13 (.ifCond .eq) 16 20 := ⟨7, by decide +kernel, rfl, by decide⟩
theorem eX12_takesNumber_16 : Dc mX12_takesNumber 16 (.iconst 1) 1 17 := ⟨by decide +kernel, rfl⟩
theorem eX12_takesNumber_17 : Dj mX12_takesNumber 17 (.goto) 20 21 := ⟨4, by decide +kernel, rfl, by decide⟩
theorem eX12_takesNumber_20 : Dc mX12_takesNumber 20 (.iconst 0) 1 21 := ⟨by decide +kernel, rfl⟩
theorem eX12_takesNumber_21 : Dc mX12_takesNumber 21 (.iadd) 1 22 := ⟨by decide +kernel, rfl⟩
theorem eX12_takesNumber_22 : Dc mX12_takesNumber 22 (.putfield 99) 3 25 := ⟨by decide +kernel, rfl⟩
theorem eX12_takesNumber_25 : Dc mX12_takesNumber 25 (.aload_n 0) 1 26 := ⟨by decide +kernel, rfl⟩
theorem eX12_takesNumber_26 : Dc mX12_takesNumber 26 (.aload_n 0) 1 27 := ⟨by decide +kernel, rfl⟩
theorem eX12_takesNumber_27 : Dc mX12_takesNumber 27 (.iconst 1) 1 28 := ⟨by decide +kernel, rfl⟩
theorem eX12_takesNumber_28 : Dc mX12_takesNumber 28 (.invokevirtual 102) 3 31 := ⟨by decide +kernel, rfl⟩
theorem eX12_takesNumber_31 : Dj mX12_takesNumber 31 (.ifCond .eq) 34 63 := ⟨32, by decide +kernel, rfl, by decide⟩
theorem eX12_takesNumber_34 : Dc mX12_takesNumber 34 (.iload_n 3) 1 35 := ⟨by decide +kernel, rfl⟩
theorem eX12_takesNumber_35 : Dj mX12_takesNumber 35 (.ifCond .eq) 38 51 := ⟨16, by decide +kernel, rfl, by decide⟩
theorem eX12_takesNumber_38 : Dc mX12_takesNumber 38 (.aload_n 0) 1 39 := ⟨by decide +kernel, rfl⟩
theorem eX12_takesNumber_39 : Dc mX12_takesNumber 39 (.getfield 41) 3 42 := ⟨by decide +kernel, rfl⟩
theorem eX12_takesNumber_42 : Dc mX12_takesNumber 42 (.aload_n 0) 1 43 := ⟨by decide +kernel, rfl⟩
theorem eX12_takesNumber_43 : Dc mX12_takesNumber 43 (.getfield 99) 3 46 := ⟨by decide +kernel, rfl⟩
theorem eX12_takesNumber_46 : Dc mX12_takesNumber 46 (.iaload) 1 47 := ⟨by decide +kernel, rfl⟩
theorem eX12_takesNumber_47 : Dc mX12_takesNumber 47 (.ineg) 1 48 := ⟨by decide +kernel, rfl⟩
theorem eX12_takesNumber_48 : Dj mX12_takesNumber 48 (.goto) 51 64 := ⟨16, by decide +kernel, rfl, by decide⟩
theorem eX12_takesNumber_51 : Dc mX12_takesNumber 51 (.aload_n 0) 1 52 := ⟨by decide +kernel, rfl⟩
theorem eX12_takesNumber_52 : Dc mX12_takesNumber 52 (.getfield 41) 3 55 := ⟨by decide +kernel, rfl⟩
theorem eX12_takesNumber_55 : Dc mX12_takesNumber 55 (.aload_n 0) 1 56 := ⟨by decide +kernel, rfl⟩
theorem eX12_takesNumber_56 : Dc mX12_takesNumber 56 (.getfield 99) 3 59 := ⟨by decide +kernel, rfl⟩
theorem eX12_takesNumber_59 : Dc mX12_takesNumber 59 (.iaload) 1 60 := ⟨by decide +kernel, rfl⟩
theorem eX12_takesNumber_60 : Dj mX12_takesNumber 60 (.goto) 63 64 := ⟨4, by decide +kernel, rfl, by decide⟩
theorem eX12_takesNumber_63 : Dc mX12_takesNumber 63 (.iconst 0) 1 64 := ⟨by decide +kernel, rfl⟩
theorem eX12_takesNumber_64 : Dc mX12_takesNumber 64 (.putfield 106) 3 67 := ⟨by decide +kernel, rfl⟩
theorem eX12_takesNumber_67 : Dc mX12_takesNumber 67 (.aload_n 0) 1 68 := ⟨by decide +kernel, rfl⟩
theorem eX12_takesNumber_68 : Dc mX12_takesNumber 68 (.iconst 1) 1 69 := ⟨by decide +kernel, rfl⟩
theorem eX12_takesNumber_69 : Dc mX12_takesNumber 69 (.invokevirtual 102) 3 72 := ⟨by decide +kernel, rfl⟩
theorem eX12_takesNumber_72 : Dj mX12_takesNumber 72 (.ifCond .eq) 75 91 := ⟨19, by decide +kernel, rfl, by decide⟩
theorem eX12_takesNumber_75 : Dc mX12_takesNumber 75 (.aload_n 0) 1 76 := ⟨by decide +kernel, rfl⟩
theorem eX12_takesNumber_76 : Dc mX12_takesNumber 76 (.getfield 106) 3 79 := ⟨by decide +kernel, rfl⟩
theorem eX12_takesNumber_79 : Dc mX12_takesNumber 79 (.iload_n 1) 1 80 := ⟨by decide +kernel, rfl⟩
theorem eX12_takesNumber_80 : Dc mX12_takesNumber 80 (.iload_n 2) 1 81 := ⟨by decide +kernel, rfl⟩
theorem eX12_takesNumber_81 : Dc mX12_takesNumber 81 (.invokestatic 85) 3 84 := ⟨by decide +kernel, rfl⟩
theorem eX12_takesNumber_84 : Dj mX12_takesNumber 84 (.ifCond .eq) 87 91 := ⟨7, by decide +kernel, rfl, by decide⟩
theorem eX12_takesNumber_87 : Dc mX12_takesNumber 87 (.iconst 1) 1 88 := ⟨by decide +kernel, rfl⟩
theorem eX12_takesNumber_88 : Dj mX12_takesNumber 88 (.goto) 91 92 := ⟨4, by decide +kernel, rfl, by decide⟩
theorem eX12_takesNumber_91 : Dc mX12_takesNumber 91 (.iconst 0) 1 92 := ⟨by decide +kernel, rfl⟩
theorem eX12_takesNumber_92 : Dc mX12_takesNumber 92 (.istore 4) 2 94 := ⟨by decide +kernel, rfl⟩
theorem eX12_takesNumber_94 : Dc mX12_takesNumber 94 (.aload_n 0) 1 95 := ⟨by decide +kernel, rfl⟩
theorem eX12_takesNumber_95 : Dc mX12_takesNumber 95 (.dup) 1 96 := ⟨by decide +kernel, rfl⟩
theorem eX12_takesNumber_96 : Dc mX12_takesNumber 96 (.getfield 99) 3 99 := ⟨by decide +kernel, rfl⟩
theorem eX12_takesNumber_99 : Dc mX12_takesNumber 99 (.iload 4) 2 101 := ⟨by decide +kernel, rfl⟩
theorem eX12_takesNumber_101 : Dj mX12_takesNumber 101 (.ifCond .eq) 104 108 := ⟨7, by decide +kernel, rfl, by decide⟩
theorem eX12_takesNumber_104 : Dc mX12_takesNumber 104 (.iconst 1) 1 105 := ⟨by decide +kernel, rfl⟩
theorem eX12_takesNumber_105 : Dj mX12_takesNumber 105 (.goto) 108 109 := ⟨4, by decide +kernel, rfl, by decide⟩
theorem eX12_takesNumber_108 : Dc mX12_takesNumber 108 (.iconst 0) 1 109 := ⟨by decide +kernel, rfl⟩
theorem eX12_takesNumber_109 : Dc mX12_takesNumber 109 (.iadd) 1 110 := ⟨by decide +kernel, rfl⟩
theorem eX12_takesNumber_110 : Dc mX12_takesNumber 110 (.putfield 99) 3 113 := ⟨by decide +kernel, rfl⟩
theorem eX12_takesNumber_113 : Dc mX12_takesNumber 113 (.iload 4) 2 115 := ⟨by decide +kernel, rfl⟩
theorem eX12_takesNumber_115 : Dc mX12_takesNumber 115 (.ireturn) 1 116 := ⟨by decide +kernel, rfl⟩
theorem eX12_type_0 : Dc mX12_type 0 (.iload_n 1) 1 1 := ⟨by decide +kernel, rfl⟩
theorem eX12_type_1 : Dc mX12_type 1 (.iconst 0) 1 2 := ⟨by decide +kernel, rfl⟩
theorem eX12_type_2 : Dc mX12_type 2 (.sipush 255) 3 5 := ⟨by decide +kernel, rfl⟩
theorem eX12_type_5 : Dc mX12_type 5 (.invokestatic 85) 3 8 := ⟨by decide +kernel, rfl⟩
theorem eX12_type_8 : Dj mX12_type 8 (.ifCond .ne) 11 13 := ⟨5, by decide +kernel, rfl, by decide⟩
theorem eX12_type_11 : Dc mX12_type 11 (.iconst (-1)) 1 12 := ⟨by decide +kernel, rfl⟩
theorem eX12_type_12 : Dc mX12_type 12 (.ireturn) 1 13 := ⟨by decide +kernel, rfl⟩
theorem eX12_type_13 : Dc mX12_type 13 (.aload_n 0) 1 14 := ⟨by decide +kernel, rfl⟩
theorem eX12_type_14 : Dc mX12_type 14 (.getfield 89) 3 17 := ⟨by decide +kernel, rfl⟩
theorem eX12_type_17 : Dc mX12_type 17 (.bipush 120) 2 19 := ⟨by decide +kernel, rfl⟩
theorem eX12_type_19 : Dj mX12_type 19 (.if_icmp .ne) 22 25 := ⟨6, by decide +kernel, rfl, by decide⟩
theorem eX12_type_22 : Dc mX12_type 22 (.bipush (-3)) 2 24 := ⟨by decide +kernel, rfl⟩
theorem eX12_type_24 : Dc mX12_type 24 (.ireturn) 1 25 := ⟨by decide +kernel, rfl⟩
theorem eX12_type_25 : Dc mX12_type 25 (.aload_n 0) 1 26 := ⟨by decide +kernel, rfl⟩
theorem eX12_type_26 : Dc mX12_type 26 (.getfield 32) 3 29 := ⟨by decide +kernel, rfl⟩
theorem eX12_type_29 : Dc mX12_type 29 (.aload_n 0) 1 30 := ⟨by decide +kernel, rfl⟩
theorem eX12_type_30 : Dc mX12_type 30 (.getfield 89) 3 33 := ⟨by decide +kernel, rfl⟩
theorem eX12_type_33 : Dc mX12_type 33 (.iload_n 1) 1 34 := ⟨by decide +kernel, rfl⟩
theorem eX12_type_34 : Dc mX12_type 34 (.iastore) 1 35 := ⟨by decide +kernel, rfl⟩
theorem eX12_type_35 : Dc mX12_type 35 (.aload_n 0) 1 36 := ⟨by decide +kernel, rfl⟩
theorem eX12_type_36 : Dc mX12_type 36 (.dup) 1 37 := ⟨by decide +kernel, rfl⟩
theorem eX12_type_37 : Dc mX12_type 37 (.getfield 89) 3 40 := ⟨by decide +kernel, rfl⟩
theorem eX12_type_40 : Dc mX12_type 40 (.iconst 1) 1 41 := ⟨by decide +kernel, rfl⟩
theorem eX12_type_41 : Dc mX12_type 41 (.iadd) 1 42 := ⟨by decide +kernel, rfl⟩
theorem eX12_type_42 : Dc mX12_type 42 (.putfield 89) 3 45 := ⟨by decide +kernel, rfl⟩
theorem eX12_type_45 : Dc mX12_type 45 (.aload_n 0) 1 46 := ⟨by decide +kernel, rfl⟩
theorem eX12_type_46 : Dc mX12_type 46 (.getfield 89) 3 49 := ⟨by decide +kernel, rfl⟩
theorem eX12_type_49 : Dc mX12_type 49 (.ireturn) 1 50 := ⟨by decide +kernel, rfl⟩
theorem eX12_undo_0 : Dc mX12_undo 0 (.aload_n 0) 1 1 := ⟨by decide +kernel, rfl⟩
theorem eX12_undo_1 : Dc mX12_undo 1 (.getfield 72) 3 4 := ⟨by decide +kernel, rfl⟩
theorem eX12_undo_4 : Dj mX12_undo 4 (.ifCond .ne) 7 10 := ⟨6, by decide +kernel, rfl, by decide⟩
theorem eX12_undo_7 : Dc mX12_undo 7 (.bipush (-2)) 2 9 := ⟨by decide +kernel, rfl⟩
theorem eX12_undo_9 : Dc mX12_undo 9 (.ireturn) 1 10 := ⟨by decide +kernel, rfl⟩
theorem eX12_undo_10 : Dc mX12_undo 10 (.aload_n 0) 1 11 := ⟨by decide +kernel, rfl⟩
theorem eX12_undo_11 : Dc mX12_undo 11 (.dup) 1 12 := ⟨by decide +kernel, rfl⟩
theorem eX12_undo_12 : Dc mX12_undo 12 (.getfield 72) 3 15 := ⟨by decide +kernel, rfl⟩
theorem eX12_undo_15 : Dc mX12_undo 15 (.iconst 1) 1 16 := ⟨by decide +kernel, rfl⟩
theorem eX12_undo_16 : Dc mX12_undo 16 (.isub) 1 17 := ⟨by decide +kernel, rfl⟩
theorem eX12_undo_17 : Dc mX12_undo 17 (.putfield 72) 3 20 := ⟨by decide +kernel, rfl⟩
theorem eX12_undo_20 : Dc mX12_undo 20 (.aload_n 0) 1 21 := ⟨by decide +kernel, rfl⟩
theorem eX12_undo_21 : Dc mX12_undo 21 (.getfield 7) 3 24 := ⟨by decide +kernel, rfl⟩
theorem eX12_undo_24 : Dc mX12_undo 24 (.aload_n 0) 1 25 := ⟨by decide +kernel, rfl⟩
theorem eX12_undo_25 : Dc mX12_undo 25 (.getfield 23) 3 28 := ⟨by decide +kernel, rfl⟩
theorem eX12_undo_28 : Dc mX12_undo 28 (.iconst 4) 1 29 := ⟨by decide +kernel, rfl⟩
theorem eX12_undo_29 : Dc mX12_undo 29 (.aload_n 0) 1 30 := ⟨by decide +kernel, rfl⟩
theorem eX12_undo_30 : Dc mX12_undo 30 (.getfield 72) 3 33 := ⟨by decide +kernel, rfl⟩
theorem eX12_undo_33 : Dc mX12_undo 33 (.imul) 1 34 := ⟨by decide +kernel, rfl⟩
theorem eX12_undo_34 : Dc mX12_undo 34 (.iaload) 1 35 := ⟨by decide +kernel, rfl⟩
theorem eX12_undo_35 : Dc mX12_undo 35 (.aload_n 0) 1 36 := ⟨by decide +kernel, rfl⟩
theorem eX12_undo_36 : Dc mX12_undo 36 (.getfield 23) 3 39 := ⟨by decide +kernel, rfl⟩
theorem eX12_undo_39 : Dc mX12_undo 39 (.iconst 4) 1 40 := ⟨by decide +kernel, rfl⟩
theorem eX12_undo_40 : Dc mX12_undo 40 (.aload_n 0) 1 41 := ⟨by decide +kernel, rfl⟩
theorem eX12_undo_41 : Dc mX12_undo 41 (.getfield 72) 3 44 := ⟨by decide +kernel, rfl⟩
theorem eX12_undo_44 : Dc mX12_undo 44 (.imul) 1 45 := ⟨by decide +kernel, rfl⟩
theorem eX12_undo_45 : Dc mX12_undo 45 (.iconst 1) 1 46 := ⟨by decide +kernel, rfl⟩
theorem eX12_undo_46 : Dc mX12_undo 46 (.iadd) 1 47 := ⟨by decide +kernel, rfl⟩
theorem eX12_undo_47 : Dc mX12_undo 47 (.iaload) 1 48 := ⟨by decide +kernel, rfl⟩
theorem eX12_undo_48 : Dc mX12_undo 48 (.iastore) 1 49 := ⟨by decide +kernel, rfl⟩
theorem eX12_undo_49 : Dc mX12_undo 49 (.aload_n 0) 1 50 := ⟨by decide +kernel, rfl⟩
theorem eX12_undo_50 : Dc mX12_undo 50 (.getfield 7) 3 53 := ⟨by decide +kernel, rfl⟩
theorem eX12_undo_53 : Dc mX12_undo 53 (.aload_n 0) 1 54 := ⟨by decide +kernel, rfl⟩
theorem eX12_undo_54 : Dc mX12_undo 54 (.getfield 23) 3 57 := ⟨by decide +kernel, rfl⟩
theorem eX12_undo_57 : Dc mX12_undo 57 (.iconst 4) 1 58 := ⟨by decide +kernel, rfl⟩
theorem eX12_undo_58 : Dc mX12_undo 58 (.aload_n 0) 1 59 := ⟨by decide +kernel, rfl⟩
theorem eX12_undo_59 : Dc mX12_undo 59 (.getfield 72) 3 62 := ⟨by decide +kernel, rfl⟩
theorem eX12_undo_62 : Dc mX12_undo 62 (.imul) 1 63 := ⟨by decide +kernel, rfl⟩
theorem eX12_undo_63 : Dc mX12_undo 63 (.iconst 2) 1 64 := ⟨by decide +kernel, rfl⟩
theorem eX12_undo_64 : Dc mX12_undo 64 (.iadd) 1 65 := ⟨by decide +kernel, rfl⟩
theorem eX12_undo_65 : Dc mX12_undo 65 (.iaload) 1 66 := ⟨by decide +kernel, rfl⟩
theorem eX12_undo_66 : Dc mX12_undo 66 (.aload_n 0) 1 67 := ⟨by decide +kernel, rfl⟩
theorem eX12_undo_67 : Dc mX12_undo 67 (.getfield 23) 3 70 := ⟨by decide +kernel, rfl⟩
theorem eX12_undo_70 : Dc mX12_undo 70 (.iconst 4) 1 71 := ⟨by decide +kernel, rfl⟩
theorem eX12_undo_71 : Dc mX12_undo 71 (.aload_n 0) 1 72 := ⟨by decide +kernel, rfl⟩
theorem eX12_undo_72 : Dc mX12_undo 72 (.getfield 72) 3 75 := ⟨by decide +kernel, rfl⟩
theorem eX12_undo_75 : Dc mX12_undo 75 (.imul) 1 76 := ⟨by decide +kernel, rfl⟩
theorem eX12_undo_76 : Dc mX12_undo 76 (.iconst 3) 1 77 := ⟨by decide +kernel, rfl⟩
theorem eX12_undo_77 : Dc mX12_undo 77 (.iadd) 1 78 := ⟨by decide +kernel, rfl⟩
theorem eX12_undo_78 : Dc mX12_undo 78 (.iaload) 1 79 := ⟨by decide +kernel, rfl⟩
theorem eX12_undo_79 : Dc mX12_undo 79 (.iastore) 1 80 := ⟨by decide +kernel, rfl⟩
theorem eX12_undo_80 : Dc mX12_undo 80 (.aload_n 0) 1 81 := ⟨by decide +kernel, rfl⟩
theorem eX12_undo_81 : Dc mX12_undo 81 (.getfield 72) 3 84 := ⟨by decide +kernel, rfl⟩
theorem eX12_undo_84 : Dc mX12_undo 84 (.ireturn) 1 85 := ⟨by decide +kernel, rfl⟩
theorem eX12_unseen_0 : Dc mX12_unseen 0 (.iconst 0) 1 1 := ⟨by decide +kernel, rfl⟩
theorem eX12_unseen_1 : Dc mX12_unseen 1 (.istore_n 1) 1 2 := ⟨by decide +kernel, rfl⟩
theorem eX12_unseen_2 : Dc mX12_unseen 2 (.iconst 0) 1 3 := ⟨by decide +kernel, rfl⟩
theorem eX12_unseen_3 : Dc mX12_unseen 3 (.istore_n 2) 1 4 := ⟨by decide +kernel, rfl⟩
theorem eX12_unseen_4 : Dc mX12_unseen 4 (.iload_n 2) 1 5 := ⟨by decide +kernel, rfl⟩
theorem eX12_unseen_5 : Dc mX12_unseen 5 (.aload_n 0) 1 6 := ⟨by decide +kernel, rfl⟩
theorem eX12_unseen_6 : Dc mX12_unseen 6 (.getfield 7) 3 9 := ⟨by decide +kernel, rfl⟩
theorem eX12_unseen_9 : Dc mX12_unseen 9 (.iconst 0) 1 10 := ⟨by decide +kernel, rfl⟩
theorem eX12_unseen_10 : Dc mX12_unseen 10 (.iaload) 1 11 := ⟨by decide +kernel, rfl⟩
theorem eX12_unseen_11 : Dj mX12_unseen 11 (.if_icmp .ge) 14 86 := ⟨75, by decide +kernel, rfl, by decide⟩
theorem eX12_unseen_14 : Dc mX12_unseen 14 (.iconst 1) 1 15 := ⟨by decide +kernel, rfl⟩
theorem eX12_unseen_15 : Dc mX12_unseen 15 (.istore_n 3) 1 16 := ⟨by decide +kernel, rfl⟩
theorem eX12_unseen_16 : Dc mX12_unseen 16 (.iconst 0) 1 17 := ⟨by decide +kernel, rfl⟩
theorem eX12_unseen_17 : Dc mX12_unseen 17 (.istore 4) 2 19 := ⟨by decide +kernel, rfl⟩
theorem eX12_unseen_19 : Dc mX12_unseen 19 (.iload 4) 2 21 := ⟨by decide +kernel, rfl⟩
theorem eX12_unseen_21 : Dc mX12_unseen 21 (.aload_n 0) 1 22 := ⟨by decide +kernel, rfl⟩
theorem eX12_unseen_22 : Dc mX12_unseen 22 (.getfield 76) 3 25 := ⟨by decide +kernel, rfl⟩
theorem eX12_unseen_25 : Dj mX12_unseen 25 (.if_icmp .ge) 28 66 := ⟨41, by decide +kernel, rfl, by decide⟩
theorem eX12_unseen_28 : Dc mX12_unseen 28 (.iload_n 3) 1 29 := ⟨by decide +kernel, rfl⟩
theorem eX12_unseen_29 : Dj mX12_unseen 29 (.ifCond .eq) 32 58 := ⟨29, by decide +kernel, rfl, by decide⟩
theorem eX12_unseen_32 : Dc mX12_unseen 32 (.aload_n 0) 1 33 := ⟨by decide +kernel, rfl⟩
theorem eX12_unseen_33 : Dc mX12_unseen 33 (.iload_n 2) 1 34 := ⟨by decide +kernel, rfl⟩
theorem eX12_unseen_34 : Dc mX12_unseen 34 (.aload_n 0) 1 35 := ⟨by decide +kernel, rfl⟩
theorem eX12_unseen_35 : Dc mX12_unseen 35 (.getfield 26) 3 38 := ⟨by decide +kernel, rfl⟩
theorem eX12_unseen_38 : Dc mX12_unseen 38 (.iload 4) 2 40 := ⟨by decide +kernel, rfl⟩
theorem eX12_unseen_40 : Dc mX12_unseen 40 (.iaload) 1 41 := ⟨by decide +kernel, rfl⟩
theorem eX12_unseen_41 : Dc mX12_unseen 41 (.invokevirtual 238) 3 44 := ⟨by decide +kernel, rfl⟩
theorem eX12_unseen_44 : Dc mX12_unseen 44 (.aload_n 0) 1 45 := ⟨by decide +kernel, rfl⟩
theorem eX12_unseen_45 : Dc mX12_unseen 45 (.getfield 29) 3 48 := ⟨by decide +kernel, rfl⟩
theorem eX12_unseen_48 : Dc mX12_unseen 48 (.iload 4) 2 50 := ⟨by decide +kernel, rfl⟩
theorem eX12_unseen_50 : Dc mX12_unseen 50 (.iaload) 1 51 := ⟨by decide +kernel, rfl⟩
theorem eX12_unseen_51 : Dj mX12_unseen 51 (.if_icmp .ne) 54 58 := ⟨7, by decide +kernel, rfl, by decide⟩
theorem eX12_unseen_54 : Dc mX12_unseen 54 (.iconst 1) 1 55 := ⟨by decide +kernel, rfl⟩
theorem eX12_unseen_55 : Dj mX12_unseen 55 (.goto) 58 59 := ⟨4, by decide +kernel, rfl, by decide⟩
theorem eX12_unseen_58 : Dc mX12_unseen 58 (.iconst 0) 1 59 := ⟨by decide +kernel, rfl⟩
theorem eX12_unseen_59 : Dc mX12_unseen 59 (.istore_n 3) 1 60 := ⟨by decide +kernel, rfl⟩
theorem eX12_unseen_60 : Dc mX12_unseen 60 (.iinc 4 1) 3 63 := ⟨by decide +kernel, rfl⟩
theorem eX12_unseen_63 : Dj mX12_unseen 63 (.goto) 66 19 := ⟨-44, by decide +kernel, rfl, by decide⟩
theorem eX12_unseen_66 : Dc mX12_unseen 66 (.iload_n 1) 1 67 := ⟨by decide +kernel, rfl⟩
theorem eX12_unseen_67 : Dc mX12_unseen 67 (.iload_n 3) 1 68 := ⟨by decide +kernel, rfl⟩
theorem eX12_unseen_68 : Dj mX12_unseen 68 (.ifCond .eq) 71 77 := ⟨9, by decide +kernel, rfl, by decide⟩
theorem eX12_unseen_71 : Dc mX12_unseen 71 (.iconst 1) 1 72 := ⟨by decide +kernel, rfl⟩
theorem eX12_unseen_72 : Dc mX12_unseen 72 (.iload_n 2) 1 73 := ⟨by decide +kernel, rfl⟩
theorem eX12_unseen_73 : Dc mX12_unseen 73 (.ishl) 1 74 := ⟨by decide +kernel, rfl⟩
theorem eX12_unseen_74 : Dj mX12_unseen 74 (.goto) 77 78 := ⟨4, by decide +kernel, rfl, by decide⟩
theorem eX12_unseen_77 : Dc mX12_unseen 77 (.iconst 0) 1 78 := ⟨by decide +kernel, rfl⟩
theorem eX12_unseen_78 : Dc mX12_unseen 78 (.ior) 1 79 := ⟨by decide +kernel, rfl⟩
theorem eX12_unseen_79 : Dc mX12_unseen 79 (.istore_n 1) 1 80 := ⟨by decide +kernel, rfl⟩
theorem eX12_unseen_80 : Dc mX12_unseen 80 (.iinc 2 1) 3 83 := ⟨by decide +kernel, rfl⟩
theorem eX12_unseen_83 : Dj mX12_unseen 83 (.goto) 86 4 := ⟨-79, by decide +kernel, rfl, by decide⟩
theorem eX12_unseen_86 : Dc mX12_unseen 86 (.iload_n 1) 1 87 := ⟨by decide +kernel, rfl⟩
theorem eX12_unseen_87 : Dc mX12_unseen 87 (.ireturn) 1 88 := ⟨by decide +kernel, rfl⟩
end
section
theorem eX12_value_0 : Dc mX12_value 0 (.iload_n 1) 1 1 := ⟨by decide +kernel, rfl⟩
theorem eX12_value_1 : Dc mX12_value 1 (.invokestatic 172) 3 4 := ⟨by decide +kernel, rfl⟩
theorem eX12_value_4 : Dj mX12_value 4 (.ifCond .eq) 7 32 := ⟨28, by decide +kernel, rfl, by decide⟩
theorem eX12_value_7 : Dc mX12_value 7 (.iload_n 2) 1 8 := ⟨by decide +kernel, rfl⟩
theorem eX12_value_8 : Dc mX12_value 8 (.iconst 0) 1 9 := ⟨by decide +kernel, rfl⟩
theorem eX12_value_9 : Dc mX12_value 9 (.iconst 1) 1 10 := ⟨by decide +kernel, rfl⟩
theorem eX12_value_10 : Dc mX12_value 10 (.invokestatic 85) 3 13 := ⟨by decide +kernel, rfl⟩
theorem eX12_value_13 : Dj mX12_value 13 (.ifCond .eq) 16 32 := ⟨19, by decide +kernel, rfl, by decide⟩
theorem eX12_value_16 : Dc mX12_value 16 (.iload_n 3) 1 17 := ⟨by decide +kernel, rfl⟩
theorem eX12_value_17 : Dc mX12_value 17 (.iconst 0) 1 18 := ⟨by decide +kernel, rfl⟩
theorem eX12_value_18 : Dc mX12_value 18 (.iconst 1) 1 19 := ⟨by decide +kernel, rfl⟩
theorem eX12_value_19 : Dc mX12_value 19 (.invokestatic 85) 3 22 := ⟨by decide +kernel, rfl⟩
theorem eX12_value_22 : Dj mX12_value 22 (.ifCond .eq) 25 32 := ⟨10, by decide +kernel, rfl, by decide⟩
theorem eX12_value_25 : Dc mX12_value 25 (.aload_n 0) 1 26 := ⟨by decide +kernel, rfl⟩
theorem eX12_value_26 : Dc mX12_value 26 (.invokevirtual 175) 3 29 := ⟨by decide +kernel, rfl⟩
theorem eX12_value_29 : Dj mX12_value 29 (.ifCond .ne) 32 36 := ⟨7, by decide +kernel, rfl, by decide⟩
theorem eX12_value_32 : Dc mX12_value 32 (.ldc2_w 132) 3 35 := ⟨by decide +kernel, rfl⟩
theorem eX12_value_35 : Dc mX12_value 35 (.lreturn) 1 36 := ⟨by decide +kernel, rfl⟩
theorem eX12_value_36 : Dc mX12_value 36 (.aload_n 0) 1 37 := ⟨by decide +kernel, rfl⟩
theorem eX12_value_37 : Dc mX12_value 37 (.aload_n 0) 1 38 := ⟨by decide +kernel, rfl⟩
theorem eX12_value_38 : Dc mX12_value 38 (.getfield 79) 3 41 := ⟨by decide +kernel, rfl⟩
theorem eX12_value_41 : Dc mX12_value 41 (.iload_n 1) 1 42 := ⟨by decide +kernel, rfl⟩
theorem eX12_value_42 : Dc mX12_value 42 (.iconst 0) 1 43 := ⟨by decide +kernel, rfl⟩
theorem eX12_value_43 : Dc mX12_value 43 (.invokevirtual 178) 3 46 := ⟨by decide +kernel, rfl⟩
theorem eX12_value_46 : Dc mX12_value 46 (.iload_n 2) 1 47 := ⟨by decide +kernel, rfl⟩
theorem eX12_value_47 : Dj mX12_value 47 (.ifCond .ne) 50 59 := ⟨12, by decide +kernel, rfl, by decide⟩
theorem eX12_value_50 : Dc mX12_value 50 (.aload_n 0) 1 51 := ⟨by decide +kernel, rfl⟩
theorem eX12_value_51 : Dc mX12_value 51 (.getfield 44) 3 54 := ⟨by decide +kernel, rfl⟩
theorem eX12_value_54 : Dc mX12_value 54 (.iconst 0) 1 55 := ⟨by decide +kernel, rfl⟩
theorem eX12_value_55 : Dc mX12_value 55 (.laload) 1 56 := ⟨by decide +kernel, rfl⟩
theorem eX12_value_56 : Dj mX12_value 56 (.goto) 59 68 := ⟨12, by decide +kernel, rfl, by decide⟩
theorem eX12_value_59 : Dc mX12_value 59 (.aload_n 0) 1 60 := ⟨by decide +kernel, rfl⟩
theorem eX12_value_60 : Dc mX12_value 60 (.getfield 44) 3 63 := ⟨by decide +kernel, rfl⟩
theorem eX12_value_63 : Dc mX12_value 63 (.aload_n 0) 1 64 := ⟨by decide +kernel, rfl⟩
theorem eX12_value_64 : Dc mX12_value 64 (.getfield 161) 3 67 := ⟨by decide +kernel, rfl⟩
theorem eX12_value_67 : Dc mX12_value 67 (.laload) 1 68 := ⟨by decide +kernel, rfl⟩
theorem eX12_value_68 : Dc mX12_value 68 (.aload_n 0) 1 69 := ⟨by decide +kernel, rfl⟩
theorem eX12_value_69 : Dc mX12_value 69 (.getfield 168) 3 72 := ⟨by decide +kernel, rfl⟩
theorem eX12_value_72 : Dc mX12_value 72 (.iload_n 3) 1 73 := ⟨by decide +kernel, rfl⟩
theorem eX12_value_73 : Dc mX12_value 73 (.invokestatic 182) 3 76 := ⟨by decide +kernel, rfl⟩
theorem eX12_value_76 : Dc mX12_value 76 (.lreturn) 1 77 := ⟨by decide +kernel, rfl⟩
theorem eX12_variation_0 : Dc mX12_variation 0 (.iload_n 1) 1 1 := ⟨by decide +kernel, rfl⟩
theorem eX12_variation_1 : Dc mX12_variation 1 (.invokestatic 172) 3 4 := ⟨by decide +kernel, rfl⟩
theorem eX12_variation_4 : Dj mX12_variation 4 (.ifCond .eq) 7 16 := ⟨12, by decide +kernel, rfl, by decide⟩
theorem eX12_variation_7 : Dc mX12_variation 7 (.iload_n 2) 1 8 := ⟨by decide +kernel, rfl⟩
theorem eX12_variation_8 : Dc mX12_variation 8 (.iconst 0) 1 9 := ⟨by decide +kernel, rfl⟩
theorem eX12_variation_9 : Dc mX12_variation 9 (.iconst 2) 1 10 := ⟨by decide +kernel, rfl⟩
theorem eX12_variation_10 : Dc mX12_variation 10 (.invokestatic 85) 3 13 := ⟨by decide +kernel, rfl⟩
theorem eX12_variation_13 : Dj mX12_variation 13 (.ifCond .ne) 16 18 := ⟨5, by decide +kernel, rfl, by decide⟩
theorem eX12_variation_16 : Dc mX12_variation 16 (.iconst (-1)) 1 17 := ⟨by decide +kernel, rfl⟩
theorem eX12_variation_17 : Dc mX12_variation 17 (.ireturn) 1 18 := ⟨by decide +kernel, rfl⟩
theorem eX12_variation_18 : Dc mX12_variation 18 (.aload_n 0) 1 19 := ⟨by decide +kernel, rfl⟩
theorem eX12_variation_19 : Dc mX12_variation 19 (.invokevirtual 175) 3 22 := ⟨by decide +kernel, rfl⟩
theorem eX12_variation_22 : Dj mX12_variation 22 (.ifCond .eq) 25 34 := ⟨12, by decide +kernel, rfl, by decide⟩
theorem eX12_variation_25 : Dc mX12_variation 25 (.aload_n 0) 1 26 := ⟨by decide +kernel, rfl⟩
theorem eX12_variation_26 : Dc mX12_variation 26 (.iload_n 1) 1 27 := ⟨by decide +kernel, rfl⟩
theorem eX12_variation_27 : Dc mX12_variation 27 (.iload_n 2) 1 28 := ⟨by decide +kernel, rfl⟩
theorem eX12_variation_28 : Dc mX12_variation 28 (.invokevirtual 186) 3 31 := ⟨by decide +kernel, rfl⟩
theorem eX12_variation_31 : Dj mX12_variation 31 (.goto) 34 36 := ⟨5, by decide +kernel, rfl, by decide⟩
theorem eX12_variation_34 : Dc mX12_variation 34 (.bipush (-2)) 2 36 := ⟨by decide +kernel, rfl⟩
theorem eX12_variation_36 : Dc mX12_variation 36 (.ireturn) 1 37 := ⟨by decide +kernel, rfl⟩
theorem eX12_varies_0 : Dc mX12_varies 0 (.aload_n 0) 1 1 := ⟨by decide +kernel, rfl⟩
theorem eX12_varies_1 : Dc mX12_varies 1 (.aload_n 0) 1 2 := ⟨by decide +kernel, rfl⟩
theorem eX12_varies_2 : Dc mX12_varies 2 (.getfield 79) 3 5 := ⟨by decide +kernel, rfl⟩
theorem eX12_varies_5 : Dc mX12_varies 5 (.iload_n 1) 1 6 := ⟨by decide +kernel, rfl⟩
theorem eX12_varies_6 : Dc mX12_varies 6 (.iload_n 2) 1 7 := ⟨by decide +kernel, rfl⟩
theorem eX12_varies_7 : Dc mX12_varies 7 (.invokevirtual 178) 3 10 := ⟨by decide +kernel, rfl⟩
theorem eX12_varies_10 : Dc mX12_varies 10 (.iconst 0) 1 11 := ⟨by decide +kernel, rfl⟩
theorem eX12_varies_11 : Dc mX12_varies 11 (.istore_n 3) 1 12 := ⟨by decide +kernel, rfl⟩
theorem eX12_varies_12 : Dc mX12_varies 12 (.iconst 0) 1 13 := ⟨by decide +kernel, rfl⟩
theorem eX12_varies_13 : Dc mX12_varies 13 (.istore 4) 2 15 := ⟨by decide +kernel, rfl⟩
theorem eX12_varies_15 : Dc mX12_varies 15 (.iconst 0) 1 16 := ⟨by decide +kernel, rfl⟩
theorem eX12_varies_16 : Dc mX12_varies 16 (.istore 5) 2 18 := ⟨by decide +kernel, rfl⟩
theorem eX12_varies_18 : Dc mX12_varies 18 (.iload 5) 2 20 := ⟨by decide +kernel, rfl⟩
theorem eX12_varies_20 : Dc mX12_varies 20 (.aload_n 0) 1 21 := ⟨by decide +kernel, rfl⟩
theorem eX12_varies_21 : Dc mX12_varies 21 (.getfield 161) 3 24 := ⟨by decide +kernel, rfl⟩
theorem eX12_varies_24 : Dj mX12_varies 24 (.if_icmp .gt) 27 107 := ⟨83, by decide +kernel, rfl, by decide⟩
theorem eX12_varies_27 : Dc mX12_varies 27 (.aload_n 0) 1 28 := ⟨by decide +kernel, rfl⟩
theorem eX12_varies_28 : Dc mX12_varies 28 (.getfield 44) 3 31 := ⟨by decide +kernel, rfl⟩
theorem eX12_varies_31 : Dc mX12_varies 31 (.iload 5) 2 33 := ⟨by decide +kernel, rfl⟩
theorem eX12_varies_33 : Dc mX12_varies 33 (.laload) 1 34 := ⟨by decide +kernel, rfl⟩
theorem eX12_varies_34 : Dc mX12_varies 34 (.lconst 0) 1 35 := ⟨by decide +kernel, rfl⟩
theorem eX12_varies_35 : Dc mX12_varies 35 (.lcmp) 1 36 := ⟨by decide +kernel, rfl⟩
theorem eX12_varies_36 : Dj mX12_varies 36 (.ifCond .le) 39 43 := ⟨7, by decide +kernel, rfl, by decide⟩
theorem eX12_varies_39 : Dc mX12_varies 39 (.iconst 1) 1 40 := ⟨by decide +kernel, rfl⟩
theorem eX12_varies_40 : Dj mX12_varies 40 (.goto) 43 60 := ⟨20, by decide +kernel, rfl, by decide⟩
theorem eX12_varies_43 : Dc mX12_varies 43 (.aload_n 0) 1 44 := ⟨by decide +kernel, rfl⟩
theorem eX12_varies_44 : Dc mX12_varies 44 (.getfield 44) 3 47 := ⟨by decide +kernel, rfl⟩
theorem eX12_varies_47 : Dc mX12_varies 47 (.iload 5) 2 49 := ⟨by decide +kernel, rfl⟩
theorem eX12_varies_49 : Dc mX12_varies 49 (.laload) 1 50 := ⟨by decide +kernel, rfl⟩
theorem eX12_varies_50 : Dc mX12_varies 50 (.lconst 0) 1 51 := ⟨by decide +kernel, rfl⟩
theorem eX12_varies_51 : Dc mX12_varies 51 (.lcmp) 1 52 := ⟨by decide +kernel, rfl⟩
theorem eX12_varies_52 : Dj mX12_varies 52 (.ifCond .ge) 55 59 := ⟨7, by decide +kernel, rfl, by decide⟩
theorem eX12_varies_55 : Dc mX12_varies 55 (.iconst (-1)) 1 56 := ⟨by decide +kernel, rfl⟩
theorem eX12_varies_56 : Dj mX12_varies 56 (.goto) 59 60 := ⟨4, by decide +kernel, rfl, by decide⟩
theorem eX12_varies_59 : Dc mX12_varies 59 (.iconst 0) 1 60 := ⟨by decide +kernel, rfl⟩
theorem eX12_varies_60 : Dc mX12_varies 60 (.istore 6) 2 62 := ⟨by decide +kernel, rfl⟩
theorem eX12_varies_62 : Dc mX12_varies 62 (.iload_n 3) 1 63 := ⟨by decide +kernel, rfl⟩
theorem eX12_varies_63 : Dc mX12_varies 63 (.iload 6) 2 65 := ⟨by decide +kernel, rfl⟩
theorem eX12_varies_65 : Dj mX12_varies 65 (.ifCond .eq) 68 84 := ⟨19, by decide +kernel, rfl, by decide⟩
theorem eX12_varies_68 : Dc mX12_varies 68 (.iload 4) 2 70 := ⟨by decide +kernel, rfl⟩
theorem eX12_varies_70 : Dj mX12_varies 70 (.ifCond .eq) 73 84 := ⟨14, by decide +kernel, rfl, by decide⟩
theorem eX12_varies_73 : Dc mX12_varies 73 (.iload 6) 2 75 := ⟨by decide +kernel, rfl⟩
theorem eX12_varies_75 : Dc mX12_varies 75 (.iload 4) 2 77 := ⟨by decide +kernel, rfl⟩
theorem eX12_varies_77 : Dj mX12_varies 77 (.if_icmp .eq) 80 84 := ⟨7, by decide +kernel, rfl, by decide⟩
theorem eX12_varies_80 : Dc mX12_varies 80 (.iconst 1) 1 81 := ⟨by decide +kernel, rfl⟩
theorem eX12_varies_81 : Dj mX12_varies 81 (.goto) 84 85 := ⟨4, by decide +kernel, rfl, by decide⟩
theorem eX12_varies_84 : Dc mX12_varies 84 (.iconst 0) 1 85 := ⟨by decide +kernel, rfl⟩
theorem eX12_varies_85 : Dc mX12_varies 85 (.iadd) 1 86 := ⟨by decide +kernel, rfl⟩
theorem eX12_varies_86 : Dc mX12_varies 86 (.istore_n 3) 1 87 := ⟨by decide +kernel, rfl⟩
theorem eX12_varies_87 : Dc mX12_varies 87 (.iload 6) 2 89 := ⟨by decide +kernel, rfl⟩
theorem eX12_varies_89 : Dj mX12_varies 89 (.ifCond .ne) 92 97 := ⟨8, by decide +kernel, rfl, by decide⟩
theorem eX12_varies_92 : Dc mX12_varies 92 (.iload 4) 2 94 := ⟨by decide +kernel, rfl⟩
theorem eX12_varies_94 : Dj mX12_varies 94 (.goto) 97 99 := ⟨5, by decide +kernel, rfl, by decide⟩
theorem eX12_varies_97 : Dc mX12_varies 97 (.iload 6) 2 99 := ⟨by decide +kernel, rfl⟩
theorem eX12_varies_99 : Dc mX12_varies 99 (.istore 4) 2 101 := ⟨by decide +kernel, rfl⟩
theorem eX12_varies_101 : Dc mX12_varies 101 (.iinc 5 1) 3 104 := ⟨by decide +kernel, rfl⟩
theorem eX12_varies_104 : Dj mX12_varies 104 (.goto) 107 18 := ⟨-86, by decide +kernel, rfl, by decide⟩
theorem eX12_varies_107 : Dc mX12_varies 107 (.iload_n 3) 1 108 := ⟨by decide +kernel, rfl⟩
theorem eX12_varies_108 : Dc mX12_varies 108 (.ireturn) 1 109 := ⟨by decide +kernel, rfl⟩
theorem eX12_wish_0 : Dc mX12_wish 0 (.aload_n 0) 1 1 := ⟨by decide +kernel, rfl⟩
theorem eX12_wish_1 : Dc mX12_wish 1 (.iload_n 1) 1 2 := ⟨by decide +kernel, rfl⟩
theorem eX12_wish_2 : Dc mX12_wish 2 (.invokevirtual 123) 3 5 := ⟨by decide +kernel, rfl⟩
theorem eX12_wish_5 : Dj mX12_wish 5 (.ifCond .eq) 8 21 := ⟨16, by decide +kernel, rfl, by decide⟩
theorem eX12_wish_8 : Dc mX12_wish 8 (.aload_n 0) 1 9 := ⟨by decide +kernel, rfl⟩
theorem eX12_wish_9 : Dc mX12_wish 9 (.getfield 7) 3 12 := ⟨by decide +kernel, rfl⟩
theorem eX12_wish_12 : Dc mX12_wish 12 (.bipush 29) 2 14 := ⟨by decide +kernel, rfl⟩
theorem eX12_wish_14 : Dc mX12_wish 14 (.iload_n 1) 1 15 := ⟨by decide +kernel, rfl⟩
theorem eX12_wish_15 : Dc mX12_wish 15 (.iadd) 1 16 := ⟨by decide +kernel, rfl⟩
theorem eX12_wish_16 : Dc mX12_wish 16 (.iaload) 1 17 := ⟨by decide +kernel, rfl⟩
theorem eX12_wish_17 : Dc mX12_wish 17 (.i2l) 1 18 := ⟨by decide +kernel, rfl⟩
theorem eX12_wish_18 : Dj mX12_wish 18 (.goto) 21 24 := ⟨6, by decide +kernel, rfl, by decide⟩
theorem eX12_wish_21 : Dc mX12_wish 21 (.ldc2_w 132) 3 24 := ⟨by decide +kernel, rfl⟩
theorem eX12_wish_24 : Dc mX12_wish 24 (.lreturn) 1 25 := ⟨by decide +kernel, rfl⟩
theorem eX12_wishes_0 : Dc mX12_wishes 0 (.aload_n 0) 1 1 := ⟨by decide +kernel, rfl⟩
theorem eX12_wishes_1 : Dc mX12_wishes 1 (.iload_n 1) 1 2 := ⟨by decide +kernel, rfl⟩
theorem eX12_wishes_2 : Dc mX12_wishes 2 (.invokevirtual 123) 3 5 := ⟨by decide +kernel, rfl⟩
theorem eX12_wishes_5 : Dj mX12_wishes 5 (.ifCond .eq) 8 17 := ⟨12, by decide +kernel, rfl, by decide⟩
theorem eX12_wishes_8 : Dc mX12_wishes 8 (.iload_n 2) 1 9 := ⟨by decide +kernel, rfl⟩
theorem eX12_wishes_9 : Dc mX12_wishes 9 (.iconst (-1)) 1 10 := ⟨by decide +kernel, rfl⟩
theorem eX12_wishes_10 : Dc mX12_wishes 10 (.iconst 1) 1 11 := ⟨by decide +kernel, rfl⟩
theorem eX12_wishes_11 : Dc mX12_wishes 11 (.invokestatic 85) 3 14 := ⟨by decide +kernel, rfl⟩
theorem eX12_wishes_14 : Dj mX12_wishes 14 (.ifCond .ne) 17 19 := ⟨5, by decide +kernel, rfl, by decide⟩
theorem eX12_wishes_17 : Dc mX12_wishes 17 (.iconst (-1)) 1 18 := ⟨by decide +kernel, rfl⟩
theorem eX12_wishes_18 : Dc mX12_wishes 18 (.ireturn) 1 19 := ⟨by decide +kernel, rfl⟩
theorem eX12_wishes_19 : Dc mX12_wishes 19 (.aload_n 0) 1 20 := ⟨by decide +kernel, rfl⟩
theorem eX12_wishes_20 : Dc mX12_wishes 20 (.getfield 7) 3 23 := ⟨by decide +kernel, rfl⟩
theorem eX12_wishes_23 : Dc mX12_wishes 23 (.bipush 29) 2 25 := ⟨by decide +kernel, rfl⟩
theorem eX12_wishes_25 : Dc mX12_wishes 25 (.iload_n 1) 1 26 := ⟨by decide +kernel, rfl⟩
theorem eX12_wishes_26 : Dc mX12_wishes 26 (.iadd) 1 27 := ⟨by decide +kernel, rfl⟩
theorem eX12_wishes_27 : Dc mX12_wishes 27 (.iaload) 1 28 := ⟨by decide +kernel, rfl⟩
theorem eX12_wishes_28 : Dc mX12_wishes 28 (.iload_n 2) 1 29 := ⟨by decide +kernel, rfl⟩
theorem eX12_wishes_29 : Dj mX12_wishes 29 (.if_icmp .ne) 32 35 := ⟨6, by decide +kernel, rfl, by decide⟩
theorem eX12_wishes_32 : Dc mX12_wishes 32 (.bipush (-2)) 2 34 := ⟨by decide +kernel, rfl⟩
theorem eX12_wishes_34 : Dc mX12_wishes 34 (.ireturn) 1 35 := ⟨by decide +kernel, rfl⟩
theorem eX12_wishes_35 : Dc mX12_wishes 35 (.aload_n 0) 1 36 := ⟨by decide +kernel, rfl⟩
theorem eX12_wishes_36 : Dc mX12_wishes 36 (.bipush 29) 2 38 := ⟨by decide +kernel, rfl⟩
theorem eX12_wishes_38 : Dc mX12_wishes 38 (.iload_n 1) 1 39 := ⟨by decide +kernel, rfl⟩
theorem eX12_wishes_39 : Dc mX12_wishes 39 (.iadd) 1 40 := ⟨by decide +kernel, rfl⟩
theorem eX12_wishes_40 : Dc mX12_wishes 40 (.bipush 29) 2 42 := ⟨by decide +kernel, rfl⟩
theorem eX12_wishes_42 : Dc mX12_wishes 42 (.iload_n 1) 1 43 := ⟨by decide +kernel, rfl⟩
theorem eX12_wishes_43 : Dc mX12_wishes 43 (.iadd) 1 44 := ⟨by decide +kernel, rfl⟩
theorem eX12_wishes_44 : Dc mX12_wishes 44 (.invokevirtual 134) 3 47 := ⟨by decide +kernel, rfl⟩
theorem eX12_wishes_47 : Dc mX12_wishes 47 (.aload_n 0) 1 48 := ⟨by decide +kernel, rfl⟩
theorem eX12_wishes_48 : Dc mX12_wishes 48 (.getfield 7) 3 51 := ⟨by decide +kernel, rfl⟩
theorem eX12_wishes_51 : Dc mX12_wishes 51 (.bipush 29) 2 53 := ⟨by decide +kernel, rfl⟩
theorem eX12_wishes_53 : Dc mX12_wishes 53 (.iload_n 1) 1 54 := ⟨by decide +kernel, rfl⟩
theorem eX12_wishes_54 : Dc mX12_wishes 54 (.iadd) 1 55 := ⟨by decide +kernel, rfl⟩
theorem eX12_wishes_55 : Dc mX12_wishes 55 (.iload_n 2) 1 56 := ⟨by decide +kernel, rfl⟩
theorem eX12_wishes_56 : Dc mX12_wishes 56 (.iastore) 1 57 := ⟨by decide +kernel, rfl⟩
theorem eX12_wishes_57 : Dc mX12_wishes 57 (.iconst 1) 1 58 := ⟨by decide +kernel, rfl⟩
theorem eX12_wishes_58 : Dc mX12_wishes 58 (.ireturn) 1 59 := ⟨by decide +kernel, rfl⟩
theorem eX12_witness_0 : Dc mX12_witness 0 (.iload_n 1) 1 1 := ⟨by decide +kernel, rfl⟩
theorem eX12_witness_1 : Dc mX12_witness 1 (.iconst 0) 1 2 := ⟨by decide +kernel, rfl⟩
theorem eX12_witness_2 : Dc mX12_witness 2 (.iconst 1) 1 3 := ⟨by decide +kernel, rfl⟩
theorem eX12_witness_3 : Dc mX12_witness 3 (.invokestatic 85) 3 6 := ⟨by decide +kernel, rfl⟩
theorem eX12_witness_6 : Dj mX12_witness 6 (.ifCond .eq) 9 25 := ⟨19, by decide +kernel, rfl, by decide⟩
theorem eX12_witness_9 : Dc mX12_witness 9 (.aload_n 0) 1 10 := ⟨by decide +kernel, rfl⟩
theorem eX12_witness_10 : Dc mX12_witness 10 (.invokevirtual 175) 3 13 := ⟨by decide +kernel, rfl⟩
theorem eX12_witness_13 : Dj mX12_witness 13 (.ifCond .eq) 16 25 := ⟨12, by decide +kernel, rfl, by decide⟩
theorem eX12_witness_16 : Dc mX12_witness 16 (.aload_n 0) 1 17 := ⟨by decide +kernel, rfl⟩
theorem eX12_witness_17 : Dc mX12_witness 17 (.invokevirtual 219) 3 20 := ⟨by decide +kernel, rfl⟩
theorem eX12_witness_20 : Dc mX12_witness 20 (.bipush (-7)) 2 22 := ⟨by decide +kernel, rfl⟩
theorem eX12_witness_22 : Dj mX12_witness 22 (.if_icmp .eq) 25 29 := ⟨7, by decide +kernel, rfl, by decide⟩
theorem eX12_witness_25 : Dc mX12_witness 25 (.ldc2_w 132) 3 28 := ⟨by decide +kernel, rfl⟩
theorem eX12_witness_28 : Dc mX12_witness 28 (.lreturn) 1 29 := ⟨by decide +kernel, rfl⟩
theorem eX12_witness_29 : Dc mX12_witness 29 (.aload_n 0) 1 30 := ⟨by decide +kernel, rfl⟩
theorem eX12_witness_30 : Dc mX12_witness 30 (.getfield 216) 3 33 := ⟨by decide +kernel, rfl⟩
theorem eX12_witness_33 : Dc mX12_witness 33 (.i2l) 1 34 := ⟨by decide +kernel, rfl⟩
theorem eX12_witness_34 : Dc mX12_witness 34 (.ldc2_w 148) 3 37 := ⟨by decide +kernel, rfl⟩
theorem eX12_witness_37 : Dc mX12_witness 37 (.iload_n 1) 1 38 := ⟨by decide +kernel, rfl⟩
theorem eX12_witness_38 : Dc mX12_witness 38 (.invokestatic 182) 3 41 := ⟨by decide +kernel, rfl⟩
theorem eX12_witness_41 : Dc mX12_witness 41 (.lreturn) 1 42 := ⟨by decide +kernel, rfl⟩
theorem eX12_writes_0 : Dc mX12_writes 0 (.aload_n 0) 1 1 := ⟨by decide +kernel, rfl⟩
theorem eX12_writes_1 : Dc mX12_writes 1 (.iconst 0) 1 2 := ⟨by decide +kernel, rfl⟩
theorem eX12_writes_2 : Dc mX12_writes 2 (.putfield 209) 3 5 := ⟨by decide +kernel, rfl⟩
theorem eX12_writes_5 : Dc mX12_writes 5 (.aload_n 0) 1 6 := ⟨by decide +kernel, rfl⟩
theorem eX12_writes_6 : Dc mX12_writes 6 (.iconst 0) 1 7 := ⟨by decide +kernel, rfl⟩
theorem eX12_writes_7 : Dc mX12_writes 7 (.putfield 193) 3 10 := ⟨by decide +kernel, rfl⟩
theorem eX12_writes_10 : Dc mX12_writes 10 (.aload_n 0) 1 11 := ⟨by decide +kernel, rfl⟩
theorem eX12_writes_11 : Dc mX12_writes 11 (.iconst 1) 1 12 := ⟨by decide +kernel, rfl⟩
theorem eX12_writes_12 : Dc mX12_writes 12 (.invokevirtual 199) 3 15 := ⟨by decide +kernel, rfl⟩
theorem eX12_writes_15 : Dc mX12_writes 15 (.aload_n 0) 1 16 := ⟨by decide +kernel, rfl⟩
theorem eX12_writes_16 : Dc mX12_writes 16 (.getfield 193) 3 19 := ⟨by decide +kernel, rfl⟩
theorem eX12_writes_19 : Dj mX12_writes 19 (.ifCond .le) 22 211 := ⟨192, by decide +kernel, rfl, by decide⟩
theorem eX12_writes_22 : Dc mX12_writes 22 (.aload_n 0) 1 23 := ⟨by decide +kernel, rfl⟩
theorem eX12_writes_23 : Dc mX12_writes 23 (.dup) 1 24 := ⟨by decide +kernel, rfl⟩
theorem eX12_writes_24 : Dc mX12_writes 24 (.getfield 193) 3 27 := ⟨by decide +kernel, rfl⟩
theorem eX12_writes_27 : Dc mX12_writes 27 (.iconst 1) 1 28 := ⟨by decide +kernel, rfl⟩
theorem eX12_writes_28 : Dc mX12_writes 28 (.isub) 1 29 := ⟨by decide +kernel, rfl⟩
theorem eX12_writes_29 : Dc mX12_writes 29 (.putfield 193) 3 32 := ⟨by decide +kernel, rfl⟩
theorem eX12_writes_32 : Dc mX12_writes 32 (.aload_n 0) 1 33 := ⟨by decide +kernel, rfl⟩
theorem eX12_writes_33 : Dc mX12_writes 33 (.getfield 51) 3 36 := ⟨by decide +kernel, rfl⟩
theorem eX12_writes_36 : Dc mX12_writes 36 (.aload_n 0) 1 37 := ⟨by decide +kernel, rfl⟩
theorem eX12_writes_37 : Dc mX12_writes 37 (.getfield 193) 3 40 := ⟨by decide +kernel, rfl⟩
theorem eX12_writes_40 : Dc mX12_writes 40 (.iaload) 1 41 := ⟨by decide +kernel, rfl⟩
theorem eX12_writes_41 : Dc mX12_writes 41 (.istore_n 1) 1 42 := ⟨by decide +kernel, rfl⟩
theorem eX12_writes_42 : Dc mX12_writes 42 (.iconst 0) 1 43 := ⟨by decide +kernel, rfl⟩
theorem eX12_writes_43 : Dc mX12_writes 43 (.istore_n 2) 1 44 := ⟨by decide +kernel, rfl⟩
theorem eX12_writes_44 : Dc mX12_writes 44 (.iload_n 2) 1 45 := ⟨by decide +kernel, rfl⟩
theorem eX12_writes_45 : Dc mX12_writes 45 (.iconst 3) 1 46 := ⟨by decide +kernel, rfl⟩
theorem eX12_writes_46 : Dj mX12_writes 46 (.if_icmp .ge) 49 69 := ⟨23, by decide +kernel, rfl, by decide⟩
theorem eX12_writes_49 : Dc mX12_writes 49 (.aload_n 0) 1 50 := ⟨by decide +kernel, rfl⟩
theorem eX12_writes_50 : Dc mX12_writes 50 (.aload_n 0) 1 51 := ⟨by decide +kernel, rfl⟩
theorem eX12_writes_51 : Dc mX12_writes 51 (.getfield 79) 3 54 := ⟨by decide +kernel, rfl⟩
theorem eX12_writes_54 : Dc mX12_writes 54 (.iload_n 1) 1 55 := ⟨by decide +kernel, rfl⟩
theorem eX12_writes_55 : Dc mX12_writes 55 (.iload_n 2) 1 56 := ⟨by decide +kernel, rfl⟩
theorem eX12_writes_56 : Dc mX12_writes 56 (.iconst 1) 1 57 := ⟨by decide +kernel, rfl⟩
theorem eX12_writes_57 : Dc mX12_writes 57 (.invokevirtual 212) 3 60 := ⟨by decide +kernel, rfl⟩
theorem eX12_writes_60 : Dj mX12_writes 60 (.ifCond .ne) 63 69 := ⟨9, by decide +kernel, rfl, by decide⟩
theorem eX12_writes_63 : Dc mX12_writes 63 (.iinc 2 1) 3 66 := ⟨by decide +kernel, rfl⟩
theorem eX12_writes_66 : Dj mX12_writes 66 (.goto) 69 44 := ⟨-22, by decide +kernel, rfl, by decide⟩
theorem eX12_writes_69 : Dc mX12_writes 69 (.aload_n 0) 1 70 := ⟨by decide +kernel, rfl⟩
theorem eX12_writes_70 : Dc mX12_writes 70 (.aload_n 0) 1 71 := ⟨by decide +kernel, rfl⟩
theorem eX12_writes_71 : Dc mX12_writes 71 (.getfield 79) 3 74 := ⟨by decide +kernel, rfl⟩
theorem eX12_writes_74 : Dc mX12_writes 74 (.iload_n 1) 1 75 := ⟨by decide +kernel, rfl⟩
theorem eX12_writes_75 : Dc mX12_writes 75 (.iconst 0) 1 76 := ⟨by decide +kernel, rfl⟩
theorem eX12_writes_76 : Dc mX12_writes 76 (.invokevirtual 178) 3 79 := ⟨by decide +kernel, rfl⟩
theorem eX12_writes_79 : Dc mX12_writes 79 (.iload_n 2) 1 80 := ⟨by decide +kernel, rfl⟩
theorem eX12_writes_80 : Dc mX12_writes 80 (.iconst 3) 1 81 := ⟨by decide +kernel, rfl⟩
theorem eX12_writes_81 : Dj mX12_writes 81 (.if_icmp .ne) 84 140 := ⟨59, by decide +kernel, rfl, by decide⟩
theorem eX12_writes_84 : Dc mX12_writes 84 (.aload_n 0) 1 85 := ⟨by decide +kernel, rfl⟩
theorem eX12_writes_85 : Dc mX12_writes 85 (.getfield 44) 3 88 := ⟨by decide +kernel, rfl⟩
theorem eX12_writes_88 : Dc mX12_writes 88 (.iconst 0) 1 89 := ⟨by decide +kernel, rfl⟩
theorem eX12_writes_89 : Dc mX12_writes 89 (.laload) 1 90 := ⟨by decide +kernel, rfl⟩
theorem eX12_writes_90 : Dc mX12_writes 90 (.lconst 0) 1 91 := ⟨by decide +kernel, rfl⟩
theorem eX12_writes_91 : Dc mX12_writes 91 (.lcmp) 1 92 := ⟨by decide +kernel, rfl⟩
theorem eX12_writes_92 : Dj mX12_writes 92 (.ifCond .le) 95 109 := ⟨17, by decide +kernel, rfl, by decide⟩
theorem eX12_writes_95 : Dc mX12_writes 95 (.aload_n 0) 1 96 := ⟨by decide +kernel, rfl⟩
theorem eX12_writes_96 : Dc mX12_writes 96 (.getfield 44) 3 99 := ⟨by decide +kernel, rfl⟩
theorem eX12_writes_99 : Dc mX12_writes 99 (.aload_n 0) 1 100 := ⟨by decide +kernel, rfl⟩
theorem eX12_writes_100 : Dc mX12_writes 100 (.getfield 161) 3 103 := ⟨by decide +kernel, rfl⟩
theorem eX12_writes_103 : Dc mX12_writes 103 (.laload) 1 104 := ⟨by decide +kernel, rfl⟩
theorem eX12_writes_104 : Dc mX12_writes 104 (.lconst 0) 1 105 := ⟨by decide +kernel, rfl⟩
theorem eX12_writes_105 : Dc mX12_writes 105 (.lcmp) 1 106 := ⟨by decide +kernel, rfl⟩
theorem eX12_writes_106 : Dj mX12_writes 106 (.ifCond .gt) 109 140 := ⟨34, by decide +kernel, rfl, by decide⟩
theorem eX12_writes_109 : Dc mX12_writes 109 (.aload_n 0) 1 110 := ⟨by decide +kernel, rfl⟩
theorem eX12_writes_110 : Dc mX12_writes 110 (.aload_n 0) 1 111 := ⟨by decide +kernel, rfl⟩
theorem eX12_writes_111 : Dc mX12_writes 111 (.getfield 44) 3 114 := ⟨by decide +kernel, rfl⟩
theorem eX12_writes_114 : Dc mX12_writes 114 (.iconst 0) 1 115 := ⟨by decide +kernel, rfl⟩
theorem eX12_writes_115 : Dc mX12_writes 115 (.laload) 1 116 := ⟨by decide +kernel, rfl⟩
theorem eX12_writes_116 : Dc mX12_writes 116 (.lconst 0) 1 117 := ⟨by decide +kernel, rfl⟩
theorem eX12_writes_117 : Dc mX12_writes 117 (.lcmp) 1 118 := ⟨by decide +kernel, rfl⟩
theorem eX12_writes_118 : Dj mX12_writes 118 (.ifCond .gt) 121 129 := ⟨11, by decide +kernel, rfl, by decide⟩
theorem eX12_writes_121 : Dc mX12_writes 121 (.aload_n 0) 1 122 := ⟨by decide +kernel, rfl⟩
theorem eX12_writes_122 : Dc mX12_writes 122 (.iload_n 1) 1 123 := ⟨by decide +kernel, rfl⟩
theorem eX12_writes_123 : Dc mX12_writes 123 (.invokevirtual 145) 3 126 := ⟨by decide +kernel, rfl⟩
theorem eX12_writes_126 : Dj mX12_writes 126 (.goto) 129 134 := ⟨8, by decide +kernel, rfl, by decide⟩
theorem eX12_writes_129 : Dc mX12_writes 129 (.aload_n 0) 1 130 := ⟨by decide +kernel, rfl⟩
theorem eX12_writes_130 : Dc mX12_writes 130 (.iload_n 1) 1 131 := ⟨by decide +kernel, rfl⟩
theorem eX12_writes_131 : Dc mX12_writes 131 (.invokevirtual 190) 3 134 := ⟨by decide +kernel, rfl⟩
theorem eX12_writes_134 : Dc mX12_writes 134 (.putfield 216) 3 137 := ⟨by decide +kernel, rfl⟩
theorem eX12_writes_137 : Dc mX12_writes 137 (.bipush (-7)) 2 139 := ⟨by decide +kernel, rfl⟩
theorem eX12_writes_139 : Dc mX12_writes 139 (.ireturn) 1 140 := ⟨by decide +kernel, rfl⟩
theorem eX12_writes_140 : Dc mX12_writes 140 (.iload_n 2) 1 141 := ⟨by decide +kernel, rfl⟩
theorem eX12_writes_141 : Dc mX12_writes 141 (.iconst 3) 1 142 := ⟨by decide +kernel, rfl⟩
theorem eX12_writes_142 : Dj mX12_writes 142 (.if_icmp .ne) 145 154 := ⟨12, by decide +kernel, rfl, by decide⟩
theorem eX12_writes_145 : Dc mX12_writes 145 (.iload_n 1) 1 146 := ⟨by decide +kernel, rfl⟩
theorem eX12_writes_146 : Dc mX12_writes 146 (.bipush 64) 2 148 := ⟨by decide +kernel, rfl⟩
theorem eX12_writes_148 : Dj mX12_writes 148 (.if_icmp .lt) 151 154 := ⟨6, by decide +kernel, rfl, by decide⟩
theorem eX12_writes_151 : Dc mX12_writes 151 (.bipush (-8)) 2 153 := ⟨by decide +kernel, rfl⟩
theorem eX12_writes_153 : Dc mX12_writes 153 (.ireturn) 1 154 := ⟨by decide +kernel, rfl⟩
theorem eX12_writes_154 : Dc mX12_writes 154 (.aload_n 0) 1 155 := ⟨by decide +kernel, rfl⟩
theorem eX12_writes_155 : Dc mX12_writes 155 (.getfield 60) 3 158 := ⟨by decide +kernel, rfl⟩
theorem eX12_writes_158 : Dc mX12_writes 158 (.aload_n 0) 1 159 := ⟨by decide +kernel, rfl⟩
theorem eX12_writes_159 : Dc mX12_writes 159 (.getfield 209) 3 162 := ⟨by decide +kernel, rfl⟩
theorem eX12_writes_162 : Dc mX12_writes 162 (.iload_n 2) 1 163 := ⟨by decide +kernel, rfl⟩
theorem eX12_writes_163 : Dc mX12_writes 163 (.iconst 3) 1 164 := ⟨by decide +kernel, rfl⟩
theorem eX12_writes_164 : Dj mX12_writes 164 (.if_icmp .ne) 167 172 := ⟨8, by decide +kernel, rfl, by decide⟩
theorem eX12_writes_167 : Dc mX12_writes 167 (.bipush 115) 2 169 := ⟨by decide +kernel, rfl⟩
theorem eX12_writes_169 : Dj mX12_writes 169 (.goto) 172 176 := ⟨7, by decide +kernel, rfl, by decide⟩
theorem eX12_writes_172 : Dc mX12_writes 172 (.bipush 48) 2 174 := ⟨by decide +kernel, rfl⟩
theorem eX12_writes_174 : Dc mX12_writes 174 (.iload_n 2) 1 175 := ⟨by decide +kernel, rfl⟩
theorem eX12_writes_175 : Dc mX12_writes 175 (.iadd) 1 176 := ⟨by decide +kernel, rfl⟩
theorem eX12_writes_176 : Dc mX12_writes 176 (.iastore) 1 177 := ⟨by decide +kernel, rfl⟩
theorem eX12_writes_177 : Dc mX12_writes 177 (.aload_n 0) 1 178 := ⟨by decide +kernel, rfl⟩
theorem eX12_writes_178 : Dc mX12_writes 178 (.dup) 1 179 := ⟨by decide +kernel, rfl⟩
theorem eX12_writes_179 : Dc mX12_writes 179 (.getfield 209) 3 182 := ⟨by decide +kernel, rfl⟩
theorem eX12_writes_182 : Dc mX12_writes 182 (.iconst 1) 1 183 := ⟨by decide +kernel, rfl⟩
theorem eX12_writes_183 : Dc mX12_writes 183 (.iadd) 1 184 := ⟨by decide +kernel, rfl⟩
theorem eX12_writes_184 : Dc mX12_writes 184 (.putfield 209) 3 187 := ⟨by decide +kernel, rfl⟩
theorem eX12_writes_187 : Dc mX12_writes 187 (.iload_n 2) 1 188 := ⟨by decide +kernel, rfl⟩
theorem eX12_writes_188 : Dc mX12_writes 188 (.iconst 3) 1 189 := ⟨by decide +kernel, rfl⟩
theorem eX12_writes_189 : Dj mX12_writes 189 (.if_icmp .ne) 192 208 := ⟨19, by decide +kernel, rfl, by decide⟩
theorem eX12_writes_192 : Dc mX12_writes 192 (.aload_n 0) 1 193 := ⟨by decide +kernel, rfl⟩
theorem eX12_writes_193 : Dc mX12_writes 193 (.iconst 2) 1 194 := ⟨by decide +kernel, rfl⟩
theorem eX12_writes_194 : Dc mX12_writes 194 (.iload_n 1) 1 195 := ⟨by decide +kernel, rfl⟩
theorem eX12_writes_195 : Dc mX12_writes 195 (.imul) 1 196 := ⟨by decide +kernel, rfl⟩
theorem eX12_writes_196 : Dc mX12_writes 196 (.iconst 1) 1 197 := ⟨by decide +kernel, rfl⟩
theorem eX12_writes_197 : Dc mX12_writes 197 (.iadd) 1 198 := ⟨by decide +kernel, rfl⟩
theorem eX12_writes_198 : Dc mX12_writes 198 (.invokevirtual 199) 3 201 := ⟨by decide +kernel, rfl⟩
theorem eX12_writes_201 : Dc mX12_writes 201 (.aload_n 0) 1 202 := ⟨by decide +kernel, rfl⟩
theorem eX12_writes_202 : Dc mX12_writes 202 (.iconst 2) 1 203 := ⟨by decide +kernel, rfl⟩
theorem eX12_writes_203 : Dc mX12_writes 203 (.iload_n 1) 1 204 := ⟨by decide +kernel, rfl⟩
theorem eX12_writes_204 : Dc mX12_writes 204 (.imul) 1 205 := ⟨by decide +kernel, rfl⟩
theorem eX12_writes_205 : Dc mX12_writes 205 (.invokevirtual 199) 3 208 := ⟨by decide +kernel, rfl⟩
theorem eX12_writes_208 : Dj mX12_writes 208 (.goto) 211 15 := ⟨-193, by decide +kernel, rfl, by decide⟩
theorem eX12_writes_211 : Dc mX12_writes 211 (.aload_n 0) 1 212 := ⟨by decide +kernel, rfl⟩
theorem eX12_writes_212 : Dc mX12_writes 212 (.getfield 209) 3 215 := ⟨by decide +kernel, rfl⟩
theorem eX12_writes_215 : Dc mX12_writes 215 (.ireturn) 1 216 := ⟨by decide +kernel, rfl⟩
end
section
theorem eJ7_fill_53178_0 : Dc mJ7_fill_53178 0 (.iconst 0) 1 1 := ⟨by decide +kernel, rfl⟩
theorem eJ7_fill_53178_1 : Dc mJ7_fill_53178 1 (.istore_n 2) 1 2 := ⟨by decide +kernel, rfl⟩
theorem eJ7_fill_53178_2 : Dc mJ7_fill_53178 2 (.aload_n 0) 1 3 := ⟨by decide +kernel, rfl⟩
theorem eJ7_fill_53178_3 : Dc mJ7_fill_53178 3 (.arraylength) 1 4 := ⟨by decide +kernel, rfl⟩
theorem eJ7_fill_53178_4 : Dc mJ7_fill_53178 4 (.istore_n 3) 1 5 := ⟨by decide +kernel, rfl⟩
theorem eJ7_fill_53178_5 : Dc mJ7_fill_53178 5 (.iload_n 2) 1 6 := ⟨by decide +kernel, rfl⟩
theorem eJ7_fill_53178_6 : Dc mJ7_fill_53178 6 (.iload_n 3) 1 7 := ⟨by decide +kernel, rfl⟩
theorem eJ7_fill_53178_7 : Dj mJ7_fill_53178 7 (.if_icmp .ge) 10 20 := ⟨13, by decide +kernel, rfl, by decide⟩
theorem eJ7_fill_53178_10 : Dc mJ7_fill_53178 10 (.aload_n 0) 1 11 := ⟨by decide +kernel, rfl⟩
theorem eJ7_fill_53178_11 : Dc mJ7_fill_53178 11 (.iload_n 2) 1 12 := ⟨by decide +kernel, rfl⟩
theorem eJ7_fill_53178_12 : Dc mJ7_fill_53178 12 (.iload_n 1) 1 13 := ⟨by decide +kernel, rfl⟩
theorem eJ7_fill_53178_13 : Dc mJ7_fill_53178 13 (.iastore) 1 14 := ⟨by decide +kernel, rfl⟩
theorem eJ7_fill_53178_14 : Dc mJ7_fill_53178 14 (.iinc 2 1) 3 17 := ⟨by decide +kernel, rfl⟩
theorem eJ7_fill_53178_17 : Dj mJ7_fill_53178 17 (.goto) 20 5 := ⟨-12, by decide +kernel, rfl, by decide⟩
theorem eJ7_fill_53178_20 : Dc mJ7_fill_53178 20 (.return_) 1 21 := ⟨by decide +kernel, rfl⟩
theorem eJ7_fill_d0a16_0 : Dc mJ7_fill_d0a16 0 (.iconst 0) 1 1 := ⟨by decide +kernel, rfl⟩
theorem eJ7_fill_d0a16_1 : Dc mJ7_fill_d0a16 1 (.istore_n 3) 1 2 := ⟨by decide +kernel, rfl⟩
theorem eJ7_fill_d0a16_2 : Dc mJ7_fill_d0a16 2 (.aload_n 0) 1 3 := ⟨by decide +kernel, rfl⟩
theorem eJ7_fill_d0a16_3 : Dc mJ7_fill_d0a16 3 (.arraylength) 1 4 := ⟨by decide +kernel, rfl⟩
theorem eJ7_fill_d0a16_4 : Dc mJ7_fill_d0a16 4 (.istore 4) 2 6 := ⟨by decide +kernel, rfl⟩
theorem eJ7_fill_d0a16_6 : Dc mJ7_fill_d0a16 6 (.iload_n 3) 1 7 := ⟨by decide +kernel, rfl⟩
theorem eJ7_fill_d0a16_7 : Dc mJ7_fill_d0a16 7 (.iload 4) 2 9 := ⟨by decide +kernel, rfl⟩
theorem eJ7_fill_d0a16_9 : Dj mJ7_fill_d0a16 9 (.if_icmp .ge) 12 22 := ⟨13, by decide +kernel, rfl, by decide⟩
theorem eJ7_fill_d0a16_12 : Dc mJ7_fill_d0a16 12 (.aload_n 0) 1 13 := ⟨by decide +kernel, rfl⟩
theorem eJ7_fill_d0a16_13 : Dc mJ7_fill_d0a16 13 (.iload_n 3) 1 14 := ⟨by decide +kernel, rfl⟩
theorem eJ7_fill_d0a16_14 : Dc mJ7_fill_d0a16 14 (.lload_n 1) 1 15 := ⟨by decide +kernel, rfl⟩
theorem eJ7_fill_d0a16_15 : Dc mJ7_fill_d0a16 15 (.lastore) 1 16 := ⟨by decide +kernel, rfl⟩
theorem eJ7_fill_d0a16_16 : Dc mJ7_fill_d0a16 16 (.iinc 3 1) 3 19 := ⟨by decide +kernel, rfl⟩
theorem eJ7_fill_d0a16_19 : Dj mJ7_fill_d0a16 19 (.goto) 22 6 := ⟨-13, by decide +kernel, rfl, by decide⟩
theorem eJ7_fill_d0a16_22 : Dc mJ7_fill_d0a16 22 (.return_) 1 23 := ⟨by decide +kernel, rfl⟩
theorem eX0_leastEnd_0 : Dc mX0_leastEnd 0 (.aload_n 0) 1 1 := ⟨by decide +kernel, rfl⟩
theorem eX0_leastEnd_1 : Dc mX0_leastEnd 1 (.aload_n 0) 1 2 := ⟨by decide +kernel, rfl⟩
theorem eX0_leastEnd_2 : Dc mX0_leastEnd 2 (.getfield 19) 3 5 := ⟨by decide +kernel, rfl⟩
theorem eX0_leastEnd_5 : Dc mX0_leastEnd 5 (.invokevirtual 57) 3 8 := ⟨by decide +kernel, rfl⟩
theorem eX0_leastEnd_8 : Dc mX0_leastEnd 8 (.lreturn) 1 9 := ⟨by decide +kernel, rfl⟩
theorem eX0_leastNumber_0 : Dc mX0_leastNumber 0 (.aload_n 0) 1 1 := ⟨by decide +kernel, rfl⟩
theorem eX0_leastNumber_1 : Dc mX0_leastNumber 1 (.aload_n 0) 1 2 := ⟨by decide +kernel, rfl⟩
theorem eX0_leastNumber_2 : Dc mX0_leastNumber 2 (.getfield 15) 3 5 := ⟨by decide +kernel, rfl⟩
theorem eX0_leastNumber_5 : Dc mX0_leastNumber 5 (.invokevirtual 57) 3 8 := ⟨by decide +kernel, rfl⟩
theorem eX0_leastNumber_8 : Dc mX0_leastNumber 8 (.lreturn) 1 9 := ⟨by decide +kernel, rfl⟩
theorem eX0_leastOf_0 : Dc mX0_leastOf 0 (.aload_n 1) 1 1 := ⟨by decide +kernel, rfl⟩
theorem eX0_leastOf_1 : Dc mX0_leastOf 1 (.arraylength) 1 2 := ⟨by decide +kernel, rfl⟩
theorem eX0_leastOf_2 : Dj mX0_leastOf 2 (.ifCond .le) 5 11 := ⟨9, by decide +kernel, rfl, by decide⟩
theorem eX0_leastOf_5 : Dc mX0_leastOf 5 (.aload_n 1) 1 6 := ⟨by decide +kernel, rfl⟩
theorem eX0_leastOf_6 : Dc mX0_leastOf 6 (.iconst 0) 1 7 := ⟨by decide +kernel, rfl⟩
theorem eX0_leastOf_7 : Dc mX0_leastOf 7 (.laload) 1 8 := ⟨by decide +kernel, rfl⟩
theorem eX0_leastOf_8 : Dj mX0_leastOf 8 (.goto) 11 12 := ⟨4, by decide +kernel, rfl, by decide⟩
theorem eX0_leastOf_11 : Dc mX0_leastOf 11 (.lconst 0) 1 12 := ⟨by decide +kernel, rfl⟩
theorem eX0_leastOf_12 : Dc mX0_leastOf 12 (.lstore_n 2) 1 13 := ⟨by decide +kernel, rfl⟩
theorem eX0_leastOf_13 : Dc mX0_leastOf 13 (.iconst 1) 1 14 := ⟨by decide +kernel, rfl⟩
theorem eX0_leastOf_14 : Dc mX0_leastOf 14 (.istore 4) 2 16 := ⟨by decide +kernel, rfl⟩
theorem eX0_leastOf_16 : Dc mX0_leastOf 16 (.iload 4) 2 18 := ⟨by decide +kernel, rfl⟩
theorem eX0_leastOf_18 : Dc mX0_leastOf 18 (.aload_n 0) 1 19 := ⟨by decide +kernel, rfl⟩
theorem eX0_leastOf_19 : Dc mX0_leastOf 19 (.getfield 22) 3 22 := ⟨by decide +kernel, rfl⟩
theorem eX0_leastOf_22 : Dj mX0_leastOf 22 (.if_icmp .ge) 25 47 := ⟨25, by decide +kernel, rfl, by decide⟩
theorem eX0_leastOf_25 : Dc mX0_leastOf 25 (.iload 4) 2 27 := ⟨by decide +kernel, rfl⟩
theorem eX0_leastOf_27 : Dc mX0_leastOf 27 (.aload_n 1) 1 28 := ⟨by decide +kernel, rfl⟩
theorem eX0_leastOf_28 : Dc mX0_leastOf 28 (.arraylength) 1 29 := ⟨by decide +kernel, rfl⟩
theorem eX0_leastOf_29 : Dj mX0_leastOf 29 (.if_icmp .ge) 32 47 := ⟨18, by decide +kernel, rfl, by decide⟩
theorem eX0_leastOf_32 : Dc mX0_leastOf 32 (.lload_n 2) 1 33 := ⟨by decide +kernel, rfl⟩
theorem eX0_leastOf_33 : Dc mX0_leastOf 33 (.aload_n 1) 1 34 := ⟨by decide +kernel, rfl⟩
theorem eX0_leastOf_34 : Dc mX0_leastOf 34 (.iload 4) 2 36 := ⟨by decide +kernel, rfl⟩
theorem eX0_leastOf_36 : Dc mX0_leastOf 36 (.laload) 1 37 := ⟨by decide +kernel, rfl⟩
theorem eX0_leastOf_37 : Dc mX0_leastOf 37 (.invokestatic 61) 3 40 := ⟨by decide +kernel, rfl⟩
theorem eX0_leastOf_40 : Dc mX0_leastOf 40 (.lstore_n 2) 1 41 := ⟨by decide +kernel, rfl⟩
theorem eX0_leastOf_41 : Dc mX0_leastOf 41 (.iinc 4 1) 3 44 := ⟨by decide +kernel, rfl⟩
theorem eX0_leastOf_44 : Dj mX0_leastOf 44 (.goto) 47 16 := ⟨-28, by decide +kernel, rfl, by decide⟩
theorem eX0_leastOf_47 : Dc mX0_leastOf 47 (.lload_n 2) 1 48 := ⟨by decide +kernel, rfl⟩
theorem eX0_leastOf_48 : Dc mX0_leastOf 48 (.lreturn) 1 49 := ⟨by decide +kernel, rfl⟩
theorem eX0_lowest_0 : Dc mX0_lowest 0 (.iconst 0) 1 1 := ⟨by decide +kernel, rfl⟩
theorem eX0_lowest_1 : Dc mX0_lowest 1 (.istore_n 1) 1 2 := ⟨by decide +kernel, rfl⟩
theorem eX0_lowest_2 : Dc mX0_lowest 2 (.iconst 1) 1 3 := ⟨by decide +kernel, rfl⟩
theorem eX0_lowest_3 : Dc mX0_lowest 3 (.istore_n 2) 1 4 := ⟨by decide +kernel, rfl⟩
theorem eX0_lowest_4 : Dc mX0_lowest 4 (.iload_n 2) 1 5 := ⟨by decide +kernel, rfl⟩
theorem eX0_lowest_5 : Dc mX0_lowest 5 (.aload_n 0) 1 6 := ⟨by decide +kernel, rfl⟩
theorem eX0_lowest_6 : Dc mX0_lowest 6 (.getfield 22) 3 9 := ⟨by decide +kernel, rfl⟩
theorem eX0_lowest_9 : Dj mX0_lowest 9 (.if_icmp .ge) 12 45 := ⟨36, by decide +kernel, rfl, by decide⟩
theorem eX0_lowest_12 : Dc mX0_lowest 12 (.iload_n 2) 1 13 := ⟨by decide +kernel, rfl⟩
theorem eX0_lowest_13 : Dc mX0_lowest 13 (.aload_n 0) 1 14 := ⟨by decide +kernel, rfl⟩
theorem eX0_lowest_14 : Dc mX0_lowest 14 (.getfield 15) 3 17 := ⟨by decide +kernel, rfl⟩
theorem eX0_lowest_17 : Dc mX0_lowest 17 (.arraylength) 1 18 := ⟨by decide +kernel, rfl⟩
theorem eX0_lowest_18 : Dj mX0_lowest 18 (.if_icmp .ge) 21 45 := ⟨27, by decide +kernel, rfl, by decide⟩
theorem eX0_lowest_21 : Dc mX0_lowest 21 (.aload_n 0) 1 22 := ⟨by decide +kernel, rfl⟩
theorem eX0_lowest_22 : Dc mX0_lowest 22 (.getfield 15) 3 25 := ⟨by decide +kernel, rfl⟩
theorem eX0_lowest_25 : Dc mX0_lowest 25 (.iload_n 2) 1 26 := ⟨by decide +kernel, rfl⟩
theorem eX0_lowest_26 : Dc mX0_lowest 26 (.laload) 1 27 := ⟨by decide +kernel, rfl⟩
theorem eX0_lowest_27 : Dc mX0_lowest 27 (.aload_n 0) 1 28 := ⟨by decide +kernel, rfl⟩
theorem eX0_lowest_28 : Dc mX0_lowest 28 (.getfield 15) 3 31 := ⟨by decide +kernel, rfl⟩
theorem eX0_lowest_31 : Dc mX0_lowest 31 (.iload_n 1) 1 32 := ⟨by decide +kernel, rfl⟩
theorem eX0_lowest_32 : Dc mX0_lowest 32 (.laload) 1 33 := ⟨by decide +kernel, rfl⟩
theorem eX0_lowest_33 : Dc mX0_lowest 33 (.lcmp) 1 34 := ⟨by decide +kernel, rfl⟩
theorem eX0_lowest_34 : Dj mX0_lowest 34 (.ifCond .ge) 37 39 := ⟨5, by decide +kernel, rfl, by decide⟩
theorem eX0_lowest_37 : Dc mX0_lowest 37 (.iload_n 2) 1 38 := ⟨by decide +kernel, rfl⟩
theorem eX0_lowest_38 : Dc mX0_lowest 38 (.istore_n 1) 1 39 := ⟨by decide +kernel, rfl⟩
theorem eX0_lowest_39 : Dc mX0_lowest 39 (.iinc 2 1) 3 42 := ⟨by decide +kernel, rfl⟩
theorem eX0_lowest_42 : Dj mX0_lowest 42 (.goto) 45 4 := ⟨-38, by decide +kernel, rfl, by decide⟩
theorem eX0_lowest_45 : Dc mX0_lowest 45 (.iload_n 1) 1 46 := ⟨by decide +kernel, rfl⟩
theorem eX0_lowest_46 : Dc mX0_lowest 46 (.ireturn) 1 47 := ⟨by decide +kernel, rfl⟩
theorem eX0_makeRoom_0 : Dc mX0_makeRoom 0 (.iload_n 1) 1 1 := ⟨by decide +kernel, rfl⟩
theorem eX0_makeRoom_1 : Dj mX0_makeRoom 1 (.ifCond .lt) 4 21 := ⟨20, by decide +kernel, rfl, by decide⟩
theorem eX0_makeRoom_4 : Dc mX0_makeRoom 4 (.iload_n 1) 1 5 := ⟨by decide +kernel, rfl⟩
theorem eX0_makeRoom_5 : Dc mX0_makeRoom 5 (.aload_n 0) 1 6 := ⟨by decide +kernel, rfl⟩
theorem eX0_makeRoom_6 : Dc mX0_makeRoom 6 (.getfield 22) 3 9 := ⟨by decide +kernel, rfl⟩
theorem eX0_makeRoom_9 : Dj mX0_makeRoom 9 (.if_icmp .ge) 12 21 := ⟨12, by decide +kernel, rfl, by decide⟩
theorem eX0_makeRoom_12 : Dc mX0_makeRoom 12 (.aload_n 0) 1 13 := ⟨by decide +kernel, rfl⟩
theorem eX0_makeRoom_13 : Dc mX0_makeRoom 13 (.getfield 22) 3 16 := ⟨by decide +kernel, rfl⟩
theorem eX0_makeRoom_16 : Dc mX0_makeRoom 16 (.bipush 21) 2 18 := ⟨by decide +kernel, rfl⟩
theorem eX0_makeRoom_18 : Dj mX0_makeRoom 18 (.if_icmp .lt) 21 22 := ⟨4, by decide +kernel, rfl, by decide⟩
theorem eX0_makeRoom_21 : Dc mX0_makeRoom 21 (.return_) 1 22 := ⟨by decide +kernel, rfl⟩
theorem eX0_makeRoom_22 : Dc mX0_makeRoom 22 (.aload_n 0) 1 23 := ⟨by decide +kernel, rfl⟩
theorem eX0_makeRoom_23 : Dc mX0_makeRoom 23 (.getfield 22) 3 26 := ⟨by decide +kernel, rfl⟩
theorem eX0_makeRoom_26 : Dc mX0_makeRoom 26 (.iload_n 1) 1 27 := ⟨by decide +kernel, rfl⟩
theorem eX0_makeRoom_27 : Dc mX0_makeRoom 27 (.isub) 1 28 := ⟨by decide +kernel, rfl⟩
theorem eX0_makeRoom_28 : Dc mX0_makeRoom 28 (.iconst 1) 1 29 := ⟨by decide +kernel, rfl⟩
theorem eX0_makeRoom_29 : Dc mX0_makeRoom 29 (.isub) 1 30 := ⟨by decide +kernel, rfl⟩
theorem eX0_makeRoom_30 : Dc mX0_makeRoom 30 (.istore_n 2) 1 31 := ⟨by decide +kernel, rfl⟩
theorem eX0_makeRoom_31 : Dc mX0_makeRoom 31 (.aload_n 0) 1 32 := ⟨by decide +kernel, rfl⟩
theorem eX0_makeRoom_32 : Dc mX0_makeRoom 32 (.getfield 11) 3 35 := ⟨by decide +kernel, rfl⟩
theorem eX0_makeRoom_35 : Dc mX0_makeRoom 35 (.iload_n 1) 1 36 := ⟨by decide +kernel, rfl⟩
theorem eX0_makeRoom_36 : Dc mX0_makeRoom 36 (.iconst 1) 1 37 := ⟨by decide +kernel, rfl⟩
theorem eX0_makeRoom_37 : Dc mX0_makeRoom 37 (.iadd) 1 38 := ⟨by decide +kernel, rfl⟩
theorem eX0_makeRoom_38 : Dc mX0_makeRoom 38 (.aload_n 0) 1 39 := ⟨by decide +kernel, rfl⟩
theorem eX0_makeRoom_39 : Dc mX0_makeRoom 39 (.getfield 11) 3 42 := ⟨by decide +kernel, rfl⟩
theorem eX0_makeRoom_42 : Dc mX0_makeRoom 42 (.iload_n 1) 1 43 := ⟨by decide +kernel, rfl⟩
theorem eX0_makeRoom_43 : Dc mX0_makeRoom 43 (.iconst 2) 1 44 := ⟨by decide +kernel, rfl⟩
theorem eX0_makeRoom_44 : Dc mX0_makeRoom 44 (.iadd) 1 45 := ⟨by decide +kernel, rfl⟩
theorem eX0_makeRoom_45 : Dc mX0_makeRoom 45 (.iload_n 2) 1 46 := ⟨by decide +kernel, rfl⟩
theorem eX0_makeRoom_46 : Dc mX0_makeRoom 46 (.invokestatic 38) 3 49 := ⟨by decide +kernel, rfl⟩
theorem eX0_makeRoom_49 : Dc mX0_makeRoom 49 (.aload_n 0) 1 50 := ⟨by decide +kernel, rfl⟩
theorem eX0_makeRoom_50 : Dc mX0_makeRoom 50 (.getfield 15) 3 53 := ⟨by decide +kernel, rfl⟩
theorem eX0_makeRoom_53 : Dc mX0_makeRoom 53 (.iload_n 1) 1 54 := ⟨by decide +kernel, rfl⟩
theorem eX0_makeRoom_54 : Dc mX0_makeRoom 54 (.iconst 1) 1 55 := ⟨by decide +kernel, rfl⟩
theorem eX0_makeRoom_55 : Dc mX0_makeRoom 55 (.iadd) 1 56 := ⟨by decide +kernel, rfl⟩
theorem eX0_makeRoom_56 : Dc mX0_makeRoom 56 (.aload_n 0) 1 57 := ⟨by decide +kernel, rfl⟩
theorem eX0_makeRoom_57 : Dc mX0_makeRoom 57 (.getfield 15) 3 60 := ⟨by decide +kernel, rfl⟩
theorem eX0_makeRoom_60 : Dc mX0_makeRoom 60 (.iload_n 1) 1 61 := ⟨by decide +kernel, rfl⟩
theorem eX0_makeRoom_61 : Dc mX0_makeRoom 61 (.iconst 2) 1 62 := ⟨by decide +kernel, rfl⟩
theorem eX0_makeRoom_62 : Dc mX0_makeRoom 62 (.iadd) 1 63 := ⟨by decide +kernel, rfl⟩
theorem eX0_makeRoom_63 : Dc mX0_makeRoom 63 (.iload_n 2) 1 64 := ⟨by decide +kernel, rfl⟩
theorem eX0_makeRoom_64 : Dc mX0_makeRoom 64 (.invokestatic 38) 3 67 := ⟨by decide +kernel, rfl⟩
theorem eX0_makeRoom_67 : Dc mX0_makeRoom 67 (.aload_n 0) 1 68 := ⟨by decide +kernel, rfl⟩
theorem eX0_makeRoom_68 : Dc mX0_makeRoom 68 (.getfield 19) 3 71 := ⟨by decide +kernel, rfl⟩
theorem eX0_makeRoom_71 : Dc mX0_makeRoom 71 (.iload_n 1) 1 72 := ⟨by decide +kernel, rfl⟩
theorem eX0_makeRoom_72 : Dc mX0_makeRoom 72 (.iconst 1) 1 73 := ⟨by decide +kernel, rfl⟩
theorem eX0_makeRoom_73 : Dc mX0_makeRoom 73 (.iadd) 1 74 := ⟨by decide +kernel, rfl⟩
theorem eX0_makeRoom_74 : Dc mX0_makeRoom 74 (.aload_n 0) 1 75 := ⟨by decide +kernel, rfl⟩
theorem eX0_makeRoom_75 : Dc mX0_makeRoom 75 (.getfield 19) 3 78 := ⟨by decide +kernel, rfl⟩
theorem eX0_makeRoom_78 : Dc mX0_makeRoom 78 (.iload_n 1) 1 79 := ⟨by decide +kernel, rfl⟩
theorem eX0_makeRoom_79 : Dc mX0_makeRoom 79 (.iconst 2) 1 80 := ⟨by decide +kernel, rfl⟩
theorem eX0_makeRoom_80 : Dc mX0_makeRoom 80 (.iadd) 1 81 := ⟨by decide +kernel, rfl⟩
theorem eX0_makeRoom_81 : Dc mX0_makeRoom 81 (.iload_n 2) 1 82 := ⟨by decide +kernel, rfl⟩
theorem eX0_makeRoom_82 : Dc mX0_makeRoom 82 (.invokestatic 38) 3 85 := ⟨by decide +kernel, rfl⟩
theorem eX0_makeRoom_85 : Dc mX0_makeRoom 85 (.aload_n 0) 1 86 := ⟨by decide +kernel, rfl⟩
theorem eX0_makeRoom_86 : Dc mX0_makeRoom 86 (.dup) 1 87 := ⟨by decide +kernel, rfl⟩
theorem eX0_makeRoom_87 : Dc mX0_makeRoom 87 (.getfield 22) 3 90 := ⟨by decide +kernel, rfl⟩
theorem eX0_makeRoom_90 : Dc mX0_makeRoom 90 (.iconst 1) 1 91 := ⟨by decide +kernel, rfl⟩
theorem eX0_makeRoom_91 : Dc mX0_makeRoom 91 (.iadd) 1 92 := ⟨by decide +kernel, rfl⟩
theorem eX0_makeRoom_92 : Dc mX0_makeRoom 92 (.putfield 22) 3 95 := ⟨by decide +kernel, rfl⟩
theorem eX0_makeRoom_95 : Dc mX0_makeRoom 95 (.return_) 1 96 := ⟨by decide +kernel, rfl⟩
theorem eX0_narrow_0 : Dc mX0_narrow 0 (.aload_n 0) 1 1 := ⟨by decide +kernel, rfl⟩
theorem eX0_narrow_1 : Dc mX0_narrow 1 (.iconst 1) 1 2 := ⟨by decide +kernel, rfl⟩
theorem eX0_narrow_2 : Dc mX0_narrow 2 (.putfield 22) 3 5 := ⟨by decide +kernel, rfl⟩
theorem eX0_narrow_5 : Dc mX0_narrow 5 (.aload_n 0) 1 6 := ⟨by decide +kernel, rfl⟩
theorem eX0_narrow_6 : Dc mX0_narrow 6 (.aload_n 1) 1 7 := ⟨by decide +kernel, rfl⟩
theorem eX0_narrow_7 : Dc mX0_narrow 7 (.aload_n 2) 1 8 := ⟨by decide +kernel, rfl⟩
theorem eX0_narrow_8 : Dc mX0_narrow 8 (.iconst 0) 1 9 := ⟨by decide +kernel, rfl⟩
theorem eX0_narrow_9 : Dc mX0_narrow 9 (.iconst 1) 1 10 := ⟨by decide +kernel, rfl⟩
theorem eX0_narrow_10 : Dc mX0_narrow 10 (.invokevirtual 26) 3 13 := ⟨by decide +kernel, rfl⟩
theorem eX0_narrow_13 : Dc mX0_narrow 13 (.iconst 0) 1 14 := ⟨by decide +kernel, rfl⟩
theorem eX0_narrow_14 : Dc mX0_narrow 14 (.istore 4) 2 16 := ⟨by decide +kernel, rfl⟩
theorem eX0_narrow_16 : Dc mX0_narrow 16 (.iload 4) 2 18 := ⟨by decide +kernel, rfl⟩
theorem eX0_narrow_18 : Dc mX0_narrow 18 (.iload_n 3) 1 19 := ⟨by decide +kernel, rfl⟩
theorem eX0_narrow_19 : Dj mX0_narrow 19 (.if_icmp .ge) 22 105 := ⟨86, by decide +kernel, rfl, by decide⟩
theorem eX0_narrow_22 : Dc mX0_narrow 22 (.aload_n 0) 1 23 := ⟨by decide +kernel, rfl⟩
theorem eX0_narrow_23 : Dc mX0_narrow 23 (.invokevirtual 30) 3 26 := ⟨by decide +kernel, rfl⟩
theorem eX0_narrow_26 : Dc mX0_narrow 26 (.istore 5) 2 28 := ⟨by decide +kernel, rfl⟩
theorem eX0_narrow_28 : Dc mX0_narrow 28 (.iload 5) 2 30 := ⟨by decide +kernel, rfl⟩
theorem eX0_narrow_30 : Dj mX0_narrow 30 (.ifCond .lt) 33 55 := ⟨25, by decide +kernel, rfl, by decide⟩
theorem eX0_narrow_33 : Dc mX0_narrow 33 (.iload 5) 2 35 := ⟨by decide +kernel, rfl⟩
theorem eX0_narrow_35 : Dc mX0_narrow 35 (.aload_n 0) 1 36 := ⟨by decide +kernel, rfl⟩
theorem eX0_narrow_36 : Dc mX0_narrow 36 (.getfield 11) 3 39 := ⟨by decide +kernel, rfl⟩
theorem eX0_narrow_39 : Dc mX0_narrow 39 (.arraylength) 1 40 := ⟨by decide +kernel, rfl⟩
theorem eX0_narrow_40 : Dj mX0_narrow 40 (.if_icmp .ge) 43 55 := ⟨15, by decide +kernel, rfl, by decide⟩
theorem eX0_narrow_43 : Dc mX0_narrow 43 (.aload_n 0) 1 44 := ⟨by decide +kernel, rfl⟩
theorem eX0_narrow_44 : Dc mX0_narrow 44 (.getfield 11) 3 47 := ⟨by decide +kernel, rfl⟩
theorem eX0_narrow_47 : Dc mX0_narrow 47 (.iload 5) 2 49 := ⟨by decide +kernel, rfl⟩
theorem eX0_narrow_49 : Dc mX0_narrow 49 (.iaload) 1 50 := ⟨by decide +kernel, rfl⟩
theorem eX0_narrow_50 : Dc mX0_narrow 50 (.bipush 64) 2 52 := ⟨by decide +kernel, rfl⟩
theorem eX0_narrow_52 : Dj mX0_narrow 52 (.if_icmp .lt) 55 56 := ⟨4, by decide +kernel, rfl, by decide⟩
theorem eX0_narrow_55 : Dc mX0_narrow 55 (.return_) 1 56 := ⟨by decide +kernel, rfl⟩
theorem eX0_narrow_56 : Dc mX0_narrow 56 (.aload_n 0) 1 57 := ⟨by decide +kernel, rfl⟩
theorem eX0_narrow_57 : Dc mX0_narrow 57 (.getfield 11) 3 60 := ⟨by decide +kernel, rfl⟩
theorem eX0_narrow_60 : Dc mX0_narrow 60 (.iload 5) 2 62 := ⟨by decide +kernel, rfl⟩
theorem eX0_narrow_62 : Dc mX0_narrow 62 (.iaload) 1 63 := ⟨by decide +kernel, rfl⟩
theorem eX0_narrow_63 : Dc mX0_narrow 63 (.istore 6) 2 65 := ⟨by decide +kernel, rfl⟩
theorem eX0_narrow_65 : Dc mX0_narrow 65 (.aload_n 0) 1 66 := ⟨by decide +kernel, rfl⟩
theorem eX0_narrow_66 : Dc mX0_narrow 66 (.iload 5) 2 68 := ⟨by decide +kernel, rfl⟩
theorem eX0_narrow_68 : Dc mX0_narrow 68 (.invokevirtual 34) 3 71 := ⟨by decide +kernel, rfl⟩
theorem eX0_narrow_71 : Dc mX0_narrow 71 (.aload_n 0) 1 72 := ⟨by decide +kernel, rfl⟩
theorem eX0_narrow_72 : Dc mX0_narrow 72 (.aload_n 1) 1 73 := ⟨by decide +kernel, rfl⟩
theorem eX0_narrow_73 : Dc mX0_narrow 73 (.aload_n 2) 1 74 := ⟨by decide +kernel, rfl⟩
theorem eX0_narrow_74 : Dc mX0_narrow 74 (.iload 5) 2 76 := ⟨by decide +kernel, rfl⟩
theorem eX0_narrow_76 : Dc mX0_narrow 76 (.iconst 2) 1 77 := ⟨by decide +kernel, rfl⟩
theorem eX0_narrow_77 : Dc mX0_narrow 77 (.iload 6) 2 79 := ⟨by decide +kernel, rfl⟩
theorem eX0_narrow_79 : Dc mX0_narrow 79 (.imul) 1 80 := ⟨by decide +kernel, rfl⟩
theorem eX0_narrow_80 : Dc mX0_narrow 80 (.invokevirtual 26) 3 83 := ⟨by decide +kernel, rfl⟩
theorem eX0_narrow_83 : Dc mX0_narrow 83 (.aload_n 0) 1 84 := ⟨by decide +kernel, rfl⟩
theorem eX0_narrow_84 : Dc mX0_narrow 84 (.aload_n 1) 1 85 := ⟨by decide +kernel, rfl⟩
theorem eX0_narrow_85 : Dc mX0_narrow 85 (.aload_n 2) 1 86 := ⟨by decide +kernel, rfl⟩
theorem eX0_narrow_86 : Dc mX0_narrow 86 (.iload 5) 2 88 := ⟨by decide +kernel, rfl⟩
theorem eX0_narrow_88 : Dc mX0_narrow 88 (.iconst 1) 1 89 := ⟨by decide +kernel, rfl⟩
theorem eX0_narrow_89 : Dc mX0_narrow 89 (.iadd) 1 90 := ⟨by decide +kernel, rfl⟩
theorem eX0_narrow_90 : Dc mX0_narrow 90 (.iconst 2) 1 91 := ⟨by decide +kernel, rfl⟩
theorem eX0_narrow_91 : Dc mX0_narrow 91 (.iload 6) 2 93 := ⟨by decide +kernel, rfl⟩
theorem eX0_narrow_93 : Dc mX0_narrow 93 (.imul) 1 94 := ⟨by decide +kernel, rfl⟩
theorem eX0_narrow_94 : Dc mX0_narrow 94 (.iconst 1) 1 95 := ⟨by decide +kernel, rfl⟩
theorem eX0_narrow_95 : Dc mX0_narrow 95 (.iadd) 1 96 := ⟨by decide +kernel, rfl⟩
theorem eX0_narrow_96 : Dc mX0_narrow 96 (.invokevirtual 26) 3 99 := ⟨by decide +kernel, rfl⟩
theorem eX0_narrow_99 : Dc mX0_narrow 99 (.iinc 4 1) 3 102 := ⟨by decide +kernel, rfl⟩
theorem eX0_narrow_102 : Dj mX0_narrow 102 (.goto) 105 16 := ⟨-86, by decide +kernel, rfl, by decide⟩
theorem eX0_narrow_105 : Dc mX0_narrow 105 (.return_) 1 106 := ⟨by decide +kernel, rfl⟩
theorem eX0_put_0 : Dc mX0_put 0 (.iload_n 3) 1 1 := ⟨by decide +kernel, rfl⟩
theorem eX0_put_1 : Dj mX0_put 1 (.ifCond .lt) 4 10 := ⟨9, by decide +kernel, rfl, by decide⟩
theorem eX0_put_4 : Dc mX0_put 4 (.iload_n 3) 1 5 := ⟨by decide +kernel, rfl⟩
theorem eX0_put_5 : Dc mX0_put 5 (.bipush 21) 2 7 := ⟨by decide +kernel, rfl⟩
theorem eX0_put_7 : Dj mX0_put 7 (.if_icmp .lt) 10 11 := ⟨4, by decide +kernel, rfl, by decide⟩
theorem eX0_put_10 : Dc mX0_put 10 (.return_) 1 11 := ⟨by decide +kernel, rfl⟩
theorem eX0_put_11 : Dc mX0_put 11 (.aload_n 2) 1 12 := ⟨by decide +kernel, rfl⟩
theorem eX0_put_12 : Dc mX0_put 12 (.aload_n 1) 1 13 := ⟨by decide +kernel, rfl⟩
theorem eX0_put_13 : Dc mX0_put 13 (.iload 4) 2 15 := ⟨by decide +kernel, rfl⟩
theorem eX0_put_15 : Dc mX0_put 15 (.invokevirtual 44) 3 18 := ⟨by decide +kernel, rfl⟩
theorem eX0_put_18 : Dc mX0_put 18 (.aload_n 0) 1 19 := ⟨by decide +kernel, rfl⟩
theorem eX0_put_19 : Dc mX0_put 19 (.getfield 11) 3 22 := ⟨by decide +kernel, rfl⟩
theorem eX0_put_22 : Dc mX0_put 22 (.iload_n 3) 1 23 := ⟨by decide +kernel, rfl⟩
theorem eX0_put_23 : Dc mX0_put 23 (.iload 4) 2 25 := ⟨by decide +kernel, rfl⟩
theorem eX0_put_25 : Dc mX0_put 25 (.iastore) 1 26 := ⟨by decide +kernel, rfl⟩
theorem eX0_put_26 : Dc mX0_put 26 (.aload_n 0) 1 27 := ⟨by decide +kernel, rfl⟩
theorem eX0_put_27 : Dc mX0_put 27 (.getfield 15) 3 30 := ⟨by decide +kernel, rfl⟩
theorem eX0_put_30 : Dc mX0_put 30 (.iload_n 3) 1 31 := ⟨by decide +kernel, rfl⟩
theorem eX0_put_31 : Dc mX0_put 31 (.aload_n 2) 1 32 := ⟨by decide +kernel, rfl⟩
theorem eX0_put_32 : Dc mX0_put 32 (.invokevirtual 50) 3 35 := ⟨by decide +kernel, rfl⟩
theorem eX0_put_35 : Dc mX0_put 35 (.lastore) 1 36 := ⟨by decide +kernel, rfl⟩
theorem eX0_put_36 : Dc mX0_put 36 (.aload_n 0) 1 37 := ⟨by decide +kernel, rfl⟩
theorem eX0_put_37 : Dc mX0_put 37 (.getfield 19) 3 40 := ⟨by decide +kernel, rfl⟩
theorem eX0_put_40 : Dc mX0_put 40 (.iload_n 3) 1 41 := ⟨by decide +kernel, rfl⟩
theorem eX0_put_41 : Dc mX0_put 41 (.aload_n 2) 1 42 := ⟨by decide +kernel, rfl⟩
theorem eX0_put_42 : Dc mX0_put 42 (.invokevirtual 54) 3 45 := ⟨by decide +kernel, rfl⟩
theorem eX0_put_45 : Dc mX0_put 45 (.lastore) 1 46 := ⟨by decide +kernel, rfl⟩
theorem eX0_put_46 : Dc mX0_put 46 (.return_) 1 47 := ⟨by decide +kernel, rfl⟩
theorem eX10_addBox_0 : Dc mX10_addBox 0 (.aload_n 0) 1 1 := ⟨by decide +kernel, rfl⟩
theorem eX10_addBox_1 : Dc mX10_addBox 1 (.getfield 31) 3 4 := ⟨by decide +kernel, rfl⟩
theorem eX10_addBox_4 : Dj mX10_addBox 4 (.ifCond .lt) 7 45 := ⟨41, by decide +kernel, rfl, by decide⟩
theorem eX10_addBox_7 : Dc mX10_addBox 7 (.aload_n 0) 1 8 := ⟨by decide +kernel, rfl⟩
theorem eX10_addBox_8 : Dc mX10_addBox 8 (.getfield 31) 3 11 := ⟨by decide +kernel, rfl⟩
theorem eX10_addBox_11 : Dc mX10_addBox 11 (.iconst 3) 1 12 := ⟨by decide +kernel, rfl⟩
theorem eX10_addBox_12 : Dj mX10_addBox 12 (.if_icmp .ge) 15 45 := ⟨33, by decide +kernel, rfl, by decide⟩
theorem eX10_addBox_15 : Dc mX10_addBox 15 (.aload_n 0) 1 16 := ⟨by decide +kernel, rfl⟩
theorem eX10_addBox_16 : Dc mX10_addBox 16 (.getfield 21) 3 19 := ⟨by decide +kernel, rfl⟩
theorem eX10_addBox_19 : Dc mX10_addBox 19 (.aload_n 0) 1 20 := ⟨by decide +kernel, rfl⟩
theorem eX10_addBox_20 : Dc mX10_addBox 20 (.getfield 31) 3 23 := ⟨by decide +kernel, rfl⟩
theorem eX10_addBox_23 : Dc mX10_addBox 23 (.iload_n 1) 1 24 := ⟨by decide +kernel, rfl⟩
theorem eX10_addBox_24 : Dc mX10_addBox 24 (.iastore) 1 25 := ⟨by decide +kernel, rfl⟩
theorem eX10_addBox_25 : Dc mX10_addBox 25 (.aload_n 0) 1 26 := ⟨by decide +kernel, rfl⟩
theorem eX10_addBox_26 : Dc mX10_addBox 26 (.getfield 24) 3 29 := ⟨by decide +kernel, rfl⟩
theorem eX10_addBox_29 : Dc mX10_addBox 29 (.aload_n 0) 1 30 := ⟨by decide +kernel, rfl⟩
theorem eX10_addBox_30 : Dc mX10_addBox 30 (.getfield 31) 3 33 := ⟨by decide +kernel, rfl⟩
theorem eX10_addBox_33 : Dc mX10_addBox 33 (.iload_n 2) 1 34 := ⟨by decide +kernel, rfl⟩
theorem eX10_addBox_34 : Dc mX10_addBox 34 (.iastore) 1 35 := ⟨by decide +kernel, rfl⟩
theorem eX10_addBox_35 : Dc mX10_addBox 35 (.aload_n 0) 1 36 := ⟨by decide +kernel, rfl⟩
theorem eX10_addBox_36 : Dc mX10_addBox 36 (.dup) 1 37 := ⟨by decide +kernel, rfl⟩
theorem eX10_addBox_37 : Dc mX10_addBox 37 (.getfield 31) 3 40 := ⟨by decide +kernel, rfl⟩
theorem eX10_addBox_40 : Dc mX10_addBox 40 (.iconst 1) 1 41 := ⟨by decide +kernel, rfl⟩
theorem eX10_addBox_41 : Dc mX10_addBox 41 (.iadd) 1 42 := ⟨by decide +kernel, rfl⟩
theorem eX10_addBox_42 : Dc mX10_addBox 42 (.putfield 31) 3 45 := ⟨by decide +kernel, rfl⟩
theorem eX10_addBox_45 : Dc mX10_addBox 45 (.return_) 1 46 := ⟨by decide +kernel, rfl⟩
theorem eX10_addCoefficient_0 : Dc mX10_addCoefficient 0 (.aload_n 0) 1 1 := ⟨by decide +kernel, rfl⟩
theorem eX10_addCoefficient_1 : Dc mX10_addCoefficient 1 (.getfield 27) 3 4 := ⟨by decide +kernel, rfl⟩
theorem eX10_addCoefficient_4 : Dc mX10_addCoefficient 4 (.iconst 1) 1 5 := ⟨by decide +kernel, rfl⟩
theorem eX10_addCoefficient_5 : Dc mX10_addCoefficient 5 (.isub) 1 6 := ⟨by decide +kernel, rfl⟩
theorem eX10_addCoefficient_6 : Dc mX10_addCoefficient 6 (.istore_n 2) 1 7 := ⟨by decide +kernel, rfl⟩
theorem eX10_addCoefficient_7 : Dc mX10_addCoefficient 7 (.aload_n 0) 1 8 := ⟨by decide +kernel, rfl⟩
theorem eX10_addCoefficient_8 : Dc mX10_addCoefficient 8 (.iload_n 2) 1 9 := ⟨by decide +kernel, rfl⟩
theorem eX10_addCoefficient_9 : Dc mX10_addCoefficient 9 (.invokevirtual 34) 3 12 := ⟨by decide +kernel, rfl⟩
theorem eX10_addCoefficient_12 : Dj mX10_addCoefficient 12 (.ifCond .eq) 15 62 := ⟨50, by decide +kernel, rfl, by decide⟩
theorem eX10_addCoefficient_15 : Dc mX10_addCoefficient 15 (.aload_n 0) 1 16 := ⟨by decide +kernel, rfl⟩
theorem eX10_addCoefficient_16 : Dc mX10_addCoefficient 16 (.getfield 9) 3 19 := ⟨by decide +kernel, rfl⟩
theorem eX10_addCoefficient_19 : Dc mX10_addCoefficient 19 (.iload_n 2) 1 20 := ⟨by decide +kernel, rfl⟩
theorem eX10_addCoefficient_20 : Dc mX10_addCoefficient 20 (.iaload) 1 21 := ⟨by decide +kernel, rfl⟩
theorem eX10_addCoefficient_21 : Dj mX10_addCoefficient 21 (.ifCond .lt) 24 62 := ⟨41, by decide +kernel, rfl, by decide⟩
theorem eX10_addCoefficient_24 : Dc mX10_addCoefficient 24 (.aload_n 0) 1 25 := ⟨by decide +kernel, rfl⟩
theorem eX10_addCoefficient_25 : Dc mX10_addCoefficient 25 (.getfield 9) 3 28 := ⟨by decide +kernel, rfl⟩
theorem eX10_addCoefficient_28 : Dc mX10_addCoefficient 28 (.iload_n 2) 1 29 := ⟨by decide +kernel, rfl⟩
theorem eX10_addCoefficient_29 : Dc mX10_addCoefficient 29 (.iaload) 1 30 := ⟨by decide +kernel, rfl⟩
theorem eX10_addCoefficient_30 : Dc mX10_addCoefficient 30 (.bipush 6) 2 32 := ⟨by decide +kernel, rfl⟩
theorem eX10_addCoefficient_32 : Dj mX10_addCoefficient 32 (.if_icmp .ge) 35 62 := ⟨30, by decide +kernel, rfl, by decide⟩
theorem eX10_addCoefficient_35 : Dc mX10_addCoefficient 35 (.aload_n 0) 1 36 := ⟨by decide +kernel, rfl⟩
theorem eX10_addCoefficient_36 : Dc mX10_addCoefficient 36 (.getfield 15) 3 39 := ⟨by decide +kernel, rfl⟩
theorem eX10_addCoefficient_39 : Dc mX10_addCoefficient 39 (.iload_n 2) 1 40 := ⟨by decide +kernel, rfl⟩
theorem eX10_addCoefficient_40 : Dc mX10_addCoefficient 40 (.bipush 6) 2 42 := ⟨by decide +kernel, rfl⟩
theorem eX10_addCoefficient_42 : Dc mX10_addCoefficient 42 (.imul) 1 43 := ⟨by decide +kernel, rfl⟩
theorem eX10_addCoefficient_43 : Dc mX10_addCoefficient 43 (.aload_n 0) 1 44 := ⟨by decide +kernel, rfl⟩
theorem eX10_addCoefficient_44 : Dc mX10_addCoefficient 44 (.getfield 9) 3 47 := ⟨by decide +kernel, rfl⟩
theorem eX10_addCoefficient_47 : Dc mX10_addCoefficient 47 (.iload_n 2) 1 48 := ⟨by decide +kernel, rfl⟩
theorem eX10_addCoefficient_48 : Dc mX10_addCoefficient 48 (.iaload) 1 49 := ⟨by decide +kernel, rfl⟩
theorem eX10_addCoefficient_49 : Dc mX10_addCoefficient 49 (.iadd) 1 50 := ⟨by decide +kernel, rfl⟩
theorem eX10_addCoefficient_50 : Dc mX10_addCoefficient 50 (.iload_n 1) 1 51 := ⟨by decide +kernel, rfl⟩
theorem eX10_addCoefficient_51 : Dc mX10_addCoefficient 51 (.iastore) 1 52 := ⟨by decide +kernel, rfl⟩
theorem eX10_addCoefficient_52 : Dc mX10_addCoefficient 52 (.aload_n 0) 1 53 := ⟨by decide +kernel, rfl⟩
theorem eX10_addCoefficient_53 : Dc mX10_addCoefficient 53 (.getfield 9) 3 56 := ⟨by decide +kernel, rfl⟩
theorem eX10_addCoefficient_56 : Dc mX10_addCoefficient 56 (.iload_n 2) 1 57 := ⟨by decide +kernel, rfl⟩
theorem eX10_addCoefficient_57 : Dc mX10_addCoefficient 57 (.dup2) 1 58 := ⟨by decide +kernel, rfl⟩
theorem eX10_addCoefficient_58 : Dc mX10_addCoefficient 58 (.iaload) 1 59 := ⟨by decide +kernel, rfl⟩
theorem eX10_addCoefficient_59 : Dc mX10_addCoefficient 59 (.iconst 1) 1 60 := ⟨by decide +kernel, rfl⟩
theorem eX10_addCoefficient_60 : Dc mX10_addCoefficient 60 (.iadd) 1 61 := ⟨by decide +kernel, rfl⟩
theorem eX10_addCoefficient_61 : Dc mX10_addCoefficient 61 (.iastore) 1 62 := ⟨by decide +kernel, rfl⟩
theorem eX10_addCoefficient_62 : Dc mX10_addCoefficient 62 (.return_) 1 63 := ⟨by decide +kernel, rfl⟩
theorem eX10_addPolynomial_0 : Dc mX10_addPolynomial 0 (.aload_n 0) 1 1 := ⟨by decide +kernel, rfl⟩
theorem eX10_addPolynomial_1 : Dc mX10_addPolynomial 1 (.getfield 27) 3 4 := ⟨by decide +kernel, rfl⟩
theorem eX10_addPolynomial_4 : Dj mX10_addPolynomial 4 (.ifCond .lt) 7 45 := ⟨41, by decide +kernel, rfl, by decide⟩
theorem eX10_addPolynomial_7 : Dc mX10_addPolynomial 7 (.aload_n 0) 1 8 := ⟨by decide +kernel, rfl⟩
theorem eX10_addPolynomial_8 : Dc mX10_addPolynomial 8 (.getfield 27) 3 11 := ⟨by decide +kernel, rfl⟩
theorem eX10_addPolynomial_11 : Dc mX10_addPolynomial 11 (.iconst 3) 1 12 := ⟨by decide +kernel, rfl⟩
theorem eX10_addPolynomial_12 : Dj mX10_addPolynomial 12 (.if_icmp .ge) 15 45 := ⟨33, by decide +kernel, rfl, by decide⟩
theorem eX10_addPolynomial_15 : Dc mX10_addPolynomial 15 (.aload_n 0) 1 16 := ⟨by decide +kernel, rfl⟩
theorem eX10_addPolynomial_16 : Dc mX10_addPolynomial 16 (.getfield 9) 3 19 := ⟨by decide +kernel, rfl⟩
theorem eX10_addPolynomial_19 : Dc mX10_addPolynomial 19 (.aload_n 0) 1 20 := ⟨by decide +kernel, rfl⟩
theorem eX10_addPolynomial_20 : Dc mX10_addPolynomial 20 (.getfield 27) 3 23 := ⟨by decide +kernel, rfl⟩
theorem eX10_addPolynomial_23 : Dc mX10_addPolynomial 23 (.iconst 0) 1 24 := ⟨by decide +kernel, rfl⟩
theorem eX10_addPolynomial_24 : Dc mX10_addPolynomial 24 (.iastore) 1 25 := ⟨by decide +kernel, rfl⟩
theorem eX10_addPolynomial_25 : Dc mX10_addPolynomial 25 (.aload_n 0) 1 26 := ⟨by decide +kernel, rfl⟩
theorem eX10_addPolynomial_26 : Dc mX10_addPolynomial 26 (.getfield 18) 3 29 := ⟨by decide +kernel, rfl⟩
theorem eX10_addPolynomial_29 : Dc mX10_addPolynomial 29 (.aload_n 0) 1 30 := ⟨by decide +kernel, rfl⟩
theorem eX10_addPolynomial_30 : Dc mX10_addPolynomial 30 (.getfield 27) 3 33 := ⟨by decide +kernel, rfl⟩
theorem eX10_addPolynomial_33 : Dc mX10_addPolynomial 33 (.iconst 0) 1 34 := ⟨by decide +kernel, rfl⟩
theorem eX10_addPolynomial_34 : Dc mX10_addPolynomial 34 (.iastore) 1 35 := ⟨by decide +kernel, rfl⟩
theorem eX10_addPolynomial_35 : Dc mX10_addPolynomial 35 (.aload_n 0) 1 36 := ⟨by decide +kernel, rfl⟩
theorem eX10_addPolynomial_36 : Dc mX10_addPolynomial 36 (.dup) 1 37 := ⟨by decide +kernel, rfl⟩
theorem eX10_addPolynomial_37 : Dc mX10_addPolynomial 37 (.getfield 27) 3 40 := ⟨by decide +kernel, rfl⟩
theorem eX10_addPolynomial_40 : Dc mX10_addPolynomial 40 (.iconst 1) 1 41 := ⟨by decide +kernel, rfl⟩
theorem eX10_addPolynomial_41 : Dc mX10_addPolynomial 41 (.iadd) 1 42 := ⟨by decide +kernel, rfl⟩
theorem eX10_addPolynomial_42 : Dc mX10_addPolynomial 42 (.putfield 27) 3 45 := ⟨by decide +kernel, rfl⟩
theorem eX10_addPolynomial_45 : Dc mX10_addPolynomial 45 (.return_) 1 46 := ⟨by decide +kernel, rfl⟩
theorem eX10_at_0 : Dc mX10_at 0 (.iconst 0) 1 1 := ⟨by decide +kernel, rfl⟩
theorem eX10_at_1 : Dc mX10_at 1 (.istore_n 3) 1 2 := ⟨by decide +kernel, rfl⟩
theorem eX10_at_2 : Dc mX10_at 2 (.aload_n 0) 1 3 := ⟨by decide +kernel, rfl⟩
theorem eX10_at_3 : Dc mX10_at 3 (.iload_n 1) 1 4 := ⟨by decide +kernel, rfl⟩
theorem eX10_at_4 : Dc mX10_at 4 (.invokevirtual 45) 3 7 := ⟨by decide +kernel, rfl⟩
theorem eX10_at_7 : Dc mX10_at 7 (.istore 4) 2 9 := ⟨by decide +kernel, rfl⟩
theorem eX10_at_9 : Dc mX10_at 9 (.iload 4) 2 11 := ⟨by decide +kernel, rfl⟩
theorem eX10_at_11 : Dj mX10_at 11 (.ifCond .lt) 14 32 := ⟨21, by decide +kernel, rfl, by decide⟩
theorem eX10_at_14 : Dc mX10_at 14 (.iload_n 3) 1 15 := ⟨by decide +kernel, rfl⟩
theorem eX10_at_15 : Dc mX10_at 15 (.iload_n 2) 1 16 := ⟨by decide +kernel, rfl⟩
theorem eX10_at_16 : Dc mX10_at 16 (.imul) 1 17 := ⟨by decide +kernel, rfl⟩
theorem eX10_at_17 : Dc mX10_at 17 (.aload_n 0) 1 18 := ⟨by decide +kernel, rfl⟩
theorem eX10_at_18 : Dc mX10_at 18 (.iload_n 1) 1 19 := ⟨by decide +kernel, rfl⟩
theorem eX10_at_19 : Dc mX10_at 19 (.iload 4) 2 21 := ⟨by decide +kernel, rfl⟩
theorem eX10_at_21 : Dc mX10_at 21 (.invokevirtual 49) 3 24 := ⟨by decide +kernel, rfl⟩
theorem eX10_at_24 : Dc mX10_at 24 (.iadd) 1 25 := ⟨by decide +kernel, rfl⟩
theorem eX10_at_25 : Dc mX10_at 25 (.istore_n 3) 1 26 := ⟨by decide +kernel, rfl⟩
theorem eX10_at_26 : Dc mX10_at 26 (.iinc 4 (-1)) 3 29 := ⟨by decide +kernel, rfl⟩
theorem eX10_at_29 : Dj mX10_at 29 (.goto) 32 9 := ⟨-20, by decide +kernel, rfl, by decide⟩
theorem eX10_at_32 : Dc mX10_at 32 (.iload_n 3) 1 33 := ⟨by decide +kernel, rfl⟩
theorem eX10_at_33 : Dc mX10_at 33 (.ireturn) 1 34 := ⟨by decide +kernel, rfl⟩
theorem eX10_become_0 : Dc mX10_become 0 (.aload_n 0) 1 1 := ⟨by decide +kernel, rfl⟩
theorem eX10_become_1 : Dc mX10_become 1 (.aload_n 1) 1 2 := ⟨by decide +kernel, rfl⟩
theorem eX10_become_2 : Dc mX10_become 2 (.getfield 27) 3 5 := ⟨by decide +kernel, rfl⟩
theorem eX10_become_5 : Dc mX10_become 5 (.putfield 27) 3 8 := ⟨by decide +kernel, rfl⟩
theorem eX10_become_8 : Dc mX10_become 8 (.aload_n 0) 1 9 := ⟨by decide +kernel, rfl⟩
theorem eX10_become_9 : Dc mX10_become 9 (.aload_n 1) 1 10 := ⟨by decide +kernel, rfl⟩
theorem eX10_become_10 : Dc mX10_become 10 (.getfield 31) 3 13 := ⟨by decide +kernel, rfl⟩
theorem eX10_become_13 : Dc mX10_become 13 (.putfield 31) 3 16 := ⟨by decide +kernel, rfl⟩
theorem eX10_become_16 : Dc mX10_become 16 (.aload_n 1) 1 17 := ⟨by decide +kernel, rfl⟩
theorem eX10_become_17 : Dc mX10_become 17 (.getfield 9) 3 20 := ⟨by decide +kernel, rfl⟩
theorem eX10_become_20 : Dc mX10_become 20 (.iconst 0) 1 21 := ⟨by decide +kernel, rfl⟩
theorem eX10_become_21 : Dc mX10_become 21 (.aload_n 0) 1 22 := ⟨by decide +kernel, rfl⟩
theorem eX10_become_22 : Dc mX10_become 22 (.getfield 9) 3 25 := ⟨by decide +kernel, rfl⟩
theorem eX10_become_25 : Dc mX10_become 25 (.iconst 0) 1 26 := ⟨by decide +kernel, rfl⟩
theorem eX10_become_26 : Dc mX10_become 26 (.aload_n 0) 1 27 := ⟨by decide +kernel, rfl⟩
theorem eX10_become_27 : Dc mX10_become 27 (.getfield 9) 3 30 := ⟨by decide +kernel, rfl⟩
theorem eX10_become_30 : Dc mX10_become 30 (.arraylength) 1 31 := ⟨by decide +kernel, rfl⟩
theorem eX10_become_31 : Dc mX10_become 31 (.invokestatic 53) 3 34 := ⟨by decide +kernel, rfl⟩
theorem eX10_become_34 : Dc mX10_become 34 (.aload_n 1) 1 35 := ⟨by decide +kernel, rfl⟩
theorem eX10_become_35 : Dc mX10_become 35 (.getfield 15) 3 38 := ⟨by decide +kernel, rfl⟩
theorem eX10_become_38 : Dc mX10_become 38 (.iconst 0) 1 39 := ⟨by decide +kernel, rfl⟩
theorem eX10_become_39 : Dc mX10_become 39 (.aload_n 0) 1 40 := ⟨by decide +kernel, rfl⟩
theorem eX10_become_40 : Dc mX10_become 40 (.getfield 15) 3 43 := ⟨by decide +kernel, rfl⟩
theorem eX10_become_43 : Dc mX10_become 43 (.iconst 0) 1 44 := ⟨by decide +kernel, rfl⟩
theorem eX10_become_44 : Dc mX10_become 44 (.aload_n 0) 1 45 := ⟨by decide +kernel, rfl⟩
theorem eX10_become_45 : Dc mX10_become 45 (.getfield 15) 3 48 := ⟨by decide +kernel, rfl⟩
theorem eX10_become_48 : Dc mX10_become 48 (.arraylength) 1 49 := ⟨by decide +kernel, rfl⟩
theorem eX10_become_49 : Dc mX10_become 49 (.invokestatic 53) 3 52 := ⟨by decide +kernel, rfl⟩
theorem eX10_become_52 : Dc mX10_become 52 (.aload_n 1) 1 53 := ⟨by decide +kernel, rfl⟩
theorem eX10_become_53 : Dc mX10_become 53 (.getfield 18) 3 56 := ⟨by decide +kernel, rfl⟩
theorem eX10_become_56 : Dc mX10_become 56 (.iconst 0) 1 57 := ⟨by decide +kernel, rfl⟩
theorem eX10_become_57 : Dc mX10_become 57 (.aload_n 0) 1 58 := ⟨by decide +kernel, rfl⟩
theorem eX10_become_58 : Dc mX10_become 58 (.getfield 18) 3 61 := ⟨by decide +kernel, rfl⟩
theorem eX10_become_61 : Dc mX10_become 61 (.iconst 0) 1 62 := ⟨by decide +kernel, rfl⟩
theorem eX10_become_62 : Dc mX10_become 62 (.aload_n 0) 1 63 := ⟨by decide +kernel, rfl⟩
theorem eX10_become_63 : Dc mX10_become 63 (.getfield 18) 3 66 := ⟨by decide +kernel, rfl⟩
theorem eX10_become_66 : Dc mX10_become 66 (.arraylength) 1 67 := ⟨by decide +kernel, rfl⟩
theorem eX10_become_67 : Dc mX10_become 67 (.invokestatic 53) 3 70 := ⟨by decide +kernel, rfl⟩
theorem eX10_become_70 : Dc mX10_become 70 (.aload_n 1) 1 71 := ⟨by decide +kernel, rfl⟩
theorem eX10_become_71 : Dc mX10_become 71 (.getfield 21) 3 74 := ⟨by decide +kernel, rfl⟩
theorem eX10_become_74 : Dc mX10_become 74 (.iconst 0) 1 75 := ⟨by decide +kernel, rfl⟩
theorem eX10_become_75 : Dc mX10_become 75 (.aload_n 0) 1 76 := ⟨by decide +kernel, rfl⟩
theorem eX10_become_76 : Dc mX10_become 76 (.getfield 21) 3 79 := ⟨by decide +kernel, rfl⟩
theorem eX10_become_79 : Dc mX10_become 79 (.iconst 0) 1 80 := ⟨by decide +kernel, rfl⟩
theorem eX10_become_80 : Dc mX10_become 80 (.aload_n 0) 1 81 := ⟨by decide +kernel, rfl⟩
theorem eX10_become_81 : Dc mX10_become 81 (.getfield 21) 3 84 := ⟨by decide +kernel, rfl⟩
theorem eX10_become_84 : Dc mX10_become 84 (.arraylength) 1 85 := ⟨by decide +kernel, rfl⟩
theorem eX10_become_85 : Dc mX10_become 85 (.invokestatic 53) 3 88 := ⟨by decide +kernel, rfl⟩
theorem eX10_become_88 : Dc mX10_become 88 (.aload_n 1) 1 89 := ⟨by decide +kernel, rfl⟩
theorem eX10_become_89 : Dc mX10_become 89 (.getfield 24) 3 92 := ⟨by decide +kernel, rfl⟩
theorem eX10_become_92 : Dc mX10_become 92 (.iconst 0) 1 93 := ⟨by decide +kernel, rfl⟩
theorem eX10_become_93 : Dc mX10_become 93 (.aload_n 0) 1 94 := ⟨by decide +kernel, rfl⟩
theorem eX10_become_94 : Dc mX10_become 94 (.getfield 24) 3 97 := ⟨by decide +kernel, rfl⟩
theorem eX10_become_97 : Dc mX10_become 97 (.iconst 0) 1 98 := ⟨by decide +kernel, rfl⟩
theorem eX10_become_98 : Dc mX10_become 98 (.aload_n 0) 1 99 := ⟨by decide +kernel, rfl⟩
theorem eX10_become_99 : Dc mX10_become 99 (.getfield 24) 3 102 := ⟨by decide +kernel, rfl⟩
theorem eX10_become_102 : Dc mX10_become 102 (.arraylength) 1 103 := ⟨by decide +kernel, rfl⟩
theorem eX10_become_103 : Dc mX10_become 103 (.invokestatic 53) 3 106 := ⟨by decide +kernel, rfl⟩
theorem eX10_become_106 : Dc mX10_become 106 (.return_) 1 107 := ⟨by decide +kernel, rfl⟩
theorem eX10_boxes_0 : Dc mX10_boxes 0 (.aload_n 0) 1 1 := ⟨by decide +kernel, rfl⟩
theorem eX10_boxes_1 : Dc mX10_boxes 1 (.getfield 31) 3 4 := ⟨by decide +kernel, rfl⟩
theorem eX10_boxes_4 : Dc mX10_boxes 4 (.ireturn) 1 5 := ⟨by decide +kernel, rfl⟩
theorem eX10_coefficient_0 : Dc mX10_coefficient 0 (.aload_n 0) 1 1 := ⟨by decide +kernel, rfl⟩
theorem eX10_coefficient_1 : Dc mX10_coefficient 1 (.iload_n 1) 1 2 := ⟨by decide +kernel, rfl⟩
theorem eX10_coefficient_2 : Dc mX10_coefficient 2 (.iload_n 2) 1 3 := ⟨by decide +kernel, rfl⟩
theorem eX10_coefficient_3 : Dc mX10_coefficient 3 (.invokevirtual 38) 3 6 := ⟨by decide +kernel, rfl⟩
theorem eX10_coefficient_6 : Dj mX10_coefficient 6 (.ifCond .eq) 9 23 := ⟨17, by decide +kernel, rfl, by decide⟩
theorem eX10_coefficient_9 : Dc mX10_coefficient 9 (.aload_n 0) 1 10 := ⟨by decide +kernel, rfl⟩
theorem eX10_coefficient_10 : Dc mX10_coefficient 10 (.getfield 15) 3 13 := ⟨by decide +kernel, rfl⟩
theorem eX10_coefficient_13 : Dc mX10_coefficient 13 (.iload_n 1) 1 14 := ⟨by decide +kernel, rfl⟩
theorem eX10_coefficient_14 : Dc mX10_coefficient 14 (.bipush 6) 2 16 := ⟨by decide +kernel, rfl⟩
theorem eX10_coefficient_16 : Dc mX10_coefficient 16 (.imul) 1 17 := ⟨by decide +kernel, rfl⟩
theorem eX10_coefficient_17 : Dc mX10_coefficient 17 (.iload_n 2) 1 18 := ⟨by decide +kernel, rfl⟩
theorem eX10_coefficient_18 : Dc mX10_coefficient 18 (.iadd) 1 19 := ⟨by decide +kernel, rfl⟩
theorem eX10_coefficient_19 : Dc mX10_coefficient 19 (.iaload) 1 20 := ⟨by decide +kernel, rfl⟩
theorem eX10_coefficient_20 : Dj mX10_coefficient 20 (.goto) 23 24 := ⟨4, by decide +kernel, rfl, by decide⟩
theorem eX10_coefficient_23 : Dc mX10_coefficient 23 (.iconst 0) 1 24 := ⟨by decide +kernel, rfl⟩
theorem eX10_coefficient_24 : Dc mX10_coefficient 24 (.ireturn) 1 25 := ⟨by decide +kernel, rfl⟩
theorem eX10_degree_0 : Dc mX10_degree 0 (.aload_n 0) 1 1 := ⟨by decide +kernel, rfl⟩
theorem eX10_degree_1 : Dc mX10_degree 1 (.iload_n 1) 1 2 := ⟨by decide +kernel, rfl⟩
theorem eX10_degree_2 : Dc mX10_degree 2 (.invokevirtual 34) 3 5 := ⟨by decide +kernel, rfl⟩
theorem eX10_degree_5 : Dj mX10_degree 5 (.ifCond .eq) 8 19 := ⟨14, by decide +kernel, rfl, by decide⟩
theorem eX10_degree_8 : Dc mX10_degree 8 (.aload_n 0) 1 9 := ⟨by decide +kernel, rfl⟩
theorem eX10_degree_9 : Dc mX10_degree 9 (.getfield 9) 3 12 := ⟨by decide +kernel, rfl⟩
theorem eX10_degree_12 : Dc mX10_degree 12 (.iload_n 1) 1 13 := ⟨by decide +kernel, rfl⟩
theorem eX10_degree_13 : Dc mX10_degree 13 (.iaload) 1 14 := ⟨by decide +kernel, rfl⟩
theorem eX10_degree_14 : Dc mX10_degree 14 (.iconst 1) 1 15 := ⟨by decide +kernel, rfl⟩
theorem eX10_degree_15 : Dc mX10_degree 15 (.isub) 1 16 := ⟨by decide +kernel, rfl⟩
theorem eX10_degree_16 : Dj mX10_degree 16 (.goto) 19 21 := ⟨5, by decide +kernel, rfl, by decide⟩
theorem eX10_degree_19 : Dc mX10_degree 19 (.bipush (-9)) 2 21 := ⟨by decide +kernel, rfl⟩
theorem eX10_degree_21 : Dc mX10_degree 21 (.ireturn) 1 22 := ⟨by decide +kernel, rfl⟩
theorem eX10_empty_0 : Dc mX10_empty 0 (.aload_n 0) 1 1 := ⟨by decide +kernel, rfl⟩
theorem eX10_empty_1 : Dc mX10_empty 1 (.iconst 0) 1 2 := ⟨by decide +kernel, rfl⟩
theorem eX10_empty_2 : Dc mX10_empty 2 (.putfield 27) 3 5 := ⟨by decide +kernel, rfl⟩
theorem eX10_empty_5 : Dc mX10_empty 5 (.aload_n 0) 1 6 := ⟨by decide +kernel, rfl⟩
theorem eX10_empty_6 : Dc mX10_empty 6 (.iconst 0) 1 7 := ⟨by decide +kernel, rfl⟩
theorem eX10_empty_7 : Dc mX10_empty 7 (.putfield 31) 3 10 := ⟨by decide +kernel, rfl⟩
theorem eX10_empty_10 : Dc mX10_empty 10 (.return_) 1 11 := ⟨by decide +kernel, rfl⟩
theorem eX10_hasBox_0 : Dc mX10_hasBox 0 (.iload_n 1) 1 1 := ⟨by decide +kernel, rfl⟩
theorem eX10_hasBox_1 : Dj mX10_hasBox 1 (.ifCond .lt) 4 21 := ⟨20, by decide +kernel, rfl, by decide⟩
theorem eX10_hasBox_4 : Dc mX10_hasBox 4 (.iload_n 1) 1 5 := ⟨by decide +kernel, rfl⟩
theorem eX10_hasBox_5 : Dc mX10_hasBox 5 (.aload_n 0) 1 6 := ⟨by decide +kernel, rfl⟩
theorem eX10_hasBox_6 : Dc mX10_hasBox 6 (.getfield 31) 3 9 := ⟨by decide +kernel, rfl⟩
theorem eX10_hasBox_9 : Dj mX10_hasBox 9 (.if_icmp .ge) 12 21 := ⟨12, by decide +kernel, rfl, by decide⟩
theorem eX10_hasBox_12 : Dc mX10_hasBox 12 (.iload_n 1) 1 13 := ⟨by decide +kernel, rfl⟩
theorem eX10_hasBox_13 : Dc mX10_hasBox 13 (.iconst 3) 1 14 := ⟨by decide +kernel, rfl⟩
theorem eX10_hasBox_14 : Dj mX10_hasBox 14 (.if_icmp .ge) 17 21 := ⟨7, by decide +kernel, rfl, by decide⟩
theorem eX10_hasBox_17 : Dc mX10_hasBox 17 (.iconst 1) 1 18 := ⟨by decide +kernel, rfl⟩
theorem eX10_hasBox_18 : Dj mX10_hasBox 18 (.goto) 21 22 := ⟨4, by decide +kernel, rfl, by decide⟩
theorem eX10_hasBox_21 : Dc mX10_hasBox 21 (.iconst 0) 1 22 := ⟨by decide +kernel, rfl⟩
theorem eX10_hasBox_22 : Dc mX10_hasBox 22 (.ireturn) 1 23 := ⟨by decide +kernel, rfl⟩
theorem eX10_hasCoefficient_0 : Dc mX10_hasCoefficient 0 (.iload_n 1) 1 1 := ⟨by decide +kernel, rfl⟩
theorem eX10_hasCoefficient_1 : Dj mX10_hasCoefficient 1 (.ifCond .lt) 4 41 := ⟨40, by decide +kernel, rfl, by decide⟩
theorem eX10_hasCoefficient_4 : Dc mX10_hasCoefficient 4 (.iload_n 1) 1 5 := ⟨by decide +kernel, rfl⟩
theorem eX10_hasCoefficient_5 : Dc mX10_hasCoefficient 5 (.aload_n 0) 1 6 := ⟨by decide +kernel, rfl⟩
theorem eX10_hasCoefficient_6 : Dc mX10_hasCoefficient 6 (.getfield 27) 3 9 := ⟨by decide +kernel, rfl⟩
theorem eX10_hasCoefficient_9 : Dj mX10_hasCoefficient 9 (.if_icmp .ge) 12 41 := ⟨32, by decide +kernel, rfl, by decide⟩
theorem eX10_hasCoefficient_12 : Dc mX10_hasCoefficient 12 (.iload_n 1) 1 13 := ⟨by decide +kernel, rfl⟩
theorem eX10_hasCoefficient_13 : Dc mX10_hasCoefficient 13 (.iconst 3) 1 14 := ⟨by decide +kernel, rfl⟩
theorem eX10_hasCoefficient_14 : Dj mX10_hasCoefficient 14 (.if_icmp .ge) 17 41 := ⟨27, by decide +kernel, rfl, by decide⟩
theorem eX10_hasCoefficient_17 : Dc mX10_hasCoefficient 17 (.iload_n 2) 1 18 := ⟨by decide +kernel, rfl⟩
theorem eX10_hasCoefficient_18 : Dj mX10_hasCoefficient 18 (.ifCond .lt) 21 41 := ⟨23, by decide +kernel, rfl, by decide⟩
theorem eX10_hasCoefficient_21 : Dc mX10_hasCoefficient 21 (.iload_n 2) 1 22 := ⟨by decide +kernel, rfl⟩
theorem eX10_hasCoefficient_22 : Dc mX10_hasCoefficient 22 (.aload_n 0) 1 23 := ⟨by decide +kernel, rfl⟩
theorem eX10_hasCoefficient_23 : Dc mX10_hasCoefficient 23 (.getfield 9) 3 26 := ⟨by decide +kernel, rfl⟩
theorem eX10_hasCoefficient_26 : Dc mX10_hasCoefficient 26 (.iload_n 1) 1 27 := ⟨by decide +kernel, rfl⟩
theorem eX10_hasCoefficient_27 : Dc mX10_hasCoefficient 27 (.iaload) 1 28 := ⟨by decide +kernel, rfl⟩
theorem eX10_hasCoefficient_28 : Dj mX10_hasCoefficient 28 (.if_icmp .ge) 31 41 := ⟨13, by decide +kernel, rfl, by decide⟩
theorem eX10_hasCoefficient_31 : Dc mX10_hasCoefficient 31 (.iload_n 2) 1 32 := ⟨by decide +kernel, rfl⟩
theorem eX10_hasCoefficient_32 : Dc mX10_hasCoefficient 32 (.bipush 6) 2 34 := ⟨by decide +kernel, rfl⟩
theorem eX10_hasCoefficient_34 : Dj mX10_hasCoefficient 34 (.if_icmp .ge) 37 41 := ⟨7, by decide +kernel, rfl, by decide⟩
theorem eX10_hasCoefficient_37 : Dc mX10_hasCoefficient 37 (.iconst 1) 1 38 := ⟨by decide +kernel, rfl⟩
theorem eX10_hasCoefficient_38 : Dj mX10_hasCoefficient 38 (.goto) 41 42 := ⟨4, by decide +kernel, rfl, by decide⟩
theorem eX10_hasCoefficient_41 : Dc mX10_hasCoefficient 41 (.iconst 0) 1 42 := ⟨by decide +kernel, rfl⟩
theorem eX10_hasCoefficient_42 : Dc mX10_hasCoefficient 42 (.ireturn) 1 43 := ⟨by decide +kernel, rfl⟩
theorem eX10_hasPolynomial_0 : Dc mX10_hasPolynomial 0 (.iload_n 1) 1 1 := ⟨by decide +kernel, rfl⟩
theorem eX10_hasPolynomial_1 : Dj mX10_hasPolynomial 1 (.ifCond .lt) 4 21 := ⟨20, by decide +kernel, rfl, by decide⟩
theorem eX10_hasPolynomial_4 : Dc mX10_hasPolynomial 4 (.iload_n 1) 1 5 := ⟨by decide +kernel, rfl⟩
theorem eX10_hasPolynomial_5 : Dc mX10_hasPolynomial 5 (.aload_n 0) 1 6 := ⟨by decide +kernel, rfl⟩
theorem eX10_hasPolynomial_6 : Dc mX10_hasPolynomial 6 (.getfield 27) 3 9 := ⟨by decide +kernel, rfl⟩
theorem eX10_hasPolynomial_9 : Dj mX10_hasPolynomial 9 (.if_icmp .ge) 12 21 := ⟨12, by decide +kernel, rfl, by decide⟩
theorem eX10_hasPolynomial_12 : Dc mX10_hasPolynomial 12 (.iload_n 1) 1 13 := ⟨by decide +kernel, rfl⟩
theorem eX10_hasPolynomial_13 : Dc mX10_hasPolynomial 13 (.iconst 3) 1 14 := ⟨by decide +kernel, rfl⟩
theorem eX10_hasPolynomial_14 : Dj mX10_hasPolynomial 14 (.if_icmp .ge) 17 21 := ⟨7, by decide +kernel, rfl, by decide⟩
theorem eX10_hasPolynomial_17 : Dc mX10_hasPolynomial 17 (.iconst 1) 1 18 := ⟨by decide +kernel, rfl⟩
theorem eX10_hasPolynomial_18 : Dj mX10_hasPolynomial 18 (.goto) 21 22 := ⟨4, by decide +kernel, rfl, by decide⟩
theorem eX10_hasPolynomial_21 : Dc mX10_hasPolynomial 21 (.iconst 0) 1 22 := ⟨by decide +kernel, rfl⟩
theorem eX10_hasPolynomial_22 : Dc mX10_hasPolynomial 22 (.ireturn) 1 23 := ⟨by decide +kernel, rfl⟩
theorem eX10_lower_0 : Dc mX10_lower 0 (.aload_n 0) 1 1 := ⟨by decide +kernel, rfl⟩
theorem eX10_lower_1 : Dc mX10_lower 1 (.iload_n 1) 1 2 := ⟨by decide +kernel, rfl⟩
theorem eX10_lower_2 : Dc mX10_lower 2 (.invokevirtual 42) 3 5 := ⟨by decide +kernel, rfl⟩
theorem eX10_lower_5 : Dj mX10_lower 5 (.ifCond .eq) 8 17 := ⟨12, by decide +kernel, rfl, by decide⟩
theorem eX10_lower_8 : Dc mX10_lower 8 (.aload_n 0) 1 9 := ⟨by decide +kernel, rfl⟩
theorem eX10_lower_9 : Dc mX10_lower 9 (.getfield 21) 3 12 := ⟨by decide +kernel, rfl⟩
theorem eX10_lower_12 : Dc mX10_lower 12 (.iload_n 1) 1 13 := ⟨by decide +kernel, rfl⟩
theorem eX10_lower_13 : Dc mX10_lower 13 (.iaload) 1 14 := ⟨by decide +kernel, rfl⟩
theorem eX10_lower_14 : Dj mX10_lower 14 (.goto) 17 18 := ⟨4, by decide +kernel, rfl, by decide⟩
theorem eX10_lower_17 : Dc mX10_lower 17 (.iconst 0) 1 18 := ⟨by decide +kernel, rfl⟩
theorem eX10_lower_18 : Dc mX10_lower 18 (.ireturn) 1 19 := ⟨by decide +kernel, rfl⟩
theorem eX10_placeBehind_0 : Dc mX10_placeBehind 0 (.iload_n 1) 1 1 := ⟨by decide +kernel, rfl⟩
theorem eX10_placeBehind_1 : Dj mX10_placeBehind 1 (.ifCond .lt) 4 9 := ⟨8, by decide +kernel, rfl, by decide⟩
theorem eX10_placeBehind_4 : Dc mX10_placeBehind 4 (.iload_n 1) 1 5 := ⟨by decide +kernel, rfl⟩
theorem eX10_placeBehind_5 : Dc mX10_placeBehind 5 (.iconst 3) 1 6 := ⟨by decide +kernel, rfl⟩
theorem eX10_placeBehind_6 : Dj mX10_placeBehind 6 (.if_icmp .lt) 9 11 := ⟨5, by decide +kernel, rfl, by decide⟩
theorem eX10_placeBehind_9 : Dc mX10_placeBehind 9 (.iconst 0) 1 10 := ⟨by decide +kernel, rfl⟩
theorem eX10_placeBehind_10 : Dc mX10_placeBehind 10 (.ireturn) 1 11 := ⟨by decide +kernel, rfl⟩
theorem eX10_placeBehind_11 : Dc mX10_placeBehind 11 (.aload_n 0) 1 12 := ⟨by decide +kernel, rfl⟩
theorem eX10_placeBehind_12 : Dc mX10_placeBehind 12 (.getfield 21) 3 15 := ⟨by decide +kernel, rfl⟩
theorem eX10_placeBehind_15 : Dc mX10_placeBehind 15 (.iload_n 1) 1 16 := ⟨by decide +kernel, rfl⟩
theorem eX10_placeBehind_16 : Dc mX10_placeBehind 16 (.iaload) 1 17 := ⟨by decide +kernel, rfl⟩
theorem eX10_placeBehind_17 : Dc mX10_placeBehind 17 (.bipush 64) 2 19 := ⟨by decide +kernel, rfl⟩
theorem eX10_placeBehind_19 : Dc mX10_placeBehind 19 (.imul) 1 20 := ⟨by decide +kernel, rfl⟩
theorem eX10_placeBehind_20 : Dc mX10_placeBehind 20 (.aload_n 0) 1 21 := ⟨by decide +kernel, rfl⟩
theorem eX10_placeBehind_21 : Dc mX10_placeBehind 21 (.getfield 24) 3 24 := ⟨by decide +kernel, rfl⟩
theorem eX10_placeBehind_24 : Dc mX10_placeBehind 24 (.iload_n 1) 1 25 := ⟨by decide +kernel, rfl⟩
theorem eX10_placeBehind_25 : Dc mX10_placeBehind 25 (.iaload) 1 26 := ⟨by decide +kernel, rfl⟩
theorem eX10_placeBehind_26 : Dc mX10_placeBehind 26 (.aload_n 0) 1 27 := ⟨by decide +kernel, rfl⟩
theorem eX10_placeBehind_27 : Dc mX10_placeBehind 27 (.getfield 21) 3 30 := ⟨by decide +kernel, rfl⟩
theorem eX10_placeBehind_30 : Dc mX10_placeBehind 30 (.iload_n 1) 1 31 := ⟨by decide +kernel, rfl⟩
theorem eX10_placeBehind_31 : Dc mX10_placeBehind 31 (.iaload) 1 32 := ⟨by decide +kernel, rfl⟩
theorem eX10_placeBehind_32 : Dc mX10_placeBehind 32 (.isub) 1 33 := ⟨by decide +kernel, rfl⟩
theorem eX10_placeBehind_33 : Dc mX10_placeBehind 33 (.iload_n 2) 1 34 := ⟨by decide +kernel, rfl⟩
theorem eX10_placeBehind_34 : Dc mX10_placeBehind 34 (.imul) 1 35 := ⟨by decide +kernel, rfl⟩
theorem eX10_placeBehind_35 : Dc mX10_placeBehind 35 (.iadd) 1 36 := ⟨by decide +kernel, rfl⟩
theorem eX10_placeBehind_36 : Dc mX10_placeBehind 36 (.ireturn) 1 37 := ⟨by decide +kernel, rfl⟩
theorem eX10_polynomials_0 : Dc mX10_polynomials 0 (.aload_n 0) 1 1 := ⟨by decide +kernel, rfl⟩
theorem eX10_polynomials_1 : Dc mX10_polynomials 1 (.getfield 27) 3 4 := ⟨by decide +kernel, rfl⟩
theorem eX10_polynomials_4 : Dc mX10_polynomials 4 (.ireturn) 1 5 := ⟨by decide +kernel, rfl⟩
theorem eX10_putBox_0 : Dc mX10_putBox 0 (.aload_n 0) 1 1 := ⟨by decide +kernel, rfl⟩
theorem eX10_putBox_1 : Dc mX10_putBox 1 (.iload_n 1) 1 2 := ⟨by decide +kernel, rfl⟩
theorem eX10_putBox_2 : Dc mX10_putBox 2 (.invokevirtual 42) 3 5 := ⟨by decide +kernel, rfl⟩
theorem eX10_putBox_5 : Dj mX10_putBox 5 (.ifCond .eq) 8 22 := ⟨17, by decide +kernel, rfl, by decide⟩
theorem eX10_putBox_8 : Dc mX10_putBox 8 (.aload_n 0) 1 9 := ⟨by decide +kernel, rfl⟩
theorem eX10_putBox_9 : Dc mX10_putBox 9 (.getfield 21) 3 12 := ⟨by decide +kernel, rfl⟩
theorem eX10_putBox_12 : Dc mX10_putBox 12 (.iload_n 1) 1 13 := ⟨by decide +kernel, rfl⟩
theorem eX10_putBox_13 : Dc mX10_putBox 13 (.iload_n 2) 1 14 := ⟨by decide +kernel, rfl⟩
theorem eX10_putBox_14 : Dc mX10_putBox 14 (.iastore) 1 15 := ⟨by decide +kernel, rfl⟩
theorem eX10_putBox_15 : Dc mX10_putBox 15 (.aload_n 0) 1 16 := ⟨by decide +kernel, rfl⟩
theorem eX10_putBox_16 : Dc mX10_putBox 16 (.getfield 24) 3 19 := ⟨by decide +kernel, rfl⟩
theorem eX10_putBox_19 : Dc mX10_putBox 19 (.iload_n 1) 1 20 := ⟨by decide +kernel, rfl⟩
theorem eX10_putBox_20 : Dc mX10_putBox 20 (.iload_n 3) 1 21 := ⟨by decide +kernel, rfl⟩
theorem eX10_putBox_21 : Dc mX10_putBox 21 (.iastore) 1 22 := ⟨by decide +kernel, rfl⟩
theorem eX10_putBox_22 : Dc mX10_putBox 22 (.return_) 1 23 := ⟨by decide +kernel, rfl⟩
theorem eX10_putCoefficient_0 : Dc mX10_putCoefficient 0 (.aload_n 0) 1 1 := ⟨by decide +kernel, rfl⟩
theorem eX10_putCoefficient_1 : Dc mX10_putCoefficient 1 (.iload_n 1) 1 2 := ⟨by decide +kernel, rfl⟩
theorem eX10_putCoefficient_2 : Dc mX10_putCoefficient 2 (.iload_n 2) 1 3 := ⟨by decide +kernel, rfl⟩
theorem eX10_putCoefficient_3 : Dc mX10_putCoefficient 3 (.invokevirtual 38) 3 6 := ⟨by decide +kernel, rfl⟩
theorem eX10_putCoefficient_6 : Dj mX10_putCoefficient 6 (.ifCond .eq) 9 21 := ⟨15, by decide +kernel, rfl, by decide⟩
theorem eX10_putCoefficient_9 : Dc mX10_putCoefficient 9 (.aload_n 0) 1 10 := ⟨by decide +kernel, rfl⟩
theorem eX10_putCoefficient_10 : Dc mX10_putCoefficient 10 (.getfield 15) 3 13 := ⟨by decide +kernel, rfl⟩
theorem eX10_putCoefficient_13 : Dc mX10_putCoefficient 13 (.iload_n 1) 1 14 := ⟨by decide +kernel, rfl⟩
theorem eX10_putCoefficient_14 : Dc mX10_putCoefficient 14 (.bipush 6) 2 16 := ⟨by decide +kernel, rfl⟩
theorem eX10_putCoefficient_16 : Dc mX10_putCoefficient 16 (.imul) 1 17 := ⟨by decide +kernel, rfl⟩
theorem eX10_putCoefficient_17 : Dc mX10_putCoefficient 17 (.iload_n 2) 1 18 := ⟨by decide +kernel, rfl⟩
theorem eX10_putCoefficient_18 : Dc mX10_putCoefficient 18 (.iadd) 1 19 := ⟨by decide +kernel, rfl⟩
theorem eX10_putCoefficient_19 : Dc mX10_putCoefficient 19 (.iload_n 3) 1 20 := ⟨by decide +kernel, rfl⟩
theorem eX10_putCoefficient_20 : Dc mX10_putCoefficient 20 (.iastore) 1 21 := ⟨by decide +kernel, rfl⟩
theorem eX10_putCoefficient_21 : Dc mX10_putCoefficient 21 (.return_) 1 22 := ⟨by decide +kernel, rfl⟩
theorem eX10_upper_0 : Dc mX10_upper 0 (.aload_n 0) 1 1 := ⟨by decide +kernel, rfl⟩
theorem eX10_upper_1 : Dc mX10_upper 1 (.iload_n 1) 1 2 := ⟨by decide +kernel, rfl⟩
theorem eX10_upper_2 : Dc mX10_upper 2 (.invokevirtual 42) 3 5 := ⟨by decide +kernel, rfl⟩
theorem eX10_upper_5 : Dj mX10_upper 5 (.ifCond .eq) 8 17 := ⟨12, by decide +kernel, rfl, by decide⟩
theorem eX10_upper_8 : Dc mX10_upper 8 (.aload_n 0) 1 9 := ⟨by decide +kernel, rfl⟩
theorem eX10_upper_9 : Dc mX10_upper 9 (.getfield 24) 3 12 := ⟨by decide +kernel, rfl⟩
theorem eX10_upper_12 : Dc mX10_upper 12 (.iload_n 1) 1 13 := ⟨by decide +kernel, rfl⟩
theorem eX10_upper_13 : Dc mX10_upper 13 (.iaload) 1 14 := ⟨by decide +kernel, rfl⟩
theorem eX10_upper_14 : Dj mX10_upper 14 (.goto) 17 18 := ⟨4, by decide +kernel, rfl, by decide⟩
theorem eX10_upper_17 : Dc mX10_upper 17 (.iconst 0) 1 18 := ⟨by decide +kernel, rfl⟩
theorem eX10_upper_18 : Dc mX10_upper 18 (.ireturn) 1 19 := ⟨by decide +kernel, rfl⟩
theorem eX10_want_0 : Dc mX10_want 0 (.aload_n 0) 1 1 := ⟨by decide +kernel, rfl⟩
theorem eX10_want_1 : Dc mX10_want 1 (.iload_n 1) 1 2 := ⟨by decide +kernel, rfl⟩
theorem eX10_want_2 : Dc mX10_want 2 (.invokevirtual 34) 3 5 := ⟨by decide +kernel, rfl⟩
theorem eX10_want_5 : Dj mX10_want 5 (.ifCond .eq) 8 15 := ⟨10, by decide +kernel, rfl, by decide⟩
theorem eX10_want_8 : Dc mX10_want 8 (.aload_n 0) 1 9 := ⟨by decide +kernel, rfl⟩
theorem eX10_want_9 : Dc mX10_want 9 (.getfield 18) 3 12 := ⟨by decide +kernel, rfl⟩
theorem eX10_want_12 : Dc mX10_want 12 (.iload_n 1) 1 13 := ⟨by decide +kernel, rfl⟩
theorem eX10_want_13 : Dc mX10_want 13 (.iload_n 2) 1 14 := ⟨by decide +kernel, rfl⟩
theorem eX10_want_14 : Dc mX10_want 14 (.iastore) 1 15 := ⟨by decide +kernel, rfl⟩
theorem eX10_want_15 : Dc mX10_want 15 (.return_) 1 16 := ⟨by decide +kernel, rfl⟩
theorem eX10_wanted_0 : Dc mX10_wanted 0 (.aload_n 0) 1 1 := ⟨by decide +kernel, rfl⟩
theorem eX10_wanted_1 : Dc mX10_wanted 1 (.iload_n 1) 1 2 := ⟨by decide +kernel, rfl⟩
theorem eX10_wanted_2 : Dc mX10_wanted 2 (.invokevirtual 34) 3 5 := ⟨by decide +kernel, rfl⟩
theorem eX10_wanted_5 : Dj mX10_wanted 5 (.ifCond .eq) 8 17 := ⟨12, by decide +kernel, rfl, by decide⟩
theorem eX10_wanted_8 : Dc mX10_wanted 8 (.aload_n 0) 1 9 := ⟨by decide +kernel, rfl⟩
theorem eX10_wanted_9 : Dc mX10_wanted 9 (.getfield 18) 3 12 := ⟨by decide +kernel, rfl⟩
theorem eX10_wanted_12 : Dc mX10_wanted 12 (.iload_n 1) 1 13 := ⟨by decide +kernel, rfl⟩
theorem eX10_wanted_13 : Dc mX10_wanted 13 (.iaload) 1 14 := ⟨by decide +kernel, rfl⟩
theorem eX10_wanted_14 : Dj mX10_wanted 14 (.goto) 17 18 := ⟨4, by decide +kernel, rfl, by decide⟩
theorem eX10_wanted_17 : Dc mX10_wanted 17 (.iconst 0) 1 18 := ⟨by decide +kernel, rfl⟩
theorem eX10_wanted_18 : Dc mX10_wanted 18 (.ireturn) 1 19 := ⟨by decide +kernel, rfl⟩
theorem eX11_back_0 : Dc mX11_back 0 (.aload_n 0) 1 1 := ⟨by decide +kernel, rfl⟩
theorem eX11_back_1 : Dc mX11_back 1 (.iload_n 1) 1 2 := ⟨by decide +kernel, rfl⟩
theorem eX11_back_2 : Dc mX11_back 2 (.invokevirtual 300) 3 5 := ⟨by decide +kernel, rfl⟩
theorem eX11_back_5 : Dj mX11_back 5 (.ifCond .ne) 8 10 := ⟨5, by decide +kernel, rfl, by decide⟩
theorem eX11_back_8 : Dc mX11_back 8 (.iconst (-1)) 1 9 := ⟨by decide +kernel, rfl⟩
theorem eX11_back_9 : Dc mX11_back 9 (.ireturn) 1 10 := ⟨by decide +kernel, rfl⟩
theorem eX11_back_10 : Dc mX11_back 10 (.aload_n 0) 1 11 := ⟨by decide +kernel, rfl⟩
theorem eX11_back_11 : Dc mX11_back 11 (.getfield 127) 3 14 := ⟨by decide +kernel, rfl⟩
theorem eX11_back_14 : Dc mX11_back 14 (.iload_n 1) 1 15 := ⟨by decide +kernel, rfl⟩
theorem eX11_back_15 : Dc mX11_back 15 (.ishr) 1 16 := ⟨by decide +kernel, rfl⟩
theorem eX11_back_16 : Dc mX11_back 16 (.iconst 1) 1 17 := ⟨by decide +kernel, rfl⟩
theorem eX11_back_17 : Dc mX11_back 17 (.iand) 1 18 := ⟨by decide +kernel, rfl⟩
theorem eX11_back_18 : Dj mX11_back 18 (.ifCond .ne) 21 24 := ⟨6, by decide +kernel, rfl, by decide⟩
theorem eX11_back_21 : Dc mX11_back 21 (.bipush (-2)) 2 23 := ⟨by decide +kernel, rfl⟩
theorem eX11_back_23 : Dc mX11_back 23 (.ireturn) 1 24 := ⟨by decide +kernel, rfl⟩
theorem eX11_back_24 : Dc mX11_back 24 (.aload_n 0) 1 25 := ⟨by decide +kernel, rfl⟩
theorem eX11_back_25 : Dc mX11_back 25 (.getfield 19) 3 28 := ⟨by decide +kernel, rfl⟩
theorem eX11_back_28 : Dc mX11_back 28 (.aload_n 0) 1 29 := ⟨by decide +kernel, rfl⟩
theorem eX11_back_29 : Dc mX11_back 29 (.getfield 39) 3 32 := ⟨by decide +kernel, rfl⟩
theorem eX11_back_32 : Dc mX11_back 32 (.iload_n 1) 1 33 := ⟨by decide +kernel, rfl⟩
theorem eX11_back_33 : Dc mX11_back 33 (.aaload) 1 34 := ⟨by decide +kernel, rfl⟩
theorem eX11_back_34 : Dc mX11_back 34 (.invokevirtual 119) 3 37 := ⟨by decide +kernel, rfl⟩
theorem eX11_back_37 : Dc mX11_back 37 (.aload_n 0) 1 38 := ⟨by decide +kernel, rfl⟩
theorem eX11_back_38 : Dc mX11_back 38 (.getfield 35) 3 41 := ⟨by decide +kernel, rfl⟩
theorem eX11_back_41 : Dc mX11_back 41 (.invokevirtual 126) 3 44 := ⟨by decide +kernel, rfl⟩
theorem eX11_back_44 : Dc mX11_back 44 (.aload_n 0) 1 45 := ⟨by decide +kernel, rfl⟩
theorem eX11_back_45 : Dc mX11_back 45 (.getfield 19) 3 48 := ⟨by decide +kernel, rfl⟩
theorem eX11_back_48 : Dc mX11_back 48 (.invokevirtual 132) 3 51 := ⟨by decide +kernel, rfl⟩
theorem eX11_back_51 : Dc mX11_back 51 (.ireturn) 1 52 := ⟨by decide +kernel, rfl⟩
theorem eX11_behind_0 : Dc mX11_behind 0 (.iload_n 0) 1 1 := ⟨by decide +kernel, rfl⟩
theorem eX11_behind_1 : Dc mX11_behind 1 (.istore_n 1) 1 2 := ⟨by decide +kernel, rfl⟩
theorem eX11_behind_2 : Dc mX11_behind 2 (.iload_n 1) 1 3 := ⟨by decide +kernel, rfl⟩
theorem eX11_behind_3 : Dj mX11_behind 3 (.ifCond .le) 6 20 := ⟨17, by decide +kernel, rfl, by decide⟩
theorem eX11_behind_6 : Dc mX11_behind 6 (.iload_n 1) 1 7 := ⟨by decide +kernel, rfl⟩
theorem eX11_behind_7 : Dc mX11_behind 7 (.iconst 2) 1 8 := ⟨by decide +kernel, rfl⟩
theorem eX11_behind_8 : Dc mX11_behind 8 (.irem) 1 9 := ⟨by decide +kernel, rfl⟩
theorem eX11_behind_9 : Dc mX11_behind 9 (.iconst 1) 1 10 := ⟨by decide +kernel, rfl⟩
theorem eX11_behind_10 : Dj mX11_behind 10 (.if_icmp .ne) 13 20 := ⟨10, by decide +kernel, rfl, by decide⟩
theorem eX11_behind_13 : Dc mX11_behind 13 (.iload_n 1) 1 14 := ⟨by decide +kernel, rfl⟩
theorem eX11_behind_14 : Dc mX11_behind 14 (.iconst 2) 1 15 := ⟨by decide +kernel, rfl⟩
theorem eX11_behind_15 : Dc mX11_behind 15 (.idiv) 1 16 := ⟨by decide +kernel, rfl⟩
theorem eX11_behind_16 : Dc mX11_behind 16 (.istore_n 1) 1 17 := ⟨by decide +kernel, rfl⟩
theorem eX11_behind_17 : Dj mX11_behind 17 (.goto) 20 2 := ⟨-15, by decide +kernel, rfl, by decide⟩
theorem eX11_behind_20 : Dc mX11_behind 20 (.iload_n 1) 1 21 := ⟨by decide +kernel, rfl⟩
theorem eX11_behind_21 : Dj mX11_behind 21 (.ifCond .le) 24 30 := ⟨9, by decide +kernel, rfl, by decide⟩
theorem eX11_behind_24 : Dc mX11_behind 24 (.iload_n 1) 1 25 := ⟨by decide +kernel, rfl⟩
theorem eX11_behind_25 : Dc mX11_behind 25 (.iconst 1) 1 26 := ⟨by decide +kernel, rfl⟩
theorem eX11_behind_26 : Dc mX11_behind 26 (.iadd) 1 27 := ⟨by decide +kernel, rfl⟩
theorem eX11_behind_27 : Dj mX11_behind 27 (.goto) 30 31 := ⟨4, by decide +kernel, rfl, by decide⟩
theorem eX11_behind_30 : Dc mX11_behind 30 (.iconst 0) 1 31 := ⟨by decide +kernel, rfl⟩
theorem eX11_behind_31 : Dc mX11_behind 31 (.ireturn) 1 32 := ⟨by decide +kernel, rfl⟩
theorem eX11_box_0 : Dc mX11_box 0 (.aload_n 0) 1 1 := ⟨by decide +kernel, rfl⟩
theorem eX11_box_1 : Dc mX11_box 1 (.getfield 19) 3 4 := ⟨by decide +kernel, rfl⟩
theorem eX11_box_4 : Dc mX11_box 4 (.iload_n 1) 1 5 := ⟨by decide +kernel, rfl⟩
theorem eX11_box_5 : Dc mX11_box 5 (.invokevirtual 142) 3 8 := ⟨by decide +kernel, rfl⟩
theorem eX11_box_8 : Dj mX11_box 8 (.ifCond .eq) 11 20 := ⟨12, by decide +kernel, rfl, by decide⟩
theorem eX11_box_11 : Dc mX11_box 11 (.iload_n 2) 1 12 := ⟨by decide +kernel, rfl⟩
theorem eX11_box_12 : Dc mX11_box 12 (.iconst 0) 1 13 := ⟨by decide +kernel, rfl⟩
theorem eX11_box_13 : Dc mX11_box 13 (.iconst 1) 1 14 := ⟨by decide +kernel, rfl⟩
theorem eX11_box_14 : Dc mX11_box 14 (.invokestatic 92) 3 17 := ⟨by decide +kernel, rfl⟩
theorem eX11_box_17 : Dj mX11_box 17 (.ifCond .ne) 20 24 := ⟨7, by decide +kernel, rfl, by decide⟩
theorem eX11_box_20 : Dc mX11_box 20 (.ldc2_w 153) 3 23 := ⟨by decide +kernel, rfl⟩
theorem eX11_box_23 : Dc mX11_box 23 (.lreturn) 1 24 := ⟨by decide +kernel, rfl⟩
theorem eX11_box_24 : Dc mX11_box 24 (.iload_n 2) 1 25 := ⟨by decide +kernel, rfl⟩
theorem eX11_box_25 : Dj mX11_box 25 (.ifCond .ne) 28 40 := ⟨15, by decide +kernel, rfl, by decide⟩
theorem eX11_box_28 : Dc mX11_box 28 (.aload_n 0) 1 29 := ⟨by decide +kernel, rfl⟩
theorem eX11_box_29 : Dc mX11_box 29 (.getfield 19) 3 32 := ⟨by decide +kernel, rfl⟩
theorem eX11_box_32 : Dc mX11_box 32 (.iload_n 1) 1 33 := ⟨by decide +kernel, rfl⟩
theorem eX11_box_33 : Dc mX11_box 33 (.invokevirtual 155) 3 36 := ⟨by decide +kernel, rfl⟩
theorem eX11_box_36 : Dc mX11_box 36 (.i2l) 1 37 := ⟨by decide +kernel, rfl⟩
theorem eX11_box_37 : Dj mX11_box 37 (.goto) 40 49 := ⟨12, by decide +kernel, rfl, by decide⟩
theorem eX11_box_40 : Dc mX11_box 40 (.aload_n 0) 1 41 := ⟨by decide +kernel, rfl⟩
theorem eX11_box_41 : Dc mX11_box 41 (.getfield 19) 3 44 := ⟨by decide +kernel, rfl⟩
theorem eX11_box_44 : Dc mX11_box 44 (.iload_n 1) 1 45 := ⟨by decide +kernel, rfl⟩
theorem eX11_box_45 : Dc mX11_box 45 (.invokevirtual 159) 3 48 := ⟨by decide +kernel, rfl⟩
theorem eX11_box_48 : Dc mX11_box 48 (.i2l) 1 49 := ⟨by decide +kernel, rfl⟩
theorem eX11_box_49 : Dc mX11_box 49 (.lreturn) 1 50 := ⟨by decide +kernel, rfl⟩
theorem eX11_bracket_0 : Dc mX11_bracket 0 (.iload_n 1) 1 1 := ⟨by decide +kernel, rfl⟩
theorem eX11_bracket_1 : Dj mX11_bracket 1 (.ifCond .lt) 4 13 := ⟨12, by decide +kernel, rfl, by decide⟩
theorem eX11_bracket_4 : Dc mX11_bracket 4 (.iload_n 2) 1 5 := ⟨by decide +kernel, rfl⟩
theorem eX11_bracket_5 : Dc mX11_bracket 5 (.iconst 0) 1 6 := ⟨by decide +kernel, rfl⟩
theorem eX11_bracket_6 : Dc mX11_bracket 6 (.iconst 1) 1 7 := ⟨by decide +kernel, rfl⟩
theorem eX11_bracket_7 : Dc mX11_bracket 7 (.invokestatic 92) 3 10 := ⟨by decide +kernel, rfl⟩
theorem eX11_bracket_10 : Dj mX11_bracket 10 (.ifCond .ne) 13 15 := ⟨5, by decide +kernel, rfl, by decide⟩
theorem eX11_bracket_13 : Dc mX11_bracket 13 (.iconst (-1)) 1 14 := ⟨by decide +kernel, rfl⟩
theorem eX11_bracket_14 : Dc mX11_bracket 14 (.ireturn) 1 15 := ⟨by decide +kernel, rfl⟩
theorem eX11_bracket_15 : Dc mX11_bracket 15 (.aload_n 0) 1 16 := ⟨by decide +kernel, rfl⟩
theorem eX11_bracket_16 : Dc mX11_bracket 16 (.getfield 28) 3 19 := ⟨by decide +kernel, rfl⟩
theorem eX11_bracket_19 : Dc mX11_bracket 19 (.invokevirtual 201) 3 22 := ⟨by decide +kernel, rfl⟩
theorem eX11_bracket_22 : Dj mX11_bracket 22 (.ifCond .ne) 25 28 := ⟨6, by decide +kernel, rfl, by decide⟩
theorem eX11_bracket_25 : Dc mX11_bracket 25 (.bipush (-2)) 2 27 := ⟨by decide +kernel, rfl⟩
theorem eX11_bracket_27 : Dc mX11_bracket 27 (.ireturn) 1 28 := ⟨by decide +kernel, rfl⟩
theorem eX11_bracket_28 : Dc mX11_bracket 28 (.aload_n 0) 1 29 := ⟨by decide +kernel, rfl⟩
theorem eX11_bracket_29 : Dc mX11_bracket 29 (.getfield 67) 3 32 := ⟨by decide +kernel, rfl⟩
theorem eX11_bracket_32 : Dc mX11_bracket 32 (.aload_n 0) 1 33 := ⟨by decide +kernel, rfl⟩
theorem eX11_bracket_33 : Dc mX11_bracket 33 (.getfield 28) 3 36 := ⟨by decide +kernel, rfl⟩
theorem eX11_bracket_36 : Dc mX11_bracket 36 (.aload_n 0) 1 37 := ⟨by decide +kernel, rfl⟩
theorem eX11_bracket_37 : Dc mX11_bracket 37 (.getfield 60) 3 40 := ⟨by decide +kernel, rfl⟩
theorem eX11_bracket_40 : Dc mX11_bracket 40 (.invokevirtual 243) 3 43 := ⟨by decide +kernel, rfl⟩
theorem eX11_bracket_43 : Dc mX11_bracket 43 (.iload_n 1) 1 44 := ⟨by decide +kernel, rfl⟩
theorem eX11_bracket_44 : Dc mX11_bracket 44 (.aload_n 0) 1 45 := ⟨by decide +kernel, rfl⟩
theorem eX11_bracket_45 : Dc mX11_bracket 45 (.getfield 67) 3 48 := ⟨by decide +kernel, rfl⟩
theorem eX11_bracket_48 : Dc mX11_bracket 48 (.invokevirtual 247) 3 51 := ⟨by decide +kernel, rfl⟩
theorem eX11_bracket_51 : Dj mX11_bracket 51 (.if_icmp .lt) 54 57 := ⟨6, by decide +kernel, rfl, by decide⟩
theorem eX11_bracket_54 : Dc mX11_bracket 54 (.bipush (-9)) 2 56 := ⟨by decide +kernel, rfl⟩
theorem eX11_bracket_56 : Dc mX11_bracket 56 (.ireturn) 1 57 := ⟨by decide +kernel, rfl⟩
theorem eX11_bracket_57 : Dc mX11_bracket 57 (.iload_n 2) 1 58 := ⟨by decide +kernel, rfl⟩
theorem eX11_bracket_58 : Dj mX11_bracket 58 (.ifCond .ne) 61 72 := ⟨14, by decide +kernel, rfl, by decide⟩
theorem eX11_bracket_61 : Dc mX11_bracket 61 (.aload_n 0) 1 62 := ⟨by decide +kernel, rfl⟩
theorem eX11_bracket_62 : Dc mX11_bracket 62 (.getfield 67) 3 65 := ⟨by decide +kernel, rfl⟩
theorem eX11_bracket_65 : Dc mX11_bracket 65 (.iload_n 1) 1 66 := ⟨by decide +kernel, rfl⟩
theorem eX11_bracket_66 : Dc mX11_bracket 66 (.invokevirtual 248) 3 69 := ⟨by decide +kernel, rfl⟩
theorem eX11_bracket_69 : Dj mX11_bracket 69 (.goto) 72 80 := ⟨11, by decide +kernel, rfl, by decide⟩
theorem eX11_bracket_72 : Dc mX11_bracket 72 (.aload_n 0) 1 73 := ⟨by decide +kernel, rfl⟩
theorem eX11_bracket_73 : Dc mX11_bracket 73 (.getfield 67) 3 76 := ⟨by decide +kernel, rfl⟩
theorem eX11_bracket_76 : Dc mX11_bracket 76 (.iload_n 1) 1 77 := ⟨by decide +kernel, rfl⟩
theorem eX11_bracket_77 : Dc mX11_bracket 77 (.invokevirtual 251) 3 80 := ⟨by decide +kernel, rfl⟩
theorem eX11_bracket_80 : Dc mX11_bracket 80 (.ireturn) 1 81 := ⟨by decide +kernel, rfl⟩
theorem eX11_brackets_0 : Dc mX11_brackets 0 (.aload_n 0) 1 1 := ⟨by decide +kernel, rfl⟩
theorem eX11_brackets_1 : Dc mX11_brackets 1 (.getfield 28) 3 4 := ⟨by decide +kernel, rfl⟩
theorem eX11_brackets_4 : Dc mX11_brackets 4 (.invokevirtual 201) 3 7 := ⟨by decide +kernel, rfl⟩
theorem eX11_brackets_7 : Dj mX11_brackets 7 (.ifCond .ne) 10 13 := ⟨6, by decide +kernel, rfl, by decide⟩
theorem eX11_brackets_10 : Dc mX11_brackets 10 (.bipush (-2)) 2 12 := ⟨by decide +kernel, rfl⟩
theorem eX11_brackets_12 : Dc mX11_brackets 12 (.ireturn) 1 13 := ⟨by decide +kernel, rfl⟩
theorem eX11_brackets_13 : Dc mX11_brackets 13 (.aload_n 0) 1 14 := ⟨by decide +kernel, rfl⟩
theorem eX11_brackets_14 : Dc mX11_brackets 14 (.getfield 67) 3 17 := ⟨by decide +kernel, rfl⟩
theorem eX11_brackets_17 : Dc mX11_brackets 17 (.aload_n 0) 1 18 := ⟨by decide +kernel, rfl⟩
theorem eX11_brackets_18 : Dc mX11_brackets 18 (.getfield 28) 3 21 := ⟨by decide +kernel, rfl⟩
theorem eX11_brackets_21 : Dc mX11_brackets 21 (.aload_n 0) 1 22 := ⟨by decide +kernel, rfl⟩
theorem eX11_brackets_22 : Dc mX11_brackets 22 (.getfield 60) 3 25 := ⟨by decide +kernel, rfl⟩
theorem eX11_brackets_25 : Dc mX11_brackets 25 (.invokevirtual 243) 3 28 := ⟨by decide +kernel, rfl⟩
theorem eX11_brackets_28 : Dc mX11_brackets 28 (.aload_n 0) 1 29 := ⟨by decide +kernel, rfl⟩
theorem eX11_brackets_29 : Dc mX11_brackets 29 (.getfield 67) 3 32 := ⟨by decide +kernel, rfl⟩
theorem eX11_brackets_32 : Dc mX11_brackets 32 (.invokevirtual 247) 3 35 := ⟨by decide +kernel, rfl⟩
theorem eX11_brackets_35 : Dc mX11_brackets 35 (.ireturn) 1 36 := ⟨by decide +kernel, rfl⟩
theorem eX11_clear_0 : Dc mX11_clear 0 (.aload_n 0) 1 1 := ⟨by decide +kernel, rfl⟩
theorem eX11_clear_1 : Dc mX11_clear 1 (.getfield 12) 3 4 := ⟨by decide +kernel, rfl⟩
theorem eX11_clear_4 : Dc mX11_clear 4 (.invokevirtual 104) 3 7 := ⟨by decide +kernel, rfl⟩
theorem eX11_clear_7 : Dc mX11_clear 7 (.istore_n 1) 1 8 := ⟨by decide +kernel, rfl⟩
theorem eX11_clear_8 : Dc mX11_clear 8 (.aload_n 0) 1 9 := ⟨by decide +kernel, rfl⟩
theorem eX11_clear_9 : Dc mX11_clear 9 (.getfield 12) 3 12 := ⟨by decide +kernel, rfl⟩
theorem eX11_clear_12 : Dc mX11_clear 12 (.invokevirtual 108) 3 15 := ⟨by decide +kernel, rfl⟩
theorem eX11_clear_15 : Dc mX11_clear 15 (.iload_n 1) 1 16 := ⟨by decide +kernel, rfl⟩
theorem eX11_clear_16 : Dc mX11_clear 16 (.ireturn) 1 17 := ⟨by decide +kernel, rfl⟩
theorem eX11_coef_0 : Dc mX11_coef 0 (.aload_n 0) 1 1 := ⟨by decide +kernel, rfl⟩
theorem eX11_coef_1 : Dc mX11_coef 1 (.getfield 19) 3 4 := ⟨by decide +kernel, rfl⟩
theorem eX11_coef_4 : Dc mX11_coef 4 (.iload_n 1) 1 5 := ⟨by decide +kernel, rfl⟩
theorem eX11_coef_5 : Dc mX11_coef 5 (.iload_n 2) 1 6 := ⟨by decide +kernel, rfl⟩
theorem eX11_coef_6 : Dc mX11_coef 6 (.invokevirtual 145) 3 9 := ⟨by decide +kernel, rfl⟩
theorem eX11_coef_9 : Dj mX11_coef 9 (.ifCond .eq) 12 25 := ⟨16, by decide +kernel, rfl, by decide⟩
theorem eX11_coef_12 : Dc mX11_coef 12 (.aload_n 0) 1 13 := ⟨by decide +kernel, rfl⟩
theorem eX11_coef_13 : Dc mX11_coef 13 (.getfield 19) 3 16 := ⟨by decide +kernel, rfl⟩
theorem eX11_coef_16 : Dc mX11_coef 16 (.iload_n 1) 1 17 := ⟨by decide +kernel, rfl⟩
theorem eX11_coef_17 : Dc mX11_coef 17 (.iload_n 2) 1 18 := ⟨by decide +kernel, rfl⟩
theorem eX11_coef_18 : Dc mX11_coef 18 (.invokevirtual 149) 3 21 := ⟨by decide +kernel, rfl⟩
theorem eX11_coef_21 : Dc mX11_coef 21 (.i2l) 1 22 := ⟨by decide +kernel, rfl⟩
theorem eX11_coef_22 : Dj mX11_coef 22 (.goto) 25 28 := ⟨6, by decide +kernel, rfl, by decide⟩
theorem eX11_coef_25 : Dc mX11_coef 25 (.ldc2_w 153) 3 28 := ⟨by decide +kernel, rfl⟩
theorem eX11_coef_28 : Dc mX11_coef 28 (.lreturn) 1 29 := ⟨by decide +kernel, rfl⟩
theorem eX11_coefs_0 : Dc mX11_coefs 0 (.aload_n 0) 1 1 := ⟨by decide +kernel, rfl⟩
theorem eX11_coefs_1 : Dc mX11_coefs 1 (.getfield 19) 3 4 := ⟨by decide +kernel, rfl⟩
theorem eX11_coefs_4 : Dc mX11_coefs 4 (.iload_n 1) 1 5 := ⟨by decide +kernel, rfl⟩
theorem eX11_coefs_5 : Dc mX11_coefs 5 (.iload_n 2) 1 6 := ⟨by decide +kernel, rfl⟩
theorem eX11_coefs_6 : Dc mX11_coefs 6 (.invokevirtual 145) 3 9 := ⟨by decide +kernel, rfl⟩
theorem eX11_coefs_9 : Dj mX11_coefs 9 (.ifCond .eq) 12 19 := ⟨10, by decide +kernel, rfl, by decide⟩
theorem eX11_coefs_12 : Dc mX11_coefs 12 (.iload_n 3) 1 13 := ⟨by decide +kernel, rfl⟩
theorem eX11_coefs_13 : Dc mX11_coefs 13 (.invokestatic 162) 3 16 := ⟨by decide +kernel, rfl⟩
theorem eX11_coefs_16 : Dj mX11_coefs 16 (.ifCond .ne) 19 21 := ⟨5, by decide +kernel, rfl, by decide⟩
theorem eX11_coefs_19 : Dc mX11_coefs 19 (.iconst (-1)) 1 20 := ⟨by decide +kernel, rfl⟩
theorem eX11_coefs_20 : Dc mX11_coefs 20 (.ireturn) 1 21 := ⟨by decide +kernel, rfl⟩
theorem eX11_coefs_21 : Dc mX11_coefs 21 (.aload_n 0) 1 22 := ⟨by decide +kernel, rfl⟩
theorem eX11_coefs_22 : Dc mX11_coefs 22 (.getfield 19) 3 25 := ⟨by decide +kernel, rfl⟩
theorem eX11_coefs_25 : Dc mX11_coefs 25 (.iload_n 1) 1 26 := ⟨by decide +kernel, rfl⟩
theorem eX11_coefs_26 : Dc mX11_coefs 26 (.iload_n 2) 1 27 := ⟨by decide +kernel, rfl⟩
theorem eX11_coefs_27 : Dc mX11_coefs 27 (.invokevirtual 149) 3 30 := ⟨by decide +kernel, rfl⟩
theorem eX11_coefs_30 : Dc mX11_coefs 30 (.iload_n 3) 1 31 := ⟨by decide +kernel, rfl⟩
theorem eX11_coefs_31 : Dj mX11_coefs 31 (.if_icmp .ne) 34 37 := ⟨6, by decide +kernel, rfl, by decide⟩
theorem eX11_coefs_34 : Dc mX11_coefs 34 (.bipush (-2)) 2 36 := ⟨by decide +kernel, rfl⟩
theorem eX11_coefs_36 : Dc mX11_coefs 36 (.ireturn) 1 37 := ⟨by decide +kernel, rfl⟩
theorem eX11_coefs_37 : Dc mX11_coefs 37 (.aload_n 0) 1 38 := ⟨by decide +kernel, rfl⟩
theorem eX11_coefs_38 : Dc mX11_coefs 38 (.getfield 35) 3 41 := ⟨by decide +kernel, rfl⟩
theorem eX11_coefs_41 : Dc mX11_coefs 41 (.aload_n 0) 1 42 := ⟨by decide +kernel, rfl⟩
theorem eX11_coefs_42 : Dc mX11_coefs 42 (.getfield 19) 3 45 := ⟨by decide +kernel, rfl⟩
theorem eX11_coefs_45 : Dc mX11_coefs 45 (.iload_n 1) 1 46 := ⟨by decide +kernel, rfl⟩
theorem eX11_coefs_46 : Dc mX11_coefs 46 (.iload_n 2) 1 47 := ⟨by decide +kernel, rfl⟩
theorem eX11_coefs_47 : Dc mX11_coefs 47 (.invokevirtual 165) 3 50 := ⟨by decide +kernel, rfl⟩
theorem eX11_coefs_50 : Dc mX11_coefs 50 (.aload_n 0) 1 51 := ⟨by decide +kernel, rfl⟩
theorem eX11_coefs_51 : Dc mX11_coefs 51 (.getfield 19) 3 54 := ⟨by decide +kernel, rfl⟩
theorem eX11_coefs_54 : Dc mX11_coefs 54 (.iload_n 1) 1 55 := ⟨by decide +kernel, rfl⟩
theorem eX11_coefs_55 : Dc mX11_coefs 55 (.iload_n 2) 1 56 := ⟨by decide +kernel, rfl⟩
theorem eX11_coefs_56 : Dc mX11_coefs 56 (.iload_n 3) 1 57 := ⟨by decide +kernel, rfl⟩
theorem eX11_coefs_57 : Dc mX11_coefs 57 (.invokevirtual 169) 3 60 := ⟨by decide +kernel, rfl⟩
theorem eX11_coefs_60 : Dc mX11_coefs 60 (.iconst 1) 1 61 := ⟨by decide +kernel, rfl⟩
theorem eX11_coefs_61 : Dc mX11_coefs 61 (.ireturn) 1 62 := ⟨by decide +kernel, rfl⟩
theorem eX11_commonDivisor_0 : Dc mX11_commonDivisor 0 (.lload_n 0) 1 1 := ⟨by decide +kernel, rfl⟩
theorem eX11_commonDivisor_1 : Dc mX11_commonDivisor 1 (.lstore 4) 2 3 := ⟨by decide +kernel, rfl⟩
theorem eX11_commonDivisor_3 : Dc mX11_commonDivisor 3 (.lload_n 2) 1 4 := ⟨by decide +kernel, rfl⟩
theorem eX11_commonDivisor_4 : Dc mX11_commonDivisor 4 (.lstore 6) 2 6 := ⟨by decide +kernel, rfl⟩
theorem eX11_commonDivisor_6 : Dc mX11_commonDivisor 6 (.iconst 0) 1 7 := ⟨by decide +kernel, rfl⟩
theorem eX11_commonDivisor_7 : Dc mX11_commonDivisor 7 (.istore 8) 2 9 := ⟨by decide +kernel, rfl⟩
theorem eX11_commonDivisor_9 : Dc mX11_commonDivisor 9 (.iload 8) 2 11 := ⟨by decide +kernel, rfl⟩
theorem eX11_commonDivisor_11 : Dc mX11_commonDivisor 11 (.bipush 100) 2 13 := ⟨by decide +kernel, rfl⟩
theorem eX11_commonDivisor_13 : Dj mX11_commonDivisor 13 (.if_icmp .ge) 16 44 := ⟨31, by decide +kernel, rfl, by decide⟩
theorem eX11_commonDivisor_16 : Dc mX11_commonDivisor 16 (.lload 6) 2 18 := ⟨by decide +kernel, rfl⟩
theorem eX11_commonDivisor_18 : Dc mX11_commonDivisor 18 (.lconst 0) 1 19 := ⟨by decide +kernel, rfl⟩
theorem eX11_commonDivisor_19 : Dc mX11_commonDivisor 19 (.lcmp) 1 20 := ⟨by decide +kernel, rfl⟩
theorem eX11_commonDivisor_20 : Dj mX11_commonDivisor 20 (.ifCond .eq) 23 44 := ⟨24, by decide +kernel, rfl, by decide⟩
theorem eX11_commonDivisor_23 : Dc mX11_commonDivisor 23 (.lload 4) 2 25 := ⟨by decide +kernel, rfl⟩
theorem eX11_commonDivisor_25 : Dc mX11_commonDivisor 25 (.lload 6) 2 27 := ⟨by decide +kernel, rfl⟩
theorem eX11_commonDivisor_27 : Dc mX11_commonDivisor 27 (.lrem) 1 28 := ⟨by decide +kernel, rfl⟩
theorem eX11_commonDivisor_28 : Dc mX11_commonDivisor 28 (.lstore 9) 2 30 := ⟨by decide +kernel, rfl⟩
theorem eX11_commonDivisor_30 : Dc mX11_commonDivisor 30 (.lload 6) 2 32 := ⟨by decide +kernel, rfl⟩
theorem eX11_commonDivisor_32 : Dc mX11_commonDivisor 32 (.lstore 4) 2 34 := ⟨by decide +kernel, rfl⟩
theorem eX11_commonDivisor_34 : Dc mX11_commonDivisor 34 (.lload 9) 2 36 := ⟨by decide +kernel, rfl⟩
theorem eX11_commonDivisor_36 : Dc mX11_commonDivisor 36 (.lstore 6) 2 38 := ⟨by decide +kernel, rfl⟩
theorem eX11_commonDivisor_38 : Dc mX11_commonDivisor 38 (.iinc 8 1) 3 41 := ⟨by decide +kernel, rfl⟩
theorem eX11_commonDivisor_41 : Dj mX11_commonDivisor 41 (.goto) 44 9 := ⟨-32, by decide +kernel, rfl, by decide⟩
theorem eX11_commonDivisor_44 : Dc mX11_commonDivisor 44 (.lload 4) 2 46 := ⟨by decide +kernel, rfl⟩
theorem eX11_commonDivisor_46 : Dc mX11_commonDivisor 46 (.lreturn) 1 47 := ⟨by decide +kernel, rfl⟩
theorem eX11_control_0 : Dc mX11_control 0 (.iload_n 1) 1 1 := ⟨by decide +kernel, rfl⟩
theorem eX11_control_1 : Dc mX11_control 1 (.invokestatic 198) 3 4 := ⟨by decide +kernel, rfl⟩
theorem eX11_control_4 : Dj mX11_control 4 (.ifCond .eq) 7 36 := ⟨32, by decide +kernel, rfl, by decide⟩
theorem eX11_control_7 : Dc mX11_control 7 (.iload_n 2) 1 8 := ⟨by decide +kernel, rfl⟩
theorem eX11_control_8 : Dc mX11_control 8 (.iconst 0) 1 9 := ⟨by decide +kernel, rfl⟩
theorem eX11_control_9 : Dc mX11_control 9 (.iconst 2) 1 10 := ⟨by decide +kernel, rfl⟩
theorem eX11_control_10 : Dc mX11_control 10 (.invokestatic 92) 3 13 := ⟨by decide +kernel, rfl⟩
theorem eX11_control_13 : Dj mX11_control 13 (.ifCond .eq) 16 36 := ⟨23, by decide +kernel, rfl, by decide⟩
theorem eX11_control_16 : Dc mX11_control 16 (.iload 4) 2 18 := ⟨by decide +kernel, rfl⟩
theorem eX11_control_18 : Dc mX11_control 18 (.iconst 0) 1 19 := ⟨by decide +kernel, rfl⟩
theorem eX11_control_19 : Dc mX11_control 19 (.iconst 1) 1 20 := ⟨by decide +kernel, rfl⟩
theorem eX11_control_20 : Dc mX11_control 20 (.invokestatic 92) 3 23 := ⟨by decide +kernel, rfl⟩
theorem eX11_control_23 : Dj mX11_control 23 (.ifCond .eq) 26 36 := ⟨13, by decide +kernel, rfl, by decide⟩
theorem eX11_control_26 : Dc mX11_control 26 (.aload_n 0) 1 27 := ⟨by decide +kernel, rfl⟩
theorem eX11_control_27 : Dc mX11_control 27 (.getfield 28) 3 30 := ⟨by decide +kernel, rfl⟩
theorem eX11_control_30 : Dc mX11_control 30 (.invokevirtual 201) 3 33 := ⟨by decide +kernel, rfl⟩
theorem eX11_control_33 : Dj mX11_control 33 (.ifCond .ne) 36 40 := ⟨7, by decide +kernel, rfl, by decide⟩
theorem eX11_control_36 : Dc mX11_control 36 (.ldc2_w 153) 3 39 := ⟨by decide +kernel, rfl⟩
theorem eX11_control_39 : Dc mX11_control 39 (.lreturn) 1 40 := ⟨by decide +kernel, rfl⟩
theorem eX11_control_40 : Dc mX11_control 40 (.iload_n 3) 1 41 := ⟨by decide +kernel, rfl⟩
theorem eX11_control_41 : Dc mX11_control 41 (.iconst 0) 1 42 := ⟨by decide +kernel, rfl⟩
theorem eX11_control_42 : Dc mX11_control 42 (.aload_n 0) 1 43 := ⟨by decide +kernel, rfl⟩
theorem eX11_control_43 : Dc mX11_control 43 (.getfield 19) 3 46 := ⟨by decide +kernel, rfl⟩
theorem eX11_control_46 : Dc mX11_control 46 (.aload_n 0) 1 47 := ⟨by decide +kernel, rfl⟩
theorem eX11_control_47 : Dc mX11_control 47 (.getfield 28) 3 50 := ⟨by decide +kernel, rfl⟩
theorem eX11_control_50 : Dc mX11_control 50 (.invokevirtual 204) 3 53 := ⟨by decide +kernel, rfl⟩
theorem eX11_control_53 : Dc mX11_control 53 (.invokevirtual 207) 3 56 := ⟨by decide +kernel, rfl⟩
theorem eX11_control_56 : Dc mX11_control 56 (.iload_n 2) 1 57 := ⟨by decide +kernel, rfl⟩
theorem eX11_control_57 : Dc mX11_control 57 (.iadd) 1 58 := ⟨by decide +kernel, rfl⟩
theorem eX11_control_58 : Dc mX11_control 58 (.invokestatic 92) 3 61 := ⟨by decide +kernel, rfl⟩
theorem eX11_control_61 : Dj mX11_control 61 (.ifCond .ne) 64 68 := ⟨7, by decide +kernel, rfl, by decide⟩
theorem eX11_control_64 : Dc mX11_control 64 (.ldc2_w 153) 3 67 := ⟨by decide +kernel, rfl⟩
theorem eX11_control_67 : Dc mX11_control 67 (.lreturn) 1 68 := ⟨by decide +kernel, rfl⟩
theorem eX11_control_68 : Dc mX11_control 68 (.aload_n 0) 1 69 := ⟨by decide +kernel, rfl⟩
theorem eX11_control_69 : Dc mX11_control 69 (.getfield 60) 3 72 := ⟨by decide +kernel, rfl⟩
theorem eX11_control_72 : Dc mX11_control 72 (.aload_n 0) 1 73 := ⟨by decide +kernel, rfl⟩
theorem eX11_control_73 : Dc mX11_control 73 (.getfield 28) 3 76 := ⟨by decide +kernel, rfl⟩
theorem eX11_control_76 : Dc mX11_control 76 (.iload_n 1) 1 77 := ⟨by decide +kernel, rfl⟩
theorem eX11_control_77 : Dc mX11_control 77 (.iload_n 2) 1 78 := ⟨by decide +kernel, rfl⟩
theorem eX11_control_78 : Dc mX11_control 78 (.invokevirtual 210) 3 81 := ⟨by decide +kernel, rfl⟩
theorem eX11_control_81 : Dc mX11_control 81 (.aload_n 0) 1 82 := ⟨by decide +kernel, rfl⟩
theorem eX11_control_82 : Dc mX11_control 82 (.getfield 60) 3 85 := ⟨by decide +kernel, rfl⟩
theorem eX11_control_85 : Dc mX11_control 85 (.iload_n 3) 1 86 := ⟨by decide +kernel, rfl⟩
theorem eX11_control_86 : Dc mX11_control 86 (.invokevirtual 214) 3 89 := ⟨by decide +kernel, rfl⟩
theorem eX11_control_89 : Dc mX11_control 89 (.aload_n 0) 1 90 := ⟨by decide +kernel, rfl⟩
theorem eX11_control_90 : Dc mX11_control 90 (.getfield 60) 3 93 := ⟨by decide +kernel, rfl⟩
theorem eX11_control_93 : Dc mX11_control 93 (.iload_n 3) 1 94 := ⟨by decide +kernel, rfl⟩
theorem eX11_control_94 : Dc mX11_control 94 (.invokevirtual 218) 3 97 := ⟨by decide +kernel, rfl⟩
theorem eX11_control_97 : Dc mX11_control 97 (.iload 4) 2 99 := ⟨by decide +kernel, rfl⟩
theorem eX11_control_99 : Dc mX11_control 99 (.invokestatic 221) 3 102 := ⟨by decide +kernel, rfl⟩
theorem eX11_control_102 : Dc mX11_control 102 (.lreturn) 1 103 := ⟨by decide +kernel, rfl⟩
theorem eX11_count_0 : Dc mX11_count 0 (.iload_n 1) 1 1 := ⟨by decide +kernel, rfl⟩
theorem eX11_count_1 : Dc mX11_count 1 (.tableswitch 140 0 7 #[47, 55, 63, 71, 79, 116, 124, 132]) 47 48 := ⟨by decide +kernel, rfl⟩
theorem eX11_count_48 : Dc mX11_count 48 (.aload_n 0) 1 49 := ⟨by decide +kernel, rfl⟩
theorem eX11_count_49 : Dc mX11_count 49 (.getfield 19) 3 52 := ⟨by decide +kernel, rfl⟩
theorem eX11_count_52 : Dc mX11_count 52 (.invokevirtual 132) 3 55 := ⟨by decide +kernel, rfl⟩
theorem eX11_count_55 : Dc mX11_count 55 (.ireturn) 1 56 := ⟨by decide +kernel, rfl⟩
theorem eX11_count_56 : Dc mX11_count 56 (.aload_n 0) 1 57 := ⟨by decide +kernel, rfl⟩
theorem eX11_count_57 : Dc mX11_count 57 (.getfield 19) 3 60 := ⟨by decide +kernel, rfl⟩
theorem eX11_count_60 : Dc mX11_count 60 (.invokevirtual 135) 3 63 := ⟨by decide +kernel, rfl⟩
theorem eX11_count_63 : Dc mX11_count 63 (.ireturn) 1 64 := ⟨by decide +kernel, rfl⟩
theorem eX11_count_64 : Dc mX11_count 64 (.aload_n 0) 1 65 := ⟨by decide +kernel, rfl⟩
theorem eX11_count_65 : Dc mX11_count 65 (.getfield 28) 3 68 := ⟨by decide +kernel, rfl⟩
theorem eX11_count_68 : Dc mX11_count 68 (.invokevirtual 204) 3 71 := ⟨by decide +kernel, rfl⟩
theorem eX11_count_71 : Dc mX11_count 71 (.ireturn) 1 72 := ⟨by decide +kernel, rfl⟩
theorem eX11_count_72 : Dc mX11_count 72 (.aload_n 0) 1 73 := ⟨by decide +kernel, rfl⟩
theorem eX11_count_73 : Dc mX11_count 73 (.getfield 28) 3 76 := ⟨by decide +kernel, rfl⟩
theorem eX11_count_76 : Dc mX11_count 76 (.invokevirtual 303) 3 79 := ⟨by decide +kernel, rfl⟩
theorem eX11_count_79 : Dc mX11_count 79 (.ireturn) 1 80 := ⟨by decide +kernel, rfl⟩
theorem eX11_count_80 : Dc mX11_count 80 (.aload_n 0) 1 81 := ⟨by decide +kernel, rfl⟩
theorem eX11_count_81 : Dc mX11_count 81 (.getfield 19) 3 84 := ⟨by decide +kernel, rfl⟩
theorem eX11_count_84 : Dc mX11_count 84 (.aload_n 0) 1 85 := ⟨by decide +kernel, rfl⟩
theorem eX11_count_85 : Dc mX11_count 85 (.getfield 28) 3 88 := ⟨by decide +kernel, rfl⟩
theorem eX11_count_88 : Dc mX11_count 88 (.invokevirtual 204) 3 91 := ⟨by decide +kernel, rfl⟩
theorem eX11_count_91 : Dc mX11_count 91 (.invokevirtual 138) 3 94 := ⟨by decide +kernel, rfl⟩
theorem eX11_count_94 : Dj mX11_count 94 (.ifCond .eq) 97 114 := ⟨20, by decide +kernel, rfl, by decide⟩
theorem eX11_count_97 : Dc mX11_count 97 (.aload_n 0) 1 98 := ⟨by decide +kernel, rfl⟩
theorem eX11_count_98 : Dc mX11_count 98 (.getfield 19) 3 101 := ⟨by decide +kernel, rfl⟩
theorem eX11_count_101 : Dc mX11_count 101 (.aload_n 0) 1 102 := ⟨by decide +kernel, rfl⟩
theorem eX11_count_102 : Dc mX11_count 102 (.getfield 28) 3 105 := ⟨by decide +kernel, rfl⟩
theorem eX11_count_105 : Dc mX11_count 105 (.invokevirtual 204) 3 108 := ⟨by decide +kernel, rfl⟩
theorem eX11_count_108 : Dc mX11_count 108 (.invokevirtual 207) 3 111 := ⟨by decide +kernel, rfl⟩
theorem eX11_count_111 : Dj mX11_count 111 (.goto) 114 116 := ⟨5, by decide +kernel, rfl, by decide⟩
theorem eX11_count_114 : Dc mX11_count 114 (.bipush (-9)) 2 116 := ⟨by decide +kernel, rfl⟩
theorem eX11_count_116 : Dc mX11_count 116 (.ireturn) 1 117 := ⟨by decide +kernel, rfl⟩
theorem eX11_count_117 : Dc mX11_count 117 (.aload_n 0) 1 118 := ⟨by decide +kernel, rfl⟩
theorem eX11_count_118 : Dc mX11_count 118 (.getfield 46) 3 121 := ⟨by decide +kernel, rfl⟩
theorem eX11_count_121 : Dc mX11_count 121 (.invokevirtual 295) 3 124 := ⟨by decide +kernel, rfl⟩
theorem eX11_count_124 : Dc mX11_count 124 (.ireturn) 1 125 := ⟨by decide +kernel, rfl⟩
theorem eX11_count_125 : Dc mX11_count 125 (.aload_n 0) 1 126 := ⟨by decide +kernel, rfl⟩
theorem eX11_count_126 : Dc mX11_count 126 (.getfield 12) 3 129 := ⟨by decide +kernel, rfl⟩
theorem eX11_count_129 : Dc mX11_count 129 (.invokevirtual 104) 3 132 := ⟨by decide +kernel, rfl⟩
theorem eX11_count_132 : Dc mX11_count 132 (.ireturn) 1 133 := ⟨by decide +kernel, rfl⟩
theorem eX11_count_133 : Dc mX11_count 133 (.aload_n 0) 1 134 := ⟨by decide +kernel, rfl⟩
theorem eX11_count_134 : Dc mX11_count 134 (.getfield 35) 3 137 := ⟨by decide +kernel, rfl⟩
theorem eX11_count_137 : Dc mX11_count 137 (.invokevirtual 192) 3 140 := ⟨by decide +kernel, rfl⟩
theorem eX11_count_140 : Dc mX11_count 140 (.ireturn) 1 141 := ⟨by decide +kernel, rfl⟩
theorem eX11_count_141 : Dc mX11_count 141 (.iconst (-1)) 1 142 := ⟨by decide +kernel, rfl⟩
theorem eX11_count_142 : Dc mX11_count 142 (.ireturn) 1 143 := ⟨by decide +kernel, rfl⟩
theorem eX11_end_0 : Dc mX11_end 0 (.iload_n 1) 1 1 := ⟨by decide +kernel, rfl⟩
theorem eX11_end_1 : Dc mX11_end 1 (.invokestatic 198) 3 4 := ⟨by decide +kernel, rfl⟩
theorem eX11_end_4 : Dj mX11_end 4 (.ifCond .eq) 7 35 := ⟨31, by decide +kernel, rfl, by decide⟩
theorem eX11_end_7 : Dc mX11_end 7 (.iload_n 2) 1 8 := ⟨by decide +kernel, rfl⟩
theorem eX11_end_8 : Dc mX11_end 8 (.iconst 0) 1 9 := ⟨by decide +kernel, rfl⟩
theorem eX11_end_9 : Dc mX11_end 9 (.iconst 1) 1 10 := ⟨by decide +kernel, rfl⟩
theorem eX11_end_10 : Dc mX11_end 10 (.invokestatic 92) 3 13 := ⟨by decide +kernel, rfl⟩
theorem eX11_end_13 : Dj mX11_end 13 (.ifCond .eq) 16 35 := ⟨22, by decide +kernel, rfl, by decide⟩
theorem eX11_end_16 : Dc mX11_end 16 (.iload_n 3) 1 17 := ⟨by decide +kernel, rfl⟩
theorem eX11_end_17 : Dc mX11_end 17 (.iconst 0) 1 18 := ⟨by decide +kernel, rfl⟩
theorem eX11_end_18 : Dc mX11_end 18 (.iconst 1) 1 19 := ⟨by decide +kernel, rfl⟩
theorem eX11_end_19 : Dc mX11_end 19 (.invokestatic 92) 3 22 := ⟨by decide +kernel, rfl⟩
theorem eX11_end_22 : Dj mX11_end 22 (.ifCond .eq) 25 35 := ⟨13, by decide +kernel, rfl, by decide⟩
theorem eX11_end_25 : Dc mX11_end 25 (.aload_n 0) 1 26 := ⟨by decide +kernel, rfl⟩
theorem eX11_end_26 : Dc mX11_end 26 (.getfield 28) 3 29 := ⟨by decide +kernel, rfl⟩
theorem eX11_end_29 : Dc mX11_end 29 (.invokevirtual 201) 3 32 := ⟨by decide +kernel, rfl⟩
theorem eX11_end_32 : Dj mX11_end 32 (.ifCond .ne) 35 39 := ⟨7, by decide +kernel, rfl, by decide⟩
theorem eX11_end_35 : Dc mX11_end 35 (.ldc2_w 153) 3 38 := ⟨by decide +kernel, rfl⟩
theorem eX11_end_38 : Dc mX11_end 38 (.lreturn) 1 39 := ⟨by decide +kernel, rfl⟩
theorem eX11_end_39 : Dc mX11_end 39 (.iload_n 2) 1 40 := ⟨by decide +kernel, rfl⟩
theorem eX11_end_40 : Dj mX11_end 40 (.ifCond .ne) 43 54 := ⟨14, by decide +kernel, rfl, by decide⟩
theorem eX11_end_43 : Dc mX11_end 43 (.aload_n 0) 1 44 := ⟨by decide +kernel, rfl⟩
theorem eX11_end_44 : Dc mX11_end 44 (.getfield 28) 3 47 := ⟨by decide +kernel, rfl⟩
theorem eX11_end_47 : Dc mX11_end 47 (.iload_n 1) 1 48 := ⟨by decide +kernel, rfl⟩
theorem eX11_end_48 : Dc mX11_end 48 (.invokevirtual 228) 3 51 := ⟨by decide +kernel, rfl⟩
theorem eX11_end_51 : Dj mX11_end 51 (.goto) 54 62 := ⟨11, by decide +kernel, rfl, by decide⟩
theorem eX11_end_54 : Dc mX11_end 54 (.aload_n 0) 1 55 := ⟨by decide +kernel, rfl⟩
theorem eX11_end_55 : Dc mX11_end 55 (.getfield 28) 3 58 := ⟨by decide +kernel, rfl⟩
theorem eX11_end_58 : Dc mX11_end 58 (.iload_n 1) 1 59 := ⟨by decide +kernel, rfl⟩
theorem eX11_end_59 : Dc mX11_end 59 (.invokevirtual 231) 3 62 := ⟨by decide +kernel, rfl⟩
theorem eX11_end_62 : Dc mX11_end 62 (.istore 4) 2 64 := ⟨by decide +kernel, rfl⟩
theorem eX11_end_64 : Dc mX11_end 64 (.iload 4) 2 66 := ⟨by decide +kernel, rfl⟩
theorem eX11_end_66 : Dc mX11_end 66 (.i2l) 1 67 := ⟨by decide +kernel, rfl⟩
theorem eX11_end_67 : Dc mX11_end 67 (.ldc2_w 234) 3 70 := ⟨by decide +kernel, rfl⟩
theorem eX11_end_70 : Dc mX11_end 70 (.iload_n 3) 1 71 := ⟨by decide +kernel, rfl⟩
theorem eX11_end_71 : Dc mX11_end 71 (.invokestatic 221) 3 74 := ⟨by decide +kernel, rfl⟩
theorem eX11_end_74 : Dc mX11_end 74 (.lreturn) 1 75 := ⟨by decide +kernel, rfl⟩
theorem eX11_ends_0 : Dc mX11_ends 0 (.aload_n 0) 1 1 := ⟨by decide +kernel, rfl⟩
theorem eX11_ends_1 : Dc mX11_ends 1 (.getfield 19) 3 4 := ⟨by decide +kernel, rfl⟩
theorem eX11_ends_4 : Dc mX11_ends 4 (.iload_n 1) 1 5 := ⟨by decide +kernel, rfl⟩
theorem eX11_ends_5 : Dc mX11_ends 5 (.invokevirtual 142) 3 8 := ⟨by decide +kernel, rfl⟩
theorem eX11_ends_8 : Dj mX11_ends 8 (.ifCond .eq) 11 30 := ⟨22, by decide +kernel, rfl, by decide⟩
theorem eX11_ends_11 : Dc mX11_ends 11 (.iload_n 2) 1 12 := ⟨by decide +kernel, rfl⟩
theorem eX11_ends_12 : Dc mX11_ends 12 (.invokestatic 173) 3 15 := ⟨by decide +kernel, rfl⟩
theorem eX11_ends_15 : Dj mX11_ends 15 (.ifCond .eq) 18 30 := ⟨15, by decide +kernel, rfl, by decide⟩
theorem eX11_ends_18 : Dc mX11_ends 18 (.iload_n 3) 1 19 := ⟨by decide +kernel, rfl⟩
theorem eX11_ends_19 : Dc mX11_ends 19 (.invokestatic 173) 3 22 := ⟨by decide +kernel, rfl⟩
theorem eX11_ends_22 : Dj mX11_ends 22 (.ifCond .eq) 25 30 := ⟨8, by decide +kernel, rfl, by decide⟩
theorem eX11_ends_25 : Dc mX11_ends 25 (.iload_n 2) 1 26 := ⟨by decide +kernel, rfl⟩
theorem eX11_ends_26 : Dc mX11_ends 26 (.iload_n 3) 1 27 := ⟨by decide +kernel, rfl⟩
theorem eX11_ends_27 : Dj mX11_ends 27 (.if_icmp .lt) 30 32 := ⟨5, by decide +kernel, rfl, by decide⟩
theorem eX11_ends_30 : Dc mX11_ends 30 (.iconst (-1)) 1 31 := ⟨by decide +kernel, rfl⟩
theorem eX11_ends_31 : Dc mX11_ends 31 (.ireturn) 1 32 := ⟨by decide +kernel, rfl⟩
theorem eX11_ends_32 : Dc mX11_ends 32 (.aload_n 0) 1 33 := ⟨by decide +kernel, rfl⟩
theorem eX11_ends_33 : Dc mX11_ends 33 (.getfield 19) 3 36 := ⟨by decide +kernel, rfl⟩
theorem eX11_ends_36 : Dc mX11_ends 36 (.iload_n 1) 1 37 := ⟨by decide +kernel, rfl⟩
theorem eX11_ends_37 : Dc mX11_ends 37 (.invokevirtual 155) 3 40 := ⟨by decide +kernel, rfl⟩
theorem eX11_ends_40 : Dc mX11_ends 40 (.iload_n 2) 1 41 := ⟨by decide +kernel, rfl⟩
theorem eX11_ends_41 : Dj mX11_ends 41 (.if_icmp .ne) 44 59 := ⟨18, by decide +kernel, rfl, by decide⟩
theorem eX11_ends_44 : Dc mX11_ends 44 (.aload_n 0) 1 45 := ⟨by decide +kernel, rfl⟩
theorem eX11_ends_45 : Dc mX11_ends 45 (.getfield 19) 3 48 := ⟨by decide +kernel, rfl⟩
theorem eX11_ends_48 : Dc mX11_ends 48 (.iload_n 1) 1 49 := ⟨by decide +kernel, rfl⟩
theorem eX11_ends_49 : Dc mX11_ends 49 (.invokevirtual 159) 3 52 := ⟨by decide +kernel, rfl⟩
theorem eX11_ends_52 : Dc mX11_ends 52 (.iload_n 3) 1 53 := ⟨by decide +kernel, rfl⟩
theorem eX11_ends_53 : Dj mX11_ends 53 (.if_icmp .ne) 56 59 := ⟨6, by decide +kernel, rfl, by decide⟩
theorem eX11_ends_56 : Dc mX11_ends 56 (.bipush (-2)) 2 58 := ⟨by decide +kernel, rfl⟩
theorem eX11_ends_58 : Dc mX11_ends 58 (.ireturn) 1 59 := ⟨by decide +kernel, rfl⟩
theorem eX11_ends_59 : Dc mX11_ends 59 (.aload_n 0) 1 60 := ⟨by decide +kernel, rfl⟩
theorem eX11_ends_60 : Dc mX11_ends 60 (.getfield 35) 3 63 := ⟨by decide +kernel, rfl⟩
theorem eX11_ends_63 : Dc mX11_ends 63 (.aload_n 0) 1 64 := ⟨by decide +kernel, rfl⟩
theorem eX11_ends_64 : Dc mX11_ends 64 (.getfield 19) 3 67 := ⟨by decide +kernel, rfl⟩
theorem eX11_ends_67 : Dc mX11_ends 67 (.iload_n 1) 1 68 := ⟨by decide +kernel, rfl⟩
theorem eX11_ends_68 : Dc mX11_ends 68 (.invokevirtual 176) 3 71 := ⟨by decide +kernel, rfl⟩
theorem eX11_ends_71 : Dc mX11_ends 71 (.aload_n 0) 1 72 := ⟨by decide +kernel, rfl⟩
theorem eX11_ends_72 : Dc mX11_ends 72 (.getfield 19) 3 75 := ⟨by decide +kernel, rfl⟩
theorem eX11_ends_75 : Dc mX11_ends 75 (.iload_n 1) 1 76 := ⟨by decide +kernel, rfl⟩
theorem eX11_ends_76 : Dc mX11_ends 76 (.iload_n 2) 1 77 := ⟨by decide +kernel, rfl⟩
theorem eX11_ends_77 : Dc mX11_ends 77 (.iload_n 3) 1 78 := ⟨by decide +kernel, rfl⟩
theorem eX11_ends_78 : Dc mX11_ends 78 (.invokevirtual 180) 3 81 := ⟨by decide +kernel, rfl⟩
theorem eX11_ends_81 : Dc mX11_ends 81 (.iconst 1) 1 82 := ⟨by decide +kernel, rfl⟩
theorem eX11_ends_82 : Dc mX11_ends 82 (.ireturn) 1 83 := ⟨by decide +kernel, rfl⟩
theorem eX11_first_0 : Dc mX11_first 0 (.aload_n 0) 1 1 := ⟨by decide +kernel, rfl⟩
theorem eX11_first_1 : Dc mX11_first 1 (.getfield 28) 3 4 := ⟨by decide +kernel, rfl⟩
theorem eX11_first_4 : Dc mX11_first 4 (.invokevirtual 281) 3 7 := ⟨by decide +kernel, rfl⟩
theorem eX11_first_7 : Dj mX11_first 7 (.ifCond .eq) 10 28 := ⟨21, by decide +kernel, rfl, by decide⟩
theorem eX11_first_10 : Dc mX11_first 10 (.aload_n 0) 1 11 := ⟨by decide +kernel, rfl⟩
theorem eX11_first_11 : Dc mX11_first 11 (.getfield 88) 3 14 := ⟨by decide +kernel, rfl⟩
theorem eX11_first_14 : Dc mX11_first 14 (.aload_n 0) 1 15 := ⟨by decide +kernel, rfl⟩
theorem eX11_first_15 : Dc mX11_first 15 (.getfield 28) 3 18 := ⟨by decide +kernel, rfl⟩
theorem eX11_first_18 : Dc mX11_first 18 (.aload_n 0) 1 19 := ⟨by decide +kernel, rfl⟩
theorem eX11_first_19 : Dc mX11_first 19 (.getfield 60) 3 22 := ⟨by decide +kernel, rfl⟩
theorem eX11_first_22 : Dc mX11_first 22 (.invokevirtual 289) 3 25 := ⟨by decide +kernel, rfl⟩
theorem eX11_first_25 : Dj mX11_first 25 (.goto) 28 30 := ⟨5, by decide +kernel, rfl, by decide⟩
theorem eX11_first_28 : Dc mX11_first 28 (.bipush (-2)) 2 30 := ⟨by decide +kernel, rfl⟩
theorem eX11_first_30 : Dc mX11_first 30 (.ireturn) 1 31 := ⟨by decide +kernel, rfl⟩
theorem eX11_forget_0 : Dc mX11_forget 0 (.aload_n 0) 1 1 := ⟨by decide +kernel, rfl⟩
theorem eX11_forget_1 : Dc mX11_forget 1 (.getfield 46) 3 4 := ⟨by decide +kernel, rfl⟩
theorem eX11_forget_4 : Dc mX11_forget 4 (.invokevirtual 295) 3 7 := ⟨by decide +kernel, rfl⟩
theorem eX11_forget_7 : Dc mX11_forget 7 (.istore_n 1) 1 8 := ⟨by decide +kernel, rfl⟩
theorem eX11_forget_8 : Dc mX11_forget 8 (.aload_n 0) 1 9 := ⟨by decide +kernel, rfl⟩
theorem eX11_forget_9 : Dc mX11_forget 9 (.getfield 46) 3 12 := ⟨by decide +kernel, rfl⟩
theorem eX11_forget_12 : Dc mX11_forget 12 (.invokevirtual 131) 3 15 := ⟨by decide +kernel, rfl⟩
theorem eX11_forget_15 : Dc mX11_forget 15 (.iload_n 1) 1 16 := ⟨by decide +kernel, rfl⟩
theorem eX11_forget_16 : Dc mX11_forget 16 (.ireturn) 1 17 := ⟨by decide +kernel, rfl⟩
theorem eX11_house_0 : Dc mX11_house 0 (.aload_n 0) 1 1 := ⟨by decide +kernel, rfl⟩
theorem eX11_house_1 : Dc mX11_house 1 (.getfield 53) 3 4 := ⟨by decide +kernel, rfl⟩
theorem eX11_house_4 : Dc mX11_house 4 (.aload_n 0) 1 5 := ⟨by decide +kernel, rfl⟩
theorem eX11_house_5 : Dc mX11_house 5 (.getfield 12) 3 8 := ⟨by decide +kernel, rfl⟩
theorem eX11_house_8 : Dc mX11_house 8 (.invokevirtual 111) 3 11 := ⟨by decide +kernel, rfl⟩
theorem eX11_house_11 : Dc mX11_house 11 (.istore_n 1) 1 12 := ⟨by decide +kernel, rfl⟩
theorem eX11_house_12 : Dc mX11_house 12 (.iload_n 1) 1 13 := ⟨by decide +kernel, rfl⟩
theorem eX11_house_13 : Dc mX11_house 13 (.iconst (-1)) 1 14 := ⟨by decide +kernel, rfl⟩
theorem eX11_house_14 : Dj mX11_house 14 (.if_icmp .eq) 17 22 := ⟨8, by decide +kernel, rfl, by decide⟩
theorem eX11_house_17 : Dc mX11_house 17 (.bipush (-10)) 2 19 := ⟨by decide +kernel, rfl⟩
theorem eX11_house_19 : Dc mX11_house 19 (.iload_n 1) 1 20 := ⟨by decide +kernel, rfl⟩
theorem eX11_house_20 : Dc mX11_house 20 (.isub) 1 21 := ⟨by decide +kernel, rfl⟩
theorem eX11_house_21 : Dc mX11_house 21 (.ireturn) 1 22 := ⟨by decide +kernel, rfl⟩
theorem eX11_house_22 : Dc mX11_house 22 (.aload_n 0) 1 23 := ⟨by decide +kernel, rfl⟩
theorem eX11_house_23 : Dc mX11_house 23 (.getfield 19) 3 26 := ⟨by decide +kernel, rfl⟩
theorem eX11_house_26 : Dc mX11_house 26 (.aload_n 0) 1 27 := ⟨by decide +kernel, rfl⟩
theorem eX11_house_27 : Dc mX11_house 27 (.getfield 53) 3 30 := ⟨by decide +kernel, rfl⟩
theorem eX11_house_30 : Dc mX11_house 30 (.invokevirtual 115) 3 33 := ⟨by decide +kernel, rfl⟩
theorem eX11_house_33 : Dc mX11_house 33 (.invokevirtual 119) 3 36 := ⟨by decide +kernel, rfl⟩
theorem eX11_house_36 : Dc mX11_house 36 (.aload_n 0) 1 37 := ⟨by decide +kernel, rfl⟩
theorem eX11_house_37 : Dc mX11_house 37 (.getfield 12) 3 40 := ⟨by decide +kernel, rfl⟩
theorem eX11_house_40 : Dc mX11_house 40 (.invokevirtual 108) 3 43 := ⟨by decide +kernel, rfl⟩
theorem eX11_house_43 : Dc mX11_house 43 (.aload_n 0) 1 44 := ⟨by decide +kernel, rfl⟩
theorem eX11_house_44 : Dc mX11_house 44 (.getfield 28) 3 47 := ⟨by decide +kernel, rfl⟩
theorem eX11_house_47 : Dc mX11_house 47 (.iconst 0) 1 48 := ⟨by decide +kernel, rfl⟩
theorem eX11_house_48 : Dc mX11_house 48 (.iconst 0) 1 49 := ⟨by decide +kernel, rfl⟩
theorem eX11_house_49 : Dc mX11_house 49 (.invokevirtual 122) 3 52 := ⟨by decide +kernel, rfl⟩
theorem eX11_house_52 : Dc mX11_house 52 (.aload_n 0) 1 53 := ⟨by decide +kernel, rfl⟩
theorem eX11_house_53 : Dc mX11_house 53 (.getfield 35) 3 56 := ⟨by decide +kernel, rfl⟩
theorem eX11_house_56 : Dc mX11_house 56 (.invokevirtual 126) 3 59 := ⟨by decide +kernel, rfl⟩
theorem eX11_house_59 : Dc mX11_house 59 (.aload_n 0) 1 60 := ⟨by decide +kernel, rfl⟩
theorem eX11_house_60 : Dc mX11_house 60 (.iconst 0) 1 61 := ⟨by decide +kernel, rfl⟩
theorem eX11_house_61 : Dc mX11_house 61 (.putfield 127) 3 64 := ⟨by decide +kernel, rfl⟩
theorem eX11_house_64 : Dc mX11_house 64 (.aload_n 0) 1 65 := ⟨by decide +kernel, rfl⟩
theorem eX11_house_65 : Dc mX11_house 65 (.getfield 46) 3 68 := ⟨by decide +kernel, rfl⟩
theorem eX11_house_68 : Dc mX11_house 68 (.invokevirtual 131) 3 71 := ⟨by decide +kernel, rfl⟩
theorem eX11_house_71 : Dc mX11_house 71 (.aload_n 0) 1 72 := ⟨by decide +kernel, rfl⟩
theorem eX11_house_72 : Dc mX11_house 72 (.getfield 19) 3 75 := ⟨by decide +kernel, rfl⟩
theorem eX11_house_75 : Dc mX11_house 75 (.invokevirtual 132) 3 78 := ⟨by decide +kernel, rfl⟩
theorem eX11_house_78 : Dc mX11_house 78 (.aload_n 0) 1 79 := ⟨by decide +kernel, rfl⟩
theorem eX11_house_79 : Dc mX11_house 79 (.getfield 19) 3 82 := ⟨by decide +kernel, rfl⟩
theorem eX11_house_82 : Dc mX11_house 82 (.invokevirtual 135) 3 85 := ⟨by decide +kernel, rfl⟩
theorem eX11_house_85 : Dc mX11_house 85 (.iadd) 1 86 := ⟨by decide +kernel, rfl⟩
theorem eX11_house_86 : Dc mX11_house 86 (.ireturn) 1 87 := ⟨by decide +kernel, rfl⟩
theorem eX11_isCoefficient_0 : Dc mX11_isCoefficient 0 (.iload_n 0) 1 1 := ⟨by decide +kernel, rfl⟩
theorem eX11_isCoefficient_1 : Dc mX11_isCoefficient 1 (.bipush (-50)) 2 3 := ⟨by decide +kernel, rfl⟩
theorem eX11_isCoefficient_3 : Dc mX11_isCoefficient 3 (.bipush 50) 2 5 := ⟨by decide +kernel, rfl⟩
theorem eX11_isCoefficient_5 : Dc mX11_isCoefficient 5 (.invokestatic 92) 3 8 := ⟨by decide +kernel, rfl⟩
theorem eX11_isCoefficient_8 : Dc mX11_isCoefficient 8 (.ireturn) 1 9 := ⟨by decide +kernel, rfl⟩
theorem eX11_isImage_0 : Dc mX11_isImage 0 (.iload_n 1) 1 1 := ⟨by decide +kernel, rfl⟩
theorem eX11_isImage_1 : Dj mX11_isImage 1 (.ifCond .lt) 4 17 := ⟨16, by decide +kernel, rfl, by decide⟩
theorem eX11_isImage_4 : Dc mX11_isImage 4 (.iload_n 1) 1 5 := ⟨by decide +kernel, rfl⟩
theorem eX11_isImage_5 : Dc mX11_isImage 5 (.aload_n 0) 1 6 := ⟨by decide +kernel, rfl⟩
theorem eX11_isImage_6 : Dc mX11_isImage 6 (.getfield 39) 3 9 := ⟨by decide +kernel, rfl⟩
theorem eX11_isImage_9 : Dc mX11_isImage 9 (.arraylength) 1 10 := ⟨by decide +kernel, rfl⟩
theorem eX11_isImage_10 : Dj mX11_isImage 10 (.if_icmp .ge) 13 17 := ⟨7, by decide +kernel, rfl, by decide⟩
theorem eX11_isImage_13 : Dc mX11_isImage 13 (.iconst 1) 1 14 := ⟨by decide +kernel, rfl⟩
theorem eX11_isImage_14 : Dj mX11_isImage 14 (.goto) 17 18 := ⟨4, by decide +kernel, rfl, by decide⟩
theorem eX11_isImage_17 : Dc mX11_isImage 17 (.iconst 0) 1 18 := ⟨by decide +kernel, rfl⟩
theorem eX11_isImage_18 : Dc mX11_isImage 18 (.ireturn) 1 19 := ⟨by decide +kernel, rfl⟩
theorem eX11_isNode_0 : Dc mX11_isNode 0 (.iload_n 0) 1 1 := ⟨by decide +kernel, rfl⟩
theorem eX11_isNode_1 : Dc mX11_isNode 1 (.iconst 1) 1 2 := ⟨by decide +kernel, rfl⟩
theorem eX11_isNode_2 : Dc mX11_isNode 2 (.bipush 127) 2 4 := ⟨by decide +kernel, rfl⟩
theorem eX11_isNode_4 : Dc mX11_isNode 4 (.invokestatic 92) 3 7 := ⟨by decide +kernel, rfl⟩
theorem eX11_isNode_7 : Dc mX11_isNode 7 (.ireturn) 1 8 := ⟨by decide +kernel, rfl⟩
theorem eX11_isPlace_0 : Dc mX11_isPlace 0 (.iload_n 0) 1 1 := ⟨by decide +kernel, rfl⟩
theorem eX11_isPlace_1 : Dc mX11_isPlace 1 (.bipush (-5)) 2 3 := ⟨by decide +kernel, rfl⟩
theorem eX11_isPlace_3 : Dc mX11_isPlace 3 (.iconst 5) 1 4 := ⟨by decide +kernel, rfl⟩
theorem eX11_isPlace_4 : Dc mX11_isPlace 4 (.invokestatic 92) 3 7 := ⟨by decide +kernel, rfl⟩
theorem eX11_isPlace_7 : Dc mX11_isPlace 7 (.ireturn) 1 8 := ⟨by decide +kernel, rfl⟩
end
section
theorem eX11_isWithin_0 : Dc mX11_isWithin 0 (.iload_n 0) 1 1 := ⟨by decide +kernel, rfl⟩
theorem eX11_isWithin_1 : Dc mX11_isWithin 1 (.iload_n 1) 1 2 := ⟨by decide +kernel, rfl⟩
theorem eX11_isWithin_2 : Dj mX11_isWithin 2 (.if_icmp .lt) 5 14 := ⟨12, by decide +kernel, rfl, by decide⟩
theorem eX11_isWithin_5 : Dc mX11_isWithin 5 (.iload_n 0) 1 6 := ⟨by decide +kernel, rfl⟩
theorem eX11_isWithin_6 : Dc mX11_isWithin 6 (.iload_n 2) 1 7 := ⟨by decide +kernel, rfl⟩
theorem eX11_isWithin_7 : Dj mX11_isWithin 7 (.if_icmp .gt) 10 14 := ⟨7, by decide +kernel, rfl, by decide⟩
theorem eX11_isWithin_10 : Dc mX11_isWithin 10 (.iconst 1) 1 11 := ⟨by decide +kernel, rfl⟩
theorem eX11_isWithin_11 : Dj mX11_isWithin 11 (.goto) 14 15 := ⟨4, by decide +kernel, rfl, by decide⟩
theorem eX11_isWithin_14 : Dc mX11_isWithin 14 (.iconst 0) 1 15 := ⟨by decide +kernel, rfl⟩
theorem eX11_isWithin_15 : Dc mX11_isWithin 15 (.ireturn) 1 16 := ⟨by decide +kernel, rfl⟩
theorem eX11_keep_0 : Dc mX11_keep 0 (.aload_n 0) 1 1 := ⟨by decide +kernel, rfl⟩
theorem eX11_keep_1 : Dc mX11_keep 1 (.iload_n 1) 1 2 := ⟨by decide +kernel, rfl⟩
theorem eX11_keep_2 : Dc mX11_keep 2 (.invokevirtual 300) 3 5 := ⟨by decide +kernel, rfl⟩
theorem eX11_keep_5 : Dj mX11_keep 5 (.ifCond .ne) 8 10 := ⟨5, by decide +kernel, rfl, by decide⟩
theorem eX11_keep_8 : Dc mX11_keep 8 (.iconst (-1)) 1 9 := ⟨by decide +kernel, rfl⟩
theorem eX11_keep_9 : Dc mX11_keep 9 (.ireturn) 1 10 := ⟨by decide +kernel, rfl⟩
theorem eX11_keep_10 : Dc mX11_keep 10 (.aload_n 0) 1 11 := ⟨by decide +kernel, rfl⟩
theorem eX11_keep_11 : Dc mX11_keep 11 (.getfield 39) 3 14 := ⟨by decide +kernel, rfl⟩
theorem eX11_keep_14 : Dc mX11_keep 14 (.iload_n 1) 1 15 := ⟨by decide +kernel, rfl⟩
theorem eX11_keep_15 : Dc mX11_keep 15 (.aaload) 1 16 := ⟨by decide +kernel, rfl⟩
theorem eX11_keep_16 : Dc mX11_keep 16 (.aload_n 0) 1 17 := ⟨by decide +kernel, rfl⟩
theorem eX11_keep_17 : Dc mX11_keep 17 (.getfield 19) 3 20 := ⟨by decide +kernel, rfl⟩
theorem eX11_keep_20 : Dc mX11_keep 20 (.invokevirtual 119) 3 23 := ⟨by decide +kernel, rfl⟩
theorem eX11_keep_23 : Dc mX11_keep 23 (.aload_n 0) 1 24 := ⟨by decide +kernel, rfl⟩
theorem eX11_keep_24 : Dc mX11_keep 24 (.dup) 1 25 := ⟨by decide +kernel, rfl⟩
theorem eX11_keep_25 : Dc mX11_keep 25 (.getfield 127) 3 28 := ⟨by decide +kernel, rfl⟩
theorem eX11_keep_28 : Dc mX11_keep 28 (.iconst 1) 1 29 := ⟨by decide +kernel, rfl⟩
theorem eX11_keep_29 : Dc mX11_keep 29 (.iload_n 1) 1 30 := ⟨by decide +kernel, rfl⟩
theorem eX11_keep_30 : Dc mX11_keep 30 (.ishl) 1 31 := ⟨by decide +kernel, rfl⟩
theorem eX11_keep_31 : Dc mX11_keep 31 (.ior) 1 32 := ⟨by decide +kernel, rfl⟩
theorem eX11_keep_32 : Dc mX11_keep 32 (.putfield 127) 3 35 := ⟨by decide +kernel, rfl⟩
theorem eX11_keep_35 : Dc mX11_keep 35 (.aload_n 0) 1 36 := ⟨by decide +kernel, rfl⟩
theorem eX11_keep_36 : Dc mX11_keep 36 (.getfield 19) 3 39 := ⟨by decide +kernel, rfl⟩
theorem eX11_keep_39 : Dc mX11_keep 39 (.invokevirtual 132) 3 42 := ⟨by decide +kernel, rfl⟩
theorem eX11_keep_42 : Dc mX11_keep 42 (.ireturn) 1 43 := ⟨by decide +kernel, rfl⟩
theorem eX11_makes_0 : Dc mX11_makes 0 (.aload_n 0) 1 1 := ⟨by decide +kernel, rfl⟩
theorem eX11_makes_1 : Dc mX11_makes 1 (.getfield 28) 3 4 := ⟨by decide +kernel, rfl⟩
theorem eX11_makes_4 : Dc mX11_makes 4 (.invokevirtual 201) 3 7 := ⟨by decide +kernel, rfl⟩
theorem eX11_makes_7 : Dj mX11_makes 7 (.ifCond .eq) 10 28 := ⟨21, by decide +kernel, rfl, by decide⟩
theorem eX11_makes_10 : Dc mX11_makes 10 (.aload_n 0) 1 11 := ⟨by decide +kernel, rfl⟩
theorem eX11_makes_11 : Dc mX11_makes 11 (.getfield 74) 3 14 := ⟨by decide +kernel, rfl⟩
theorem eX11_makes_14 : Dc mX11_makes 14 (.aload_n 0) 1 15 := ⟨by decide +kernel, rfl⟩
theorem eX11_makes_15 : Dc mX11_makes 15 (.getfield 28) 3 18 := ⟨by decide +kernel, rfl⟩
theorem eX11_makes_18 : Dc mX11_makes 18 (.aload_n 0) 1 19 := ⟨by decide +kernel, rfl⟩
theorem eX11_makes_19 : Dc mX11_makes 19 (.getfield 60) 3 22 := ⟨by decide +kernel, rfl⟩
theorem eX11_makes_22 : Dc mX11_makes 22 (.invokevirtual 254) 3 25 := ⟨by decide +kernel, rfl⟩
theorem eX11_makes_25 : Dj mX11_makes 25 (.goto) 28 30 := ⟨5, by decide +kernel, rfl, by decide⟩
theorem eX11_makes_28 : Dc mX11_makes 28 (.bipush (-2)) 2 30 := ⟨by decide +kernel, rfl⟩
theorem eX11_makes_30 : Dc mX11_makes 30 (.ireturn) 1 31 := ⟨by decide +kernel, rfl⟩
theorem eX11_narrowed_0 : Dc mX11_narrowed 0 (.iload_n 1) 1 1 := ⟨by decide +kernel, rfl⟩
theorem eX11_narrowed_1 : Dc mX11_narrowed 1 (.iconst 0) 1 2 := ⟨by decide +kernel, rfl⟩
theorem eX11_narrowed_2 : Dc mX11_narrowed 2 (.bipush 20) 2 4 := ⟨by decide +kernel, rfl⟩
theorem eX11_narrowed_4 : Dc mX11_narrowed 4 (.invokestatic 92) 3 7 := ⟨by decide +kernel, rfl⟩
theorem eX11_narrowed_7 : Dj mX11_narrowed 7 (.ifCond .eq) 10 28 := ⟨21, by decide +kernel, rfl, by decide⟩
theorem eX11_narrowed_10 : Dc mX11_narrowed 10 (.iload_n 2) 1 11 := ⟨by decide +kernel, rfl⟩
theorem eX11_narrowed_11 : Dc mX11_narrowed 11 (.iconst 0) 1 12 := ⟨by decide +kernel, rfl⟩
theorem eX11_narrowed_12 : Dc mX11_narrowed 12 (.iconst 1) 1 13 := ⟨by decide +kernel, rfl⟩
theorem eX11_narrowed_13 : Dc mX11_narrowed 13 (.invokestatic 92) 3 16 := ⟨by decide +kernel, rfl⟩
theorem eX11_narrowed_16 : Dj mX11_narrowed 16 (.ifCond .eq) 19 28 := ⟨12, by decide +kernel, rfl, by decide⟩
theorem eX11_narrowed_19 : Dc mX11_narrowed 19 (.iload_n 3) 1 20 := ⟨by decide +kernel, rfl⟩
theorem eX11_narrowed_20 : Dc mX11_narrowed 20 (.iconst 0) 1 21 := ⟨by decide +kernel, rfl⟩
theorem eX11_narrowed_21 : Dc mX11_narrowed 21 (.iconst 1) 1 22 := ⟨by decide +kernel, rfl⟩
theorem eX11_narrowed_22 : Dc mX11_narrowed 22 (.invokestatic 92) 3 25 := ⟨by decide +kernel, rfl⟩
theorem eX11_narrowed_25 : Dj mX11_narrowed 25 (.ifCond .ne) 28 32 := ⟨7, by decide +kernel, rfl, by decide⟩
theorem eX11_narrowed_28 : Dc mX11_narrowed 28 (.ldc2_w 153) 3 31 := ⟨by decide +kernel, rfl⟩
theorem eX11_narrowed_31 : Dc mX11_narrowed 31 (.lreturn) 1 32 := ⟨by decide +kernel, rfl⟩
theorem eX11_narrowed_32 : Dc mX11_narrowed 32 (.aload_n 0) 1 33 := ⟨by decide +kernel, rfl⟩
theorem eX11_narrowed_33 : Dc mX11_narrowed 33 (.getfield 28) 3 36 := ⟨by decide +kernel, rfl⟩
theorem eX11_narrowed_36 : Dc mX11_narrowed 36 (.invokevirtual 201) 3 39 := ⟨by decide +kernel, rfl⟩
theorem eX11_narrowed_39 : Dj mX11_narrowed 39 (.ifCond .ne) 42 46 := ⟨7, by decide +kernel, rfl, by decide⟩
theorem eX11_narrowed_42 : Dc mX11_narrowed 42 (.ldc2_w 153) 3 45 := ⟨by decide +kernel, rfl⟩
theorem eX11_narrowed_45 : Dc mX11_narrowed 45 (.lreturn) 1 46 := ⟨by decide +kernel, rfl⟩
theorem eX11_narrowed_46 : Dc mX11_narrowed 46 (.aload_n 0) 1 47 := ⟨by decide +kernel, rfl⟩
theorem eX11_narrowed_47 : Dc mX11_narrowed 47 (.getfield 81) 3 50 := ⟨by decide +kernel, rfl⟩
theorem eX11_narrowed_50 : Dc mX11_narrowed 50 (.aload_n 0) 1 51 := ⟨by decide +kernel, rfl⟩
theorem eX11_narrowed_51 : Dc mX11_narrowed 51 (.getfield 28) 3 54 := ⟨by decide +kernel, rfl⟩
theorem eX11_narrowed_54 : Dc mX11_narrowed 54 (.aload_n 0) 1 55 := ⟨by decide +kernel, rfl⟩
theorem eX11_narrowed_55 : Dc mX11_narrowed 55 (.getfield 60) 3 58 := ⟨by decide +kernel, rfl⟩
theorem eX11_narrowed_58 : Dc mX11_narrowed 58 (.iload_n 1) 1 59 := ⟨by decide +kernel, rfl⟩
theorem eX11_narrowed_59 : Dc mX11_narrowed 59 (.invokevirtual 267) 3 62 := ⟨by decide +kernel, rfl⟩
theorem eX11_narrowed_62 : Dc mX11_narrowed 62 (.iload_n 2) 1 63 := ⟨by decide +kernel, rfl⟩
theorem eX11_narrowed_63 : Dj mX11_narrowed 63 (.ifCond .ne) 66 76 := ⟨13, by decide +kernel, rfl, by decide⟩
theorem eX11_narrowed_66 : Dc mX11_narrowed 66 (.aload_n 0) 1 67 := ⟨by decide +kernel, rfl⟩
theorem eX11_narrowed_67 : Dc mX11_narrowed 67 (.getfield 81) 3 70 := ⟨by decide +kernel, rfl⟩
theorem eX11_narrowed_70 : Dc mX11_narrowed 70 (.invokevirtual 271) 3 73 := ⟨by decide +kernel, rfl⟩
theorem eX11_narrowed_73 : Dj mX11_narrowed 73 (.goto) 76 83 := ⟨10, by decide +kernel, rfl, by decide⟩
theorem eX11_narrowed_76 : Dc mX11_narrowed 76 (.aload_n 0) 1 77 := ⟨by decide +kernel, rfl⟩
theorem eX11_narrowed_77 : Dc mX11_narrowed 77 (.getfield 81) 3 80 := ⟨by decide +kernel, rfl⟩
theorem eX11_narrowed_80 : Dc mX11_narrowed 80 (.invokevirtual 275) 3 83 := ⟨by decide +kernel, rfl⟩
theorem eX11_narrowed_83 : Dc mX11_narrowed 83 (.lstore 4) 2 85 := ⟨by decide +kernel, rfl⟩
theorem eX11_narrowed_85 : Dc mX11_narrowed 85 (.lload 4) 2 87 := ⟨by decide +kernel, rfl⟩
theorem eX11_narrowed_87 : Dc mX11_narrowed 87 (.aload_n 0) 1 88 := ⟨by decide +kernel, rfl⟩
theorem eX11_narrowed_88 : Dc mX11_narrowed 88 (.getfield 60) 3 91 := ⟨by decide +kernel, rfl⟩
theorem eX11_narrowed_91 : Dc mX11_narrowed 91 (.invokevirtual 278) 3 94 := ⟨by decide +kernel, rfl⟩
theorem eX11_narrowed_94 : Dc mX11_narrowed 94 (.iload_n 3) 1 95 := ⟨by decide +kernel, rfl⟩
theorem eX11_narrowed_95 : Dc mX11_narrowed 95 (.invokestatic 221) 3 98 := ⟨by decide +kernel, rfl⟩
theorem eX11_narrowed_98 : Dc mX11_narrowed 98 (.lreturn) 1 99 := ⟨by decide +kernel, rfl⟩
theorem eX11_paper_0 : Dc mX11_paper 0 (.iload_n 1) 1 1 := ⟨by decide +kernel, rfl⟩
theorem eX11_paper_1 : Dj mX11_paper 1 (.ifCond .ge) 4 6 := ⟨5, by decide +kernel, rfl, by decide⟩
theorem eX11_paper_4 : Dc mX11_paper 4 (.iconst (-1)) 1 5 := ⟨by decide +kernel, rfl⟩
theorem eX11_paper_5 : Dc mX11_paper 5 (.ireturn) 1 6 := ⟨by decide +kernel, rfl⟩
theorem eX11_paper_6 : Dc mX11_paper 6 (.aload_n 0) 1 7 := ⟨by decide +kernel, rfl⟩
theorem eX11_paper_7 : Dc mX11_paper 7 (.getfield 28) 3 10 := ⟨by decide +kernel, rfl⟩
theorem eX11_paper_10 : Dc mX11_paper 10 (.invokevirtual 201) 3 13 := ⟨by decide +kernel, rfl⟩
theorem eX11_paper_13 : Dj mX11_paper 13 (.ifCond .ne) 16 19 := ⟨6, by decide +kernel, rfl, by decide⟩
theorem eX11_paper_16 : Dc mX11_paper 16 (.bipush (-2)) 2 18 := ⟨by decide +kernel, rfl⟩
theorem eX11_paper_18 : Dc mX11_paper 18 (.ireturn) 1 19 := ⟨by decide +kernel, rfl⟩
theorem eX11_paper_19 : Dc mX11_paper 19 (.aload_n 0) 1 20 := ⟨by decide +kernel, rfl⟩
theorem eX11_paper_20 : Dc mX11_paper 20 (.getfield 74) 3 23 := ⟨by decide +kernel, rfl⟩
theorem eX11_paper_23 : Dc mX11_paper 23 (.aload_n 0) 1 24 := ⟨by decide +kernel, rfl⟩
theorem eX11_paper_24 : Dc mX11_paper 24 (.getfield 28) 3 27 := ⟨by decide +kernel, rfl⟩
theorem eX11_paper_27 : Dc mX11_paper 27 (.aload_n 0) 1 28 := ⟨by decide +kernel, rfl⟩
theorem eX11_paper_28 : Dc mX11_paper 28 (.getfield 60) 3 31 := ⟨by decide +kernel, rfl⟩
theorem eX11_paper_31 : Dc mX11_paper 31 (.invokevirtual 254) 3 34 := ⟨by decide +kernel, rfl⟩
theorem eX11_paper_34 : Dc mX11_paper 34 (.istore_n 2) 1 35 := ⟨by decide +kernel, rfl⟩
theorem eX11_paper_35 : Dc mX11_paper 35 (.iload_n 1) 1 36 := ⟨by decide +kernel, rfl⟩
theorem eX11_paper_36 : Dc mX11_paper 36 (.iload_n 2) 1 37 := ⟨by decide +kernel, rfl⟩
theorem eX11_paper_37 : Dj mX11_paper 37 (.if_icmp .ge) 40 51 := ⟨14, by decide +kernel, rfl, by decide⟩
theorem eX11_paper_40 : Dc mX11_paper 40 (.aload_n 0) 1 41 := ⟨by decide +kernel, rfl⟩
theorem eX11_paper_41 : Dc mX11_paper 41 (.getfield 74) 3 44 := ⟨by decide +kernel, rfl⟩
theorem eX11_paper_44 : Dc mX11_paper 44 (.iload_n 1) 1 45 := ⟨by decide +kernel, rfl⟩
theorem eX11_paper_45 : Dc mX11_paper 45 (.invokevirtual 258) 3 48 := ⟨by decide +kernel, rfl⟩
theorem eX11_paper_48 : Dj mX11_paper 48 (.goto) 51 53 := ⟨5, by decide +kernel, rfl, by decide⟩
theorem eX11_paper_51 : Dc mX11_paper 51 (.bipush (-9)) 2 53 := ⟨by decide +kernel, rfl⟩
theorem eX11_paper_53 : Dc mX11_paper 53 (.ireturn) 1 54 := ⟨by decide +kernel, rfl⟩
theorem eX11_part_0 : Dc mX11_part 0 (.lload_n 0) 1 1 := ⟨by decide +kernel, rfl⟩
theorem eX11_part_1 : Dc mX11_part 1 (.invokestatic 306) 3 4 := ⟨by decide +kernel, rfl⟩
theorem eX11_part_4 : Dc mX11_part 4 (.lload_n 2) 1 5 := ⟨by decide +kernel, rfl⟩
theorem eX11_part_5 : Dc mX11_part 5 (.invokestatic 312) 3 8 := ⟨by decide +kernel, rfl⟩
theorem eX11_part_8 : Dc mX11_part 8 (.lstore 5) 2 10 := ⟨by decide +kernel, rfl⟩
theorem eX11_part_10 : Dc mX11_part 10 (.lload 5) 2 12 := ⟨by decide +kernel, rfl⟩
theorem eX11_part_12 : Dc mX11_part 12 (.lconst 1) 1 13 := ⟨by decide +kernel, rfl⟩
theorem eX11_part_13 : Dc mX11_part 13 (.lcmp) 1 14 := ⟨by decide +kernel, rfl⟩
theorem eX11_part_14 : Dj mX11_part 14 (.ifCond .ge) 17 21 := ⟨7, by decide +kernel, rfl, by decide⟩
theorem eX11_part_17 : Dc mX11_part 17 (.ldc2_w 153) 3 20 := ⟨by decide +kernel, rfl⟩
theorem eX11_part_20 : Dc mX11_part 20 (.lreturn) 1 21 := ⟨by decide +kernel, rfl⟩
theorem eX11_part_21 : Dc mX11_part 21 (.iload 4) 2 23 := ⟨by decide +kernel, rfl⟩
theorem eX11_part_23 : Dj mX11_part 23 (.ifCond .ne) 26 30 := ⟨7, by decide +kernel, rfl, by decide⟩
theorem eX11_part_26 : Dc mX11_part 26 (.lload_n 0) 1 27 := ⟨by decide +kernel, rfl⟩
theorem eX11_part_27 : Dj mX11_part 27 (.goto) 30 31 := ⟨4, by decide +kernel, rfl, by decide⟩
theorem eX11_part_30 : Dc mX11_part 30 (.lload_n 2) 1 31 := ⟨by decide +kernel, rfl⟩
theorem eX11_part_31 : Dc mX11_part 31 (.lload 5) 2 33 := ⟨by decide +kernel, rfl⟩
theorem eX11_part_33 : Dc mX11_part 33 (.ldiv) 1 34 := ⟨by decide +kernel, rfl⟩
theorem eX11_part_34 : Dc mX11_part 34 (.lreturn) 1 35 := ⟨by decide +kernel, rfl⟩
theorem eX11_partsOf_0 : Dc mX11_partsOf 0 (.bipush 64) 2 2 := ⟨by decide +kernel, rfl⟩
theorem eX11_partsOf_2 : Dc mX11_partsOf 2 (.istore_n 1) 1 3 := ⟨by decide +kernel, rfl⟩
theorem eX11_partsOf_3 : Dc mX11_partsOf 3 (.iload_n 0) 1 4 := ⟨by decide +kernel, rfl⟩
theorem eX11_partsOf_4 : Dc mX11_partsOf 4 (.istore_n 2) 1 5 := ⟨by decide +kernel, rfl⟩
theorem eX11_partsOf_5 : Dc mX11_partsOf 5 (.iload_n 2) 1 6 := ⟨by decide +kernel, rfl⟩
theorem eX11_partsOf_6 : Dc mX11_partsOf 6 (.iconst 1) 1 7 := ⟨by decide +kernel, rfl⟩
theorem eX11_partsOf_7 : Dj mX11_partsOf 7 (.if_icmp .le) 10 21 := ⟨14, by decide +kernel, rfl, by decide⟩
theorem eX11_partsOf_10 : Dc mX11_partsOf 10 (.iload_n 1) 1 11 := ⟨by decide +kernel, rfl⟩
theorem eX11_partsOf_11 : Dc mX11_partsOf 11 (.iconst 2) 1 12 := ⟨by decide +kernel, rfl⟩
theorem eX11_partsOf_12 : Dc mX11_partsOf 12 (.idiv) 1 13 := ⟨by decide +kernel, rfl⟩
theorem eX11_partsOf_13 : Dc mX11_partsOf 13 (.istore_n 1) 1 14 := ⟨by decide +kernel, rfl⟩
theorem eX11_partsOf_14 : Dc mX11_partsOf 14 (.iload_n 2) 1 15 := ⟨by decide +kernel, rfl⟩
theorem eX11_partsOf_15 : Dc mX11_partsOf 15 (.iconst 2) 1 16 := ⟨by decide +kernel, rfl⟩
theorem eX11_partsOf_16 : Dc mX11_partsOf 16 (.idiv) 1 17 := ⟨by decide +kernel, rfl⟩
theorem eX11_partsOf_17 : Dc mX11_partsOf 17 (.istore_n 2) 1 18 := ⟨by decide +kernel, rfl⟩
theorem eX11_partsOf_18 : Dj mX11_partsOf 18 (.goto) 21 5 := ⟨-13, by decide +kernel, rfl, by decide⟩
theorem eX11_partsOf_21 : Dc mX11_partsOf 21 (.iload_n 1) 1 22 := ⟨by decide +kernel, rfl⟩
theorem eX11_partsOf_22 : Dc mX11_partsOf 22 (.ireturn) 1 23 := ⟨by decide +kernel, rfl⟩
theorem eX11_proves_0 : Dc mX11_proves 0 (.aload_n 0) 1 1 := ⟨by decide +kernel, rfl⟩
theorem eX11_proves_1 : Dc mX11_proves 1 (.getfield 28) 3 4 := ⟨by decide +kernel, rfl⟩
theorem eX11_proves_4 : Dc mX11_proves 4 (.invokevirtual 201) 3 7 := ⟨by decide +kernel, rfl⟩
theorem eX11_proves_7 : Dj mX11_proves 7 (.ifCond .eq) 10 32 := ⟨25, by decide +kernel, rfl, by decide⟩
theorem eX11_proves_10 : Dc mX11_proves 10 (.aload_n 0) 1 11 := ⟨by decide +kernel, rfl⟩
theorem eX11_proves_11 : Dc mX11_proves 11 (.getfield 74) 3 14 := ⟨by decide +kernel, rfl⟩
theorem eX11_proves_14 : Dc mX11_proves 14 (.aload_n 0) 1 15 := ⟨by decide +kernel, rfl⟩
theorem eX11_proves_15 : Dc mX11_proves 15 (.getfield 28) 3 18 := ⟨by decide +kernel, rfl⟩
theorem eX11_proves_18 : Dc mX11_proves 18 (.aload_n 0) 1 19 := ⟨by decide +kernel, rfl⟩
theorem eX11_proves_19 : Dc mX11_proves 19 (.getfield 60) 3 22 := ⟨by decide +kernel, rfl⟩
theorem eX11_proves_22 : Dc mX11_proves 22 (.aload_n 0) 1 23 := ⟨by decide +kernel, rfl⟩
theorem eX11_proves_23 : Dc mX11_proves 23 (.getfield 12) 3 26 := ⟨by decide +kernel, rfl⟩
theorem eX11_proves_26 : Dc mX11_proves 26 (.invokevirtual 264) 3 29 := ⟨by decide +kernel, rfl⟩
theorem eX11_proves_29 : Dj mX11_proves 29 (.goto) 32 34 := ⟨5, by decide +kernel, rfl, by decide⟩
theorem eX11_proves_32 : Dc mX11_proves 32 (.bipush (-2)) 2 34 := ⟨by decide +kernel, rfl⟩
theorem eX11_proves_34 : Dc mX11_proves 34 (.ireturn) 1 35 := ⟨by decide +kernel, rfl⟩
theorem eX11_sees_0 : Dc mX11_sees 0 (.iload_n 1) 1 1 := ⟨by decide +kernel, rfl⟩
theorem eX11_sees_1 : Dc mX11_sees 1 (.invokestatic 173) 3 4 := ⟨by decide +kernel, rfl⟩
theorem eX11_sees_4 : Dj mX11_sees 4 (.ifCond .eq) 7 16 := ⟨12, by decide +kernel, rfl, by decide⟩
theorem eX11_sees_7 : Dc mX11_sees 7 (.iload_n 2) 1 8 := ⟨by decide +kernel, rfl⟩
theorem eX11_sees_8 : Dc mX11_sees 8 (.iconst (-1)) 1 9 := ⟨by decide +kernel, rfl⟩
theorem eX11_sees_9 : Dc mX11_sees 9 (.iconst 1) 1 10 := ⟨by decide +kernel, rfl⟩
theorem eX11_sees_10 : Dc mX11_sees 10 (.invokestatic 92) 3 13 := ⟨by decide +kernel, rfl⟩
theorem eX11_sees_13 : Dj mX11_sees 13 (.ifCond .ne) 16 18 := ⟨5, by decide +kernel, rfl, by decide⟩
theorem eX11_sees_16 : Dc mX11_sees 16 (.iconst (-1)) 1 17 := ⟨by decide +kernel, rfl⟩
theorem eX11_sees_17 : Dc mX11_sees 17 (.ireturn) 1 18 := ⟨by decide +kernel, rfl⟩
theorem eX11_sees_18 : Dc mX11_sees 18 (.aload_n 0) 1 19 := ⟨by decide +kernel, rfl⟩
theorem eX11_sees_19 : Dc mX11_sees 19 (.getfield 46) 3 22 := ⟨by decide +kernel, rfl⟩
theorem eX11_sees_22 : Dc mX11_sees 22 (.invokevirtual 292) 3 25 := ⟨by decide +kernel, rfl⟩
theorem eX11_sees_25 : Dj mX11_sees 25 (.ifCond .eq) 28 31 := ⟨6, by decide +kernel, rfl, by decide⟩
theorem eX11_sees_28 : Dc mX11_sees 28 (.bipush (-3)) 2 30 := ⟨by decide +kernel, rfl⟩
theorem eX11_sees_30 : Dc mX11_sees 30 (.ireturn) 1 31 := ⟨by decide +kernel, rfl⟩
theorem eX11_sees_31 : Dc mX11_sees 31 (.aload_n 0) 1 32 := ⟨by decide +kernel, rfl⟩
theorem eX11_sees_32 : Dc mX11_sees 32 (.getfield 46) 3 35 := ⟨by decide +kernel, rfl⟩
theorem eX11_sees_35 : Dc mX11_sees 35 (.iload_n 1) 1 36 := ⟨by decide +kernel, rfl⟩
theorem eX11_sees_36 : Dc mX11_sees 36 (.iload_n 2) 1 37 := ⟨by decide +kernel, rfl⟩
theorem eX11_sees_37 : Dc mX11_sees 37 (.invokevirtual 293) 3 40 := ⟨by decide +kernel, rfl⟩
theorem eX11_sees_40 : Dc mX11_sees 40 (.aload_n 0) 1 41 := ⟨by decide +kernel, rfl⟩
theorem eX11_sees_41 : Dc mX11_sees 41 (.getfield 46) 3 44 := ⟨by decide +kernel, rfl⟩
theorem eX11_sees_44 : Dc mX11_sees 44 (.invokevirtual 295) 3 47 := ⟨by decide +kernel, rfl⟩
theorem eX11_sees_47 : Dc mX11_sees 47 (.ireturn) 1 48 := ⟨by decide +kernel, rfl⟩
theorem eX11_signOf_0 : Dc mX11_signOf 0 (.lload_n 0) 1 1 := ⟨by decide +kernel, rfl⟩
theorem eX11_signOf_1 : Dc mX11_signOf 1 (.lconst 0) 1 2 := ⟨by decide +kernel, rfl⟩
theorem eX11_signOf_2 : Dc mX11_signOf 2 (.lcmp) 1 3 := ⟨by decide +kernel, rfl⟩
theorem eX11_signOf_3 : Dj mX11_signOf 3 (.ifCond .ne) 6 8 := ⟨5, by decide +kernel, rfl, by decide⟩
theorem eX11_signOf_6 : Dc mX11_signOf 6 (.iconst 0) 1 7 := ⟨by decide +kernel, rfl⟩
theorem eX11_signOf_7 : Dc mX11_signOf 7 (.ireturn) 1 8 := ⟨by decide +kernel, rfl⟩
theorem eX11_signOf_8 : Dc mX11_signOf 8 (.lload_n 0) 1 9 := ⟨by decide +kernel, rfl⟩
theorem eX11_signOf_9 : Dc mX11_signOf 9 (.lconst 0) 1 10 := ⟨by decide +kernel, rfl⟩
theorem eX11_signOf_10 : Dc mX11_signOf 10 (.lcmp) 1 11 := ⟨by decide +kernel, rfl⟩
theorem eX11_signOf_11 : Dj mX11_signOf 11 (.ifCond .le) 14 18 := ⟨7, by decide +kernel, rfl, by decide⟩
theorem eX11_signOf_14 : Dc mX11_signOf 14 (.iconst 1) 1 15 := ⟨by decide +kernel, rfl⟩
theorem eX11_signOf_15 : Dj mX11_signOf 15 (.goto) 18 19 := ⟨4, by decide +kernel, rfl, by decide⟩
theorem eX11_signOf_18 : Dc mX11_signOf 18 (.iconst (-1)) 1 19 := ⟨by decide +kernel, rfl⟩
theorem eX11_signOf_19 : Dc mX11_signOf 19 (.ireturn) 1 20 := ⟨by decide +kernel, rfl⟩
theorem eX11_sure_0 : Dc mX11_sure 0 (.iload_n 1) 1 1 := ⟨by decide +kernel, rfl⟩
theorem eX11_sure_1 : Dc mX11_sure 1 (.iconst 0) 1 2 := ⟨by decide +kernel, rfl⟩
theorem eX11_sure_2 : Dc mX11_sure 2 (.iconst 2) 1 3 := ⟨by decide +kernel, rfl⟩
theorem eX11_sure_3 : Dc mX11_sure 3 (.invokestatic 92) 3 6 := ⟨by decide +kernel, rfl⟩
theorem eX11_sure_6 : Dj mX11_sure 6 (.ifCond .ne) 9 11 := ⟨5, by decide +kernel, rfl, by decide⟩
theorem eX11_sure_9 : Dc mX11_sure 9 (.iconst (-1)) 1 10 := ⟨by decide +kernel, rfl⟩
theorem eX11_sure_10 : Dc mX11_sure 10 (.ireturn) 1 11 := ⟨by decide +kernel, rfl⟩
theorem eX11_sure_11 : Dc mX11_sure 11 (.aload_n 0) 1 12 := ⟨by decide +kernel, rfl⟩
theorem eX11_sure_12 : Dc mX11_sure 12 (.getfield 28) 3 15 := ⟨by decide +kernel, rfl⟩
theorem eX11_sure_15 : Dc mX11_sure 15 (.invokevirtual 281) 3 18 := ⟨by decide +kernel, rfl⟩
theorem eX11_sure_18 : Dj mX11_sure 18 (.ifCond .ne) 21 24 := ⟨6, by decide +kernel, rfl, by decide⟩
theorem eX11_sure_21 : Dc mX11_sure 21 (.bipush (-2)) 2 23 := ⟨by decide +kernel, rfl⟩
theorem eX11_sure_23 : Dc mX11_sure 23 (.ireturn) 1 24 := ⟨by decide +kernel, rfl⟩
theorem eX11_sure_24 : Dc mX11_sure 24 (.aload_n 0) 1 25 := ⟨by decide +kernel, rfl⟩
theorem eX11_sure_25 : Dc mX11_sure 25 (.getfield 88) 3 28 := ⟨by decide +kernel, rfl⟩
theorem eX11_sure_28 : Dc mX11_sure 28 (.aload_n 0) 1 29 := ⟨by decide +kernel, rfl⟩
theorem eX11_sure_29 : Dc mX11_sure 29 (.getfield 28) 3 32 := ⟨by decide +kernel, rfl⟩
theorem eX11_sure_32 : Dc mX11_sure 32 (.aload_n 0) 1 33 := ⟨by decide +kernel, rfl⟩
theorem eX11_sure_33 : Dc mX11_sure 33 (.getfield 60) 3 36 := ⟨by decide +kernel, rfl⟩
theorem eX11_sure_36 : Dc mX11_sure 36 (.invokevirtual 283) 3 39 := ⟨by decide +kernel, rfl⟩
theorem eX11_sure_39 : Dc mX11_sure 39 (.aload_n 0) 1 40 := ⟨by decide +kernel, rfl⟩
theorem eX11_sure_40 : Dc mX11_sure 40 (.getfield 88) 3 43 := ⟨by decide +kernel, rfl⟩
theorem eX11_sure_43 : Dc mX11_sure 43 (.iload_n 1) 1 44 := ⟨by decide +kernel, rfl⟩
theorem eX11_sure_44 : Dc mX11_sure 44 (.invokevirtual 286) 3 47 := ⟨by decide +kernel, rfl⟩
theorem eX11_sure_47 : Dc mX11_sure 47 (.ireturn) 1 48 := ⟨by decide +kernel, rfl⟩
theorem eX11_takes_0 : Dc mX11_takes 0 (.aload_n 0) 1 1 := ⟨by decide +kernel, rfl⟩
theorem eX11_takes_1 : Dc mX11_takes 1 (.getfield 19) 3 4 := ⟨by decide +kernel, rfl⟩
theorem eX11_takes_4 : Dc mX11_takes 4 (.iload_n 1) 1 5 := ⟨by decide +kernel, rfl⟩
theorem eX11_takes_5 : Dc mX11_takes 5 (.invokevirtual 138) 3 8 := ⟨by decide +kernel, rfl⟩
theorem eX11_takes_8 : Dj mX11_takes 8 (.ifCond .eq) 11 22 := ⟨14, by decide +kernel, rfl, by decide⟩
theorem eX11_takes_11 : Dc mX11_takes 11 (.aload_n 0) 1 12 := ⟨by decide +kernel, rfl⟩
theorem eX11_takes_12 : Dc mX11_takes 12 (.getfield 19) 3 15 := ⟨by decide +kernel, rfl⟩
theorem eX11_takes_15 : Dc mX11_takes 15 (.iload_n 2) 1 16 := ⟨by decide +kernel, rfl⟩
theorem eX11_takes_16 : Dc mX11_takes 16 (.invokevirtual 142) 3 19 := ⟨by decide +kernel, rfl⟩
theorem eX11_takes_19 : Dj mX11_takes 19 (.ifCond .ne) 22 24 := ⟨5, by decide +kernel, rfl, by decide⟩
theorem eX11_takes_22 : Dc mX11_takes 22 (.iconst (-1)) 1 23 := ⟨by decide +kernel, rfl⟩
theorem eX11_takes_23 : Dc mX11_takes 23 (.ireturn) 1 24 := ⟨by decide +kernel, rfl⟩
theorem eX11_takes_24 : Dc mX11_takes 24 (.aload_n 0) 1 25 := ⟨by decide +kernel, rfl⟩
theorem eX11_takes_25 : Dc mX11_takes 25 (.getfield 28) 3 28 := ⟨by decide +kernel, rfl⟩
theorem eX11_takes_28 : Dc mX11_takes 28 (.iload_n 1) 1 29 := ⟨by decide +kernel, rfl⟩
theorem eX11_takes_29 : Dc mX11_takes 29 (.iload_n 2) 1 30 := ⟨by decide +kernel, rfl⟩
theorem eX11_takes_30 : Dc mX11_takes 30 (.invokevirtual 122) 3 33 := ⟨by decide +kernel, rfl⟩
theorem eX11_takes_33 : Dc mX11_takes 33 (.iconst 1) 1 34 := ⟨by decide +kernel, rfl⟩
theorem eX11_takes_34 : Dc mX11_takes 34 (.ireturn) 1 35 := ⟨by decide +kernel, rfl⟩
theorem eX11_type_0 : Dc mX11_type 0 (.iload_n 1) 1 1 := ⟨by decide +kernel, rfl⟩
theorem eX11_type_1 : Dc mX11_type 1 (.iconst 0) 1 2 := ⟨by decide +kernel, rfl⟩
theorem eX11_type_2 : Dc mX11_type 2 (.sipush 255) 3 5 := ⟨by decide +kernel, rfl⟩
theorem eX11_type_5 : Dc mX11_type 5 (.invokestatic 92) 3 8 := ⟨by decide +kernel, rfl⟩
theorem eX11_type_8 : Dj mX11_type 8 (.ifCond .ne) 11 13 := ⟨5, by decide +kernel, rfl, by decide⟩
theorem eX11_type_11 : Dc mX11_type 11 (.iconst (-1)) 1 12 := ⟨by decide +kernel, rfl⟩
theorem eX11_type_12 : Dc mX11_type 12 (.ireturn) 1 13 := ⟨by decide +kernel, rfl⟩
theorem eX11_type_13 : Dc mX11_type 13 (.aload_n 0) 1 14 := ⟨by decide +kernel, rfl⟩
theorem eX11_type_14 : Dc mX11_type 14 (.getfield 12) 3 17 := ⟨by decide +kernel, rfl⟩
theorem eX11_type_17 : Dc mX11_type 17 (.invokevirtual 96) 3 20 := ⟨by decide +kernel, rfl⟩
theorem eX11_type_20 : Dj mX11_type 20 (.ifCond .eq) 23 26 := ⟨6, by decide +kernel, rfl, by decide⟩
theorem eX11_type_23 : Dc mX11_type 23 (.bipush (-3)) 2 25 := ⟨by decide +kernel, rfl⟩
theorem eX11_type_25 : Dc mX11_type 25 (.ireturn) 1 26 := ⟨by decide +kernel, rfl⟩
theorem eX11_type_26 : Dc mX11_type 26 (.aload_n 0) 1 27 := ⟨by decide +kernel, rfl⟩
theorem eX11_type_27 : Dc mX11_type 27 (.getfield 12) 3 30 := ⟨by decide +kernel, rfl⟩
theorem eX11_type_30 : Dc mX11_type 30 (.iload_n 1) 1 31 := ⟨by decide +kernel, rfl⟩
theorem eX11_type_31 : Dc mX11_type 31 (.invokevirtual 100) 3 34 := ⟨by decide +kernel, rfl⟩
theorem eX11_type_34 : Dc mX11_type 34 (.aload_n 0) 1 35 := ⟨by decide +kernel, rfl⟩
theorem eX11_type_35 : Dc mX11_type 35 (.getfield 12) 3 38 := ⟨by decide +kernel, rfl⟩
theorem eX11_type_38 : Dc mX11_type 38 (.invokevirtual 104) 3 41 := ⟨by decide +kernel, rfl⟩
theorem eX11_type_41 : Dc mX11_type 41 (.ireturn) 1 42 := ⟨by decide +kernel, rfl⟩
theorem eX11_undo_0 : Dc mX11_undo 0 (.aload_n 0) 1 1 := ⟨by decide +kernel, rfl⟩
theorem eX11_undo_1 : Dc mX11_undo 1 (.getfield 35) 3 4 := ⟨by decide +kernel, rfl⟩
theorem eX11_undo_4 : Dc mX11_undo 4 (.invokevirtual 192) 3 7 := ⟨by decide +kernel, rfl⟩
theorem eX11_undo_7 : Dj mX11_undo 7 (.ifCond .ne) 10 13 := ⟨6, by decide +kernel, rfl, by decide⟩
theorem eX11_undo_10 : Dc mX11_undo 10 (.bipush (-2)) 2 12 := ⟨by decide +kernel, rfl⟩
theorem eX11_undo_12 : Dc mX11_undo 12 (.ireturn) 1 13 := ⟨by decide +kernel, rfl⟩
theorem eX11_undo_13 : Dc mX11_undo 13 (.aload_n 0) 1 14 := ⟨by decide +kernel, rfl⟩
theorem eX11_undo_14 : Dc mX11_undo 14 (.getfield 35) 3 17 := ⟨by decide +kernel, rfl⟩
theorem eX11_undo_17 : Dc mX11_undo 17 (.aload_n 0) 1 18 := ⟨by decide +kernel, rfl⟩
theorem eX11_undo_18 : Dc mX11_undo 18 (.getfield 19) 3 21 := ⟨by decide +kernel, rfl⟩
theorem eX11_undo_21 : Dc mX11_undo 21 (.invokevirtual 195) 3 24 := ⟨by decide +kernel, rfl⟩
theorem eX11_undo_24 : Dc mX11_undo 24 (.aload_n 0) 1 25 := ⟨by decide +kernel, rfl⟩
theorem eX11_undo_25 : Dc mX11_undo 25 (.getfield 35) 3 28 := ⟨by decide +kernel, rfl⟩
theorem eX11_undo_28 : Dc mX11_undo 28 (.invokevirtual 192) 3 31 := ⟨by decide +kernel, rfl⟩
theorem eX11_undo_31 : Dc mX11_undo 31 (.ireturn) 1 32 := ⟨by decide +kernel, rfl⟩
theorem eX11_unseen_0 : Dc mX11_unseen 0 (.iconst 0) 1 1 := ⟨by decide +kernel, rfl⟩
theorem eX11_unseen_1 : Dc mX11_unseen 1 (.istore_n 1) 1 2 := ⟨by decide +kernel, rfl⟩
theorem eX11_unseen_2 : Dc mX11_unseen 2 (.iconst 0) 1 3 := ⟨by decide +kernel, rfl⟩
theorem eX11_unseen_3 : Dc mX11_unseen 3 (.istore_n 2) 1 4 := ⟨by decide +kernel, rfl⟩
theorem eX11_unseen_4 : Dc mX11_unseen 4 (.iload_n 2) 1 5 := ⟨by decide +kernel, rfl⟩
theorem eX11_unseen_5 : Dc mX11_unseen 5 (.aload_n 0) 1 6 := ⟨by decide +kernel, rfl⟩
theorem eX11_unseen_6 : Dc mX11_unseen 6 (.getfield 19) 3 9 := ⟨by decide +kernel, rfl⟩
theorem eX11_unseen_9 : Dc mX11_unseen 9 (.invokevirtual 132) 3 12 := ⟨by decide +kernel, rfl⟩
theorem eX11_unseen_12 : Dj mX11_unseen 12 (.if_icmp .ge) 15 42 := ⟨30, by decide +kernel, rfl, by decide⟩
theorem eX11_unseen_15 : Dc mX11_unseen 15 (.aload_n 0) 1 16 := ⟨by decide +kernel, rfl⟩
theorem eX11_unseen_16 : Dc mX11_unseen 16 (.getfield 46) 3 19 := ⟨by decide +kernel, rfl⟩
theorem eX11_unseen_19 : Dc mX11_unseen 19 (.aload_n 0) 1 20 := ⟨by decide +kernel, rfl⟩
theorem eX11_unseen_20 : Dc mX11_unseen 20 (.getfield 19) 3 23 := ⟨by decide +kernel, rfl⟩
theorem eX11_unseen_23 : Dc mX11_unseen 23 (.iload_n 2) 1 24 := ⟨by decide +kernel, rfl⟩
theorem eX11_unseen_24 : Dc mX11_unseen 24 (.invokevirtual 296) 3 27 := ⟨by decide +kernel, rfl⟩
theorem eX11_unseen_27 : Dj mX11_unseen 27 (.ifCond .eq) 30 36 := ⟨9, by decide +kernel, rfl, by decide⟩
theorem eX11_unseen_30 : Dc mX11_unseen 30 (.iload_n 1) 1 31 := ⟨by decide +kernel, rfl⟩
theorem eX11_unseen_31 : Dc mX11_unseen 31 (.iconst 1) 1 32 := ⟨by decide +kernel, rfl⟩
theorem eX11_unseen_32 : Dc mX11_unseen 32 (.iload_n 2) 1 33 := ⟨by decide +kernel, rfl⟩
theorem eX11_unseen_33 : Dc mX11_unseen 33 (.ishl) 1 34 := ⟨by decide +kernel, rfl⟩
theorem eX11_unseen_34 : Dc mX11_unseen 34 (.ior) 1 35 := ⟨by decide +kernel, rfl⟩
theorem eX11_unseen_35 : Dc mX11_unseen 35 (.istore_n 1) 1 36 := ⟨by decide +kernel, rfl⟩
theorem eX11_unseen_36 : Dc mX11_unseen 36 (.iinc 2 1) 3 39 := ⟨by decide +kernel, rfl⟩
theorem eX11_unseen_39 : Dj mX11_unseen 39 (.goto) 42 4 := ⟨-35, by decide +kernel, rfl, by decide⟩
theorem eX11_unseen_42 : Dc mX11_unseen 42 (.iload_n 1) 1 43 := ⟨by decide +kernel, rfl⟩
theorem eX11_unseen_43 : Dc mX11_unseen 43 (.ireturn) 1 44 := ⟨by decide +kernel, rfl⟩
theorem eX11_value_0 : Dc mX11_value 0 (.iload_n 1) 1 1 := ⟨by decide +kernel, rfl⟩
theorem eX11_value_1 : Dc mX11_value 1 (.invokestatic 198) 3 4 := ⟨by decide +kernel, rfl⟩
theorem eX11_value_4 : Dj mX11_value 4 (.ifCond .eq) 7 35 := ⟨31, by decide +kernel, rfl, by decide⟩
theorem eX11_value_7 : Dc mX11_value 7 (.iload_n 2) 1 8 := ⟨by decide +kernel, rfl⟩
theorem eX11_value_8 : Dc mX11_value 8 (.iconst 0) 1 9 := ⟨by decide +kernel, rfl⟩
theorem eX11_value_9 : Dc mX11_value 9 (.iconst 1) 1 10 := ⟨by decide +kernel, rfl⟩
theorem eX11_value_10 : Dc mX11_value 10 (.invokestatic 92) 3 13 := ⟨by decide +kernel, rfl⟩
theorem eX11_value_13 : Dj mX11_value 13 (.ifCond .eq) 16 35 := ⟨22, by decide +kernel, rfl, by decide⟩
theorem eX11_value_16 : Dc mX11_value 16 (.iload_n 3) 1 17 := ⟨by decide +kernel, rfl⟩
theorem eX11_value_17 : Dc mX11_value 17 (.iconst 0) 1 18 := ⟨by decide +kernel, rfl⟩
theorem eX11_value_18 : Dc mX11_value 18 (.iconst 1) 1 19 := ⟨by decide +kernel, rfl⟩
theorem eX11_value_19 : Dc mX11_value 19 (.invokestatic 92) 3 22 := ⟨by decide +kernel, rfl⟩
theorem eX11_value_22 : Dj mX11_value 22 (.ifCond .eq) 25 35 := ⟨13, by decide +kernel, rfl, by decide⟩
theorem eX11_value_25 : Dc mX11_value 25 (.aload_n 0) 1 26 := ⟨by decide +kernel, rfl⟩
theorem eX11_value_26 : Dc mX11_value 26 (.getfield 28) 3 29 := ⟨by decide +kernel, rfl⟩
theorem eX11_value_29 : Dc mX11_value 29 (.invokevirtual 201) 3 32 := ⟨by decide +kernel, rfl⟩
theorem eX11_value_32 : Dj mX11_value 32 (.ifCond .ne) 35 39 := ⟨7, by decide +kernel, rfl, by decide⟩
theorem eX11_value_35 : Dc mX11_value 35 (.ldc2_w 153) 3 38 := ⟨by decide +kernel, rfl⟩
theorem eX11_value_38 : Dc mX11_value 38 (.lreturn) 1 39 := ⟨by decide +kernel, rfl⟩
theorem eX11_value_39 : Dc mX11_value 39 (.aload_n 0) 1 40 := ⟨by decide +kernel, rfl⟩
theorem eX11_value_40 : Dc mX11_value 40 (.getfield 60) 3 43 := ⟨by decide +kernel, rfl⟩
theorem eX11_value_43 : Dc mX11_value 43 (.aload_n 0) 1 44 := ⟨by decide +kernel, rfl⟩
theorem eX11_value_44 : Dc mX11_value 44 (.getfield 28) 3 47 := ⟨by decide +kernel, rfl⟩
theorem eX11_value_47 : Dc mX11_value 47 (.iload_n 1) 1 48 := ⟨by decide +kernel, rfl⟩
theorem eX11_value_48 : Dc mX11_value 48 (.invokevirtual 236) 3 51 := ⟨by decide +kernel, rfl⟩
theorem eX11_value_51 : Dc mX11_value 51 (.iload_n 2) 1 52 := ⟨by decide +kernel, rfl⟩
theorem eX11_value_52 : Dj mX11_value 52 (.ifCond .ne) 55 59 := ⟨7, by decide +kernel, rfl, by decide⟩
theorem eX11_value_55 : Dc mX11_value 55 (.iconst 0) 1 56 := ⟨by decide +kernel, rfl⟩
theorem eX11_value_56 : Dj mX11_value 56 (.goto) 59 66 := ⟨10, by decide +kernel, rfl, by decide⟩
theorem eX11_value_59 : Dc mX11_value 59 (.aload_n 0) 1 60 := ⟨by decide +kernel, rfl⟩
theorem eX11_value_60 : Dc mX11_value 60 (.getfield 60) 3 63 := ⟨by decide +kernel, rfl⟩
theorem eX11_value_63 : Dc mX11_value 63 (.invokevirtual 240) 3 66 := ⟨by decide +kernel, rfl⟩
theorem eX11_value_66 : Dc mX11_value 66 (.istore 4) 2 68 := ⟨by decide +kernel, rfl⟩
theorem eX11_value_68 : Dc mX11_value 68 (.aload_n 0) 1 69 := ⟨by decide +kernel, rfl⟩
theorem eX11_value_69 : Dc mX11_value 69 (.getfield 60) 3 72 := ⟨by decide +kernel, rfl⟩
theorem eX11_value_72 : Dc mX11_value 72 (.iload 4) 2 74 := ⟨by decide +kernel, rfl⟩
theorem eX11_value_74 : Dc mX11_value 74 (.invokevirtual 214) 3 77 := ⟨by decide +kernel, rfl⟩
theorem eX11_value_77 : Dc mX11_value 77 (.aload_n 0) 1 78 := ⟨by decide +kernel, rfl⟩
theorem eX11_value_78 : Dc mX11_value 78 (.getfield 60) 3 81 := ⟨by decide +kernel, rfl⟩
theorem eX11_value_81 : Dc mX11_value 81 (.iload 4) 2 83 := ⟨by decide +kernel, rfl⟩
theorem eX11_value_83 : Dc mX11_value 83 (.invokevirtual 218) 3 86 := ⟨by decide +kernel, rfl⟩
theorem eX11_value_86 : Dc mX11_value 86 (.iload_n 3) 1 87 := ⟨by decide +kernel, rfl⟩
theorem eX11_value_87 : Dc mX11_value 87 (.invokestatic 221) 3 90 := ⟨by decide +kernel, rfl⟩
theorem eX11_value_90 : Dc mX11_value 90 (.lreturn) 1 91 := ⟨by decide +kernel, rfl⟩
theorem eX11_variation_0 : Dc mX11_variation 0 (.iload_n 1) 1 1 := ⟨by decide +kernel, rfl⟩
theorem eX11_variation_1 : Dc mX11_variation 1 (.invokestatic 198) 3 4 := ⟨by decide +kernel, rfl⟩
theorem eX11_variation_4 : Dj mX11_variation 4 (.ifCond .eq) 7 16 := ⟨12, by decide +kernel, rfl, by decide⟩
theorem eX11_variation_7 : Dc mX11_variation 7 (.iload_n 2) 1 8 := ⟨by decide +kernel, rfl⟩
theorem eX11_variation_8 : Dc mX11_variation 8 (.iconst 0) 1 9 := ⟨by decide +kernel, rfl⟩
theorem eX11_variation_9 : Dc mX11_variation 9 (.iconst 2) 1 10 := ⟨by decide +kernel, rfl⟩
theorem eX11_variation_10 : Dc mX11_variation 10 (.invokestatic 92) 3 13 := ⟨by decide +kernel, rfl⟩
theorem eX11_variation_13 : Dj mX11_variation 13 (.ifCond .ne) 16 18 := ⟨5, by decide +kernel, rfl, by decide⟩
theorem eX11_variation_16 : Dc mX11_variation 16 (.iconst (-1)) 1 17 := ⟨by decide +kernel, rfl⟩
theorem eX11_variation_17 : Dc mX11_variation 17 (.ireturn) 1 18 := ⟨by decide +kernel, rfl⟩
theorem eX11_variation_18 : Dc mX11_variation 18 (.aload_n 0) 1 19 := ⟨by decide +kernel, rfl⟩
theorem eX11_variation_19 : Dc mX11_variation 19 (.getfield 28) 3 22 := ⟨by decide +kernel, rfl⟩
theorem eX11_variation_22 : Dc mX11_variation 22 (.invokevirtual 201) 3 25 := ⟨by decide +kernel, rfl⟩
theorem eX11_variation_25 : Dj mX11_variation 25 (.ifCond .ne) 28 31 := ⟨6, by decide +kernel, rfl, by decide⟩
theorem eX11_variation_28 : Dc mX11_variation 28 (.bipush (-2)) 2 30 := ⟨by decide +kernel, rfl⟩
theorem eX11_variation_30 : Dc mX11_variation 30 (.ireturn) 1 31 := ⟨by decide +kernel, rfl⟩
theorem eX11_variation_31 : Dc mX11_variation 31 (.aload_n 0) 1 32 := ⟨by decide +kernel, rfl⟩
theorem eX11_variation_32 : Dc mX11_variation 32 (.getfield 60) 3 35 := ⟨by decide +kernel, rfl⟩
theorem eX11_variation_35 : Dc mX11_variation 35 (.aload_n 0) 1 36 := ⟨by decide +kernel, rfl⟩
theorem eX11_variation_36 : Dc mX11_variation 36 (.getfield 28) 3 39 := ⟨by decide +kernel, rfl⟩
theorem eX11_variation_39 : Dc mX11_variation 39 (.iload_n 1) 1 40 := ⟨by decide +kernel, rfl⟩
theorem eX11_variation_40 : Dc mX11_variation 40 (.iload_n 2) 1 41 := ⟨by decide +kernel, rfl⟩
theorem eX11_variation_41 : Dc mX11_variation 41 (.invokevirtual 210) 3 44 := ⟨by decide +kernel, rfl⟩
theorem eX11_variation_44 : Dc mX11_variation 44 (.aload_n 0) 1 45 := ⟨by decide +kernel, rfl⟩
theorem eX11_variation_45 : Dc mX11_variation 45 (.getfield 60) 3 48 := ⟨by decide +kernel, rfl⟩
theorem eX11_variation_48 : Dc mX11_variation 48 (.invokevirtual 225) 3 51 := ⟨by decide +kernel, rfl⟩
theorem eX11_variation_51 : Dc mX11_variation 51 (.ireturn) 1 52 := ⟨by decide +kernel, rfl⟩
theorem eX11_wish_0 : Dc mX11_wish 0 (.aload_n 0) 1 1 := ⟨by decide +kernel, rfl⟩
theorem eX11_wish_1 : Dc mX11_wish 1 (.getfield 19) 3 4 := ⟨by decide +kernel, rfl⟩
theorem eX11_wish_4 : Dc mX11_wish 4 (.iload_n 1) 1 5 := ⟨by decide +kernel, rfl⟩
theorem eX11_wish_5 : Dc mX11_wish 5 (.invokevirtual 138) 3 8 := ⟨by decide +kernel, rfl⟩
theorem eX11_wish_8 : Dj mX11_wish 8 (.ifCond .eq) 11 23 := ⟨15, by decide +kernel, rfl, by decide⟩
theorem eX11_wish_11 : Dc mX11_wish 11 (.aload_n 0) 1 12 := ⟨by decide +kernel, rfl⟩
theorem eX11_wish_12 : Dc mX11_wish 12 (.getfield 19) 3 15 := ⟨by decide +kernel, rfl⟩
theorem eX11_wish_15 : Dc mX11_wish 15 (.iload_n 1) 1 16 := ⟨by decide +kernel, rfl⟩
theorem eX11_wish_16 : Dc mX11_wish 16 (.invokevirtual 183) 3 19 := ⟨by decide +kernel, rfl⟩
theorem eX11_wish_19 : Dc mX11_wish 19 (.i2l) 1 20 := ⟨by decide +kernel, rfl⟩
theorem eX11_wish_20 : Dj mX11_wish 20 (.goto) 23 26 := ⟨6, by decide +kernel, rfl, by decide⟩
theorem eX11_wish_23 : Dc mX11_wish 23 (.ldc2_w 153) 3 26 := ⟨by decide +kernel, rfl⟩
theorem eX11_wish_26 : Dc mX11_wish 26 (.lreturn) 1 27 := ⟨by decide +kernel, rfl⟩
theorem eX11_wishes_0 : Dc mX11_wishes 0 (.aload_n 0) 1 1 := ⟨by decide +kernel, rfl⟩
theorem eX11_wishes_1 : Dc mX11_wishes 1 (.getfield 19) 3 4 := ⟨by decide +kernel, rfl⟩
theorem eX11_wishes_4 : Dc mX11_wishes 4 (.iload_n 1) 1 5 := ⟨by decide +kernel, rfl⟩
theorem eX11_wishes_5 : Dc mX11_wishes 5 (.invokevirtual 138) 3 8 := ⟨by decide +kernel, rfl⟩
theorem eX11_wishes_8 : Dj mX11_wishes 8 (.ifCond .eq) 11 20 := ⟨12, by decide +kernel, rfl, by decide⟩
theorem eX11_wishes_11 : Dc mX11_wishes 11 (.iload_n 2) 1 12 := ⟨by decide +kernel, rfl⟩
theorem eX11_wishes_12 : Dc mX11_wishes 12 (.iconst (-1)) 1 13 := ⟨by decide +kernel, rfl⟩
theorem eX11_wishes_13 : Dc mX11_wishes 13 (.iconst 1) 1 14 := ⟨by decide +kernel, rfl⟩
theorem eX11_wishes_14 : Dc mX11_wishes 14 (.invokestatic 92) 3 17 := ⟨by decide +kernel, rfl⟩
theorem eX11_wishes_17 : Dj mX11_wishes 17 (.ifCond .ne) 20 22 := ⟨5, by decide +kernel, rfl, by decide⟩
theorem eX11_wishes_20 : Dc mX11_wishes 20 (.iconst (-1)) 1 21 := ⟨by decide +kernel, rfl⟩
theorem eX11_wishes_21 : Dc mX11_wishes 21 (.ireturn) 1 22 := ⟨by decide +kernel, rfl⟩
theorem eX11_wishes_22 : Dc mX11_wishes 22 (.aload_n 0) 1 23 := ⟨by decide +kernel, rfl⟩
theorem eX11_wishes_23 : Dc mX11_wishes 23 (.getfield 19) 3 26 := ⟨by decide +kernel, rfl⟩
theorem eX11_wishes_26 : Dc mX11_wishes 26 (.iload_n 1) 1 27 := ⟨by decide +kernel, rfl⟩
theorem eX11_wishes_27 : Dc mX11_wishes 27 (.invokevirtual 183) 3 30 := ⟨by decide +kernel, rfl⟩
theorem eX11_wishes_30 : Dc mX11_wishes 30 (.iload_n 2) 1 31 := ⟨by decide +kernel, rfl⟩
theorem eX11_wishes_31 : Dj mX11_wishes 31 (.if_icmp .ne) 34 37 := ⟨6, by decide +kernel, rfl, by decide⟩
theorem eX11_wishes_34 : Dc mX11_wishes 34 (.bipush (-2)) 2 36 := ⟨by decide +kernel, rfl⟩
theorem eX11_wishes_36 : Dc mX11_wishes 36 (.ireturn) 1 37 := ⟨by decide +kernel, rfl⟩
theorem eX11_wishes_37 : Dc mX11_wishes 37 (.aload_n 0) 1 38 := ⟨by decide +kernel, rfl⟩
theorem eX11_wishes_38 : Dc mX11_wishes 38 (.getfield 35) 3 41 := ⟨by decide +kernel, rfl⟩
theorem eX11_wishes_41 : Dc mX11_wishes 41 (.aload_n 0) 1 42 := ⟨by decide +kernel, rfl⟩
theorem eX11_wishes_42 : Dc mX11_wishes 42 (.getfield 19) 3 45 := ⟨by decide +kernel, rfl⟩
theorem eX11_wishes_45 : Dc mX11_wishes 45 (.iload_n 1) 1 46 := ⟨by decide +kernel, rfl⟩
theorem eX11_wishes_46 : Dc mX11_wishes 46 (.invokevirtual 186) 3 49 := ⟨by decide +kernel, rfl⟩
theorem eX11_wishes_49 : Dc mX11_wishes 49 (.aload_n 0) 1 50 := ⟨by decide +kernel, rfl⟩
theorem eX11_wishes_50 : Dc mX11_wishes 50 (.getfield 19) 3 53 := ⟨by decide +kernel, rfl⟩
theorem eX11_wishes_53 : Dc mX11_wishes 53 (.iload_n 1) 1 54 := ⟨by decide +kernel, rfl⟩
theorem eX11_wishes_54 : Dc mX11_wishes 54 (.iload_n 2) 1 55 := ⟨by decide +kernel, rfl⟩
theorem eX11_wishes_55 : Dc mX11_wishes 55 (.invokevirtual 189) 3 58 := ⟨by decide +kernel, rfl⟩
theorem eX11_wishes_58 : Dc mX11_wishes 58 (.iconst 1) 1 59 := ⟨by decide +kernel, rfl⟩
theorem eX11_wishes_59 : Dc mX11_wishes 59 (.ireturn) 1 60 := ⟨by decide +kernel, rfl⟩
theorem eX11_witness_0 : Dc mX11_witness 0 (.iload_n 1) 1 1 := ⟨by decide +kernel, rfl⟩
theorem eX11_witness_1 : Dc mX11_witness 1 (.iconst 0) 1 2 := ⟨by decide +kernel, rfl⟩
theorem eX11_witness_2 : Dc mX11_witness 2 (.iconst 1) 1 3 := ⟨by decide +kernel, rfl⟩
theorem eX11_witness_3 : Dc mX11_witness 3 (.invokestatic 92) 3 6 := ⟨by decide +kernel, rfl⟩
theorem eX11_witness_6 : Dj mX11_witness 6 (.ifCond .eq) 9 19 := ⟨13, by decide +kernel, rfl, by decide⟩
theorem eX11_witness_9 : Dc mX11_witness 9 (.aload_n 0) 1 10 := ⟨by decide +kernel, rfl⟩
theorem eX11_witness_10 : Dc mX11_witness 10 (.getfield 28) 3 13 := ⟨by decide +kernel, rfl⟩
theorem eX11_witness_13 : Dc mX11_witness 13 (.invokevirtual 201) 3 16 := ⟨by decide +kernel, rfl⟩
theorem eX11_witness_16 : Dj mX11_witness 16 (.ifCond .ne) 19 23 := ⟨7, by decide +kernel, rfl, by decide⟩
theorem eX11_witness_19 : Dc mX11_witness 19 (.ldc2_w 153) 3 22 := ⟨by decide +kernel, rfl⟩
theorem eX11_witness_22 : Dc mX11_witness 22 (.lreturn) 1 23 := ⟨by decide +kernel, rfl⟩
theorem eX11_witness_23 : Dc mX11_witness 23 (.aload_n 0) 1 24 := ⟨by decide +kernel, rfl⟩
theorem eX11_witness_24 : Dc mX11_witness 24 (.getfield 74) 3 27 := ⟨by decide +kernel, rfl⟩
theorem eX11_witness_27 : Dc mX11_witness 27 (.aload_n 0) 1 28 := ⟨by decide +kernel, rfl⟩
theorem eX11_witness_28 : Dc mX11_witness 28 (.getfield 28) 3 31 := ⟨by decide +kernel, rfl⟩
theorem eX11_witness_31 : Dc mX11_witness 31 (.aload_n 0) 1 32 := ⟨by decide +kernel, rfl⟩
theorem eX11_witness_32 : Dc mX11_witness 32 (.getfield 60) 3 35 := ⟨by decide +kernel, rfl⟩
theorem eX11_witness_35 : Dc mX11_witness 35 (.invokevirtual 254) 3 38 := ⟨by decide +kernel, rfl⟩
theorem eX11_witness_38 : Dc mX11_witness 38 (.bipush (-7)) 2 40 := ⟨by decide +kernel, rfl⟩
theorem eX11_witness_40 : Dj mX11_witness 40 (.if_icmp .eq) 43 47 := ⟨7, by decide +kernel, rfl, by decide⟩
theorem eX11_witness_43 : Dc mX11_witness 43 (.ldc2_w 153) 3 46 := ⟨by decide +kernel, rfl⟩
theorem eX11_witness_46 : Dc mX11_witness 46 (.lreturn) 1 47 := ⟨by decide +kernel, rfl⟩
theorem eX11_witness_47 : Dc mX11_witness 47 (.aload_n 0) 1 48 := ⟨by decide +kernel, rfl⟩
theorem eX11_witness_48 : Dc mX11_witness 48 (.getfield 74) 3 51 := ⟨by decide +kernel, rfl⟩
theorem eX11_witness_51 : Dc mX11_witness 51 (.invokevirtual 261) 3 54 := ⟨by decide +kernel, rfl⟩
theorem eX11_witness_54 : Dc mX11_witness 54 (.i2l) 1 55 := ⟨by decide +kernel, rfl⟩
theorem eX11_witness_55 : Dc mX11_witness 55 (.ldc2_w 234) 3 58 := ⟨by decide +kernel, rfl⟩
theorem eX11_witness_58 : Dc mX11_witness 58 (.iload_n 1) 1 59 := ⟨by decide +kernel, rfl⟩
theorem eX11_witness_59 : Dc mX11_witness 59 (.invokestatic 221) 3 62 := ⟨by decide +kernel, rfl⟩
theorem eX11_witness_62 : Dc mX11_witness 62 (.lreturn) 1 63 := ⟨by decide +kernel, rfl⟩
theorem eX1_empty_0 : Dc mX1_empty 0 (.aload_n 0) 1 1 := ⟨by decide +kernel, rfl⟩
theorem eX1_empty_1 : Dc mX1_empty 1 (.iconst 0) 1 2 := ⟨by decide +kernel, rfl⟩
theorem eX1_empty_2 : Dc mX1_empty 2 (.putfield 15) 3 5 := ⟨by decide +kernel, rfl⟩
theorem eX1_empty_5 : Dc mX1_empty 5 (.return_) 1 6 := ⟨by decide +kernel, rfl⟩
theorem eX1_remember_0 : Dc mX1_remember 0 (.aload_n 0) 1 1 := ⟨by decide +kernel, rfl⟩
theorem eX1_remember_1 : Dc mX1_remember 1 (.getfield 15) 3 4 := ⟨by decide +kernel, rfl⟩
theorem eX1_remember_4 : Dc mX1_remember 4 (.bipush 10) 2 6 := ⟨by decide +kernel, rfl⟩
theorem eX1_remember_6 : Dj mX1_remember 6 (.if_icmp .lt) 9 34 := ⟨28, by decide +kernel, rfl, by decide⟩
theorem eX1_remember_9 : Dc mX1_remember 9 (.aload_n 0) 1 10 := ⟨by decide +kernel, rfl⟩
theorem eX1_remember_10 : Dc mX1_remember 10 (.bipush 9) 2 12 := ⟨by decide +kernel, rfl⟩
theorem eX1_remember_12 : Dc mX1_remember 12 (.putfield 15) 3 15 := ⟨by decide +kernel, rfl⟩
theorem eX1_remember_15 : Dc mX1_remember 15 (.aload_n 0) 1 16 := ⟨by decide +kernel, rfl⟩
theorem eX1_remember_16 : Dc mX1_remember 16 (.getfield 11) 3 19 := ⟨by decide +kernel, rfl⟩
theorem eX1_remember_19 : Dc mX1_remember 19 (.iconst 5) 1 20 := ⟨by decide +kernel, rfl⟩
theorem eX1_remember_20 : Dc mX1_remember 20 (.aload_n 0) 1 21 := ⟨by decide +kernel, rfl⟩
theorem eX1_remember_21 : Dc mX1_remember 21 (.getfield 11) 3 24 := ⟨by decide +kernel, rfl⟩
theorem eX1_remember_24 : Dc mX1_remember 24 (.iconst 0) 1 25 := ⟨by decide +kernel, rfl⟩
theorem eX1_remember_25 : Dc mX1_remember 25 (.aload_n 0) 1 26 := ⟨by decide +kernel, rfl⟩
theorem eX1_remember_26 : Dc mX1_remember 26 (.getfield 15) 3 29 := ⟨by decide +kernel, rfl⟩
theorem eX1_remember_29 : Dc mX1_remember 29 (.iconst 5) 1 30 := ⟨by decide +kernel, rfl⟩
theorem eX1_remember_30 : Dc mX1_remember 30 (.imul) 1 31 := ⟨by decide +kernel, rfl⟩
theorem eX1_remember_31 : Dc mX1_remember 31 (.invokestatic 39) 3 34 := ⟨by decide +kernel, rfl⟩
theorem eX1_remember_34 : Dc mX1_remember 34 (.aload_n 0) 1 35 := ⟨by decide +kernel, rfl⟩
theorem eX1_remember_35 : Dc mX1_remember 35 (.getfield 15) 3 38 := ⟨by decide +kernel, rfl⟩
theorem eX1_remember_38 : Dc mX1_remember 38 (.iconst 5) 1 39 := ⟨by decide +kernel, rfl⟩
theorem eX1_remember_39 : Dc mX1_remember 39 (.imul) 1 40 := ⟨by decide +kernel, rfl⟩
theorem eX1_remember_40 : Dc mX1_remember 40 (.istore 6) 2 42 := ⟨by decide +kernel, rfl⟩
theorem eX1_remember_42 : Dc mX1_remember 42 (.iload 6) 2 44 := ⟨by decide +kernel, rfl⟩
theorem eX1_remember_44 : Dj mX1_remember 44 (.ifCond .lt) 47 59 := ⟨15, by decide +kernel, rfl, by decide⟩
theorem eX1_remember_47 : Dc mX1_remember 47 (.iload 6) 2 49 := ⟨by decide +kernel, rfl⟩
theorem eX1_remember_49 : Dc mX1_remember 49 (.iconst 5) 1 50 := ⟨by decide +kernel, rfl⟩
theorem eX1_remember_50 : Dc mX1_remember 50 (.iadd) 1 51 := ⟨by decide +kernel, rfl⟩
theorem eX1_remember_51 : Dc mX1_remember 51 (.aload_n 0) 1 52 := ⟨by decide +kernel, rfl⟩
theorem eX1_remember_52 : Dc mX1_remember 52 (.getfield 11) 3 55 := ⟨by decide +kernel, rfl⟩
theorem eX1_remember_55 : Dc mX1_remember 55 (.arraylength) 1 56 := ⟨by decide +kernel, rfl⟩
theorem eX1_remember_56 : Dj mX1_remember 56 (.if_icmp .le) 59 60 := ⟨4, by decide +kernel, rfl, by decide⟩
theorem eX1_remember_59 : Dc mX1_remember 59 (.return_) 1 60 := ⟨by decide +kernel, rfl⟩
theorem eX1_remember_60 : Dc mX1_remember 60 (.aload_n 0) 1 61 := ⟨by decide +kernel, rfl⟩
theorem eX1_remember_61 : Dc mX1_remember 61 (.getfield 11) 3 64 := ⟨by decide +kernel, rfl⟩
theorem eX1_remember_64 : Dc mX1_remember 64 (.iload 6) 2 66 := ⟨by decide +kernel, rfl⟩
theorem eX1_remember_66 : Dc mX1_remember 66 (.iload_n 1) 1 67 := ⟨by decide +kernel, rfl⟩
theorem eX1_remember_67 : Dc mX1_remember 67 (.iastore) 1 68 := ⟨by decide +kernel, rfl⟩
theorem eX1_remember_68 : Dc mX1_remember 68 (.aload_n 0) 1 69 := ⟨by decide +kernel, rfl⟩
theorem eX1_remember_69 : Dc mX1_remember 69 (.getfield 11) 3 72 := ⟨by decide +kernel, rfl⟩
theorem eX1_remember_72 : Dc mX1_remember 72 (.iload 6) 2 74 := ⟨by decide +kernel, rfl⟩
theorem eX1_remember_74 : Dc mX1_remember 74 (.iconst 1) 1 75 := ⟨by decide +kernel, rfl⟩
theorem eX1_remember_75 : Dc mX1_remember 75 (.iadd) 1 76 := ⟨by decide +kernel, rfl⟩
theorem eX1_remember_76 : Dc mX1_remember 76 (.iload_n 2) 1 77 := ⟨by decide +kernel, rfl⟩
theorem eX1_remember_77 : Dc mX1_remember 77 (.iastore) 1 78 := ⟨by decide +kernel, rfl⟩
theorem eX1_remember_78 : Dc mX1_remember 78 (.aload_n 0) 1 79 := ⟨by decide +kernel, rfl⟩
theorem eX1_remember_79 : Dc mX1_remember 79 (.getfield 11) 3 82 := ⟨by decide +kernel, rfl⟩
theorem eX1_remember_82 : Dc mX1_remember 82 (.iload 6) 2 84 := ⟨by decide +kernel, rfl⟩
theorem eX1_remember_84 : Dc mX1_remember 84 (.iconst 2) 1 85 := ⟨by decide +kernel, rfl⟩
theorem eX1_remember_85 : Dc mX1_remember 85 (.iadd) 1 86 := ⟨by decide +kernel, rfl⟩
theorem eX1_remember_86 : Dc mX1_remember 86 (.iload_n 3) 1 87 := ⟨by decide +kernel, rfl⟩
theorem eX1_remember_87 : Dc mX1_remember 87 (.iastore) 1 88 := ⟨by decide +kernel, rfl⟩
theorem eX1_remember_88 : Dc mX1_remember 88 (.aload_n 0) 1 89 := ⟨by decide +kernel, rfl⟩
theorem eX1_remember_89 : Dc mX1_remember 89 (.getfield 11) 3 92 := ⟨by decide +kernel, rfl⟩
theorem eX1_remember_92 : Dc mX1_remember 92 (.iload 6) 2 94 := ⟨by decide +kernel, rfl⟩
theorem eX1_remember_94 : Dc mX1_remember 94 (.iconst 3) 1 95 := ⟨by decide +kernel, rfl⟩
theorem eX1_remember_95 : Dc mX1_remember 95 (.iadd) 1 96 := ⟨by decide +kernel, rfl⟩
theorem eX1_remember_96 : Dc mX1_remember 96 (.iload 4) 2 98 := ⟨by decide +kernel, rfl⟩
theorem eX1_remember_98 : Dc mX1_remember 98 (.iastore) 1 99 := ⟨by decide +kernel, rfl⟩
theorem eX1_remember_99 : Dc mX1_remember 99 (.aload_n 0) 1 100 := ⟨by decide +kernel, rfl⟩
theorem eX1_remember_100 : Dc mX1_remember 100 (.getfield 11) 3 103 := ⟨by decide +kernel, rfl⟩
theorem eX1_remember_103 : Dc mX1_remember 103 (.iload 6) 2 105 := ⟨by decide +kernel, rfl⟩
theorem eX1_remember_105 : Dc mX1_remember 105 (.iconst 4) 1 106 := ⟨by decide +kernel, rfl⟩
theorem eX1_remember_106 : Dc mX1_remember 106 (.iadd) 1 107 := ⟨by decide +kernel, rfl⟩
theorem eX1_remember_107 : Dc mX1_remember 107 (.iload 5) 2 109 := ⟨by decide +kernel, rfl⟩
theorem eX1_remember_109 : Dc mX1_remember 109 (.iastore) 1 110 := ⟨by decide +kernel, rfl⟩
theorem eX1_remember_110 : Dc mX1_remember 110 (.aload_n 0) 1 111 := ⟨by decide +kernel, rfl⟩
theorem eX1_remember_111 : Dc mX1_remember 111 (.dup) 1 112 := ⟨by decide +kernel, rfl⟩
theorem eX1_remember_112 : Dc mX1_remember 112 (.getfield 15) 3 115 := ⟨by decide +kernel, rfl⟩
theorem eX1_remember_115 : Dc mX1_remember 115 (.iconst 1) 1 116 := ⟨by decide +kernel, rfl⟩
theorem eX1_remember_116 : Dc mX1_remember 116 (.iadd) 1 117 := ⟨by decide +kernel, rfl⟩
theorem eX1_remember_117 : Dc mX1_remember 117 (.putfield 15) 3 120 := ⟨by decide +kernel, rfl⟩
theorem eX1_remember_120 : Dc mX1_remember 120 (.return_) 1 121 := ⟨by decide +kernel, rfl⟩
theorem eX1_rememberBox_0 : Dc mX1_rememberBox 0 (.aload_n 0) 1 1 := ⟨by decide +kernel, rfl⟩
theorem eX1_rememberBox_1 : Dc mX1_rememberBox 1 (.iconst 1) 1 2 := ⟨by decide +kernel, rfl⟩
theorem eX1_rememberBox_2 : Dc mX1_rememberBox 2 (.iload_n 2) 1 3 := ⟨by decide +kernel, rfl⟩
theorem eX1_rememberBox_3 : Dc mX1_rememberBox 3 (.iconst 0) 1 4 := ⟨by decide +kernel, rfl⟩
theorem eX1_rememberBox_4 : Dc mX1_rememberBox 4 (.aload_n 1) 1 5 := ⟨by decide +kernel, rfl⟩
theorem eX1_rememberBox_5 : Dc mX1_rememberBox 5 (.iload_n 2) 1 6 := ⟨by decide +kernel, rfl⟩
theorem eX1_rememberBox_6 : Dc mX1_rememberBox 6 (.invokevirtual 29) 3 9 := ⟨by decide +kernel, rfl⟩
theorem eX1_rememberBox_9 : Dc mX1_rememberBox 9 (.aload_n 1) 1 10 := ⟨by decide +kernel, rfl⟩
theorem eX1_rememberBox_10 : Dc mX1_rememberBox 10 (.iload_n 2) 1 11 := ⟨by decide +kernel, rfl⟩
theorem eX1_rememberBox_11 : Dc mX1_rememberBox 11 (.invokevirtual 33) 3 14 := ⟨by decide +kernel, rfl⟩
theorem eX1_rememberBox_14 : Dc mX1_rememberBox 14 (.invokevirtual 25) 3 17 := ⟨by decide +kernel, rfl⟩
theorem eX1_rememberBox_17 : Dc mX1_rememberBox 17 (.return_) 1 18 := ⟨by decide +kernel, rfl⟩
theorem eX1_rememberCoefficient_0 : Dc mX1_rememberCoefficient 0 (.aload_n 0) 1 1 := ⟨by decide +kernel, rfl⟩
theorem eX1_rememberCoefficient_1 : Dc mX1_rememberCoefficient 1 (.iconst 0) 1 2 := ⟨by decide +kernel, rfl⟩
theorem eX1_rememberCoefficient_2 : Dc mX1_rememberCoefficient 2 (.iload_n 2) 1 3 := ⟨by decide +kernel, rfl⟩
theorem eX1_rememberCoefficient_3 : Dc mX1_rememberCoefficient 3 (.iload_n 3) 1 4 := ⟨by decide +kernel, rfl⟩
theorem eX1_rememberCoefficient_4 : Dc mX1_rememberCoefficient 4 (.aload_n 1) 1 5 := ⟨by decide +kernel, rfl⟩
theorem eX1_rememberCoefficient_5 : Dc mX1_rememberCoefficient 5 (.iload_n 2) 1 6 := ⟨by decide +kernel, rfl⟩
theorem eX1_rememberCoefficient_6 : Dc mX1_rememberCoefficient 6 (.iload_n 3) 1 7 := ⟨by decide +kernel, rfl⟩
theorem eX1_rememberCoefficient_7 : Dc mX1_rememberCoefficient 7 (.invokevirtual 19) 3 10 := ⟨by decide +kernel, rfl⟩
theorem eX1_rememberCoefficient_10 : Dc mX1_rememberCoefficient 10 (.iconst 0) 1 11 := ⟨by decide +kernel, rfl⟩
theorem eX1_rememberCoefficient_11 : Dc mX1_rememberCoefficient 11 (.invokevirtual 25) 3 14 := ⟨by decide +kernel, rfl⟩
theorem eX1_rememberCoefficient_14 : Dc mX1_rememberCoefficient 14 (.return_) 1 15 := ⟨by decide +kernel, rfl⟩
theorem eX1_rememberWish_0 : Dc mX1_rememberWish 0 (.aload_n 0) 1 1 := ⟨by decide +kernel, rfl⟩
theorem eX1_rememberWish_1 : Dc mX1_rememberWish 1 (.iconst 2) 1 2 := ⟨by decide +kernel, rfl⟩
theorem eX1_rememberWish_2 : Dc mX1_rememberWish 2 (.iload_n 2) 1 3 := ⟨by decide +kernel, rfl⟩
theorem eX1_rememberWish_3 : Dc mX1_rememberWish 3 (.iconst 0) 1 4 := ⟨by decide +kernel, rfl⟩
theorem eX1_rememberWish_4 : Dc mX1_rememberWish 4 (.aload_n 1) 1 5 := ⟨by decide +kernel, rfl⟩
theorem eX1_rememberWish_5 : Dc mX1_rememberWish 5 (.iload_n 2) 1 6 := ⟨by decide +kernel, rfl⟩
theorem eX1_rememberWish_6 : Dc mX1_rememberWish 6 (.invokevirtual 36) 3 9 := ⟨by decide +kernel, rfl⟩
theorem eX1_rememberWish_9 : Dc mX1_rememberWish 9 (.iconst 0) 1 10 := ⟨by decide +kernel, rfl⟩
theorem eX1_rememberWish_10 : Dc mX1_rememberWish 10 (.invokevirtual 25) 3 13 := ⟨by decide +kernel, rfl⟩
theorem eX1_rememberWish_13 : Dc mX1_rememberWish 13 (.return_) 1 14 := ⟨by decide +kernel, rfl⟩
theorem eX1_size_0 : Dc mX1_size 0 (.aload_n 0) 1 1 := ⟨by decide +kernel, rfl⟩
theorem eX1_size_1 : Dc mX1_size 1 (.getfield 15) 3 4 := ⟨by decide +kernel, rfl⟩
theorem eX1_size_4 : Dc mX1_size 4 (.ireturn) 1 5 := ⟨by decide +kernel, rfl⟩
theorem eX1_takeBack_0 : Dc mX1_takeBack 0 (.aload_n 0) 1 1 := ⟨by decide +kernel, rfl⟩
theorem eX1_takeBack_1 : Dc mX1_takeBack 1 (.getfield 15) 3 4 := ⟨by decide +kernel, rfl⟩
theorem eX1_takeBack_4 : Dc mX1_takeBack 4 (.iconst 1) 1 5 := ⟨by decide +kernel, rfl⟩
theorem eX1_takeBack_5 : Dc mX1_takeBack 5 (.isub) 1 6 := ⟨by decide +kernel, rfl⟩
theorem eX1_takeBack_6 : Dc mX1_takeBack 6 (.iconst 5) 1 7 := ⟨by decide +kernel, rfl⟩
theorem eX1_takeBack_7 : Dc mX1_takeBack 7 (.imul) 1 8 := ⟨by decide +kernel, rfl⟩
theorem eX1_takeBack_8 : Dc mX1_takeBack 8 (.istore_n 2) 1 9 := ⟨by decide +kernel, rfl⟩
theorem eX1_takeBack_9 : Dc mX1_takeBack 9 (.iload_n 2) 1 10 := ⟨by decide +kernel, rfl⟩
theorem eX1_takeBack_10 : Dj mX1_takeBack 10 (.ifCond .lt) 13 24 := ⟨14, by decide +kernel, rfl, by decide⟩
theorem eX1_takeBack_13 : Dc mX1_takeBack 13 (.iload_n 2) 1 14 := ⟨by decide +kernel, rfl⟩
theorem eX1_takeBack_14 : Dc mX1_takeBack 14 (.iconst 5) 1 15 := ⟨by decide +kernel, rfl⟩
theorem eX1_takeBack_15 : Dc mX1_takeBack 15 (.iadd) 1 16 := ⟨by decide +kernel, rfl⟩
theorem eX1_takeBack_16 : Dc mX1_takeBack 16 (.aload_n 0) 1 17 := ⟨by decide +kernel, rfl⟩
theorem eX1_takeBack_17 : Dc mX1_takeBack 17 (.getfield 11) 3 20 := ⟨by decide +kernel, rfl⟩
theorem eX1_takeBack_20 : Dc mX1_takeBack 20 (.arraylength) 1 21 := ⟨by decide +kernel, rfl⟩
theorem eX1_takeBack_21 : Dj mX1_takeBack 21 (.if_icmp .le) 24 25 := ⟨4, by decide +kernel, rfl, by decide⟩
theorem eX1_takeBack_24 : Dc mX1_takeBack 24 (.return_) 1 25 := ⟨by decide +kernel, rfl⟩
theorem eX1_takeBack_25 : Dc mX1_takeBack 25 (.aload_n 0) 1 26 := ⟨by decide +kernel, rfl⟩
theorem eX1_takeBack_26 : Dc mX1_takeBack 26 (.dup) 1 27 := ⟨by decide +kernel, rfl⟩
theorem eX1_takeBack_27 : Dc mX1_takeBack 27 (.getfield 15) 3 30 := ⟨by decide +kernel, rfl⟩
theorem eX1_takeBack_30 : Dc mX1_takeBack 30 (.iconst 1) 1 31 := ⟨by decide +kernel, rfl⟩
theorem eX1_takeBack_31 : Dc mX1_takeBack 31 (.isub) 1 32 := ⟨by decide +kernel, rfl⟩
theorem eX1_takeBack_32 : Dc mX1_takeBack 32 (.putfield 15) 3 35 := ⟨by decide +kernel, rfl⟩
theorem eX1_takeBack_35 : Dc mX1_takeBack 35 (.aload_n 0) 1 36 := ⟨by decide +kernel, rfl⟩
theorem eX1_takeBack_36 : Dc mX1_takeBack 36 (.getfield 11) 3 39 := ⟨by decide +kernel, rfl⟩
theorem eX1_takeBack_39 : Dc mX1_takeBack 39 (.iload_n 2) 1 40 := ⟨by decide +kernel, rfl⟩
theorem eX1_takeBack_40 : Dc mX1_takeBack 40 (.iconst 1) 1 41 := ⟨by decide +kernel, rfl⟩
theorem eX1_takeBack_41 : Dc mX1_takeBack 41 (.iadd) 1 42 := ⟨by decide +kernel, rfl⟩
theorem eX1_takeBack_42 : Dc mX1_takeBack 42 (.iaload) 1 43 := ⟨by decide +kernel, rfl⟩
theorem eX1_takeBack_43 : Dc mX1_takeBack 43 (.istore_n 3) 1 44 := ⟨by decide +kernel, rfl⟩
theorem eX1_takeBack_44 : Dc mX1_takeBack 44 (.aload_n 0) 1 45 := ⟨by decide +kernel, rfl⟩
theorem eX1_takeBack_45 : Dc mX1_takeBack 45 (.getfield 11) 3 48 := ⟨by decide +kernel, rfl⟩
theorem eX1_takeBack_48 : Dc mX1_takeBack 48 (.iload_n 2) 1 49 := ⟨by decide +kernel, rfl⟩
theorem eX1_takeBack_49 : Dc mX1_takeBack 49 (.iaload) 1 50 := ⟨by decide +kernel, rfl⟩
theorem eX1_takeBack_50 : Dj mX1_takeBack 50 (.ifCond .ne) 53 77 := ⟨27, by decide +kernel, rfl, by decide⟩
theorem eX1_takeBack_53 : Dc mX1_takeBack 53 (.aload_n 1) 1 54 := ⟨by decide +kernel, rfl⟩
theorem eX1_takeBack_54 : Dc mX1_takeBack 54 (.iload_n 3) 1 55 := ⟨by decide +kernel, rfl⟩
theorem eX1_takeBack_55 : Dc mX1_takeBack 55 (.aload_n 0) 1 56 := ⟨by decide +kernel, rfl⟩
theorem eX1_takeBack_56 : Dc mX1_takeBack 56 (.getfield 11) 3 59 := ⟨by decide +kernel, rfl⟩
theorem eX1_takeBack_59 : Dc mX1_takeBack 59 (.iload_n 2) 1 60 := ⟨by decide +kernel, rfl⟩
theorem eX1_takeBack_60 : Dc mX1_takeBack 60 (.iconst 2) 1 61 := ⟨by decide +kernel, rfl⟩
theorem eX1_takeBack_61 : Dc mX1_takeBack 61 (.iadd) 1 62 := ⟨by decide +kernel, rfl⟩
theorem eX1_takeBack_62 : Dc mX1_takeBack 62 (.iaload) 1 63 := ⟨by decide +kernel, rfl⟩
theorem eX1_takeBack_63 : Dc mX1_takeBack 63 (.aload_n 0) 1 64 := ⟨by decide +kernel, rfl⟩
theorem eX1_takeBack_64 : Dc mX1_takeBack 64 (.getfield 11) 3 67 := ⟨by decide +kernel, rfl⟩
theorem eX1_takeBack_67 : Dc mX1_takeBack 67 (.iload_n 2) 1 68 := ⟨by decide +kernel, rfl⟩
theorem eX1_takeBack_68 : Dc mX1_takeBack 68 (.iconst 3) 1 69 := ⟨by decide +kernel, rfl⟩
theorem eX1_takeBack_69 : Dc mX1_takeBack 69 (.iadd) 1 70 := ⟨by decide +kernel, rfl⟩
theorem eX1_takeBack_70 : Dc mX1_takeBack 70 (.iaload) 1 71 := ⟨by decide +kernel, rfl⟩
theorem eX1_takeBack_71 : Dc mX1_takeBack 71 (.invokevirtual 45) 3 74 := ⟨by decide +kernel, rfl⟩
theorem eX1_takeBack_74 : Dj mX1_takeBack 74 (.goto) 77 124 := ⟨50, by decide +kernel, rfl, by decide⟩
theorem eX1_takeBack_77 : Dc mX1_takeBack 77 (.aload_n 0) 1 78 := ⟨by decide +kernel, rfl⟩
theorem eX1_takeBack_78 : Dc mX1_takeBack 78 (.getfield 11) 3 81 := ⟨by decide +kernel, rfl⟩
theorem eX1_takeBack_81 : Dc mX1_takeBack 81 (.iload_n 2) 1 82 := ⟨by decide +kernel, rfl⟩
theorem eX1_takeBack_82 : Dc mX1_takeBack 82 (.iaload) 1 83 := ⟨by decide +kernel, rfl⟩
theorem eX1_takeBack_83 : Dc mX1_takeBack 83 (.iconst 1) 1 84 := ⟨by decide +kernel, rfl⟩
theorem eX1_takeBack_84 : Dj mX1_takeBack 84 (.if_icmp .ne) 87 111 := ⟨27, by decide +kernel, rfl, by decide⟩
theorem eX1_takeBack_87 : Dc mX1_takeBack 87 (.aload_n 1) 1 88 := ⟨by decide +kernel, rfl⟩
theorem eX1_takeBack_88 : Dc mX1_takeBack 88 (.iload_n 3) 1 89 := ⟨by decide +kernel, rfl⟩
theorem eX1_takeBack_89 : Dc mX1_takeBack 89 (.aload_n 0) 1 90 := ⟨by decide +kernel, rfl⟩
theorem eX1_takeBack_90 : Dc mX1_takeBack 90 (.getfield 11) 3 93 := ⟨by decide +kernel, rfl⟩
theorem eX1_takeBack_93 : Dc mX1_takeBack 93 (.iload_n 2) 1 94 := ⟨by decide +kernel, rfl⟩
theorem eX1_takeBack_94 : Dc mX1_takeBack 94 (.iconst 3) 1 95 := ⟨by decide +kernel, rfl⟩
theorem eX1_takeBack_95 : Dc mX1_takeBack 95 (.iadd) 1 96 := ⟨by decide +kernel, rfl⟩
theorem eX1_takeBack_96 : Dc mX1_takeBack 96 (.iaload) 1 97 := ⟨by decide +kernel, rfl⟩
theorem eX1_takeBack_97 : Dc mX1_takeBack 97 (.aload_n 0) 1 98 := ⟨by decide +kernel, rfl⟩
theorem eX1_takeBack_98 : Dc mX1_takeBack 98 (.getfield 11) 3 101 := ⟨by decide +kernel, rfl⟩
theorem eX1_takeBack_101 : Dc mX1_takeBack 101 (.iload_n 2) 1 102 := ⟨by decide +kernel, rfl⟩
theorem eX1_takeBack_102 : Dc mX1_takeBack 102 (.iconst 4) 1 103 := ⟨by decide +kernel, rfl⟩
theorem eX1_takeBack_103 : Dc mX1_takeBack 103 (.iadd) 1 104 := ⟨by decide +kernel, rfl⟩
theorem eX1_takeBack_104 : Dc mX1_takeBack 104 (.iaload) 1 105 := ⟨by decide +kernel, rfl⟩
theorem eX1_takeBack_105 : Dc mX1_takeBack 105 (.invokevirtual 49) 3 108 := ⟨by decide +kernel, rfl⟩
theorem eX1_takeBack_108 : Dj mX1_takeBack 108 (.goto) 111 124 := ⟨16, by decide +kernel, rfl, by decide⟩
theorem eX1_takeBack_111 : Dc mX1_takeBack 111 (.aload_n 1) 1 112 := ⟨by decide +kernel, rfl⟩
theorem eX1_takeBack_112 : Dc mX1_takeBack 112 (.iload_n 3) 1 113 := ⟨by decide +kernel, rfl⟩
theorem eX1_takeBack_113 : Dc mX1_takeBack 113 (.aload_n 0) 1 114 := ⟨by decide +kernel, rfl⟩
theorem eX1_takeBack_114 : Dc mX1_takeBack 114 (.getfield 11) 3 117 := ⟨by decide +kernel, rfl⟩
theorem eX1_takeBack_117 : Dc mX1_takeBack 117 (.iload_n 2) 1 118 := ⟨by decide +kernel, rfl⟩
theorem eX1_takeBack_118 : Dc mX1_takeBack 118 (.iconst 3) 1 119 := ⟨by decide +kernel, rfl⟩
theorem eX1_takeBack_119 : Dc mX1_takeBack 119 (.iadd) 1 120 := ⟨by decide +kernel, rfl⟩
theorem eX1_takeBack_120 : Dc mX1_takeBack 120 (.iaload) 1 121 := ⟨by decide +kernel, rfl⟩
theorem eX1_takeBack_121 : Dc mX1_takeBack 121 (.invokevirtual 52) 3 124 := ⟨by decide +kernel, rfl⟩
theorem eX1_takeBack_124 : Dc mX1_takeBack 124 (.return_) 1 125 := ⟨by decide +kernel, rfl⟩
theorem eX2_add_0 : Dc mX2_add 0 (.aload_n 0) 1 1 := ⟨by decide +kernel, rfl⟩
theorem eX2_add_1 : Dc mX2_add 1 (.getfield 15) 3 4 := ⟨by decide +kernel, rfl⟩
theorem eX2_add_4 : Dj mX2_add 4 (.ifCond .lt) 7 39 := ⟨35, by decide +kernel, rfl, by decide⟩
theorem eX2_add_7 : Dc mX2_add 7 (.aload_n 0) 1 8 := ⟨by decide +kernel, rfl⟩
theorem eX2_add_8 : Dc mX2_add 8 (.getfield 15) 3 11 := ⟨by decide +kernel, rfl⟩
theorem eX2_add_11 : Dc mX2_add 11 (.aload_n 0) 1 12 := ⟨by decide +kernel, rfl⟩
theorem eX2_add_12 : Dc mX2_add 12 (.getfield 9) 3 15 := ⟨by decide +kernel, rfl⟩
theorem eX2_add_15 : Dc mX2_add 15 (.arraylength) 1 16 := ⟨by decide +kernel, rfl⟩
theorem eX2_add_16 : Dj mX2_add 16 (.if_icmp .ge) 19 39 := ⟨23, by decide +kernel, rfl, by decide⟩
theorem eX2_add_19 : Dc mX2_add 19 (.aload_n 0) 1 20 := ⟨by decide +kernel, rfl⟩
theorem eX2_add_20 : Dc mX2_add 20 (.getfield 9) 3 23 := ⟨by decide +kernel, rfl⟩
theorem eX2_add_23 : Dc mX2_add 23 (.aload_n 0) 1 24 := ⟨by decide +kernel, rfl⟩
theorem eX2_add_24 : Dc mX2_add 24 (.getfield 15) 3 27 := ⟨by decide +kernel, rfl⟩
theorem eX2_add_27 : Dc mX2_add 27 (.iload_n 1) 1 28 := ⟨by decide +kernel, rfl⟩
theorem eX2_add_28 : Dc mX2_add 28 (.iastore) 1 29 := ⟨by decide +kernel, rfl⟩
theorem eX2_add_29 : Dc mX2_add 29 (.aload_n 0) 1 30 := ⟨by decide +kernel, rfl⟩
theorem eX2_add_30 : Dc mX2_add 30 (.dup) 1 31 := ⟨by decide +kernel, rfl⟩
theorem eX2_add_31 : Dc mX2_add 31 (.getfield 15) 3 34 := ⟨by decide +kernel, rfl⟩
theorem eX2_add_34 : Dc mX2_add 34 (.iconst 1) 1 35 := ⟨by decide +kernel, rfl⟩
theorem eX2_add_35 : Dc mX2_add 35 (.iadd) 1 36 := ⟨by decide +kernel, rfl⟩
theorem eX2_add_36 : Dc mX2_add 36 (.putfield 15) 3 39 := ⟨by decide +kernel, rfl⟩
theorem eX2_add_39 : Dc mX2_add 39 (.return_) 1 40 := ⟨by decide +kernel, rfl⟩
theorem eX2_isRight_0 : Dc mX2_isRight 0 (.aload_n 1) 1 1 := ⟨by decide +kernel, rfl⟩
theorem eX2_isRight_1 : Dc mX2_isRight 1 (.aload_n 0) 1 2 := ⟨by decide +kernel, rfl⟩
theorem eX2_isRight_2 : Dc mX2_isRight 2 (.iload_n 2) 1 3 := ⟨by decide +kernel, rfl⟩
theorem eX2_isRight_3 : Dc mX2_isRight 3 (.iload_n 3) 1 4 := ⟨by decide +kernel, rfl⟩
theorem eX2_isRight_4 : Dc mX2_isRight 4 (.invokevirtual 78) 3 7 := ⟨by decide +kernel, rfl⟩
theorem eX2_isRight_7 : Dc mX2_isRight 7 (.aload_n 1) 1 8 := ⟨by decide +kernel, rfl⟩
theorem eX2_isRight_8 : Dc mX2_isRight 8 (.iconst 1) 1 9 := ⟨by decide +kernel, rfl⟩
theorem eX2_isRight_9 : Dc mX2_isRight 9 (.invokevirtual 55) 3 12 := ⟨by decide +kernel, rfl⟩
theorem eX2_isRight_12 : Dc mX2_isRight 12 (.ireturn) 1 13 := ⟨by decide +kernel, rfl⟩
theorem eX2_leastFigure_0 : Dc mX2_leastFigure 0 (.aload_n 1) 1 1 := ⟨by decide +kernel, rfl⟩
theorem eX2_leastFigure_1 : Dc mX2_leastFigure 1 (.aload_n 0) 1 2 := ⟨by decide +kernel, rfl⟩
theorem eX2_leastFigure_2 : Dc mX2_leastFigure 2 (.iload_n 2) 1 3 := ⟨by decide +kernel, rfl⟩
theorem eX2_leastFigure_3 : Dc mX2_leastFigure 3 (.invokevirtual 51) 3 6 := ⟨by decide +kernel, rfl⟩
theorem eX2_leastFigure_6 : Dc mX2_leastFigure 6 (.iconst 0) 1 7 := ⟨by decide +kernel, rfl⟩
theorem eX2_leastFigure_7 : Dc mX2_leastFigure 7 (.istore_n 3) 1 8 := ⟨by decide +kernel, rfl⟩
theorem eX2_leastFigure_8 : Dc mX2_leastFigure 8 (.iload_n 3) 1 9 := ⟨by decide +kernel, rfl⟩
theorem eX2_leastFigure_9 : Dc mX2_leastFigure 9 (.iconst 2) 1 10 := ⟨by decide +kernel, rfl⟩
theorem eX2_leastFigure_10 : Dj mX2_leastFigure 10 (.if_icmp .gt) 13 38 := ⟨28, by decide +kernel, rfl, by decide⟩
theorem eX2_leastFigure_13 : Dc mX2_leastFigure 13 (.aload_n 1) 1 14 := ⟨by decide +kernel, rfl⟩
theorem eX2_leastFigure_14 : Dc mX2_leastFigure 14 (.iconst 1) 1 15 := ⟨by decide +kernel, rfl⟩
theorem eX2_leastFigure_15 : Dc mX2_leastFigure 15 (.invokevirtual 55) 3 18 := ⟨by decide +kernel, rfl⟩
theorem eX2_leastFigure_18 : Dj mX2_leastFigure 18 (.ifCond .eq) 21 23 := ⟨5, by decide +kernel, rfl, by decide⟩
theorem eX2_leastFigure_21 : Dc mX2_leastFigure 21 (.iload_n 3) 1 22 := ⟨by decide +kernel, rfl⟩
theorem eX2_leastFigure_22 : Dc mX2_leastFigure 22 (.ireturn) 1 23 := ⟨by decide +kernel, rfl⟩
theorem eX2_leastFigure_23 : Dc mX2_leastFigure 23 (.iload_n 3) 1 24 := ⟨by decide +kernel, rfl⟩
theorem eX2_leastFigure_24 : Dc mX2_leastFigure 24 (.iconst 2) 1 25 := ⟨by decide +kernel, rfl⟩
theorem eX2_leastFigure_25 : Dj mX2_leastFigure 25 (.if_icmp .ge) 28 32 := ⟨7, by decide +kernel, rfl, by decide⟩
theorem eX2_leastFigure_28 : Dc mX2_leastFigure 28 (.aload_n 1) 1 29 := ⟨by decide +kernel, rfl⟩
theorem eX2_leastFigure_29 : Dc mX2_leastFigure 29 (.invokevirtual 59) 3 32 := ⟨by decide +kernel, rfl⟩
theorem eX2_leastFigure_32 : Dc mX2_leastFigure 32 (.iinc 3 1) 3 35 := ⟨by decide +kernel, rfl⟩
theorem eX2_leastFigure_35 : Dj mX2_leastFigure 35 (.goto) 38 8 := ⟨-27, by decide +kernel, rfl, by decide⟩
theorem eX2_leastFigure_38 : Dc mX2_leastFigure 38 (.bipush (-9)) 2 40 := ⟨by decide +kernel, rfl⟩
theorem eX2_leastFigure_40 : Dc mX2_leastFigure 40 (.ireturn) 1 41 := ⟨by decide +kernel, rfl⟩
theorem eX2_letter_0 : Dc mX2_letter 0 (.iload_n 1) 1 1 := ⟨by decide +kernel, rfl⟩
theorem eX2_letter_1 : Dj mX2_letter 1 (.ifCond .lt) 4 30 := ⟨29, by decide +kernel, rfl, by decide⟩
theorem eX2_letter_4 : Dc mX2_letter 4 (.iload_n 1) 1 5 := ⟨by decide +kernel, rfl⟩
theorem eX2_letter_5 : Dc mX2_letter 5 (.aload_n 0) 1 6 := ⟨by decide +kernel, rfl⟩
theorem eX2_letter_6 : Dc mX2_letter 6 (.getfield 15) 3 9 := ⟨by decide +kernel, rfl⟩
theorem eX2_letter_9 : Dj mX2_letter 9 (.if_icmp .ge) 12 30 := ⟨21, by decide +kernel, rfl, by decide⟩
theorem eX2_letter_12 : Dc mX2_letter 12 (.iload_n 1) 1 13 := ⟨by decide +kernel, rfl⟩
theorem eX2_letter_13 : Dc mX2_letter 13 (.aload_n 0) 1 14 := ⟨by decide +kernel, rfl⟩
theorem eX2_letter_14 : Dc mX2_letter 14 (.getfield 9) 3 17 := ⟨by decide +kernel, rfl⟩
theorem eX2_letter_17 : Dc mX2_letter 17 (.arraylength) 1 18 := ⟨by decide +kernel, rfl⟩
theorem eX2_letter_18 : Dj mX2_letter 18 (.if_icmp .ge) 21 30 := ⟨12, by decide +kernel, rfl, by decide⟩
theorem eX2_letter_21 : Dc mX2_letter 21 (.aload_n 0) 1 22 := ⟨by decide +kernel, rfl⟩
theorem eX2_letter_22 : Dc mX2_letter 22 (.getfield 9) 3 25 := ⟨by decide +kernel, rfl⟩
theorem eX2_letter_25 : Dc mX2_letter 25 (.iload_n 1) 1 26 := ⟨by decide +kernel, rfl⟩
theorem eX2_letter_26 : Dc mX2_letter 26 (.iaload) 1 27 := ⟨by decide +kernel, rfl⟩
theorem eX2_letter_27 : Dj mX2_letter 27 (.goto) 30 32 := ⟨5, by decide +kernel, rfl, by decide⟩
theorem eX2_letter_30 : Dc mX2_letter 30 (.bipush (-9)) 2 32 := ⟨by decide +kernel, rfl⟩
theorem eX2_letter_32 : Dc mX2_letter 32 (.ireturn) 1 33 := ⟨by decide +kernel, rfl⟩
theorem eX2_place_0 : Dc mX2_place 0 (.aload_n 0) 1 1 := ⟨by decide +kernel, rfl⟩
theorem eX2_place_1 : Dc mX2_place 1 (.getfield 19) 3 4 := ⟨by decide +kernel, rfl⟩
theorem eX2_place_4 : Dc mX2_place 4 (.ireturn) 1 5 := ⟨by decide +kernel, rfl⟩
theorem eX2_read_0 : Dc mX2_read 0 (.iconst 1) 1 1 := ⟨by decide +kernel, rfl⟩
theorem eX2_read_1 : Dc mX2_read 1 (.istore 4) 2 3 := ⟨by decide +kernel, rfl⟩
theorem eX2_read_3 : Dc mX2_read 3 (.iconst 1) 1 4 := ⟨by decide +kernel, rfl⟩
theorem eX2_read_4 : Dc mX2_read 4 (.istore 5) 2 6 := ⟨by decide +kernel, rfl⟩
theorem eX2_read_6 : Dc mX2_read 6 (.iconst 0) 1 7 := ⟨by decide +kernel, rfl⟩
theorem eX2_read_7 : Dc mX2_read 7 (.istore 6) 2 9 := ⟨by decide +kernel, rfl⟩
theorem eX2_read_9 : Dc mX2_read 9 (.iload 6) 2 11 := ⟨by decide +kernel, rfl⟩
theorem eX2_read_11 : Dc mX2_read 11 (.aload_n 3) 1 12 := ⟨by decide +kernel, rfl⟩
theorem eX2_read_12 : Dc mX2_read 12 (.invokevirtual 62) 3 15 := ⟨by decide +kernel, rfl⟩
theorem eX2_read_15 : Dj mX2_read 15 (.if_icmp .ge) 18 122 := ⟨107, by decide +kernel, rfl, by decide⟩
theorem eX2_read_18 : Dc mX2_read 18 (.aload_n 3) 1 19 := ⟨by decide +kernel, rfl⟩
theorem eX2_read_19 : Dc mX2_read 19 (.iload 6) 2 21 := ⟨by decide +kernel, rfl⟩
theorem eX2_read_21 : Dc mX2_read 21 (.invokevirtual 67) 3 24 := ⟨by decide +kernel, rfl⟩
theorem eX2_read_24 : Dc mX2_read 24 (.istore 7) 2 26 := ⟨by decide +kernel, rfl⟩
theorem eX2_read_26 : Dc mX2_read 26 (.iload 7) 2 28 := ⟨by decide +kernel, rfl⟩
theorem eX2_read_28 : Dc mX2_read 28 (.bipush 48) 2 30 := ⟨by decide +kernel, rfl⟩
theorem eX2_read_30 : Dc mX2_read 30 (.isub) 1 31 := ⟨by decide +kernel, rfl⟩
theorem eX2_read_31 : Dc mX2_read 31 (.istore 8) 2 33 := ⟨by decide +kernel, rfl⟩
theorem eX2_read_33 : Dc mX2_read 33 (.iload 5) 2 35 := ⟨by decide +kernel, rfl⟩
theorem eX2_read_35 : Dj mX2_read 35 (.ifCond .eq) 38 82 := ⟨47, by decide +kernel, rfl, by decide⟩
theorem eX2_read_38 : Dc mX2_read 38 (.iload 8) 2 40 := ⟨by decide +kernel, rfl⟩
theorem eX2_read_40 : Dc mX2_read 40 (.iconst 0) 1 41 := ⟨by decide +kernel, rfl⟩
theorem eX2_read_41 : Dc mX2_read 41 (.iconst 2) 1 42 := ⟨by decide +kernel, rfl⟩
theorem eX2_read_42 : Dc mX2_read 42 (.invokestatic 70) 3 45 := ⟨by decide +kernel, rfl⟩
theorem eX2_read_45 : Dj mX2_read 45 (.ifCond .eq) 48 82 := ⟨37, by decide +kernel, rfl, by decide⟩
theorem eX2_read_48 : Dc mX2_read 48 (.iload 4) 2 50 := ⟨by decide +kernel, rfl⟩
theorem eX2_read_50 : Dj mX2_read 50 (.ifCond .eq) 53 69 := ⟨19, by decide +kernel, rfl, by decide⟩
theorem eX2_read_53 : Dc mX2_read 53 (.aload_n 1) 1 54 := ⟨by decide +kernel, rfl⟩
theorem eX2_read_54 : Dc mX2_read 54 (.aload_n 2) 1 55 := ⟨by decide +kernel, rfl⟩
theorem eX2_read_55 : Dc mX2_read 55 (.iload 5) 2 57 := ⟨by decide +kernel, rfl⟩
theorem eX2_read_57 : Dc mX2_read 57 (.iload 8) 2 59 := ⟨by decide +kernel, rfl⟩
theorem eX2_read_59 : Dc mX2_read 59 (.invokestatic 74) 3 62 := ⟨by decide +kernel, rfl⟩
theorem eX2_read_62 : Dj mX2_read 62 (.ifCond .eq) 65 69 := ⟨7, by decide +kernel, rfl, by decide⟩
theorem eX2_read_65 : Dc mX2_read 65 (.iconst 1) 1 66 := ⟨by decide +kernel, rfl⟩
theorem eX2_read_66 : Dj mX2_read 66 (.goto) 69 70 := ⟨4, by decide +kernel, rfl, by decide⟩
theorem eX2_read_69 : Dc mX2_read 69 (.iconst 0) 1 70 := ⟨by decide +kernel, rfl⟩
theorem eX2_read_70 : Dc mX2_read 70 (.istore 4) 2 72 := ⟨by decide +kernel, rfl⟩
theorem eX2_read_72 : Dc mX2_read 72 (.iload 5) 2 74 := ⟨by decide +kernel, rfl⟩
theorem eX2_read_74 : Dc mX2_read 74 (.invokestatic 30) 3 77 := ⟨by decide +kernel, rfl⟩
theorem eX2_read_77 : Dc mX2_read 77 (.istore 5) 2 79 := ⟨by decide +kernel, rfl⟩
theorem eX2_read_79 : Dj mX2_read 79 (.goto) 82 116 := ⟨37, by decide +kernel, rfl, by decide⟩
theorem eX2_read_82 : Dc mX2_read 82 (.iload 5) 2 84 := ⟨by decide +kernel, rfl⟩
theorem eX2_read_84 : Dj mX2_read 84 (.ifCond .eq) 87 110 := ⟨26, by decide +kernel, rfl, by decide⟩
theorem eX2_read_87 : Dc mX2_read 87 (.iload 5) 2 89 := ⟨by decide +kernel, rfl⟩
theorem eX2_read_89 : Dc mX2_read 89 (.bipush 64) 2 91 := ⟨by decide +kernel, rfl⟩
theorem eX2_read_91 : Dj mX2_read 91 (.if_icmp .ge) 94 110 := ⟨19, by decide +kernel, rfl, by decide⟩
theorem eX2_read_94 : Dc mX2_read 94 (.iload 7) 2 96 := ⟨by decide +kernel, rfl⟩
theorem eX2_read_96 : Dc mX2_read 96 (.bipush 115) 2 98 := ⟨by decide +kernel, rfl⟩
theorem eX2_read_98 : Dj mX2_read 98 (.if_icmp .ne) 101 110 := ⟨12, by decide +kernel, rfl, by decide⟩
theorem eX2_read_101 : Dc mX2_read 101 (.iconst 2) 1 102 := ⟨by decide +kernel, rfl⟩
theorem eX2_read_102 : Dc mX2_read 102 (.iload 5) 2 104 := ⟨by decide +kernel, rfl⟩
theorem eX2_read_104 : Dc mX2_read 104 (.imul) 1 105 := ⟨by decide +kernel, rfl⟩
theorem eX2_read_105 : Dc mX2_read 105 (.istore 5) 2 107 := ⟨by decide +kernel, rfl⟩
theorem eX2_read_107 : Dj mX2_read 107 (.goto) 110 116 := ⟨9, by decide +kernel, rfl, by decide⟩
theorem eX2_read_110 : Dc mX2_read 110 (.bipush (-10)) 2 112 := ⟨by decide +kernel, rfl⟩
theorem eX2_read_112 : Dc mX2_read 112 (.iload 6) 2 114 := ⟨by decide +kernel, rfl⟩
theorem eX2_read_114 : Dc mX2_read 114 (.isub) 1 115 := ⟨by decide +kernel, rfl⟩
theorem eX2_read_115 : Dc mX2_read 115 (.ireturn) 1 116 := ⟨by decide +kernel, rfl⟩
theorem eX2_read_116 : Dc mX2_read 116 (.iinc 6 1) 3 119 := ⟨by decide +kernel, rfl⟩
theorem eX2_read_119 : Dj mX2_read 119 (.goto) 122 9 := ⟨-110, by decide +kernel, rfl, by decide⟩
theorem eX2_read_122 : Dc mX2_read 122 (.iload 5) 2 124 := ⟨by decide +kernel, rfl⟩
theorem eX2_read_124 : Dj mX2_read 124 (.ifCond .eq) 127 135 := ⟨11, by decide +kernel, rfl, by decide⟩
theorem eX2_read_127 : Dc mX2_read 127 (.bipush (-10)) 2 129 := ⟨by decide +kernel, rfl⟩
theorem eX2_read_129 : Dc mX2_read 129 (.aload_n 3) 1 130 := ⟨by decide +kernel, rfl⟩
theorem eX2_read_130 : Dc mX2_read 130 (.invokevirtual 62) 3 133 := ⟨by decide +kernel, rfl⟩
theorem eX2_read_133 : Dc mX2_read 133 (.isub) 1 134 := ⟨by decide +kernel, rfl⟩
theorem eX2_read_134 : Dc mX2_read 134 (.ireturn) 1 135 := ⟨by decide +kernel, rfl⟩
theorem eX2_read_135 : Dc mX2_read 135 (.iload 4) 2 137 := ⟨by decide +kernel, rfl⟩
theorem eX2_read_137 : Dj mX2_read 137 (.ifCond .eq) 140 144 := ⟨7, by decide +kernel, rfl, by decide⟩
theorem eX2_read_140 : Dc mX2_read 140 (.iconst 1) 1 141 := ⟨by decide +kernel, rfl⟩
theorem eX2_read_141 : Dj mX2_read 141 (.goto) 144 145 := ⟨4, by decide +kernel, rfl, by decide⟩
theorem eX2_read_144 : Dc mX2_read 144 (.iconst 0) 1 145 := ⟨by decide +kernel, rfl⟩
theorem eX2_read_145 : Dc mX2_read 145 (.ireturn) 1 146 := ⟨by decide +kernel, rfl⟩
theorem eX2_write_0 : Dc mX2_write 0 (.aload_n 0) 1 1 := ⟨by decide +kernel, rfl⟩
theorem eX2_write_1 : Dc mX2_write 1 (.iconst 0) 1 2 := ⟨by decide +kernel, rfl⟩
theorem eX2_write_2 : Dc mX2_write 2 (.putfield 15) 3 5 := ⟨by decide +kernel, rfl⟩
theorem eX2_write_5 : Dc mX2_write 5 (.iconst 1) 1 6 := ⟨by decide +kernel, rfl⟩
theorem eX2_write_6 : Dc mX2_write 6 (.istore_n 3) 1 7 := ⟨by decide +kernel, rfl⟩
theorem eX2_write_7 : Dc mX2_write 7 (.iconst 0) 1 8 := ⟨by decide +kernel, rfl⟩
theorem eX2_write_8 : Dc mX2_write 8 (.istore 4) 2 10 := ⟨by decide +kernel, rfl⟩
theorem eX2_write_10 : Dc mX2_write 10 (.iload 4) 2 12 := ⟨by decide +kernel, rfl⟩
theorem eX2_write_12 : Dc mX2_write 12 (.bipush 127) 2 14 := ⟨by decide +kernel, rfl⟩
theorem eX2_write_14 : Dj mX2_write 14 (.if_icmp .ge) 17 116 := ⟨102, by decide +kernel, rfl, by decide⟩
theorem eX2_write_17 : Dc mX2_write 17 (.iload_n 3) 1 18 := ⟨by decide +kernel, rfl⟩
theorem eX2_write_18 : Dj mX2_write 18 (.ifCond .eq) 21 116 := ⟨98, by decide +kernel, rfl, by decide⟩
theorem eX2_write_21 : Dc mX2_write 21 (.aload_n 1) 1 22 := ⟨by decide +kernel, rfl⟩
theorem eX2_write_22 : Dc mX2_write 22 (.aload_n 2) 1 23 := ⟨by decide +kernel, rfl⟩
theorem eX2_write_23 : Dc mX2_write 23 (.iload_n 3) 1 24 := ⟨by decide +kernel, rfl⟩
theorem eX2_write_24 : Dc mX2_write 24 (.invokestatic 22) 3 27 := ⟨by decide +kernel, rfl⟩
theorem eX2_write_27 : Dc mX2_write 27 (.istore 5) 2 29 := ⟨by decide +kernel, rfl⟩
theorem eX2_write_29 : Dc mX2_write 29 (.iload 5) 2 31 := ⟨by decide +kernel, rfl⟩
theorem eX2_write_31 : Dc mX2_write 31 (.bipush (-9)) 2 33 := ⟨by decide +kernel, rfl⟩
theorem eX2_write_33 : Dj mX2_write 33 (.if_icmp .eq) 36 53 := ⟨20, by decide +kernel, rfl, by decide⟩
theorem eX2_write_36 : Dc mX2_write 36 (.aload_n 0) 1 37 := ⟨by decide +kernel, rfl⟩
theorem eX2_write_37 : Dc mX2_write 37 (.bipush 48) 2 39 := ⟨by decide +kernel, rfl⟩
theorem eX2_write_39 : Dc mX2_write 39 (.iload 5) 2 41 := ⟨by decide +kernel, rfl⟩
theorem eX2_write_41 : Dc mX2_write 41 (.iadd) 1 42 := ⟨by decide +kernel, rfl⟩
theorem eX2_write_42 : Dc mX2_write 42 (.invokevirtual 26) 3 45 := ⟨by decide +kernel, rfl⟩
theorem eX2_write_45 : Dc mX2_write 45 (.iload_n 3) 1 46 := ⟨by decide +kernel, rfl⟩
theorem eX2_write_46 : Dc mX2_write 46 (.invokestatic 30) 3 49 := ⟨by decide +kernel, rfl⟩
theorem eX2_write_49 : Dc mX2_write 49 (.istore_n 3) 1 50 := ⟨by decide +kernel, rfl⟩
theorem eX2_write_50 : Dj mX2_write 50 (.goto) 53 110 := ⟨60, by decide +kernel, rfl, by decide⟩
theorem eX2_write_53 : Dc mX2_write 53 (.aload_n 2) 1 54 := ⟨by decide +kernel, rfl⟩
theorem eX2_write_54 : Dc mX2_write 54 (.invokevirtual 34) 3 57 := ⟨by decide +kernel, rfl⟩
theorem eX2_write_57 : Dj mX2_write 57 (.ifCond .gt) 60 72 := ⟨15, by decide +kernel, rfl, by decide⟩
theorem eX2_write_60 : Dc mX2_write 60 (.aload_n 0) 1 61 := ⟨by decide +kernel, rfl⟩
theorem eX2_write_61 : Dc mX2_write 61 (.aload_n 1) 1 62 := ⟨by decide +kernel, rfl⟩
theorem eX2_write_62 : Dc mX2_write 62 (.iload_n 3) 1 63 := ⟨by decide +kernel, rfl⟩
theorem eX2_write_63 : Dc mX2_write 63 (.invokevirtual 40) 3 66 := ⟨by decide +kernel, rfl⟩
theorem eX2_write_66 : Dc mX2_write 66 (.putfield 19) 3 69 := ⟨by decide +kernel, rfl⟩
theorem eX2_write_69 : Dc mX2_write 69 (.bipush (-7)) 2 71 := ⟨by decide +kernel, rfl⟩
theorem eX2_write_71 : Dc mX2_write 71 (.ireturn) 1 72 := ⟨by decide +kernel, rfl⟩
theorem eX2_write_72 : Dc mX2_write 72 (.aload_n 2) 1 73 := ⟨by decide +kernel, rfl⟩
theorem eX2_write_73 : Dc mX2_write 73 (.invokevirtual 45) 3 76 := ⟨by decide +kernel, rfl⟩
theorem eX2_write_76 : Dj mX2_write 76 (.ifCond .gt) 79 91 := ⟨15, by decide +kernel, rfl, by decide⟩
theorem eX2_write_79 : Dc mX2_write 79 (.aload_n 0) 1 80 := ⟨by decide +kernel, rfl⟩
theorem eX2_write_80 : Dc mX2_write 80 (.aload_n 1) 1 81 := ⟨by decide +kernel, rfl⟩
theorem eX2_write_81 : Dc mX2_write 81 (.iload_n 3) 1 82 := ⟨by decide +kernel, rfl⟩
theorem eX2_write_82 : Dc mX2_write 82 (.invokevirtual 48) 3 85 := ⟨by decide +kernel, rfl⟩
theorem eX2_write_85 : Dc mX2_write 85 (.putfield 19) 3 88 := ⟨by decide +kernel, rfl⟩
theorem eX2_write_88 : Dc mX2_write 88 (.bipush (-7)) 2 90 := ⟨by decide +kernel, rfl⟩
theorem eX2_write_90 : Dc mX2_write 90 (.ireturn) 1 91 := ⟨by decide +kernel, rfl⟩
theorem eX2_write_91 : Dc mX2_write 91 (.iload_n 3) 1 92 := ⟨by decide +kernel, rfl⟩
theorem eX2_write_92 : Dc mX2_write 92 (.bipush 64) 2 94 := ⟨by decide +kernel, rfl⟩
theorem eX2_write_94 : Dj mX2_write 94 (.if_icmp .lt) 97 100 := ⟨6, by decide +kernel, rfl, by decide⟩
theorem eX2_write_97 : Dc mX2_write 97 (.bipush (-8)) 2 99 := ⟨by decide +kernel, rfl⟩
theorem eX2_write_99 : Dc mX2_write 99 (.ireturn) 1 100 := ⟨by decide +kernel, rfl⟩
theorem eX2_write_100 : Dc mX2_write 100 (.aload_n 0) 1 101 := ⟨by decide +kernel, rfl⟩
theorem eX2_write_101 : Dc mX2_write 101 (.bipush 115) 2 103 := ⟨by decide +kernel, rfl⟩
theorem eX2_write_103 : Dc mX2_write 103 (.invokevirtual 26) 3 106 := ⟨by decide +kernel, rfl⟩
theorem eX2_write_106 : Dc mX2_write 106 (.iconst 2) 1 107 := ⟨by decide +kernel, rfl⟩
theorem eX2_write_107 : Dc mX2_write 107 (.iload_n 3) 1 108 := ⟨by decide +kernel, rfl⟩
theorem eX2_write_108 : Dc mX2_write 108 (.imul) 1 109 := ⟨by decide +kernel, rfl⟩
theorem eX2_write_109 : Dc mX2_write 109 (.istore_n 3) 1 110 := ⟨by decide +kernel, rfl⟩
theorem eX2_write_110 : Dc mX2_write 110 (.iinc 4 1) 3 113 := ⟨by decide +kernel, rfl⟩
theorem eX2_write_113 : Dj mX2_write 113 (.goto) 116 10 := ⟨-103, by decide +kernel, rfl, by decide⟩
theorem eX2_write_116 : Dc mX2_write 116 (.aload_n 0) 1 117 := ⟨by decide +kernel, rfl⟩
theorem eX2_write_117 : Dc mX2_write 117 (.getfield 15) 3 120 := ⟨by decide +kernel, rfl⟩
theorem eX2_write_120 : Dc mX2_write 120 (.ireturn) 1 121 := ⟨by decide +kernel, rfl⟩
theorem eX3_add_0 : Dc mX3_add 0 (.aload_n 0) 1 1 := ⟨by decide +kernel, rfl⟩
theorem eX3_add_1 : Dc mX3_add 1 (.getfield 18) 3 4 := ⟨by decide +kernel, rfl⟩
theorem eX3_add_4 : Dj mX3_add 4 (.ifCond .lt) 7 61 := ⟨57, by decide +kernel, rfl, by decide⟩
theorem eX3_add_7 : Dc mX3_add 7 (.aload_n 0) 1 8 := ⟨by decide +kernel, rfl⟩
theorem eX3_add_8 : Dc mX3_add 8 (.getfield 18) 3 11 := ⟨by decide +kernel, rfl⟩
theorem eX3_add_11 : Dc mX3_add 11 (.aload_n 0) 1 12 := ⟨by decide +kernel, rfl⟩
theorem eX3_add_12 : Dc mX3_add 12 (.getfield 9) 3 15 := ⟨by decide +kernel, rfl⟩
theorem eX3_add_15 : Dc mX3_add 15 (.arraylength) 1 16 := ⟨by decide +kernel, rfl⟩
theorem eX3_add_16 : Dj mX3_add 16 (.if_icmp .ge) 19 61 := ⟨45, by decide +kernel, rfl, by decide⟩
theorem eX3_add_19 : Dc mX3_add 19 (.aload_n 0) 1 20 := ⟨by decide +kernel, rfl⟩
theorem eX3_add_20 : Dc mX3_add 20 (.getfield 18) 3 23 := ⟨by decide +kernel, rfl⟩
theorem eX3_add_23 : Dc mX3_add 23 (.aload_n 0) 1 24 := ⟨by decide +kernel, rfl⟩
theorem eX3_add_24 : Dc mX3_add 24 (.getfield 15) 3 27 := ⟨by decide +kernel, rfl⟩
theorem eX3_add_27 : Dc mX3_add 27 (.arraylength) 1 28 := ⟨by decide +kernel, rfl⟩
theorem eX3_add_28 : Dj mX3_add 28 (.if_icmp .ge) 31 61 := ⟨33, by decide +kernel, rfl, by decide⟩
theorem eX3_add_31 : Dc mX3_add 31 (.aload_n 0) 1 32 := ⟨by decide +kernel, rfl⟩
theorem eX3_add_32 : Dc mX3_add 32 (.getfield 9) 3 35 := ⟨by decide +kernel, rfl⟩
theorem eX3_add_35 : Dc mX3_add 35 (.aload_n 0) 1 36 := ⟨by decide +kernel, rfl⟩
theorem eX3_add_36 : Dc mX3_add 36 (.getfield 18) 3 39 := ⟨by decide +kernel, rfl⟩
theorem eX3_add_39 : Dc mX3_add 39 (.iload_n 1) 1 40 := ⟨by decide +kernel, rfl⟩
theorem eX3_add_40 : Dc mX3_add 40 (.iastore) 1 41 := ⟨by decide +kernel, rfl⟩
theorem eX3_add_41 : Dc mX3_add 41 (.aload_n 0) 1 42 := ⟨by decide +kernel, rfl⟩
theorem eX3_add_42 : Dc mX3_add 42 (.getfield 15) 3 45 := ⟨by decide +kernel, rfl⟩
theorem eX3_add_45 : Dc mX3_add 45 (.aload_n 0) 1 46 := ⟨by decide +kernel, rfl⟩
theorem eX3_add_46 : Dc mX3_add 46 (.getfield 18) 3 49 := ⟨by decide +kernel, rfl⟩
theorem eX3_add_49 : Dc mX3_add 49 (.iload_n 2) 1 50 := ⟨by decide +kernel, rfl⟩
theorem eX3_add_50 : Dc mX3_add 50 (.iastore) 1 51 := ⟨by decide +kernel, rfl⟩
theorem eX3_add_51 : Dc mX3_add 51 (.aload_n 0) 1 52 := ⟨by decide +kernel, rfl⟩
theorem eX3_add_52 : Dc mX3_add 52 (.dup) 1 53 := ⟨by decide +kernel, rfl⟩
theorem eX3_add_53 : Dc mX3_add 53 (.getfield 18) 3 56 := ⟨by decide +kernel, rfl⟩
theorem eX3_add_56 : Dc mX3_add 56 (.iconst 1) 1 57 := ⟨by decide +kernel, rfl⟩
theorem eX3_add_57 : Dc mX3_add 57 (.iadd) 1 58 := ⟨by decide +kernel, rfl⟩
theorem eX3_add_58 : Dc mX3_add 58 (.putfield 18) 3 61 := ⟨by decide +kernel, rfl⟩
theorem eX3_add_61 : Dc mX3_add 61 (.return_) 1 62 := ⟨by decide +kernel, rfl⟩
theorem eX3_find_0 : Dc mX3_find 0 (.aload_n 0) 1 1 := ⟨by decide +kernel, rfl⟩
theorem eX3_find_1 : Dc mX3_find 1 (.iconst 0) 1 2 := ⟨by decide +kernel, rfl⟩
theorem eX3_find_2 : Dc mX3_find 2 (.putfield 18) 3 5 := ⟨by decide +kernel, rfl⟩
theorem eX3_find_5 : Dc mX3_find 5 (.iconst 1) 1 6 := ⟨by decide +kernel, rfl⟩
theorem eX3_find_6 : Dc mX3_find 6 (.istore_n 3) 1 7 := ⟨by decide +kernel, rfl⟩
theorem eX3_find_7 : Dc mX3_find 7 (.iconst 0) 1 8 := ⟨by decide +kernel, rfl⟩
theorem eX3_find_8 : Dc mX3_find 8 (.istore 4) 2 10 := ⟨by decide +kernel, rfl⟩
theorem eX3_find_10 : Dc mX3_find 10 (.iload 4) 2 12 := ⟨by decide +kernel, rfl⟩
theorem eX3_find_12 : Dc mX3_find 12 (.bipush 127) 2 14 := ⟨by decide +kernel, rfl⟩
theorem eX3_find_14 : Dj mX3_find 14 (.if_icmp .ge) 17 86 := ⟨72, by decide +kernel, rfl, by decide⟩
theorem eX3_find_17 : Dc mX3_find 17 (.iload_n 3) 1 18 := ⟨by decide +kernel, rfl⟩
theorem eX3_find_18 : Dj mX3_find 18 (.ifCond .eq) 21 86 := ⟨68, by decide +kernel, rfl, by decide⟩
theorem eX3_find_21 : Dc mX3_find 21 (.aload_n 2) 1 22 := ⟨by decide +kernel, rfl⟩
theorem eX3_find_22 : Dc mX3_find 22 (.aload_n 1) 1 23 := ⟨by decide +kernel, rfl⟩
theorem eX3_find_23 : Dc mX3_find 23 (.iload_n 3) 1 24 := ⟨by decide +kernel, rfl⟩
theorem eX3_find_24 : Dc mX3_find 24 (.invokevirtual 22) 3 27 := ⟨by decide +kernel, rfl⟩
theorem eX3_find_27 : Dc mX3_find 27 (.aload_n 2) 1 28 := ⟨by decide +kernel, rfl⟩
theorem eX3_find_28 : Dc mX3_find 28 (.invokevirtual 28) 3 31 := ⟨by decide +kernel, rfl⟩
theorem eX3_find_31 : Dc mX3_find 31 (.istore 5) 2 33 := ⟨by decide +kernel, rfl⟩
theorem eX3_find_33 : Dc mX3_find 33 (.iload 5) 2 35 := ⟨by decide +kernel, rfl⟩
theorem eX3_find_35 : Dc mX3_find 35 (.iconst 1) 1 36 := ⟨by decide +kernel, rfl⟩
theorem eX3_find_36 : Dj mX3_find 36 (.if_icmp .le) 39 52 := ⟨16, by decide +kernel, rfl, by decide⟩
theorem eX3_find_39 : Dc mX3_find 39 (.iload_n 3) 1 40 := ⟨by decide +kernel, rfl⟩
theorem eX3_find_40 : Dc mX3_find 40 (.bipush 64) 2 42 := ⟨by decide +kernel, rfl⟩
theorem eX3_find_42 : Dj mX3_find 42 (.if_icmp .ge) 45 52 := ⟨10, by decide +kernel, rfl, by decide⟩
theorem eX3_find_45 : Dc mX3_find 45 (.iconst 2) 1 46 := ⟨by decide +kernel, rfl⟩
theorem eX3_find_46 : Dc mX3_find 46 (.iload_n 3) 1 47 := ⟨by decide +kernel, rfl⟩
theorem eX3_find_47 : Dc mX3_find 47 (.imul) 1 48 := ⟨by decide +kernel, rfl⟩
theorem eX3_find_48 : Dc mX3_find 48 (.istore_n 3) 1 49 := ⟨by decide +kernel, rfl⟩
theorem eX3_find_49 : Dj mX3_find 49 (.goto) 52 80 := ⟨31, by decide +kernel, rfl, by decide⟩
theorem eX3_find_52 : Dc mX3_find 52 (.iload 5) 2 54 := ⟨by decide +kernel, rfl⟩
theorem eX3_find_54 : Dj mX3_find 54 (.ifCond .le) 57 73 := ⟨19, by decide +kernel, rfl, by decide⟩
theorem eX3_find_57 : Dc mX3_find 57 (.aload_n 0) 1 58 := ⟨by decide +kernel, rfl⟩
theorem eX3_find_58 : Dc mX3_find 58 (.iload_n 3) 1 59 := ⟨by decide +kernel, rfl⟩
theorem eX3_find_59 : Dc mX3_find 59 (.iload 5) 2 61 := ⟨by decide +kernel, rfl⟩
theorem eX3_find_61 : Dc mX3_find 61 (.iconst 1) 1 62 := ⟨by decide +kernel, rfl⟩
theorem eX3_find_62 : Dj mX3_find 62 (.if_icmp .ne) 65 69 := ⟨7, by decide +kernel, rfl, by decide⟩
theorem eX3_find_65 : Dc mX3_find 65 (.iconst 0) 1 66 := ⟨by decide +kernel, rfl⟩
theorem eX3_find_66 : Dj mX3_find 66 (.goto) 69 70 := ⟨4, by decide +kernel, rfl, by decide⟩
theorem eX3_find_69 : Dc mX3_find 69 (.iconst 2) 1 70 := ⟨by decide +kernel, rfl⟩
theorem eX3_find_70 : Dc mX3_find 70 (.invokevirtual 32) 3 73 := ⟨by decide +kernel, rfl⟩
theorem eX3_find_73 : Dc mX3_find 73 (.aload_n 0) 1 74 := ⟨by decide +kernel, rfl⟩
theorem eX3_find_74 : Dc mX3_find 74 (.iload_n 3) 1 75 := ⟨by decide +kernel, rfl⟩
theorem eX3_find_75 : Dc mX3_find 75 (.aload_n 2) 1 76 := ⟨by decide +kernel, rfl⟩
theorem eX3_find_76 : Dc mX3_find 76 (.invokevirtual 36) 3 79 := ⟨by decide +kernel, rfl⟩
theorem eX3_find_79 : Dc mX3_find 79 (.istore_n 3) 1 80 := ⟨by decide +kernel, rfl⟩
theorem eX3_find_80 : Dc mX3_find 80 (.iinc 4 1) 3 83 := ⟨by decide +kernel, rfl⟩
theorem eX3_find_83 : Dj mX3_find 83 (.goto) 86 10 := ⟨-73, by decide +kernel, rfl, by decide⟩
theorem eX3_find_86 : Dc mX3_find 86 (.return_) 1 87 := ⟨by decide +kernel, rfl⟩
theorem eX3_kind_0 : Dc mX3_kind 0 (.iload_n 1) 1 1 := ⟨by decide +kernel, rfl⟩
theorem eX3_kind_1 : Dj mX3_kind 1 (.ifCond .lt) 4 30 := ⟨29, by decide +kernel, rfl, by decide⟩
theorem eX3_kind_4 : Dc mX3_kind 4 (.iload_n 1) 1 5 := ⟨by decide +kernel, rfl⟩
theorem eX3_kind_5 : Dc mX3_kind 5 (.aload_n 0) 1 6 := ⟨by decide +kernel, rfl⟩
theorem eX3_kind_6 : Dc mX3_kind 6 (.getfield 18) 3 9 := ⟨by decide +kernel, rfl⟩
theorem eX3_kind_9 : Dj mX3_kind 9 (.if_icmp .ge) 12 30 := ⟨21, by decide +kernel, rfl, by decide⟩
theorem eX3_kind_12 : Dc mX3_kind 12 (.iload_n 1) 1 13 := ⟨by decide +kernel, rfl⟩
theorem eX3_kind_13 : Dc mX3_kind 13 (.aload_n 0) 1 14 := ⟨by decide +kernel, rfl⟩
theorem eX3_kind_14 : Dc mX3_kind 14 (.getfield 15) 3 17 := ⟨by decide +kernel, rfl⟩
theorem eX3_kind_17 : Dc mX3_kind 17 (.arraylength) 1 18 := ⟨by decide +kernel, rfl⟩
theorem eX3_kind_18 : Dj mX3_kind 18 (.if_icmp .ge) 21 30 := ⟨12, by decide +kernel, rfl, by decide⟩
theorem eX3_kind_21 : Dc mX3_kind 21 (.aload_n 0) 1 22 := ⟨by decide +kernel, rfl⟩
theorem eX3_kind_22 : Dc mX3_kind 22 (.getfield 15) 3 25 := ⟨by decide +kernel, rfl⟩
theorem eX3_kind_25 : Dc mX3_kind 25 (.iload_n 1) 1 26 := ⟨by decide +kernel, rfl⟩
theorem eX3_kind_26 : Dc mX3_kind 26 (.iaload) 1 27 := ⟨by decide +kernel, rfl⟩
theorem eX3_kind_27 : Dj mX3_kind 27 (.goto) 30 32 := ⟨5, by decide +kernel, rfl, by decide⟩
theorem eX3_kind_30 : Dc mX3_kind 30 (.bipush (-9)) 2 32 := ⟨by decide +kernel, rfl⟩
theorem eX3_kind_32 : Dc mX3_kind 32 (.ireturn) 1 33 := ⟨by decide +kernel, rfl⟩
theorem eX3_node_0 : Dc mX3_node 0 (.iload_n 1) 1 1 := ⟨by decide +kernel, rfl⟩
theorem eX3_node_1 : Dj mX3_node 1 (.ifCond .lt) 4 30 := ⟨29, by decide +kernel, rfl, by decide⟩
theorem eX3_node_4 : Dc mX3_node 4 (.iload_n 1) 1 5 := ⟨by decide +kernel, rfl⟩
theorem eX3_node_5 : Dc mX3_node 5 (.aload_n 0) 1 6 := ⟨by decide +kernel, rfl⟩
theorem eX3_node_6 : Dc mX3_node 6 (.getfield 18) 3 9 := ⟨by decide +kernel, rfl⟩
theorem eX3_node_9 : Dj mX3_node 9 (.if_icmp .ge) 12 30 := ⟨21, by decide +kernel, rfl, by decide⟩
theorem eX3_node_12 : Dc mX3_node 12 (.iload_n 1) 1 13 := ⟨by decide +kernel, rfl⟩
theorem eX3_node_13 : Dc mX3_node 13 (.aload_n 0) 1 14 := ⟨by decide +kernel, rfl⟩
theorem eX3_node_14 : Dc mX3_node 14 (.getfield 9) 3 17 := ⟨by decide +kernel, rfl⟩
theorem eX3_node_17 : Dc mX3_node 17 (.arraylength) 1 18 := ⟨by decide +kernel, rfl⟩
theorem eX3_node_18 : Dj mX3_node 18 (.if_icmp .ge) 21 30 := ⟨12, by decide +kernel, rfl, by decide⟩
theorem eX3_node_21 : Dc mX3_node 21 (.aload_n 0) 1 22 := ⟨by decide +kernel, rfl⟩
theorem eX3_node_22 : Dc mX3_node 22 (.getfield 9) 3 25 := ⟨by decide +kernel, rfl⟩
theorem eX3_node_25 : Dc mX3_node 25 (.iload_n 1) 1 26 := ⟨by decide +kernel, rfl⟩
theorem eX3_node_26 : Dc mX3_node 26 (.iaload) 1 27 := ⟨by decide +kernel, rfl⟩
theorem eX3_node_27 : Dj mX3_node 27 (.goto) 30 32 := ⟨5, by decide +kernel, rfl, by decide⟩
theorem eX3_node_30 : Dc mX3_node 30 (.bipush (-9)) 2 32 := ⟨by decide +kernel, rfl⟩
theorem eX3_node_32 : Dc mX3_node 32 (.ireturn) 1 33 := ⟨by decide +kernel, rfl⟩
theorem eX3_pass_0 : Dc mX3_pass 0 (.iload_n 1) 1 1 := ⟨by decide +kernel, rfl⟩
theorem eX3_pass_1 : Dc mX3_pass 1 (.invokestatic 40) 3 4 := ⟨by decide +kernel, rfl⟩
theorem eX3_pass_4 : Dc mX3_pass 4 (.istore_n 3) 1 5 := ⟨by decide +kernel, rfl⟩
theorem eX3_pass_5 : Dc mX3_pass 5 (.iload_n 3) 1 6 := ⟨by decide +kernel, rfl⟩
theorem eX3_pass_6 : Dj mX3_pass 6 (.ifCond .eq) 9 24 := ⟨18, by decide +kernel, rfl, by decide⟩
theorem eX3_pass_9 : Dc mX3_pass 9 (.aload_n 2) 1 10 := ⟨by decide +kernel, rfl⟩
theorem eX3_pass_10 : Dc mX3_pass 10 (.invokevirtual 44) 3 13 := ⟨by decide +kernel, rfl⟩
theorem eX3_pass_13 : Dj mX3_pass 13 (.ifCond .ne) 16 24 := ⟨11, by decide +kernel, rfl, by decide⟩
theorem eX3_pass_16 : Dc mX3_pass 16 (.aload_n 0) 1 17 := ⟨by decide +kernel, rfl⟩
theorem eX3_pass_17 : Dc mX3_pass 17 (.iload_n 3) 1 18 := ⟨by decide +kernel, rfl⟩
theorem eX3_pass_18 : Dc mX3_pass 18 (.iconst 2) 1 19 := ⟨by decide +kernel, rfl⟩
theorem eX3_pass_19 : Dc mX3_pass 19 (.idiv) 1 20 := ⟨by decide +kernel, rfl⟩
theorem eX3_pass_20 : Dc mX3_pass 20 (.iconst 1) 1 21 := ⟨by decide +kernel, rfl⟩
theorem eX3_pass_21 : Dc mX3_pass 21 (.invokevirtual 32) 3 24 := ⟨by decide +kernel, rfl⟩
theorem eX3_pass_24 : Dc mX3_pass 24 (.iload_n 3) 1 25 := ⟨by decide +kernel, rfl⟩
theorem eX3_pass_25 : Dc mX3_pass 25 (.ireturn) 1 26 := ⟨by decide +kernel, rfl⟩
theorem eX3_size_0 : Dc mX3_size 0 (.aload_n 0) 1 1 := ⟨by decide +kernel, rfl⟩
theorem eX3_size_1 : Dc mX3_size 1 (.getfield 18) 3 4 := ⟨by decide +kernel, rfl⟩
theorem eX3_size_4 : Dc mX3_size 4 (.ireturn) 1 5 := ⟨by decide +kernel, rfl⟩
theorem eX4_addWhole_0 : Dc mX4_addWhole 0 (.iconst 0) 1 1 := ⟨by decide +kernel, rfl⟩
theorem eX4_addWhole_1 : Dc mX4_addWhole 1 (.istore_n 3) 1 2 := ⟨by decide +kernel, rfl⟩
theorem eX4_addWhole_2 : Dc mX4_addWhole 2 (.iload_n 3) 1 3 := ⟨by decide +kernel, rfl⟩
theorem eX4_addWhole_3 : Dc mX4_addWhole 3 (.aload_n 0) 1 4 := ⟨by decide +kernel, rfl⟩
theorem eX4_addWhole_4 : Dc mX4_addWhole 4 (.getfield 15) 3 7 := ⟨by decide +kernel, rfl⟩
theorem eX4_addWhole_7 : Dj mX4_addWhole 7 (.if_icmp .gt) 10 42 := ⟨35, by decide +kernel, rfl, by decide⟩
theorem eX4_addWhole_10 : Dc mX4_addWhole 10 (.iload_n 3) 1 11 := ⟨by decide +kernel, rfl⟩
theorem eX4_addWhole_11 : Dc mX4_addWhole 11 (.aload_n 0) 1 12 := ⟨by decide +kernel, rfl⟩
theorem eX4_addWhole_12 : Dc mX4_addWhole 12 (.getfield 9) 3 15 := ⟨by decide +kernel, rfl⟩
theorem eX4_addWhole_15 : Dc mX4_addWhole 15 (.arraylength) 1 16 := ⟨by decide +kernel, rfl⟩
theorem eX4_addWhole_16 : Dj mX4_addWhole 16 (.if_icmp .ge) 19 42 := ⟨26, by decide +kernel, rfl, by decide⟩
theorem eX4_addWhole_19 : Dc mX4_addWhole 19 (.aload_n 0) 1 20 := ⟨by decide +kernel, rfl⟩
theorem eX4_addWhole_20 : Dc mX4_addWhole 20 (.getfield 9) 3 23 := ⟨by decide +kernel, rfl⟩
theorem eX4_addWhole_23 : Dc mX4_addWhole 23 (.iload_n 3) 1 24 := ⟨by decide +kernel, rfl⟩
theorem eX4_addWhole_24 : Dc mX4_addWhole 24 (.dup2) 1 25 := ⟨by decide +kernel, rfl⟩
theorem eX4_addWhole_25 : Dc mX4_addWhole 25 (.laload) 1 26 := ⟨by decide +kernel, rfl⟩
theorem eX4_addWhole_26 : Dc mX4_addWhole 26 (.lload_n 1) 1 27 := ⟨by decide +kernel, rfl⟩
theorem eX4_addWhole_27 : Dc mX4_addWhole 27 (.aload_n 0) 1 28 := ⟨by decide +kernel, rfl⟩
theorem eX4_addWhole_28 : Dc mX4_addWhole 28 (.iload_n 3) 1 29 := ⟨by decide +kernel, rfl⟩
theorem eX4_addWhole_29 : Dc mX4_addWhole 29 (.invokevirtual 77) 3 32 := ⟨by decide +kernel, rfl⟩
theorem eX4_addWhole_32 : Dc mX4_addWhole 32 (.i2l) 1 33 := ⟨by decide +kernel, rfl⟩
theorem eX4_addWhole_33 : Dc mX4_addWhole 33 (.lmul) 1 34 := ⟨by decide +kernel, rfl⟩
theorem eX4_addWhole_34 : Dc mX4_addWhole 34 (.ladd) 1 35 := ⟨by decide +kernel, rfl⟩
theorem eX4_addWhole_35 : Dc mX4_addWhole 35 (.lastore) 1 36 := ⟨by decide +kernel, rfl⟩
theorem eX4_addWhole_36 : Dc mX4_addWhole 36 (.iinc 3 1) 3 39 := ⟨by decide +kernel, rfl⟩
theorem eX4_addWhole_39 : Dj mX4_addWhole 39 (.goto) 42 2 := ⟨-37, by decide +kernel, rfl, by decide⟩
theorem eX4_addWhole_42 : Dc mX4_addWhole 42 (.return_) 1 43 := ⟨by decide +kernel, rfl⟩
theorem eX4_allHave_0 : Dc mX4_allHave 0 (.iconst 0) 1 1 := ⟨by decide +kernel, rfl⟩
theorem eX4_allHave_1 : Dc mX4_allHave 1 (.istore_n 2) 1 2 := ⟨by decide +kernel, rfl⟩
theorem eX4_allHave_2 : Dc mX4_allHave 2 (.iload_n 2) 1 3 := ⟨by decide +kernel, rfl⟩
theorem eX4_allHave_3 : Dc mX4_allHave 3 (.aload_n 0) 1 4 := ⟨by decide +kernel, rfl⟩
theorem eX4_allHave_4 : Dc mX4_allHave 4 (.getfield 15) 3 7 := ⟨by decide +kernel, rfl⟩
theorem eX4_allHave_7 : Dj mX4_allHave 7 (.if_icmp .gt) 10 30 := ⟨23, by decide +kernel, rfl, by decide⟩
theorem eX4_allHave_10 : Dc mX4_allHave 10 (.aload_n 0) 1 11 := ⟨by decide +kernel, rfl⟩
theorem eX4_allHave_11 : Dc mX4_allHave 11 (.iload_n 2) 1 12 := ⟨by decide +kernel, rfl⟩
theorem eX4_allHave_12 : Dc mX4_allHave 12 (.invokevirtual 84) 3 15 := ⟨by decide +kernel, rfl⟩
theorem eX4_allHave_15 : Dc mX4_allHave 15 (.invokestatic 96) 3 18 := ⟨by decide +kernel, rfl⟩
theorem eX4_allHave_18 : Dc mX4_allHave 18 (.iload_n 1) 1 19 := ⟨by decide +kernel, rfl⟩
theorem eX4_allHave_19 : Dj mX4_allHave 19 (.if_icmp .eq) 22 24 := ⟨5, by decide +kernel, rfl, by decide⟩
theorem eX4_allHave_22 : Dc mX4_allHave 22 (.iconst 0) 1 23 := ⟨by decide +kernel, rfl⟩
theorem eX4_allHave_23 : Dc mX4_allHave 23 (.ireturn) 1 24 := ⟨by decide +kernel, rfl⟩
theorem eX4_allHave_24 : Dc mX4_allHave 24 (.iinc 2 1) 3 27 := ⟨by decide +kernel, rfl⟩
theorem eX4_allHave_27 : Dj mX4_allHave 27 (.goto) 30 2 := ⟨-25, by decide +kernel, rfl, by decide⟩
theorem eX4_allHave_30 : Dc mX4_allHave 30 (.iconst 1) 1 31 := ⟨by decide +kernel, rfl⟩
theorem eX4_allHave_31 : Dc mX4_allHave 31 (.ireturn) 1 32 := ⟨by decide +kernel, rfl⟩
theorem eX4_below_0 : Dc mX4_below 0 (.aload_n 0) 1 1 := ⟨by decide +kernel, rfl⟩
theorem eX4_below_1 : Dc mX4_below 1 (.iload_n 1) 1 2 := ⟨by decide +kernel, rfl⟩
theorem eX4_below_2 : Dc mX4_below 2 (.invokevirtual 77) 3 5 := ⟨by decide +kernel, rfl⟩
theorem eX4_below_5 : Dc mX4_below 5 (.i2l) 1 6 := ⟨by decide +kernel, rfl⟩
theorem eX4_below_6 : Dc mX4_below 6 (.aload_n 0) 1 7 := ⟨by decide +kernel, rfl⟩
theorem eX4_below_7 : Dc mX4_below 7 (.getfield 60) 3 10 := ⟨by decide +kernel, rfl⟩
theorem eX4_below_10 : Dc mX4_below 10 (.lmul) 1 11 := ⟨by decide +kernel, rfl⟩
theorem eX4_below_11 : Dc mX4_below 11 (.lreturn) 1 12 := ⟨by decide +kernel, rfl⟩
theorem eX4_commonBelow_0 : Dc mX4_commonBelow 0 (.ldc2_w 88) 3 3 := ⟨by decide +kernel, rfl⟩
theorem eX4_commonBelow_3 : Dc mX4_commonBelow 3 (.aload_n 0) 1 4 := ⟨by decide +kernel, rfl⟩
theorem eX4_commonBelow_4 : Dc mX4_commonBelow 4 (.getfield 60) 3 7 := ⟨by decide +kernel, rfl⟩
theorem eX4_commonBelow_7 : Dc mX4_commonBelow 7 (.lmul) 1 8 := ⟨by decide +kernel, rfl⟩
theorem eX4_commonBelow_8 : Dc mX4_commonBelow 8 (.lreturn) 1 9 := ⟨by decide +kernel, rfl⟩
theorem eX4_commonNumber_0 : Dc mX4_commonNumber 0 (.aload_n 0) 1 1 := ⟨by decide +kernel, rfl⟩
theorem eX4_commonNumber_1 : Dc mX4_commonNumber 1 (.iload_n 1) 1 2 := ⟨by decide +kernel, rfl⟩
theorem eX4_commonNumber_2 : Dc mX4_commonNumber 2 (.invokevirtual 77) 3 5 := ⟨by decide +kernel, rfl⟩
theorem eX4_commonNumber_5 : Dc mX4_commonNumber 5 (.istore_n 2) 1 6 := ⟨by decide +kernel, rfl⟩
theorem eX4_commonNumber_6 : Dc mX4_commonNumber 6 (.iload_n 2) 1 7 := ⟨by decide +kernel, rfl⟩
theorem eX4_commonNumber_7 : Dj mX4_commonNumber 7 (.ifCond .le) 10 24 := ⟨17, by decide +kernel, rfl, by decide⟩
theorem eX4_commonNumber_10 : Dc mX4_commonNumber 10 (.aload_n 0) 1 11 := ⟨by decide +kernel, rfl⟩
theorem eX4_commonNumber_11 : Dc mX4_commonNumber 11 (.iload_n 1) 1 12 := ⟨by decide +kernel, rfl⟩
theorem eX4_commonNumber_12 : Dc mX4_commonNumber 12 (.invokevirtual 84) 3 15 := ⟨by decide +kernel, rfl⟩
theorem eX4_commonNumber_15 : Dc mX4_commonNumber 15 (.bipush 60) 2 17 := ⟨by decide +kernel, rfl⟩
theorem eX4_commonNumber_17 : Dc mX4_commonNumber 17 (.iload_n 2) 1 18 := ⟨by decide +kernel, rfl⟩
theorem eX4_commonNumber_18 : Dc mX4_commonNumber 18 (.idiv) 1 19 := ⟨by decide +kernel, rfl⟩
theorem eX4_commonNumber_19 : Dc mX4_commonNumber 19 (.i2l) 1 20 := ⟨by decide +kernel, rfl⟩
theorem eX4_commonNumber_20 : Dc mX4_commonNumber 20 (.lmul) 1 21 := ⟨by decide +kernel, rfl⟩
theorem eX4_commonNumber_21 : Dj mX4_commonNumber 21 (.goto) 24 25 := ⟨4, by decide +kernel, rfl, by decide⟩
theorem eX4_commonNumber_24 : Dc mX4_commonNumber 24 (.lconst 0) 1 25 := ⟨by decide +kernel, rfl⟩
theorem eX4_commonNumber_25 : Dc mX4_commonNumber 25 (.lreturn) 1 26 := ⟨by decide +kernel, rfl⟩
theorem eX4_lay_0 : Dc mX4_lay 0 (.aload_n 0) 1 1 := ⟨by decide +kernel, rfl⟩
theorem eX4_lay_1 : Dc mX4_lay 1 (.aload_n 1) 1 2 := ⟨by decide +kernel, rfl⟩
theorem eX4_lay_2 : Dc mX4_lay 2 (.aload_n 1) 1 3 := ⟨by decide +kernel, rfl⟩
theorem eX4_lay_3 : Dc mX4_lay 3 (.invokevirtual 19) 3 6 := ⟨by decide +kernel, rfl⟩
theorem eX4_lay_6 : Dc mX4_lay 6 (.iload_n 2) 1 7 := ⟨by decide +kernel, rfl⟩
theorem eX4_lay_7 : Dc mX4_lay 7 (.invokevirtual 25) 3 10 := ⟨by decide +kernel, rfl⟩
theorem eX4_lay_10 : Dc mX4_lay 10 (.return_) 1 11 := ⟨by decide +kernel, rfl⟩
end
section
theorem eX4_layOne_0 : Dc mX4_layOne 0 (.aload_n 1) 1 1 := ⟨by decide +kernel, rfl⟩
theorem eX4_layOne_1 : Dc mX4_layOne 1 (.invokevirtual 32) 3 4 := ⟨by decide +kernel, rfl⟩
theorem eX4_layOne_4 : Dc mX4_layOne 4 (.astore 4) 2 6 := ⟨by decide +kernel, rfl⟩
theorem eX4_layOne_6 : Dc mX4_layOne 6 (.aload_n 1) 1 7 := ⟨by decide +kernel, rfl⟩
theorem eX4_layOne_7 : Dc mX4_layOne 7 (.iload_n 3) 1 8 := ⟨by decide +kernel, rfl⟩
theorem eX4_layOne_8 : Dc mX4_layOne 8 (.invokevirtual 36) 3 11 := ⟨by decide +kernel, rfl⟩
theorem eX4_layOne_11 : Dc mX4_layOne 11 (.i2l) 1 12 := ⟨by decide +kernel, rfl⟩
theorem eX4_layOne_12 : Dc mX4_layOne 12 (.lstore 5) 2 14 := ⟨by decide +kernel, rfl⟩
theorem eX4_layOne_14 : Dc mX4_layOne 14 (.aload_n 1) 1 15 := ⟨by decide +kernel, rfl⟩
theorem eX4_layOne_15 : Dc mX4_layOne 15 (.iload_n 3) 1 16 := ⟨by decide +kernel, rfl⟩
theorem eX4_layOne_16 : Dc mX4_layOne 16 (.invokevirtual 40) 3 19 := ⟨by decide +kernel, rfl⟩
theorem eX4_layOne_19 : Dc mX4_layOne 19 (.i2l) 1 20 := ⟨by decide +kernel, rfl⟩
theorem eX4_layOne_20 : Dc mX4_layOne 20 (.lstore 7) 2 22 := ⟨by decide +kernel, rfl⟩
theorem eX4_layOne_22 : Dc mX4_layOne 22 (.aload 4) 2 24 := ⟨by decide +kernel, rfl⟩
theorem eX4_layOne_24 : Dc mX4_layOne 24 (.iload_n 2) 1 25 := ⟨by decide +kernel, rfl⟩
theorem eX4_layOne_25 : Dc mX4_layOne 25 (.invokevirtual 43) 3 28 := ⟨by decide +kernel, rfl⟩
theorem eX4_layOne_28 : Dc mX4_layOne 28 (.iconst 5) 1 29 := ⟨by decide +kernel, rfl⟩
theorem eX4_layOne_29 : Dc mX4_layOne 29 (.invokestatic 48) 3 32 := ⟨by decide +kernel, rfl⟩
theorem eX4_layOne_32 : Dc mX4_layOne 32 (.istore 9) 2 34 := ⟨by decide +kernel, rfl⟩
theorem eX4_layOne_34 : Dc mX4_layOne 34 (.aload_n 0) 1 35 := ⟨by decide +kernel, rfl⟩
theorem eX4_layOne_35 : Dc mX4_layOne 35 (.getfield 9) 3 38 := ⟨by decide +kernel, rfl⟩
theorem eX4_layOne_38 : Dc mX4_layOne 38 (.lconst 0) 1 39 := ⟨by decide +kernel, rfl⟩
theorem eX4_layOne_39 : Dc mX4_layOne 39 (.invokestatic 54) 3 42 := ⟨by decide +kernel, rfl⟩
theorem eX4_layOne_42 : Dc mX4_layOne 42 (.aload_n 0) 1 43 := ⟨by decide +kernel, rfl⟩
theorem eX4_layOne_43 : Dc mX4_layOne 43 (.lconst 1) 1 44 := ⟨by decide +kernel, rfl⟩
theorem eX4_layOne_44 : Dc mX4_layOne 44 (.putfield 60) 3 47 := ⟨by decide +kernel, rfl⟩
theorem eX4_layOne_47 : Dc mX4_layOne 47 (.aload_n 0) 1 48 := ⟨by decide +kernel, rfl⟩
theorem eX4_layOne_48 : Dc mX4_layOne 48 (.iconst 0) 1 49 := ⟨by decide +kernel, rfl⟩
theorem eX4_layOne_49 : Dc mX4_layOne 49 (.putfield 15) 3 52 := ⟨by decide +kernel, rfl⟩
theorem eX4_layOne_52 : Dc mX4_layOne 52 (.aload_n 0) 1 53 := ⟨by decide +kernel, rfl⟩
theorem eX4_layOne_53 : Dc mX4_layOne 53 (.getfield 9) 3 56 := ⟨by decide +kernel, rfl⟩
theorem eX4_layOne_56 : Dc mX4_layOne 56 (.iconst 0) 1 57 := ⟨by decide +kernel, rfl⟩
theorem eX4_layOne_57 : Dc mX4_layOne 57 (.aload 4) 2 59 := ⟨by decide +kernel, rfl⟩
theorem eX4_layOne_59 : Dc mX4_layOne 59 (.iload_n 2) 1 60 := ⟨by decide +kernel, rfl⟩
theorem eX4_layOne_60 : Dc mX4_layOne 60 (.iload 9) 2 62 := ⟨by decide +kernel, rfl⟩
theorem eX4_layOne_62 : Dc mX4_layOne 62 (.invokevirtual 64) 3 65 := ⟨by decide +kernel, rfl⟩
theorem eX4_layOne_65 : Dc mX4_layOne 65 (.i2l) 1 66 := ⟨by decide +kernel, rfl⟩
theorem eX4_layOne_66 : Dc mX4_layOne 66 (.lastore) 1 67 := ⟨by decide +kernel, rfl⟩
theorem eX4_layOne_67 : Dc mX4_layOne 67 (.iload 9) 2 69 := ⟨by decide +kernel, rfl⟩
theorem eX4_layOne_69 : Dc mX4_layOne 69 (.iconst 1) 1 70 := ⟨by decide +kernel, rfl⟩
theorem eX4_layOne_70 : Dc mX4_layOne 70 (.isub) 1 71 := ⟨by decide +kernel, rfl⟩
theorem eX4_layOne_71 : Dc mX4_layOne 71 (.istore 10) 2 73 := ⟨by decide +kernel, rfl⟩
theorem eX4_layOne_73 : Dc mX4_layOne 73 (.iload 10) 2 75 := ⟨by decide +kernel, rfl⟩
theorem eX4_layOne_75 : Dj mX4_layOne 75 (.ifCond .lt) 78 122 := ⟨47, by decide +kernel, rfl, by decide⟩
theorem eX4_layOne_78 : Dc mX4_layOne 78 (.aload_n 0) 1 79 := ⟨by decide +kernel, rfl⟩
theorem eX4_layOne_79 : Dc mX4_layOne 79 (.dup) 1 80 := ⟨by decide +kernel, rfl⟩
theorem eX4_layOne_80 : Dc mX4_layOne 80 (.getfield 60) 3 83 := ⟨by decide +kernel, rfl⟩
theorem eX4_layOne_83 : Dc mX4_layOne 83 (.ldc2_w 67) 3 86 := ⟨by decide +kernel, rfl⟩
theorem eX4_layOne_86 : Dc mX4_layOne 86 (.lmul) 1 87 := ⟨by decide +kernel, rfl⟩
theorem eX4_layOne_87 : Dc mX4_layOne 87 (.putfield 60) 3 90 := ⟨by decide +kernel, rfl⟩
theorem eX4_layOne_90 : Dc mX4_layOne 90 (.aload_n 0) 1 91 := ⟨by decide +kernel, rfl⟩
theorem eX4_layOne_91 : Dc mX4_layOne 91 (.lload 5) 2 93 := ⟨by decide +kernel, rfl⟩
theorem eX4_layOne_93 : Dc mX4_layOne 93 (.lload 7) 2 95 := ⟨by decide +kernel, rfl⟩
theorem eX4_layOne_95 : Dc mX4_layOne 95 (.invokevirtual 69) 3 98 := ⟨by decide +kernel, rfl⟩
theorem eX4_layOne_98 : Dc mX4_layOne 98 (.aload_n 0) 1 99 := ⟨by decide +kernel, rfl⟩
theorem eX4_layOne_99 : Dc mX4_layOne 99 (.aload 4) 2 101 := ⟨by decide +kernel, rfl⟩
theorem eX4_layOne_101 : Dc mX4_layOne 101 (.iload_n 2) 1 102 := ⟨by decide +kernel, rfl⟩
theorem eX4_layOne_102 : Dc mX4_layOne 102 (.iload 10) 2 104 := ⟨by decide +kernel, rfl⟩
theorem eX4_layOne_104 : Dc mX4_layOne 104 (.invokevirtual 64) 3 107 := ⟨by decide +kernel, rfl⟩
theorem eX4_layOne_107 : Dc mX4_layOne 107 (.i2l) 1 108 := ⟨by decide +kernel, rfl⟩
theorem eX4_layOne_108 : Dc mX4_layOne 108 (.aload_n 0) 1 109 := ⟨by decide +kernel, rfl⟩
theorem eX4_layOne_109 : Dc mX4_layOne 109 (.getfield 60) 3 112 := ⟨by decide +kernel, rfl⟩
theorem eX4_layOne_112 : Dc mX4_layOne 112 (.lmul) 1 113 := ⟨by decide +kernel, rfl⟩
theorem eX4_layOne_113 : Dc mX4_layOne 113 (.invokevirtual 73) 3 116 := ⟨by decide +kernel, rfl⟩
theorem eX4_layOne_116 : Dc mX4_layOne 116 (.iinc 10 (-1)) 3 119 := ⟨by decide +kernel, rfl⟩
theorem eX4_layOne_119 : Dj mX4_layOne 119 (.goto) 122 73 := ⟨-46, by decide +kernel, rfl, by decide⟩
theorem eX4_layOne_122 : Dc mX4_layOne 122 (.return_) 1 123 := ⟨by decide +kernel, rfl⟩
theorem eX4_layRaised_0 : Dc mX4_layRaised 0 (.aload_n 0) 1 1 := ⟨by decide +kernel, rfl⟩
theorem eX4_layRaised_1 : Dc mX4_layRaised 1 (.aload_n 1) 1 2 := ⟨by decide +kernel, rfl⟩
theorem eX4_layRaised_2 : Dc mX4_layRaised 2 (.aload_n 1) 1 3 := ⟨by decide +kernel, rfl⟩
theorem eX4_layRaised_3 : Dc mX4_layRaised 3 (.invokevirtual 19) 3 6 := ⟨by decide +kernel, rfl⟩
theorem eX4_layRaised_6 : Dc mX4_layRaised 6 (.iload_n 2) 1 7 := ⟨by decide +kernel, rfl⟩
theorem eX4_layRaised_7 : Dc mX4_layRaised 7 (.invokevirtual 25) 3 10 := ⟨by decide +kernel, rfl⟩
theorem eX4_layRaised_10 : Dc mX4_layRaised 10 (.iconst 0) 1 11 := ⟨by decide +kernel, rfl⟩
theorem eX4_layRaised_11 : Dc mX4_layRaised 11 (.istore 4) 2 13 := ⟨by decide +kernel, rfl⟩
theorem eX4_layRaised_13 : Dc mX4_layRaised 13 (.iload 4) 2 15 := ⟨by decide +kernel, rfl⟩
theorem eX4_layRaised_15 : Dc mX4_layRaised 15 (.iload_n 3) 1 16 := ⟨by decide +kernel, rfl⟩
theorem eX4_layRaised_16 : Dj mX4_layRaised 16 (.if_icmp .ge) 19 29 := ⟨13, by decide +kernel, rfl, by decide⟩
theorem eX4_layRaised_19 : Dc mX4_layRaised 19 (.aload_n 0) 1 20 := ⟨by decide +kernel, rfl⟩
theorem eX4_layRaised_20 : Dc mX4_layRaised 20 (.invokevirtual 29) 3 23 := ⟨by decide +kernel, rfl⟩
theorem eX4_layRaised_23 : Dc mX4_layRaised 23 (.iinc 4 1) 3 26 := ⟨by decide +kernel, rfl⟩
theorem eX4_layRaised_26 : Dj mX4_layRaised 26 (.goto) 29 13 := ⟨-13, by decide +kernel, rfl, by decide⟩
theorem eX4_layRaised_29 : Dc mX4_layRaised 29 (.return_) 1 30 := ⟨by decide +kernel, rfl⟩
theorem eX4_least_0 : Dc mX4_least 0 (.aload_n 0) 1 1 := ⟨by decide +kernel, rfl⟩
theorem eX4_least_1 : Dc mX4_least 1 (.iconst 0) 1 2 := ⟨by decide +kernel, rfl⟩
theorem eX4_least_2 : Dc mX4_least 2 (.invokevirtual 90) 3 5 := ⟨by decide +kernel, rfl⟩
theorem eX4_least_5 : Dc mX4_least 5 (.lstore_n 1) 1 6 := ⟨by decide +kernel, rfl⟩
theorem eX4_least_6 : Dc mX4_least 6 (.iconst 1) 1 7 := ⟨by decide +kernel, rfl⟩
theorem eX4_least_7 : Dc mX4_least 7 (.istore_n 3) 1 8 := ⟨by decide +kernel, rfl⟩
theorem eX4_least_8 : Dc mX4_least 8 (.iload_n 3) 1 9 := ⟨by decide +kernel, rfl⟩
theorem eX4_least_9 : Dc mX4_least 9 (.aload_n 0) 1 10 := ⟨by decide +kernel, rfl⟩
theorem eX4_least_10 : Dc mX4_least 10 (.getfield 15) 3 13 := ⟨by decide +kernel, rfl⟩
theorem eX4_least_13 : Dj mX4_least 13 (.if_icmp .gt) 16 32 := ⟨19, by decide +kernel, rfl, by decide⟩
theorem eX4_least_16 : Dc mX4_least 16 (.lload_n 1) 1 17 := ⟨by decide +kernel, rfl⟩
theorem eX4_least_17 : Dc mX4_least 17 (.aload_n 0) 1 18 := ⟨by decide +kernel, rfl⟩
theorem eX4_least_18 : Dc mX4_least 18 (.iload_n 3) 1 19 := ⟨by decide +kernel, rfl⟩
theorem eX4_least_19 : Dc mX4_least 19 (.invokevirtual 90) 3 22 := ⟨by decide +kernel, rfl⟩
theorem eX4_least_22 : Dc mX4_least 22 (.invokestatic 93) 3 25 := ⟨by decide +kernel, rfl⟩
theorem eX4_least_25 : Dc mX4_least 25 (.lstore_n 1) 1 26 := ⟨by decide +kernel, rfl⟩
theorem eX4_least_26 : Dc mX4_least 26 (.iinc 3 1) 3 29 := ⟨by decide +kernel, rfl⟩
theorem eX4_least_29 : Dj mX4_least 29 (.goto) 32 8 := ⟨-21, by decide +kernel, rfl, by decide⟩
theorem eX4_least_32 : Dc mX4_least 32 (.lload_n 1) 1 33 := ⟨by decide +kernel, rfl⟩
theorem eX4_least_33 : Dc mX4_least 33 (.lreturn) 1 34 := ⟨by decide +kernel, rfl⟩
theorem eX4_leastEnd_0 : Dc mX4_leastEnd 0 (.aload_n 0) 1 1 := ⟨by decide +kernel, rfl⟩
theorem eX4_leastEnd_1 : Dc mX4_leastEnd 1 (.iconst 0) 1 2 := ⟨by decide +kernel, rfl⟩
theorem eX4_leastEnd_2 : Dc mX4_leastEnd 2 (.invokevirtual 90) 3 5 := ⟨by decide +kernel, rfl⟩
theorem eX4_leastEnd_5 : Dc mX4_leastEnd 5 (.aload_n 0) 1 6 := ⟨by decide +kernel, rfl⟩
theorem eX4_leastEnd_6 : Dc mX4_leastEnd 6 (.aload_n 0) 1 7 := ⟨by decide +kernel, rfl⟩
theorem eX4_leastEnd_7 : Dc mX4_leastEnd 7 (.getfield 15) 3 10 := ⟨by decide +kernel, rfl⟩
theorem eX4_leastEnd_10 : Dc mX4_leastEnd 10 (.invokevirtual 90) 3 13 := ⟨by decide +kernel, rfl⟩
theorem eX4_leastEnd_13 : Dc mX4_leastEnd 13 (.invokestatic 93) 3 16 := ⟨by decide +kernel, rfl⟩
theorem eX4_leastEnd_16 : Dc mX4_leastEnd 16 (.lreturn) 1 17 := ⟨by decide +kernel, rfl⟩
theorem eX4_multiply_0 : Dc mX4_multiply 0 (.aload_n 0) 1 1 := ⟨by decide +kernel, rfl⟩
theorem eX4_multiply_1 : Dc mX4_multiply 1 (.getfield 15) 3 4 := ⟨by decide +kernel, rfl⟩
theorem eX4_multiply_4 : Dj mX4_multiply 4 (.ifCond .lt) 7 21 := ⟨17, by decide +kernel, rfl, by decide⟩
theorem eX4_multiply_7 : Dc mX4_multiply 7 (.aload_n 0) 1 8 := ⟨by decide +kernel, rfl⟩
theorem eX4_multiply_8 : Dc mX4_multiply 8 (.getfield 15) 3 11 := ⟨by decide +kernel, rfl⟩
theorem eX4_multiply_11 : Dc mX4_multiply 11 (.iconst 1) 1 12 := ⟨by decide +kernel, rfl⟩
theorem eX4_multiply_12 : Dc mX4_multiply 12 (.iadd) 1 13 := ⟨by decide +kernel, rfl⟩
theorem eX4_multiply_13 : Dc mX4_multiply 13 (.aload_n 0) 1 14 := ⟨by decide +kernel, rfl⟩
theorem eX4_multiply_14 : Dc mX4_multiply 14 (.getfield 9) 3 17 := ⟨by decide +kernel, rfl⟩
theorem eX4_multiply_17 : Dc mX4_multiply 17 (.arraylength) 1 18 := ⟨by decide +kernel, rfl⟩
theorem eX4_multiply_18 : Dj mX4_multiply 18 (.if_icmp .lt) 21 22 := ⟨4, by decide +kernel, rfl, by decide⟩
theorem eX4_multiply_21 : Dc mX4_multiply 21 (.return_) 1 22 := ⟨by decide +kernel, rfl⟩
theorem eX4_multiply_22 : Dc mX4_multiply 22 (.aload_n 0) 1 23 := ⟨by decide +kernel, rfl⟩
theorem eX4_multiply_23 : Dc mX4_multiply 23 (.dup) 1 24 := ⟨by decide +kernel, rfl⟩
theorem eX4_multiply_24 : Dc mX4_multiply 24 (.getfield 15) 3 27 := ⟨by decide +kernel, rfl⟩
theorem eX4_multiply_27 : Dc mX4_multiply 27 (.iconst 1) 1 28 := ⟨by decide +kernel, rfl⟩
theorem eX4_multiply_28 : Dc mX4_multiply 28 (.iadd) 1 29 := ⟨by decide +kernel, rfl⟩
theorem eX4_multiply_29 : Dc mX4_multiply 29 (.putfield 15) 3 32 := ⟨by decide +kernel, rfl⟩
theorem eX4_multiply_32 : Dc mX4_multiply 32 (.aload_n 0) 1 33 := ⟨by decide +kernel, rfl⟩
theorem eX4_multiply_33 : Dc mX4_multiply 33 (.getfield 15) 3 36 := ⟨by decide +kernel, rfl⟩
theorem eX4_multiply_36 : Dc mX4_multiply 36 (.istore 5) 2 38 := ⟨by decide +kernel, rfl⟩
theorem eX4_multiply_38 : Dc mX4_multiply 38 (.iload 5) 2 40 := ⟨by decide +kernel, rfl⟩
theorem eX4_multiply_40 : Dj mX4_multiply 40 (.ifCond .le) 43 77 := ⟨37, by decide +kernel, rfl, by decide⟩
theorem eX4_multiply_43 : Dc mX4_multiply 43 (.aload_n 0) 1 44 := ⟨by decide +kernel, rfl⟩
theorem eX4_multiply_44 : Dc mX4_multiply 44 (.getfield 9) 3 47 := ⟨by decide +kernel, rfl⟩
theorem eX4_multiply_47 : Dc mX4_multiply 47 (.iload 5) 2 49 := ⟨by decide +kernel, rfl⟩
theorem eX4_multiply_49 : Dc mX4_multiply 49 (.aload_n 0) 1 50 := ⟨by decide +kernel, rfl⟩
theorem eX4_multiply_50 : Dc mX4_multiply 50 (.getfield 9) 3 53 := ⟨by decide +kernel, rfl⟩
theorem eX4_multiply_53 : Dc mX4_multiply 53 (.iload 5) 2 55 := ⟨by decide +kernel, rfl⟩
theorem eX4_multiply_55 : Dc mX4_multiply 55 (.laload) 1 56 := ⟨by decide +kernel, rfl⟩
theorem eX4_multiply_56 : Dc mX4_multiply 56 (.lload_n 1) 1 57 := ⟨by decide +kernel, rfl⟩
theorem eX4_multiply_57 : Dc mX4_multiply 57 (.lmul) 1 58 := ⟨by decide +kernel, rfl⟩
theorem eX4_multiply_58 : Dc mX4_multiply 58 (.aload_n 0) 1 59 := ⟨by decide +kernel, rfl⟩
theorem eX4_multiply_59 : Dc mX4_multiply 59 (.getfield 9) 3 62 := ⟨by decide +kernel, rfl⟩
theorem eX4_multiply_62 : Dc mX4_multiply 62 (.iload 5) 2 64 := ⟨by decide +kernel, rfl⟩
theorem eX4_multiply_64 : Dc mX4_multiply 64 (.iconst 1) 1 65 := ⟨by decide +kernel, rfl⟩
theorem eX4_multiply_65 : Dc mX4_multiply 65 (.isub) 1 66 := ⟨by decide +kernel, rfl⟩
theorem eX4_multiply_66 : Dc mX4_multiply 66 (.laload) 1 67 := ⟨by decide +kernel, rfl⟩
theorem eX4_multiply_67 : Dc mX4_multiply 67 (.lload_n 3) 1 68 := ⟨by decide +kernel, rfl⟩
theorem eX4_multiply_68 : Dc mX4_multiply 68 (.lmul) 1 69 := ⟨by decide +kernel, rfl⟩
theorem eX4_multiply_69 : Dc mX4_multiply 69 (.ladd) 1 70 := ⟨by decide +kernel, rfl⟩
theorem eX4_multiply_70 : Dc mX4_multiply 70 (.lastore) 1 71 := ⟨by decide +kernel, rfl⟩
theorem eX4_multiply_71 : Dc mX4_multiply 71 (.iinc 5 (-1)) 3 74 := ⟨by decide +kernel, rfl⟩
theorem eX4_multiply_74 : Dj mX4_multiply 74 (.goto) 77 38 := ⟨-36, by decide +kernel, rfl, by decide⟩
theorem eX4_multiply_77 : Dc mX4_multiply 77 (.aload_n 0) 1 78 := ⟨by decide +kernel, rfl⟩
theorem eX4_multiply_78 : Dc mX4_multiply 78 (.getfield 9) 3 81 := ⟨by decide +kernel, rfl⟩
theorem eX4_multiply_81 : Dc mX4_multiply 81 (.iconst 0) 1 82 := ⟨by decide +kernel, rfl⟩
theorem eX4_multiply_82 : Dc mX4_multiply 82 (.dup2) 1 83 := ⟨by decide +kernel, rfl⟩
theorem eX4_multiply_83 : Dc mX4_multiply 83 (.laload) 1 84 := ⟨by decide +kernel, rfl⟩
theorem eX4_multiply_84 : Dc mX4_multiply 84 (.lload_n 1) 1 85 := ⟨by decide +kernel, rfl⟩
theorem eX4_multiply_85 : Dc mX4_multiply 85 (.lmul) 1 86 := ⟨by decide +kernel, rfl⟩
theorem eX4_multiply_86 : Dc mX4_multiply 86 (.lastore) 1 87 := ⟨by decide +kernel, rfl⟩
theorem eX4_multiply_87 : Dc mX4_multiply 87 (.return_) 1 88 := ⟨by decide +kernel, rfl⟩
theorem eX4_number_0 : Dc mX4_number 0 (.iload_n 1) 1 1 := ⟨by decide +kernel, rfl⟩
theorem eX4_number_1 : Dj mX4_number 1 (.ifCond .lt) 4 22 := ⟨21, by decide +kernel, rfl, by decide⟩
theorem eX4_number_4 : Dc mX4_number 4 (.iload_n 1) 1 5 := ⟨by decide +kernel, rfl⟩
theorem eX4_number_5 : Dc mX4_number 5 (.aload_n 0) 1 6 := ⟨by decide +kernel, rfl⟩
theorem eX4_number_6 : Dc mX4_number 6 (.getfield 9) 3 9 := ⟨by decide +kernel, rfl⟩
theorem eX4_number_9 : Dc mX4_number 9 (.arraylength) 1 10 := ⟨by decide +kernel, rfl⟩
theorem eX4_number_10 : Dj mX4_number 10 (.if_icmp .ge) 13 22 := ⟨12, by decide +kernel, rfl, by decide⟩
theorem eX4_number_13 : Dc mX4_number 13 (.aload_n 0) 1 14 := ⟨by decide +kernel, rfl⟩
theorem eX4_number_14 : Dc mX4_number 14 (.getfield 9) 3 17 := ⟨by decide +kernel, rfl⟩
theorem eX4_number_17 : Dc mX4_number 17 (.iload_n 1) 1 18 := ⟨by decide +kernel, rfl⟩
theorem eX4_number_18 : Dc mX4_number 18 (.laload) 1 19 := ⟨by decide +kernel, rfl⟩
theorem eX4_number_19 : Dj mX4_number 19 (.goto) 22 23 := ⟨4, by decide +kernel, rfl, by decide⟩
theorem eX4_number_22 : Dc mX4_number 22 (.lconst 0) 1 23 := ⟨by decide +kernel, rfl⟩
theorem eX4_number_23 : Dc mX4_number 23 (.lreturn) 1 24 := ⟨by decide +kernel, rfl⟩
theorem eX4_raise_0 : Dc mX4_raise 0 (.aload_n 0) 1 1 := ⟨by decide +kernel, rfl⟩
theorem eX4_raise_1 : Dc mX4_raise 1 (.lconst 1) 1 2 := ⟨by decide +kernel, rfl⟩
theorem eX4_raise_2 : Dc mX4_raise 2 (.lconst 1) 1 3 := ⟨by decide +kernel, rfl⟩
theorem eX4_raise_3 : Dc mX4_raise 3 (.invokevirtual 69) 3 6 := ⟨by decide +kernel, rfl⟩
theorem eX4_raise_6 : Dc mX4_raise 6 (.return_) 1 7 := ⟨by decide +kernel, rfl⟩
theorem eX4_signAtHigh_0 : Dc mX4_signAtHigh 0 (.aload_n 0) 1 1 := ⟨by decide +kernel, rfl⟩
theorem eX4_signAtHigh_1 : Dc mX4_signAtHigh 1 (.aload_n 0) 1 2 := ⟨by decide +kernel, rfl⟩
theorem eX4_signAtHigh_2 : Dc mX4_signAtHigh 2 (.getfield 15) 3 5 := ⟨by decide +kernel, rfl⟩
theorem eX4_signAtHigh_5 : Dc mX4_signAtHigh 5 (.invokevirtual 84) 3 8 := ⟨by decide +kernel, rfl⟩
theorem eX4_signAtHigh_8 : Dc mX4_signAtHigh 8 (.invokestatic 96) 3 11 := ⟨by decide +kernel, rfl⟩
theorem eX4_signAtHigh_11 : Dc mX4_signAtHigh 11 (.ireturn) 1 12 := ⟨by decide +kernel, rfl⟩
theorem eX4_signAtLow_0 : Dc mX4_signAtLow 0 (.aload_n 0) 1 1 := ⟨by decide +kernel, rfl⟩
theorem eX4_signAtLow_1 : Dc mX4_signAtLow 1 (.iconst 0) 1 2 := ⟨by decide +kernel, rfl⟩
theorem eX4_signAtLow_2 : Dc mX4_signAtLow 2 (.invokevirtual 84) 3 5 := ⟨by decide +kernel, rfl⟩
theorem eX4_signAtLow_5 : Dc mX4_signAtLow 5 (.invokestatic 96) 3 8 := ⟨by decide +kernel, rfl⟩
theorem eX4_signAtLow_8 : Dc mX4_signAtLow 8 (.ireturn) 1 9 := ⟨by decide +kernel, rfl⟩
theorem eX4_signChanges_0 : Dc mX4_signChanges 0 (.iconst 0) 1 1 := ⟨by decide +kernel, rfl⟩
theorem eX4_signChanges_1 : Dc mX4_signChanges 1 (.istore_n 1) 1 2 := ⟨by decide +kernel, rfl⟩
theorem eX4_signChanges_2 : Dc mX4_signChanges 2 (.iconst 0) 1 3 := ⟨by decide +kernel, rfl⟩
theorem eX4_signChanges_3 : Dc mX4_signChanges 3 (.istore_n 2) 1 4 := ⟨by decide +kernel, rfl⟩
theorem eX4_signChanges_4 : Dc mX4_signChanges 4 (.iconst 0) 1 5 := ⟨by decide +kernel, rfl⟩
theorem eX4_signChanges_5 : Dc mX4_signChanges 5 (.istore_n 3) 1 6 := ⟨by decide +kernel, rfl⟩
theorem eX4_signChanges_6 : Dc mX4_signChanges 6 (.iload_n 3) 1 7 := ⟨by decide +kernel, rfl⟩
theorem eX4_signChanges_7 : Dc mX4_signChanges 7 (.aload_n 0) 1 8 := ⟨by decide +kernel, rfl⟩
theorem eX4_signChanges_8 : Dc mX4_signChanges 8 (.getfield 15) 3 11 := ⟨by decide +kernel, rfl⟩
theorem eX4_signChanges_11 : Dj mX4_signChanges 11 (.if_icmp .gt) 14 51 := ⟨40, by decide +kernel, rfl, by decide⟩
theorem eX4_signChanges_14 : Dc mX4_signChanges 14 (.aload_n 0) 1 15 := ⟨by decide +kernel, rfl⟩
theorem eX4_signChanges_15 : Dc mX4_signChanges 15 (.iload_n 3) 1 16 := ⟨by decide +kernel, rfl⟩
theorem eX4_signChanges_16 : Dc mX4_signChanges 16 (.invokevirtual 84) 3 19 := ⟨by decide +kernel, rfl⟩
theorem eX4_signChanges_19 : Dc mX4_signChanges 19 (.invokestatic 96) 3 22 := ⟨by decide +kernel, rfl⟩
theorem eX4_signChanges_22 : Dc mX4_signChanges 22 (.istore 4) 2 24 := ⟨by decide +kernel, rfl⟩
theorem eX4_signChanges_24 : Dc mX4_signChanges 24 (.iload 4) 2 26 := ⟨by decide +kernel, rfl⟩
theorem eX4_signChanges_26 : Dj mX4_signChanges 26 (.ifCond .eq) 29 45 := ⟨19, by decide +kernel, rfl, by decide⟩
theorem eX4_signChanges_29 : Dc mX4_signChanges 29 (.iload_n 2) 1 30 := ⟨by decide +kernel, rfl⟩
theorem eX4_signChanges_30 : Dj mX4_signChanges 30 (.ifCond .eq) 33 42 := ⟨12, by decide +kernel, rfl, by decide⟩
theorem eX4_signChanges_33 : Dc mX4_signChanges 33 (.iload 4) 2 35 := ⟨by decide +kernel, rfl⟩
theorem eX4_signChanges_35 : Dc mX4_signChanges 35 (.iload_n 2) 1 36 := ⟨by decide +kernel, rfl⟩
theorem eX4_signChanges_36 : Dj mX4_signChanges 36 (.if_icmp .eq) 39 42 := ⟨6, by decide +kernel, rfl, by decide⟩
theorem eX4_signChanges_39 : Dc mX4_signChanges 39 (.iinc 1 1) 3 42 := ⟨by decide +kernel, rfl⟩
theorem eX4_signChanges_42 : Dc mX4_signChanges 42 (.iload 4) 2 44 := ⟨by decide +kernel, rfl⟩
theorem eX4_signChanges_44 : Dc mX4_signChanges 44 (.istore_n 2) 1 45 := ⟨by decide +kernel, rfl⟩
theorem eX4_signChanges_45 : Dc mX4_signChanges 45 (.iinc 3 1) 3 48 := ⟨by decide +kernel, rfl⟩
theorem eX4_signChanges_48 : Dj mX4_signChanges 48 (.goto) 51 6 := ⟨-42, by decide +kernel, rfl, by decide⟩
theorem eX4_signChanges_51 : Dc mX4_signChanges 51 (.iload_n 1) 1 52 := ⟨by decide +kernel, rfl⟩
theorem eX4_signChanges_52 : Dc mX4_signChanges 52 (.ireturn) 1 53 := ⟨by decide +kernel, rfl⟩
theorem eX4_top_0 : Dc mX4_top 0 (.aload_n 0) 1 1 := ⟨by decide +kernel, rfl⟩
theorem eX4_top_1 : Dc mX4_top 1 (.getfield 15) 3 4 := ⟨by decide +kernel, rfl⟩
theorem eX4_top_4 : Dc mX4_top 4 (.ireturn) 1 5 := ⟨by decide +kernel, rfl⟩
theorem eX4_ways_0 : Dc mX4_ways 0 (.aload_n 0) 1 1 := ⟨by decide +kernel, rfl⟩
theorem eX4_ways_1 : Dc mX4_ways 1 (.getfield 15) 3 4 := ⟨by decide +kernel, rfl⟩
theorem eX4_ways_4 : Dc mX4_ways 4 (.bipush 8) 2 6 := ⟨by decide +kernel, rfl⟩
theorem eX4_ways_6 : Dc mX4_ways 6 (.imul) 1 7 := ⟨by decide +kernel, rfl⟩
theorem eX4_ways_7 : Dc mX4_ways 7 (.iload_n 1) 1 8 := ⟨by decide +kernel, rfl⟩
theorem eX4_ways_8 : Dc mX4_ways 8 (.iadd) 1 9 := ⟨by decide +kernel, rfl⟩
theorem eX4_ways_9 : Dc mX4_ways 9 (.istore_n 2) 1 10 := ⟨by decide +kernel, rfl⟩
theorem eX4_ways_10 : Dc mX4_ways 10 (.iload_n 1) 1 11 := ⟨by decide +kernel, rfl⟩
theorem eX4_ways_11 : Dj mX4_ways 11 (.ifCond .lt) 14 42 := ⟨31, by decide +kernel, rfl, by decide⟩
theorem eX4_ways_14 : Dc mX4_ways 14 (.iload_n 1) 1 15 := ⟨by decide +kernel, rfl⟩
theorem eX4_ways_15 : Dc mX4_ways 15 (.aload_n 0) 1 16 := ⟨by decide +kernel, rfl⟩
theorem eX4_ways_16 : Dc mX4_ways 16 (.getfield 15) 3 19 := ⟨by decide +kernel, rfl⟩
theorem eX4_ways_19 : Dj mX4_ways 19 (.if_icmp .gt) 22 42 := ⟨23, by decide +kernel, rfl, by decide⟩
theorem eX4_ways_22 : Dc mX4_ways 22 (.iload_n 2) 1 23 := ⟨by decide +kernel, rfl⟩
theorem eX4_ways_23 : Dj mX4_ways 23 (.ifCond .lt) 26 42 := ⟨19, by decide +kernel, rfl, by decide⟩
theorem eX4_ways_26 : Dc mX4_ways 26 (.iload_n 2) 1 27 := ⟨by decide +kernel, rfl⟩
theorem eX4_ways_27 : Dc mX4_ways 27 (.getstatic 80) 3 30 := ⟨by decide +kernel, rfl⟩
theorem eX4_ways_30 : Dc mX4_ways 30 (.arraylength) 1 31 := ⟨by decide +kernel, rfl⟩
theorem eX4_ways_31 : Dj mX4_ways 31 (.if_icmp .ge) 34 42 := ⟨11, by decide +kernel, rfl, by decide⟩
theorem eX4_ways_34 : Dc mX4_ways 34 (.getstatic 80) 3 37 := ⟨by decide +kernel, rfl⟩
theorem eX4_ways_37 : Dc mX4_ways 37 (.iload_n 2) 1 38 := ⟨by decide +kernel, rfl⟩
theorem eX4_ways_38 : Dc mX4_ways 38 (.iaload) 1 39 := ⟨by decide +kernel, rfl⟩
theorem eX4_ways_39 : Dj mX4_ways 39 (.goto) 42 43 := ⟨4, by decide +kernel, rfl, by decide⟩
theorem eX4_ways_42 : Dc mX4_ways 42 (.iconst 0) 1 43 := ⟨by decide +kernel, rfl⟩
theorem eX4_ways_43 : Dc mX4_ways 43 (.ireturn) 1 44 := ⟨by decide +kernel, rfl⟩
theorem eX5_add_0 : Dc mX5_add 0 (.iload_n 1) 1 1 := ⟨by decide +kernel, rfl⟩
theorem eX5_add_1 : Dj mX5_add 1 (.ifCond .lt) 4 23 := ⟨22, by decide +kernel, rfl, by decide⟩
theorem eX5_add_4 : Dc mX5_add 4 (.iload_n 1) 1 5 := ⟨by decide +kernel, rfl⟩
theorem eX5_add_5 : Dc mX5_add 5 (.aload_n 0) 1 6 := ⟨by decide +kernel, rfl⟩
theorem eX5_add_6 : Dc mX5_add 6 (.getfield 11) 3 9 := ⟨by decide +kernel, rfl⟩
theorem eX5_add_9 : Dc mX5_add 9 (.arraylength) 1 10 := ⟨by decide +kernel, rfl⟩
theorem eX5_add_10 : Dj mX5_add 10 (.if_icmp .ge) 13 23 := ⟨13, by decide +kernel, rfl, by decide⟩
theorem eX5_add_13 : Dc mX5_add 13 (.aload_n 0) 1 14 := ⟨by decide +kernel, rfl⟩
theorem eX5_add_14 : Dc mX5_add 14 (.getfield 11) 3 17 := ⟨by decide +kernel, rfl⟩
theorem eX5_add_17 : Dc mX5_add 17 (.iload_n 1) 1 18 := ⟨by decide +kernel, rfl⟩
theorem eX5_add_18 : Dc mX5_add 18 (.dup2) 1 19 := ⟨by decide +kernel, rfl⟩
theorem eX5_add_19 : Dc mX5_add 19 (.iaload) 1 20 := ⟨by decide +kernel, rfl⟩
theorem eX5_add_20 : Dc mX5_add 20 (.iload_n 2) 1 21 := ⟨by decide +kernel, rfl⟩
theorem eX5_add_21 : Dc mX5_add 21 (.iadd) 1 22 := ⟨by decide +kernel, rfl⟩
theorem eX5_add_22 : Dc mX5_add 22 (.iastore) 1 23 := ⟨by decide +kernel, rfl⟩
theorem eX5_add_23 : Dc mX5_add 23 (.return_) 1 24 := ⟨by decide +kernel, rfl⟩
theorem eX5_firstHeld_0 : Dc mX5_firstHeld 0 (.iconst 1) 1 1 := ⟨by decide +kernel, rfl⟩
theorem eX5_firstHeld_1 : Dc mX5_firstHeld 1 (.istore_n 3) 1 2 := ⟨by decide +kernel, rfl⟩
theorem eX5_firstHeld_2 : Dc mX5_firstHeld 2 (.iload_n 3) 1 3 := ⟨by decide +kernel, rfl⟩
theorem eX5_firstHeld_3 : Dc mX5_firstHeld 3 (.bipush 127) 2 5 := ⟨by decide +kernel, rfl⟩
theorem eX5_firstHeld_5 : Dj mX5_firstHeld 5 (.if_icmp .gt) 8 25 := ⟨20, by decide +kernel, rfl, by decide⟩
theorem eX5_firstHeld_8 : Dc mX5_firstHeld 8 (.aload_n 1) 1 9 := ⟨by decide +kernel, rfl⟩
theorem eX5_firstHeld_9 : Dc mX5_firstHeld 9 (.aload_n 2) 1 10 := ⟨by decide +kernel, rfl⟩
theorem eX5_firstHeld_10 : Dc mX5_firstHeld 10 (.iload_n 3) 1 11 := ⟨by decide +kernel, rfl⟩
theorem eX5_firstHeld_11 : Dc mX5_firstHeld 11 (.invokestatic 21) 3 14 := ⟨by decide +kernel, rfl⟩
theorem eX5_firstHeld_14 : Dj mX5_firstHeld 14 (.ifCond .ne) 17 19 := ⟨5, by decide +kernel, rfl, by decide⟩
theorem eX5_firstHeld_17 : Dc mX5_firstHeld 17 (.iload_n 3) 1 18 := ⟨by decide +kernel, rfl⟩
theorem eX5_firstHeld_18 : Dc mX5_firstHeld 18 (.ireturn) 1 19 := ⟨by decide +kernel, rfl⟩
theorem eX5_firstHeld_19 : Dc mX5_firstHeld 19 (.iinc 3 1) 3 22 := ⟨by decide +kernel, rfl⟩
theorem eX5_firstHeld_22 : Dj mX5_firstHeld 22 (.goto) 25 2 := ⟨-20, by decide +kernel, rfl, by decide⟩
theorem eX5_firstHeld_25 : Dc mX5_firstHeld 25 (.bipush (-9)) 2 27 := ⟨by decide +kernel, rfl⟩
theorem eX5_firstHeld_27 : Dc mX5_firstHeld 27 (.ireturn) 1 28 := ⟨by decide +kernel, rfl⟩
theorem eX5_judge_0 : Dc mX5_judge 0 (.aload_n 0) 1 1 := ⟨by decide +kernel, rfl⟩
theorem eX5_judge_1 : Dc mX5_judge 1 (.invokevirtual 36) 3 4 := ⟨by decide +kernel, rfl⟩
theorem eX5_judge_4 : Dc mX5_judge 4 (.astore_n 3) 1 5 := ⟨by decide +kernel, rfl⟩
theorem eX5_judge_5 : Dc mX5_judge 5 (.iconst 0) 1 6 := ⟨by decide +kernel, rfl⟩
theorem eX5_judge_6 : Dc mX5_judge 6 (.istore 4) 2 8 := ⟨by decide +kernel, rfl⟩
theorem eX5_judge_8 : Dc mX5_judge 8 (.iconst 0) 1 9 := ⟨by decide +kernel, rfl⟩
theorem eX5_judge_9 : Dc mX5_judge 9 (.istore 5) 2 11 := ⟨by decide +kernel, rfl⟩
theorem eX5_judge_11 : Dc mX5_judge 11 (.iload 5) 2 13 := ⟨by decide +kernel, rfl⟩
theorem eX5_judge_13 : Dc mX5_judge 13 (.aload_n 3) 1 14 := ⟨by decide +kernel, rfl⟩
theorem eX5_judge_14 : Dc mX5_judge 14 (.invokevirtual 42) 3 17 := ⟨by decide +kernel, rfl⟩
theorem eX5_judge_17 : Dj mX5_judge 17 (.if_icmp .ge) 20 71 := ⟨54, by decide +kernel, rfl, by decide⟩
theorem eX5_judge_20 : Dc mX5_judge 20 (.aload_n 3) 1 21 := ⟨by decide +kernel, rfl⟩
theorem eX5_judge_21 : Dc mX5_judge 21 (.iload 5) 2 23 := ⟨by decide +kernel, rfl⟩
theorem eX5_judge_23 : Dc mX5_judge 23 (.invokevirtual 48) 3 26 := ⟨by decide +kernel, rfl⟩
theorem eX5_judge_26 : Dc mX5_judge 26 (.istore 6) 2 28 := ⟨by decide +kernel, rfl⟩
theorem eX5_judge_28 : Dc mX5_judge 28 (.iload 6) 2 30 := ⟨by decide +kernel, rfl⟩
theorem eX5_judge_30 : Dj mX5_judge 30 (.ifCond .eq) 33 65 := ⟨35, by decide +kernel, rfl, by decide⟩
theorem eX5_judge_33 : Dc mX5_judge 33 (.aload_n 1) 1 34 := ⟨by decide +kernel, rfl⟩
theorem eX5_judge_34 : Dc mX5_judge 34 (.aload_n 0) 1 35 := ⟨by decide +kernel, rfl⟩
theorem eX5_judge_35 : Dc mX5_judge 35 (.iload 5) 2 37 := ⟨by decide +kernel, rfl⟩
theorem eX5_judge_37 : Dc mX5_judge 37 (.iload_n 2) 1 38 := ⟨by decide +kernel, rfl⟩
theorem eX5_judge_38 : Dc mX5_judge 38 (.invokevirtual 51) 3 41 := ⟨by decide +kernel, rfl⟩
theorem eX5_judge_41 : Dc mX5_judge 41 (.aload_n 1) 1 42 := ⟨by decide +kernel, rfl⟩
theorem eX5_judge_42 : Dc mX5_judge 42 (.iload 6) 2 44 := ⟨by decide +kernel, rfl⟩
theorem eX5_judge_44 : Dc mX5_judge 44 (.ineg) 1 45 := ⟨by decide +kernel, rfl⟩
theorem eX5_judge_45 : Dc mX5_judge 45 (.invokevirtual 57) 3 48 := ⟨by decide +kernel, rfl⟩
theorem eX5_judge_48 : Dj mX5_judge 48 (.ifCond .eq) 51 53 := ⟨5, by decide +kernel, rfl, by decide⟩
theorem eX5_judge_51 : Dc mX5_judge 51 (.iconst 1) 1 52 := ⟨by decide +kernel, rfl⟩
theorem eX5_judge_52 : Dc mX5_judge 52 (.ireturn) 1 53 := ⟨by decide +kernel, rfl⟩
theorem eX5_judge_53 : Dc mX5_judge 53 (.aload_n 1) 1 54 := ⟨by decide +kernel, rfl⟩
theorem eX5_judge_54 : Dc mX5_judge 54 (.iload 6) 2 56 := ⟨by decide +kernel, rfl⟩
theorem eX5_judge_56 : Dc mX5_judge 56 (.invokevirtual 57) 3 59 := ⟨by decide +kernel, rfl⟩
theorem eX5_judge_59 : Dj mX5_judge 59 (.ifCond .ne) 62 65 := ⟨6, by decide +kernel, rfl, by decide⟩
theorem eX5_judge_62 : Dc mX5_judge 62 (.iconst 2) 1 63 := ⟨by decide +kernel, rfl⟩
theorem eX5_judge_63 : Dc mX5_judge 63 (.istore 4) 2 65 := ⟨by decide +kernel, rfl⟩
theorem eX5_judge_65 : Dc mX5_judge 65 (.iinc 5 1) 3 68 := ⟨by decide +kernel, rfl⟩
theorem eX5_judge_68 : Dj mX5_judge 68 (.goto) 71 11 := ⟨-57, by decide +kernel, rfl, by decide⟩
theorem eX5_judge_71 : Dc mX5_judge 71 (.iload 4) 2 73 := ⟨by decide +kernel, rfl⟩
theorem eX5_judge_73 : Dc mX5_judge 73 (.ireturn) 1 74 := ⟨by decide +kernel, rfl⟩
theorem eX5_measure_0 : Dc mX5_measure 0 (.aload_n 0) 1 1 := ⟨by decide +kernel, rfl⟩
theorem eX5_measure_1 : Dc mX5_measure 1 (.getfield 11) 3 4 := ⟨by decide +kernel, rfl⟩
theorem eX5_measure_4 : Dc mX5_measure 4 (.iconst 0) 1 5 := ⟨by decide +kernel, rfl⟩
theorem eX5_measure_5 : Dc mX5_measure 5 (.invokestatic 15) 3 8 := ⟨by decide +kernel, rfl⟩
theorem eX5_measure_8 : Dc mX5_measure 8 (.iconst 1) 1 9 := ⟨by decide +kernel, rfl⟩
theorem eX5_measure_9 : Dc mX5_measure 9 (.istore_n 3) 1 10 := ⟨by decide +kernel, rfl⟩
theorem eX5_measure_10 : Dc mX5_measure 10 (.iconst 0) 1 11 := ⟨by decide +kernel, rfl⟩
theorem eX5_measure_11 : Dc mX5_measure 11 (.istore 4) 2 13 := ⟨by decide +kernel, rfl⟩
theorem eX5_measure_13 : Dc mX5_measure 13 (.iload 4) 2 15 := ⟨by decide +kernel, rfl⟩
theorem eX5_measure_15 : Dc mX5_measure 15 (.bipush 127) 2 17 := ⟨by decide +kernel, rfl⟩
theorem eX5_measure_17 : Dj mX5_measure 17 (.if_icmp .ge) 20 72 := ⟨55, by decide +kernel, rfl, by decide⟩
theorem eX5_measure_20 : Dc mX5_measure 20 (.iload_n 3) 1 21 := ⟨by decide +kernel, rfl⟩
theorem eX5_measure_21 : Dj mX5_measure 21 (.ifCond .eq) 24 72 := ⟨51, by decide +kernel, rfl, by decide⟩
theorem eX5_measure_24 : Dc mX5_measure 24 (.aload_n 1) 1 25 := ⟨by decide +kernel, rfl⟩
theorem eX5_measure_25 : Dc mX5_measure 25 (.aload_n 2) 1 26 := ⟨by decide +kernel, rfl⟩
theorem eX5_measure_26 : Dc mX5_measure 26 (.iload_n 3) 1 27 := ⟨by decide +kernel, rfl⟩
theorem eX5_measure_27 : Dc mX5_measure 27 (.invokestatic 21) 3 30 := ⟨by decide +kernel, rfl⟩
theorem eX5_measure_30 : Dc mX5_measure 30 (.istore 5) 2 32 := ⟨by decide +kernel, rfl⟩
theorem eX5_measure_32 : Dc mX5_measure 32 (.iload 5) 2 34 := ⟨by decide +kernel, rfl⟩
theorem eX5_measure_34 : Dc mX5_measure 34 (.iconst 2) 1 35 := ⟨by decide +kernel, rfl⟩
theorem eX5_measure_35 : Dj mX5_measure 35 (.if_icmp .ne) 38 51 := ⟨16, by decide +kernel, rfl, by decide⟩
theorem eX5_measure_38 : Dc mX5_measure 38 (.iload_n 3) 1 39 := ⟨by decide +kernel, rfl⟩
theorem eX5_measure_39 : Dc mX5_measure 39 (.bipush 64) 2 41 := ⟨by decide +kernel, rfl⟩
theorem eX5_measure_41 : Dj mX5_measure 41 (.if_icmp .ge) 44 51 := ⟨10, by decide +kernel, rfl, by decide⟩
theorem eX5_measure_44 : Dc mX5_measure 44 (.iconst 2) 1 45 := ⟨by decide +kernel, rfl⟩
theorem eX5_measure_45 : Dc mX5_measure 45 (.iload_n 3) 1 46 := ⟨by decide +kernel, rfl⟩
theorem eX5_measure_46 : Dc mX5_measure 46 (.imul) 1 47 := ⟨by decide +kernel, rfl⟩
theorem eX5_measure_47 : Dc mX5_measure 47 (.istore_n 3) 1 48 := ⟨by decide +kernel, rfl⟩
theorem eX5_measure_48 : Dj mX5_measure 48 (.goto) 51 66 := ⟨18, by decide +kernel, rfl, by decide⟩
theorem eX5_measure_51 : Dc mX5_measure 51 (.aload_n 0) 1 52 := ⟨by decide +kernel, rfl⟩
theorem eX5_measure_52 : Dc mX5_measure 52 (.iload 5) 2 54 := ⟨by decide +kernel, rfl⟩
theorem eX5_measure_54 : Dc mX5_measure 54 (.iload_n 3) 1 55 := ⟨by decide +kernel, rfl⟩
theorem eX5_measure_55 : Dc mX5_measure 55 (.invokestatic 25) 3 58 := ⟨by decide +kernel, rfl⟩
theorem eX5_measure_58 : Dc mX5_measure 58 (.invokevirtual 29) 3 61 := ⟨by decide +kernel, rfl⟩
theorem eX5_measure_61 : Dc mX5_measure 61 (.iload_n 3) 1 62 := ⟨by decide +kernel, rfl⟩
theorem eX5_measure_62 : Dc mX5_measure 62 (.invokestatic 33) 3 65 := ⟨by decide +kernel, rfl⟩
theorem eX5_measure_65 : Dc mX5_measure 65 (.istore_n 3) 1 66 := ⟨by decide +kernel, rfl⟩
theorem eX5_measure_66 : Dc mX5_measure 66 (.iinc 4 1) 3 69 := ⟨by decide +kernel, rfl⟩
theorem eX5_measure_69 : Dj mX5_measure 69 (.goto) 72 13 := ⟨-56, by decide +kernel, rfl, by decide⟩
theorem eX5_measure_72 : Dc mX5_measure 72 (.return_) 1 73 := ⟨by decide +kernel, rfl⟩
theorem eX5_share_0 : Dc mX5_share 0 (.iload_n 1) 1 1 := ⟨by decide +kernel, rfl⟩
theorem eX5_share_1 : Dj mX5_share 1 (.ifCond .lt) 4 22 := ⟨21, by decide +kernel, rfl, by decide⟩
theorem eX5_share_4 : Dc mX5_share 4 (.iload_n 1) 1 5 := ⟨by decide +kernel, rfl⟩
theorem eX5_share_5 : Dc mX5_share 5 (.aload_n 0) 1 6 := ⟨by decide +kernel, rfl⟩
theorem eX5_share_6 : Dc mX5_share 6 (.getfield 11) 3 9 := ⟨by decide +kernel, rfl⟩
theorem eX5_share_9 : Dc mX5_share 9 (.arraylength) 1 10 := ⟨by decide +kernel, rfl⟩
theorem eX5_share_10 : Dj mX5_share 10 (.if_icmp .ge) 13 22 := ⟨12, by decide +kernel, rfl, by decide⟩
theorem eX5_share_13 : Dc mX5_share 13 (.aload_n 0) 1 14 := ⟨by decide +kernel, rfl⟩
theorem eX5_share_14 : Dc mX5_share 14 (.getfield 11) 3 17 := ⟨by decide +kernel, rfl⟩
theorem eX5_share_17 : Dc mX5_share 17 (.iload_n 1) 1 18 := ⟨by decide +kernel, rfl⟩
theorem eX5_share_18 : Dc mX5_share 18 (.iaload) 1 19 := ⟨by decide +kernel, rfl⟩
theorem eX5_share_19 : Dj mX5_share 19 (.goto) 22 23 := ⟨4, by decide +kernel, rfl, by decide⟩
theorem eX5_share_22 : Dc mX5_share 22 (.iconst 0) 1 23 := ⟨by decide +kernel, rfl⟩
theorem eX5_share_23 : Dc mX5_share 23 (.ireturn) 1 24 := ⟨by decide +kernel, rfl⟩
theorem eX6_add_0 : Dc mX6_add 0 (.aload_n 0) 1 1 := ⟨by decide +kernel, rfl⟩
theorem eX6_add_1 : Dc mX6_add 1 (.getfield 18) 3 4 := ⟨by decide +kernel, rfl⟩
theorem eX6_add_4 : Dj mX6_add 4 (.ifCond .lt) 7 46 := ⟨42, by decide +kernel, rfl, by decide⟩
theorem eX6_add_7 : Dc mX6_add 7 (.aload_n 0) 1 8 := ⟨by decide +kernel, rfl⟩
theorem eX6_add_8 : Dc mX6_add 8 (.getfield 18) 3 11 := ⟨by decide +kernel, rfl⟩
theorem eX6_add_11 : Dc mX6_add 11 (.bipush 6) 2 13 := ⟨by decide +kernel, rfl⟩
theorem eX6_add_13 : Dj mX6_add 13 (.if_icmp .ge) 16 46 := ⟨33, by decide +kernel, rfl, by decide⟩
theorem eX6_add_16 : Dc mX6_add 16 (.aload_n 0) 1 17 := ⟨by decide +kernel, rfl⟩
theorem eX6_add_17 : Dc mX6_add 17 (.getfield 9) 3 20 := ⟨by decide +kernel, rfl⟩
theorem eX6_add_20 : Dc mX6_add 20 (.aload_n 0) 1 21 := ⟨by decide +kernel, rfl⟩
theorem eX6_add_21 : Dc mX6_add 21 (.getfield 18) 3 24 := ⟨by decide +kernel, rfl⟩
theorem eX6_add_24 : Dc mX6_add 24 (.iload_n 1) 1 25 := ⟨by decide +kernel, rfl⟩
theorem eX6_add_25 : Dc mX6_add 25 (.iastore) 1 26 := ⟨by decide +kernel, rfl⟩
theorem eX6_add_26 : Dc mX6_add 26 (.aload_n 0) 1 27 := ⟨by decide +kernel, rfl⟩
theorem eX6_add_27 : Dc mX6_add 27 (.getfield 15) 3 30 := ⟨by decide +kernel, rfl⟩
theorem eX6_add_30 : Dc mX6_add 30 (.aload_n 0) 1 31 := ⟨by decide +kernel, rfl⟩
theorem eX6_add_31 : Dc mX6_add 31 (.getfield 18) 3 34 := ⟨by decide +kernel, rfl⟩
theorem eX6_add_34 : Dc mX6_add 34 (.iload_n 2) 1 35 := ⟨by decide +kernel, rfl⟩
theorem eX6_add_35 : Dc mX6_add 35 (.iastore) 1 36 := ⟨by decide +kernel, rfl⟩
theorem eX6_add_36 : Dc mX6_add 36 (.aload_n 0) 1 37 := ⟨by decide +kernel, rfl⟩
theorem eX6_add_37 : Dc mX6_add 37 (.dup) 1 38 := ⟨by decide +kernel, rfl⟩
theorem eX6_add_38 : Dc mX6_add 38 (.getfield 18) 3 41 := ⟨by decide +kernel, rfl⟩
theorem eX6_add_41 : Dc mX6_add 41 (.iconst 1) 1 42 := ⟨by decide +kernel, rfl⟩
theorem eX6_add_42 : Dc mX6_add 42 (.iadd) 1 43 := ⟨by decide +kernel, rfl⟩
theorem eX6_add_43 : Dc mX6_add 43 (.putfield 18) 3 46 := ⟨by decide +kernel, rfl⟩
theorem eX6_add_46 : Dc mX6_add 46 (.return_) 1 47 := ⟨by decide +kernel, rfl⟩
theorem eX6_empty_0 : Dc mX6_empty 0 (.aload_n 0) 1 1 := ⟨by decide +kernel, rfl⟩
theorem eX6_empty_1 : Dc mX6_empty 1 (.iconst 0) 1 2 := ⟨by decide +kernel, rfl⟩
theorem eX6_empty_2 : Dc mX6_empty 2 (.putfield 18) 3 5 := ⟨by decide +kernel, rfl⟩
theorem eX6_empty_5 : Dc mX6_empty 5 (.return_) 1 6 := ⟨by decide +kernel, rfl⟩
theorem eX6_fit_0 : Dc mX6_fit 0 (.iconst 0) 1 1 := ⟨by decide +kernel, rfl⟩
theorem eX6_fit_1 : Dc mX6_fit 1 (.istore_n 3) 1 2 := ⟨by decide +kernel, rfl⟩
theorem eX6_fit_2 : Dc mX6_fit 2 (.iload_n 3) 1 3 := ⟨by decide +kernel, rfl⟩
theorem eX6_fit_3 : Dc mX6_fit 3 (.aload_n 0) 1 4 := ⟨by decide +kernel, rfl⟩
theorem eX6_fit_4 : Dc mX6_fit 4 (.getfield 18) 3 7 := ⟨by decide +kernel, rfl⟩
theorem eX6_fit_7 : Dj mX6_fit 7 (.if_icmp .ge) 10 48 := ⟨41, by decide +kernel, rfl, by decide⟩
theorem eX6_fit_10 : Dc mX6_fit 10 (.iload_n 3) 1 11 := ⟨by decide +kernel, rfl⟩
theorem eX6_fit_11 : Dc mX6_fit 11 (.bipush 6) 2 13 := ⟨by decide +kernel, rfl⟩
theorem eX6_fit_13 : Dj mX6_fit 13 (.if_icmp .ge) 16 48 := ⟨35, by decide +kernel, rfl, by decide⟩
theorem eX6_fit_16 : Dc mX6_fit 16 (.aload_n 1) 1 17 := ⟨by decide +kernel, rfl⟩
theorem eX6_fit_17 : Dc mX6_fit 17 (.iload_n 2) 1 18 := ⟨by decide +kernel, rfl⟩
theorem eX6_fit_18 : Dc mX6_fit 18 (.aload_n 0) 1 19 := ⟨by decide +kernel, rfl⟩
theorem eX6_fit_19 : Dc mX6_fit 19 (.getfield 9) 3 22 := ⟨by decide +kernel, rfl⟩
theorem eX6_fit_22 : Dc mX6_fit 22 (.iload_n 3) 1 23 := ⟨by decide +kernel, rfl⟩
theorem eX6_fit_23 : Dc mX6_fit 23 (.iaload) 1 24 := ⟨by decide +kernel, rfl⟩
theorem eX6_fit_24 : Dc mX6_fit 24 (.invokevirtual 22) 3 27 := ⟨by decide +kernel, rfl⟩
theorem eX6_fit_27 : Dc mX6_fit 27 (.i2l) 1 28 := ⟨by decide +kernel, rfl⟩
theorem eX6_fit_28 : Dc mX6_fit 28 (.invokestatic 28) 3 31 := ⟨by decide +kernel, rfl⟩
theorem eX6_fit_31 : Dc mX6_fit 31 (.aload_n 0) 1 32 := ⟨by decide +kernel, rfl⟩
theorem eX6_fit_32 : Dc mX6_fit 32 (.getfield 15) 3 35 := ⟨by decide +kernel, rfl⟩
theorem eX6_fit_35 : Dc mX6_fit 35 (.iload_n 3) 1 36 := ⟨by decide +kernel, rfl⟩
theorem eX6_fit_36 : Dc mX6_fit 36 (.iaload) 1 37 := ⟨by decide +kernel, rfl⟩
theorem eX6_fit_37 : Dj mX6_fit 37 (.if_icmp .eq) 40 42 := ⟨5, by decide +kernel, rfl, by decide⟩
theorem eX6_fit_40 : Dc mX6_fit 40 (.iconst 0) 1 41 := ⟨by decide +kernel, rfl⟩
theorem eX6_fit_41 : Dc mX6_fit 41 (.ireturn) 1 42 := ⟨by decide +kernel, rfl⟩
theorem eX6_fit_42 : Dc mX6_fit 42 (.iinc 3 1) 3 45 := ⟨by decide +kernel, rfl⟩
theorem eX6_fit_45 : Dj mX6_fit 45 (.goto) 48 2 := ⟨-43, by decide +kernel, rfl, by decide⟩
theorem eX6_fit_48 : Dc mX6_fit 48 (.iconst 1) 1 49 := ⟨by decide +kernel, rfl⟩
theorem eX6_fit_49 : Dc mX6_fit 49 (.ireturn) 1 50 := ⟨by decide +kernel, rfl⟩
theorem eX6_isFull_0 : Dc mX6_isFull 0 (.aload_n 0) 1 1 := ⟨by decide +kernel, rfl⟩
theorem eX6_isFull_1 : Dc mX6_isFull 1 (.getfield 18) 3 4 := ⟨by decide +kernel, rfl⟩
theorem eX6_isFull_4 : Dc mX6_isFull 4 (.bipush 6) 2 6 := ⟨by decide +kernel, rfl⟩
theorem eX6_isFull_6 : Dj mX6_isFull 6 (.if_icmp .lt) 9 13 := ⟨7, by decide +kernel, rfl, by decide⟩
theorem eX6_isFull_9 : Dc mX6_isFull 9 (.iconst 1) 1 10 := ⟨by decide +kernel, rfl⟩
theorem eX6_isFull_10 : Dj mX6_isFull 10 (.goto) 13 14 := ⟨4, by decide +kernel, rfl, by decide⟩
theorem eX6_isFull_13 : Dc mX6_isFull 13 (.iconst 0) 1 14 := ⟨by decide +kernel, rfl⟩
theorem eX6_isFull_14 : Dc mX6_isFull 14 (.ireturn) 1 15 := ⟨by decide +kernel, rfl⟩
theorem eX6_size_0 : Dc mX6_size 0 (.aload_n 0) 1 1 := ⟨by decide +kernel, rfl⟩
theorem eX6_size_1 : Dc mX6_size 1 (.getfield 18) 3 4 := ⟨by decide +kernel, rfl⟩
theorem eX6_size_4 : Dc mX6_size 4 (.ireturn) 1 5 := ⟨by decide +kernel, rfl⟩
theorem eX7_hasBox_0 : Dc mX7_hasBox 0 (.aload_n 0) 1 1 := ⟨by decide +kernel, rfl⟩
theorem eX7_hasBox_1 : Dc mX7_hasBox 1 (.getfield 9) 3 4 := ⟨by decide +kernel, rfl⟩
theorem eX7_hasBox_4 : Dc mX7_hasBox 4 (.aload_n 0) 1 5 := ⟨by decide +kernel, rfl⟩
theorem eX7_hasBox_5 : Dc mX7_hasBox 5 (.getfield 19) 3 8 := ⟨by decide +kernel, rfl⟩
theorem eX7_hasBox_8 : Dc mX7_hasBox 8 (.invokevirtual 22) 3 11 := ⟨by decide +kernel, rfl⟩
theorem eX7_hasBox_11 : Dc mX7_hasBox 11 (.ireturn) 1 12 := ⟨by decide +kernel, rfl⟩
theorem eX7_high_0 : Dc mX7_high 0 (.aload_n 0) 1 1 := ⟨by decide +kernel, rfl⟩
theorem eX7_high_1 : Dc mX7_high 1 (.getfield 9) 3 4 := ⟨by decide +kernel, rfl⟩
theorem eX7_high_4 : Dc mX7_high 4 (.aload_n 0) 1 5 := ⟨by decide +kernel, rfl⟩
theorem eX7_high_5 : Dc mX7_high 5 (.getfield 19) 3 8 := ⟨by decide +kernel, rfl⟩
theorem eX7_high_8 : Dc mX7_high 8 (.iload_n 1) 1 9 := ⟨by decide +kernel, rfl⟩
theorem eX7_high_9 : Dc mX7_high 9 (.iconst 1) 1 10 := ⟨by decide +kernel, rfl⟩
theorem eX7_high_10 : Dc mX7_high 10 (.iadd) 1 11 := ⟨by decide +kernel, rfl⟩
theorem eX7_high_11 : Dc mX7_high 11 (.iload_n 1) 1 12 := ⟨by decide +kernel, rfl⟩
theorem eX7_high_12 : Dc mX7_high 12 (.invokestatic 34) 3 15 := ⟨by decide +kernel, rfl⟩
theorem eX7_high_15 : Dc mX7_high 15 (.imul) 1 16 := ⟨by decide +kernel, rfl⟩
theorem eX7_high_16 : Dc mX7_high 16 (.bipush 64) 2 18 := ⟨by decide +kernel, rfl⟩
theorem eX7_high_18 : Dc mX7_high 18 (.isub) 1 19 := ⟨by decide +kernel, rfl⟩
theorem eX7_high_19 : Dc mX7_high 19 (.invokevirtual 38) 3 22 := ⟨by decide +kernel, rfl⟩
theorem eX7_high_22 : Dc mX7_high 22 (.ireturn) 1 23 := ⟨by decide +kernel, rfl⟩
theorem eX7_isThere_0 : Dc mX7_isThere 0 (.aload_n 0) 1 1 := ⟨by decide +kernel, rfl⟩
theorem eX7_isThere_1 : Dc mX7_isThere 1 (.getfield 9) 3 4 := ⟨by decide +kernel, rfl⟩
theorem eX7_isThere_4 : Dc mX7_isThere 4 (.aload_n 0) 1 5 := ⟨by decide +kernel, rfl⟩
theorem eX7_isThere_5 : Dc mX7_isThere 5 (.getfield 15) 3 8 := ⟨by decide +kernel, rfl⟩
theorem eX7_isThere_8 : Dc mX7_isThere 8 (.invokevirtual 28) 3 11 := ⟨by decide +kernel, rfl⟩
theorem eX7_isThere_11 : Dj mX7_isThere 11 (.ifCond .eq) 14 25 := ⟨14, by decide +kernel, rfl, by decide⟩
theorem eX7_isThere_14 : Dc mX7_isThere 14 (.aload_n 0) 1 15 := ⟨by decide +kernel, rfl⟩
theorem eX7_isThere_15 : Dc mX7_isThere 15 (.invokevirtual 31) 3 18 := ⟨by decide +kernel, rfl⟩
theorem eX7_isThere_18 : Dj mX7_isThere 18 (.ifCond .eq) 21 25 := ⟨7, by decide +kernel, rfl, by decide⟩
theorem eX7_isThere_21 : Dc mX7_isThere 21 (.iconst 1) 1 22 := ⟨by decide +kernel, rfl⟩
theorem eX7_isThere_22 : Dj mX7_isThere 22 (.goto) 25 26 := ⟨4, by decide +kernel, rfl, by decide⟩
theorem eX7_isThere_25 : Dc mX7_isThere 25 (.iconst 0) 1 26 := ⟨by decide +kernel, rfl⟩
theorem eX7_isThere_26 : Dc mX7_isThere 26 (.ireturn) 1 27 := ⟨by decide +kernel, rfl⟩
theorem eX7_low_0 : Dc mX7_low 0 (.aload_n 0) 1 1 := ⟨by decide +kernel, rfl⟩
theorem eX7_low_1 : Dc mX7_low 1 (.getfield 9) 3 4 := ⟨by decide +kernel, rfl⟩
theorem eX7_low_4 : Dc mX7_low 4 (.aload_n 0) 1 5 := ⟨by decide +kernel, rfl⟩
theorem eX7_low_5 : Dc mX7_low 5 (.getfield 19) 3 8 := ⟨by decide +kernel, rfl⟩
theorem eX7_low_8 : Dc mX7_low 8 (.iload_n 1) 1 9 := ⟨by decide +kernel, rfl⟩
theorem eX7_low_9 : Dc mX7_low 9 (.iload_n 1) 1 10 := ⟨by decide +kernel, rfl⟩
theorem eX7_low_10 : Dc mX7_low 10 (.invokestatic 34) 3 13 := ⟨by decide +kernel, rfl⟩
theorem eX7_low_13 : Dc mX7_low 13 (.imul) 1 14 := ⟨by decide +kernel, rfl⟩
theorem eX7_low_14 : Dc mX7_low 14 (.bipush 64) 2 16 := ⟨by decide +kernel, rfl⟩
theorem eX7_low_16 : Dc mX7_low 16 (.isub) 1 17 := ⟨by decide +kernel, rfl⟩
theorem eX7_low_17 : Dc mX7_low 17 (.invokevirtual 38) 3 20 := ⟨by decide +kernel, rfl⟩
theorem eX7_low_20 : Dc mX7_low 20 (.ireturn) 1 21 := ⟨by decide +kernel, rfl⟩
theorem eX7_take_0 : Dc mX7_take 0 (.aload_n 0) 1 1 := ⟨by decide +kernel, rfl⟩
theorem eX7_take_1 : Dc mX7_take 1 (.iload_n 1) 1 2 := ⟨by decide +kernel, rfl⟩
theorem eX7_take_2 : Dc mX7_take 2 (.putfield 15) 3 5 := ⟨by decide +kernel, rfl⟩
theorem eX7_take_5 : Dc mX7_take 5 (.aload_n 0) 1 6 := ⟨by decide +kernel, rfl⟩
theorem eX7_take_6 : Dc mX7_take 6 (.iload_n 2) 1 7 := ⟨by decide +kernel, rfl⟩
theorem eX7_take_7 : Dc mX7_take 7 (.putfield 19) 3 10 := ⟨by decide +kernel, rfl⟩
theorem eX7_take_10 : Dc mX7_take 10 (.return_) 1 11 := ⟨by decide +kernel, rfl⟩
theorem eX7_takenBox_0 : Dc mX7_takenBox 0 (.aload_n 0) 1 1 := ⟨by decide +kernel, rfl⟩
theorem eX7_takenBox_1 : Dc mX7_takenBox 1 (.getfield 19) 3 4 := ⟨by decide +kernel, rfl⟩
theorem eX7_takenBox_4 : Dc mX7_takenBox 4 (.ireturn) 1 5 := ⟨by decide +kernel, rfl⟩
theorem eX7_takenPolynomial_0 : Dc mX7_takenPolynomial 0 (.aload_n 0) 1 1 := ⟨by decide +kernel, rfl⟩
theorem eX7_takenPolynomial_1 : Dc mX7_takenPolynomial 1 (.getfield 15) 3 4 := ⟨by decide +kernel, rfl⟩
theorem eX7_takenPolynomial_4 : Dc mX7_takenPolynomial 4 (.ireturn) 1 5 := ⟨by decide +kernel, rfl⟩
theorem eX7_told_0 : Dc mX7_told 0 (.aload_n 0) 1 1 := ⟨by decide +kernel, rfl⟩
theorem eX7_told_1 : Dc mX7_told 1 (.getfield 9) 3 4 := ⟨by decide +kernel, rfl⟩
theorem eX7_told_4 : Dc mX7_told 4 (.areturn) 1 5 := ⟨by decide +kernel, rfl⟩
theorem eX8_add_0 : Dc mX8_add 0 (.aload_n 0) 1 1 := ⟨by decide +kernel, rfl⟩
theorem eX8_add_1 : Dc mX8_add 1 (.getfield 15) 3 4 := ⟨by decide +kernel, rfl⟩
theorem eX8_add_4 : Dj mX8_add 4 (.ifCond .lt) 7 39 := ⟨35, by decide +kernel, rfl, by decide⟩
theorem eX8_add_7 : Dc mX8_add 7 (.aload_n 0) 1 8 := ⟨by decide +kernel, rfl⟩
theorem eX8_add_8 : Dc mX8_add 8 (.getfield 15) 3 11 := ⟨by decide +kernel, rfl⟩
theorem eX8_add_11 : Dc mX8_add 11 (.aload_n 0) 1 12 := ⟨by decide +kernel, rfl⟩
theorem eX8_add_12 : Dc mX8_add 12 (.getfield 9) 3 15 := ⟨by decide +kernel, rfl⟩
theorem eX8_add_15 : Dc mX8_add 15 (.arraylength) 1 16 := ⟨by decide +kernel, rfl⟩
theorem eX8_add_16 : Dj mX8_add 16 (.if_icmp .ge) 19 39 := ⟨23, by decide +kernel, rfl, by decide⟩
theorem eX8_add_19 : Dc mX8_add 19 (.aload_n 0) 1 20 := ⟨by decide +kernel, rfl⟩
theorem eX8_add_20 : Dc mX8_add 20 (.getfield 9) 3 23 := ⟨by decide +kernel, rfl⟩
theorem eX8_add_23 : Dc mX8_add 23 (.aload_n 0) 1 24 := ⟨by decide +kernel, rfl⟩
theorem eX8_add_24 : Dc mX8_add 24 (.getfield 15) 3 27 := ⟨by decide +kernel, rfl⟩
theorem eX8_add_27 : Dc mX8_add 27 (.iload_n 1) 1 28 := ⟨by decide +kernel, rfl⟩
theorem eX8_add_28 : Dc mX8_add 28 (.iastore) 1 29 := ⟨by decide +kernel, rfl⟩
theorem eX8_add_29 : Dc mX8_add 29 (.aload_n 0) 1 30 := ⟨by decide +kernel, rfl⟩
theorem eX8_add_30 : Dc mX8_add 30 (.dup) 1 31 := ⟨by decide +kernel, rfl⟩
theorem eX8_add_31 : Dc mX8_add 31 (.getfield 15) 3 34 := ⟨by decide +kernel, rfl⟩
theorem eX8_add_34 : Dc mX8_add 34 (.iconst 1) 1 35 := ⟨by decide +kernel, rfl⟩
theorem eX8_add_35 : Dc mX8_add 35 (.iadd) 1 36 := ⟨by decide +kernel, rfl⟩
theorem eX8_add_36 : Dc mX8_add 36 (.putfield 15) 3 39 := ⟨by decide +kernel, rfl⟩
theorem eX8_add_39 : Dc mX8_add 39 (.return_) 1 40 := ⟨by decide +kernel, rfl⟩
theorem eX8_at_0 : Dc mX8_at 0 (.iload_n 1) 1 1 := ⟨by decide +kernel, rfl⟩
theorem eX8_at_1 : Dj mX8_at 1 (.ifCond .lt) 4 30 := ⟨29, by decide +kernel, rfl, by decide⟩
theorem eX8_at_4 : Dc mX8_at 4 (.iload_n 1) 1 5 := ⟨by decide +kernel, rfl⟩
theorem eX8_at_5 : Dc mX8_at 5 (.aload_n 0) 1 6 := ⟨by decide +kernel, rfl⟩
theorem eX8_at_6 : Dc mX8_at 6 (.getfield 15) 3 9 := ⟨by decide +kernel, rfl⟩
theorem eX8_at_9 : Dj mX8_at 9 (.if_icmp .ge) 12 30 := ⟨21, by decide +kernel, rfl, by decide⟩
theorem eX8_at_12 : Dc mX8_at 12 (.iload_n 1) 1 13 := ⟨by decide +kernel, rfl⟩
theorem eX8_at_13 : Dc mX8_at 13 (.aload_n 0) 1 14 := ⟨by decide +kernel, rfl⟩
theorem eX8_at_14 : Dc mX8_at 14 (.getfield 9) 3 17 := ⟨by decide +kernel, rfl⟩
theorem eX8_at_17 : Dc mX8_at 17 (.arraylength) 1 18 := ⟨by decide +kernel, rfl⟩
theorem eX8_at_18 : Dj mX8_at 18 (.if_icmp .ge) 21 30 := ⟨12, by decide +kernel, rfl, by decide⟩
theorem eX8_at_21 : Dc mX8_at 21 (.aload_n 0) 1 22 := ⟨by decide +kernel, rfl⟩
theorem eX8_at_22 : Dc mX8_at 22 (.getfield 9) 3 25 := ⟨by decide +kernel, rfl⟩
theorem eX8_at_25 : Dc mX8_at 25 (.iload_n 1) 1 26 := ⟨by decide +kernel, rfl⟩
theorem eX8_at_26 : Dc mX8_at 26 (.iaload) 1 27 := ⟨by decide +kernel, rfl⟩
theorem eX8_at_27 : Dj mX8_at 27 (.goto) 30 32 := ⟨5, by decide +kernel, rfl, by decide⟩
theorem eX8_at_30 : Dc mX8_at 30 (.bipush (-9)) 2 32 := ⟨by decide +kernel, rfl⟩
theorem eX8_at_32 : Dc mX8_at 32 (.ireturn) 1 33 := ⟨by decide +kernel, rfl⟩
theorem eX8_empty_0 : Dc mX8_empty 0 (.aload_n 0) 1 1 := ⟨by decide +kernel, rfl⟩
theorem eX8_empty_1 : Dc mX8_empty 1 (.iconst 0) 1 2 := ⟨by decide +kernel, rfl⟩
theorem eX8_empty_2 : Dc mX8_empty 2 (.putfield 15) 3 5 := ⟨by decide +kernel, rfl⟩
theorem eX8_empty_5 : Dc mX8_empty 5 (.return_) 1 6 := ⟨by decide +kernel, rfl⟩
theorem eX8_isFull_0 : Dc mX8_isFull 0 (.aload_n 0) 1 1 := ⟨by decide +kernel, rfl⟩
theorem eX8_isFull_1 : Dc mX8_isFull 1 (.getfield 15) 3 4 := ⟨by decide +kernel, rfl⟩
theorem eX8_isFull_4 : Dc mX8_isFull 4 (.aload_n 0) 1 5 := ⟨by decide +kernel, rfl⟩
theorem eX8_isFull_5 : Dc mX8_isFull 5 (.getfield 9) 3 8 := ⟨by decide +kernel, rfl⟩
theorem eX8_isFull_8 : Dc mX8_isFull 8 (.arraylength) 1 9 := ⟨by decide +kernel, rfl⟩
theorem eX8_isFull_9 : Dj mX8_isFull 9 (.if_icmp .lt) 12 16 := ⟨7, by decide +kernel, rfl, by decide⟩
theorem eX8_isFull_12 : Dc mX8_isFull 12 (.iconst 1) 1 13 := ⟨by decide +kernel, rfl⟩
theorem eX8_isFull_13 : Dj mX8_isFull 13 (.goto) 16 17 := ⟨4, by decide +kernel, rfl, by decide⟩
theorem eX8_isFull_16 : Dc mX8_isFull 16 (.iconst 0) 1 17 := ⟨by decide +kernel, rfl⟩
theorem eX8_isFull_17 : Dc mX8_isFull 17 (.ireturn) 1 18 := ⟨by decide +kernel, rfl⟩
theorem eX8_length_0 : Dc mX8_length 0 (.aload_n 0) 1 1 := ⟨by decide +kernel, rfl⟩
theorem eX8_length_1 : Dc mX8_length 1 (.getfield 15) 3 4 := ⟨by decide +kernel, rfl⟩
theorem eX8_length_4 : Dc mX8_length 4 (.ireturn) 1 5 := ⟨by decide +kernel, rfl⟩
theorem eX9_closes_0 : Dc mX9_closes 0 (.aload_n 0) 1 1 := ⟨by decide +kernel, rfl⟩
theorem eX9_closes_1 : Dc mX9_closes 1 (.getfield 78) 3 4 := ⟨by decide +kernel, rfl⟩
theorem eX9_closes_4 : Dj mX9_closes 4 (.ifCond .ne) 7 45 := ⟨41, by decide +kernel, rfl, by decide⟩
theorem eX9_closes_7 : Dc mX9_closes 7 (.aload_n 0) 1 8 := ⟨by decide +kernel, rfl⟩
theorem eX9_closes_8 : Dc mX9_closes 8 (.getfield 21) 3 11 := ⟨by decide +kernel, rfl⟩
theorem eX9_closes_11 : Dj mX9_closes 11 (.ifCond .eq) 14 45 := ⟨34, by decide +kernel, rfl, by decide⟩
theorem eX9_closes_14 : Dc mX9_closes 14 (.aload_n 0) 1 15 := ⟨by decide +kernel, rfl⟩
theorem eX9_closes_15 : Dc mX9_closes 15 (.getfield 21) 3 18 := ⟨by decide +kernel, rfl⟩
theorem eX9_closes_18 : Dc mX9_closes 18 (.iconst 1) 1 19 := ⟨by decide +kernel, rfl⟩
theorem eX9_closes_19 : Dj mX9_closes 19 (.if_icmp .ne) 22 29 := ⟨10, by decide +kernel, rfl, by decide⟩
theorem eX9_closes_22 : Dc mX9_closes 22 (.aload_n 0) 1 23 := ⟨by decide +kernel, rfl⟩
theorem eX9_closes_23 : Dc mX9_closes 23 (.getfield 75) 3 26 := ⟨by decide +kernel, rfl⟩
theorem eX9_closes_26 : Dj mX9_closes 26 (.ifCond .eq) 29 45 := ⟨19, by decide +kernel, rfl, by decide⟩
theorem eX9_closes_29 : Dc mX9_closes 29 (.aload_n 0) 1 30 := ⟨by decide +kernel, rfl⟩
theorem eX9_closes_30 : Dc mX9_closes 30 (.getfield 21) 3 33 := ⟨by decide +kernel, rfl⟩
theorem eX9_closes_33 : Dc mX9_closes 33 (.iconst 2) 1 34 := ⟨by decide +kernel, rfl⟩
theorem eX9_closes_34 : Dj mX9_closes 34 (.if_icmp .ne) 37 47 := ⟨13, by decide +kernel, rfl, by decide⟩
theorem eX9_closes_37 : Dc mX9_closes 37 (.aload_n 0) 1 38 := ⟨by decide +kernel, rfl⟩
theorem eX9_closes_38 : Dc mX9_closes 38 (.getfield 75) 3 41 := ⟨by decide +kernel, rfl⟩
theorem eX9_closes_41 : Dc mX9_closes 41 (.iconst 2) 1 42 := ⟨by decide +kernel, rfl⟩
theorem eX9_closes_42 : Dj mX9_closes 42 (.if_icmp .ge) 45 47 := ⟨5, by decide +kernel, rfl, by decide⟩
theorem eX9_closes_45 : Dc mX9_closes 45 (.iconst 0) 1 46 := ⟨by decide +kernel, rfl⟩
theorem eX9_closes_46 : Dc mX9_closes 46 (.ireturn) 1 47 := ⟨by decide +kernel, rfl⟩
theorem eX9_closes_47 : Dc mX9_closes 47 (.aload_n 0) 1 48 := ⟨by decide +kernel, rfl⟩
theorem eX9_closes_48 : Dc mX9_closes 48 (.iconst 0) 1 49 := ⟨by decide +kernel, rfl⟩
theorem eX9_closes_49 : Dc mX9_closes 49 (.putfield 21) 3 52 := ⟨by decide +kernel, rfl⟩
theorem eX9_closes_52 : Dc mX9_closes 52 (.iconst 1) 1 53 := ⟨by decide +kernel, rfl⟩
theorem eX9_closes_53 : Dc mX9_closes 53 (.ireturn) 1 54 := ⟨by decide +kernel, rfl⟩
theorem eX9_draft_0 : Dc mX9_draft 0 (.aload_n 0) 1 1 := ⟨by decide +kernel, rfl⟩
theorem eX9_draft_1 : Dc mX9_draft 1 (.getfield 12) 3 4 := ⟨by decide +kernel, rfl⟩
theorem eX9_draft_4 : Dc mX9_draft 4 (.areturn) 1 5 := ⟨by decide +kernel, rfl⟩
theorem eX9_hasRoom_0 : Dc mX9_hasRoom 0 (.aload_n 0) 1 1 := ⟨by decide +kernel, rfl⟩
theorem eX9_hasRoom_1 : Dc mX9_hasRoom 1 (.getfield 21) 3 4 := ⟨by decide +kernel, rfl⟩
theorem eX9_hasRoom_4 : Dc mX9_hasRoom 4 (.iconst 1) 1 5 := ⟨by decide +kernel, rfl⟩
theorem eX9_hasRoom_5 : Dj mX9_hasRoom 5 (.if_icmp .ne) 8 17 := ⟨12, by decide +kernel, rfl, by decide⟩
theorem eX9_hasRoom_8 : Dc mX9_hasRoom 8 (.aload_n 0) 1 9 := ⟨by decide +kernel, rfl⟩
theorem eX9_hasRoom_9 : Dc mX9_hasRoom 9 (.getfield 75) 3 12 := ⟨by decide +kernel, rfl⟩
theorem eX9_hasRoom_12 : Dc mX9_hasRoom 12 (.bipush 6) 2 14 := ⟨by decide +kernel, rfl⟩
theorem eX9_hasRoom_14 : Dj mX9_hasRoom 14 (.if_icmp .lt) 17 33 := ⟨19, by decide +kernel, rfl, by decide⟩
theorem eX9_hasRoom_17 : Dc mX9_hasRoom 17 (.aload_n 0) 1 18 := ⟨by decide +kernel, rfl⟩
theorem eX9_hasRoom_18 : Dc mX9_hasRoom 18 (.getfield 21) 3 21 := ⟨by decide +kernel, rfl⟩
theorem eX9_hasRoom_21 : Dc mX9_hasRoom 21 (.iconst 2) 1 22 := ⟨by decide +kernel, rfl⟩
theorem eX9_hasRoom_22 : Dj mX9_hasRoom 22 (.if_icmp .ne) 25 37 := ⟨15, by decide +kernel, rfl, by decide⟩
theorem eX9_hasRoom_25 : Dc mX9_hasRoom 25 (.aload_n 0) 1 26 := ⟨by decide +kernel, rfl⟩
theorem eX9_hasRoom_26 : Dc mX9_hasRoom 26 (.getfield 75) 3 29 := ⟨by decide +kernel, rfl⟩
theorem eX9_hasRoom_29 : Dc mX9_hasRoom 29 (.iconst 2) 1 30 := ⟨by decide +kernel, rfl⟩
theorem eX9_hasRoom_30 : Dj mX9_hasRoom 30 (.if_icmp .ge) 33 37 := ⟨7, by decide +kernel, rfl, by decide⟩
theorem eX9_hasRoom_33 : Dc mX9_hasRoom 33 (.iconst 1) 1 34 := ⟨by decide +kernel, rfl⟩
theorem eX9_hasRoom_34 : Dj mX9_hasRoom 34 (.goto) 37 38 := ⟨4, by decide +kernel, rfl, by decide⟩
theorem eX9_hasRoom_37 : Dc mX9_hasRoom 37 (.iconst 0) 1 38 := ⟨by decide +kernel, rfl⟩
theorem eX9_hasRoom_38 : Dc mX9_hasRoom 38 (.ireturn) 1 39 := ⟨by decide +kernel, rfl⟩
theorem eX9_isDigit_0 : Dc mX9_isDigit 0 (.iload_n 0) 1 1 := ⟨by decide +kernel, rfl⟩
theorem eX9_isDigit_1 : Dc mX9_isDigit 1 (.bipush 48) 2 3 := ⟨by decide +kernel, rfl⟩
theorem eX9_isDigit_3 : Dj mX9_isDigit 3 (.if_icmp .lt) 6 16 := ⟨13, by decide +kernel, rfl, by decide⟩
theorem eX9_isDigit_6 : Dc mX9_isDigit 6 (.iload_n 0) 1 7 := ⟨by decide +kernel, rfl⟩
theorem eX9_isDigit_7 : Dc mX9_isDigit 7 (.bipush 57) 2 9 := ⟨by decide +kernel, rfl⟩
theorem eX9_isDigit_9 : Dj mX9_isDigit 9 (.if_icmp .gt) 12 16 := ⟨7, by decide +kernel, rfl, by decide⟩
theorem eX9_isDigit_12 : Dc mX9_isDigit 12 (.iconst 1) 1 13 := ⟨by decide +kernel, rfl⟩
theorem eX9_isDigit_13 : Dj mX9_isDigit 13 (.goto) 16 17 := ⟨4, by decide +kernel, rfl, by decide⟩
theorem eX9_isDigit_16 : Dc mX9_isDigit 16 (.iconst 0) 1 17 := ⟨by decide +kernel, rfl⟩
theorem eX9_isDigit_17 : Dc mX9_isDigit 17 (.ireturn) 1 18 := ⟨by decide +kernel, rfl⟩
theorem eX9_open_0 : Dc mX9_open 0 (.aload_n 0) 1 1 := ⟨by decide +kernel, rfl⟩
theorem eX9_open_1 : Dc mX9_open 1 (.iload_n 1) 1 2 := ⟨by decide +kernel, rfl⟩
theorem eX9_open_2 : Dc mX9_open 2 (.putfield 21) 3 5 := ⟨by decide +kernel, rfl⟩
theorem eX9_open_5 : Dc mX9_open 5 (.aload_n 0) 1 6 := ⟨by decide +kernel, rfl⟩
theorem eX9_open_6 : Dc mX9_open 6 (.iconst 0) 1 7 := ⟨by decide +kernel, rfl⟩
theorem eX9_open_7 : Dc mX9_open 7 (.putfield 75) 3 10 := ⟨by decide +kernel, rfl⟩
theorem eX9_open_10 : Dc mX9_open 10 (.aload_n 0) 1 11 := ⟨by decide +kernel, rfl⟩
theorem eX9_open_11 : Dc mX9_open 11 (.iconst 0) 1 12 := ⟨by decide +kernel, rfl⟩
theorem eX9_open_12 : Dc mX9_open 12 (.putfield 78) 3 15 := ⟨by decide +kernel, rfl⟩
theorem eX9_open_15 : Dc mX9_open 15 (.return_) 1 16 := ⟨by decide +kernel, rfl⟩
theorem eX9_opensBox_0 : Dc mX9_opensBox 0 (.aload_n 0) 1 1 := ⟨by decide +kernel, rfl⟩
theorem eX9_opensBox_1 : Dc mX9_opensBox 1 (.getfield 21) 3 4 := ⟨by decide +kernel, rfl⟩
theorem eX9_opensBox_4 : Dj mX9_opensBox 4 (.ifCond .ne) 7 18 := ⟨14, by decide +kernel, rfl, by decide⟩
theorem eX9_opensBox_7 : Dc mX9_opensBox 7 (.aload_n 0) 1 8 := ⟨by decide +kernel, rfl⟩
theorem eX9_opensBox_8 : Dc mX9_opensBox 8 (.getfield 12) 3 11 := ⟨by decide +kernel, rfl⟩
theorem eX9_opensBox_11 : Dc mX9_opensBox 11 (.invokevirtual 72) 3 14 := ⟨by decide +kernel, rfl⟩
theorem eX9_opensBox_14 : Dc mX9_opensBox 14 (.iconst 3) 1 15 := ⟨by decide +kernel, rfl⟩
theorem eX9_opensBox_15 : Dj mX9_opensBox 15 (.if_icmp .lt) 18 20 := ⟨5, by decide +kernel, rfl, by decide⟩
theorem eX9_opensBox_18 : Dc mX9_opensBox 18 (.iconst 0) 1 19 := ⟨by decide +kernel, rfl⟩
theorem eX9_opensBox_19 : Dc mX9_opensBox 19 (.ireturn) 1 20 := ⟨by decide +kernel, rfl⟩
theorem eX9_opensBox_20 : Dc mX9_opensBox 20 (.aload_n 0) 1 21 := ⟨by decide +kernel, rfl⟩
theorem eX9_opensBox_21 : Dc mX9_opensBox 21 (.iconst 2) 1 22 := ⟨by decide +kernel, rfl⟩
theorem eX9_opensBox_22 : Dc mX9_opensBox 22 (.invokevirtual 68) 3 25 := ⟨by decide +kernel, rfl⟩
theorem eX9_opensBox_25 : Dc mX9_opensBox 25 (.iconst 1) 1 26 := ⟨by decide +kernel, rfl⟩
theorem eX9_opensBox_26 : Dc mX9_opensBox 26 (.ireturn) 1 27 := ⟨by decide +kernel, rfl⟩
theorem eX9_opensPolynomial_0 : Dc mX9_opensPolynomial 0 (.aload_n 0) 1 1 := ⟨by decide +kernel, rfl⟩
theorem eX9_opensPolynomial_1 : Dc mX9_opensPolynomial 1 (.getfield 21) 3 4 := ⟨by decide +kernel, rfl⟩
theorem eX9_opensPolynomial_4 : Dj mX9_opensPolynomial 4 (.ifCond .ne) 7 18 := ⟨14, by decide +kernel, rfl, by decide⟩
theorem eX9_opensPolynomial_7 : Dc mX9_opensPolynomial 7 (.aload_n 0) 1 8 := ⟨by decide +kernel, rfl⟩
theorem eX9_opensPolynomial_8 : Dc mX9_opensPolynomial 8 (.getfield 12) 3 11 := ⟨by decide +kernel, rfl⟩
theorem eX9_opensPolynomial_11 : Dc mX9_opensPolynomial 11 (.invokevirtual 62) 3 14 := ⟨by decide +kernel, rfl⟩
theorem eX9_opensPolynomial_14 : Dc mX9_opensPolynomial 14 (.iconst 3) 1 15 := ⟨by decide +kernel, rfl⟩
theorem eX9_opensPolynomial_15 : Dj mX9_opensPolynomial 15 (.if_icmp .lt) 18 20 := ⟨5, by decide +kernel, rfl, by decide⟩
theorem eX9_opensPolynomial_18 : Dc mX9_opensPolynomial 18 (.iconst 0) 1 19 := ⟨by decide +kernel, rfl⟩
theorem eX9_opensPolynomial_19 : Dc mX9_opensPolynomial 19 (.ireturn) 1 20 := ⟨by decide +kernel, rfl⟩
theorem eX9_opensPolynomial_20 : Dc mX9_opensPolynomial 20 (.aload_n 0) 1 21 := ⟨by decide +kernel, rfl⟩
theorem eX9_opensPolynomial_21 : Dc mX9_opensPolynomial 21 (.getfield 12) 3 24 := ⟨by decide +kernel, rfl⟩
theorem eX9_opensPolynomial_24 : Dc mX9_opensPolynomial 24 (.invokevirtual 65) 3 27 := ⟨by decide +kernel, rfl⟩
theorem eX9_opensPolynomial_27 : Dc mX9_opensPolynomial 27 (.aload_n 0) 1 28 := ⟨by decide +kernel, rfl⟩
theorem eX9_opensPolynomial_28 : Dc mX9_opensPolynomial 28 (.iconst 1) 1 29 := ⟨by decide +kernel, rfl⟩
theorem eX9_opensPolynomial_29 : Dc mX9_opensPolynomial 29 (.invokevirtual 68) 3 32 := ⟨by decide +kernel, rfl⟩
theorem eX9_opensPolynomial_32 : Dc mX9_opensPolynomial 32 (.iconst 1) 1 33 := ⟨by decide +kernel, rfl⟩
theorem eX9_opensPolynomial_33 : Dc mX9_opensPolynomial 33 (.ireturn) 1 34 := ⟨by decide +kernel, rfl⟩
theorem eX9_read_0 : Dc mX9_read 0 (.aload_n 0) 1 1 := ⟨by decide +kernel, rfl⟩
theorem eX9_read_1 : Dc mX9_read 1 (.getfield 12) 3 4 := ⟨by decide +kernel, rfl⟩
theorem eX9_read_4 : Dc mX9_read 4 (.invokevirtual 18) 3 7 := ⟨by decide +kernel, rfl⟩
theorem eX9_read_7 : Dc mX9_read 7 (.aload_n 0) 1 8 := ⟨by decide +kernel, rfl⟩
theorem eX9_read_8 : Dc mX9_read 8 (.iconst 0) 1 9 := ⟨by decide +kernel, rfl⟩
theorem eX9_read_9 : Dc mX9_read 9 (.putfield 21) 3 12 := ⟨by decide +kernel, rfl⟩
theorem eX9_read_12 : Dc mX9_read 12 (.iconst 0) 1 13 := ⟨by decide +kernel, rfl⟩
theorem eX9_read_13 : Dc mX9_read 13 (.istore_n 2) 1 14 := ⟨by decide +kernel, rfl⟩
theorem eX9_read_14 : Dc mX9_read 14 (.iload_n 2) 1 15 := ⟨by decide +kernel, rfl⟩
theorem eX9_read_15 : Dc mX9_read 15 (.aload_n 1) 1 16 := ⟨by decide +kernel, rfl⟩
theorem eX9_read_16 : Dc mX9_read 16 (.invokevirtual 25) 3 19 := ⟨by decide +kernel, rfl⟩
theorem eX9_read_19 : Dj mX9_read 19 (.if_icmp .ge) 22 39 := ⟨20, by decide +kernel, rfl, by decide⟩
theorem eX9_read_22 : Dc mX9_read 22 (.aload_n 0) 1 23 := ⟨by decide +kernel, rfl⟩
theorem eX9_read_23 : Dc mX9_read 23 (.aload_n 1) 1 24 := ⟨by decide +kernel, rfl⟩
theorem eX9_read_24 : Dc mX9_read 24 (.iload_n 2) 1 25 := ⟨by decide +kernel, rfl⟩
theorem eX9_read_25 : Dc mX9_read 25 (.invokevirtual 31) 3 28 := ⟨by decide +kernel, rfl⟩
theorem eX9_read_28 : Dj mX9_read 28 (.ifCond .ne) 31 33 := ⟨5, by decide +kernel, rfl, by decide⟩
theorem eX9_read_31 : Dc mX9_read 31 (.iload_n 2) 1 32 := ⟨by decide +kernel, rfl⟩
theorem eX9_read_32 : Dc mX9_read 32 (.ireturn) 1 33 := ⟨by decide +kernel, rfl⟩
theorem eX9_read_33 : Dc mX9_read 33 (.iinc 2 1) 3 36 := ⟨by decide +kernel, rfl⟩
theorem eX9_read_36 : Dj mX9_read 36 (.goto) 39 14 := ⟨-22, by decide +kernel, rfl, by decide⟩
theorem eX9_read_39 : Dc mX9_read 39 (.aload_n 0) 1 40 := ⟨by decide +kernel, rfl⟩
theorem eX9_read_40 : Dc mX9_read 40 (.getfield 21) 3 43 := ⟨by decide +kernel, rfl⟩
theorem eX9_read_43 : Dj mX9_read 43 (.ifCond .ne) 46 50 := ⟨7, by decide +kernel, rfl, by decide⟩
theorem eX9_read_46 : Dc mX9_read 46 (.iconst (-1)) 1 47 := ⟨by decide +kernel, rfl⟩
theorem eX9_read_47 : Dj mX9_read 47 (.goto) 50 54 := ⟨7, by decide +kernel, rfl, by decide⟩
theorem eX9_read_50 : Dc mX9_read 50 (.aload_n 1) 1 51 := ⟨by decide +kernel, rfl⟩
theorem eX9_read_51 : Dc mX9_read 51 (.invokevirtual 25) 3 54 := ⟨by decide +kernel, rfl⟩
theorem eX9_read_54 : Dc mX9_read 54 (.ireturn) 1 55 := ⟨by decide +kernel, rfl⟩
theorem eX9_stands_0 : Dc mX9_stands 0 (.aload_n 1) 1 1 := ⟨by decide +kernel, rfl⟩
theorem eX9_stands_1 : Dc mX9_stands 1 (.iload_n 2) 1 2 := ⟨by decide +kernel, rfl⟩
theorem eX9_stands_2 : Dc mX9_stands 2 (.invokevirtual 35) 3 5 := ⟨by decide +kernel, rfl⟩
theorem eX9_stands_5 : Dc mX9_stands 5 (.istore_n 3) 1 6 := ⟨by decide +kernel, rfl⟩
theorem eX9_stands_6 : Dc mX9_stands 6 (.iload_n 3) 1 7 := ⟨by decide +kernel, rfl⟩
theorem eX9_stands_7 : Dc mX9_stands 7 (.invokestatic 39) 3 10 := ⟨by decide +kernel, rfl⟩
theorem eX9_stands_10 : Dj mX9_stands 10 (.ifCond .eq) 13 41 := ⟨31, by decide +kernel, rfl, by decide⟩
theorem eX9_stands_13 : Dc mX9_stands 13 (.aload_n 1) 1 14 := ⟨by decide +kernel, rfl⟩
theorem eX9_stands_14 : Dc mX9_stands 14 (.iload_n 2) 1 15 := ⟨by decide +kernel, rfl⟩
theorem eX9_stands_15 : Dc mX9_stands 15 (.iconst 1) 1 16 := ⟨by decide +kernel, rfl⟩
theorem eX9_stands_16 : Dc mX9_stands 16 (.isub) 1 17 := ⟨by decide +kernel, rfl⟩
theorem eX9_stands_17 : Dc mX9_stands 17 (.invokevirtual 35) 3 20 := ⟨by decide +kernel, rfl⟩
theorem eX9_stands_20 : Dc mX9_stands 20 (.invokestatic 39) 3 23 := ⟨by decide +kernel, rfl⟩
theorem eX9_stands_23 : Dj mX9_stands 23 (.ifCond .ne) 26 35 := ⟨12, by decide +kernel, rfl, by decide⟩
theorem eX9_stands_26 : Dc mX9_stands 26 (.aload_n 0) 1 27 := ⟨by decide +kernel, rfl⟩
theorem eX9_stands_27 : Dc mX9_stands 27 (.aload_n 1) 1 28 := ⟨by decide +kernel, rfl⟩
theorem eX9_stands_28 : Dc mX9_stands 28 (.iload_n 2) 1 29 := ⟨by decide +kernel, rfl⟩
theorem eX9_stands_29 : Dc mX9_stands 29 (.invokevirtual 43) 3 32 := ⟨by decide +kernel, rfl⟩
theorem eX9_stands_32 : Dj mX9_stands 32 (.ifCond .eq) 35 39 := ⟨7, by decide +kernel, rfl, by decide⟩
theorem eX9_stands_35 : Dc mX9_stands 35 (.iconst 1) 1 36 := ⟨by decide +kernel, rfl⟩
theorem eX9_stands_36 : Dj mX9_stands 36 (.goto) 39 40 := ⟨4, by decide +kernel, rfl, by decide⟩
theorem eX9_stands_39 : Dc mX9_stands 39 (.iconst 0) 1 40 := ⟨by decide +kernel, rfl⟩
theorem eX9_stands_40 : Dc mX9_stands 40 (.ireturn) 1 41 := ⟨by decide +kernel, rfl⟩
theorem eX9_stands_41 : Dc mX9_stands 41 (.iload_n 3) 1 42 := ⟨by decide +kernel, rfl⟩
theorem eX9_stands_42 : Dc mX9_stands 42 (.bipush 32) 2 44 := ⟨by decide +kernel, rfl⟩
theorem eX9_stands_44 : Dj mX9_stands 44 (.if_icmp .eq) 47 55 := ⟨11, by decide +kernel, rfl, by decide⟩
theorem eX9_stands_47 : Dc mX9_stands 47 (.aload_n 0) 1 48 := ⟨by decide +kernel, rfl⟩
theorem eX9_stands_48 : Dc mX9_stands 48 (.iload_n 3) 1 49 := ⟨by decide +kernel, rfl⟩
theorem eX9_stands_49 : Dc mX9_stands 49 (.invokevirtual 46) 3 52 := ⟨by decide +kernel, rfl⟩
theorem eX9_stands_52 : Dj mX9_stands 52 (.ifCond .eq) 55 59 := ⟨7, by decide +kernel, rfl, by decide⟩
theorem eX9_stands_55 : Dc mX9_stands 55 (.iconst 1) 1 56 := ⟨by decide +kernel, rfl⟩
theorem eX9_stands_56 : Dj mX9_stands 56 (.goto) 59 60 := ⟨4, by decide +kernel, rfl, by decide⟩
theorem eX9_stands_59 : Dc mX9_stands 59 (.iconst 0) 1 60 := ⟨by decide +kernel, rfl⟩
theorem eX9_stands_60 : Dc mX9_stands 60 (.ireturn) 1 61 := ⟨by decide +kernel, rfl⟩
theorem eX9_takesCoefficient_0 : Dc mX9_takesCoefficient 0 (.iload_n 1) 1 1 := ⟨by decide +kernel, rfl⟩
theorem eX9_takesCoefficient_1 : Dc mX9_takesCoefficient 1 (.invokestatic 91) 3 4 := ⟨by decide +kernel, rfl⟩
theorem eX9_takesCoefficient_4 : Dj mX9_takesCoefficient 4 (.ifCond .ne) 7 9 := ⟨5, by decide +kernel, rfl, by decide⟩
theorem eX9_takesCoefficient_7 : Dc mX9_takesCoefficient 7 (.iconst 0) 1 8 := ⟨by decide +kernel, rfl⟩
theorem eX9_takesCoefficient_8 : Dc mX9_takesCoefficient 8 (.ireturn) 1 9 := ⟨by decide +kernel, rfl⟩
theorem eX9_takesCoefficient_9 : Dc mX9_takesCoefficient 9 (.aload_n 0) 1 10 := ⟨by decide +kernel, rfl⟩
theorem eX9_takesCoefficient_10 : Dc mX9_takesCoefficient 10 (.getfield 12) 3 13 := ⟨by decide +kernel, rfl⟩
theorem eX9_takesCoefficient_13 : Dc mX9_takesCoefficient 13 (.iload_n 1) 1 14 := ⟨by decide +kernel, rfl⟩
theorem eX9_takesCoefficient_14 : Dc mX9_takesCoefficient 14 (.invokevirtual 94) 3 17 := ⟨by decide +kernel, rfl⟩
theorem eX9_takesCoefficient_17 : Dc mX9_takesCoefficient 17 (.iconst 1) 1 18 := ⟨by decide +kernel, rfl⟩
theorem eX9_takesCoefficient_18 : Dc mX9_takesCoefficient 18 (.ireturn) 1 19 := ⟨by decide +kernel, rfl⟩
theorem eX9_takesEnd_0 : Dc mX9_takesEnd 0 (.iload_n 1) 1 1 := ⟨by decide +kernel, rfl⟩
theorem eX9_takesEnd_1 : Dc mX9_takesEnd 1 (.invokestatic 97) 3 4 := ⟨by decide +kernel, rfl⟩
theorem eX9_takesEnd_4 : Dj mX9_takesEnd 4 (.ifCond .ne) 7 9 := ⟨5, by decide +kernel, rfl, by decide⟩
theorem eX9_takesEnd_7 : Dc mX9_takesEnd 7 (.iconst 0) 1 8 := ⟨by decide +kernel, rfl⟩
theorem eX9_takesEnd_8 : Dc mX9_takesEnd 8 (.ireturn) 1 9 := ⟨by decide +kernel, rfl⟩
theorem eX9_takesEnd_9 : Dc mX9_takesEnd 9 (.aload_n 0) 1 10 := ⟨by decide +kernel, rfl⟩
theorem eX9_takesEnd_10 : Dc mX9_takesEnd 10 (.getfield 75) 3 13 := ⟨by decide +kernel, rfl⟩
theorem eX9_takesEnd_13 : Dc mX9_takesEnd 13 (.iconst 1) 1 14 := ⟨by decide +kernel, rfl⟩
theorem eX9_takesEnd_14 : Dj mX9_takesEnd 14 (.if_icmp .ne) 17 24 := ⟨10, by decide +kernel, rfl, by decide⟩
theorem eX9_takesEnd_17 : Dc mX9_takesEnd 17 (.aload_n 0) 1 18 := ⟨by decide +kernel, rfl⟩
theorem eX9_takesEnd_18 : Dc mX9_takesEnd 18 (.iload_n 1) 1 19 := ⟨by decide +kernel, rfl⟩
theorem eX9_takesEnd_19 : Dc mX9_takesEnd 19 (.putfield 100) 3 22 := ⟨by decide +kernel, rfl⟩
theorem eX9_takesEnd_22 : Dc mX9_takesEnd 22 (.iconst 1) 1 23 := ⟨by decide +kernel, rfl⟩
theorem eX9_takesEnd_23 : Dc mX9_takesEnd 23 (.ireturn) 1 24 := ⟨by decide +kernel, rfl⟩
theorem eX9_takesEnd_24 : Dc mX9_takesEnd 24 (.iload_n 1) 1 25 := ⟨by decide +kernel, rfl⟩
theorem eX9_takesEnd_25 : Dc mX9_takesEnd 25 (.aload_n 0) 1 26 := ⟨by decide +kernel, rfl⟩
theorem eX9_takesEnd_26 : Dc mX9_takesEnd 26 (.getfield 100) 3 29 := ⟨by decide +kernel, rfl⟩
theorem eX9_takesEnd_29 : Dj mX9_takesEnd 29 (.if_icmp .gt) 32 34 := ⟨5, by decide +kernel, rfl, by decide⟩
theorem eX9_takesEnd_32 : Dc mX9_takesEnd 32 (.iconst 0) 1 33 := ⟨by decide +kernel, rfl⟩
theorem eX9_takesEnd_33 : Dc mX9_takesEnd 33 (.ireturn) 1 34 := ⟨by decide +kernel, rfl⟩
theorem eX9_takesEnd_34 : Dc mX9_takesEnd 34 (.aload_n 0) 1 35 := ⟨by decide +kernel, rfl⟩
theorem eX9_takesEnd_35 : Dc mX9_takesEnd 35 (.getfield 12) 3 38 := ⟨by decide +kernel, rfl⟩
theorem eX9_takesEnd_38 : Dc mX9_takesEnd 38 (.aload_n 0) 1 39 := ⟨by decide +kernel, rfl⟩
theorem eX9_takesEnd_39 : Dc mX9_takesEnd 39 (.getfield 100) 3 42 := ⟨by decide +kernel, rfl⟩
theorem eX9_takesEnd_42 : Dc mX9_takesEnd 42 (.iload_n 1) 1 43 := ⟨by decide +kernel, rfl⟩
theorem eX9_takesEnd_43 : Dc mX9_takesEnd 43 (.invokevirtual 103) 3 46 := ⟨by decide +kernel, rfl⟩
theorem eX9_takesEnd_46 : Dc mX9_takesEnd 46 (.iconst 1) 1 47 := ⟨by decide +kernel, rfl⟩
theorem eX9_takesEnd_47 : Dc mX9_takesEnd 47 (.ireturn) 1 48 := ⟨by decide +kernel, rfl⟩
theorem eX9_takesMinus_0 : Dc mX9_takesMinus 0 (.aload_n 0) 1 1 := ⟨by decide +kernel, rfl⟩
theorem eX9_takesMinus_1 : Dc mX9_takesMinus 1 (.getfield 78) 3 4 := ⟨by decide +kernel, rfl⟩
theorem eX9_takesMinus_4 : Dj mX9_takesMinus 4 (.ifCond .ne) 7 14 := ⟨10, by decide +kernel, rfl, by decide⟩
theorem eX9_takesMinus_7 : Dc mX9_takesMinus 7 (.aload_n 0) 1 8 := ⟨by decide +kernel, rfl⟩
theorem eX9_takesMinus_8 : Dc mX9_takesMinus 8 (.invokevirtual 82) 3 11 := ⟨by decide +kernel, rfl⟩
theorem eX9_takesMinus_11 : Dj mX9_takesMinus 11 (.ifCond .ne) 14 16 := ⟨5, by decide +kernel, rfl, by decide⟩
theorem eX9_takesMinus_14 : Dc mX9_takesMinus 14 (.iconst 0) 1 15 := ⟨by decide +kernel, rfl⟩
theorem eX9_takesMinus_15 : Dc mX9_takesMinus 15 (.ireturn) 1 16 := ⟨by decide +kernel, rfl⟩
theorem eX9_takesMinus_16 : Dc mX9_takesMinus 16 (.aload_n 0) 1 17 := ⟨by decide +kernel, rfl⟩
theorem eX9_takesMinus_17 : Dc mX9_takesMinus 17 (.iconst 1) 1 18 := ⟨by decide +kernel, rfl⟩
theorem eX9_takesMinus_18 : Dc mX9_takesMinus 18 (.putfield 78) 3 21 := ⟨by decide +kernel, rfl⟩
theorem eX9_takesMinus_21 : Dc mX9_takesMinus 21 (.iconst 1) 1 22 := ⟨by decide +kernel, rfl⟩
theorem eX9_takesMinus_22 : Dc mX9_takesMinus 22 (.ireturn) 1 23 := ⟨by decide +kernel, rfl⟩
theorem eX9_takesNumber_0 : Dc mX9_takesNumber 0 (.aload_n 1) 1 1 := ⟨by decide +kernel, rfl⟩
theorem eX9_takesNumber_1 : Dc mX9_takesNumber 1 (.iload_n 2) 1 2 := ⟨by decide +kernel, rfl⟩
theorem eX9_takesNumber_2 : Dc mX9_takesNumber 2 (.invokevirtual 35) 3 5 := ⟨by decide +kernel, rfl⟩
theorem eX9_takesNumber_5 : Dc mX9_takesNumber 5 (.bipush 48) 2 7 := ⟨by decide +kernel, rfl⟩
theorem eX9_takesNumber_7 : Dc mX9_takesNumber 7 (.isub) 1 8 := ⟨by decide +kernel, rfl⟩
theorem eX9_takesNumber_8 : Dc mX9_takesNumber 8 (.istore_n 3) 1 9 := ⟨by decide +kernel, rfl⟩
theorem eX9_takesNumber_9 : Dc mX9_takesNumber 9 (.aload_n 1) 1 10 := ⟨by decide +kernel, rfl⟩
theorem eX9_takesNumber_10 : Dc mX9_takesNumber 10 (.iload_n 2) 1 11 := ⟨by decide +kernel, rfl⟩
theorem eX9_takesNumber_11 : Dc mX9_takesNumber 11 (.iconst 1) 1 12 := ⟨by decide +kernel, rfl⟩
theorem eX9_takesNumber_12 : Dc mX9_takesNumber 12 (.iadd) 1 13 := ⟨by decide +kernel, rfl⟩
theorem eX9_takesNumber_13 : Dc mX9_takesNumber 13 (.invokevirtual 35) 3 16 := ⟨by decide +kernel, rfl⟩
theorem eX9_takesNumber_16 : Dc mX9_takesNumber 16 (.istore 4) 2 18 := ⟨by decide +kernel, rfl⟩
theorem eX9_takesNumber_18 : Dc mX9_takesNumber 18 (.iload 4) 2 20 := ⟨by decide +kernel, rfl⟩
theorem eX9_takesNumber_20 : Dc mX9_takesNumber 20 (.invokestatic 39) 3 23 := ⟨by decide +kernel, rfl⟩
theorem eX9_takesNumber_23 : Dj mX9_takesNumber 23 (.ifCond .eq) 26 56 := ⟨33, by decide +kernel, rfl, by decide⟩
theorem eX9_takesNumber_26 : Dc mX9_takesNumber 26 (.iload_n 3) 1 27 := ⟨by decide +kernel, rfl⟩
theorem eX9_takesNumber_27 : Dj mX9_takesNumber 27 (.ifCond .eq) 30 43 := ⟨16, by decide +kernel, rfl, by decide⟩
theorem eX9_takesNumber_30 : Dc mX9_takesNumber 30 (.aload_n 1) 1 31 := ⟨by decide +kernel, rfl⟩
theorem eX9_takesNumber_31 : Dc mX9_takesNumber 31 (.iload_n 2) 1 32 := ⟨by decide +kernel, rfl⟩
theorem eX9_takesNumber_32 : Dc mX9_takesNumber 32 (.iconst 2) 1 33 := ⟨by decide +kernel, rfl⟩
theorem eX9_takesNumber_33 : Dc mX9_takesNumber 33 (.iadd) 1 34 := ⟨by decide +kernel, rfl⟩
theorem eX9_takesNumber_34 : Dc mX9_takesNumber 34 (.invokevirtual 35) 3 37 := ⟨by decide +kernel, rfl⟩
theorem eX9_takesNumber_37 : Dc mX9_takesNumber 37 (.invokestatic 39) 3 40 := ⟨by decide +kernel, rfl⟩
theorem eX9_takesNumber_40 : Dj mX9_takesNumber 40 (.ifCond .eq) 43 45 := ⟨5, by decide +kernel, rfl, by decide⟩
theorem eX9_takesNumber_43 : Dc mX9_takesNumber 43 (.iconst 0) 1 44 := ⟨by decide +kernel, rfl⟩
theorem eX9_takesNumber_44 : Dc mX9_takesNumber 44 (.ireturn) 1 45 := ⟨by decide +kernel, rfl⟩
theorem eX9_takesNumber_45 : Dc mX9_takesNumber 45 (.iload_n 3) 1 46 := ⟨by decide +kernel, rfl⟩
theorem eX9_takesNumber_46 : Dc mX9_takesNumber 46 (.bipush 10) 2 48 := ⟨by decide +kernel, rfl⟩
theorem eX9_takesNumber_48 : Dc mX9_takesNumber 48 (.imul) 1 49 := ⟨by decide +kernel, rfl⟩
theorem eX9_takesNumber_49 : Dc mX9_takesNumber 49 (.iload 4) 2 51 := ⟨by decide +kernel, rfl⟩
theorem eX9_takesNumber_51 : Dc mX9_takesNumber 51 (.iadd) 1 52 := ⟨by decide +kernel, rfl⟩
theorem eX9_takesNumber_52 : Dc mX9_takesNumber 52 (.bipush 48) 2 54 := ⟨by decide +kernel, rfl⟩
theorem eX9_takesNumber_54 : Dc mX9_takesNumber 54 (.isub) 1 55 := ⟨by decide +kernel, rfl⟩
theorem eX9_takesNumber_55 : Dc mX9_takesNumber 55 (.istore_n 3) 1 56 := ⟨by decide +kernel, rfl⟩
theorem eX9_takesNumber_56 : Dc mX9_takesNumber 56 (.aload_n 0) 1 57 := ⟨by decide +kernel, rfl⟩
theorem eX9_takesNumber_57 : Dc mX9_takesNumber 57 (.invokevirtual 82) 3 60 := ⟨by decide +kernel, rfl⟩
theorem eX9_takesNumber_60 : Dj mX9_takesNumber 60 (.ifCond .ne) 63 65 := ⟨5, by decide +kernel, rfl, by decide⟩
theorem eX9_takesNumber_63 : Dc mX9_takesNumber 63 (.iconst 0) 1 64 := ⟨by decide +kernel, rfl⟩
theorem eX9_takesNumber_64 : Dc mX9_takesNumber 64 (.ireturn) 1 65 := ⟨by decide +kernel, rfl⟩
theorem eX9_takesNumber_65 : Dc mX9_takesNumber 65 (.aload_n 0) 1 66 := ⟨by decide +kernel, rfl⟩
theorem eX9_takesNumber_66 : Dc mX9_takesNumber 66 (.getfield 78) 3 69 := ⟨by decide +kernel, rfl⟩
theorem eX9_takesNumber_69 : Dj mX9_takesNumber 69 (.ifCond .eq) 72 77 := ⟨8, by decide +kernel, rfl, by decide⟩
theorem eX9_takesNumber_72 : Dc mX9_takesNumber 72 (.iload_n 3) 1 73 := ⟨by decide +kernel, rfl⟩
theorem eX9_takesNumber_73 : Dc mX9_takesNumber 73 (.ineg) 1 74 := ⟨by decide +kernel, rfl⟩
theorem eX9_takesNumber_74 : Dj mX9_takesNumber 74 (.goto) 77 78 := ⟨4, by decide +kernel, rfl, by decide⟩
theorem eX9_takesNumber_77 : Dc mX9_takesNumber 77 (.iload_n 3) 1 78 := ⟨by decide +kernel, rfl⟩
theorem eX9_takesNumber_78 : Dc mX9_takesNumber 78 (.istore 5) 2 80 := ⟨by decide +kernel, rfl⟩
theorem eX9_takesNumber_80 : Dc mX9_takesNumber 80 (.aload_n 0) 1 81 := ⟨by decide +kernel, rfl⟩
theorem eX9_takesNumber_81 : Dc mX9_takesNumber 81 (.iconst 0) 1 82 := ⟨by decide +kernel, rfl⟩
theorem eX9_takesNumber_82 : Dc mX9_takesNumber 82 (.putfield 78) 3 85 := ⟨by decide +kernel, rfl⟩
theorem eX9_takesNumber_85 : Dc mX9_takesNumber 85 (.aload_n 0) 1 86 := ⟨by decide +kernel, rfl⟩
theorem eX9_takesNumber_86 : Dc mX9_takesNumber 86 (.dup) 1 87 := ⟨by decide +kernel, rfl⟩
theorem eX9_takesNumber_87 : Dc mX9_takesNumber 87 (.getfield 75) 3 90 := ⟨by decide +kernel, rfl⟩
theorem eX9_takesNumber_90 : Dc mX9_takesNumber 90 (.iconst 1) 1 91 := ⟨by decide +kernel, rfl⟩
theorem eX9_takesNumber_91 : Dc mX9_takesNumber 91 (.iadd) 1 92 := ⟨by decide +kernel, rfl⟩
theorem eX9_takesNumber_92 : Dc mX9_takesNumber 92 (.putfield 75) 3 95 := ⟨by decide +kernel, rfl⟩
theorem eX9_takesNumber_95 : Dc mX9_takesNumber 95 (.aload_n 0) 1 96 := ⟨by decide +kernel, rfl⟩
theorem eX9_takesNumber_96 : Dc mX9_takesNumber 96 (.getfield 21) 3 99 := ⟨by decide +kernel, rfl⟩
theorem eX9_takesNumber_99 : Dc mX9_takesNumber 99 (.iconst 1) 1 100 := ⟨by decide +kernel, rfl⟩
theorem eX9_takesNumber_100 : Dj mX9_takesNumber 100 (.if_icmp .ne) 103 112 := ⟨12, by decide +kernel, rfl, by decide⟩
theorem eX9_takesNumber_103 : Dc mX9_takesNumber 103 (.aload_n 0) 1 104 := ⟨by decide +kernel, rfl⟩
theorem eX9_takesNumber_104 : Dc mX9_takesNumber 104 (.iload 5) 2 106 := ⟨by decide +kernel, rfl⟩
theorem eX9_takesNumber_106 : Dc mX9_takesNumber 106 (.invokevirtual 85) 3 109 := ⟨by decide +kernel, rfl⟩
theorem eX9_takesNumber_109 : Dj mX9_takesNumber 109 (.goto) 112 118 := ⟨9, by decide +kernel, rfl, by decide⟩
theorem eX9_takesNumber_112 : Dc mX9_takesNumber 112 (.aload_n 0) 1 113 := ⟨by decide +kernel, rfl⟩
theorem eX9_takesNumber_113 : Dc mX9_takesNumber 113 (.iload 5) 2 115 := ⟨by decide +kernel, rfl⟩
theorem eX9_takesNumber_115 : Dc mX9_takesNumber 115 (.invokevirtual 88) 3 118 := ⟨by decide +kernel, rfl⟩
theorem eX9_takesNumber_118 : Dc mX9_takesNumber 118 (.ireturn) 1 119 := ⟨by decide +kernel, rfl⟩
theorem eX9_takesSign_0 : Dc mX9_takesSign 0 (.iload_n 1) 1 1 := ⟨by decide +kernel, rfl⟩
theorem eX9_takesSign_1 : Dc mX9_takesSign 1 (.lookupswitch 63 #[(45, 53), (59, 58), (98, 48), (112, 43)]) 43 44 := ⟨by decide +kernel, rfl⟩
theorem eX9_takesSign_44 : Dc mX9_takesSign 44 (.aload_n 0) 1 45 := ⟨by decide +kernel, rfl⟩
theorem eX9_takesSign_45 : Dc mX9_takesSign 45 (.invokevirtual 49) 3 48 := ⟨by decide +kernel, rfl⟩
theorem eX9_takesSign_48 : Dc mX9_takesSign 48 (.ireturn) 1 49 := ⟨by decide +kernel, rfl⟩
theorem eX9_takesSign_49 : Dc mX9_takesSign 49 (.aload_n 0) 1 50 := ⟨by decide +kernel, rfl⟩
theorem eX9_takesSign_50 : Dc mX9_takesSign 50 (.invokevirtual 53) 3 53 := ⟨by decide +kernel, rfl⟩
theorem eX9_takesSign_53 : Dc mX9_takesSign 53 (.ireturn) 1 54 := ⟨by decide +kernel, rfl⟩
theorem eX9_takesSign_54 : Dc mX9_takesSign 54 (.aload_n 0) 1 55 := ⟨by decide +kernel, rfl⟩
theorem eX9_takesSign_55 : Dc mX9_takesSign 55 (.invokevirtual 56) 3 58 := ⟨by decide +kernel, rfl⟩
theorem eX9_takesSign_58 : Dc mX9_takesSign 58 (.ireturn) 1 59 := ⟨by decide +kernel, rfl⟩
theorem eX9_takesSign_59 : Dc mX9_takesSign 59 (.aload_n 0) 1 60 := ⟨by decide +kernel, rfl⟩
theorem eX9_takesSign_60 : Dc mX9_takesSign 60 (.invokevirtual 59) 3 63 := ⟨by decide +kernel, rfl⟩
theorem eX9_takesSign_63 : Dc mX9_takesSign 63 (.ireturn) 1 64 := ⟨by decide +kernel, rfl⟩
theorem eX9_takesSign_64 : Dc mX9_takesSign 64 (.iconst 0) 1 65 := ⟨by decide +kernel, rfl⟩
theorem eX9_takesSign_65 : Dc mX9_takesSign 65 (.ireturn) 1 66 := ⟨by decide +kernel, rfl⟩
end
section
theorem sg3_b (a b : Int) : -2147483648 ≤ sg3 a b ∧ sg3 a b ≤ 2147483647 := by
  unfold sg3
  split <;> (try split) <;> omega
theorem sg3_lt {a b : Int} : sg3 a b < 0 ↔ a < b := by
  unfold sg3
  split <;> (try split) <;> omega
theorem sg3_le {a b : Int} : sg3 a b ≤ 0 ↔ a ≤ b := by
  unfold sg3
  split <;> (try split) <;> omega
theorem sg3_gt {a b : Int} : 0 < sg3 a b ↔ b < a := by
  unfold sg3
  split <;> (try split) <;> omega
theorem sg3_ge {a b : Int} : 0 ≤ sg3 a b ↔ b ≤ a := by
  unfold sg3
  split <;> (try split) <;> omega
theorem sg3_eq {a b : Int} : sg3 a b = 0 ↔ a = b := by
  unfold sg3
  split <;> (try split) <;> omega
theorem j_lc_lt {g : Gl} {y : Mt} {F : Ex} {σ : Sg} {lv : List (Nat × Value)} {pc n1 nx tgt : Nat} {st : List Value} {a b : Int} (hd : Dc y pc (.lcmp) 1 n1) (hj : Dj y n1 (.ifCond .lt) nx tgt) (h : -9223372036854775808 ≤ a ∧ a ≤ 9223372036854775807 ∧ -9223372036854775808 ≤ b ∧ b ≤ 9223372036854775807) (kt : a < b → jv g y F σ lv tgt st) (kf : ¬ a < b → jv g y F σ lv nx st) : jv g y F σ lv pc (vl b :: vl a :: st) := j_lcmp h hd (j_if_lt hj (sg3_b a b) (fun z => kt (sg3_lt.mp z)) (fun z => kf (fun q => z (sg3_lt.mpr q))))
theorem j_lc_ge {g : Gl} {y : Mt} {F : Ex} {σ : Sg} {lv : List (Nat × Value)} {pc n1 nx tgt : Nat} {st : List Value} {a b : Int} (hd : Dc y pc (.lcmp) 1 n1) (hj : Dj y n1 (.ifCond .ge) nx tgt) (h : -9223372036854775808 ≤ a ∧ a ≤ 9223372036854775807 ∧ -9223372036854775808 ≤ b ∧ b ≤ 9223372036854775807) (kt : b ≤ a → jv g y F σ lv tgt st) (kf : ¬ b ≤ a → jv g y F σ lv nx st) : jv g y F σ lv pc (vl b :: vl a :: st) := j_lcmp h hd (j_if_ge hj (sg3_b a b) (fun z => kt (sg3_ge.mp z)) (fun z => kf (fun q => z (sg3_ge.mpr q))))
theorem j_lc_gt {g : Gl} {y : Mt} {F : Ex} {σ : Sg} {lv : List (Nat × Value)} {pc n1 nx tgt : Nat} {st : List Value} {a b : Int} (hd : Dc y pc (.lcmp) 1 n1) (hj : Dj y n1 (.ifCond .gt) nx tgt) (h : -9223372036854775808 ≤ a ∧ a ≤ 9223372036854775807 ∧ -9223372036854775808 ≤ b ∧ b ≤ 9223372036854775807) (kt : b < a → jv g y F σ lv tgt st) (kf : ¬ b < a → jv g y F σ lv nx st) : jv g y F σ lv pc (vl b :: vl a :: st) := j_lcmp h hd (j_if_gt hj (sg3_b a b) (fun z => kt (sg3_gt.mp z)) (fun z => kf (fun q => z (sg3_gt.mpr q))))
theorem j_lc_le {g : Gl} {y : Mt} {F : Ex} {σ : Sg} {lv : List (Nat × Value)} {pc n1 nx tgt : Nat} {st : List Value} {a b : Int} (hd : Dc y pc (.lcmp) 1 n1) (hj : Dj y n1 (.ifCond .le) nx tgt) (h : -9223372036854775808 ≤ a ∧ a ≤ 9223372036854775807 ∧ -9223372036854775808 ≤ b ∧ b ≤ 9223372036854775807) (kt : a ≤ b → jv g y F σ lv tgt st) (kf : ¬ a ≤ b → jv g y F σ lv nx st) : jv g y F σ lv pc (vl b :: vl a :: st) := j_lcmp h hd (j_if_le hj (sg3_b a b) (fun z => kt (sg3_le.mp z)) (fun z => kf (fun q => z (sg3_le.mpr q))))
theorem j_lc_eq {g : Gl} {y : Mt} {F : Ex} {σ : Sg} {lv : List (Nat × Value)} {pc n1 nx tgt : Nat} {st : List Value} {a b : Int} (hd : Dc y pc (.lcmp) 1 n1) (hj : Dj y n1 (.ifCond .eq) nx tgt) (h : -9223372036854775808 ≤ a ∧ a ≤ 9223372036854775807 ∧ -9223372036854775808 ≤ b ∧ b ≤ 9223372036854775807) (kt : a = b → jv g y F σ lv tgt st) (kf : ¬ a = b → jv g y F σ lv nx st) : jv g y F σ lv pc (vl b :: vl a :: st) := j_lcmp h hd (j_if_eq hj (sg3_b a b) (fun z => kt (sg3_eq.mp z)) (fun z => kf (fun q => z (sg3_eq.mpr q))))
theorem j_lc_ne {g : Gl} {y : Mt} {F : Ex} {σ : Sg} {lv : List (Nat × Value)} {pc n1 nx tgt : Nat} {st : List Value} {a b : Int} (hd : Dc y pc (.lcmp) 1 n1) (hj : Dj y n1 (.ifCond .ne) nx tgt) (h : -9223372036854775808 ≤ a ∧ a ≤ 9223372036854775807 ∧ -9223372036854775808 ≤ b ∧ b ≤ 9223372036854775807) (kt : ¬ a = b → jv g y F σ lv tgt st) (kf : a = b → jv g y F σ lv nx st) : jv g y F σ lv pc (vl b :: vl a :: st) := j_lcmp h hd (j_if_ne hj (sg3_b a b) (fun z => kt (fun q => z (sg3_eq.mpr q))) (fun z => kf (sg3_eq.mp z)))
theorem lvC {lv r : List (Nat × Value)} {i : Nat} {v : Value} (h1 : lv.lookup i = some v) (h2 : lvS lv r) : lvS lv ((i, v) :: r) := ⟨h1, h2⟩
theorem lv0 {lv : List (Nat × Value)} : lvS lv [] := trivial
theorem j_tsIn {g : Gl} {y : Mt} {F : Ex} {σ : Sg} {lv : List (Nat × Value)} {pc : Nat} {st : List Value} {a dflt lo hi off : Int} {offs : Array Int} {len tgt : Nat} (hd : decode y.2.1 pc = .ok (.tableswitch dflt lo hi offs, len)) (h : -2147483648 ≤ a ∧ a ≤ 2147483647) (h1 : lo ≤ a) (h2 : a ≤ hi) (ho : offs[(a - lo).toNat]? = some off) (ht : (pc : Int) + off = (tgt : Int)) (kk : jv g y F σ lv tgt st) : jv g y F σ lv pc (vi a :: st) := by
  intro p e s m args below meth c H locs ls C hP hS hl
  have e1 : (kI a).toInt = a := kI_toInt h.1 h.2
  exact lv_tableIn C.1 C.2.1 hd (by rw [e1]; omega) (by rw [e1]; omega) (by rw [e1]; exact ho) ht (kk p e s m args below meth c H locs _ C hP hS hl)
theorem j_tsOut {g : Gl} {y : Mt} {F : Ex} {σ : Sg} {lv : List (Nat × Value)} {pc : Nat} {st : List Value} {a dflt lo hi : Int} {offs : Array Int} {len tgt : Nat} (hd : decode y.2.1 pc = .ok (.tableswitch dflt lo hi offs, len)) (h : -2147483648 ≤ a ∧ a ≤ 2147483647) (h1 : a < lo ∨ hi < a) (ht : (pc : Int) + dflt = (tgt : Int)) (kk : jv g y F σ lv tgt st) : jv g y F σ lv pc (vi a :: st) := by
  intro p e s m args below meth c H locs ls C hP hS hl
  have e1 : (kI a).toInt = a := kI_toInt h.1 h.2
  exact lv_tableOut C.1 C.2.1 hd (by rw [e1]; exact h1) ht (kk p e s m args below meth c H locs _ C hP hS hl)
theorem j_lsw {g : Gl} {y : Mt} {F : Ex} {σ : Sg} {lv : List (Nat × Value)} {pc : Nat} {st : List Value} {a dflt off : Int} {ps : Array (Int × Int)} {len tgt : Nat} (hd : decode y.2.1 pc = .ok (.lookupswitch dflt ps, len)) (hp : (ps.toList.zip (ps.toList.drop 1)).all (fun (a, next) => a.1 < next.1) = true) (h : -2147483648 ≤ a ∧ a ≤ 2147483647) (ho : Op.lookupswitch.offset ps.toList dflt a = off) (ht : (pc : Int) + off = (tgt : Int)) (kk : jv g y F σ lv tgt st) : jv g y F σ lv pc (vi a :: st) := by
  intro p e s m args below meth c H locs ls C hP hS hl
  have e1 : (kI a).toInt = a := kI_toInt h.1 h.2
  exact lv_lookup C.1 C.2.1 hd hp (by rw [e1]; exact ho) ht (kk p e s m args below meth c H locs _ C hP hS hl)
theorem r_iret {g : Gl} {y : Mt} {σ : Sg} {lv : List (Nat × Value)} {pc nx : Nat} {P : Int → Sg → Prop} {v : Int} (hr : y.2.2.2.1 = some .int) (hd : Dc y pc (.ireturn) 1 nx) (h : P v σ) : jv g y (Fm g (PI P)) σ lv pc [vi v] := j_iret (Post := fun _ _ => True) hr hd h
theorem r_zret {g : Gl} {y : Mt} {σ : Sg} {lv : List (Nat × Value)} {pc nx : Nat} {P : Int → Sg → Prop} {v : Int} (hv : v = 0 ∨ v = 1) (hr : y.2.2.2.1 = some .boolean) (hd : Dc y pc (.ireturn) 1 nx) (h : P v σ) : jv g y (Fm g (PI P)) σ lv pc [vi v] := j_zret (Post := fun _ _ => True) hv hr hd h
theorem r_lret {g : Gl} {y : Mt} {σ : Sg} {lv : List (Nat × Value)} {pc nx : Nat} {P : Int → Sg → Prop} {v : Int} (hr : y.2.2.2.1 = some .long) (hd : Dc y pc (.lreturn) 1 nx) (h : P v σ) : jv g y (Fm g (PL P)) σ lv pc [vl v] := j_lret (Post := fun _ _ => True) hr hd h
theorem r_vret {g : Gl} {y : Mt} {σ : Sg} {lv : List (Nat × Value)} {pc nx : Nat} {P : Sg → Prop} (hr : y.2.2.2.1 = none) (hd : Dc y pc (.return_) 1 nx) (h : P σ) : jv g y (Fm g (PV P)) σ lv pc [] := j_vret (Post := fun _ _ => True) hr hd h
theorem r_aret {g : Gl} {y : Mt} {σ : Sg} {lv : List (Nat × Value)} {pc nx : Nat} {C0 : String} {k : Nat} (hr : y.2.2.2.1 = some (.object C0)) (hd : Dc y pc (.areturn) 1 nx) : jv g y (Fm g (PR g k σ)) σ lv pc [vr g k] := j_aret (Post := fun _ _ => True) hr hd
end
section
theorem c_X8_length {g : Gl} {σ : Sg} : Ct g mX8_length [vr g 25] σ (PE (σ 25 1) σ) := by
  refine Ct.of (by decide +kernel) (Nat.le_of_ble_eq_true rfl) ?_
  show jv g _ _ σ [(0, vr g 25)] 0 []
  refine j_aload_n eX8_length_0 rfl ?_
  refine j_getI flX8_15 ly25 rfl eX8_length_1 ?_
  refine r_iret rfl eX8_length_4 ?_
  first | exact ⟨rfl, rfl⟩ | (exfalso; omega)
theorem c_X8_isFull {g : Gl} {σ : Sg} (hT : 0 ≤ σ 25 1 ∧ σ 25 1 ≤ 120) : Ct g mX8_isFull [vr g 25] σ (PB (120 ≤ σ 25 1) σ) := by
  refine Ct.of (by decide +kernel) (Nat.le_of_ble_eq_true rfl) ?_
  show jv g _ _ σ [(0, vr g 25)] 0 []
  refine j_aload_n eX8_isFull_0 rfl ?_
  refine j_getI flX8_15 ly25 rfl eX8_isFull_1 ?_
  refine j_aload_n eX8_isFull_4 rfl ?_
  refine j_getR flX8_9 ly25 rfl eX8_isFull_5 ?_
  refine j_alen (by decide) ly26 eX8_isFull_8 ?_
  refine j_icmp_lt eX8_isFull_9 (by omega) (fun h9 => ?_) (fun h9 => ?_)
  · refine j_iconst 0 eX8_isFull_16 ?_
    exact r_zret (by decide) rfl eX8_isFull_17 (PB_f (by omega))
  · refine j_iconst 1 eX8_isFull_12 ?_
    refine j_goto eX8_isFull_13 ?_
    exact r_zret (by decide) rfl eX8_isFull_17 (PB_t (by omega))
theorem c_X8_add {g : Gl} {σ : Sg} {a : Int} (hT : 0 ≤ σ 25 1 ∧ σ 25 1 < 120) : Ct g mX8_add [vr g 25, vi a] σ (PV (fun σ' => σ' = up (up σ 26 (σ 25 1) a) 25 1 (σ 25 1 + 1))) := by
  refine Ct.of (by decide +kernel) (Nat.le_of_ble_eq_true rfl) ?_
  show jv g _ _ σ [(0, vr g 25), (1, vi a)] 0 []
  refine j_aload_n eX8_add_0 rfl ?_
  refine j_getI flX8_15 ly25 rfl eX8_add_1 ?_
  refine j_if_lt eX8_add_4 (by omega) (fun h4 => ?_) (fun h4 => ?_)
  · refine r_vret rfl eX8_add_39 ?_
    first | exact rfl | (exfalso; omega)
  · refine j_aload_n eX8_add_7 rfl ?_
    refine j_getI flX8_15 ly25 rfl eX8_add_8 ?_
    refine j_aload_n eX8_add_11 rfl ?_
    refine j_getR flX8_9 ly25 rfl eX8_add_12 ?_
    refine j_alen (by decide) ly26 eX8_add_15 ?_
    refine j_icmp_ge eX8_add_16 (by omega) (fun h16 => ?_) (fun h16 => ?_)
    · refine r_vret rfl eX8_add_39 ?_
      first | exact rfl | (exfalso; omega)
    · refine j_aload_n eX8_add_19 rfl ?_
      refine j_getR flX8_9 ly25 rfl eX8_add_20 ?_
      refine j_aload_n eX8_add_23 rfl ?_
      refine j_getI flX8_15 ly25 rfl eX8_add_24 ?_
      refine j_iload_n eX8_add_27 rfl ?_
      refine j_iast ly26 (by omega) eX8_add_28 ?_
      refine j_aload_n eX8_add_29 rfl ?_
      refine j_dup rfl eX8_add_30 ?_
      refine j_getI flX8_15 ly25 rfl eX8_add_31 ?_
      refine j_iconst 1 eX8_add_34 ?_
      refine j_iadd eX8_add_35 ?_
      refine j_putI fpX8_15 ly25 rfl eX8_add_36 ?_
      refine r_vret rfl eX8_add_39 ?_
      first | exact rfl | (exfalso; omega)
theorem c_X8_at {g : Gl} {σ : Sg} {a : Int} (ha : -2147483648 ≤ a ∧ a ≤ 2147483647) (hT : 0 ≤ σ 25 1 ∧ σ 25 1 ≤ 120) : Ct g mX8_at [vr g 25, vi a] σ (PE (if 0 ≤ a ∧ a < σ 25 1 then σ 26 a else -9) σ) := by
  refine Ct.of (by decide +kernel) (Nat.le_of_ble_eq_true rfl) ?_
  show jv g _ _ σ [(0, vr g 25), (1, vi a)] 0 []
  refine j_iload_n eX8_at_0 rfl ?_
  refine j_if_lt eX8_at_1 (by omega) (fun h1 => ?_) (fun h1 => ?_)
  · refine j_bipush (-9) eX8_at_30 (by decide) ?_
    refine r_iret rfl eX8_at_32 ?_
    first | exact ⟨(if_pos (by omega)).symm, rfl⟩ | exact ⟨(if_neg (by omega)).symm, rfl⟩
  · refine j_iload_n eX8_at_4 rfl ?_
    refine j_aload_n eX8_at_5 rfl ?_
    refine j_getI flX8_15 ly25 rfl eX8_at_6 ?_
    refine j_icmp_ge eX8_at_9 (by omega) (fun h9 => ?_) (fun h9 => ?_)
    · refine j_bipush (-9) eX8_at_30 (by decide) ?_
      refine r_iret rfl eX8_at_32 ?_
      first | exact ⟨(if_pos (by omega)).symm, rfl⟩ | exact ⟨(if_neg (by omega)).symm, rfl⟩
    · refine j_iload_n eX8_at_12 rfl ?_
      refine j_aload_n eX8_at_13 rfl ?_
      refine j_getR flX8_9 ly25 rfl eX8_at_14 ?_
      refine j_alen (by decide) ly26 eX8_at_17 ?_
      refine j_icmp_ge eX8_at_18 (by omega) (fun h18 => ?_) (fun h18 => ?_)
      · refine j_bipush (-9) eX8_at_30 (by decide) ?_
        refine r_iret rfl eX8_at_32 ?_
        first | exact ⟨(if_pos (by omega)).symm, rfl⟩ | exact ⟨(if_neg (by omega)).symm, rfl⟩
      · refine j_aload_n eX8_at_21 rfl ?_
        refine j_getR flX8_9 ly25 rfl eX8_at_22 ?_
        refine j_iload_n eX8_at_25 rfl ?_
        refine j_iald ly26 (by omega) eX8_at_26 ?_
        refine j_goto eX8_at_27 ?_
        refine r_iret rfl eX8_at_32 ?_
        first | exact ⟨(if_pos (by omega)).symm, rfl⟩ | exact ⟨(if_neg (by omega)).symm, rfl⟩
theorem c_X8_empty {g : Gl} {σ : Sg} : Ct g mX8_empty [vr g 25] σ (PV (fun σ' => σ' = up σ 25 1 0)) := by
  refine Ct.of (by decide +kernel) (Nat.le_of_ble_eq_true rfl) ?_
  show jv g _ _ σ [(0, vr g 25)] 0 []
  refine j_aload_n eX8_empty_0 rfl ?_
  refine j_iconst 0 eX8_empty_1 ?_
  refine j_putI fpX8_15 ly25 rfl eX8_empty_2 ?_
  refine r_vret rfl eX8_empty_5 ?_
  first | exact rfl | (exfalso; omega)
theorem c_X11_isWithin {g : Gl} {σ : Sg} {a b c : Int} (h : -2147483648 ≤ a ∧ a ≤ 2147483647 ∧ -2147483648 ≤ b ∧ b ≤ 2147483647 ∧ -2147483648 ≤ c ∧ c ≤ 2147483647) : Ct g mX11_isWithin [vi a, vi b, vi c] σ (PB (b ≤ a ∧ a ≤ c) σ) := by
  refine Ct.of (by decide +kernel) (Nat.le_of_ble_eq_true rfl) ?_
  show jv g _ _ σ [(0, vi a), (1, vi b), (2, vi c)] 0 []
  refine j_iload_n eX11_isWithin_0 rfl ?_
  refine j_iload_n eX11_isWithin_1 rfl ?_
  refine j_icmp_lt eX11_isWithin_2 (by omega) (fun h2 => ?_) (fun h2 => ?_)
  · refine j_iconst 0 eX11_isWithin_14 ?_
    exact r_zret (by decide) rfl eX11_isWithin_15 (PB_f (by omega))
  · refine j_iload_n eX11_isWithin_5 rfl ?_
    refine j_iload_n eX11_isWithin_6 rfl ?_
    refine j_icmp_gt eX11_isWithin_7 (by omega) (fun h7 => ?_) (fun h7 => ?_)
    · refine j_iconst 0 eX11_isWithin_14 ?_
      exact r_zret (by decide) rfl eX11_isWithin_15 (PB_f (by omega))
    · refine j_iconst 1 eX11_isWithin_10 ?_
      refine j_goto eX11_isWithin_11 ?_
      exact r_zret (by decide) rfl eX11_isWithin_15 (PB_t (by omega))
theorem c_X11_isNode {g : Gl} {σ : Sg} {a : Int} (h : -2147483648 ≤ a ∧ a ≤ 2147483647) : Ct g mX11_isNode [vi a] σ (PB (1 ≤ a ∧ a ≤ 127) σ) := by
  refine Ct.of (by decide +kernel) (Nat.le_of_ble_eq_true rfl) ?_
  show jv g _ _ σ [(0, vi a)] 0 []
  refine j_iload_n eX11_isNode_0 rfl ?_
  refine j_iconst 1 eX11_isNode_1 ?_
  refine j_bipush 127 eX11_isNode_2 (by decide) ?_
  refine j_cS3 zX11_isWithin lkX11_92 ⟨Nat.le_of_ble_eq_true rfl, Nat.le_of_ble_eq_true rfl⟩ (c_X11_isWithin (by omega)) (Nat.le_of_ble_eq_true rfl) eX11_isNode_4 (k_B (fun h4 => ?_) (fun h4 => ?_))
  · exact r_zret (by decide) rfl eX11_isNode_7 (PB_t (by first | omega | assumption))
  · exact r_zret (by decide) rfl eX11_isNode_7 (PB_f (by first | omega | assumption))
theorem c_X11_isPlace {g : Gl} {σ : Sg} {a : Int} (h : -2147483648 ≤ a ∧ a ≤ 2147483647) : Ct g mX11_isPlace [vi a] σ (PB (-5 ≤ a ∧ a ≤ 5) σ) := by
  refine Ct.of (by decide +kernel) (Nat.le_of_ble_eq_true rfl) ?_
  show jv g _ _ σ [(0, vi a)] 0 []
  refine j_iload_n eX11_isPlace_0 rfl ?_
  refine j_bipush (-5) eX11_isPlace_1 (by decide) ?_
  refine j_iconst 5 eX11_isPlace_3 ?_
  refine j_cS3 zX11_isWithin lkX11_92 ⟨Nat.le_of_ble_eq_true rfl, Nat.le_of_ble_eq_true rfl⟩ (c_X11_isWithin (by omega)) (Nat.le_of_ble_eq_true rfl) eX11_isPlace_4 (k_B (fun h4 => ?_) (fun h4 => ?_))
  · exact r_zret (by decide) rfl eX11_isPlace_7 (PB_t (by first | omega | assumption))
  · exact r_zret (by decide) rfl eX11_isPlace_7 (PB_f (by first | omega | assumption))
theorem c_X11_isCoefficient {g : Gl} {σ : Sg} {a : Int} (h : -2147483648 ≤ a ∧ a ≤ 2147483647) : Ct g mX11_isCoefficient [vi a] σ (PB (-50 ≤ a ∧ a ≤ 50) σ) := by
  refine Ct.of (by decide +kernel) (Nat.le_of_ble_eq_true rfl) ?_
  show jv g _ _ σ [(0, vi a)] 0 []
  refine j_iload_n eX11_isCoefficient_0 rfl ?_
  refine j_bipush (-50) eX11_isCoefficient_1 (by decide) ?_
  refine j_bipush 50 eX11_isCoefficient_3 (by decide) ?_
  refine j_cS3 zX11_isWithin lkX11_92 ⟨Nat.le_of_ble_eq_true rfl, Nat.le_of_ble_eq_true rfl⟩ (c_X11_isWithin (by omega)) (Nat.le_of_ble_eq_true rfl) eX11_isCoefficient_5 (k_B (fun h5 => ?_) (fun h5 => ?_))
  · exact r_zret (by decide) rfl eX11_isCoefficient_8 (PB_t (by first | omega | assumption))
  · exact r_zret (by decide) rfl eX11_isCoefficient_8 (PB_f (by first | omega | assumption))
theorem c_X10_polynomials_0 {g : Gl} {σ : Sg} : Ct g mX10_polynomials [vr g 0] σ (PE (σ 0 0) σ) := by
  refine Ct.of (by decide +kernel) (Nat.le_of_ble_eq_true rfl) ?_
  show jv g _ _ σ [(0, vr g 0)] 0 []
  refine j_aload_n eX10_polynomials_0 rfl ?_
  refine j_getI flX10_27 ly0 rfl eX10_polynomials_1 ?_
  refine r_iret rfl eX10_polynomials_4 ?_
  first | exact ⟨rfl, rfl⟩ | (exfalso; omega)
theorem c_X10_boxes_0 {g : Gl} {σ : Sg} : Ct g mX10_boxes [vr g 0] σ (PE (σ 0 1) σ) := by
  refine Ct.of (by decide +kernel) (Nat.le_of_ble_eq_true rfl) ?_
  show jv g _ _ σ [(0, vr g 0)] 0 []
  refine j_aload_n eX10_boxes_0 rfl ?_
  refine j_getI flX10_31 ly0 rfl eX10_boxes_1 ?_
  refine r_iret rfl eX10_boxes_4 ?_
  first | exact ⟨rfl, rfl⟩ | (exfalso; omega)
theorem c_X10_hasPolynomial_0 {g : Gl} {σ : Sg} {p : Int} (h : -2147483648 ≤ p ∧ p ≤ 2147483647) (hP : 0 ≤ σ 0 0 ∧ σ 0 0 ≤ 3) : Ct g mX10_hasPolynomial [vr g 0, vi p] σ (PB (0 ≤ p ∧ p < σ 0 0) σ) := by
  refine Ct.of (by decide +kernel) (Nat.le_of_ble_eq_true rfl) ?_
  show jv g _ _ σ [(0, vr g 0), (1, vi p)] 0 []
  refine j_iload_n eX10_hasPolynomial_0 rfl ?_
  refine j_if_lt eX10_hasPolynomial_1 (by omega) (fun h1 => ?_) (fun h1 => ?_)
  · refine j_iconst 0 eX10_hasPolynomial_21 ?_
    exact r_zret (by decide) rfl eX10_hasPolynomial_22 (PB_f (by omega))
  · refine j_iload_n eX10_hasPolynomial_4 rfl ?_
    refine j_aload_n eX10_hasPolynomial_5 rfl ?_
    refine j_getI flX10_27 ly0 rfl eX10_hasPolynomial_6 ?_
    refine j_icmp_ge eX10_hasPolynomial_9 (by omega) (fun h9 => ?_) (fun h9 => ?_)
    · refine j_iconst 0 eX10_hasPolynomial_21 ?_
      exact r_zret (by decide) rfl eX10_hasPolynomial_22 (PB_f (by omega))
    · refine j_iload_n eX10_hasPolynomial_12 rfl ?_
      refine j_iconst 3 eX10_hasPolynomial_13 ?_
      refine j_icmp_ge eX10_hasPolynomial_14 (by omega) (fun h14 => ?_) (fun h14 => ?_)
      · refine j_iconst 0 eX10_hasPolynomial_21 ?_
        exact r_zret (by decide) rfl eX10_hasPolynomial_22 (PB_f (by omega))
      · refine j_iconst 1 eX10_hasPolynomial_17 ?_
        refine j_goto eX10_hasPolynomial_18 ?_
        exact r_zret (by decide) rfl eX10_hasPolynomial_22 (PB_t (by omega))
theorem c_X10_polynomials_18 {g : Gl} {σ : Sg} : Ct g mX10_polynomials [vr g 18] σ (PE (σ 18 0) σ) := by
  refine Ct.of (by decide +kernel) (Nat.le_of_ble_eq_true rfl) ?_
  show jv g _ _ σ [(0, vr g 18)] 0 []
  refine j_aload_n eX10_polynomials_0 rfl ?_
  refine j_getI flX10_27 ly18 rfl eX10_polynomials_1 ?_
  refine r_iret rfl eX10_polynomials_4 ?_
  first | exact ⟨rfl, rfl⟩ | (exfalso; omega)
theorem c_X10_boxes_18 {g : Gl} {σ : Sg} : Ct g mX10_boxes [vr g 18] σ (PE (σ 18 1) σ) := by
  refine Ct.of (by decide +kernel) (Nat.le_of_ble_eq_true rfl) ?_
  show jv g _ _ σ [(0, vr g 18)] 0 []
  refine j_aload_n eX10_boxes_0 rfl ?_
  refine j_getI flX10_31 ly18 rfl eX10_boxes_1 ?_
  refine r_iret rfl eX10_boxes_4 ?_
  first | exact ⟨rfl, rfl⟩ | (exfalso; omega)
theorem c_X10_hasPolynomial_18 {g : Gl} {σ : Sg} {p : Int} (h : -2147483648 ≤ p ∧ p ≤ 2147483647) (hP : 0 ≤ σ 18 0 ∧ σ 18 0 ≤ 3) : Ct g mX10_hasPolynomial [vr g 18, vi p] σ (PB (0 ≤ p ∧ p < σ 18 0) σ) := by
  refine Ct.of (by decide +kernel) (Nat.le_of_ble_eq_true rfl) ?_
  show jv g _ _ σ [(0, vr g 18), (1, vi p)] 0 []
  refine j_iload_n eX10_hasPolynomial_0 rfl ?_
  refine j_if_lt eX10_hasPolynomial_1 (by omega) (fun h1 => ?_) (fun h1 => ?_)
  · refine j_iconst 0 eX10_hasPolynomial_21 ?_
    exact r_zret (by decide) rfl eX10_hasPolynomial_22 (PB_f (by omega))
  · refine j_iload_n eX10_hasPolynomial_4 rfl ?_
    refine j_aload_n eX10_hasPolynomial_5 rfl ?_
    refine j_getI flX10_27 ly18 rfl eX10_hasPolynomial_6 ?_
    refine j_icmp_ge eX10_hasPolynomial_9 (by omega) (fun h9 => ?_) (fun h9 => ?_)
    · refine j_iconst 0 eX10_hasPolynomial_21 ?_
      exact r_zret (by decide) rfl eX10_hasPolynomial_22 (PB_f (by omega))
    · refine j_iload_n eX10_hasPolynomial_12 rfl ?_
      refine j_iconst 3 eX10_hasPolynomial_13 ?_
      refine j_icmp_ge eX10_hasPolynomial_14 (by omega) (fun h14 => ?_) (fun h14 => ?_)
      · refine j_iconst 0 eX10_hasPolynomial_21 ?_
        exact r_zret (by decide) rfl eX10_hasPolynomial_22 (PB_f (by omega))
      · refine j_iconst 1 eX10_hasPolynomial_17 ?_
        refine j_goto eX10_hasPolynomial_18 ?_
        exact r_zret (by decide) rfl eX10_hasPolynomial_22 (PB_t (by omega))
theorem c_X10_hasBox_0 {g : Gl} {σ : Sg} {b : Int} (h : -2147483648 ≤ b ∧ b ≤ 2147483647) (hB : 0 ≤ σ 0 1 ∧ σ 0 1 ≤ 3) : Ct g mX10_hasBox [vr g 0, vi b] σ (PB (0 ≤ b ∧ b < σ 0 1) σ) := by
  refine Ct.of (by decide +kernel) (Nat.le_of_ble_eq_true rfl) ?_
  show jv g _ _ σ [(0, vr g 0), (1, vi b)] 0 []
  refine j_iload_n eX10_hasBox_0 rfl ?_
  refine j_if_lt eX10_hasBox_1 (by omega) (fun h1 => ?_) (fun h1 => ?_)
  · refine j_iconst 0 eX10_hasBox_21 ?_
    exact r_zret (by decide) rfl eX10_hasBox_22 (PB_f (by omega))
  · refine j_iload_n eX10_hasBox_4 rfl ?_
    refine j_aload_n eX10_hasBox_5 rfl ?_
    refine j_getI flX10_31 ly0 rfl eX10_hasBox_6 ?_
    refine j_icmp_ge eX10_hasBox_9 (by omega) (fun h9 => ?_) (fun h9 => ?_)
    · refine j_iconst 0 eX10_hasBox_21 ?_
      exact r_zret (by decide) rfl eX10_hasBox_22 (PB_f (by omega))
    · refine j_iload_n eX10_hasBox_12 rfl ?_
      refine j_iconst 3 eX10_hasBox_13 ?_
      refine j_icmp_ge eX10_hasBox_14 (by omega) (fun h14 => ?_) (fun h14 => ?_)
      · refine j_iconst 0 eX10_hasBox_21 ?_
        exact r_zret (by decide) rfl eX10_hasBox_22 (PB_f (by omega))
      · refine j_iconst 1 eX10_hasBox_17 ?_
        refine j_goto eX10_hasBox_18 ?_
        exact r_zret (by decide) rfl eX10_hasBox_22 (PB_t (by omega))
theorem c_X10_hasCoefficient_0 {g : Gl} {σ : Sg} {p k : Int} (h : -2147483648 ≤ p ∧ p ≤ 2147483647 ∧ -2147483648 ≤ k ∧ k ≤ 2147483647) (hP : 0 ≤ σ 0 0 ∧ σ 0 0 ≤ 3) (hS : ∀ p, 0 ≤ p → p < σ 0 0 → 1 ≤ σ 1 p ∧ σ 1 p ≤ 6) : Ct g mX10_hasCoefficient [vr g 0, vi p, vi k] σ (PB (0 ≤ p ∧ p < σ 0 0 ∧ 0 ≤ k ∧ k < σ 1 p) σ) := by
  refine Ct.of (by decide +kernel) (Nat.le_of_ble_eq_true rfl) ?_
  show jv g _ _ σ [(0, vr g 0), (1, vi p), (2, vi k)] 0 []
  refine j_iload_n eX10_hasCoefficient_0 rfl ?_
  refine j_if_lt eX10_hasCoefficient_1 (by omega) (fun h1 => ?_) (fun h1 => ?_)
  · refine j_iconst 0 eX10_hasCoefficient_41 ?_
    exact r_zret (by decide) rfl eX10_hasCoefficient_42 (PB_f (by omega))
  · refine j_iload_n eX10_hasCoefficient_4 rfl ?_
    refine j_aload_n eX10_hasCoefficient_5 rfl ?_
    refine j_getI flX10_27 ly0 rfl eX10_hasCoefficient_6 ?_
    refine j_icmp_ge eX10_hasCoefficient_9 (by omega) (fun h9 => ?_) (fun h9 => ?_)
    · refine j_iconst 0 eX10_hasCoefficient_41 ?_
      exact r_zret (by decide) rfl eX10_hasCoefficient_42 (PB_f (by omega))
    · refine j_iload_n eX10_hasCoefficient_12 rfl ?_
      refine j_iconst 3 eX10_hasCoefficient_13 ?_
      refine j_icmp_ge eX10_hasCoefficient_14 (by omega) (fun h14 => ?_) (fun h14 => ?_)
      · refine j_iconst 0 eX10_hasCoefficient_41 ?_
        exact r_zret (by decide) rfl eX10_hasCoefficient_42 (PB_f (by omega))
      · refine j_iload_n eX10_hasCoefficient_17 rfl ?_
        refine j_if_lt eX10_hasCoefficient_18 (by omega) (fun h18 => ?_) (fun h18 => ?_)
        · refine j_iconst 0 eX10_hasCoefficient_41 ?_
          exact r_zret (by decide) rfl eX10_hasCoefficient_42 (PB_f (by omega))
        · refine j_iload_n eX10_hasCoefficient_21 rfl ?_
          refine j_aload_n eX10_hasCoefficient_22 rfl ?_
          refine j_getR flX10_9 ly0 rfl eX10_hasCoefficient_23 ?_
          refine j_iload_n eX10_hasCoefficient_26 rfl ?_
          refine j_iald ly1 (by omega) eX10_hasCoefficient_27 ?_
          have q := hS p (by omega) (by omega)
          refine j_icmp_ge eX10_hasCoefficient_28 (by omega) (fun h28 => ?_) (fun h28 => ?_)
          · refine j_iconst 0 eX10_hasCoefficient_41 ?_
            exact r_zret (by decide) rfl eX10_hasCoefficient_42 (PB_f (by omega))
          · refine j_iload_n eX10_hasCoefficient_31 rfl ?_
            refine j_bipush 6 eX10_hasCoefficient_32 (by decide) ?_
            refine j_icmp_ge eX10_hasCoefficient_34 (by omega) (fun h34 => ?_) (fun h34 => ?_)
            · refine j_iconst 0 eX10_hasCoefficient_41 ?_
              exact r_zret (by decide) rfl eX10_hasCoefficient_42 (PB_f (by omega))
            · refine j_iconst 1 eX10_hasCoefficient_37 ?_
              refine j_goto eX10_hasCoefficient_38 ?_
              exact r_zret (by decide) rfl eX10_hasCoefficient_42 (PB_t (by omega))
theorem c_X10_degree_0 {g : Gl} {σ : Sg} {p : Int} (vp : 0 ≤ p ∧ p < σ 0 0) (hP : 0 ≤ σ 0 0 ∧ σ 0 0 ≤ 3) : Ct g mX10_degree [vr g 0, vi p] σ (PE (σ 1 p - 1) σ) := by
  refine Ct.of (by decide +kernel) (Nat.le_of_ble_eq_true rfl) ?_
  show jv g _ _ σ [(0, vr g 0), (1, vi p)] 0 []
  refine j_aload_n eX10_degree_0 rfl ?_
  refine j_iload_n eX10_degree_1 rfl ?_
  refine j_cV1 zX10_hasPolynomial lkX10_34 ⟨Nat.le_of_ble_eq_true rfl, Nat.le_of_ble_eq_true rfl⟩ ly0 rfl rfl (c_X10_hasPolynomial_0 (by omega) (by omega)) (Nat.le_of_ble_eq_true rfl) eX10_degree_2 (k_B (fun h2 => ?_) (fun h2 => ?_))
  · refine j_ifeq_1 eX10_degree_5 ?_
    refine j_aload_n eX10_degree_8 rfl ?_
    refine j_getR flX10_9 ly0 rfl eX10_degree_9 ?_
    refine j_iload_n eX10_degree_12 rfl ?_
    refine j_iald ly1 (by omega) eX10_degree_13 ?_
    refine j_iconst 1 eX10_degree_14 ?_
    refine j_isub eX10_degree_15 ?_
    refine j_goto eX10_degree_16 ?_
    refine r_iret rfl eX10_degree_21 ?_
    first | exact ⟨rfl, rfl⟩ | (exfalso; omega)
  · refine j_ifeq_0 eX10_degree_5 ?_
    refine j_bipush (-9) eX10_degree_19 (by decide) ?_
    refine r_iret rfl eX10_degree_21 ?_
    first | exact ⟨rfl, rfl⟩ | (exfalso; omega)
theorem c_X10_coefficient_0 {g : Gl} {σ : Sg} {p k : Int} (vp : 0 ≤ p ∧ p < σ 0 0) (vk : 0 ≤ k ∧ k < σ 1 p) (hP : 0 ≤ σ 0 0 ∧ σ 0 0 ≤ 3) (hS : ∀ p, 0 ≤ p → p < σ 0 0 → 1 ≤ σ 1 p ∧ σ 1 p ≤ 6) : Ct g mX10_coefficient [vr g 0, vi p, vi k] σ (PE (σ 2 (p * 6 + k)) σ) := by
  refine Ct.of (by decide +kernel) (Nat.le_of_ble_eq_true rfl) ?_
  show jv g _ _ σ [(0, vr g 0), (1, vi p), (2, vi k)] 0 []
  have q := hS p (by omega) (by omega)
  refine j_aload_n eX10_coefficient_0 rfl ?_
  refine j_iload_n eX10_coefficient_1 rfl ?_
  refine j_iload_n eX10_coefficient_2 rfl ?_
  refine j_cV2 zX10_hasCoefficient lkX10_38 ⟨Nat.le_of_ble_eq_true rfl, Nat.le_of_ble_eq_true rfl⟩ ly0 rfl rfl (c_X10_hasCoefficient_0 (by omega) (by omega) hS) (Nat.le_of_ble_eq_true rfl) eX10_coefficient_3 (k_B (fun h3 => ?_) (fun h3 => ?_))
  · refine j_ifeq_1 eX10_coefficient_6 ?_
    refine j_aload_n eX10_coefficient_9 rfl ?_
    refine j_getR flX10_15 ly0 rfl eX10_coefficient_10 ?_
    refine j_iload_n eX10_coefficient_13 rfl ?_
    refine j_bipush 6 eX10_coefficient_14 (by decide) ?_
    refine j_imul eX10_coefficient_16 ?_
    refine j_iload_n eX10_coefficient_17 rfl ?_
    refine j_iadd eX10_coefficient_18 ?_
    refine j_iald ly2 (by omega) eX10_coefficient_19 ?_
    refine j_goto eX10_coefficient_20 ?_
    refine r_iret rfl eX10_coefficient_24 ?_
    first | exact ⟨rfl, rfl⟩ | (exfalso; omega)
  · refine j_ifeq_0 eX10_coefficient_6 ?_
    refine j_iconst 0 eX10_coefficient_23 ?_
    refine r_iret rfl eX10_coefficient_24 ?_
    first | exact ⟨rfl, rfl⟩ | (exfalso; omega)
theorem c_X10_wanted_0 {g : Gl} {σ : Sg} {p : Int} (vp : 0 ≤ p ∧ p < σ 0 0) (hP : 0 ≤ σ 0 0 ∧ σ 0 0 ≤ 3) : Ct g mX10_wanted [vr g 0, vi p] σ (PE (σ 3 p) σ) := by
  refine Ct.of (by decide +kernel) (Nat.le_of_ble_eq_true rfl) ?_
  show jv g _ _ σ [(0, vr g 0), (1, vi p)] 0 []
  refine j_aload_n eX10_wanted_0 rfl ?_
  refine j_iload_n eX10_wanted_1 rfl ?_
  refine j_cV1 zX10_hasPolynomial lkX10_34 ⟨Nat.le_of_ble_eq_true rfl, Nat.le_of_ble_eq_true rfl⟩ ly0 rfl rfl (c_X10_hasPolynomial_0 (by omega) (by omega)) (Nat.le_of_ble_eq_true rfl) eX10_wanted_2 (k_B (fun h2 => ?_) (fun h2 => ?_))
  · refine j_ifeq_1 eX10_wanted_5 ?_
    refine j_aload_n eX10_wanted_8 rfl ?_
    refine j_getR flX10_18 ly0 rfl eX10_wanted_9 ?_
    refine j_iload_n eX10_wanted_12 rfl ?_
    refine j_iald ly3 (by omega) eX10_wanted_13 ?_
    refine j_goto eX10_wanted_14 ?_
    refine r_iret rfl eX10_wanted_18 ?_
    first | exact ⟨rfl, rfl⟩ | (exfalso; omega)
  · refine j_ifeq_0 eX10_wanted_5 ?_
    refine j_iconst 0 eX10_wanted_17 ?_
    refine r_iret rfl eX10_wanted_18 ?_
    first | exact ⟨rfl, rfl⟩ | (exfalso; omega)
theorem c_X10_lower_0 {g : Gl} {σ : Sg} {b : Int} (vb : 0 ≤ b ∧ b < σ 0 1) (hB : 0 ≤ σ 0 1 ∧ σ 0 1 ≤ 3) : Ct g mX10_lower [vr g 0, vi b] σ (PE (σ 4 b) σ) := by
  refine Ct.of (by decide +kernel) (Nat.le_of_ble_eq_true rfl) ?_
  show jv g _ _ σ [(0, vr g 0), (1, vi b)] 0 []
  refine j_aload_n eX10_lower_0 rfl ?_
  refine j_iload_n eX10_lower_1 rfl ?_
  refine j_cV1 zX10_hasBox lkX10_42 ⟨Nat.le_of_ble_eq_true rfl, Nat.le_of_ble_eq_true rfl⟩ ly0 rfl rfl (c_X10_hasBox_0 (by omega) (by omega)) (Nat.le_of_ble_eq_true rfl) eX10_lower_2 (k_B (fun h2 => ?_) (fun h2 => ?_))
  · refine j_ifeq_1 eX10_lower_5 ?_
    refine j_aload_n eX10_lower_8 rfl ?_
    refine j_getR flX10_21 ly0 rfl eX10_lower_9 ?_
    refine j_iload_n eX10_lower_12 rfl ?_
    refine j_iald ly4 (by omega) eX10_lower_13 ?_
    refine j_goto eX10_lower_14 ?_
    refine r_iret rfl eX10_lower_18 ?_
    first | exact ⟨rfl, rfl⟩ | (exfalso; omega)
  · refine j_ifeq_0 eX10_lower_5 ?_
    refine j_iconst 0 eX10_lower_17 ?_
    refine r_iret rfl eX10_lower_18 ?_
    first | exact ⟨rfl, rfl⟩ | (exfalso; omega)
theorem c_X10_upper_0 {g : Gl} {σ : Sg} {b : Int} (vb : 0 ≤ b ∧ b < σ 0 1) (hB : 0 ≤ σ 0 1 ∧ σ 0 1 ≤ 3) : Ct g mX10_upper [vr g 0, vi b] σ (PE (σ 5 b) σ) := by
  refine Ct.of (by decide +kernel) (Nat.le_of_ble_eq_true rfl) ?_
  show jv g _ _ σ [(0, vr g 0), (1, vi b)] 0 []
  refine j_aload_n eX10_upper_0 rfl ?_
  refine j_iload_n eX10_upper_1 rfl ?_
  refine j_cV1 zX10_hasBox lkX10_42 ⟨Nat.le_of_ble_eq_true rfl, Nat.le_of_ble_eq_true rfl⟩ ly0 rfl rfl (c_X10_hasBox_0 (by omega) (by omega)) (Nat.le_of_ble_eq_true rfl) eX10_upper_2 (k_B (fun h2 => ?_) (fun h2 => ?_))
  · refine j_ifeq_1 eX10_upper_5 ?_
    refine j_aload_n eX10_upper_8 rfl ?_
    refine j_getR flX10_24 ly0 rfl eX10_upper_9 ?_
    refine j_iload_n eX10_upper_12 rfl ?_
    refine j_iald ly5 (by omega) eX10_upper_13 ?_
    refine j_goto eX10_upper_14 ?_
    refine r_iret rfl eX10_upper_18 ?_
    first | exact ⟨rfl, rfl⟩ | (exfalso; omega)
  · refine j_ifeq_0 eX10_upper_5 ?_
    refine j_iconst 0 eX10_upper_17 ?_
    refine r_iret rfl eX10_upper_18 ?_
    first | exact ⟨rfl, rfl⟩ | (exfalso; omega)
theorem c_X10_placeBehind_0 {g : Gl} {σ : Sg} {b n : Int} (vb : 0 ≤ b ∧ b < σ 0 1) (hB : 0 ≤ σ 0 1 ∧ σ 0 1 ≤ 3) : Ct g mX10_placeBehind [vr g 0, vi b, vi n] σ (PE (σ 4 b * 64 + (σ 5 b - σ 4 b) * n) σ) := by
  refine Ct.of (by decide +kernel) (Nat.le_of_ble_eq_true rfl) ?_
  show jv g _ _ σ [(0, vr g 0), (1, vi b), (2, vi n)] 0 []
  refine j_iload_n eX10_placeBehind_0 rfl ?_
  refine j_if_lt eX10_placeBehind_1 (by omega) (fun h1 => ?_) (fun h1 => ?_)
  · refine j_iconst 0 eX10_placeBehind_9 ?_
    refine r_iret rfl eX10_placeBehind_10 ?_
    first | exact ⟨rfl, rfl⟩ | (exfalso; omega)
  · refine j_iload_n eX10_placeBehind_4 rfl ?_
    refine j_iconst 3 eX10_placeBehind_5 ?_
    refine j_icmp_lt eX10_placeBehind_6 (by omega) (fun h6 => ?_) (fun h6 => ?_)
    · refine j_aload_n eX10_placeBehind_11 rfl ?_
      refine j_getR flX10_21 ly0 rfl eX10_placeBehind_12 ?_
      refine j_iload_n eX10_placeBehind_15 rfl ?_
      refine j_iald ly4 (by omega) eX10_placeBehind_16 ?_
      refine j_bipush 64 eX10_placeBehind_17 (by decide) ?_
      refine j_imul eX10_placeBehind_19 ?_
      refine j_aload_n eX10_placeBehind_20 rfl ?_
      refine j_getR flX10_24 ly0 rfl eX10_placeBehind_21 ?_
      refine j_iload_n eX10_placeBehind_24 rfl ?_
      refine j_iald ly5 (by omega) eX10_placeBehind_25 ?_
      refine j_aload_n eX10_placeBehind_26 rfl ?_
      refine j_getR flX10_21 ly0 rfl eX10_placeBehind_27 ?_
      refine j_iload_n eX10_placeBehind_30 rfl ?_
      refine j_iald ly4 (by omega) eX10_placeBehind_31 ?_
      refine j_isub eX10_placeBehind_32 ?_
      refine j_iload_n eX10_placeBehind_33 rfl ?_
      refine j_imul eX10_placeBehind_34 ?_
      refine j_iadd eX10_placeBehind_35 ?_
      refine r_iret rfl eX10_placeBehind_36 ?_
      first | exact ⟨rfl, rfl⟩ | (exfalso; omega)
    · refine j_iconst 0 eX10_placeBehind_9 ?_
      refine r_iret rfl eX10_placeBehind_10 ?_
      first | exact ⟨rfl, rfl⟩ | (exfalso; omega)
def hn (f : Int → Int) (x : Int) : Nat → Int → Int
  | 0, s => s
  | m + 1, s => hn f x m (s * x + f m)
theorem c_X10_putCoefficient_0 {g : Gl} {σ : Sg} {p k v : Int} (vp : 0 ≤ p ∧ p < σ 0 0) (vk : 0 ≤ k ∧ k < σ 1 p) (hP : 0 ≤ σ 0 0 ∧ σ 0 0 ≤ 3) (hS : ∀ p, 0 ≤ p → p < σ 0 0 → 1 ≤ σ 1 p ∧ σ 1 p ≤ 6) : Ct g mX10_putCoefficient [vr g 0, vi p, vi k, vi v] σ (PV (fun σ' => σ' = up σ 2 (p * 6 + k) v)) := by
  refine Ct.of (by decide +kernel) (Nat.le_of_ble_eq_true rfl) ?_
  show jv g _ _ σ [(0, vr g 0), (1, vi p), (2, vi k), (3, vi v)] 0 []
  have q := hS p (by omega) (by omega)
  refine j_aload_n eX10_putCoefficient_0 rfl ?_
  refine j_iload_n eX10_putCoefficient_1 rfl ?_
  refine j_iload_n eX10_putCoefficient_2 rfl ?_
  refine j_cV2 zX10_hasCoefficient lkX10_38 ⟨Nat.le_of_ble_eq_true rfl, Nat.le_of_ble_eq_true rfl⟩ ly0 rfl rfl (c_X10_hasCoefficient_0 (by omega) (by omega) hS) (Nat.le_of_ble_eq_true rfl) eX10_putCoefficient_3 (k_B (fun h3 => ?_) (fun h3 => ?_))
  · refine j_ifeq_1 eX10_putCoefficient_6 ?_
    refine j_aload_n eX10_putCoefficient_9 rfl ?_
    refine j_getR flX10_15 ly0 rfl eX10_putCoefficient_10 ?_
    refine j_iload_n eX10_putCoefficient_13 rfl ?_
    refine j_bipush 6 eX10_putCoefficient_14 (by decide) ?_
    refine j_imul eX10_putCoefficient_16 ?_
    refine j_iload_n eX10_putCoefficient_17 rfl ?_
    refine j_iadd eX10_putCoefficient_18 ?_
    refine j_iload_n eX10_putCoefficient_19 rfl ?_
    refine j_iast ly2 (by omega) eX10_putCoefficient_20 ?_
    refine r_vret rfl eX10_putCoefficient_21 ?_
    first | exact rfl | (exfalso; omega)
  · refine j_ifeq_0 eX10_putCoefficient_6 ?_
    refine r_vret rfl eX10_putCoefficient_21 ?_
    first | exact rfl | (exfalso; omega)
theorem c_X10_putBox_0 {g : Gl} {σ : Sg} {b l u : Int} (vb : 0 ≤ b ∧ b < σ 0 1) (hB : 0 ≤ σ 0 1 ∧ σ 0 1 ≤ 3) : Ct g mX10_putBox [vr g 0, vi b, vi l, vi u] σ (PV (fun σ' => σ' = up (up σ 4 b l) 5 b u)) := by
  refine Ct.of (by decide +kernel) (Nat.le_of_ble_eq_true rfl) ?_
  show jv g _ _ σ [(0, vr g 0), (1, vi b), (2, vi l), (3, vi u)] 0 []
  refine j_aload_n eX10_putBox_0 rfl ?_
  refine j_iload_n eX10_putBox_1 rfl ?_
  refine j_cV1 zX10_hasBox lkX10_42 ⟨Nat.le_of_ble_eq_true rfl, Nat.le_of_ble_eq_true rfl⟩ ly0 rfl rfl (c_X10_hasBox_0 (by omega) (by omega)) (Nat.le_of_ble_eq_true rfl) eX10_putBox_2 (k_B (fun h2 => ?_) (fun h2 => ?_))
  · refine j_ifeq_1 eX10_putBox_5 ?_
    refine j_aload_n eX10_putBox_8 rfl ?_
    refine j_getR flX10_21 ly0 rfl eX10_putBox_9 ?_
    refine j_iload_n eX10_putBox_12 rfl ?_
    refine j_iload_n eX10_putBox_13 rfl ?_
    refine j_iast ly4 (by omega) eX10_putBox_14 ?_
    refine j_aload_n eX10_putBox_15 rfl ?_
    refine j_getR flX10_24 ly0 rfl eX10_putBox_16 ?_
    refine j_iload_n eX10_putBox_19 rfl ?_
    refine j_iload_n eX10_putBox_20 rfl ?_
    refine j_iast ly5 (by omega) eX10_putBox_21 ?_
    refine r_vret rfl eX10_putBox_22 ?_
    first | exact rfl | (exfalso; omega)
  · refine j_ifeq_0 eX10_putBox_5 ?_
    refine r_vret rfl eX10_putBox_22 ?_
    first | exact rfl | (exfalso; omega)
theorem c_X10_want_0 {g : Gl} {σ : Sg} {p v : Int} (vp : 0 ≤ p ∧ p < σ 0 0) (hP : 0 ≤ σ 0 0 ∧ σ 0 0 ≤ 3) : Ct g mX10_want [vr g 0, vi p, vi v] σ (PV (fun σ' => σ' = up σ 3 p v)) := by
  refine Ct.of (by decide +kernel) (Nat.le_of_ble_eq_true rfl) ?_
  show jv g _ _ σ [(0, vr g 0), (1, vi p), (2, vi v)] 0 []
  refine j_aload_n eX10_want_0 rfl ?_
  refine j_iload_n eX10_want_1 rfl ?_
  refine j_cV1 zX10_hasPolynomial lkX10_34 ⟨Nat.le_of_ble_eq_true rfl, Nat.le_of_ble_eq_true rfl⟩ ly0 rfl rfl (c_X10_hasPolynomial_0 (by omega) (by omega)) (Nat.le_of_ble_eq_true rfl) eX10_want_2 (k_B (fun h2 => ?_) (fun h2 => ?_))
  · refine j_ifeq_1 eX10_want_5 ?_
    refine j_aload_n eX10_want_8 rfl ?_
    refine j_getR flX10_18 ly0 rfl eX10_want_9 ?_
    refine j_iload_n eX10_want_12 rfl ?_
    refine j_iload_n eX10_want_13 rfl ?_
    refine j_iast ly3 (by omega) eX10_want_14 ?_
    refine r_vret rfl eX10_want_15 ?_
    first | exact rfl | (exfalso; omega)
  · refine j_ifeq_0 eX10_want_5 ?_
    refine r_vret rfl eX10_want_15 ?_
    first | exact rfl | (exfalso; omega)
theorem l_X10_at_0 {g : Gl} {σ : Sg} {p x : Int} (vp : 0 ≤ p ∧ p < σ 0 0) (hP : 0 ≤ σ 0 0 ∧ σ 0 0 ≤ 3) (hS : ∀ p, 0 ≤ p → p < σ 0 0 → 1 ≤ σ 1 p ∧ σ 1 p ≤ 6) : ∀ (m : Nat) (s : Int), (m : Int) ≤ σ 1 p → jv g mX10_at (Fm g (PE (hn (fun k => σ 2 (p * 6 + k)) x m s) σ)) σ [(0, vr g 0), (1, vi p), (2, vi x), (3, vi s), (4, vi ((m : Int) - 1))] 9 [] := by
  have q := hS p (by omega) (by omega)
  intro m
  induction m with
  | zero =>
    intro s hm
    refine j_iload eX10_at_9 rfl ?_
    refine j_if_lt eX10_at_11 (by omega) (fun h11 => ?_) (fun h11 => absurd (show ((0 : Nat) : Int) - 1 < 0 by omega) h11)
    refine j_iload_n eX10_at_32 rfl ?_
    exact r_iret rfl eX10_at_33 ⟨rfl, rfl⟩
  | succ m ih =>
    intro s hm
    refine j_iload eX10_at_9 rfl ?_
    refine j_if_lt eX10_at_11 (by omega) (fun h11 => absurd h11 (by omega)) (fun h11 => ?_)
    refine j_iload_n eX10_at_14 rfl ?_
    refine j_iload_n eX10_at_15 rfl ?_
    refine j_imul eX10_at_16 ?_
    refine j_aload_n eX10_at_17 rfl ?_
    refine j_iload_n eX10_at_18 rfl ?_
    refine j_iload eX10_at_19 rfl ?_
    refine j_cV2 zX10_coefficient lkX10_49 ⟨Nat.le_of_ble_eq_true rfl, Nat.le_of_ble_eq_true rfl⟩ ly0 rfl rfl (c_X10_coefficient_0 (by omega) (by omega) (by omega) hS) (Nat.le_of_ble_eq_true rfl) eX10_at_21 (k_E ?_)
    refine j_iadd eX10_at_24 ?_
    refine j_istore_n eX10_at_25 (Nat.le_of_ble_eq_true rfl) ?_
    refine j_iinc eX10_at_26 rfl (Nat.le_of_ble_eq_true rfl) ?_
    refine j_goto eX10_at_29 ?_
    have e1 : (((m + 1 : Nat) : Int) - 1) + -1 = (m : Int) - 1 := by omega
    have e2 : (((m + 1 : Nat) : Int) - 1) = (m : Int) := by omega
    rw [e1, e2]
    refine jv_lv ?_ (ih _ (by omega))
    exact lvC rfl (lvC rfl (lvC rfl (lvC rfl (lvC rfl lv0))))
theorem c_X10_at_0 {g : Gl} {σ : Sg} {p x : Int} (vp : 0 ≤ p ∧ p < σ 0 0) (hP : 0 ≤ σ 0 0 ∧ σ 0 0 ≤ 3) (hS : ∀ p, 0 ≤ p → p < σ 0 0 → 1 ≤ σ 1 p ∧ σ 1 p ≤ 6) : Ct g mX10_at [vr g 0, vi p, vi x] σ (PE (hn (fun k => σ 2 (p * 6 + k)) x (σ 1 p).toNat 0) σ) := by
  refine Ct.of (by decide +kernel) (Nat.le_of_ble_eq_true rfl) ?_
  show jv g _ _ σ [(0, vr g 0), (1, vi p), (2, vi x)] 0 []
  have q := hS p (by omega) (by omega)
  refine j_iconst 0 eX10_at_0 ?_
  refine j_istore_n eX10_at_1 (Nat.le_of_ble_eq_true rfl) ?_
  refine j_aload_n eX10_at_2 rfl ?_
  refine j_iload_n eX10_at_3 rfl ?_
  refine j_cV1 zX10_degree lkX10_45 ⟨Nat.le_of_ble_eq_true rfl, Nat.le_of_ble_eq_true rfl⟩ ly0 rfl rfl (c_X10_degree_0 (by omega) (by omega)) (Nat.le_of_ble_eq_true rfl) eX10_at_4 (k_E ?_)
  refine j_istore eX10_at_7 (Nat.le_of_ble_eq_true rfl) ?_
  refine jv_lv ?_ (l_X10_at_0 vp hP hS (σ 1 p).toNat 0 (by omega))
  have e1 : σ 1 p - 1 = (((σ 1 p).toNat : Nat) : Int) - 1 := by omega
  rw [e1]
  exact lvC rfl (lvC rfl (lvC rfl (lvC rfl (lvC rfl lv0))))
theorem c_X7_told {g : Gl} {σ : Sg} : Ct g mX7_told [vr g 27] σ (PR g 0 σ) := by
  refine Ct.of (by decide +kernel) (Nat.le_of_ble_eq_true rfl) ?_
  show jv g _ _ σ [(0, vr g 27)] 0 []
  refine j_aload_n eX7_told_0 rfl ?_
  refine j_getR flX7_9 ly27 rfl eX7_told_1 ?_
  exact r_aret rfl eX7_told_4
theorem c_X7_takenPolynomial {g : Gl} {σ : Sg} : Ct g mX7_takenPolynomial [vr g 27] σ (PE (σ 27 1) σ) := by
  refine Ct.of (by decide +kernel) (Nat.le_of_ble_eq_true rfl) ?_
  show jv g _ _ σ [(0, vr g 27)] 0 []
  refine j_aload_n eX7_takenPolynomial_0 rfl ?_
  refine j_getI flX7_15 ly27 rfl eX7_takenPolynomial_1 ?_
  refine r_iret rfl eX7_takenPolynomial_4 ?_
  first | exact ⟨rfl, rfl⟩ | (exfalso; omega)
theorem c_X7_takenBox {g : Gl} {σ : Sg} : Ct g mX7_takenBox [vr g 27] σ (PE (σ 27 2) σ) := by
  refine Ct.of (by decide +kernel) (Nat.le_of_ble_eq_true rfl) ?_
  show jv g _ _ σ [(0, vr g 27)] 0 []
  refine j_aload_n eX7_takenBox_0 rfl ?_
  refine j_getI flX7_19 ly27 rfl eX7_takenBox_1 ?_
  refine r_iret rfl eX7_takenBox_4 ?_
  first | exact ⟨rfl, rfl⟩ | (exfalso; omega)
theorem c_X7_take {g : Gl} {σ : Sg} {p b : Int} : Ct g mX7_take [vr g 27, vi p, vi b] σ (PV (fun σ' => σ' = up (up σ 27 1 p) 27 2 b)) := by
  refine Ct.of (by decide +kernel) (Nat.le_of_ble_eq_true rfl) ?_
  show jv g _ _ σ [(0, vr g 27), (1, vi p), (2, vi b)] 0 []
  refine j_aload_n eX7_take_0 rfl ?_
  refine j_iload_n eX7_take_1 rfl ?_
  refine j_putI fpX7_15 ly27 rfl eX7_take_2 ?_
  refine j_aload_n eX7_take_5 rfl ?_
  refine j_iload_n eX7_take_6 rfl ?_
  refine j_putI fpX7_19 ly27 rfl eX7_take_7 ?_
  refine r_vret rfl eX7_take_10 ?_
  first | exact rfl | (exfalso; omega)
theorem c_X7_hasBox {g : Gl} {σ : Sg} (h : -2147483648 ≤ σ 27 2 ∧ σ 27 2 ≤ 2147483647) (hB : 0 ≤ σ 0 1 ∧ σ 0 1 ≤ 3) : Ct g mX7_hasBox [vr g 27] σ (PB (0 ≤ σ 27 2 ∧ σ 27 2 < σ 0 1) σ) := by
  refine Ct.of (by decide +kernel) (Nat.le_of_ble_eq_true rfl) ?_
  show jv g _ _ σ [(0, vr g 27)] 0 []
  refine j_aload_n eX7_hasBox_0 rfl ?_
  refine j_getR flX7_9 ly27 rfl eX7_hasBox_1 ?_
  refine j_aload_n eX7_hasBox_4 rfl ?_
  refine j_getI flX7_19 ly27 rfl eX7_hasBox_5 ?_
  refine j_cV1 zX10_hasBox lkX7_22 ⟨Nat.le_of_ble_eq_true rfl, Nat.le_of_ble_eq_true rfl⟩ ly0 rfl rfl (c_X10_hasBox_0 (by omega) (by omega)) (Nat.le_of_ble_eq_true rfl) eX7_hasBox_8 (k_B (fun h8 => ?_) (fun h8 => ?_))
  · exact r_zret (by decide) rfl eX7_hasBox_11 (PB_t (by first | omega | assumption))
  · exact r_zret (by decide) rfl eX7_hasBox_11 (PB_f (by first | omega | assumption))
theorem c_X7_isThere {g : Gl} {σ : Sg} (h : -2147483648 ≤ σ 27 1 ∧ σ 27 1 ≤ 2147483647 ∧ -2147483648 ≤ σ 27 2 ∧ σ 27 2 ≤ 2147483647) (hP : 0 ≤ σ 0 0 ∧ σ 0 0 ≤ 3) (hB : 0 ≤ σ 0 1 ∧ σ 0 1 ≤ 3) : Ct g mX7_isThere [vr g 27] σ (PB ((0 ≤ σ 27 1 ∧ σ 27 1 < σ 0 0) ∧ 0 ≤ σ 27 2 ∧ σ 27 2 < σ 0 1) σ) := by
  refine Ct.of (by decide +kernel) (Nat.le_of_ble_eq_true rfl) ?_
  show jv g _ _ σ [(0, vr g 27)] 0 []
  refine j_aload_n eX7_isThere_0 rfl ?_
  refine j_getR flX7_9 ly27 rfl eX7_isThere_1 ?_
  refine j_aload_n eX7_isThere_4 rfl ?_
  refine j_getI flX7_15 ly27 rfl eX7_isThere_5 ?_
  refine j_cV1 zX10_hasPolynomial lkX7_28 ⟨Nat.le_of_ble_eq_true rfl, Nat.le_of_ble_eq_true rfl⟩ ly0 rfl rfl (c_X10_hasPolynomial_0 (by omega) (by omega)) (Nat.le_of_ble_eq_true rfl) eX7_isThere_8 (k_B (fun h8 => ?_) (fun h8 => ?_))
  · refine j_ifeq_1 eX7_isThere_11 ?_
    refine j_aload_n eX7_isThere_14 rfl ?_
    refine j_cV0 zX7_hasBox lkX7_31 ⟨Nat.le_of_ble_eq_true rfl, Nat.le_of_ble_eq_true rfl⟩ ly27 rfl rfl (c_X7_hasBox (by omega) (by omega)) (Nat.le_of_ble_eq_true rfl) eX7_isThere_15 (k_B (fun h15 => ?_) (fun h15 => ?_))
    · refine j_ifeq_1 eX7_isThere_18 ?_
      refine j_iconst 1 eX7_isThere_21 ?_
      refine j_goto eX7_isThere_22 ?_
      exact r_zret (by decide) rfl eX7_isThere_26 (PB_t (by omega))
    · refine j_ifeq_0 eX7_isThere_18 ?_
      refine j_iconst 0 eX7_isThere_25 ?_
      exact r_zret (by decide) rfl eX7_isThere_26 (PB_f (by omega))
  · refine j_ifeq_0 eX7_isThere_11 ?_
    refine j_iconst 0 eX7_isThere_25 ?_
    exact r_zret (by decide) rfl eX7_isThere_26 (PB_f (by omega))
end
section
/-! pure words -/
def sgn (x : Int) : Int := if x = 0 then 0 else if 0 < x then 1 else -1
def hv : Nat → Int → Int → Int
  | 0, _, s => s
  | t + 1, m, s => if m ≤ 1 then s else hv t (Int.tdiv m 2) (Int.tdiv s 2)
/-- how many 64ths a node has -/
def pz (a : Int) : Int := hv 7 a 64
def bh : Nat → Int → Int
  | 0, m => if m ≤ 0 then 0 else m + 1
  | t + 1, m => if m ≤ 0 then 0 else if Int.tmod m 2 = 1 then bh t (Int.tdiv m 2) else m + 1
/-- the node behind one -/
def bhd (a : Int) : Int := bh 8 a
def push5 (τ : Sg) (kd wh k o o2 : Int) : Sg := up (up (up (up (up (up τ 29 (τ 28 1 * 5) kd) 29 (τ 28 1 * 5 + 1) wh) 29 (τ 28 1 * 5 + 2) k) 29 (τ 28 1 * 5 + 3) o) 29 (τ 28 1 * 5 + 4) o2) 28 1 (τ 28 1 + 1)
def pushC (σ : Sg) (kd wh k o o2 : Int) : Sg := if σ 28 1 < 10 then push5 σ kd wh k o o2 else push5 (cpy (up σ 28 1 9) 29 5 29 0 45) kd wh k o o2
def popC (σ : Sg) : Sg := if σ 29 ((σ 28 1 - 1) * 5) = 0 then up (up σ 28 1 (σ 28 1 - 1)) 2 (σ 29 ((σ 28 1 - 1) * 5 + 1) * 6 + σ 29 ((σ 28 1 - 1) * 5 + 2)) (σ 29 ((σ 28 1 - 1) * 5 + 3)) else if σ 29 ((σ 28 1 - 1) * 5) = 1 then up (up (up σ 28 1 (σ 28 1 - 1)) 4 (σ 29 ((σ 28 1 - 1) * 5 + 1)) (σ 29 ((σ 28 1 - 1) * 5 + 3))) 5 (σ 29 ((σ 28 1 - 1) * 5 + 1)) (σ 29 ((σ 28 1 - 1) * 5 + 4)) else up (up σ 28 1 (σ 28 1 - 1)) 3 (σ 29 ((σ 28 1 - 1) * 5 + 1)) (σ 29 ((σ 28 1 - 1) * 5 + 3))
def UE (σ : Sg) (a : Int) : Prop := (σ 29 a = 0 ∧ (0 ≤ σ 29 (a + 1) ∧ σ 29 (a + 1) < σ 0 0) ∧ 0 ≤ σ 29 (a + 2) ∧ σ 29 (a + 2) < σ 1 (σ 29 (a + 1))) ∨ (σ 29 a = 1 ∧ 0 ≤ σ 29 (a + 1) ∧ σ 29 (a + 1) < σ 0 1) ∨ (σ 29 a = 2 ∧ 0 ≤ σ 29 (a + 1) ∧ σ 29 (a + 1) < σ 0 0)
def Bec (σ σ' : Sg) (d s : Nat) : Prop := (∀ k, (k < d ∨ d + 5 < k) → σ' k = σ k) ∧ σ' d 0 = σ s 0 ∧ σ' d 1 = σ s 1 ∧ (∀ j, 0 ≤ j → j < 3 → σ' (d + 1) j = σ (s + 1) j) ∧ (∀ j, 0 ≤ j → j < 18 → σ' (d + 2) j = σ (s + 2) j) ∧ (∀ j, 0 ≤ j → j < 3 → σ' (d + 3) j = σ (s + 3) j) ∧ (∀ j, 0 ≤ j → j < 3 → σ' (d + 4) j = σ (s + 4) j) ∧ (∀ j, 0 ≤ j → j < 3 → σ' (d + 5) j = σ (s + 5) j)
theorem cp1_all {f h : Int → Int} {n j : Int} (h0 : 0 ≤ j) (h1 : j < n) : cp1 f h 0 0 n j = f j := by
  unfold cp1
  rw [if_pos (by omega), show 0 + (j - 0) = j from by omega]
/-- the greatest common divisor, as Euclid goes -/
theorem gcd_step {a b : Int} (ha : 0 ≤ a) (hb : 0 < b) : Int.gcd b (Int.tmod a b) = Int.gcd a b := by
  rw [Int.tmod_eq_emod_of_nonneg ha]
  have h := Int.gcd_add_mul_left_right b (a % b) (a / b)
  rw [Int.emod_add_mul_ediv] at h
  rw [← h, Int.gcd_comm]
theorem tmod_le_half {a b : Int} (ha : 0 ≤ a) (hb : 0 < b) : 0 ≤ Int.tmod a b ∧ Int.tmod a b < b := by
  rw [Int.tmod_eq_emod_of_nonneg ha]
  exact ⟨Int.emod_nonneg _ (by omega), Int.emod_lt_of_pos _ hb⟩
theorem eu_step {x z : Int} {t : Nat} (hz : 0 < z) (hx : z ≤ x) (h : x * z < 2 ^ (t + 1)) : z * Int.tmod x z < 2 ^ t := by
  have r := tmod_le_half (a := x) (b := z) (by omega) hz
  rw [Int.tmod_eq_emod_of_nonneg (by omega)] at r ⊢
  have e := Int.mul_ediv_add_emod x z
  have q : 1 ≤ x / z := (Int.le_ediv_iff_mul_le hz).mpr (by omega)
  have q2 : z * 1 ≤ z * (x / z) := Int.mul_le_mul_of_nonneg_left q (by omega)
  have k : 2 * (x % z) < x := by omega
  have k2 := Int.mul_lt_mul_of_pos_left k hz
  rw [show z * (2 * (x % z)) = 2 * (z * (x % z)) from Int.mul_left_comm _ _ _, Int.mul_comm z x] at k2
  have p : (2 : Int) ^ (t + 1) = 2 ^ t * 2 := Int.pow_succ 2 t
  omega
theorem eu_zero {x z : Int} (h0 : 0 ≤ z) (hx : z ≤ x) (h : x * z < 2 ^ 0) : z = 0 := by
  have p : (2 : Int) ^ 0 = 1 := rfl
  by_cases hz : z = 0
  · exact hz
  · have := Int.mul_pos (show 0 < x by omega) (show 0 < z by omega)
    omega
theorem eu_first {a b : Int} (ha : 0 ≤ a) (hb : 0 < b) (h : b < 281474976710656) : b * Int.tmod a b < 2 ^ 99 := by
  have r := tmod_le_half ha hb
  have k : b * Int.tmod a b ≤ b * 281474976710656 := Int.mul_le_mul_of_nonneg_left (by omega) (by omega)
  have p : (2 : Int) ^ 99 = 633825300114114700748351602688 := by decide
  omega
theorem c_X1_size {g : Gl} {σ : Sg} : Ct g mX1_size [vr g 28] σ (PE (σ 28 1) σ) := by
  refine Ct.of (by decide +kernel) (Nat.le_of_ble_eq_true rfl) ?_
  show jv g _ _ σ [(0, vr g 28)] 0 []
  refine j_aload_n eX1_size_0 rfl ?_
  refine j_getI flX1_15 ly28 rfl eX1_size_1 ?_
  refine r_iret rfl eX1_size_4 ?_
  first | exact ⟨rfl, rfl⟩ | (exfalso; omega)
theorem c_X1_empty {g : Gl} {σ : Sg} : Ct g mX1_empty [vr g 28] σ (PV (fun σ' => σ' = up σ 28 1 0)) := by
  refine Ct.of (by decide +kernel) (Nat.le_of_ble_eq_true rfl) ?_
  show jv g _ _ σ [(0, vr g 28)] 0 []
  refine j_aload_n eX1_empty_0 rfl ?_
  refine j_iconst 0 eX1_empty_1 ?_
  refine j_putI fpX1_15 ly28 rfl eX1_empty_2 ?_
  refine r_vret rfl eX1_empty_5 ?_
  first | exact rfl | (exfalso; omega)
theorem c_X1_remember {g : Gl} {σ : Sg} {kd wh ki od oe : Int} (hC : 0 ≤ σ 28 1 ∧ σ 28 1 ≤ 10) : Ct g mX1_remember [vr g 28, vi kd, vi wh, vi ki, vi od, vi oe] σ (PV (fun σ' => σ' = pushC σ kd wh ki od oe)) := by
  refine Ct.of (by decide +kernel) (Nat.le_of_ble_eq_true rfl) ?_
  show jv g _ _ σ [(0, vr g 28), (1, vi kd), (2, vi wh), (3, vi ki), (4, vi od), (5, vi oe)] 0 []
  refine j_aload_n eX1_remember_0 rfl ?_
  refine j_getI flX1_15 ly28 rfl eX1_remember_1 ?_
  refine j_bipush 10 eX1_remember_4 (by decide) ?_
  refine j_icmp_lt eX1_remember_6 (by omega) (fun h6 => ?_) (fun h6 => ?_)
  · try have e8 : (cpy (up σ 28 1 9) 29 5 29 0 (up σ 28 1 9 28 1 * 5)) 28 1 = 9 := rfl
    refine j_aload_n eX1_remember_34 rfl ?_
    refine j_getI flX1_15 ly28 rfl eX1_remember_35 ?_
    refine j_iconst 5 eX1_remember_38 ?_
    refine j_imul eX1_remember_39 ?_
    refine j_istore eX1_remember_40 (Nat.le_of_ble_eq_true rfl) ?_
    refine j_iload eX1_remember_42 rfl ?_
    refine j_if_lt eX1_remember_44 (by omega) (fun h44 => ?_) (fun h44 => ?_)
    · refine r_vret rfl eX1_remember_59 ?_
      exfalso
      omega
    · refine j_iload eX1_remember_47 rfl ?_
      refine j_iconst 5 eX1_remember_49 ?_
      refine j_iadd eX1_remember_50 ?_
      refine j_aload_n eX1_remember_51 rfl ?_
      refine j_getR flX1_11 ly28 rfl eX1_remember_52 ?_
      refine j_alen (by decide) ly29 eX1_remember_55 ?_
      refine j_icmp_le eX1_remember_56 (by omega) (fun h56 => ?_) (fun h56 => ?_)
      · refine j_aload_n eX1_remember_60 rfl ?_
        refine j_getR flX1_11 ly28 rfl eX1_remember_61 ?_
        refine j_iload eX1_remember_64 rfl ?_
        refine j_iload_n eX1_remember_66 rfl ?_
        refine j_iast ly29 (by omega) eX1_remember_67 ?_
        refine j_aload_n eX1_remember_68 rfl ?_
        refine j_getR flX1_11 ly28 rfl eX1_remember_69 ?_
        refine j_iload eX1_remember_72 rfl ?_
        refine j_iconst 1 eX1_remember_74 ?_
        refine j_iadd eX1_remember_75 ?_
        refine j_iload_n eX1_remember_76 rfl ?_
        refine j_iast ly29 (by omega) eX1_remember_77 ?_
        refine j_aload_n eX1_remember_78 rfl ?_
        refine j_getR flX1_11 ly28 rfl eX1_remember_79 ?_
        refine j_iload eX1_remember_82 rfl ?_
        refine j_iconst 2 eX1_remember_84 ?_
        refine j_iadd eX1_remember_85 ?_
        refine j_iload_n eX1_remember_86 rfl ?_
        refine j_iast ly29 (by omega) eX1_remember_87 ?_
        refine j_aload_n eX1_remember_88 rfl ?_
        refine j_getR flX1_11 ly28 rfl eX1_remember_89 ?_
        refine j_iload eX1_remember_92 rfl ?_
        refine j_iconst 3 eX1_remember_94 ?_
        refine j_iadd eX1_remember_95 ?_
        refine j_iload eX1_remember_96 rfl ?_
        refine j_iast ly29 (by omega) eX1_remember_98 ?_
        refine j_aload_n eX1_remember_99 rfl ?_
        refine j_getR flX1_11 ly28 rfl eX1_remember_100 ?_
        refine j_iload eX1_remember_103 rfl ?_
        refine j_iconst 4 eX1_remember_105 ?_
        refine j_iadd eX1_remember_106 ?_
        refine j_iload eX1_remember_107 rfl ?_
        refine j_iast ly29 (by omega) eX1_remember_109 ?_
        refine j_aload_n eX1_remember_110 rfl ?_
        refine j_dup rfl eX1_remember_111 ?_
        refine j_getI flX1_15 ly28 rfl eX1_remember_112 ?_
        refine j_iconst 1 eX1_remember_115 ?_
        refine j_iadd eX1_remember_116 ?_
        refine j_putI fpX1_15 ly28 rfl eX1_remember_117 ?_
        refine r_vret rfl eX1_remember_120 ?_
        show _ = pushC σ kd wh ki od oe
        unfold pushC
        first | (rw [if_pos (by omega)]; rfl) | (rw [if_neg (by omega)]; rfl)
      · refine r_vret rfl eX1_remember_59 ?_
        exfalso
        omega
  · refine j_aload_n eX1_remember_9 rfl ?_
    refine j_bipush 9 eX1_remember_10 (by decide) ?_
    refine j_putI fpX1_15 ly28 rfl eX1_remember_12 ?_
    have e9 : (up σ 28 1 9) 28 1 = 9 := rfl
    refine j_aload_n eX1_remember_15 rfl ?_
    refine j_getR flX1_11 ly28 rfl eX1_remember_16 ?_
    refine j_iconst 5 eX1_remember_19 ?_
    refine j_aload_n eX1_remember_20 rfl ?_
    refine j_getR flX1_11 ly28 rfl eX1_remember_21 ?_
    refine j_iconst 0 eX1_remember_24 ?_
    refine j_aload_n eX1_remember_25 rfl ?_
    refine j_getI flX1_15 ly28 rfl eX1_remember_26 ?_
    refine j_iconst 5 eX1_remember_29 ?_
    refine j_imul eX1_remember_30 ?_
    refine j_copyI ly29 ly29 (by omega) lkX1_39 (Nat.le_of_ble_eq_true rfl) (Nat.le_of_ble_eq_true rfl) eX1_remember_31 ?_
    try have e8 : (cpy (up σ 28 1 9) 29 5 29 0 (up σ 28 1 9 28 1 * 5)) 28 1 = 9 := rfl
    refine j_aload_n eX1_remember_34 rfl ?_
    refine j_getI flX1_15 ly28 rfl eX1_remember_35 ?_
    refine j_iconst 5 eX1_remember_38 ?_
    refine j_imul eX1_remember_39 ?_
    refine j_istore eX1_remember_40 (Nat.le_of_ble_eq_true rfl) ?_
    refine j_iload eX1_remember_42 rfl ?_
    refine j_if_lt eX1_remember_44 (by omega) (fun h44 => ?_) (fun h44 => ?_)
    · refine r_vret rfl eX1_remember_59 ?_
      exfalso
      omega
    · refine j_iload eX1_remember_47 rfl ?_
      refine j_iconst 5 eX1_remember_49 ?_
      refine j_iadd eX1_remember_50 ?_
      refine j_aload_n eX1_remember_51 rfl ?_
      refine j_getR flX1_11 ly28 rfl eX1_remember_52 ?_
      refine j_alen (by decide) ly29 eX1_remember_55 ?_
      refine j_icmp_le eX1_remember_56 (by omega) (fun h56 => ?_) (fun h56 => ?_)
      · refine j_aload_n eX1_remember_60 rfl ?_
        refine j_getR flX1_11 ly28 rfl eX1_remember_61 ?_
        refine j_iload eX1_remember_64 rfl ?_
        refine j_iload_n eX1_remember_66 rfl ?_
        refine j_iast ly29 (by omega) eX1_remember_67 ?_
        refine j_aload_n eX1_remember_68 rfl ?_
        refine j_getR flX1_11 ly28 rfl eX1_remember_69 ?_
        refine j_iload eX1_remember_72 rfl ?_
        refine j_iconst 1 eX1_remember_74 ?_
        refine j_iadd eX1_remember_75 ?_
        refine j_iload_n eX1_remember_76 rfl ?_
        refine j_iast ly29 (by omega) eX1_remember_77 ?_
        refine j_aload_n eX1_remember_78 rfl ?_
        refine j_getR flX1_11 ly28 rfl eX1_remember_79 ?_
        refine j_iload eX1_remember_82 rfl ?_
        refine j_iconst 2 eX1_remember_84 ?_
        refine j_iadd eX1_remember_85 ?_
        refine j_iload_n eX1_remember_86 rfl ?_
        refine j_iast ly29 (by omega) eX1_remember_87 ?_
        refine j_aload_n eX1_remember_88 rfl ?_
        refine j_getR flX1_11 ly28 rfl eX1_remember_89 ?_
        refine j_iload eX1_remember_92 rfl ?_
        refine j_iconst 3 eX1_remember_94 ?_
        refine j_iadd eX1_remember_95 ?_
        refine j_iload eX1_remember_96 rfl ?_
        refine j_iast ly29 (by omega) eX1_remember_98 ?_
        refine j_aload_n eX1_remember_99 rfl ?_
        refine j_getR flX1_11 ly28 rfl eX1_remember_100 ?_
        refine j_iload eX1_remember_103 rfl ?_
        refine j_iconst 4 eX1_remember_105 ?_
        refine j_iadd eX1_remember_106 ?_
        refine j_iload eX1_remember_107 rfl ?_
        refine j_iast ly29 (by omega) eX1_remember_109 ?_
        refine j_aload_n eX1_remember_110 rfl ?_
        refine j_dup rfl eX1_remember_111 ?_
        refine j_getI flX1_15 ly28 rfl eX1_remember_112 ?_
        refine j_iconst 1 eX1_remember_115 ?_
        refine j_iadd eX1_remember_116 ?_
        refine j_putI fpX1_15 ly28 rfl eX1_remember_117 ?_
        refine r_vret rfl eX1_remember_120 ?_
        show _ = pushC σ kd wh ki od oe
        unfold pushC
        first | (rw [if_pos (by omega)]; rfl) | (rw [if_neg (by omega)]; rfl)
      · refine r_vret rfl eX1_remember_59 ?_
        exfalso
        omega
theorem c_X1_rememberCoefficient {g : Gl} {σ : Sg} {p k : Int} (hC : 0 ≤ σ 28 1 ∧ σ 28 1 ≤ 10) (vp : 0 ≤ p ∧ p < σ 0 0) (vk : 0 ≤ k ∧ k < σ 1 p) (hP : 0 ≤ σ 0 0 ∧ σ 0 0 ≤ 3) (hS : ∀ p, 0 ≤ p → p < σ 0 0 → 1 ≤ σ 1 p ∧ σ 1 p ≤ 6) : Ct g mX1_rememberCoefficient [vr g 28, vr g 0, vi p, vi k] σ (PV (fun σ' => σ' = pushC σ 0 p k (σ 2 (p * 6 + k)) 0)) := by
  refine Ct.of (by decide +kernel) (Nat.le_of_ble_eq_true rfl) ?_
  show jv g _ _ σ [(0, vr g 28), (1, vr g 0), (2, vi p), (3, vi k)] 0 []
  refine j_aload_n eX1_rememberCoefficient_0 rfl ?_
  refine j_iconst 0 eX1_rememberCoefficient_1 ?_
  refine j_iload_n eX1_rememberCoefficient_2 rfl ?_
  refine j_iload_n eX1_rememberCoefficient_3 rfl ?_
  refine j_aload_n eX1_rememberCoefficient_4 rfl ?_
  refine j_iload_n eX1_rememberCoefficient_5 rfl ?_
  refine j_iload_n eX1_rememberCoefficient_6 rfl ?_
  refine j_cV2 zX10_coefficient lkX1_19 ⟨Nat.le_of_ble_eq_true rfl, Nat.le_of_ble_eq_true rfl⟩ ly0 rfl rfl (c_X10_coefficient_0 vp vk hP hS) (Nat.le_of_ble_eq_true rfl) eX1_rememberCoefficient_7 (k_E ?_)
  refine j_iconst 0 eX1_rememberCoefficient_10 ?_
  refine j_cV5 zX1_remember lkX1_25 ⟨Nat.le_of_ble_eq_true rfl, Nat.le_of_ble_eq_true rfl⟩ ly28 rfl rfl (c_X1_remember (by omega)) (Nat.le_of_ble_eq_true rfl) eX1_rememberCoefficient_11 (k_VE ?_)
  refine r_vret rfl eX1_rememberCoefficient_14 ?_
  first | exact rfl | (exfalso; omega)
theorem c_X1_rememberBox {g : Gl} {σ : Sg} {b : Int} (hC : 0 ≤ σ 28 1 ∧ σ 28 1 ≤ 10) (vb : 0 ≤ b ∧ b < σ 0 1) (hB : 0 ≤ σ 0 1 ∧ σ 0 1 ≤ 3) : Ct g mX1_rememberBox [vr g 28, vr g 0, vi b] σ (PV (fun σ' => σ' = pushC σ 1 b 0 (σ 4 b) (σ 5 b))) := by
  refine Ct.of (by decide +kernel) (Nat.le_of_ble_eq_true rfl) ?_
  show jv g _ _ σ [(0, vr g 28), (1, vr g 0), (2, vi b)] 0 []
  refine j_aload_n eX1_rememberBox_0 rfl ?_
  refine j_iconst 1 eX1_rememberBox_1 ?_
  refine j_iload_n eX1_rememberBox_2 rfl ?_
  refine j_iconst 0 eX1_rememberBox_3 ?_
  refine j_aload_n eX1_rememberBox_4 rfl ?_
  refine j_iload_n eX1_rememberBox_5 rfl ?_
  refine j_cV1 zX10_lower lkX1_29 ⟨Nat.le_of_ble_eq_true rfl, Nat.le_of_ble_eq_true rfl⟩ ly0 rfl rfl (c_X10_lower_0 (by omega) (by omega)) (Nat.le_of_ble_eq_true rfl) eX1_rememberBox_6 (k_E ?_)
  refine j_aload_n eX1_rememberBox_9 rfl ?_
  refine j_iload_n eX1_rememberBox_10 rfl ?_
  refine j_cV1 zX10_upper lkX1_33 ⟨Nat.le_of_ble_eq_true rfl, Nat.le_of_ble_eq_true rfl⟩ ly0 rfl rfl (c_X10_upper_0 (by omega) (by omega)) (Nat.le_of_ble_eq_true rfl) eX1_rememberBox_11 (k_E ?_)
  refine j_cV5 zX1_remember lkX1_25 ⟨Nat.le_of_ble_eq_true rfl, Nat.le_of_ble_eq_true rfl⟩ ly28 rfl rfl (c_X1_remember (by omega)) (Nat.le_of_ble_eq_true rfl) eX1_rememberBox_14 (k_VE ?_)
  refine r_vret rfl eX1_rememberBox_17 ?_
  first | exact rfl | (exfalso; omega)
theorem c_X1_rememberWish {g : Gl} {σ : Sg} {p : Int} (hC : 0 ≤ σ 28 1 ∧ σ 28 1 ≤ 10) (vp : 0 ≤ p ∧ p < σ 0 0) (hP : 0 ≤ σ 0 0 ∧ σ 0 0 ≤ 3) : Ct g mX1_rememberWish [vr g 28, vr g 0, vi p] σ (PV (fun σ' => σ' = pushC σ 2 p 0 (σ 3 p) 0)) := by
  refine Ct.of (by decide +kernel) (Nat.le_of_ble_eq_true rfl) ?_
  show jv g _ _ σ [(0, vr g 28), (1, vr g 0), (2, vi p)] 0 []
  refine j_aload_n eX1_rememberWish_0 rfl ?_
  refine j_iconst 2 eX1_rememberWish_1 ?_
  refine j_iload_n eX1_rememberWish_2 rfl ?_
  refine j_iconst 0 eX1_rememberWish_3 ?_
  refine j_aload_n eX1_rememberWish_4 rfl ?_
  refine j_iload_n eX1_rememberWish_5 rfl ?_
  refine j_cV1 zX10_wanted lkX1_36 ⟨Nat.le_of_ble_eq_true rfl, Nat.le_of_ble_eq_true rfl⟩ ly0 rfl rfl (c_X10_wanted_0 (by omega) (by omega)) (Nat.le_of_ble_eq_true rfl) eX1_rememberWish_6 (k_E ?_)
  refine j_iconst 0 eX1_rememberWish_9 ?_
  refine j_cV5 zX1_remember lkX1_25 ⟨Nat.le_of_ble_eq_true rfl, Nat.le_of_ble_eq_true rfl⟩ ly28 rfl rfl (c_X1_remember (by omega)) (Nat.le_of_ble_eq_true rfl) eX1_rememberWish_10 (k_VE ?_)
  refine r_vret rfl eX1_rememberWish_13 ?_
  first | exact rfl | (exfalso; omega)
theorem c_X1_takeBack {g : Gl} {σ : Sg} (hC : 1 ≤ σ 28 1 ∧ σ 28 1 ≤ 10) (hE : UE σ ((σ 28 1 - 1) * 5)) (hP : 0 ≤ σ 0 0 ∧ σ 0 0 ≤ 3) (hB : 0 ≤ σ 0 1 ∧ σ 0 1 ≤ 3) (hS : ∀ p, 0 ≤ p → p < σ 0 0 → 1 ≤ σ 1 p ∧ σ 1 p ≤ 6) : Ct g mX1_takeBack [vr g 28, vr g 0] σ (PV (fun σ' => σ' = popC σ)) := by
  refine Ct.of (by decide +kernel) (Nat.le_of_ble_eq_true rfl) ?_
  show jv g _ _ σ [(0, vr g 28), (1, vr g 0)] 0 []
  refine j_aload_n eX1_takeBack_0 rfl ?_
  refine j_getI flX1_15 ly28 rfl eX1_takeBack_1 ?_
  refine j_iconst 1 eX1_takeBack_4 ?_
  refine j_isub eX1_takeBack_5 ?_
  refine j_iconst 5 eX1_takeBack_6 ?_
  refine j_imul eX1_takeBack_7 ?_
  refine j_istore_n eX1_takeBack_8 (Nat.le_of_ble_eq_true rfl) ?_
  refine j_iload_n eX1_takeBack_9 rfl ?_
  refine j_if_lt eX1_takeBack_10 (by omega) (fun h10 => ?_) (fun h10 => ?_)
  · refine r_vret rfl eX1_takeBack_24 ?_
    exfalso
    omega
  · refine j_iload_n eX1_takeBack_13 rfl ?_
    refine j_iconst 5 eX1_takeBack_14 ?_
    refine j_iadd eX1_takeBack_15 ?_
    refine j_aload_n eX1_takeBack_16 rfl ?_
    refine j_getR flX1_11 ly28 rfl eX1_takeBack_17 ?_
    refine j_alen (by decide) ly29 eX1_takeBack_20 ?_
    refine j_icmp_le eX1_takeBack_21 (by omega) (fun h21 => ?_) (fun h21 => ?_)
    · refine j_aload_n eX1_takeBack_25 rfl ?_
      refine j_dup rfl eX1_takeBack_26 ?_
      refine j_getI flX1_15 ly28 rfl eX1_takeBack_27 ?_
      refine j_iconst 1 eX1_takeBack_30 ?_
      refine j_isub eX1_takeBack_31 ?_
      refine j_putI fpX1_15 ly28 rfl eX1_takeBack_32 ?_
      have f0 : ∀ j, (up σ 28 1 (σ 28 1 - 1)) 29 j = σ 29 j := fun _ => rfl
      unfold UE at hE
      refine j_aload_n eX1_takeBack_35 rfl ?_
      refine j_getR flX1_11 ly28 rfl eX1_takeBack_36 ?_
      refine j_iload_n eX1_takeBack_39 rfl ?_
      refine j_iconst 1 eX1_takeBack_40 ?_
      refine j_iadd eX1_takeBack_41 ?_
      refine j_iald ly29 (by omega) eX1_takeBack_42 ?_
      refine j_istore_n eX1_takeBack_43 (Nat.le_of_ble_eq_true rfl) ?_
      refine j_aload_n eX1_takeBack_44 rfl ?_
      refine j_getR flX1_11 ly28 rfl eX1_takeBack_45 ?_
      refine j_iload_n eX1_takeBack_48 rfl ?_
      refine j_iald ly29 (by omega) eX1_takeBack_49 ?_
      have f1 := f0 ((σ 28 1 - 1) * 5)
      refine j_if_ne eX1_takeBack_50 (by omega) (fun h50 => ?_) (fun h50 => ?_)
      · refine j_aload_n eX1_takeBack_77 rfl ?_
        refine j_getR flX1_11 ly28 rfl eX1_takeBack_78 ?_
        refine j_iload_n eX1_takeBack_81 rfl ?_
        refine j_iald ly29 (by omega) eX1_takeBack_82 ?_
        refine j_iconst 1 eX1_takeBack_83 ?_
        have f2 := f0 ((σ 28 1 - 1) * 5)
        refine j_icmp_ne eX1_takeBack_84 (by omega) (fun h84 => ?_) (fun h84 => ?_)
        · refine j_aload_n eX1_takeBack_111 rfl ?_
          refine j_iload_n eX1_takeBack_112 rfl ?_
          refine j_aload_n eX1_takeBack_113 rfl ?_
          refine j_getR flX1_11 ly28 rfl eX1_takeBack_114 ?_
          refine j_iload_n eX1_takeBack_117 rfl ?_
          refine j_iconst 3 eX1_takeBack_118 ?_
          refine j_iadd eX1_takeBack_119 ?_
          refine j_iald ly29 (by omega) eX1_takeBack_120 ?_
          refine j_cV2 zX10_want lkX1_52 ⟨Nat.le_of_ble_eq_true rfl, Nat.le_of_ble_eq_true rfl⟩ ly0 rfl rfl (c_X10_want_0 (by exact (show 0 ≤ σ 29 ((σ 28 1 - 1) * 5 + 1) ∧ σ 29 ((σ 28 1 - 1) * 5 + 1) < σ 0 0 by omega)) (by exact hP)) (Nat.le_of_ble_eq_true rfl) eX1_takeBack_121 (k_VE ?_)
          refine r_vret rfl eX1_takeBack_124 ?_
          show _ = popC σ
          unfold popC
          first | (rw [if_pos (by omega)]; rfl) | (rw [if_neg (by omega), if_pos (by omega)]; rfl) | (rw [if_neg (by omega), if_neg (by omega)]; rfl)
        · refine j_aload_n eX1_takeBack_87 rfl ?_
          refine j_iload_n eX1_takeBack_88 rfl ?_
          refine j_aload_n eX1_takeBack_89 rfl ?_
          refine j_getR flX1_11 ly28 rfl eX1_takeBack_90 ?_
          refine j_iload_n eX1_takeBack_93 rfl ?_
          refine j_iconst 3 eX1_takeBack_94 ?_
          refine j_iadd eX1_takeBack_95 ?_
          refine j_iald ly29 (by omega) eX1_takeBack_96 ?_
          refine j_aload_n eX1_takeBack_97 rfl ?_
          refine j_getR flX1_11 ly28 rfl eX1_takeBack_98 ?_
          refine j_iload_n eX1_takeBack_101 rfl ?_
          refine j_iconst 4 eX1_takeBack_102 ?_
          refine j_iadd eX1_takeBack_103 ?_
          refine j_iald ly29 (by omega) eX1_takeBack_104 ?_
          refine j_cV3 zX10_putBox lkX1_49 ⟨Nat.le_of_ble_eq_true rfl, Nat.le_of_ble_eq_true rfl⟩ ly0 rfl rfl (c_X10_putBox_0 (by exact (show 0 ≤ σ 29 ((σ 28 1 - 1) * 5 + 1) ∧ σ 29 ((σ 28 1 - 1) * 5 + 1) < σ 0 1 by omega)) (by exact hB)) (Nat.le_of_ble_eq_true rfl) eX1_takeBack_105 (k_VE ?_)
          refine j_goto eX1_takeBack_108 ?_
          refine r_vret rfl eX1_takeBack_124 ?_
          show _ = popC σ
          unfold popC
          first | (rw [if_pos (by omega)]; rfl) | (rw [if_neg (by omega), if_pos (by omega)]; rfl) | (rw [if_neg (by omega), if_neg (by omega)]; rfl)
      · refine j_aload_n eX1_takeBack_53 rfl ?_
        refine j_iload_n eX1_takeBack_54 rfl ?_
        refine j_aload_n eX1_takeBack_55 rfl ?_
        refine j_getR flX1_11 ly28 rfl eX1_takeBack_56 ?_
        refine j_iload_n eX1_takeBack_59 rfl ?_
        refine j_iconst 2 eX1_takeBack_60 ?_
        refine j_iadd eX1_takeBack_61 ?_
        refine j_iald ly29 (by omega) eX1_takeBack_62 ?_
        refine j_aload_n eX1_takeBack_63 rfl ?_
        refine j_getR flX1_11 ly28 rfl eX1_takeBack_64 ?_
        refine j_iload_n eX1_takeBack_67 rfl ?_
        refine j_iconst 3 eX1_takeBack_68 ?_
        refine j_iadd eX1_takeBack_69 ?_
        refine j_iald ly29 (by omega) eX1_takeBack_70 ?_
        refine j_cV3 zX10_putCoefficient lkX1_45 ⟨Nat.le_of_ble_eq_true rfl, Nat.le_of_ble_eq_true rfl⟩ ly0 rfl rfl (c_X10_putCoefficient_0 (by first | exact (show 0 ≤ σ 29 ((σ 28 1 - 1) * 5 + 1) ∧ σ 29 ((σ 28 1 - 1) * 5 + 1) < σ 0 0 by omega)) (by exact (show 0 ≤ σ 29 ((σ 28 1 - 1) * 5 + 2) ∧ σ 29 ((σ 28 1 - 1) * 5 + 2) < σ 1 (σ 29 ((σ 28 1 - 1) * 5 + 1)) by omega)) (by exact hP) (by exact hS)) (Nat.le_of_ble_eq_true rfl) eX1_takeBack_71 (k_VE ?_)
        refine j_goto eX1_takeBack_74 ?_
        refine r_vret rfl eX1_takeBack_124 ?_
        show _ = popC σ
        unfold popC
        first | (rw [if_pos (by omega)]; rfl) | (rw [if_neg (by omega), if_pos (by omega)]; rfl) | (rw [if_neg (by omega), if_neg (by omega)]; rfl)
    · refine r_vret rfl eX1_takeBack_24 ?_
      exfalso
      omega
theorem c_X6_size {g : Gl} {σ : Sg} : Ct g mX6_size [vr g 31] σ (PE (σ 31 2) σ) := by
  refine Ct.of (by decide +kernel) (Nat.le_of_ble_eq_true rfl) ?_
  show jv g _ _ σ [(0, vr g 31)] 0 []
  refine j_aload_n eX6_size_0 rfl ?_
  refine j_getI flX6_18 ly31 rfl eX6_size_1 ?_
  refine r_iret rfl eX6_size_4 ?_
  first | exact ⟨rfl, rfl⟩ | (exfalso; omega)
theorem c_X6_empty {g : Gl} {σ : Sg} : Ct g mX6_empty [vr g 31] σ (PV (fun σ' => σ' = up σ 31 2 0)) := by
  refine Ct.of (by decide +kernel) (Nat.le_of_ble_eq_true rfl) ?_
  show jv g _ _ σ [(0, vr g 31)] 0 []
  refine j_aload_n eX6_empty_0 rfl ?_
  refine j_iconst 0 eX6_empty_1 ?_
  refine j_putI fpX6_18 ly31 rfl eX6_empty_2 ?_
  refine r_vret rfl eX6_empty_5 ?_
  first | exact rfl | (exfalso; omega)
theorem c_X6_isFull {g : Gl} {σ : Sg} (h : 0 ≤ σ 31 2 ∧ σ 31 2 ≤ 6) : Ct g mX6_isFull [vr g 31] σ (PB (6 ≤ σ 31 2) σ) := by
  refine Ct.of (by decide +kernel) (Nat.le_of_ble_eq_true rfl) ?_
  show jv g _ _ σ [(0, vr g 31)] 0 []
  refine j_aload_n eX6_isFull_0 rfl ?_
  refine j_getI flX6_18 ly31 rfl eX6_isFull_1 ?_
  refine j_bipush 6 eX6_isFull_4 (by decide) ?_
  refine j_icmp_lt eX6_isFull_6 (by omega) (fun h6 => ?_) (fun h6 => ?_)
  · refine j_iconst 0 eX6_isFull_13 ?_
    exact r_zret (by decide) rfl eX6_isFull_14 (PB_f (by omega))
  · refine j_iconst 1 eX6_isFull_9 ?_
    refine j_goto eX6_isFull_10 ?_
    exact r_zret (by decide) rfl eX6_isFull_14 (PB_t (by omega))
theorem c_X6_add {g : Gl} {σ : Sg} {a b : Int} (h : 0 ≤ σ 31 2 ∧ σ 31 2 < 6) : Ct g mX6_add [vr g 31, vi a, vi b] σ (PV (fun σ' => σ' = up (up (up σ 32 (σ 31 2) a) 33 (σ 31 2) b) 31 2 (σ 31 2 + 1))) := by
  refine Ct.of (by decide +kernel) (Nat.le_of_ble_eq_true rfl) ?_
  show jv g _ _ σ [(0, vr g 31), (1, vi a), (2, vi b)] 0 []
  refine j_aload_n eX6_add_0 rfl ?_
  refine j_getI flX6_18 ly31 rfl eX6_add_1 ?_
  refine j_if_lt eX6_add_4 (by omega) (fun h4 => ?_) (fun h4 => ?_)
  · refine r_vret rfl eX6_add_46 ?_
    first | exact rfl | (exfalso; omega)
  · refine j_aload_n eX6_add_7 rfl ?_
    refine j_getI flX6_18 ly31 rfl eX6_add_8 ?_
    refine j_bipush 6 eX6_add_11 (by decide) ?_
    refine j_icmp_ge eX6_add_13 (by omega) (fun h13 => ?_) (fun h13 => ?_)
    · refine r_vret rfl eX6_add_46 ?_
      first | exact rfl | (exfalso; omega)
    · refine j_aload_n eX6_add_16 rfl ?_
      refine j_getR flX6_9 ly31 rfl eX6_add_17 ?_
      refine j_aload_n eX6_add_20 rfl ?_
      refine j_getI flX6_18 ly31 rfl eX6_add_21 ?_
      refine j_iload_n eX6_add_24 rfl ?_
      refine j_iast ly32 (by omega) eX6_add_25 ?_
      refine j_aload_n eX6_add_26 rfl ?_
      refine j_getR flX6_15 ly31 rfl eX6_add_27 ?_
      refine j_aload_n eX6_add_30 rfl ?_
      refine j_getI flX6_18 ly31 rfl eX6_add_31 ?_
      refine j_iload_n eX6_add_34 rfl ?_
      refine j_iast ly33 (by exact h) eX6_add_35 ?_
      refine j_aload_n eX6_add_36 rfl ?_
      refine j_dup rfl eX6_add_37 ?_
      refine j_getI flX6_18 ly31 rfl eX6_add_38 ?_
      refine j_iconst 1 eX6_add_41 ?_
      refine j_iadd eX6_add_42 ?_
      refine j_putI fpX6_18 ly31 rfl eX6_add_43 ?_
      refine r_vret rfl eX6_add_46 ?_
      first | exact rfl | (exfalso; omega)
theorem c_X10_become_0_18 {g : Gl} {σ : Sg} : Ct g mX10_become [vr g 0, vr g 18] σ (PV (fun σ' => Bec σ σ' 0 18)) := by
  refine Ct.of (by decide +kernel) (Nat.le_of_ble_eq_true rfl) ?_
  show jv g _ _ σ [(0, vr g 0), (1, vr g 18)] 0 []
  refine j_aload_n eX10_become_0 rfl ?_
  refine j_aload_n eX10_become_1 rfl ?_
  refine j_getI flX10_27 ly18 rfl eX10_become_2 ?_
  refine j_putI fpX10_27 ly0 rfl eX10_become_5 ?_
  refine j_aload_n eX10_become_8 rfl ?_
  refine j_aload_n eX10_become_9 rfl ?_
  refine j_getI flX10_31 ly18 rfl eX10_become_10 ?_
  refine j_putI fpX10_31 ly0 rfl eX10_become_13 ?_
  refine j_aload_n eX10_become_16 rfl ?_
  refine j_getR flX10_9 ly18 rfl eX10_become_17 ?_
  refine j_iconst 0 eX10_become_20 ?_
  refine j_aload_n eX10_become_21 rfl ?_
  refine j_getR flX10_9 ly0 rfl eX10_become_22 ?_
  refine j_iconst 0 eX10_become_25 ?_
  refine j_aload_n eX10_become_26 rfl ?_
  refine j_getR flX10_9 ly0 rfl eX10_become_27 ?_
  refine j_alen (by decide) ly1 eX10_become_30 ?_
  refine j_copyI ly19 ly1 (by decide) lkX10_53 (Nat.le_of_ble_eq_true rfl) (Nat.le_of_ble_eq_true rfl) eX10_become_31 ?_
  refine j_aload_n eX10_become_34 rfl ?_
  refine j_getR flX10_15 ly18 rfl eX10_become_35 ?_
  refine j_iconst 0 eX10_become_38 ?_
  refine j_aload_n eX10_become_39 rfl ?_
  refine j_getR flX10_15 ly0 rfl eX10_become_40 ?_
  refine j_iconst 0 eX10_become_43 ?_
  refine j_aload_n eX10_become_44 rfl ?_
  refine j_getR flX10_15 ly0 rfl eX10_become_45 ?_
  refine j_alen (by decide) ly2 eX10_become_48 ?_
  refine j_copyI ly20 ly2 (by decide) lkX10_53 (Nat.le_of_ble_eq_true rfl) (Nat.le_of_ble_eq_true rfl) eX10_become_49 ?_
  refine j_aload_n eX10_become_52 rfl ?_
  refine j_getR flX10_18 ly18 rfl eX10_become_53 ?_
  refine j_iconst 0 eX10_become_56 ?_
  refine j_aload_n eX10_become_57 rfl ?_
  refine j_getR flX10_18 ly0 rfl eX10_become_58 ?_
  refine j_iconst 0 eX10_become_61 ?_
  refine j_aload_n eX10_become_62 rfl ?_
  refine j_getR flX10_18 ly0 rfl eX10_become_63 ?_
  refine j_alen (by decide) ly3 eX10_become_66 ?_
  refine j_copyI ly21 ly3 (by decide) lkX10_53 (Nat.le_of_ble_eq_true rfl) (Nat.le_of_ble_eq_true rfl) eX10_become_67 ?_
  refine j_aload_n eX10_become_70 rfl ?_
  refine j_getR flX10_21 ly18 rfl eX10_become_71 ?_
  refine j_iconst 0 eX10_become_74 ?_
  refine j_aload_n eX10_become_75 rfl ?_
  refine j_getR flX10_21 ly0 rfl eX10_become_76 ?_
  refine j_iconst 0 eX10_become_79 ?_
  refine j_aload_n eX10_become_80 rfl ?_
  refine j_getR flX10_21 ly0 rfl eX10_become_81 ?_
  refine j_alen (by decide) ly4 eX10_become_84 ?_
  refine j_copyI ly22 ly4 (by decide) lkX10_53 (Nat.le_of_ble_eq_true rfl) (Nat.le_of_ble_eq_true rfl) eX10_become_85 ?_
  refine j_aload_n eX10_become_88 rfl ?_
  refine j_getR flX10_24 ly18 rfl eX10_become_89 ?_
  refine j_iconst 0 eX10_become_92 ?_
  refine j_aload_n eX10_become_93 rfl ?_
  refine j_getR flX10_24 ly0 rfl eX10_become_94 ?_
  refine j_iconst 0 eX10_become_97 ?_
  refine j_aload_n eX10_become_98 rfl ?_
  refine j_getR flX10_24 ly0 rfl eX10_become_99 ?_
  refine j_alen (by decide) ly5 eX10_become_102 ?_
  refine j_copyI ly23 ly5 (by decide) lkX10_53 (Nat.le_of_ble_eq_true rfl) (Nat.le_of_ble_eq_true rfl) eX10_become_103 ?_
  refine r_vret rfl eX10_become_106 ?_
  refine ⟨fun k hk => ?_, rfl, rfl, fun j h0 h1 => ?_, fun j h0 h1 => ?_, fun j h0 h1 => ?_, fun j h0 h1 => ?_, fun j h0 h1 => ?_⟩
  · simp only [cpy, up]
    rw [if_neg (by omega), if_neg (by omega), if_neg (by omega), if_neg (by omega), if_neg (by omega), if_neg (by omega), if_neg (by omega)]
  · exact cp1_all h0 h1
  · exact cp1_all h0 h1
  · exact cp1_all h0 h1
  · exact cp1_all h0 h1
  · exact cp1_all h0 h1
theorem c_X10_become_0_6 {g : Gl} {σ : Sg} : Ct g mX10_become [vr g 0, vr g 6] σ (PV (fun σ' => Bec σ σ' 0 6)) := by
  refine Ct.of (by decide +kernel) (Nat.le_of_ble_eq_true rfl) ?_
  show jv g _ _ σ [(0, vr g 0), (1, vr g 6)] 0 []
  refine j_aload_n eX10_become_0 rfl ?_
  refine j_aload_n eX10_become_1 rfl ?_
  refine j_getI flX10_27 ly6 rfl eX10_become_2 ?_
  refine j_putI fpX10_27 ly0 rfl eX10_become_5 ?_
  refine j_aload_n eX10_become_8 rfl ?_
  refine j_aload_n eX10_become_9 rfl ?_
  refine j_getI flX10_31 ly6 rfl eX10_become_10 ?_
  refine j_putI fpX10_31 ly0 rfl eX10_become_13 ?_
  refine j_aload_n eX10_become_16 rfl ?_
  refine j_getR flX10_9 ly6 rfl eX10_become_17 ?_
  refine j_iconst 0 eX10_become_20 ?_
  refine j_aload_n eX10_become_21 rfl ?_
  refine j_getR flX10_9 ly0 rfl eX10_become_22 ?_
  refine j_iconst 0 eX10_become_25 ?_
  refine j_aload_n eX10_become_26 rfl ?_
  refine j_getR flX10_9 ly0 rfl eX10_become_27 ?_
  refine j_alen (by decide) ly1 eX10_become_30 ?_
  refine j_copyI ly7 ly1 (by decide) lkX10_53 (Nat.le_of_ble_eq_true rfl) (Nat.le_of_ble_eq_true rfl) eX10_become_31 ?_
  refine j_aload_n eX10_become_34 rfl ?_
  refine j_getR flX10_15 ly6 rfl eX10_become_35 ?_
  refine j_iconst 0 eX10_become_38 ?_
  refine j_aload_n eX10_become_39 rfl ?_
  refine j_getR flX10_15 ly0 rfl eX10_become_40 ?_
  refine j_iconst 0 eX10_become_43 ?_
  refine j_aload_n eX10_become_44 rfl ?_
  refine j_getR flX10_15 ly0 rfl eX10_become_45 ?_
  refine j_alen (by decide) ly2 eX10_become_48 ?_
  refine j_copyI ly8 ly2 (by decide) lkX10_53 (Nat.le_of_ble_eq_true rfl) (Nat.le_of_ble_eq_true rfl) eX10_become_49 ?_
  refine j_aload_n eX10_become_52 rfl ?_
  refine j_getR flX10_18 ly6 rfl eX10_become_53 ?_
  refine j_iconst 0 eX10_become_56 ?_
  refine j_aload_n eX10_become_57 rfl ?_
  refine j_getR flX10_18 ly0 rfl eX10_become_58 ?_
  refine j_iconst 0 eX10_become_61 ?_
  refine j_aload_n eX10_become_62 rfl ?_
  refine j_getR flX10_18 ly0 rfl eX10_become_63 ?_
  refine j_alen (by decide) ly3 eX10_become_66 ?_
  refine j_copyI ly9 ly3 (by decide) lkX10_53 (Nat.le_of_ble_eq_true rfl) (Nat.le_of_ble_eq_true rfl) eX10_become_67 ?_
  refine j_aload_n eX10_become_70 rfl ?_
  refine j_getR flX10_21 ly6 rfl eX10_become_71 ?_
  refine j_iconst 0 eX10_become_74 ?_
  refine j_aload_n eX10_become_75 rfl ?_
  refine j_getR flX10_21 ly0 rfl eX10_become_76 ?_
  refine j_iconst 0 eX10_become_79 ?_
  refine j_aload_n eX10_become_80 rfl ?_
  refine j_getR flX10_21 ly0 rfl eX10_become_81 ?_
  refine j_alen (by decide) ly4 eX10_become_84 ?_
  refine j_copyI ly10 ly4 (by decide) lkX10_53 (Nat.le_of_ble_eq_true rfl) (Nat.le_of_ble_eq_true rfl) eX10_become_85 ?_
  refine j_aload_n eX10_become_88 rfl ?_
  refine j_getR flX10_24 ly6 rfl eX10_become_89 ?_
  refine j_iconst 0 eX10_become_92 ?_
  refine j_aload_n eX10_become_93 rfl ?_
  refine j_getR flX10_24 ly0 rfl eX10_become_94 ?_
  refine j_iconst 0 eX10_become_97 ?_
  refine j_aload_n eX10_become_98 rfl ?_
  refine j_getR flX10_24 ly0 rfl eX10_become_99 ?_
  refine j_alen (by decide) ly5 eX10_become_102 ?_
  refine j_copyI ly11 ly5 (by decide) lkX10_53 (Nat.le_of_ble_eq_true rfl) (Nat.le_of_ble_eq_true rfl) eX10_become_103 ?_
  refine r_vret rfl eX10_become_106 ?_
  refine ⟨fun k hk => ?_, rfl, rfl, fun j h0 h1 => ?_, fun j h0 h1 => ?_, fun j h0 h1 => ?_, fun j h0 h1 => ?_, fun j h0 h1 => ?_⟩
  · simp only [cpy, up]
    rw [if_neg (by omega), if_neg (by omega), if_neg (by omega), if_neg (by omega), if_neg (by omega), if_neg (by omega), if_neg (by omega)]
  · exact cp1_all h0 h1
  · exact cp1_all h0 h1
  · exact cp1_all h0 h1
  · exact cp1_all h0 h1
  · exact cp1_all h0 h1
theorem c_X10_become_0_12 {g : Gl} {σ : Sg} : Ct g mX10_become [vr g 0, vr g 12] σ (PV (fun σ' => Bec σ σ' 0 12)) := by
  refine Ct.of (by decide +kernel) (Nat.le_of_ble_eq_true rfl) ?_
  show jv g _ _ σ [(0, vr g 0), (1, vr g 12)] 0 []
  refine j_aload_n eX10_become_0 rfl ?_
  refine j_aload_n eX10_become_1 rfl ?_
  refine j_getI flX10_27 ly12 rfl eX10_become_2 ?_
  refine j_putI fpX10_27 ly0 rfl eX10_become_5 ?_
  refine j_aload_n eX10_become_8 rfl ?_
  refine j_aload_n eX10_become_9 rfl ?_
  refine j_getI flX10_31 ly12 rfl eX10_become_10 ?_
  refine j_putI fpX10_31 ly0 rfl eX10_become_13 ?_
  refine j_aload_n eX10_become_16 rfl ?_
  refine j_getR flX10_9 ly12 rfl eX10_become_17 ?_
  refine j_iconst 0 eX10_become_20 ?_
  refine j_aload_n eX10_become_21 rfl ?_
  refine j_getR flX10_9 ly0 rfl eX10_become_22 ?_
  refine j_iconst 0 eX10_become_25 ?_
  refine j_aload_n eX10_become_26 rfl ?_
  refine j_getR flX10_9 ly0 rfl eX10_become_27 ?_
  refine j_alen (by decide) ly1 eX10_become_30 ?_
  refine j_copyI ly13 ly1 (by decide) lkX10_53 (Nat.le_of_ble_eq_true rfl) (Nat.le_of_ble_eq_true rfl) eX10_become_31 ?_
  refine j_aload_n eX10_become_34 rfl ?_
  refine j_getR flX10_15 ly12 rfl eX10_become_35 ?_
  refine j_iconst 0 eX10_become_38 ?_
  refine j_aload_n eX10_become_39 rfl ?_
  refine j_getR flX10_15 ly0 rfl eX10_become_40 ?_
  refine j_iconst 0 eX10_become_43 ?_
  refine j_aload_n eX10_become_44 rfl ?_
  refine j_getR flX10_15 ly0 rfl eX10_become_45 ?_
  refine j_alen (by decide) ly2 eX10_become_48 ?_
  refine j_copyI ly14 ly2 (by decide) lkX10_53 (Nat.le_of_ble_eq_true rfl) (Nat.le_of_ble_eq_true rfl) eX10_become_49 ?_
  refine j_aload_n eX10_become_52 rfl ?_
  refine j_getR flX10_18 ly12 rfl eX10_become_53 ?_
  refine j_iconst 0 eX10_become_56 ?_
  refine j_aload_n eX10_become_57 rfl ?_
  refine j_getR flX10_18 ly0 rfl eX10_become_58 ?_
  refine j_iconst 0 eX10_become_61 ?_
  refine j_aload_n eX10_become_62 rfl ?_
  refine j_getR flX10_18 ly0 rfl eX10_become_63 ?_
  refine j_alen (by decide) ly3 eX10_become_66 ?_
  refine j_copyI ly15 ly3 (by decide) lkX10_53 (Nat.le_of_ble_eq_true rfl) (Nat.le_of_ble_eq_true rfl) eX10_become_67 ?_
  refine j_aload_n eX10_become_70 rfl ?_
  refine j_getR flX10_21 ly12 rfl eX10_become_71 ?_
  refine j_iconst 0 eX10_become_74 ?_
  refine j_aload_n eX10_become_75 rfl ?_
  refine j_getR flX10_21 ly0 rfl eX10_become_76 ?_
  refine j_iconst 0 eX10_become_79 ?_
  refine j_aload_n eX10_become_80 rfl ?_
  refine j_getR flX10_21 ly0 rfl eX10_become_81 ?_
  refine j_alen (by decide) ly4 eX10_become_84 ?_
  refine j_copyI ly16 ly4 (by decide) lkX10_53 (Nat.le_of_ble_eq_true rfl) (Nat.le_of_ble_eq_true rfl) eX10_become_85 ?_
  refine j_aload_n eX10_become_88 rfl ?_
  refine j_getR flX10_24 ly12 rfl eX10_become_89 ?_
  refine j_iconst 0 eX10_become_92 ?_
  refine j_aload_n eX10_become_93 rfl ?_
  refine j_getR flX10_24 ly0 rfl eX10_become_94 ?_
  refine j_iconst 0 eX10_become_97 ?_
  refine j_aload_n eX10_become_98 rfl ?_
  refine j_getR flX10_24 ly0 rfl eX10_become_99 ?_
  refine j_alen (by decide) ly5 eX10_become_102 ?_
  refine j_copyI ly17 ly5 (by decide) lkX10_53 (Nat.le_of_ble_eq_true rfl) (Nat.le_of_ble_eq_true rfl) eX10_become_103 ?_
  refine r_vret rfl eX10_become_106 ?_
  refine ⟨fun k hk => ?_, rfl, rfl, fun j h0 h1 => ?_, fun j h0 h1 => ?_, fun j h0 h1 => ?_, fun j h0 h1 => ?_, fun j h0 h1 => ?_⟩
  · simp only [cpy, up]
    rw [if_neg (by omega), if_neg (by omega), if_neg (by omega), if_neg (by omega), if_neg (by omega), if_neg (by omega), if_neg (by omega)]
  · exact cp1_all h0 h1
  · exact cp1_all h0 h1
  · exact cp1_all h0 h1
  · exact cp1_all h0 h1
  · exact cp1_all h0 h1
theorem c_X10_become_6_0 {g : Gl} {σ : Sg} : Ct g mX10_become [vr g 6, vr g 0] σ (PV (fun σ' => Bec σ σ' 6 0)) := by
  refine Ct.of (by decide +kernel) (Nat.le_of_ble_eq_true rfl) ?_
  show jv g _ _ σ [(0, vr g 6), (1, vr g 0)] 0 []
  refine j_aload_n eX10_become_0 rfl ?_
  refine j_aload_n eX10_become_1 rfl ?_
  refine j_getI flX10_27 ly0 rfl eX10_become_2 ?_
  refine j_putI fpX10_27 ly6 rfl eX10_become_5 ?_
  refine j_aload_n eX10_become_8 rfl ?_
  refine j_aload_n eX10_become_9 rfl ?_
  refine j_getI flX10_31 ly0 rfl eX10_become_10 ?_
  refine j_putI fpX10_31 ly6 rfl eX10_become_13 ?_
  refine j_aload_n eX10_become_16 rfl ?_
  refine j_getR flX10_9 ly0 rfl eX10_become_17 ?_
  refine j_iconst 0 eX10_become_20 ?_
  refine j_aload_n eX10_become_21 rfl ?_
  refine j_getR flX10_9 ly6 rfl eX10_become_22 ?_
  refine j_iconst 0 eX10_become_25 ?_
  refine j_aload_n eX10_become_26 rfl ?_
  refine j_getR flX10_9 ly6 rfl eX10_become_27 ?_
  refine j_alen (by decide) ly7 eX10_become_30 ?_
  refine j_copyI ly1 ly7 (by decide) lkX10_53 (Nat.le_of_ble_eq_true rfl) (Nat.le_of_ble_eq_true rfl) eX10_become_31 ?_
  refine j_aload_n eX10_become_34 rfl ?_
  refine j_getR flX10_15 ly0 rfl eX10_become_35 ?_
  refine j_iconst 0 eX10_become_38 ?_
  refine j_aload_n eX10_become_39 rfl ?_
  refine j_getR flX10_15 ly6 rfl eX10_become_40 ?_
  refine j_iconst 0 eX10_become_43 ?_
  refine j_aload_n eX10_become_44 rfl ?_
  refine j_getR flX10_15 ly6 rfl eX10_become_45 ?_
  refine j_alen (by decide) ly8 eX10_become_48 ?_
  refine j_copyI ly2 ly8 (by decide) lkX10_53 (Nat.le_of_ble_eq_true rfl) (Nat.le_of_ble_eq_true rfl) eX10_become_49 ?_
  refine j_aload_n eX10_become_52 rfl ?_
  refine j_getR flX10_18 ly0 rfl eX10_become_53 ?_
  refine j_iconst 0 eX10_become_56 ?_
  refine j_aload_n eX10_become_57 rfl ?_
  refine j_getR flX10_18 ly6 rfl eX10_become_58 ?_
  refine j_iconst 0 eX10_become_61 ?_
  refine j_aload_n eX10_become_62 rfl ?_
  refine j_getR flX10_18 ly6 rfl eX10_become_63 ?_
  refine j_alen (by decide) ly9 eX10_become_66 ?_
  refine j_copyI ly3 ly9 (by decide) lkX10_53 (Nat.le_of_ble_eq_true rfl) (Nat.le_of_ble_eq_true rfl) eX10_become_67 ?_
  refine j_aload_n eX10_become_70 rfl ?_
  refine j_getR flX10_21 ly0 rfl eX10_become_71 ?_
  refine j_iconst 0 eX10_become_74 ?_
  refine j_aload_n eX10_become_75 rfl ?_
  refine j_getR flX10_21 ly6 rfl eX10_become_76 ?_
  refine j_iconst 0 eX10_become_79 ?_
  refine j_aload_n eX10_become_80 rfl ?_
  refine j_getR flX10_21 ly6 rfl eX10_become_81 ?_
  refine j_alen (by decide) ly10 eX10_become_84 ?_
  refine j_copyI ly4 ly10 (by decide) lkX10_53 (Nat.le_of_ble_eq_true rfl) (Nat.le_of_ble_eq_true rfl) eX10_become_85 ?_
  refine j_aload_n eX10_become_88 rfl ?_
  refine j_getR flX10_24 ly0 rfl eX10_become_89 ?_
  refine j_iconst 0 eX10_become_92 ?_
  refine j_aload_n eX10_become_93 rfl ?_
  refine j_getR flX10_24 ly6 rfl eX10_become_94 ?_
  refine j_iconst 0 eX10_become_97 ?_
  refine j_aload_n eX10_become_98 rfl ?_
  refine j_getR flX10_24 ly6 rfl eX10_become_99 ?_
  refine j_alen (by decide) ly11 eX10_become_102 ?_
  refine j_copyI ly5 ly11 (by decide) lkX10_53 (Nat.le_of_ble_eq_true rfl) (Nat.le_of_ble_eq_true rfl) eX10_become_103 ?_
  refine r_vret rfl eX10_become_106 ?_
  refine ⟨fun k hk => ?_, rfl, rfl, fun j h0 h1 => ?_, fun j h0 h1 => ?_, fun j h0 h1 => ?_, fun j h0 h1 => ?_, fun j h0 h1 => ?_⟩
  · simp only [cpy, up]
    rw [if_neg (by omega), if_neg (by omega), if_neg (by omega), if_neg (by omega), if_neg (by omega), if_neg (by omega), if_neg (by omega)]
  · exact cp1_all h0 h1
  · exact cp1_all h0 h1
  · exact cp1_all h0 h1
  · exact cp1_all h0 h1
  · exact cp1_all h0 h1
theorem c_X10_become_12_0 {g : Gl} {σ : Sg} : Ct g mX10_become [vr g 12, vr g 0] σ (PV (fun σ' => Bec σ σ' 12 0)) := by
  refine Ct.of (by decide +kernel) (Nat.le_of_ble_eq_true rfl) ?_
  show jv g _ _ σ [(0, vr g 12), (1, vr g 0)] 0 []
  refine j_aload_n eX10_become_0 rfl ?_
  refine j_aload_n eX10_become_1 rfl ?_
  refine j_getI flX10_27 ly0 rfl eX10_become_2 ?_
  refine j_putI fpX10_27 ly12 rfl eX10_become_5 ?_
  refine j_aload_n eX10_become_8 rfl ?_
  refine j_aload_n eX10_become_9 rfl ?_
  refine j_getI flX10_31 ly0 rfl eX10_become_10 ?_
  refine j_putI fpX10_31 ly12 rfl eX10_become_13 ?_
  refine j_aload_n eX10_become_16 rfl ?_
  refine j_getR flX10_9 ly0 rfl eX10_become_17 ?_
  refine j_iconst 0 eX10_become_20 ?_
  refine j_aload_n eX10_become_21 rfl ?_
  refine j_getR flX10_9 ly12 rfl eX10_become_22 ?_
  refine j_iconst 0 eX10_become_25 ?_
  refine j_aload_n eX10_become_26 rfl ?_
  refine j_getR flX10_9 ly12 rfl eX10_become_27 ?_
  refine j_alen (by decide) ly13 eX10_become_30 ?_
  refine j_copyI ly1 ly13 (by decide) lkX10_53 (Nat.le_of_ble_eq_true rfl) (Nat.le_of_ble_eq_true rfl) eX10_become_31 ?_
  refine j_aload_n eX10_become_34 rfl ?_
  refine j_getR flX10_15 ly0 rfl eX10_become_35 ?_
  refine j_iconst 0 eX10_become_38 ?_
  refine j_aload_n eX10_become_39 rfl ?_
  refine j_getR flX10_15 ly12 rfl eX10_become_40 ?_
  refine j_iconst 0 eX10_become_43 ?_
  refine j_aload_n eX10_become_44 rfl ?_
  refine j_getR flX10_15 ly12 rfl eX10_become_45 ?_
  refine j_alen (by decide) ly14 eX10_become_48 ?_
  refine j_copyI ly2 ly14 (by decide) lkX10_53 (Nat.le_of_ble_eq_true rfl) (Nat.le_of_ble_eq_true rfl) eX10_become_49 ?_
  refine j_aload_n eX10_become_52 rfl ?_
  refine j_getR flX10_18 ly0 rfl eX10_become_53 ?_
  refine j_iconst 0 eX10_become_56 ?_
  refine j_aload_n eX10_become_57 rfl ?_
  refine j_getR flX10_18 ly12 rfl eX10_become_58 ?_
  refine j_iconst 0 eX10_become_61 ?_
  refine j_aload_n eX10_become_62 rfl ?_
  refine j_getR flX10_18 ly12 rfl eX10_become_63 ?_
  refine j_alen (by decide) ly15 eX10_become_66 ?_
  refine j_copyI ly3 ly15 (by decide) lkX10_53 (Nat.le_of_ble_eq_true rfl) (Nat.le_of_ble_eq_true rfl) eX10_become_67 ?_
  refine j_aload_n eX10_become_70 rfl ?_
  refine j_getR flX10_21 ly0 rfl eX10_become_71 ?_
  refine j_iconst 0 eX10_become_74 ?_
  refine j_aload_n eX10_become_75 rfl ?_
  refine j_getR flX10_21 ly12 rfl eX10_become_76 ?_
  refine j_iconst 0 eX10_become_79 ?_
  refine j_aload_n eX10_become_80 rfl ?_
  refine j_getR flX10_21 ly12 rfl eX10_become_81 ?_
  refine j_alen (by decide) ly16 eX10_become_84 ?_
  refine j_copyI ly4 ly16 (by decide) lkX10_53 (Nat.le_of_ble_eq_true rfl) (Nat.le_of_ble_eq_true rfl) eX10_become_85 ?_
  refine j_aload_n eX10_become_88 rfl ?_
  refine j_getR flX10_24 ly0 rfl eX10_become_89 ?_
  refine j_iconst 0 eX10_become_92 ?_
  refine j_aload_n eX10_become_93 rfl ?_
  refine j_getR flX10_24 ly12 rfl eX10_become_94 ?_
  refine j_iconst 0 eX10_become_97 ?_
  refine j_aload_n eX10_become_98 rfl ?_
  refine j_getR flX10_24 ly12 rfl eX10_become_99 ?_
  refine j_alen (by decide) ly17 eX10_become_102 ?_
  refine j_copyI ly5 ly17 (by decide) lkX10_53 (Nat.le_of_ble_eq_true rfl) (Nat.le_of_ble_eq_true rfl) eX10_become_103 ?_
  refine r_vret rfl eX10_become_106 ?_
  refine ⟨fun k hk => ?_, rfl, rfl, fun j h0 h1 => ?_, fun j h0 h1 => ?_, fun j h0 h1 => ?_, fun j h0 h1 => ?_, fun j h0 h1 => ?_⟩
  · simp only [cpy, up]
    rw [if_neg (by omega), if_neg (by omega), if_neg (by omega), if_neg (by omega), if_neg (by omega), if_neg (by omega), if_neg (by omega)]
  · exact cp1_all h0 h1
  · exact cp1_all h0 h1
  · exact cp1_all h0 h1
  · exact cp1_all h0 h1
  · exact cp1_all h0 h1
theorem c_X10_empty_18 {g : Gl} {σ : Sg} : Ct g mX10_empty [vr g 18] σ (PV (fun σ' => σ' = up (up σ 18 0 0) 18 1 0)) := by
  refine Ct.of (by decide +kernel) (Nat.le_of_ble_eq_true rfl) ?_
  show jv g _ _ σ [(0, vr g 18)] 0 []
  refine j_aload_n eX10_empty_0 rfl ?_
  refine j_iconst 0 eX10_empty_1 ?_
  refine j_putI fpX10_27 ly18 rfl eX10_empty_2 ?_
  refine j_aload_n eX10_empty_5 rfl ?_
  refine j_iconst 0 eX10_empty_6 ?_
  refine j_putI fpX10_31 ly18 rfl eX10_empty_7 ?_
  refine r_vret rfl eX10_empty_10 ?_
  first | exact rfl | (exfalso; omega)
theorem c_X10_addPolynomial_18 {g : Gl} {σ : Sg} (h : 0 ≤ σ 18 0 ∧ σ 18 0 < 3) : Ct g mX10_addPolynomial [vr g 18] σ (PV (fun σ' => σ' = up (up (up σ 19 (σ 18 0) 0) 21 (σ 18 0) 0) 18 0 (σ 18 0 + 1))) := by
  refine Ct.of (by decide +kernel) (Nat.le_of_ble_eq_true rfl) ?_
  show jv g _ _ σ [(0, vr g 18)] 0 []
  refine j_aload_n eX10_addPolynomial_0 rfl ?_
  refine j_getI flX10_27 ly18 rfl eX10_addPolynomial_1 ?_
  refine j_if_lt eX10_addPolynomial_4 (by omega) (fun h4 => ?_) (fun h4 => ?_)
  · refine r_vret rfl eX10_addPolynomial_45 ?_
    first | exact rfl | (exfalso; omega)
  · refine j_aload_n eX10_addPolynomial_7 rfl ?_
    refine j_getI flX10_27 ly18 rfl eX10_addPolynomial_8 ?_
    refine j_iconst 3 eX10_addPolynomial_11 ?_
    refine j_icmp_ge eX10_addPolynomial_12 (by omega) (fun h12 => ?_) (fun h12 => ?_)
    · refine r_vret rfl eX10_addPolynomial_45 ?_
      first | exact rfl | (exfalso; omega)
    · refine j_aload_n eX10_addPolynomial_15 rfl ?_
      refine j_getR flX10_9 ly18 rfl eX10_addPolynomial_16 ?_
      refine j_aload_n eX10_addPolynomial_19 rfl ?_
      refine j_getI flX10_27 ly18 rfl eX10_addPolynomial_20 ?_
      refine j_iconst 0 eX10_addPolynomial_23 ?_
      refine j_iast ly19 (by omega) eX10_addPolynomial_24 ?_
      refine j_aload_n eX10_addPolynomial_25 rfl ?_
      refine j_getR flX10_18 ly18 rfl eX10_addPolynomial_26 ?_
      refine j_aload_n eX10_addPolynomial_29 rfl ?_
      refine j_getI flX10_27 ly18 rfl eX10_addPolynomial_30 ?_
      refine j_iconst 0 eX10_addPolynomial_33 ?_
      refine j_iast ly21 (by exact h) eX10_addPolynomial_34 ?_
      refine j_aload_n eX10_addPolynomial_35 rfl ?_
      refine j_dup rfl eX10_addPolynomial_36 ?_
      refine j_getI flX10_27 ly18 rfl eX10_addPolynomial_37 ?_
      refine j_iconst 1 eX10_addPolynomial_40 ?_
      refine j_iadd eX10_addPolynomial_41 ?_
      refine j_putI fpX10_27 ly18 rfl eX10_addPolynomial_42 ?_
      refine r_vret rfl eX10_addPolynomial_45 ?_
      first | exact rfl | (exfalso; omega)
theorem c_X10_addBox_18 {g : Gl} {σ : Sg} {l u : Int} (h : 0 ≤ σ 18 1 ∧ σ 18 1 < 3) : Ct g mX10_addBox [vr g 18, vi l, vi u] σ (PV (fun σ' => σ' = up (up (up σ 22 (σ 18 1) l) 23 (σ 18 1) u) 18 1 (σ 18 1 + 1))) := by
  refine Ct.of (by decide +kernel) (Nat.le_of_ble_eq_true rfl) ?_
  show jv g _ _ σ [(0, vr g 18), (1, vi l), (2, vi u)] 0 []
  refine j_aload_n eX10_addBox_0 rfl ?_
  refine j_getI flX10_31 ly18 rfl eX10_addBox_1 ?_
  refine j_if_lt eX10_addBox_4 (by omega) (fun h4 => ?_) (fun h4 => ?_)
  · refine r_vret rfl eX10_addBox_45 ?_
    first | exact rfl | (exfalso; omega)
  · refine j_aload_n eX10_addBox_7 rfl ?_
    refine j_getI flX10_31 ly18 rfl eX10_addBox_8 ?_
    refine j_iconst 3 eX10_addBox_11 ?_
    refine j_icmp_ge eX10_addBox_12 (by omega) (fun h12 => ?_) (fun h12 => ?_)
    · refine r_vret rfl eX10_addBox_45 ?_
      first | exact rfl | (exfalso; omega)
    · refine j_aload_n eX10_addBox_15 rfl ?_
      refine j_getR flX10_21 ly18 rfl eX10_addBox_16 ?_
      refine j_aload_n eX10_addBox_19 rfl ?_
      refine j_getI flX10_31 ly18 rfl eX10_addBox_20 ?_
      refine j_iload_n eX10_addBox_23 rfl ?_
      refine j_iast ly22 (by omega) eX10_addBox_24 ?_
      refine j_aload_n eX10_addBox_25 rfl ?_
      refine j_getR flX10_24 ly18 rfl eX10_addBox_26 ?_
      refine j_aload_n eX10_addBox_29 rfl ?_
      refine j_getI flX10_31 ly18 rfl eX10_addBox_30 ?_
      refine j_iload_n eX10_addBox_33 rfl ?_
      refine j_iast ly23 (by exact h) eX10_addBox_34 ?_
      refine j_aload_n eX10_addBox_35 rfl ?_
      refine j_dup rfl eX10_addBox_36 ?_
      refine j_getI flX10_31 ly18 rfl eX10_addBox_37 ?_
      refine j_iconst 1 eX10_addBox_40 ?_
      refine j_iadd eX10_addBox_41 ?_
      refine j_putI fpX10_31 ly18 rfl eX10_addBox_42 ?_
      refine r_vret rfl eX10_addBox_45 ?_
      first | exact rfl | (exfalso; omega)
theorem c_X10_addCoefficient_18 {g : Gl} {σ : Sg} {v : Int} (h : 1 ≤ σ 18 0 ∧ σ 18 0 ≤ 3) (h2 : 0 ≤ σ 19 (σ 18 0 - 1) ∧ σ 19 (σ 18 0 - 1) < 6) : Ct g mX10_addCoefficient [vr g 18, vi v] σ (PV (fun σ' => σ' = up (up σ 20 ((σ 18 0 - 1) * 6 + σ 19 (σ 18 0 - 1)) v) 19 (σ 18 0 - 1) (σ 19 (σ 18 0 - 1) + 1))) := by
  refine Ct.of (by decide +kernel) (Nat.le_of_ble_eq_true rfl) ?_
  show jv g _ _ σ [(0, vr g 18), (1, vi v)] 0 []
  refine j_aload_n eX10_addCoefficient_0 rfl ?_
  refine j_getI flX10_27 ly18 rfl eX10_addCoefficient_1 ?_
  refine j_iconst 1 eX10_addCoefficient_4 ?_
  refine j_isub eX10_addCoefficient_5 ?_
  refine j_istore_n eX10_addCoefficient_6 (Nat.le_of_ble_eq_true rfl) ?_
  refine j_aload_n eX10_addCoefficient_7 rfl ?_
  refine j_iload_n eX10_addCoefficient_8 rfl ?_
  refine j_cV1 zX10_hasPolynomial lkX10_34 ⟨Nat.le_of_ble_eq_true rfl, Nat.le_of_ble_eq_true rfl⟩ ly18 rfl rfl (c_X10_hasPolynomial_18 (by omega) (by omega)) (Nat.le_of_ble_eq_true rfl) eX10_addCoefficient_9 (k_B (fun h9 => ?_) (fun h9 => ?_))
  · refine j_ifeq_1 eX10_addCoefficient_12 ?_
    refine j_aload_n eX10_addCoefficient_15 rfl ?_
    refine j_getR flX10_9 ly18 rfl eX10_addCoefficient_16 ?_
    refine j_iload_n eX10_addCoefficient_19 rfl ?_
    refine j_iald ly19 (by omega) eX10_addCoefficient_20 ?_
    refine j_if_lt eX10_addCoefficient_21 (by omega) (fun h21 => ?_) (fun h21 => ?_)
    · refine r_vret rfl eX10_addCoefficient_62 ?_
      first | exact rfl | (exfalso; omega)
    · refine j_aload_n eX10_addCoefficient_24 rfl ?_
      refine j_getR flX10_9 ly18 rfl eX10_addCoefficient_25 ?_
      refine j_iload_n eX10_addCoefficient_28 rfl ?_
      refine j_iald ly19 (by omega) eX10_addCoefficient_29 ?_
      refine j_bipush 6 eX10_addCoefficient_30 (by decide) ?_
      refine j_icmp_ge eX10_addCoefficient_32 (by omega) (fun h32 => ?_) (fun h32 => ?_)
      · refine r_vret rfl eX10_addCoefficient_62 ?_
        first | exact rfl | (exfalso; omega)
      · refine j_aload_n eX10_addCoefficient_35 rfl ?_
        refine j_getR flX10_15 ly18 rfl eX10_addCoefficient_36 ?_
        refine j_iload_n eX10_addCoefficient_39 rfl ?_
        refine j_bipush 6 eX10_addCoefficient_40 (by decide) ?_
        refine j_imul eX10_addCoefficient_42 ?_
        refine j_aload_n eX10_addCoefficient_43 rfl ?_
        refine j_getR flX10_9 ly18 rfl eX10_addCoefficient_44 ?_
        refine j_iload_n eX10_addCoefficient_47 rfl ?_
        refine j_iald ly19 (by omega) eX10_addCoefficient_48 ?_
        refine j_iadd eX10_addCoefficient_49 ?_
        refine j_iload_n eX10_addCoefficient_50 rfl ?_
        refine j_iast ly20 (by omega) eX10_addCoefficient_51 ?_
        refine j_aload_n eX10_addCoefficient_52 rfl ?_
        refine j_getR flX10_9 ly18 rfl eX10_addCoefficient_53 ?_
        refine j_iload_n eX10_addCoefficient_56 rfl ?_
        refine j_dup2 rfl rfl eX10_addCoefficient_57 ?_
        refine j_iald ly19 (by omega) eX10_addCoefficient_58 ?_
        refine j_iconst 1 eX10_addCoefficient_59 ?_
        refine j_iadd eX10_addCoefficient_60 ?_
        refine j_iast ly19 (by omega) eX10_addCoefficient_61 ?_
        refine r_vret rfl eX10_addCoefficient_62 ?_
        first | exact rfl | (exfalso; omega)
  · refine j_ifeq_0 eX10_addCoefficient_12 ?_
    refine r_vret rfl eX10_addCoefficient_62 ?_
    first | exact rfl | (exfalso; omega)
theorem c_X11_signOf {g : Gl} {σ : Sg} {a : Int} (h : -9223372036854775808 ≤ a ∧ a ≤ 9223372036854775807) : Ct g mX11_signOf [vl a] σ (PE (sgn a) σ) := by
  refine Ct.of (by decide +kernel) (Nat.le_of_ble_eq_true rfl) ?_
  show jv g _ _ σ [(0, vl a)] 0 []
  refine j_lload_n eX11_signOf_0 rfl ?_
  refine j_lconst0 eX11_signOf_1 ?_
  refine j_lc_ne eX11_signOf_2 eX11_signOf_3 (by omega) (fun h2 => ?_) (fun h2 => ?_)
  · refine j_lload_n eX11_signOf_8 rfl ?_
    refine j_lconst0 eX11_signOf_9 ?_
    refine j_lc_le eX11_signOf_10 eX11_signOf_11 (by omega) (fun h10 => ?_) (fun h10 => ?_)
    · refine j_iconst (-1) eX11_signOf_18 ?_
      refine r_iret rfl eX11_signOf_19 ?_
      unfold sgn
      first | exact ⟨(if_pos (by omega)).symm, rfl⟩ | exact ⟨by rw [if_neg (by omega), if_pos (by omega)], rfl⟩ | exact ⟨by rw [if_neg (by omega), if_neg (by omega)], rfl⟩
    · refine j_iconst 1 eX11_signOf_14 ?_
      refine j_goto eX11_signOf_15 ?_
      refine r_iret rfl eX11_signOf_19 ?_
      unfold sgn
      first | exact ⟨(if_pos (by omega)).symm, rfl⟩ | exact ⟨by rw [if_neg (by omega), if_pos (by omega)], rfl⟩ | exact ⟨by rw [if_neg (by omega), if_neg (by omega)], rfl⟩
  · refine j_iconst 0 eX11_signOf_6 ?_
    refine r_iret rfl eX11_signOf_7 ?_
    unfold sgn
    first | exact ⟨(if_pos (by omega)).symm, rfl⟩ | exact ⟨by rw [if_neg (by omega), if_pos (by omega)], rfl⟩ | exact ⟨by rw [if_neg (by omega), if_neg (by omega)], rfl⟩
theorem l_X11_partsOf {g : Gl} {σ : Sg} {a : Int} (h : 1 ≤ a ∧ a ≤ 127) : ∀ (t : Nat) (m s : Int), 1 ≤ m → m ≤ 127 → m < 2 ^ t → 0 ≤ s → s ≤ 64 → jv g mX11_partsOf (Fm g (PE (hv t m s) σ)) σ [(0, vi a), (1, vi s), (2, vi m)] 5 [] := by
  intro t
  induction t with
  | zero =>
    intro m s h1 h2 h3
    exfalso
    have h4 : (2 : Int) ^ 0 = 1 := rfl
    omega
  | succ t ih =>
    intro m s h1 h2 h3 h4 h5
    have e1 : (2 : Int) ^ (t + 1) = 2 ^ t * 2 := Int.pow_succ 2 t
    refine j_iload_n eX11_partsOf_5 rfl ?_
    refine j_iconst 1 eX11_partsOf_6 ?_
    refine j_icmp_le eX11_partsOf_7 (by omega) (fun h7 => ?_) (fun h7 => ?_)
    · refine j_iload_n eX11_partsOf_21 rfl ?_
      refine r_iret rfl eX11_partsOf_22 ?_
      have e2 : hv (t + 1) m s = s := if_pos (by omega)
      exact ⟨e2.symm, rfl⟩
    · refine j_iload_n eX11_partsOf_10 rfl ?_
      refine j_iconst 2 eX11_partsOf_11 ?_
      refine j_idiv (by omega) eX11_partsOf_12 ?_
      refine j_istore_n eX11_partsOf_13 (Nat.le_of_ble_eq_true rfl) ?_
      refine j_iload_n eX11_partsOf_14 rfl ?_
      refine j_iconst 2 eX11_partsOf_15 ?_
      refine j_idiv (by omega) eX11_partsOf_16 ?_
      refine j_istore_n eX11_partsOf_17 (Nat.le_of_ble_eq_true rfl) ?_
      refine j_goto eX11_partsOf_18 ?_
      have d1 : Int.tdiv m 2 = m / 2 := Int.tdiv_eq_ediv_of_nonneg (by omega)
      have d2 : Int.tdiv s 2 = s / 2 := Int.tdiv_eq_ediv_of_nonneg (by omega)
      have e2 : hv (t + 1) m s = hv t (Int.tdiv m 2) (Int.tdiv s 2) := if_neg (by omega)
      rw [e2]
      refine jv_lv ?_ (ih (Int.tdiv m 2) (Int.tdiv s 2) (by omega) (by omega) (by omega) (by omega) (by omega))
      exact lvC rfl (lvC rfl (lvC rfl lv0))
theorem c_X11_partsOf {g : Gl} {σ : Sg} {a : Int} (h : 1 ≤ a ∧ a ≤ 127) : Ct g mX11_partsOf [vi a] σ (PE (pz a) σ) := by
  refine Ct.of (by decide +kernel) (Nat.le_of_ble_eq_true rfl) ?_
  show jv g _ _ σ [(0, vi a)] 0 []
  refine j_bipush 64 eX11_partsOf_0 (by decide) ?_
  refine j_istore_n eX11_partsOf_2 (Nat.le_of_ble_eq_true rfl) ?_
  refine j_iload_n eX11_partsOf_3 rfl ?_
  refine j_istore_n eX11_partsOf_4 (Nat.le_of_ble_eq_true rfl) ?_
  refine jv_lv ?_ (l_X11_partsOf h 7 a 64 (by omega) (by omega) (by omega) (by omega) (by omega))
  exact lvC rfl (lvC rfl (lvC rfl lv0))
theorem l_X11_behind {g : Gl} {σ : Sg} {a : Int} (h : 1 ≤ a ∧ a ≤ 127) : ∀ (t : Nat) (m : Int), 0 ≤ m → m ≤ 127 → m < 2 ^ t → jv g mX11_behind (Fm g (PE (bh t m) σ)) σ [(0, vi a), (1, vi m)] 2 [] := by
  intro t
  induction t with
  | zero =>
    intro m h1 h2 h3
    have h4 : (2 : Int) ^ 0 = 1 := rfl
    have h5 : m = 0 := by omega
    subst h5
    refine j_iload_n eX11_behind_2 rfl ?_
    refine j_if_le eX11_behind_3 (by omega) (fun h => ?_) (fun h => absurd (by omega) h)
    refine j_iload_n eX11_behind_20 rfl ?_
    refine j_if_le eX11_behind_21 (by omega) (fun h => ?_) (fun h => absurd (by omega) h)
    refine j_iconst 0 eX11_behind_30 ?_
    exact r_iret rfl eX11_behind_31 ⟨rfl, rfl⟩
  | succ t ih =>
    intro m h1 h2 h3
    have e1 : (2 : Int) ^ (t + 1) = 2 ^ t * 2 := Int.pow_succ 2 t
    refine j_iload_n eX11_behind_2 rfl ?_
    refine j_if_le eX11_behind_3 (by omega) (fun h3 => ?_) (fun h3 => ?_)
    · refine j_iload_n eX11_behind_20 rfl ?_
      refine j_if_le eX11_behind_21 (by omega) (fun h21 => ?_) (fun h21 => ?_)
      · refine j_iconst 0 eX11_behind_30 ?_
        refine r_iret rfl eX11_behind_31 ?_
        first | (exfalso; omega) | exact ⟨(show bh (t + 1) m = 0 from if_pos (by omega)).symm, rfl⟩ | exact ⟨(show bh (t + 1) m = m + 1 from (if_neg (by omega)).trans (if_neg (by omega))).symm, rfl⟩
      · refine j_iload_n eX11_behind_24 rfl ?_
        refine j_iconst 1 eX11_behind_25 ?_
        refine j_iadd eX11_behind_26 ?_
        refine j_goto eX11_behind_27 ?_
        refine r_iret rfl eX11_behind_31 ?_
        first | (exfalso; omega) | exact ⟨(show bh (t + 1) m = 0 from if_pos (by omega)).symm, rfl⟩ | exact ⟨(show bh (t + 1) m = m + 1 from (if_neg (by omega)).trans (if_neg (by omega))).symm, rfl⟩
    · refine j_iload_n eX11_behind_6 rfl ?_
      refine j_iconst 2 eX11_behind_7 ?_
      refine j_irem (by omega) eX11_behind_8 ?_
      refine j_iconst 1 eX11_behind_9 ?_
      have d0 : Int.tmod m 2 = m % 2 := Int.tmod_eq_emod_of_nonneg (by omega)
      refine j_icmp_ne eX11_behind_10 (by omega) (fun h10 => ?_) (fun h10 => ?_)
      · refine j_iload_n eX11_behind_20 rfl ?_
        refine j_if_le eX11_behind_21 (by omega) (fun h21 => ?_) (fun h21 => ?_)
        · refine j_iconst 0 eX11_behind_30 ?_
          refine r_iret rfl eX11_behind_31 ?_
          first | (exfalso; omega) | exact ⟨(show bh (t + 1) m = 0 from if_pos (by omega)).symm, rfl⟩ | exact ⟨(show bh (t + 1) m = m + 1 from (if_neg (by omega)).trans (if_neg (by omega))).symm, rfl⟩
        · refine j_iload_n eX11_behind_24 rfl ?_
          refine j_iconst 1 eX11_behind_25 ?_
          refine j_iadd eX11_behind_26 ?_
          refine j_goto eX11_behind_27 ?_
          refine r_iret rfl eX11_behind_31 ?_
          first | (exfalso; omega) | exact ⟨(show bh (t + 1) m = 0 from if_pos (by omega)).symm, rfl⟩ | exact ⟨(show bh (t + 1) m = m + 1 from (if_neg (by omega)).trans (if_neg (by omega))).symm, rfl⟩
      · refine j_iload_n eX11_behind_13 rfl ?_
        refine j_iconst 2 eX11_behind_14 ?_
        refine j_idiv (by omega) eX11_behind_15 ?_
        refine j_istore_n eX11_behind_16 (Nat.le_of_ble_eq_true rfl) ?_
        refine j_goto eX11_behind_17 ?_
        have d1 : Int.tdiv m 2 = m / 2 := Int.tdiv_eq_ediv_of_nonneg (by omega)
        have e2 : bh (t + 1) m = bh t (Int.tdiv m 2) := (if_neg (by omega)).trans (if_pos (by omega))
        rw [e2]
        refine jv_lv ?_ (ih (Int.tdiv m 2) (by omega) (by omega) (by omega))
        exact lvC rfl (lvC rfl lv0)
theorem c_X11_behind {g : Gl} {σ : Sg} {a : Int} (h : 1 ≤ a ∧ a ≤ 127) : Ct g mX11_behind [vi a] σ (PE (bhd a) σ) := by
  refine Ct.of (by decide +kernel) (Nat.le_of_ble_eq_true rfl) ?_
  show jv g _ _ σ [(0, vi a)] 0 []
  refine j_iload_n eX11_behind_0 rfl ?_
  refine j_istore_n eX11_behind_1 (Nat.le_of_ble_eq_true rfl) ?_
  refine jv_lv ?_ (l_X11_behind h 8 a (by omega) (by omega) (by omega))
  exact lvC rfl (lvC rfl lv0)
theorem l_X11_commonDivisor {g : Gl} {σ : Sg} {a b : Int} (h : 0 ≤ a ∧ a ≤ 9223372036854775807 ∧ 0 ≤ b ∧ b < 281474976710656) : ∀ (t : Nat) (x z : Int), t ≤ 99 → x ≤ 9223372036854775807 → 0 ≤ z → z ≤ x → x * z < 2 ^ t → Int.gcd x z = Int.gcd a b → jv g mX11_commonDivisor (Fm g (PEL (Int.gcd a b : Int) σ)) σ [(0, vl a), (2, vl b), (4, vl x), (6, vl z), (8, vi (100 - (t : Int)))] 9 [] := by
  intro t
  induction t with
  | zero =>
    intro x z h1 h2 h3 h4 h5 h6
    have hz : z = 0 := eu_zero h3 h4 h5
    subst hz
    refine j_iload eX11_commonDivisor_9 rfl ?_
    refine j_bipush 100 eX11_commonDivisor_11 (by decide) ?_
    refine j_icmp_ge eX11_commonDivisor_13 (by omega) (fun h => ?_) (fun h => absurd (by omega) h)
    refine j_lload eX11_commonDivisor_44 rfl ?_
    refine r_lret rfl eX11_commonDivisor_46 ?_
    exact ⟨by rw [← h6, Int.gcd_zero_right]; omega, rfl⟩
  | succ t ih =>
    intro x z h1 h2 h3 h4 h5 h6
    refine j_iload eX11_commonDivisor_9 rfl ?_
    refine j_bipush 100 eX11_commonDivisor_11 (by decide) ?_
    refine j_icmp_ge eX11_commonDivisor_13 (by omega) (fun h13 => absurd h13 (by omega)) (fun h13 => ?_)
    refine j_lload eX11_commonDivisor_16 rfl ?_
    refine j_lconst0 eX11_commonDivisor_18 ?_
    refine j_lc_eq eX11_commonDivisor_19 eX11_commonDivisor_20 (by omega) (fun h19 => ?_) (fun h19 => ?_)
    · refine j_lload eX11_commonDivisor_44 rfl ?_
      refine r_lret rfl eX11_commonDivisor_46 ?_
      first | (subst h19; exact ⟨by rw [← h6, Int.gcd_zero_right]; omega, rfl⟩) | (subst h19; exact ⟨by rw [Int.gcd_zero_right]; omega, rfl⟩)
    · refine j_lload eX11_commonDivisor_23 rfl ?_
      refine j_lload eX11_commonDivisor_25 rfl ?_
      refine j_lrem (by omega) eX11_commonDivisor_27 ?_
      refine j_lstore eX11_commonDivisor_28 (Nat.le_of_ble_eq_true rfl) ?_
      refine j_lload eX11_commonDivisor_30 rfl ?_
      refine j_lstore eX11_commonDivisor_32 (Nat.le_of_ble_eq_true rfl) ?_
      refine j_lload eX11_commonDivisor_34 rfl ?_
      refine j_lstore eX11_commonDivisor_36 (Nat.le_of_ble_eq_true rfl) ?_
      refine j_iinc eX11_commonDivisor_38 rfl (Nat.le_of_ble_eq_true rfl) ?_
      refine j_goto eX11_commonDivisor_41 ?_
      have r := tmod_le_half (a := x) (b := z) (by omega) (by omega)
      have e1 : 100 - ((t + 1 : Nat) : Int) + 1 = 100 - (t : Int) := by omega
      rw [e1]
      refine jv_lv ?_ (ih z (Int.tmod x z) (by omega) (by omega) (by omega) (by omega) (eu_step (by omega) (by omega) h5) ((gcd_step (by omega) (by omega)).trans h6))
      exact lvC rfl (lvC rfl (lvC rfl (lvC rfl (lvC rfl lv0))))
theorem c_X11_commonDivisor {g : Gl} {σ : Sg} {a b : Int} (h : 0 ≤ a ∧ a ≤ 9223372036854775807 ∧ 0 ≤ b ∧ b < 281474976710656) : Ct g mX11_commonDivisor [vl a, vl b] σ (PEL (Int.gcd a b : Int) σ) := by
  refine Ct.of (by decide +kernel) (Nat.le_of_ble_eq_true rfl) ?_
  show jv g _ _ σ [(0, vl a), (2, vl b)] 0 []
  refine j_lload_n eX11_commonDivisor_0 rfl ?_
  refine j_lstore eX11_commonDivisor_1 (Nat.le_of_ble_eq_true rfl) ?_
  refine j_lload_n eX11_commonDivisor_3 rfl ?_
  refine j_lstore eX11_commonDivisor_4 (Nat.le_of_ble_eq_true rfl) ?_
  refine j_iconst 0 eX11_commonDivisor_6 ?_
  refine j_istore eX11_commonDivisor_7 (Nat.le_of_ble_eq_true rfl) ?_
  refine j_iload eX11_commonDivisor_9 rfl ?_
  refine j_bipush 100 eX11_commonDivisor_11 (by decide) ?_
  refine j_icmp_ge eX11_commonDivisor_13 (by omega) (fun h13 => absurd h13 (by omega)) (fun h13 => ?_)
  refine j_lload eX11_commonDivisor_16 rfl ?_
  refine j_lconst0 eX11_commonDivisor_18 ?_
  refine j_lc_eq eX11_commonDivisor_19 eX11_commonDivisor_20 (by omega) (fun h19 => ?_) (fun h19 => ?_)
  · refine j_lload eX11_commonDivisor_44 rfl ?_
    refine r_lret rfl eX11_commonDivisor_46 ?_
    first | (subst h19; exact ⟨by rw [← h6, Int.gcd_zero_right]; omega, rfl⟩) | (subst h19; exact ⟨by rw [Int.gcd_zero_right]; omega, rfl⟩)
  · refine j_lload eX11_commonDivisor_23 rfl ?_
    refine j_lload eX11_commonDivisor_25 rfl ?_
    refine j_lrem (by omega) eX11_commonDivisor_27 ?_
    refine j_lstore eX11_commonDivisor_28 (Nat.le_of_ble_eq_true rfl) ?_
    refine j_lload eX11_commonDivisor_30 rfl ?_
    refine j_lstore eX11_commonDivisor_32 (Nat.le_of_ble_eq_true rfl) ?_
    refine j_lload eX11_commonDivisor_34 rfl ?_
    refine j_lstore eX11_commonDivisor_36 (Nat.le_of_ble_eq_true rfl) ?_
    refine j_iinc eX11_commonDivisor_38 rfl (Nat.le_of_ble_eq_true rfl) ?_
    refine j_goto eX11_commonDivisor_41 ?_
    have r := tmod_le_half (a := a) (b := b) (by omega) (by omega)
    refine jv_lv ?_ (l_X11_commonDivisor h 99 b (Int.tmod a b) (by omega) (by omega) (by omega) (by omega) (eu_first (by omega) (by omega) (by omega)) (gcd_step (by omega) (by omega)))
    exact lvC rfl (lvC rfl (lvC rfl (lvC rfl (lvC rfl lv0))))
theorem c_X11_part {g : Gl} {σ : Sg} {u l w : Int} (h : -9223372036854775807 ≤ u ∧ u ≤ 9223372036854775807 ∧ 0 < l ∧ l < 281474976710656) (hw : -2147483648 ≤ w ∧ w ≤ 2147483647) : Ct g mX11_part [vl u, vl l, vi w] σ (PEL (Int.tdiv (if w = 0 then u else l) (Int.gcd u l)) σ) := by
  refine Ct.of (by decide +kernel) (Nat.le_of_ble_eq_true rfl) ?_
  show jv g _ _ σ [(0, vl u), (2, vl l), (4, vi w)] 0 []
  refine j_lload_n eX11_part_0 rfl ?_
  refine j_absL (by omega) lkX11_306 (Nat.le_of_ble_eq_true rfl) (Nat.le_of_ble_eq_true rfl) eX11_part_1 ?_
  have ea : (if 0 < u then u else -u) = (u.natAbs : Int) := by split <;> omega
  rw [ea]
  refine j_lload_n eX11_part_4 rfl ?_
  refine j_cS2 zX11_commonDivisor lkX11_312 ⟨Nat.le_of_ble_eq_true rfl, Nat.le_of_ble_eq_true rfl⟩ (c_X11_commonDivisor (by omega)) (Nat.le_of_ble_eq_true rfl) eX11_part_5 (k_EL ?_)
  have eg : Int.gcd (u.natAbs : Int) l = Int.gcd u l := by simp [Int.gcd]
  rw [eg]
  have gp : 0 < Int.gcd u l := Int.gcd_pos_of_ne_zero_right u (by omega)
  have gl : (Int.gcd u l : Int) ≤ l := Int.le_of_dvd (by omega) (Int.gcd_dvd_right u l)
  refine j_lstore eX11_part_8 (Nat.le_of_ble_eq_true rfl) ?_
  refine j_lload eX11_part_10 rfl ?_
  refine j_lconst1 eX11_part_12 ?_
  refine j_lc_ge eX11_part_13 eX11_part_14 (by omega) (fun h13 => ?_) (fun h13 => ?_)
  · refine j_iload eX11_part_21 rfl ?_
    refine j_if_ne eX11_part_23 (by omega) (fun h23 => ?_) (fun h23 => ?_)
    · refine j_lload_n eX11_part_30 rfl ?_
      refine j_lload eX11_part_31 rfl ?_
      refine j_ldiv (by omega) eX11_part_33 ?_
      refine r_lret rfl eX11_part_34 ?_
      first | exact ⟨by rw [if_pos (by omega)], rfl⟩ | exact ⟨by rw [if_neg (by omega)], rfl⟩
    · refine j_lload_n eX11_part_26 rfl ?_
      refine j_goto eX11_part_27 ?_
      refine j_lload eX11_part_31 rfl ?_
      refine j_ldiv (by omega) eX11_part_33 ?_
      refine r_lret rfl eX11_part_34 ?_
      first | exact ⟨by rw [if_pos (by omega)], rfl⟩ | exact ⟨by rw [if_neg (by omega)], rfl⟩
  · refine j_ldc2 (-4611686018427387904) cnX11_153 eX11_part_17 ?_
    refine r_lret rfl eX11_part_20 ?_
    exfalso
    omega
theorem c_X7_low {g : Gl} {σ : Sg} {a : Int} (nd : 1 ≤ a ∧ a ≤ 127) (tb : 0 ≤ σ 27 2 ∧ σ 27 2 < σ 0 1) (hB : 0 ≤ σ 0 1 ∧ σ 0 1 ≤ 3) : Ct g mX7_low [vr g 27, vi a] σ (PE (σ 4 (σ 27 2) * 64 + (σ 5 (σ 27 2) - σ 4 (σ 27 2)) * (a * pz a - 64)) σ) := by
  refine Ct.of (by decide +kernel) (Nat.le_of_ble_eq_true rfl) ?_
  show jv g _ _ σ [(0, vr g 27), (1, vi a)] 0 []
  refine j_aload_n eX7_low_0 rfl ?_
  refine j_getR flX7_9 ly27 rfl eX7_low_1 ?_
  refine j_aload_n eX7_low_4 rfl ?_
  refine j_getI flX7_19 ly27 rfl eX7_low_5 ?_
  refine j_iload_n eX7_low_8 rfl ?_
  refine j_iload_n eX7_low_9 rfl ?_
  refine j_cSN1 zX11_partsOf lkX7_34 ⟨Nat.le_of_ble_eq_true rfl, Nat.le_of_ble_eq_true rfl⟩ (c_X11_partsOf (by omega)) (Nat.le_of_ble_eq_true rfl) eX7_low_10 (k_E ?_)
  refine j_imul eX7_low_13 ?_
  refine j_bipush 64 eX7_low_14 (by decide) ?_
  refine j_isub eX7_low_16 ?_
  refine j_cV2 zX10_placeBehind lkX7_38 ⟨Nat.le_of_ble_eq_true rfl, Nat.le_of_ble_eq_true rfl⟩ ly0 rfl rfl (c_X10_placeBehind_0 (by omega) (by omega)) (Nat.le_of_ble_eq_true rfl) eX7_low_17 (k_E ?_)
  refine r_iret rfl eX7_low_20 ?_
  first | exact ⟨rfl, rfl⟩ | (exfalso; omega)
theorem c_X7_high {g : Gl} {σ : Sg} {a : Int} (nd : 1 ≤ a ∧ a ≤ 127) (tb : 0 ≤ σ 27 2 ∧ σ 27 2 < σ 0 1) (hB : 0 ≤ σ 0 1 ∧ σ 0 1 ≤ 3) : Ct g mX7_high [vr g 27, vi a] σ (PE (σ 4 (σ 27 2) * 64 + (σ 5 (σ 27 2) - σ 4 (σ 27 2)) * ((a + 1) * pz a - 64)) σ) := by
  refine Ct.of (by decide +kernel) (Nat.le_of_ble_eq_true rfl) ?_
  show jv g _ _ σ [(0, vr g 27), (1, vi a)] 0 []
  refine j_aload_n eX7_high_0 rfl ?_
  refine j_getR flX7_9 ly27 rfl eX7_high_1 ?_
  refine j_aload_n eX7_high_4 rfl ?_
  refine j_getI flX7_19 ly27 rfl eX7_high_5 ?_
  refine j_iload_n eX7_high_8 rfl ?_
  refine j_iconst 1 eX7_high_9 ?_
  refine j_iadd eX7_high_10 ?_
  refine j_iload_n eX7_high_11 rfl ?_
  refine j_cSN1 zX11_partsOf lkX7_34 ⟨Nat.le_of_ble_eq_true rfl, Nat.le_of_ble_eq_true rfl⟩ (c_X11_partsOf (by omega)) (Nat.le_of_ble_eq_true rfl) eX7_high_12 (k_E ?_)
  refine j_imul eX7_high_15 ?_
  refine j_bipush 64 eX7_high_16 (by decide) ?_
  refine j_isub eX7_high_18 ?_
  refine j_cV2 zX10_placeBehind lkX7_38 ⟨Nat.le_of_ble_eq_true rfl, Nat.le_of_ble_eq_true rfl⟩ ly0 rfl rfl (c_X10_placeBehind_0 (by omega) (by omega)) (Nat.le_of_ble_eq_true rfl) eX7_high_19 (k_E ?_)
  refine r_iret rfl eX7_high_22 ?_
  first | exact ⟨rfl, rfl⟩ | (exfalso; omega)
end
