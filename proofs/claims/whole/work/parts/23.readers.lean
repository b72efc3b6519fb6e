theorem m_57 : (Jvm.Cond.fieldLink "PortDrawer" (10 : Nat) "PortDrawer" "harbour" "LPortDrawer$Harbour;") ∈ tblG := m_t (i := 57) rfl rfl
theorem m_62 : (Jvm.Cond.fieldLink "PortDrawer" (30 : Nat) "PortDrawer" "leftParts" "J") ∈ tblG := m_t (i := 62) rfl rfl
theorem m_59 : (Jvm.Cond.fieldLink "PortDrawer" (19 : Nat) "PortDrawer" "goingWith" "[J") ∈ tblG := m_t (i := 59) rfl rfl
theorem m_121 : (Jvm.Cond.constantLong "PortDrawer" (136 : Nat) (-1 : Int64)) ∈ tblG := m_t (i := 121) rfl rfl
theorem m_60 : (Jvm.Cond.fieldLink "PortDrawer" (23 : Nat) "PortDrawer" "partsOfBit" "[J") ∈ tblG := m_t (i := 60) rfl rfl
theorem m_61 : (Jvm.Cond.fieldLink "PortDrawer" (26 : Nat) "PortDrawer" "staying" "[Z") ∈ tblG := m_t (i := 61) rfl rfl
theorem m_91 : (Jvm.Cond.code ({ cls := "PortDrawer", name := "verdictOf", desc := "(J)I" } : Jvm.MethodName) prog_1_method_18_code (5 : Nat) (Option.some Jvm.ClassFile.FieldType.int)) ∈ tblG := m_t (i := 91) rfl rfl
theorem ms_0 : Cond.selects "PortDrawer" ⟨"PortDrawer", "verdictOf", "(J)I"⟩ ⟨"PortDrawer", "verdictOf", "(J)I"⟩ ∈ tblG := m_s (i := 0) rfl rfl
theorem m_88 : (Jvm.Cond.methodLink "PortDrawer" (102 : Nat) ({ cls := "PortDrawer", name := "verdictOf", desc := "(J)I" } : Jvm.MethodName)) ∈ tblG := m_t (i := 88) rfl rfl
theorem m_90 : (Jvm.Cond.instanceMethod ({ cls := "PortDrawer", name := "verdictOf", desc := "(J)I" } : Jvm.MethodName)) ∈ tblG := m_t (i := 90) rfl rfl
theorem m_116 : (Jvm.Cond.code ({ cls := "PortDrawer", name := "isIn", desc := "(JI)Z" } : Jvm.MethodName) prog_1_method_22_code (3 : Nat) (Option.some Jvm.ClassFile.FieldType.boolean)) ∈ tblG := m_t (i := 116) rfl rfl
theorem m_114 : (Jvm.Cond.methodLink "PortDrawer" (88 : Nat) ({ cls := "PortDrawer", name := "isIn", desc := "(JI)Z" } : Jvm.MethodName)) ∈ tblG := m_t (i := 114) rfl rfl
theorem m_115 : (Jvm.Cond.static ({ cls := "PortDrawer", name := "isIn", desc := "(JI)Z" } : Jvm.MethodName)) ∈ tblG := m_t (i := 115) rfl rfl
theorem m_120 : (Jvm.Cond.code ({ cls := "PortDrawer", name := "leftWithout", desc := "(I)J" } : Jvm.MethodName) prog_1_method_16_code (2 : Nat) (Option.some Jvm.ClassFile.FieldType.long)) ∈ tblG := m_t (i := 120) rfl rfl
theorem ms_4 : Cond.selects "PortDrawer" ⟨"PortDrawer", "leftWithout", "(I)J"⟩ ⟨"PortDrawer", "leftWithout", "(I)J"⟩ ∈ tblG := m_s (i := 4) rfl rfl
theorem m_117 : (Jvm.Cond.methodLink "PortDrawer" (119 : Nat) ({ cls := "PortDrawer", name := "leftWithout", desc := "(I)J" } : Jvm.MethodName)) ∈ tblG := m_t (i := 117) rfl rfl
theorem m_119 : (Jvm.Cond.instanceMethod ({ cls := "PortDrawer", name := "leftWithout", desc := "(I)J" } : Jvm.MethodName)) ∈ tblG := m_t (i := 119) rfl rfl
theorem m_99 : (Jvm.Cond.code ({ cls := "PortDrawer", name := "staysWith", desc := "(J)Z" } : Jvm.MethodName) prog_1_method_17_code (3 : Nat) (Option.some Jvm.ClassFile.FieldType.boolean)) ∈ tblG := m_t (i := 99) rfl rfl
theorem ms_1 : Cond.selects "PortDrawer" ⟨"PortDrawer", "staysWith", "(J)Z"⟩ ⟨"PortDrawer", "staysWith", "(J)Z"⟩ ∈ tblG := m_s (i := 1) rfl rfl
theorem m_96 : (Jvm.Cond.methodLink "PortDrawer" (106 : Nat) ({ cls := "PortDrawer", name := "staysWith", desc := "(J)Z" } : Jvm.MethodName)) ∈ tblG := m_t (i := 96) rfl rfl
theorem m_98 : (Jvm.Cond.instanceMethod ({ cls := "PortDrawer", name := "staysWith", desc := "(J)Z" } : Jvm.MethodName)) ∈ tblG := m_t (i := 98) rfl rfl
theorem m_137 : (Jvm.Cond.code ({ cls := "PortDrawer$Harbour", name := "ofKindAheadOf", desc := "(II)I" } : Jvm.MethodName) prog_2_method_9_code (5 : Nat) (Option.some Jvm.ClassFile.FieldType.int)) ∈ tblG := m_t (i := 137) rfl rfl
theorem ms_5 : Cond.selects "PortDrawer$Harbour" ⟨"PortDrawer$Harbour", "ofKindAheadOf", "(II)I"⟩ ⟨"PortDrawer$Harbour", "ofKindAheadOf", "(II)I"⟩ ∈ tblG := m_s (i := 5) rfl rfl
theorem m_136 : (Jvm.Cond.instanceMethod ({ cls := "PortDrawer$Harbour", name := "ofKindAheadOf", desc := "(II)I" } : Jvm.MethodName)) ∈ tblG := m_t (i := 136) rfl rfl
theorem m_113 : (Jvm.Cond.code ({ cls := "PortDrawer", name := "firstThatMayGo", desc := "()I" } : Jvm.MethodName) prog_1_method_19_code (4 : Nat) (Option.some Jvm.ClassFile.FieldType.int)) ∈ tblG := m_t (i := 113) rfl rfl
theorem ms_3 : Cond.selects "PortDrawer" ⟨"PortDrawer", "firstThatMayGo", "()I"⟩ ⟨"PortDrawer", "firstThatMayGo", "()I"⟩ ∈ tblG := m_s (i := 3) rfl rfl
theorem m_110 : (Jvm.Cond.methodLink "PortDrawer" (115 : Nat) ({ cls := "PortDrawer", name := "firstThatMayGo", desc := "()I" } : Jvm.MethodName)) ∈ tblG := m_t (i := 110) rfl rfl
theorem m_112 : (Jvm.Cond.instanceMethod ({ cls := "PortDrawer", name := "firstThatMayGo", desc := "()I" } : Jvm.MethodName)) ∈ tblG := m_t (i := 112) rfl rfl
theorem m_145 : (Jvm.Cond.code ({ cls := "PortDrawer", name := "countOfKind", desc := "(I)I" } : Jvm.MethodName) prog_1_method_13_code (2 : Nat) (Option.some Jvm.ClassFile.FieldType.int)) ∈ tblG := m_t (i := 145) rfl rfl
theorem ms_7 : Cond.selects "PortDrawer" ⟨"PortDrawer", "countOfKind", "(I)I"⟩ ⟨"PortDrawer", "countOfKind", "(I)I"⟩ ∈ tblG := m_s (i := 7) rfl rfl
theorem m_142 : (Jvm.Cond.methodLink "PortDrawer" (132 : Nat) ({ cls := "PortDrawer", name := "countOfKind", desc := "(I)I" } : Jvm.MethodName)) ∈ tblG := m_t (i := 142) rfl rfl
theorem m_144 : (Jvm.Cond.instanceMethod ({ cls := "PortDrawer", name := "countOfKind", desc := "(I)I" } : Jvm.MethodName)) ∈ tblG := m_t (i := 144) rfl rfl
theorem m_106 : (Jvm.Cond.code ({ cls := "java/lang/Long", name := "bitCount", desc := "(J)I" } : Jvm.MethodName) prog_9_method_50_code (2 : Nat) (Option.some Jvm.ClassFile.FieldType.int)) ∈ tblG := m_t (i := 106) rfl rfl
theorem m_104 : (Jvm.Cond.methodLink "PortDrawer" (110 : Nat) ({ cls := "java/lang/Long", name := "bitCount", desc := "(J)I" } : Jvm.MethodName)) ∈ tblG := m_t (i := 104) rfl rfl
theorem m_105 : (Jvm.Cond.static ({ cls := "java/lang/Long", name := "bitCount", desc := "(J)I" } : Jvm.MethodName)) ∈ tblG := m_t (i := 105) rfl rfl
theorem m_10 : (Jvm.Cond.initialized "java/lang/Long") ∈ tblG := m_t (i := 10) rfl rfl
theorem m_141 : (Jvm.Cond.code ({ cls := "PortDrawer", name := "verdictsThatStay", desc := "()I" } : Jvm.MethodName) prog_1_method_14_code (3 : Nat) (Option.some Jvm.ClassFile.FieldType.int)) ∈ tblG := m_t (i := 141) rfl rfl
theorem ms_6 : Cond.selects "PortDrawer" ⟨"PortDrawer", "verdictsThatStay", "()I"⟩ ⟨"PortDrawer", "verdictsThatStay", "()I"⟩ ∈ tblG := m_s (i := 6) rfl rfl
theorem m_138 : (Jvm.Cond.methodLink "PortDrawer" (129 : Nat) ({ cls := "PortDrawer", name := "verdictsThatStay", desc := "()I" } : Jvm.MethodName)) ∈ tblG := m_t (i := 138) rfl rfl
theorem m_140 : (Jvm.Cond.instanceMethod ({ cls := "PortDrawer", name := "verdictsThatStay", desc := "()I" } : Jvm.MethodName)) ∈ tblG := m_t (i := 140) rfl rfl
theorem d_D_allParts_0 : decode b_D_allParts 0 = .ok (.lconst 1, 1) := by decide +kernel
theorem d_D_allParts_1 : decode b_D_allParts 1 = .ok (.aload_n 0, 1) := by decide +kernel
theorem d_D_allParts_2 : decode b_D_allParts 2 = .ok (.getfield 10, 3) := by decide +kernel
theorem d_D_allParts_5 : decode b_D_allParts 5 = .ok (.getfield 62, 3) := by decide +kernel
theorem d_D_allParts_8 : decode b_D_allParts 8 = .ok (.lshl, 1) := by decide +kernel
theorem d_D_allParts_9 : decode b_D_allParts 9 = .ok (.lconst 1, 1) := by decide +kernel
theorem d_D_allParts_10 : decode b_D_allParts 10 = .ok (.lsub, 1) := by decide +kernel
theorem d_D_allParts_11 : decode b_D_allParts 11 = .ok (.lreturn, 1) := by decide +kernel
theorem d_D_leftWithout_0 : decode b_D_leftWithout 0 = .ok (.aload_n 0, 1) := by decide +kernel
theorem d_D_leftWithout_1 : decode b_D_leftWithout 1 = .ok (.getfield 30, 3) := by decide +kernel
theorem d_D_leftWithout_4 : decode b_D_leftWithout 4 = .ok (.aload_n 0, 1) := by decide +kernel
theorem d_D_leftWithout_5 : decode b_D_leftWithout 5 = .ok (.getfield 19, 3) := by decide +kernel
theorem d_D_leftWithout_8 : decode b_D_leftWithout 8 = .ok (.iload_n 1, 1) := by decide +kernel
theorem d_D_leftWithout_9 : decode b_D_leftWithout 9 = .ok (.laload, 1) := by decide +kernel
theorem d_D_leftWithout_10 : decode b_D_leftWithout 10 = .ok (.ldc2_w 136, 3) := by decide +kernel
theorem d_D_leftWithout_13 : decode b_D_leftWithout 13 = .ok (.lxor, 1) := by decide +kernel
theorem d_D_leftWithout_14 : decode b_D_leftWithout 14 = .ok (.land, 1) := by decide +kernel
theorem d_D_leftWithout_15 : decode b_D_leftWithout 15 = .ok (.lreturn, 1) := by decide +kernel
theorem d_D_verdictOf_0 : decode b_D_verdictOf 0 = .ok (.iconst 0, 1) := by decide +kernel
theorem d_D_verdictOf_1 : decode b_D_verdictOf 1 = .ok (.istore_n 3, 1) := by decide +kernel
theorem d_D_verdictOf_2 : decode b_D_verdictOf 2 = .ok (.iconst 0, 1) := by decide +kernel
theorem d_D_verdictOf_3 : decode b_D_verdictOf 3 = .ok (.istore 4, 2) := by decide +kernel
theorem d_D_verdictOf_5 : decode b_D_verdictOf 5 = .ok (.iload 4, 2) := by decide +kernel
theorem d_D_verdictOf_7 : decode b_D_verdictOf 7 = .ok (.bipush 8, 2) := by decide +kernel
theorem d_D_verdictOf_9 : decode b_D_verdictOf 9 = .ok (.if_icmp .ge 30, 3) := by decide +kernel
theorem d_D_verdictOf_12 : decode b_D_verdictOf 12 = .ok (.lload_n 1, 1) := by decide +kernel
theorem d_D_verdictOf_13 : decode b_D_verdictOf 13 = .ok (.aload_n 0, 1) := by decide +kernel
theorem d_D_verdictOf_14 : decode b_D_verdictOf 14 = .ok (.getfield 23, 3) := by decide +kernel
theorem d_D_verdictOf_17 : decode b_D_verdictOf 17 = .ok (.iload 4, 2) := by decide +kernel
theorem d_D_verdictOf_19 : decode b_D_verdictOf 19 = .ok (.laload, 1) := by decide +kernel
theorem d_D_verdictOf_20 : decode b_D_verdictOf 20 = .ok (.land, 1) := by decide +kernel
theorem d_D_verdictOf_21 : decode b_D_verdictOf 21 = .ok (.lconst 0, 1) := by decide +kernel
theorem d_D_verdictOf_22 : decode b_D_verdictOf 22 = .ok (.lcmp, 1) := by decide +kernel
theorem d_D_verdictOf_23 : decode b_D_verdictOf 23 = .ok (.ifCond .eq 10, 3) := by decide +kernel
theorem d_D_verdictOf_26 : decode b_D_verdictOf 26 = .ok (.iload_n 3, 1) := by decide +kernel
theorem d_D_verdictOf_27 : decode b_D_verdictOf 27 = .ok (.iconst 1, 1) := by decide +kernel
theorem d_D_verdictOf_28 : decode b_D_verdictOf 28 = .ok (.iload 4, 2) := by decide +kernel
theorem d_D_verdictOf_30 : decode b_D_verdictOf 30 = .ok (.ishl, 1) := by decide +kernel
theorem d_D_verdictOf_31 : decode b_D_verdictOf 31 = .ok (.ior, 1) := by decide +kernel
theorem d_D_verdictOf_32 : decode b_D_verdictOf 32 = .ok (.istore_n 3, 1) := by decide +kernel
theorem d_D_verdictOf_33 : decode b_D_verdictOf 33 = .ok (.iinc 4 1, 3) := by decide +kernel
theorem d_D_verdictOf_36 : decode b_D_verdictOf 36 = .ok (.goto (-31), 3) := by decide +kernel
theorem d_D_verdictOf_39 : decode b_D_verdictOf 39 = .ok (.iload_n 3, 1) := by decide +kernel
theorem d_D_verdictOf_40 : decode b_D_verdictOf 40 = .ok (.ireturn, 1) := by decide +kernel
theorem d_D_staysWith_0 : decode b_D_staysWith 0 = .ok (.aload_n 0, 1) := by decide +kernel
theorem d_D_staysWith_1 : decode b_D_staysWith 1 = .ok (.getfield 26, 3) := by decide +kernel
theorem d_D_staysWith_4 : decode b_D_staysWith 4 = .ok (.aload_n 0, 1) := by decide +kernel
theorem d_D_staysWith_5 : decode b_D_staysWith 5 = .ok (.lload_n 1, 1) := by decide +kernel
theorem d_D_staysWith_6 : decode b_D_staysWith 6 = .ok (.invokevirtual 102, 3) := by decide +kernel
theorem d_D_staysWith_9 : decode b_D_staysWith 9 = .ok (.baload, 1) := by decide +kernel
theorem d_D_staysWith_10 : decode b_D_staysWith 10 = .ok (.ireturn, 1) := by decide +kernel
theorem d_D_firstThatMayGo_0 : decode b_D_firstThatMayGo 0 = .ok (.iconst 0, 1) := by decide +kernel
theorem d_D_firstThatMayGo_1 : decode b_D_firstThatMayGo 1 = .ok (.istore_n 1, 1) := by decide +kernel
theorem d_D_firstThatMayGo_2 : decode b_D_firstThatMayGo 2 = .ok (.iload_n 1, 1) := by decide +kernel
theorem d_D_firstThatMayGo_3 : decode b_D_firstThatMayGo 3 = .ok (.aload_n 0, 1) := by decide +kernel
theorem d_D_firstThatMayGo_4 : decode b_D_firstThatMayGo 4 = .ok (.getfield 10, 3) := by decide +kernel
theorem d_D_firstThatMayGo_7 : decode b_D_firstThatMayGo 7 = .ok (.getfield 62, 3) := by decide +kernel
theorem d_D_firstThatMayGo_10 : decode b_D_firstThatMayGo 10 = .ok (.if_icmp .ge 42, 3) := by decide +kernel
theorem d_D_firstThatMayGo_13 : decode b_D_firstThatMayGo 13 = .ok (.aload_n 0, 1) := by decide +kernel
theorem d_D_firstThatMayGo_14 : decode b_D_firstThatMayGo 14 = .ok (.getfield 30, 3) := by decide +kernel
theorem d_D_firstThatMayGo_17 : decode b_D_firstThatMayGo 17 = .ok (.iload_n 1, 1) := by decide +kernel
theorem d_D_firstThatMayGo_18 : decode b_D_firstThatMayGo 18 = .ok (.invokestatic 88, 3) := by decide +kernel
theorem d_D_firstThatMayGo_21 : decode b_D_firstThatMayGo 21 = .ok (.ifCond .eq 25, 3) := by decide +kernel
theorem d_D_firstThatMayGo_24 : decode b_D_firstThatMayGo 24 = .ok (.aload_n 0, 1) := by decide +kernel
theorem d_D_firstThatMayGo_25 : decode b_D_firstThatMayGo 25 = .ok (.iload_n 1, 1) := by decide +kernel
theorem d_D_firstThatMayGo_26 : decode b_D_firstThatMayGo 26 = .ok (.invokevirtual 119, 3) := by decide +kernel
theorem d_D_firstThatMayGo_29 : decode b_D_firstThatMayGo 29 = .ok (.lstore_n 2, 1) := by decide +kernel
theorem d_D_firstThatMayGo_30 : decode b_D_firstThatMayGo 30 = .ok (.lload_n 2, 1) := by decide +kernel
theorem d_D_firstThatMayGo_31 : decode b_D_firstThatMayGo 31 = .ok (.lconst 0, 1) := by decide +kernel
theorem d_D_firstThatMayGo_32 : decode b_D_firstThatMayGo 32 = .ok (.lcmp, 1) := by decide +kernel
theorem d_D_firstThatMayGo_33 : decode b_D_firstThatMayGo 33 = .ok (.ifCond .eq 13, 3) := by decide +kernel
theorem d_D_firstThatMayGo_36 : decode b_D_firstThatMayGo 36 = .ok (.aload_n 0, 1) := by decide +kernel
theorem d_D_firstThatMayGo_37 : decode b_D_firstThatMayGo 37 = .ok (.lload_n 2, 1) := by decide +kernel
theorem d_D_firstThatMayGo_38 : decode b_D_firstThatMayGo 38 = .ok (.invokevirtual 106, 3) := by decide +kernel
theorem d_D_firstThatMayGo_41 : decode b_D_firstThatMayGo 41 = .ok (.ifCond .eq 5, 3) := by decide +kernel
theorem d_D_firstThatMayGo_44 : decode b_D_firstThatMayGo 44 = .ok (.iload_n 1, 1) := by decide +kernel
theorem d_D_firstThatMayGo_45 : decode b_D_firstThatMayGo 45 = .ok (.ireturn, 1) := by decide +kernel
theorem d_D_firstThatMayGo_46 : decode b_D_firstThatMayGo 46 = .ok (.iinc 1 1, 3) := by decide +kernel
theorem d_D_firstThatMayGo_49 : decode b_D_firstThatMayGo 49 = .ok (.goto (-47), 3) := by decide +kernel
theorem d_D_firstThatMayGo_52 : decode b_D_firstThatMayGo 52 = .ok (.iconst (-1), 1) := by decide +kernel
theorem d_D_firstThatMayGo_53 : decode b_D_firstThatMayGo 53 = .ok (.ireturn, 1) := by decide +kernel
theorem d_D_verdictsThatStay_0 : decode b_D_verdictsThatStay 0 = .ok (.iconst 0, 1) := by decide +kernel
theorem d_D_verdictsThatStay_1 : decode b_D_verdictsThatStay 1 = .ok (.istore_n 1, 1) := by decide +kernel
theorem d_D_verdictsThatStay_2 : decode b_D_verdictsThatStay 2 = .ok (.iconst 0, 1) := by decide +kernel
theorem d_D_verdictsThatStay_3 : decode b_D_verdictsThatStay 3 = .ok (.istore_n 2, 1) := by decide +kernel
theorem d_D_verdictsThatStay_4 : decode b_D_verdictsThatStay 4 = .ok (.iload_n 2, 1) := by decide +kernel
theorem d_D_verdictsThatStay_5 : decode b_D_verdictsThatStay 5 = .ok (.sipush 256, 3) := by decide +kernel
theorem d_D_verdictsThatStay_8 : decode b_D_verdictsThatStay 8 = .ok (.if_icmp .ge 21, 3) := by decide +kernel
theorem d_D_verdictsThatStay_11 : decode b_D_verdictsThatStay 11 = .ok (.aload_n 0, 1) := by decide +kernel
theorem d_D_verdictsThatStay_12 : decode b_D_verdictsThatStay 12 = .ok (.getfield 26, 3) := by decide +kernel
theorem d_D_verdictsThatStay_15 : decode b_D_verdictsThatStay 15 = .ok (.iload_n 2, 1) := by decide +kernel
theorem d_D_verdictsThatStay_16 : decode b_D_verdictsThatStay 16 = .ok (.baload, 1) := by decide +kernel
theorem d_D_verdictsThatStay_17 : decode b_D_verdictsThatStay 17 = .ok (.ifCond .eq 6, 3) := by decide +kernel
theorem d_D_verdictsThatStay_20 : decode b_D_verdictsThatStay 20 = .ok (.iinc 1 1, 3) := by decide +kernel
theorem d_D_verdictsThatStay_23 : decode b_D_verdictsThatStay 23 = .ok (.iinc 2 1, 3) := by decide +kernel
theorem d_D_verdictsThatStay_26 : decode b_D_verdictsThatStay 26 = .ok (.goto (-22), 3) := by decide +kernel
theorem d_D_verdictsThatStay_29 : decode b_D_verdictsThatStay 29 = .ok (.iload_n 1, 1) := by decide +kernel
theorem d_D_verdictsThatStay_30 : decode b_D_verdictsThatStay 30 = .ok (.ireturn, 1) := by decide +kernel
theorem d_D_countOfKind_0 : decode b_D_countOfKind 0 = .ok (.iload_n 1, 1) := by decide +kernel
theorem d_D_countOfKind_1 : decode b_D_countOfKind 1 = .ok (.bipush 10, 2) := by decide +kernel
theorem d_D_countOfKind_3 : decode b_D_countOfKind 3 = .ok (.if_icmp .lt 9, 3) := by decide +kernel
theorem d_D_countOfKind_6 : decode b_D_countOfKind 6 = .ok (.iload_n 1, 1) := by decide +kernel
theorem d_D_countOfKind_7 : decode b_D_countOfKind 7 = .ok (.bipush 17, 2) := by decide +kernel
theorem d_D_countOfKind_9 : decode b_D_countOfKind 9 = .ok (.if_icmp .lt 5, 3) := by decide +kernel
theorem d_D_countOfKind_12 : decode b_D_countOfKind 12 = .ok (.iconst (-1), 1) := by decide +kernel
theorem d_D_countOfKind_13 : decode b_D_countOfKind 13 = .ok (.ireturn, 1) := by decide +kernel
theorem d_D_countOfKind_14 : decode b_D_countOfKind 14 = .ok (.aload_n 0, 1) := by decide +kernel
theorem d_D_countOfKind_15 : decode b_D_countOfKind 15 = .ok (.getfield 10, 3) := by decide +kernel
theorem d_D_countOfKind_18 : decode b_D_countOfKind 18 = .ok (.iload_n 1, 1) := by decide +kernel
theorem d_D_countOfKind_19 : decode b_D_countOfKind 19 = .ok (.bipush 10, 2) := by decide +kernel
theorem d_D_countOfKind_21 : decode b_D_countOfKind 21 = .ok (.isub, 1) := by decide +kernel
theorem d_D_countOfKind_22 : decode b_D_countOfKind 22 = .ok (.aload_n 0, 1) := by decide +kernel
theorem d_D_countOfKind_23 : decode b_D_countOfKind 23 = .ok (.getfield 10, 3) := by decide +kernel
theorem d_D_countOfKind_26 : decode b_D_countOfKind 26 = .ok (.getfield 62, 3) := by decide +kernel
theorem d_D_countOfKind_29 : decode b_D_countOfKind 29 = .ok (.invokevirtual 78, 3) := by decide +kernel
theorem d_D_countOfKind_32 : decode b_D_countOfKind 32 = .ok (.ireturn, 1) := by decide +kernel
theorem d_D_now_0 : decode b_D_now 0 = .ok (.aload_n 0, 1) := by decide +kernel
theorem d_D_now_1 : decode b_D_now 1 = .ok (.aload_n 0, 1) := by decide +kernel
theorem d_D_now_2 : decode b_D_now 2 = .ok (.getfield 30, 3) := by decide +kernel
theorem d_D_now_5 : decode b_D_now 5 = .ok (.invokevirtual 102, 3) := by decide +kernel
theorem d_D_now_8 : decode b_D_now 8 = .ok (.ireturn, 1) := by decide +kernel
theorem d_D_left_0 : decode b_D_left 0 = .ok (.iconst 0, 1) := by decide +kernel
theorem d_D_left_1 : decode b_D_left 1 = .ok (.istore_n 2, 1) := by decide +kernel
theorem d_D_left_2 : decode b_D_left 2 = .ok (.iconst 0, 1) := by decide +kernel
theorem d_D_left_3 : decode b_D_left 3 = .ok (.istore_n 3, 1) := by decide +kernel
theorem d_D_left_4 : decode b_D_left 4 = .ok (.iload_n 3, 1) := by decide +kernel
theorem d_D_left_5 : decode b_D_left 5 = .ok (.aload_n 0, 1) := by decide +kernel
theorem d_D_left_6 : decode b_D_left 6 = .ok (.getfield 10, 3) := by decide +kernel
theorem d_D_left_9 : decode b_D_left 9 = .ok (.getfield 62, 3) := by decide +kernel
theorem d_D_left_12 : decode b_D_left 12 = .ok (.if_icmp .ge 30, 3) := by decide +kernel
theorem d_D_left_15 : decode b_D_left 15 = .ok (.aload_n 0, 1) := by decide +kernel
theorem d_D_left_16 : decode b_D_left 16 = .ok (.getfield 30, 3) := by decide +kernel
theorem d_D_left_19 : decode b_D_left 19 = .ok (.iload_n 3, 1) := by decide +kernel
theorem d_D_left_20 : decode b_D_left 20 = .ok (.invokestatic 88, 3) := by decide +kernel
theorem d_D_left_23 : decode b_D_left 23 = .ok (.ifCond .eq 13, 3) := by decide +kernel
theorem d_D_left_26 : decode b_D_left 26 = .ok (.iload_n 2, 1) := by decide +kernel
theorem d_D_left_27 : decode b_D_left 27 = .ok (.iload_n 1, 1) := by decide +kernel
theorem d_D_left_28 : decode b_D_left 28 = .ok (.if_icmp .ne 5, 3) := by decide +kernel
theorem d_D_left_31 : decode b_D_left 31 = .ok (.iload_n 3, 1) := by decide +kernel
theorem d_D_left_32 : decode b_D_left 32 = .ok (.ireturn, 1) := by decide +kernel
theorem d_D_left_33 : decode b_D_left 33 = .ok (.iinc 2 1, 3) := by decide +kernel
theorem d_D_left_36 : decode b_D_left 36 = .ok (.iinc 3 1, 3) := by decide +kernel
theorem d_D_left_39 : decode b_D_left 39 = .ok (.goto (-35), 3) := by decide +kernel
theorem d_D_left_42 : decode b_D_left 42 = .ok (.iconst (-1), 1) := by decide +kernel
theorem d_D_left_43 : decode b_D_left 43 = .ok (.ireturn, 1) := by decide +kernel
theorem d_D_minimal_0 : decode b_D_minimal 0 = .ok (.aload_n 0, 1) := by decide +kernel
theorem d_D_minimal_1 : decode b_D_minimal 1 = .ok (.getfield 30, 3) := by decide +kernel
theorem d_D_minimal_4 : decode b_D_minimal 4 = .ok (.lconst 0, 1) := by decide +kernel
theorem d_D_minimal_5 : decode b_D_minimal 5 = .ok (.lcmp, 1) := by decide +kernel
theorem d_D_minimal_6 : decode b_D_minimal 6 = .ok (.ifCond .eq 26, 3) := by decide +kernel
theorem d_D_minimal_9 : decode b_D_minimal 9 = .ok (.aload_n 0, 1) := by decide +kernel
theorem d_D_minimal_10 : decode b_D_minimal 10 = .ok (.aload_n 0, 1) := by decide +kernel
theorem d_D_minimal_11 : decode b_D_minimal 11 = .ok (.getfield 30, 3) := by decide +kernel
theorem d_D_minimal_14 : decode b_D_minimal 14 = .ok (.invokevirtual 106, 3) := by decide +kernel
theorem d_D_minimal_17 : decode b_D_minimal 17 = .ok (.ifCond .eq 15, 3) := by decide +kernel
theorem d_D_minimal_20 : decode b_D_minimal 20 = .ok (.aload_n 0, 1) := by decide +kernel
theorem d_D_minimal_21 : decode b_D_minimal 21 = .ok (.invokevirtual 115, 3) := by decide +kernel
theorem d_D_minimal_24 : decode b_D_minimal 24 = .ok (.iconst (-1), 1) := by decide +kernel
theorem d_D_minimal_25 : decode b_D_minimal 25 = .ok (.if_icmp .ne 7, 3) := by decide +kernel
theorem d_D_minimal_28 : decode b_D_minimal 28 = .ok (.iconst 1, 1) := by decide +kernel
theorem d_D_minimal_29 : decode b_D_minimal 29 = .ok (.goto 4, 3) := by decide +kernel
theorem d_D_minimal_32 : decode b_D_minimal 32 = .ok (.iconst 0, 1) := by decide +kernel
theorem d_D_minimal_33 : decode b_D_minimal 33 = .ok (.ireturn, 1) := by decide +kernel
theorem d_D_count_0 : decode b_D_count 0 = .ok (.iload_n 1, 1) := by decide +kernel
theorem d_D_count_1 : decode b_D_count 1 = .ok (.tableswitch 83 0 4 #[35, 43, 51, 67, 78], 35) := by decide +kernel
theorem d_D_count_36 : decode b_D_count 36 = .ok (.aload_n 0, 1) := by decide +kernel
theorem d_D_count_37 : decode b_D_count 37 = .ok (.getfield 10, 3) := by decide +kernel
theorem d_D_count_40 : decode b_D_count 40 = .ok (.getfield 62, 3) := by decide +kernel
theorem d_D_count_43 : decode b_D_count 43 = .ok (.ireturn, 1) := by decide +kernel
theorem d_D_count_44 : decode b_D_count 44 = .ok (.aload_n 0, 1) := by decide +kernel
theorem d_D_count_45 : decode b_D_count 45 = .ok (.getfield 30, 3) := by decide +kernel
theorem d_D_count_48 : decode b_D_count 48 = .ok (.invokestatic 110, 3) := by decide +kernel
theorem d_D_count_51 : decode b_D_count 51 = .ok (.ireturn, 1) := by decide +kernel
theorem d_D_count_52 : decode b_D_count 52 = .ok (.aload_n 0, 1) := by decide +kernel
theorem d_D_count_53 : decode b_D_count 53 = .ok (.getfield 10, 3) := by decide +kernel
theorem d_D_count_56 : decode b_D_count 56 = .ok (.iconst 5, 1) := by decide +kernel
theorem d_D_count_57 : decode b_D_count 57 = .ok (.aload_n 0, 1) := by decide +kernel
theorem d_D_count_58 : decode b_D_count 58 = .ok (.getfield 10, 3) := by decide +kernel
theorem d_D_count_61 : decode b_D_count 61 = .ok (.getfield 62, 3) := by decide +kernel
theorem d_D_count_64 : decode b_D_count 64 = .ok (.invokevirtual 78, 3) := by decide +kernel
theorem d_D_count_67 : decode b_D_count 67 = .ok (.ireturn, 1) := by decide +kernel
theorem d_D_count_68 : decode b_D_count 68 = .ok (.aload_n 0, 1) := by decide +kernel
theorem d_D_count_69 : decode b_D_count 69 = .ok (.getfield 23, 3) := by decide +kernel
theorem d_D_count_72 : decode b_D_count 72 = .ok (.bipush 7, 2) := by decide +kernel
theorem d_D_count_74 : decode b_D_count 74 = .ok (.laload, 1) := by decide +kernel
theorem d_D_count_75 : decode b_D_count 75 = .ok (.invokestatic 110, 3) := by decide +kernel
theorem d_D_count_78 : decode b_D_count 78 = .ok (.ireturn, 1) := by decide +kernel
theorem d_D_count_79 : decode b_D_count 79 = .ok (.aload_n 0, 1) := by decide +kernel
theorem d_D_count_80 : decode b_D_count 80 = .ok (.invokevirtual 129, 3) := by decide +kernel
theorem d_D_count_83 : decode b_D_count 83 = .ok (.ireturn, 1) := by decide +kernel
theorem d_D_count_84 : decode b_D_count 84 = .ok (.aload_n 0, 1) := by decide +kernel
theorem d_D_count_85 : decode b_D_count 85 = .ok (.iload_n 1, 1) := by decide +kernel
theorem d_D_count_86 : decode b_D_count 86 = .ok (.invokevirtual 132, 3) := by decide +kernel
theorem d_D_count_89 : decode b_D_count 89 = .ok (.ireturn, 1) := by decide +kernel
set_option maxHeartbeats 4000000 in
set_option maxRecDepth 100000 in
/-- allParts -/
theorem c_D_allParts (l : Launch) (dC : Nat → ClassId) (dI : Nat → Nat → Nat) (jd jh jh2 jg jb jy : Nat) (sd w : Int64) (jt jk jv jr n : Nat)   : Met l y_D_allParts w_D_allParts ({ frames := 0, cells := 0, slots := 0, locals := 0 }) (ro_P dC dI [.ref jd] [(jd, .inr (2, [.long sd, .ref jh, .ref jh2, .ref jg, .ref jb, .ref jy, .long w])), (jh, .inr (1, [.ref jt, .ref jk, .ref jv, .ref jr, .int (nI n)]))] []) (vp_Sl (fun r => r = allW n)) 0 0 (fun _ => False) := by
  refine Met.ofW (cc := b_D_allParts) (maxL := 1) (ret := (Option.some Jvm.ClassFile.FieldType.long)) (by decide) rfl ?_
  intro p e s m args below meth c s₁ B0 hml hv0
  obtain ⟨rfl, hP, hK, hN⟩ := hv0
  have hx := B0.exec
  have hb := B0.bytes
  have hr := B0.returns
  have hts := atoms_spec (ws := w_D_allParts) B0.pre
  have hown : s.vm.findClass R_D = some m.cls := findClass_of_methodNamed B0.named
  have hlocks := B0.notSynchronized
  have hP : va_P (dC, dI) classes [(jd, .inr (2, [.long sd, .ref jh, .ref jh2, .ref jg, .ref jb, .ref jy, .long w])), (jh, .inr (1, [.ref jt, .ref jk, .ref jv, .ref jr, .int (nI n)]))] s.heap := hP
  have hl := lv_entry ([.ref jd]) (n := 1) (Nat.le_of_ble_eq_true rfl)
  rw [lg_entry_eq]
  generalize (lg_sl ([.ref jd]) ++ List.replicate (1 - (lg_sl ([.ref jd])).length) Slot.unset).toArray = ls at hl ⊢
  have hl : lv_has ls 1 [(0, .ref jd)] := hl
  refine lv_lconst (v := 1) hx hb d_D_allParts_0 (by decide +kernel) ?_
  refine lv_aload_n hx hb d_D_allParts_1 rfl (lv_at hl 0 rfl) ?_
  refine va_get (D := (dC, dI)) (ci := 2) (v := .ref jh) (C := R_D) (T := F_D) (N := 7) hx hb hts (lay_D _) hown hK hP 0 rfl rfl 1 (by decide) (hts _ (List.mem_cons_of_mem _ m_57)) (fun _ h9 => h9) rfl d_D_allParts_2 ?_
  refine va_getN (D := (dC, dI)) (ci := 1) (v := .int (nI n)) (C := R_H) (T := F_H) (N := 5) hx hb hts (lay_H _) hown hK hP 1 rfl rfl 4 (by decide) (hN.use (by decide +kernel : (Jvm.Cond.fieldLinkNest "PortDrawer" (62 : Nat) "PortDrawer$Harbour" "parts" "I" "PortDrawer") ∈ NWl)) (fun _ h9 => h9) rfl d_D_allParts_5 ?_
  refine lv_lshl hx hb d_D_allParts_8 rfl ?_
  refine lv_lconst (v := 1) hx hb d_D_allParts_9 (by decide +kernel) ?_
  refine lv_lsub hx hb d_D_allParts_10 ?_
  exact W.lret (v := (1 <<< ((nI n).toInt64 &&& 63)) - 1) hx hb hr (fun t ht hW => ⟨(1 <<< ((nI n).toInt64 &&& 63)) - 1, rfl, rfl, ht⟩) (fun _ h => nomatch h) d_D_allParts_11
set_option maxHeartbeats 4000000 in
set_option maxRecDepth 100000 in
/-- leftWithout -/
theorem c_D_leftWithout (l : Launch) (dC : Nat → ClassId) (dI : Nat → Nat → Nat) (jd jh jh2 jg jb jy : Nat) (sd w : Int64) (cg : ClassId) (G : Nat → Int64) (i0 : Nat) (hi0 : i0 < 43) : Met l y_D_leftWithout w_D_leftWithout ({ frames := 0, cells := 0, slots := 0, locals := 0 }) (ro_P dC dI [.ref jd, .int (nI i0)] [(jd, .inr (2, [.long sd, .ref jh, .ref jh2, .ref jg, .ref jb, .ref jy, .long w])), (jg, .inl (cg, 43, .inr (.inl G)))] [(cg, .long)]) (vp_Sl (fun r => r = noW w (G i0))) 0 0 (fun _ => False) := by
  refine Met.ofW (cc := b_D_leftWithout) (maxL := 2) (ret := (Option.some Jvm.ClassFile.FieldType.long)) (by decide) rfl ?_
  intro p e s m args below meth c s₁ B0 hml hv0
  obtain ⟨rfl, hP, hK, hN⟩ := hv0
  have hx := B0.exec
  have hb := B0.bytes
  have hr := B0.returns
  have hts := atoms_spec (ws := w_D_leftWithout) B0.pre
  have hown : s.vm.findClass R_D = some m.cls := findClass_of_methodNamed B0.named
  have hlocks := B0.notSynchronized
  have hP : va_P (dC, dI) classes [(jd, .inr (2, [.long sd, .ref jh, .ref jh2, .ref jg, .ref jb, .ref jy, .long w])), (jg, .inl (cg, 43, .inr (.inl G)))] s.heap := hP
  have hl := lv_entry ([.ref jd, .int (nI i0)]) (n := 2) (Nat.le_of_ble_eq_true rfl)
  rw [lg_entry_eq]
  generalize (lg_sl ([.ref jd, .int (nI i0)]) ++ List.replicate (2 - (lg_sl ([.ref jd, .int (nI i0)])).length) Slot.unset).toArray = ls at hl ⊢
  have hl : lv_has ls 2 [(0, .ref jd), (1, .int (nI i0))] := hl
  refine lv_aload_n hx hb d_D_leftWithout_0 rfl (lv_at hl 0 rfl) ?_
  refine va_get (D := (dC, dI)) (ci := 2) (v := .long w) (C := R_D) (T := F_D) (N := 7) hx hb hts (lay_D _) hown hK hP 0 rfl rfl 6 (by decide) (hts _ (List.mem_cons_of_mem _ m_62)) (fun _ h9 => h9) rfl d_D_leftWithout_1 ?_
  refine lv_aload_n hx hb d_D_leftWithout_4 rfl (lv_at hl 0 rfl) ?_
  refine va_get (D := (dC, dI)) (ci := 2) (v := .ref jg) (C := R_D) (T := F_D) (N := 7) hx hb hts (lay_D _) hown hK hP 0 rfl rfl 3 (by decide) (hts _ (List.mem_cons_of_mem _ m_59)) (fun _ h9 => h9) rfl d_D_leftWithout_5 ?_
  refine lv_iload_n hx hb d_D_leftWithout_8 rfl (lv_at hl 1 rfl) ?_
  refine va_lald hx hb hK hP 1 0 rfl rfl (vp_in_nI (by omega) (by omega)) d_D_leftWithout_9 ?_
  refine lv_topl (fun w_1 ew_1 => ?_)
  rw [nI_clamp (by omega)] at ew_1
  have ew_1 := ew_1.symm
  subst ew_1
  refine lv_ldc2 (v := -1) hx hb hown (hts _ (List.mem_cons_of_mem _ m_121)) d_D_leftWithout_10 ?_
  refine lv_lxor hx hb d_D_leftWithout_13 ?_
  refine lv_land hx hb d_D_leftWithout_14 ?_
  exact W.lret (v := w &&& ((G i0) ^^^ (-1))) hx hb hr (fun t ht hW => ⟨w &&& ((G i0) ^^^ (-1)), rfl, rfl, ht⟩) (fun _ h => nomatch h) d_D_leftWithout_15
set_option maxHeartbeats 4000000 in
set_option maxRecDepth 100000 in
/-- verdictOf -/
theorem c_D_verdictOf (l : Launch) (dC : Nat → ClassId) (dI : Nat → Nat → Nat) (jd jh jh2 jg jb jy : Nat) (sd w : Int64) (cb : ClassId) (B : Nat → Int64) (v : Int64)  : Met l y_D_verdictOf w_D_verdictOf ({ frames := 0, cells := 0, slots := 0, locals := 0 }) (ro_P dC dI [.ref jd, .long v] [(jd, .inr (2, [.long sd, .ref jh, .ref jh2, .ref jg, .ref jb, .ref jy, .long w])), (jb, .inl (cb, 8, .inr (.inl B)))] [(cb, .long)]) (vp_Si (fun r => r = vdI v B)) 0 0 (fun _ => False) := by
  refine Met.ofW (cc := b_D_verdictOf) (maxL := 5) (ret := (Option.some Jvm.ClassFile.FieldType.int)) (by decide) rfl ?_
  intro p e s m args below meth c s₁ B0 hml hv0
  obtain ⟨rfl, hP, hK, hN⟩ := hv0
  have hx := B0.exec
  have hb := B0.bytes
  have hr := B0.returns
  have hts := atoms_spec (ws := w_D_verdictOf) B0.pre
  have hown : s.vm.findClass R_D = some m.cls := findClass_of_methodNamed B0.named
  have hlocks := B0.notSynchronized
  have hP : va_P (dC, dI) classes [(jd, .inr (2, [.long sd, .ref jh, .ref jh2, .ref jg, .ref jb, .ref jy, .long w])), (jb, .inl (cb, 8, .inr (.inl B)))] s.heap := hP
  have hl := lv_entry ([.ref jd, .long v]) (n := 5) (Nat.le_of_ble_eq_true rfl)
  rw [lg_entry_eq]
  generalize (lg_sl ([.ref jd, .long v]) ++ List.replicate (5 - (lg_sl ([.ref jd, .long v])).length) Slot.unset).toArray = ls at hl ⊢
  have hl : lv_has ls 5 [(0, .ref jd), (1, .long v)] := hl
  refine lv_iconst (v := nI 0) hx hb d_D_verdictOf_0 (by decide +kernel) ?_
  refine lv_istore_n (lv' := [(3, .int (nI 0)), (0, .ref jd), (1, .long v)]) hx hb d_D_verdictOf_1 rfl hl (by decide) rfl (fun ls hl => ?_)
  refine lv_iconst (v := nI 0) hx hb d_D_verdictOf_2 (by decide +kernel) ?_
  refine lv_istore (lv' := [(4, .int (nI 0)), (3, .int (nI 0)), (0, .ref jd), (1, .long v)]) hx hb d_D_verdictOf_3 hl (by decide) rfl (fun ls hl => ?_)
  have lp_5 : ∀ (k9_5 : Nat), ∀ (i : Nat), 8 - i < k9_5 → (i ≤ 8) → ∀ (ls : Array Slot), lv_has ls 5 [(0, .ref jd), (1, .long v), (3, .int (vdL v B i)), (4, .int (nI i))] → W p l e (headSpec w_D_verdictOf ({ frames := 0, cells := 0, slots := 0, locals := 0 })).room s m ([.ref jd, .long v]).toArray below meth c s.heap [] 0 0 (MQ below (vp_Si (fun r => r = vdI v B)) ([.ref jd, .long v]).toArray s 0 0 (fun _ => False)) (F0 m 5 ls []) := by
    intro k9_5
    induction k9_5 with
    | zero =>
      intro i hk9
      exact absurd hk9 (Nat.not_lt_zero _)
    | succ k9_5 ih_5 =>
      intro i hk9_5 hi ls hl
      refine lv_iload hx hb d_D_verdictOf_5 (lv_at hl 3 rfl) ?_
      refine lv_bipush (v := nI 8) hx hb d_D_verdictOf_7 (by decide +kernel) ?_
      refine lv_icmp_ge (tgt := 39) hx hb d_D_verdictOf_9 (by decide) (fun c_9 => ?_) (fun c_9 => ?_)
      · skip
        have c_9 := (nI_leI (by omega) (by omega)).mp c_9
        refine lv_iload_n hx hb d_D_verdictOf_39 rfl (lv_at hl 2 rfl) ?_
        exact W.iret (v := vdL v B i) hx hb hr (fun t ht hW => ⟨vdL v B i, rfl, (by rw [show i = 8 by omega]; rfl), ht⟩) (fun _ h => nomatch h) d_D_verdictOf_40
      · skip
        have c_9 := (not_congr (nI_leI (by omega) (by omega))).mp c_9
        refine lv_lload_n hx hb d_D_verdictOf_12 rfl (lv_at hl 1 rfl) ?_
        refine lv_aload_n hx hb d_D_verdictOf_13 rfl (lv_at hl 0 rfl) ?_
        refine va_get (D := (dC, dI)) (ci := 2) (v := .ref jb) (C := R_D) (T := F_D) (N := 7) hx hb hts (lay_D _) hown hK hP 0 rfl rfl 4 (by decide) (hts _ (List.mem_cons_of_mem _ m_60)) (fun _ h9 => h9) rfl d_D_verdictOf_14 ?_
        refine lv_iload hx hb d_D_verdictOf_17 (lv_at hl 3 rfl) ?_
        refine va_lald hx hb hK hP 1 0 rfl rfl (vp_in_nI (by omega) (by omega)) d_D_verdictOf_19 ?_
        refine lv_topl (fun w_1 ew_1 => ?_)
        rw [nI_clamp (by omega)] at ew_1
        have ew_1 := ew_1.symm
        subst ew_1
        refine lv_land hx hb d_D_verdictOf_20 ?_
        refine lv_lconst (v := 0) hx hb d_D_verdictOf_21 (by decide +kernel) ?_
        refine W.lcmp hx hb d_D_verdictOf_22 ?_
        refine lv_if_eq (tgt := 33) hx hb d_D_verdictOf_23 (by decide) (fun c_23 => ?_) (fun c_23 => ?_)
        · skip
          have c_23 := lc_eq.mp c_23
          rw [show vdL v B i = vdL v B (i + 1) from ((vdL_z c_23).symm)] at hl
          refine lv_iinc (v := nI (i + 1)) (lv' := [(4, .int (nI (i + 1))), (0, .ref jd), (1, .long v), (3, .int (vdL v B (i + 1)))]) hx hb d_D_verdictOf_33 hl (k := 3) rfl (nI_1 _) (by decide) rfl (fun ls hl => ?_)
          refine lv_goto (tgt := 5) hx hb d_D_verdictOf_36 (by decide) ?_
          exact ih_5 (i + 1) (by omega) (by first | assumption | omega) ls (lv_sub (l' := [(0, .ref jd), (1, .long v), (3, .int (vdL v B (i + 1))), (4, .int (nI (i + 1)))]) hl [1, 2, 3, 0] rfl)
        · skip
          have c_23 := (not_congr lc_eq).mp c_23
          refine lv_iload_n hx hb d_D_verdictOf_26 rfl (lv_at hl 2 rfl) ?_
          refine lv_iconst (v := nI 1) hx hb d_D_verdictOf_27 (by decide +kernel) ?_
          refine lv_iload hx hb d_D_verdictOf_28 (lv_at hl 3 rfl) ?_
          refine lv_ishl hx hb d_D_verdictOf_30 ?_
          refine lv_ior hx hb d_D_verdictOf_31 ?_
          refine lv_topi (fun w_2 ew_2 => ?_)
          have ew_2 : (vdL v B (i + 1)) = w_2 := (ew_2.trans ((vdL_n c_23).symm)).symm
          subst ew_2
          refine lv_istore_n (lv' := [(3, .int (vdL v B (i + 1))), (0, .ref jd), (1, .long v), (4, .int (nI i))]) hx hb d_D_verdictOf_32 rfl hl (by decide) rfl (fun ls hl => ?_)
          refine lv_iinc (v := nI (i + 1)) (lv' := [(4, .int (nI (i + 1))), (3, .int (vdL v B (i + 1))), (0, .ref jd), (1, .long v)]) hx hb d_D_verdictOf_33 hl (k := 3) rfl (nI_1 _) (by decide) rfl (fun ls hl => ?_)
          refine lv_goto (tgt := 5) hx hb d_D_verdictOf_36 (by decide) ?_
          exact ih_5 (i + 1) (by omega) (by first | assumption | omega) ls (lv_sub (l' := [(0, .ref jd), (1, .long v), (3, .int (vdL v B (i + 1))), (4, .int (nI (i + 1)))]) hl [2, 3, 1, 0] rfl)
  exact lp_5 ((8 - 0) + 1) 0 (by omega) (by first | assumption | omega) ls (lv_sub (l' := [(0, .ref jd), (1, .long v), (3, .int (vdL v B 0)), (4, .int (nI 0))]) hl [2, 3, 1, 0] rfl)
set_option maxHeartbeats 4000000 in
set_option maxRecDepth 100000 in
/-- staysWith -/
theorem c_D_staysWith (l : Launch) (dC : Nat → ClassId) (dI : Nat → Nat → Nat) (jd jh jh2 jg jb jy : Nat) (sd w : Int64) (cb cy : ClassId) (B : Nat → Int64) (S : Nat → Bool) (v : Int64)  : Met l y_D_staysWith w_D_staysWith ({ frames := 1, cells := 0, slots := 0, locals := 24 }) (ro_P dC dI [.ref jd, .long v] [(jd, .inr (2, [.long sd, .ref jh, .ref jh2, .ref jg, .ref jb, .ref jy, .long w])), (jb, .inl (cb, 8, .inr (.inl B))), (jy, .inl (cy, 256, .inl (bF S)))] [(cb, .long), (cy, .boolean)]) (vp_Si (fun r => r = bI (syB S B v))) 0 0 (fun _ => False) := by
  refine Met.ofW (cc := b_D_staysWith) (maxL := 3) (ret := (Option.some Jvm.ClassFile.FieldType.boolean)) (by decide) rfl ?_
  intro p e s m args below meth c s₁ B0 hml hv0
  obtain ⟨rfl, hP, hK, hN⟩ := hv0
  have hx := B0.exec
  have hb := B0.bytes
  have hr := B0.returns
  have hts := atoms_spec (ws := w_D_staysWith) B0.pre
  have hown : s.vm.findClass R_D = some m.cls := findClass_of_methodNamed B0.named
  have hlocks := B0.notSynchronized
  have hP : va_P (dC, dI) classes [(jd, .inr (2, [.long sd, .ref jh, .ref jh2, .ref jg, .ref jb, .ref jy, .long w])), (jb, .inl (cb, 8, .inr (.inl B))), (jy, .inl (cy, 256, .inl (bF S)))] s.heap := hP
  have hl := lv_entry ([.ref jd, .long v]) (n := 3) (Nat.le_of_ble_eq_true rfl)
  rw [lg_entry_eq]
  generalize (lg_sl ([.ref jd, .long v]) ++ List.replicate (3 - (lg_sl ([.ref jd, .long v])).length) Slot.unset).toArray = ls at hl ⊢
  have hl : lv_has ls 3 [(0, .ref jd), (1, .long v)] := hl
  refine lv_aload_n hx hb d_D_staysWith_0 rfl (lv_at hl 0 rfl) ?_
  refine va_get (D := (dC, dI)) (ci := 2) (v := .ref jy) (C := R_D) (T := F_D) (N := 7) hx hb hts (lay_D _) hown hK hP 0 rfl rfl 5 (by decide) (hts _ (List.mem_cons_of_mem _ m_61)) (fun _ h9 => h9) rfl d_D_staysWith_1 ?_
  refine lv_aload_n hx hb d_D_staysWith_4 rfl (lv_at hl 0 rfl) ?_
  refine lv_lload_n hx hb d_D_staysWith_5 rfl (lv_at hl 1 rfl) ?_
  have hPc := hP.sub (ws' := [(jd, .inr (2, [.long sd, .ref jh, .ref jh2, .ref jg, .ref jb, .ref jy, .long w])), (jb, .inl (cb, 8, .inr (.inl B)))]) [0, 1] rfl
  have hKc := hK.sub (tys' := [(cb, .long)]) [0] rfl
  refine vp_callSi (W.runV (As := [.long v]) (rest := [.ref jy]) ⟨hx, hb, hml, hown, hts⟩ (c_D_verdictOf l dC dI jd jh jh2 jg jb jy sd w cb B v) (cwV 1 hts (g_V big_w m_88 m_90 ms_0 m_1 m_91) rfl rfl rfl (by decide +kernel) ⟨Nat.le_of_ble_eq_true rfl, Nat.le_of_ble_eq_true rfl⟩) (ro_V hPc hKc hN (va_recv hKc hPc (ci := 2) (q0 := 0) rfl rfl)) rfl rfl hl.1 rfl (lv_room (Nat.le_of_ble_eq_true rfl)) d_D_staysWith_6 ⟨Nat.le_of_ble_eq_true rfl, Nat.le_of_ble_eq_true rfl⟩) (fun r_1 er_1 => ?_)
  have er_1 := er_1.symm
  subst er_1
  refine va_zald hx hb hK hP 2 1 rfl rfl (vdI_in v B) d_D_staysWith_9 ?_
  refine lv_topi (fun w_2 ew_2 => ?_)
  have ew_2 : (bI (syB S B v)) = w_2 := (ew_2.trans (rfl)).symm
  subst ew_2
  exact W.zret (v := bI (syB S B v)) (ty := .boolean) hx hb hr (bI_nar _) (fun t ht hW => ⟨bI (syB S B v), rfl, rfl, ht⟩) (fun _ h => nomatch h) d_D_staysWith_10
set_option maxHeartbeats 4000000 in
set_option maxRecDepth 100000 in
/-- firstThatMayGo -/
theorem c_D_firstThatMayGo (l : Launch) (dC : Nat → ClassId) (dI : Nat → Nat → Nat) (jd jh jh2 jg jb jy : Nat) (sd w : Int64) (jt jk jv jr n : Nat) (cg cb cy : ClassId) (G B : Nat → Int64) (S : Nat → Bool) (hn : n ≤ 43) : Met l y_D_firstThatMayGo w_D_firstThatMayGo ({ frames := 2, cells := 0, slots := 0, locals := 46 }) (ro_P dC dI [.ref jd] [(jd, .inr (2, [.long sd, .ref jh, .ref jh2, .ref jg, .ref jb, .ref jy, .long w])), (jh, .inr (1, [.ref jt, .ref jk, .ref jv, .ref jr, .int (nI n)])), (jg, .inl (cg, 43, .inr (.inl G))), (jb, .inl (cb, 8, .inr (.inl B))), (jy, .inl (cy, 256, .inl (bF S)))] [(cg, .long), (cb, .long), (cy, .boolean)]) (vp_Si (fun r => r = oI (fgO S G B n w))) 0 0 (fun _ => False) := by
  refine Met.ofW (cc := b_D_firstThatMayGo) (maxL := 4) (ret := (Option.some Jvm.ClassFile.FieldType.int)) (by decide) rfl ?_
  intro p e s m args below meth c s₁ B0 hml hv0
  obtain ⟨rfl, hP, hK, hN⟩ := hv0
  have hx := B0.exec
  have hb := B0.bytes
  have hr := B0.returns
  have hts := atoms_spec (ws := w_D_firstThatMayGo) B0.pre
  have hown : s.vm.findClass R_D = some m.cls := findClass_of_methodNamed B0.named
  have hlocks := B0.notSynchronized
  have hP : va_P (dC, dI) classes [(jd, .inr (2, [.long sd, .ref jh, .ref jh2, .ref jg, .ref jb, .ref jy, .long w])), (jh, .inr (1, [.ref jt, .ref jk, .ref jv, .ref jr, .int (nI n)])), (jg, .inl (cg, 43, .inr (.inl G))), (jb, .inl (cb, 8, .inr (.inl B))), (jy, .inl (cy, 256, .inl (bF S)))] s.heap := hP
  have hl := lv_entry ([.ref jd]) (n := 4) (Nat.le_of_ble_eq_true rfl)
  rw [lg_entry_eq]
  generalize (lg_sl ([.ref jd]) ++ List.replicate (4 - (lg_sl ([.ref jd])).length) Slot.unset).toArray = ls at hl ⊢
  have hl : lv_has ls 4 [(0, .ref jd)] := hl
  refine lv_iconst (v := nI 0) hx hb d_D_firstThatMayGo_0 (by decide +kernel) ?_
  refine lv_istore_n (lv' := [(1, .int (nI 0)), (0, .ref jd)]) hx hb d_D_firstThatMayGo_1 rfl hl (by decide) rfl (fun ls hl => ?_)
  have lp_2 : ∀ (k9_2 : Nat), ∀ (i : Nat), n - i < k9_2 → (i ≤ n) → (∀ a, a < i → mgB S G B w a = false) → ∀ (ls : Array Slot), lv_has ls 4 [(0, .ref jd), (1, .int (nI i))] → W p l e (headSpec w_D_firstThatMayGo ({ frames := 2, cells := 0, slots := 0, locals := 46 })).room s m ([.ref jd]).toArray below meth c s.heap [] 0 0 (MQ below (vp_Si (fun r => r = oI (fgO S G B n w))) ([.ref jd]).toArray s 0 0 (fun _ => False)) (F0 m 2 ls []) := by
    intro k9_2
    induction k9_2 with
    | zero =>
      intro i hk9
      exact absurd hk9 (Nat.not_lt_zero _)
    | succ k9_2 ih_2 =>
      intro i hk9_2 hi hno ls hl
      refine lv_iload_n hx hb d_D_firstThatMayGo_2 rfl (lv_at hl 1 rfl) ?_
      refine lv_aload_n hx hb d_D_firstThatMayGo_3 rfl (lv_at hl 0 rfl) ?_
      refine va_get (D := (dC, dI)) (ci := 2) (v := .ref jh) (C := R_D) (T := F_D) (N := 7) hx hb hts (lay_D _) hown hK hP 0 rfl rfl 1 (by decide) (hts _ (List.mem_cons_of_mem _ m_57)) (fun _ h9 => h9) rfl d_D_firstThatMayGo_4 ?_
      refine va_getN (D := (dC, dI)) (ci := 1) (v := .int (nI n)) (C := R_H) (T := F_H) (N := 5) hx hb hts (lay_H _) hown hK hP 1 rfl rfl 4 (by decide) (hN.use (by decide +kernel : (Jvm.Cond.fieldLinkNest "PortDrawer" (62 : Nat) "PortDrawer$Harbour" "parts" "I" "PortDrawer") ∈ NWl)) (fun _ h9 => h9) rfl d_D_firstThatMayGo_7 ?_
      refine lv_icmp_ge (tgt := 52) hx hb d_D_firstThatMayGo_10 (by decide) (fun c_10 => ?_) (fun c_10 => ?_)
      · skip
        have c_10 := (nI_leI (by omega) (by omega)).mp c_10
        refine lv_iconst (v := (-1)) hx hb d_D_firstThatMayGo_52 (by decide +kernel) ?_
        exact W.iret (v := (-1)) hx hb hr (fun t ht hW => ⟨(-1), rfl, (by unfold fgO; rw [fst9_none (fun a ha => hno a (by omega))]; rfl), ht⟩) (fun _ h => nomatch h) d_D_firstThatMayGo_53
      · skip
        have c_10 := (not_congr (nI_leI (by omega) (by omega))).mp c_10
        refine lv_aload_n hx hb d_D_firstThatMayGo_13 rfl (lv_at hl 0 rfl) ?_
        refine va_get (D := (dC, dI)) (ci := 2) (v := .long w) (C := R_D) (T := F_D) (N := 7) hx hb hts (lay_D _) hown hK hP 0 rfl rfl 6 (by decide) (hts _ (List.mem_cons_of_mem _ m_62)) (fun _ h9 => h9) rfl d_D_firstThatMayGo_14 ?_
        refine lv_iload_n hx hb d_D_firstThatMayGo_17 rfl (lv_at hl 1 rfl) ?_
        have hPc := hP.sub (ws' := []) [] rfl
        have hKc := hK.sub (tys' := []) [] rfl
        refine vp_callSi (W.runS (As := [.long w, .int (nI i)]) (rest := []) ⟨hx, hb, hml, hown, hts⟩ (c_D_isIn l dC dI w i (by first | assumption | omega)) (va_cwS 2 hts (g_S big_w m_114 m_115 m_1 m_116) rfl rfl rfl (by decide +kernel) ⟨Nat.le_of_ble_eq_true rfl, Nat.le_of_ble_eq_true rfl⟩) (ro_S hPc hKc hN) rfl rfl hl.1 rfl (lv_room (Nat.le_of_ble_eq_true rfl)) d_D_firstThatMayGo_18 ⟨Nat.le_of_ble_eq_true rfl, Nat.le_of_ble_eq_true rfl⟩) (fun r_1 er_1 => ?_)
        have er_1 := er_1.symm
        subst er_1
        refine lv_if_eq (tgt := 46) hx hb d_D_firstThatMayGo_21 (by decide) (fun c_21 => ?_) (fun c_21 => ?_)
        · skip
          have c_21 := bI_f c_21
          have hq9 : mgB S G B w i = false := by unfold mgB; rw [c_21]; rfl
          refine lv_iinc (v := nI (i + 1)) (lv' := [(1, .int (nI (i + 1))), (0, .ref jd)]) hx hb d_D_firstThatMayGo_46 hl (k := 1) rfl (nI_1 _) (by decide) rfl (fun ls hl => ?_)
          refine lv_goto (tgt := 2) hx hb d_D_firstThatMayGo_49 (by decide) ?_
          exact ih_2 (i + 1) (by omega) (by omega) (lt_s hno hq9) ls (lv_sub (l' := [(0, .ref jd), (1, .int (nI (i + 1)))]) hl [1, 0] rfl)
        · skip
          have c_21 := bI_t c_21
          refine lv_aload_n hx hb d_D_firstThatMayGo_24 rfl (lv_at hl 0 rfl) ?_
          refine lv_iload_n hx hb d_D_firstThatMayGo_25 rfl (lv_at hl 1 rfl) ?_
          have hPc := hP.sub (ws' := [(jd, .inr (2, [.long sd, .ref jh, .ref jh2, .ref jg, .ref jb, .ref jy, .long w])), (jg, .inl (cg, 43, .inr (.inl G)))]) [0, 2] rfl
          have hKc := hK.sub (tys' := [(cg, .long)]) [0] rfl
          refine vp_callSl (W.runV (As := [.int (nI i)]) (rest := []) ⟨hx, hb, hml, hown, hts⟩ (c_D_leftWithout l dC dI jd jh jh2 jg jb jy sd w cg G i (by first | assumption | omega)) (cwV 1 hts (g_V big_w m_117 m_119 ms_4 m_1 m_120) rfl rfl rfl (by decide +kernel) ⟨Nat.le_of_ble_eq_true rfl, Nat.le_of_ble_eq_true rfl⟩) (ro_V hPc hKc hN (va_recv hKc hPc (ci := 2) (q0 := 0) rfl rfl)) rfl rfl hl.1 rfl (lv_room (Nat.le_of_ble_eq_true rfl)) d_D_firstThatMayGo_26 ⟨Nat.le_of_ble_eq_true rfl, Nat.le_of_ble_eq_true rfl⟩) (fun r_2 er_2 => ?_)
          have er_2 := er_2.symm
          subst er_2
          refine lv_lstore_n (lv' := [(2, .long (noW w (G i))), (0, .ref jd), (1, .int (nI i))]) hx hb d_D_firstThatMayGo_29 rfl hl (by decide) rfl (fun ls hl => ?_)
          refine lv_lload_n hx hb d_D_firstThatMayGo_30 rfl (lv_at hl 0 rfl) ?_
          refine lv_lconst (v := 0) hx hb d_D_firstThatMayGo_31 (by decide +kernel) ?_
          refine W.lcmp hx hb d_D_firstThatMayGo_32 ?_
          refine lv_if_eq (tgt := 46) hx hb d_D_firstThatMayGo_33 (by decide) (fun c_33 => ?_) (fun c_33 => ?_)
          · skip
            have c_33 := lc_eq.mp c_33
            have hq9 : mgB S G B w i = false := by unfold mgB; rw [decide_eq_true c_33, c_21]; rfl
            refine lv_iinc (v := nI (i + 1)) (lv' := [(1, .int (nI (i + 1))), (2, .long (noW w (G i))), (0, .ref jd)]) hx hb d_D_firstThatMayGo_46 hl (k := 2) rfl (nI_1 _) (by decide) rfl (fun ls hl => ?_)
            refine lv_goto (tgt := 2) hx hb d_D_firstThatMayGo_49 (by decide) ?_
            exact ih_2 (i + 1) (by omega) (by omega) (lt_s hno hq9) ls (lv_sub (l' := [(0, .ref jd), (1, .int (nI (i + 1)))]) hl [2, 0] rfl)
          · skip
            have c_33 := (not_congr lc_eq).mp c_33
            refine lv_aload_n hx hb d_D_firstThatMayGo_36 rfl (lv_at hl 1 rfl) ?_
            refine lv_lload_n hx hb d_D_firstThatMayGo_37 rfl (lv_at hl 0 rfl) ?_
            have hPc := hP.sub (ws' := [(jd, .inr (2, [.long sd, .ref jh, .ref jh2, .ref jg, .ref jb, .ref jy, .long w])), (jb, .inl (cb, 8, .inr (.inl B))), (jy, .inl (cy, 256, .inl (bF S)))]) [0, 3, 4] rfl
            have hKc := hK.sub (tys' := [(cb, .long), (cy, .boolean)]) [1, 2] rfl
            refine vp_callSi (W.runV (As := [.long (noW w (G i))]) (rest := []) ⟨hx, hb, hml, hown, hts⟩ (c_D_staysWith l dC dI jd jh jh2 jg jb jy sd w cb cy B S (noW w (G i))) (cwV 1 hts (g_V big_w m_96 m_98 ms_1 m_1 m_99) rfl rfl rfl (by decide +kernel) ⟨Nat.le_of_ble_eq_true rfl, Nat.le_of_ble_eq_true rfl⟩) (ro_V hPc hKc hN (va_recv hKc hPc (ci := 2) (q0 := 0) rfl rfl)) rfl rfl hl.1 rfl (lv_room (Nat.le_of_ble_eq_true rfl)) d_D_firstThatMayGo_38 ⟨Nat.le_of_ble_eq_true rfl, Nat.le_of_ble_eq_true rfl⟩) (fun r_3 er_3 => ?_)
            have er_3 := er_3.symm
            subst er_3
            refine lv_if_eq (tgt := 46) hx hb d_D_firstThatMayGo_41 (by decide) (fun c_41 => ?_) (fun c_41 => ?_)
            · skip
              have c_41 := bI_f c_41
              have hq9 : mgB S G B w i = false := by unfold mgB; rw [c_41, c_21, Bool.and_false]; rfl
              refine lv_iinc (v := nI (i + 1)) (lv' := [(1, .int (nI (i + 1))), (2, .long (noW w (G i))), (0, .ref jd)]) hx hb d_D_firstThatMayGo_46 hl (k := 2) rfl (nI_1 _) (by decide) rfl (fun ls hl => ?_)
              refine lv_goto (tgt := 2) hx hb d_D_firstThatMayGo_49 (by decide) ?_
              exact ih_2 (i + 1) (by omega) (by omega) (lt_s hno hq9) ls (lv_sub (l' := [(0, .ref jd), (1, .int (nI (i + 1)))]) hl [2, 0] rfl)
            · skip
              have c_41 := bI_t c_41
              refine lv_iload_n hx hb d_D_firstThatMayGo_44 rfl (lv_at hl 2 rfl) ?_
              exact W.iret (v := nI i) hx hb hr (fun t ht hW => ⟨nI i, rfl, (by unfold fgO; rw [fst9_some (Q := mgB S G B w) (i := i) (by unfold mgB; rw [c_41, c_21, decide_eq_false c_33]; rfl) hno (by omega)]; rfl), ht⟩) (fun _ h => nomatch h) d_D_firstThatMayGo_45
  exact lp_2 ((n - 0) + 1) 0 (by omega) (by omega) lt_0 ls (lv_sub (l' := [(0, .ref jd), (1, .int (nI 0))]) hl [1, 0] rfl)
set_option maxHeartbeats 4000000 in
set_option maxRecDepth 100000 in
/-- verdictsThatStay -/
theorem c_D_verdictsThatStay (l : Launch) (dC : Nat → ClassId) (dI : Nat → Nat → Nat) (jd jh jh2 jg jb jy : Nat) (sd w : Int64) (cy : ClassId) (S : Nat → Bool)  : Met l y_D_verdictsThatStay w_D_verdictsThatStay ({ frames := 0, cells := 0, slots := 0, locals := 0 }) (ro_P dC dI [.ref jd] [(jd, .inr (2, [.long sd, .ref jh, .ref jh2, .ref jg, .ref jb, .ref jy, .long w])), (jy, .inl (cy, 256, .inl (bF S)))] [(cy, .boolean)]) (vp_Si (fun r => r = nI (cnt S 256))) 0 0 (fun _ => False) := by
  refine Met.ofW (cc := b_D_verdictsThatStay) (maxL := 3) (ret := (Option.some Jvm.ClassFile.FieldType.int)) (by decide) rfl ?_
  intro p e s m args below meth c s₁ B0 hml hv0
  obtain ⟨rfl, hP, hK, hN⟩ := hv0
  have hx := B0.exec
  have hb := B0.bytes
  have hr := B0.returns
  have hts := atoms_spec (ws := w_D_verdictsThatStay) B0.pre
  have hown : s.vm.findClass R_D = some m.cls := findClass_of_methodNamed B0.named
  have hlocks := B0.notSynchronized
  have hP : va_P (dC, dI) classes [(jd, .inr (2, [.long sd, .ref jh, .ref jh2, .ref jg, .ref jb, .ref jy, .long w])), (jy, .inl (cy, 256, .inl (bF S)))] s.heap := hP
  have hl := lv_entry ([.ref jd]) (n := 3) (Nat.le_of_ble_eq_true rfl)
  rw [lg_entry_eq]
  generalize (lg_sl ([.ref jd]) ++ List.replicate (3 - (lg_sl ([.ref jd])).length) Slot.unset).toArray = ls at hl ⊢
  have hl : lv_has ls 3 [(0, .ref jd)] := hl
  refine lv_iconst (v := nI 0) hx hb d_D_verdictsThatStay_0 (by decide +kernel) ?_
  refine lv_istore_n (lv' := [(1, .int (nI 0)), (0, .ref jd)]) hx hb d_D_verdictsThatStay_1 rfl hl (by decide) rfl (fun ls hl => ?_)
  refine lv_iconst (v := nI 0) hx hb d_D_verdictsThatStay_2 (by decide +kernel) ?_
  refine lv_istore_n (lv' := [(2, .int (nI 0)), (1, .int (nI 0)), (0, .ref jd)]) hx hb d_D_verdictsThatStay_3 rfl hl (by decide) rfl (fun ls hl => ?_)
  have lp_4 : ∀ (k9_4 : Nat), ∀ (i : Nat), 256 - i < k9_4 → (i ≤ 256) → ∀ (ls : Array Slot), lv_has ls 3 [(0, .ref jd), (1, .int (nI (cnt S i))), (2, .int (nI i))] → W p l e (headSpec w_D_verdictsThatStay ({ frames := 0, cells := 0, slots := 0, locals := 0 })).room s m ([.ref jd]).toArray below meth c s.heap [] 0 0 (MQ below (vp_Si (fun r => r = nI (cnt S 256))) ([.ref jd]).toArray s 0 0 (fun _ => False)) (F0 m 4 ls []) := by
    intro k9_4
    induction k9_4 with
    | zero =>
      intro i hk9
      exact absurd hk9 (Nat.not_lt_zero _)
    | succ k9_4 ih_4 =>
      intro i hk9_4 hi ls hl
      refine lv_iload_n hx hb d_D_verdictsThatStay_4 rfl (lv_at hl 2 rfl) ?_
      refine lv_sipush (v := nI 256) hx hb d_D_verdictsThatStay_5 (by decide +kernel) ?_
      refine lv_icmp_ge (tgt := 29) hx hb d_D_verdictsThatStay_8 (by decide) (fun c_8 => ?_) (fun c_8 => ?_)
      · skip
        have c_8 := (nI_leI (by omega) (by omega)).mp c_8
        refine lv_iload_n hx hb d_D_verdictsThatStay_29 rfl (lv_at hl 1 rfl) ?_
        exact W.iret (v := nI (cnt S i)) hx hb hr (fun t ht hW => ⟨nI (cnt S i), rfl, (by rw [show i = 256 by omega]), ht⟩) (fun _ h => nomatch h) d_D_verdictsThatStay_30
      · skip
        have c_8 := (not_congr (nI_leI (by omega) (by omega))).mp c_8
        refine lv_aload_n hx hb d_D_verdictsThatStay_11 rfl (lv_at hl 0 rfl) ?_
        refine va_get (D := (dC, dI)) (ci := 2) (v := .ref jy) (C := R_D) (T := F_D) (N := 7) hx hb hts (lay_D _) hown hK hP 0 rfl rfl 5 (by decide) (hts _ (List.mem_cons_of_mem _ m_61)) (fun _ h9 => h9) rfl d_D_verdictsThatStay_12 ?_
        refine lv_iload_n hx hb d_D_verdictsThatStay_15 rfl (lv_at hl 2 rfl) ?_
        refine va_zald hx hb hK hP 1 0 rfl rfl (vp_in_nI (by omega) (by omega)) d_D_verdictsThatStay_16 ?_
        refine lv_topi (fun w_1 ew_1 => ?_)
        rw [nI_clamp (by omega)] at ew_1
        have ew_1 := ew_1.symm
        subst ew_1
        refine lv_topi (fun w9 ew9 => ?_)
        have ew9 : w9 = bI (S i) := ew9
        subst ew9
        refine lv_if_eq (tgt := 23) hx hb d_D_verdictsThatStay_17 (by decide) (fun c_17 => ?_) (fun c_17 => ?_)
        · skip
          have c_17 := bI_f c_17
          rw [show nI (cnt S i) = nI (cnt S (i + 1)) from (by rw [cnt_f (P := S) (n := i) c_17])] at hl
          refine lv_iinc (v := nI (i + 1)) (lv' := [(2, .int (nI (i + 1))), (0, .ref jd), (1, .int (nI (cnt S (i + 1))))]) hx hb d_D_verdictsThatStay_23 hl (k := 2) rfl (nI_1 _) (by decide) rfl (fun ls hl => ?_)
          refine lv_goto (tgt := 4) hx hb d_D_verdictsThatStay_26 (by decide) ?_
          exact ih_4 (i + 1) (by omega) (by first | assumption | omega) ls (lv_sub (l' := [(0, .ref jd), (1, .int (nI (cnt S (i + 1)))), (2, .int (nI (i + 1)))]) hl [1, 2, 0] rfl)
        · skip
          have c_17 := bI_t c_17
          refine lv_iinc (v := nI (cnt S (i + 1))) (lv' := [(1, .int (nI (cnt S (i + 1)))), (0, .ref jd), (2, .int (nI i))]) hx hb d_D_verdictsThatStay_20 hl (k := 1) rfl (by rw [cnt_t (P := S) (n := i) c_17]; exact nI_1 _) (by decide) rfl (fun ls hl => ?_)
          refine lv_iinc (v := nI (i + 1)) (lv' := [(2, .int (nI (i + 1))), (1, .int (nI (cnt S (i + 1)))), (0, .ref jd)]) hx hb d_D_verdictsThatStay_23 hl (k := 2) rfl (nI_1 _) (by decide) rfl (fun ls hl => ?_)
          refine lv_goto (tgt := 4) hx hb d_D_verdictsThatStay_26 (by decide) ?_
          exact ih_4 (i + 1) (by omega) (by first | assumption | omega) ls (lv_sub (l' := [(0, .ref jd), (1, .int (nI (cnt S (i + 1)))), (2, .int (nI (i + 1)))]) hl [2, 1, 0] rfl)
  exact lp_4 ((256 - 0) + 1) 0 (by omega) (by first | assumption | omega) ls (lv_sub (l' := [(0, .ref jd), (1, .int (nI (cnt S 0))), (2, .int (nI 0))]) hl [2, 1, 0] rfl)
set_option maxHeartbeats 4000000 in
set_option maxRecDepth 100000 in
/-- countOfKind -/
theorem c_D_countOfKind (l : Launch) (dC : Nat → ClassId) (dI : Nat → Nat → Nat) (jd jh jh2 jg jb jy : Nat) (sd w : Int64) (jt jk jv jr n : Nat) (ck : ClassId) (K : Nat → Int32) (p0 : Int32) (hn : n ≤ 43) : Met l y_D_countOfKind w_D_countOfKind ({ frames := 1, cells := 0, slots := 0, locals := 24 }) (ro_P dC dI [.ref jd, .int p0] [(jd, .inr (2, [.long sd, .ref jh, .ref jh2, .ref jg, .ref jb, .ref jy, .long w])), (jh, .inr (1, [.ref jt, .ref jk, .ref jv, .ref jr, .int (nI n)])), (jk, .inl (ck, 43, .inl K))] [(ck, .int)]) (vp_Si (fun r => r = ckI n K p0)) 0 0 (fun _ => False) := by
  refine Met.ofW (cc := b_D_countOfKind) (maxL := 2) (ret := (Option.some Jvm.ClassFile.FieldType.int)) (by decide) rfl ?_
  intro p e s m args below meth c s₁ B0 hml hv0
  obtain ⟨rfl, hP, hK, hN⟩ := hv0
  have hx := B0.exec
  have hb := B0.bytes
  have hr := B0.returns
  have hts := atoms_spec (ws := w_D_countOfKind) B0.pre
  have hown : s.vm.findClass R_D = some m.cls := findClass_of_methodNamed B0.named
  have hlocks := B0.notSynchronized
  have hP : va_P (dC, dI) classes [(jd, .inr (2, [.long sd, .ref jh, .ref jh2, .ref jg, .ref jb, .ref jy, .long w])), (jh, .inr (1, [.ref jt, .ref jk, .ref jv, .ref jr, .int (nI n)])), (jk, .inl (ck, 43, .inl K))] s.heap := hP
  have hl := lv_entry ([.ref jd, .int p0]) (n := 2) (Nat.le_of_ble_eq_true rfl)
  rw [lg_entry_eq]
  generalize (lg_sl ([.ref jd, .int p0]) ++ List.replicate (2 - (lg_sl ([.ref jd, .int p0])).length) Slot.unset).toArray = ls at hl ⊢
  have hl : lv_has ls 2 [(0, .ref jd), (1, .int p0)] := hl
  refine lv_iload_n hx hb d_D_countOfKind_0 rfl (lv_at hl 1 rfl) ?_
  refine lv_bipush (v := nI 10) hx hb d_D_countOfKind_1 (by decide +kernel) ?_
  refine lv_icmp_lt (tgt := 12) hx hb d_D_countOfKind_3 (by decide) (fun c_3 => ?_) (fun c_3 => ?_)
  · skip
    refine lv_iconst (v := (-1)) hx hb d_D_countOfKind_12 (by decide +kernel) ?_
    exact W.iret (v := (-1)) hx hb hr (fun t ht hW => ⟨(-1), rfl, (by first | exact (if_pos (Or.inl c_3)).symm | exact (if_pos (Or.inr c_9)).symm), ht⟩) (fun _ h => nomatch h) d_D_countOfKind_13
  · skip
    refine lv_iload_n hx hb d_D_countOfKind_6 rfl (lv_at hl 1 rfl) ?_
    refine lv_bipush (v := nI 17) hx hb d_D_countOfKind_7 (by decide +kernel) ?_
    refine lv_icmp_lt (tgt := 14) hx hb d_D_countOfKind_9 (by decide) (fun c_9 => ?_) (fun c_9 => ?_)
    · skip
      refine lv_aload_n hx hb d_D_countOfKind_14 rfl (lv_at hl 0 rfl) ?_
      refine va_get (D := (dC, dI)) (ci := 2) (v := .ref jh) (C := R_D) (T := F_D) (N := 7) hx hb hts (lay_D _) hown hK hP 0 rfl rfl 1 (by decide) (hts _ (List.mem_cons_of_mem _ m_57)) (fun _ h9 => h9) rfl d_D_countOfKind_15 ?_
      refine lv_iload_n hx hb d_D_countOfKind_18 rfl (lv_at hl 1 rfl) ?_
      refine lv_bipush (v := nI 10) hx hb d_D_countOfKind_19 (by decide +kernel) ?_
      refine lv_isub hx hb d_D_countOfKind_21 ?_
      refine lv_aload_n hx hb d_D_countOfKind_22 rfl (lv_at hl 0 rfl) ?_
      refine va_get (D := (dC, dI)) (ci := 2) (v := .ref jh) (C := R_D) (T := F_D) (N := 7) hx hb hts (lay_D _) hown hK hP 0 rfl rfl 1 (by decide) (hts _ (List.mem_cons_of_mem _ m_57)) (fun _ h9 => h9) rfl d_D_countOfKind_23 ?_
      refine va_getN (D := (dC, dI)) (ci := 1) (v := .int (nI n)) (C := R_H) (T := F_H) (N := 5) hx hb hts (lay_H _) hown hK hP 1 rfl rfl 4 (by decide) (hN.use (by decide +kernel : (Jvm.Cond.fieldLinkNest "PortDrawer" (62 : Nat) "PortDrawer$Harbour" "parts" "I" "PortDrawer") ∈ NWl)) (fun _ h9 => h9) rfl d_D_countOfKind_26 ?_
      have hPc := hP.sub (ws' := [(jh, .inr (1, [.ref jt, .ref jk, .ref jv, .ref jr, .int (nI n)])), (jk, .inl (ck, 43, .inl K))]) [1, 2] rfl
      have hKc := hK.sub (tys' := [(ck, .int)]) [0] rfl
      refine vp_callSi (va_Run.run (va_runVN (As := [.int (p0 - (nI 10)), .int (nI n)]) (rest := []) ⟨hx, hb, hml, hown, hts⟩ (c_H_ofKindAheadOf l dC dI jh jt jk jv jr n ck K (p0 - (nI 10)) n (by first | assumption | omega) (by first | assumption | omega)) ⟨va_cnB 2 hts (g_c big_w m_137) rfl rfl rfl (hN _ (by decide +kernel : (Jvm.Cond.methodLinkNest "PortDrawer" (78 : Nat) ({ cls := "PortDrawer$Harbour", name := "ofKindAheadOf", desc := "(II)I" } : Jvm.MethodName) "PortDrawer") ∈ NWl)) (hts _ (List.mem_cons_of_mem _ m_2)) (by decide +kernel) ⟨Nat.le_of_ble_eq_true rfl, Nat.le_of_ble_eq_true rfl⟩, (hts _ (List.mem_cons_of_mem _ m_136)), (hts _ (List.mem_cons_of_mem _ ms_5))⟩ (ro_V hPc hKc hN (va_recv hKc hPc (ci := 1) (q0 := 0) rfl rfl)) rfl rfl hl.1 rfl (lv_room (Nat.le_of_ble_eq_true rfl)) d_D_countOfKind_29 ⟨Nat.le_of_ble_eq_true rfl, Nat.le_of_ble_eq_true rfl⟩)) (fun r_1 er_1 => ?_)
      have er_1 := er_1.symm
      subst er_1
      exact W.iret (v := nI (cnt (kP K (p0 - (nI 10))) n)) hx hb hr (fun t ht hW => ⟨nI (cnt (kP K (p0 - (nI 10))) n), rfl, ((if_neg (fun jh => jh.elim c_3 (fun z => z c_9))).symm), ht⟩) (fun _ h => nomatch h) d_D_countOfKind_32
    · skip
      refine lv_iconst (v := (-1)) hx hb d_D_countOfKind_12 (by decide +kernel) ?_
      exact W.iret (v := (-1)) hx hb hr (fun t ht hW => ⟨(-1), rfl, (by first | exact (if_pos (Or.inl c_3)).symm | exact (if_pos (Or.inr c_9)).symm), ht⟩) (fun _ h => nomatch h) d_D_countOfKind_13
set_option maxHeartbeats 4000000 in
set_option maxRecDepth 100000 in
/-- now -/
theorem c_D_now (l : Launch) (dC : Nat → ClassId) (dI : Nat → Nat → Nat) (jd jh jh2 jg jb jy : Nat) (sd w : Int64) (cb : ClassId) (B : Nat → Int64)  : Met l y_D_now w_D_now ({ frames := 1, cells := 0, slots := 0, locals := 24 }) (ro_P dC dI [.ref jd] [(jd, .inr (2, [.long sd, .ref jh, .ref jh2, .ref jg, .ref jb, .ref jy, .long w])), (jb, .inl (cb, 8, .inr (.inl B)))] [(cb, .long)]) (vp_Si (fun r => r = vdI w B)) 0 0 (fun _ => False) := by
  refine Met.ofW (cc := b_D_now) (maxL := 1) (ret := (Option.some Jvm.ClassFile.FieldType.int)) (by decide) rfl ?_
  intro p e s m args below meth c s₁ B0 hml hv0
  obtain ⟨rfl, hP, hK, hN⟩ := hv0
  have hx := B0.exec
  have hb := B0.bytes
  have hr := B0.returns
  have hts := atoms_spec (ws := w_D_now) B0.pre
  have hown : s.vm.findClass R_D = some m.cls := findClass_of_methodNamed B0.named
  have hlocks := B0.notSynchronized
  have hP : va_P (dC, dI) classes [(jd, .inr (2, [.long sd, .ref jh, .ref jh2, .ref jg, .ref jb, .ref jy, .long w])), (jb, .inl (cb, 8, .inr (.inl B)))] s.heap := hP
  have hl := lv_entry ([.ref jd]) (n := 1) (Nat.le_of_ble_eq_true rfl)
  rw [lg_entry_eq]
  generalize (lg_sl ([.ref jd]) ++ List.replicate (1 - (lg_sl ([.ref jd])).length) Slot.unset).toArray = ls at hl ⊢
  have hl : lv_has ls 1 [(0, .ref jd)] := hl
  refine lv_aload_n hx hb d_D_now_0 rfl (lv_at hl 0 rfl) ?_
  refine lv_aload_n hx hb d_D_now_1 rfl (lv_at hl 0 rfl) ?_
  refine va_get (D := (dC, dI)) (ci := 2) (v := .long w) (C := R_D) (T := F_D) (N := 7) hx hb hts (lay_D _) hown hK hP 0 rfl rfl 6 (by decide) (hts _ (List.mem_cons_of_mem _ m_62)) (fun _ h9 => h9) rfl d_D_now_2 ?_
  have hPc := hP.sub (ws' := [(jd, .inr (2, [.long sd, .ref jh, .ref jh2, .ref jg, .ref jb, .ref jy, .long w])), (jb, .inl (cb, 8, .inr (.inl B)))]) [0, 1] rfl
  have hKc := hK.sub (tys' := [(cb, .long)]) [0] rfl
  refine vp_callSi (W.runV (As := [.long w]) (rest := []) ⟨hx, hb, hml, hown, hts⟩ (c_D_verdictOf l dC dI jd jh jh2 jg jb jy sd w cb B w) (cwV 1 hts (g_V big_w m_88 m_90 ms_0 m_1 m_91) rfl rfl rfl (by decide +kernel) ⟨Nat.le_of_ble_eq_true rfl, Nat.le_of_ble_eq_true rfl⟩) (ro_V hPc hKc hN (va_recv hKc hPc (ci := 2) (q0 := 0) rfl rfl)) rfl rfl hl.1 rfl (lv_room (Nat.le_of_ble_eq_true rfl)) d_D_now_5 ⟨Nat.le_of_ble_eq_true rfl, Nat.le_of_ble_eq_true rfl⟩) (fun r_1 er_1 => ?_)
  have er_1 := er_1.symm
  subst er_1
  exact W.iret (v := vdI w B) hx hb hr (fun t ht hW => ⟨vdI w B, rfl, rfl, ht⟩) (fun _ h => nomatch h) d_D_now_8
set_option maxHeartbeats 4000000 in
set_option maxRecDepth 100000 in
/-- left -/
theorem c_D_left (l : Launch) (dC : Nat → ClassId) (dI : Nat → Nat → Nat) (jd jh jh2 jg jb jy : Nat) (sd w : Int64) (jt jk jv jr n : Nat) (p0 : Int32) (hn : n ≤ 43) : Met l y_D_left w_D_left ({ frames := 1, cells := 0, slots := 0, locals := 22 }) (ro_P dC dI [.ref jd, .int p0] [(jd, .inr (2, [.long sd, .ref jh, .ref jh2, .ref jg, .ref jb, .ref jy, .long w])), (jh, .inr (1, [.ref jt, .ref jk, .ref jv, .ref jr, .int (nI n)]))] []) (vp_Si (fun r => r = oI (fst9 (lfQ w p0) n))) 0 0 (fun _ => False) := by
  refine Met.ofW (cc := b_D_left) (maxL := 4) (ret := (Option.some Jvm.ClassFile.FieldType.int)) (by decide) rfl ?_
  intro p e s m args below meth c s₁ B0 hml hv0
  obtain ⟨rfl, hP, hK, hN⟩ := hv0
  have hx := B0.exec
  have hb := B0.bytes
  have hr := B0.returns
  have hts := atoms_spec (ws := w_D_left) B0.pre
  have hown : s.vm.findClass R_D = some m.cls := findClass_of_methodNamed B0.named
  have hlocks := B0.notSynchronized
  have hP : va_P (dC, dI) classes [(jd, .inr (2, [.long sd, .ref jh, .ref jh2, .ref jg, .ref jb, .ref jy, .long w])), (jh, .inr (1, [.ref jt, .ref jk, .ref jv, .ref jr, .int (nI n)]))] s.heap := hP
  have hl := lv_entry ([.ref jd, .int p0]) (n := 4) (Nat.le_of_ble_eq_true rfl)
  rw [lg_entry_eq]
  generalize (lg_sl ([.ref jd, .int p0]) ++ List.replicate (4 - (lg_sl ([.ref jd, .int p0])).length) Slot.unset).toArray = ls at hl ⊢
  have hl : lv_has ls 4 [(0, .ref jd), (1, .int p0)] := hl
  refine lv_iconst (v := nI 0) hx hb d_D_left_0 (by decide +kernel) ?_
  refine lv_istore_n (lv' := [(2, .int (nI 0)), (0, .ref jd), (1, .int p0)]) hx hb d_D_left_1 rfl hl (by decide) rfl (fun ls hl => ?_)
  refine lv_iconst (v := nI 0) hx hb d_D_left_2 (by decide +kernel) ?_
  refine lv_istore_n (lv' := [(3, .int (nI 0)), (2, .int (nI 0)), (0, .ref jd), (1, .int p0)]) hx hb d_D_left_3 rfl hl (by decide) rfl (fun ls hl => ?_)
  have lp_4 : ∀ (k9_4 : Nat), ∀ (i : Nat), n - i < k9_4 → (i ≤ n) → (∀ a, a < i → lfQ w p0 a = false) → ∀ (ls : Array Slot), lv_has ls 4 [(0, .ref jd), (1, .int p0), (2, .int (nI (cnt (wbit w) i))), (3, .int (nI i))] → W p l e (headSpec w_D_left ({ frames := 1, cells := 0, slots := 0, locals := 22 })).room s m ([.ref jd, .int p0]).toArray below meth c s.heap [] 0 0 (MQ below (vp_Si (fun r => r = oI (fst9 (lfQ w p0) n))) ([.ref jd, .int p0]).toArray s 0 0 (fun _ => False)) (F0 m 4 ls []) := by
    intro k9_4
    induction k9_4 with
    | zero =>
      intro i hk9
      exact absurd hk9 (Nat.not_lt_zero _)
    | succ k9_4 ih_4 =>
      intro i hk9_4 hi hno ls hl
      refine lv_iload_n hx hb d_D_left_4 rfl (lv_at hl 3 rfl) ?_
      refine lv_aload_n hx hb d_D_left_5 rfl (lv_at hl 0 rfl) ?_
      refine va_get (D := (dC, dI)) (ci := 2) (v := .ref jh) (C := R_D) (T := F_D) (N := 7) hx hb hts (lay_D _) hown hK hP 0 rfl rfl 1 (by decide) (hts _ (List.mem_cons_of_mem _ m_57)) (fun _ h9 => h9) rfl d_D_left_6 ?_
      refine va_getN (D := (dC, dI)) (ci := 1) (v := .int (nI n)) (C := R_H) (T := F_H) (N := 5) hx hb hts (lay_H _) hown hK hP 1 rfl rfl 4 (by decide) (hN.use (by decide +kernel : (Jvm.Cond.fieldLinkNest "PortDrawer" (62 : Nat) "PortDrawer$Harbour" "parts" "I" "PortDrawer") ∈ NWl)) (fun _ h9 => h9) rfl d_D_left_9 ?_
      refine lv_icmp_ge (tgt := 42) hx hb d_D_left_12 (by decide) (fun c_12 => ?_) (fun c_12 => ?_)
      · skip
        have c_12 := (nI_leI (by omega) (by omega)).mp c_12
        refine lv_iconst (v := (-1)) hx hb d_D_left_42 (by decide +kernel) ?_
        exact W.iret (v := (-1)) hx hb hr (fun t ht hW => ⟨(-1), rfl, (by rw [fst9_none (fun a ha => hno a (by omega))]; rfl), ht⟩) (fun _ h => nomatch h) d_D_left_43
      · skip
        have c_12 := (not_congr (nI_leI (by omega) (by omega))).mp c_12
        refine lv_aload_n hx hb d_D_left_15 rfl (lv_at hl 0 rfl) ?_
        refine va_get (D := (dC, dI)) (ci := 2) (v := .long w) (C := R_D) (T := F_D) (N := 7) hx hb hts (lay_D _) hown hK hP 0 rfl rfl 6 (by decide) (hts _ (List.mem_cons_of_mem _ m_62)) (fun _ h9 => h9) rfl d_D_left_16 ?_
        refine lv_iload_n hx hb d_D_left_19 rfl (lv_at hl 3 rfl) ?_
        have hPc := hP.sub (ws' := []) [] rfl
        have hKc := hK.sub (tys' := []) [] rfl
        refine vp_callSi (W.runS (As := [.long w, .int (nI i)]) (rest := []) ⟨hx, hb, hml, hown, hts⟩ (c_D_isIn l dC dI w i (by first | assumption | omega)) (va_cwS 2 hts (g_S big_w m_114 m_115 m_1 m_116) rfl rfl rfl (by decide +kernel) ⟨Nat.le_of_ble_eq_true rfl, Nat.le_of_ble_eq_true rfl⟩) (ro_S hPc hKc hN) rfl rfl hl.1 rfl (lv_room (Nat.le_of_ble_eq_true rfl)) d_D_left_20 ⟨Nat.le_of_ble_eq_true rfl, Nat.le_of_ble_eq_true rfl⟩) (fun r_1 er_1 => ?_)
        have er_1 := er_1.symm
        subst er_1
        refine lv_if_eq (tgt := 36) hx hb d_D_left_23 (by decide) (fun c_23 => ?_) (fun c_23 => ?_)
        · skip
          have c_23 := bI_f c_23
          have hq9 : lfQ w p0 i = false := by unfold lfQ; rw [c_23]; rfl
          rw [show nI (cnt (wbit w) i) = nI (cnt (wbit w) (i + 1)) from (by rw [cnt_f (P := wbit w) (n := i) c_23])] at hl
          refine lv_iinc (v := nI (i + 1)) (lv' := [(3, .int (nI (i + 1))), (0, .ref jd), (1, .int p0), (2, .int (nI (cnt (wbit w) (i + 1))))]) hx hb d_D_left_36 hl (k := 3) rfl (nI_1 _) (by decide) rfl (fun ls hl => ?_)
          refine lv_goto (tgt := 4) hx hb d_D_left_39 (by decide) ?_
          exact ih_4 (i + 1) (by omega) (by omega) (lt_s hno hq9) ls (lv_sub (l' := [(0, .ref jd), (1, .int p0), (2, .int (nI (cnt (wbit w) (i + 1)))), (3, .int (nI (i + 1)))]) hl [1, 2, 3, 0] rfl)
        · skip
          have c_23 := bI_t c_23
          refine lv_iload_n hx hb d_D_left_26 rfl (lv_at hl 2 rfl) ?_
          refine lv_iload_n hx hb d_D_left_27 rfl (lv_at hl 1 rfl) ?_
          refine lv_icmp_ne (tgt := 33) hx hb d_D_left_28 (by decide) (fun c_28 => ?_) (fun c_28 => ?_)
          · skip
            have hq9 : lfQ w p0 i = false := by unfold lfQ; rw [decide_eq_false c_28, Bool.and_false]
            refine lv_iinc (v := nI (cnt (wbit w) (i + 1))) (lv' := [(2, .int (nI (cnt (wbit w) (i + 1)))), (0, .ref jd), (1, .int p0), (3, .int (nI i))]) hx hb d_D_left_33 hl (k := 2) rfl (by rw [cnt_t (P := wbit w) (n := i) c_23]; exact nI_1 _) (by decide) rfl (fun ls hl => ?_)
            refine lv_iinc (v := nI (i + 1)) (lv' := [(3, .int (nI (i + 1))), (2, .int (nI (cnt (wbit w) (i + 1)))), (0, .ref jd), (1, .int p0)]) hx hb d_D_left_36 hl (k := 3) rfl (nI_1 _) (by decide) rfl (fun ls hl => ?_)
            refine lv_goto (tgt := 4) hx hb d_D_left_39 (by decide) ?_
            exact ih_4 (i + 1) (by omega) (by omega) (lt_s hno hq9) ls (lv_sub (l' := [(0, .ref jd), (1, .int p0), (2, .int (nI (cnt (wbit w) (i + 1)))), (3, .int (nI (i + 1)))]) hl [2, 3, 1, 0] rfl)
          · skip
            refine lv_iload_n hx hb d_D_left_31 rfl (lv_at hl 3 rfl) ?_
            exact W.iret (v := nI i) hx hb hr (fun t ht hW => ⟨nI i, rfl, (by rw [fst9_some (Q := lfQ w p0) (i := i) (by unfold lfQ; rw [c_23, decide_eq_true c_28]; rfl) hno (by omega)]; rfl), ht⟩) (fun _ h => nomatch h) d_D_left_32
  exact lp_4 ((n - 0) + 1) 0 (by omega) (by omega) lt_0 ls (lv_sub (l' := [(0, .ref jd), (1, .int p0), (2, .int (nI (cnt (wbit w) 0))), (3, .int (nI 0))]) hl [2, 3, 1, 0] rfl)
set_option maxHeartbeats 4000000 in
set_option maxRecDepth 100000 in
/-- minimal -/
theorem c_D_minimal (l : Launch) (dC : Nat → ClassId) (dI : Nat → Nat → Nat) (jd jh jh2 jg jb jy : Nat) (sd w : Int64) (jt jk jv jr n : Nat) (cg cb cy : ClassId) (G B : Nat → Int64) (S : Nat → Bool) (hn : n ≤ 43) : Met l y_D_minimal w_D_minimal ({ frames := 3, cells := 0, slots := 0, locals := 69 }) (ro_P dC dI [.ref jd] [(jd, .inr (2, [.long sd, .ref jh, .ref jh2, .ref jg, .ref jb, .ref jy, .long w])), (jh, .inr (1, [.ref jt, .ref jk, .ref jv, .ref jr, .int (nI n)])), (jg, .inl (cg, 43, .inr (.inl G))), (jb, .inl (cb, 8, .inr (.inl B))), (jy, .inl (cy, 256, .inl (bF S)))] [(cg, .long), (cb, .long), (cy, .boolean)]) (vp_Si (fun r => r = bI (mnB S G B n w))) 0 0 (fun _ => False) := by
  refine Met.ofW (cc := b_D_minimal) (maxL := 1) (ret := (Option.some Jvm.ClassFile.FieldType.boolean)) (by decide) rfl ?_
  intro p e s m args below meth c s₁ B0 hml hv0
  obtain ⟨rfl, hP, hK, hN⟩ := hv0
  have hx := B0.exec
  have hb := B0.bytes
  have hr := B0.returns
  have hts := atoms_spec (ws := w_D_minimal) B0.pre
  have hown : s.vm.findClass R_D = some m.cls := findClass_of_methodNamed B0.named
  have hlocks := B0.notSynchronized
  have hP : va_P (dC, dI) classes [(jd, .inr (2, [.long sd, .ref jh, .ref jh2, .ref jg, .ref jb, .ref jy, .long w])), (jh, .inr (1, [.ref jt, .ref jk, .ref jv, .ref jr, .int (nI n)])), (jg, .inl (cg, 43, .inr (.inl G))), (jb, .inl (cb, 8, .inr (.inl B))), (jy, .inl (cy, 256, .inl (bF S)))] s.heap := hP
  have hl := lv_entry ([.ref jd]) (n := 1) (Nat.le_of_ble_eq_true rfl)
  rw [lg_entry_eq]
  generalize (lg_sl ([.ref jd]) ++ List.replicate (1 - (lg_sl ([.ref jd])).length) Slot.unset).toArray = ls at hl ⊢
  have hl : lv_has ls 1 [(0, .ref jd)] := hl
  refine lv_aload_n hx hb d_D_minimal_0 rfl (lv_at hl 0 rfl) ?_
  refine va_get (D := (dC, dI)) (ci := 2) (v := .long w) (C := R_D) (T := F_D) (N := 7) hx hb hts (lay_D _) hown hK hP 0 rfl rfl 6 (by decide) (hts _ (List.mem_cons_of_mem _ m_62)) (fun _ h9 => h9) rfl d_D_minimal_1 ?_
  refine lv_lconst (v := 0) hx hb d_D_minimal_4 (by decide +kernel) ?_
  refine W.lcmp hx hb d_D_minimal_5 ?_
  refine lv_if_eq (tgt := 32) hx hb d_D_minimal_6 (by decide) (fun c_6 => ?_) (fun c_6 => ?_)
  · skip
    have c_6 := lc_eq.mp c_6
    refine lv_iconst (v := nI 0) hx hb d_D_minimal_32 (by decide +kernel) ?_
    exact W.zret (v := nI 0) (ty := .boolean) hx hb hr (by decide +kernel) (fun t ht hW => ⟨nI 0, rfl, (by simp [mnB, bI, c_6]), ht⟩) (fun _ h => nomatch h) d_D_minimal_33
  · skip
    have c_6 := (not_congr lc_eq).mp c_6
    refine lv_aload_n hx hb d_D_minimal_9 rfl (lv_at hl 0 rfl) ?_
    refine lv_aload_n hx hb d_D_minimal_10 rfl (lv_at hl 0 rfl) ?_
    refine va_get (D := (dC, dI)) (ci := 2) (v := .long w) (C := R_D) (T := F_D) (N := 7) hx hb hts (lay_D _) hown hK hP 0 rfl rfl 6 (by decide) (hts _ (List.mem_cons_of_mem _ m_62)) (fun _ h9 => h9) rfl d_D_minimal_11 ?_
    have hPc := hP.sub (ws' := [(jd, .inr (2, [.long sd, .ref jh, .ref jh2, .ref jg, .ref jb, .ref jy, .long w])), (jb, .inl (cb, 8, .inr (.inl B))), (jy, .inl (cy, 256, .inl (bF S)))]) [0, 3, 4] rfl
    have hKc := hK.sub (tys' := [(cb, .long), (cy, .boolean)]) [1, 2] rfl
    refine vp_callSi (W.runV (As := [.long w]) (rest := []) ⟨hx, hb, hml, hown, hts⟩ (c_D_staysWith l dC dI jd jh jh2 jg jb jy sd w cb cy B S w) (cwV 1 hts (g_V big_w m_96 m_98 ms_1 m_1 m_99) rfl rfl rfl (by decide +kernel) ⟨Nat.le_of_ble_eq_true rfl, Nat.le_of_ble_eq_true rfl⟩) (ro_V hPc hKc hN (va_recv hKc hPc (ci := 2) (q0 := 0) rfl rfl)) rfl rfl hl.1 rfl (lv_room (Nat.le_of_ble_eq_true rfl)) d_D_minimal_14 ⟨Nat.le_of_ble_eq_true rfl, Nat.le_of_ble_eq_true rfl⟩) (fun r_1 er_1 => ?_)
    have er_1 := er_1.symm
    subst er_1
    refine lv_if_eq (tgt := 32) hx hb d_D_minimal_17 (by decide) (fun c_17 => ?_) (fun c_17 => ?_)
    · skip
      have c_17 := bI_f c_17
      refine lv_iconst (v := nI 0) hx hb d_D_minimal_32 (by decide +kernel) ?_
      exact W.zret (v := nI 0) (ty := .boolean) hx hb hr (by decide +kernel) (fun t ht hW => ⟨nI 0, rfl, (by simp [mnB, bI, c_6, c_17]), ht⟩) (fun _ h => nomatch h) d_D_minimal_33
    · skip
      have c_17 := bI_t c_17
      refine lv_aload_n hx hb d_D_minimal_20 rfl (lv_at hl 0 rfl) ?_
      have hPc := hP.sub (ws' := [(jd, .inr (2, [.long sd, .ref jh, .ref jh2, .ref jg, .ref jb, .ref jy, .long w])), (jh, .inr (1, [.ref jt, .ref jk, .ref jv, .ref jr, .int (nI n)])), (jg, .inl (cg, 43, .inr (.inl G))), (jb, .inl (cb, 8, .inr (.inl B))), (jy, .inl (cy, 256, .inl (bF S)))]) [0, 1, 2, 3, 4] rfl
      have hKc := hK.sub (tys' := [(cg, .long), (cb, .long), (cy, .boolean)]) [0, 1, 2] rfl
      refine vp_callSi (W.runV (As := []) (rest := []) ⟨hx, hb, hml, hown, hts⟩ (c_D_firstThatMayGo l dC dI jd jh jh2 jg jb jy sd w jt jk jv jr n cg cb cy G B S (by first | assumption | omega)) (cwV 0 hts (g_V big_w m_110 m_112 ms_3 m_1 m_113) rfl rfl rfl (by decide +kernel) ⟨Nat.le_of_ble_eq_true rfl, Nat.le_of_ble_eq_true rfl⟩) (ro_V hPc hKc hN (va_recv hKc hPc (ci := 2) (q0 := 0) rfl rfl)) rfl rfl hl.1 rfl (lv_room (Nat.le_of_ble_eq_true rfl)) d_D_minimal_21 ⟨Nat.le_of_ble_eq_true rfl, Nat.le_of_ble_eq_true rfl⟩) (fun r_2 er_2 => ?_)
      have er_2 := er_2.symm
      subst er_2
      refine lv_iconst (v := (-1)) hx hb d_D_minimal_24 (by decide +kernel) ?_
      refine lv_icmp_ne (tgt := 32) hx hb d_D_minimal_25 (by decide) (fun c_25 => ?_) (fun c_25 => ?_)
      · skip
        refine lv_iconst (v := nI 0) hx hb d_D_minimal_32 (by decide +kernel) ?_
        exact W.zret (v := nI 0) (ty := .boolean) hx hb hr (by decide +kernel) (fun t ht hW => ⟨nI 0, rfl, (by simp [mnB, bI, c_6, c_17, c_25]), ht⟩) (fun _ h => nomatch h) d_D_minimal_33
      · skip
        refine lv_iconst (v := nI 1) hx hb d_D_minimal_28 (by decide +kernel) ?_
        refine lv_goto (tgt := 33) hx hb d_D_minimal_29 (by decide) ?_
        exact W.zret (v := nI 1) (ty := .boolean) hx hb hr (by decide +kernel) (fun t ht hW => ⟨nI 1, rfl, (by simp [mnB, bI, c_6, c_17, c_25]), ht⟩) (fun _ h => nomatch h) d_D_minimal_33
set_option maxHeartbeats 4000000 in
set_option maxRecDepth 100000 in
/-- count -/
theorem c_D_count (l : Launch) (dC : Nat → ClassId) (dI : Nat → Nat → Nat) (jd jh jh2 jg jb jy : Nat) (sd w : Int64) (jt jk jv jr n : Nat) (ck cb cy : ClassId) (K : Nat → Int32) (B : Nat → Int64) (S : Nat → Bool) (p0 : Int32) (hn : n ≤ 43) : Met l y_D_count w_D_count ({ frames := 2, cells := 0, slots := 0, locals := 45 }) (ro_P dC dI [.ref jd, .int p0] [(jd, .inr (2, [.long sd, .ref jh, .ref jh2, .ref jg, .ref jb, .ref jy, .long w])), (jh, .inr (1, [.ref jt, .ref jk, .ref jv, .ref jr, .int (nI n)])), (jk, .inl (ck, 43, .inl K)), (jb, .inl (cb, 8, .inr (.inl B))), (jy, .inl (cy, 256, .inl (bF S)))] [(ck, .int), (cb, .long), (cy, .boolean)]) (vp_Si (fun r => r = ctI n K B S w p0)) 0 0 (fun _ => False) := by
  refine Met.ofW (cc := b_D_count) (maxL := 2) (ret := (Option.some Jvm.ClassFile.FieldType.int)) (by decide) rfl ?_
  intro p e s m args below meth c s₁ B0 hml hv0
  obtain ⟨rfl, hP, hK, hN⟩ := hv0
  have hx := B0.exec
  have hb := B0.bytes
  have hr := B0.returns
  have hts := atoms_spec (ws := w_D_count) B0.pre
  have hown : s.vm.findClass R_D = some m.cls := findClass_of_methodNamed B0.named
  have hlocks := B0.notSynchronized
  have hP : va_P (dC, dI) classes [(jd, .inr (2, [.long sd, .ref jh, .ref jh2, .ref jg, .ref jb, .ref jy, .long w])), (jh, .inr (1, [.ref jt, .ref jk, .ref jv, .ref jr, .int (nI n)])), (jk, .inl (ck, 43, .inl K)), (jb, .inl (cb, 8, .inr (.inl B))), (jy, .inl (cy, 256, .inl (bF S)))] s.heap := hP
  have hl := lv_entry ([.ref jd, .int p0]) (n := 2) (Nat.le_of_ble_eq_true rfl)
  rw [lg_entry_eq]
  generalize (lg_sl ([.ref jd, .int p0]) ++ List.replicate (2 - (lg_sl ([.ref jd, .int p0])).length) Slot.unset).toArray = ls at hl ⊢
  have hl : lv_has ls 2 [(0, .ref jd), (1, .int p0)] := hl
  refine lv_iload_n hx hb d_D_count_0 rfl (lv_at hl 1 rfl) ?_
  by_cases o_1 : p0.toInt < 0 ∨ 4 < p0.toInt
  · skip
    refine lv_tableOut (tgt := 84) hx hb d_D_count_1 o_1 (by decide) ?_
    refine lv_aload_n hx hb d_D_count_84 rfl (lv_at hl 0 rfl) ?_
    refine lv_iload_n hx hb d_D_count_85 rfl (lv_at hl 1 rfl) ?_
    have hPc := hP.sub (ws' := [(jd, .inr (2, [.long sd, .ref jh, .ref jh2, .ref jg, .ref jb, .ref jy, .long w])), (jh, .inr (1, [.ref jt, .ref jk, .ref jv, .ref jr, .int (nI n)])), (jk, .inl (ck, 43, .inl K))]) [0, 1, 2] rfl
    have hKc := hK.sub (tys' := [(ck, .int)]) [0] rfl
    refine vp_callSi (W.runV (As := [.int p0]) (rest := []) ⟨hx, hb, hml, hown, hts⟩ (c_D_countOfKind l dC dI jd jh jh2 jg jb jy sd w jt jk jv jr n ck K p0 (by first | assumption | omega)) (cwV 1 hts (g_V big_w m_142 m_144 ms_7 m_1 m_145) rfl rfl rfl (by decide +kernel) ⟨Nat.le_of_ble_eq_true rfl, Nat.le_of_ble_eq_true rfl⟩) (ro_V hPc hKc hN (va_recv hKc hPc (ci := 2) (q0 := 0) rfl rfl)) rfl rfl hl.1 rfl (lv_room (Nat.le_of_ble_eq_true rfl)) d_D_count_86 ⟨Nat.le_of_ble_eq_true rfl, Nat.le_of_ble_eq_true rfl⟩) (fun r_1 er_1 => ?_)
    have er_1 := er_1.symm
    subst er_1
    exact W.iret (v := ckI n K p0) hx hb hr (fun t ht hW => ⟨ckI n K p0, rfl, ((ct_o o_1).symm), ht⟩) (fun _ h => nomatch h) d_D_count_89
  · skip
    have o1_1 : ¬ p0.toInt < 0 := fun h => o_1 (Or.inl h)
    have o2_1 : ¬ 4 < p0.toInt := fun h => o_1 (Or.inr h)
    by_cases o_1_0 : p0.toInt = 0
    · skip
      have o3 : p0 = nI 0 := sw_eq o_1_0 (by decide +kernel)
      refine lv_tableIn (tgt := 36) hx hb d_D_count_1 o1_1 o2_1 (by rw [o_1_0]; rfl) (by decide) ?_
      refine lv_aload_n hx hb d_D_count_36 rfl (lv_at hl 0 rfl) ?_
      refine va_get (D := (dC, dI)) (ci := 2) (v := .ref jh) (C := R_D) (T := F_D) (N := 7) hx hb hts (lay_D _) hown hK hP 0 rfl rfl 1 (by decide) (hts _ (List.mem_cons_of_mem _ m_57)) (fun _ h9 => h9) rfl d_D_count_37 ?_
      refine va_getN (D := (dC, dI)) (ci := 1) (v := .int (nI n)) (C := R_H) (T := F_H) (N := 5) hx hb hts (lay_H _) hown hK hP 1 rfl rfl 4 (by decide) (hN.use (by decide +kernel : (Jvm.Cond.fieldLinkNest "PortDrawer" (62 : Nat) "PortDrawer$Harbour" "parts" "I" "PortDrawer") ∈ NWl)) (fun _ h9 => h9) rfl d_D_count_40 ?_
      exact W.iret (v := nI n) hx hb hr (fun t ht hW => ⟨nI n, rfl, (by rw [o3]; exact ct_0.symm), ht⟩) (fun _ h => nomatch h) d_D_count_43
    · skip
      by_cases o_1_1 : p0.toInt = 1
      · skip
        have o3 : p0 = nI 1 := sw_eq o_1_1 (by decide +kernel)
        refine lv_tableIn (tgt := 44) hx hb d_D_count_1 o1_1 o2_1 (by rw [o_1_1]; rfl) (by decide) ?_
        refine lv_aload_n hx hb d_D_count_44 rfl (lv_at hl 0 rfl) ?_
        refine va_get (D := (dC, dI)) (ci := 2) (v := .long w) (C := R_D) (T := F_D) (N := 7) hx hb hts (lay_D _) hown hK hP 0 rfl rfl 6 (by decide) (hts _ (List.mem_cons_of_mem _ m_62)) (fun _ h9 => h9) rfl d_D_count_45 ?_
        have hPc := hP.sub (ws' := []) [] rfl
        have hKc := hK.sub (tys' := []) [] rfl
        refine vp_callSi (W.runS (As := [.long w]) (rest := []) ⟨hx, hb, hml, hown, hts⟩ (c_J_bitCount l dC dI w) (va_cwS 1 hts (g_S big_w m_104 m_105 m_10 m_106) rfl rfl rfl (by decide +kernel) ⟨Nat.le_of_ble_eq_true rfl, Nat.le_of_ble_eq_true rfl⟩) (ro_S hPc hKc hN) rfl rfl hl.1 rfl (lv_room (Nat.le_of_ble_eq_true rfl)) d_D_count_48 ⟨Nat.le_of_ble_eq_true rfl, Nat.le_of_ble_eq_true rfl⟩) (fun r_2 er_2 => ?_)
        have er_2 := er_2.symm
        subst er_2
        exact W.iret (v := nI (cnt (wbit w) 64)) hx hb hr (fun t ht hW => ⟨nI (cnt (wbit w) 64), rfl, (by rw [o3]; exact ct_1.symm), ht⟩) (fun _ h => nomatch h) d_D_count_51
      · skip
        by_cases o_1_2 : p0.toInt = 2
        · skip
          have o3 : p0 = nI 2 := sw_eq o_1_2 (by decide +kernel)
          refine lv_tableIn (tgt := 52) hx hb d_D_count_1 o1_1 o2_1 (by rw [o_1_2]; rfl) (by decide) ?_
          refine lv_aload_n hx hb d_D_count_52 rfl (lv_at hl 0 rfl) ?_
          refine va_get (D := (dC, dI)) (ci := 2) (v := .ref jh) (C := R_D) (T := F_D) (N := 7) hx hb hts (lay_D _) hown hK hP 0 rfl rfl 1 (by decide) (hts _ (List.mem_cons_of_mem _ m_57)) (fun _ h9 => h9) rfl d_D_count_53 ?_
          refine lv_iconst (v := nI 5) hx hb d_D_count_56 (by decide +kernel) ?_
          refine lv_aload_n hx hb d_D_count_57 rfl (lv_at hl 0 rfl) ?_
          refine va_get (D := (dC, dI)) (ci := 2) (v := .ref jh) (C := R_D) (T := F_D) (N := 7) hx hb hts (lay_D _) hown hK hP 0 rfl rfl 1 (by decide) (hts _ (List.mem_cons_of_mem _ m_57)) (fun _ h9 => h9) rfl d_D_count_58 ?_
          refine va_getN (D := (dC, dI)) (ci := 1) (v := .int (nI n)) (C := R_H) (T := F_H) (N := 5) hx hb hts (lay_H _) hown hK hP 1 rfl rfl 4 (by decide) (hN.use (by decide +kernel : (Jvm.Cond.fieldLinkNest "PortDrawer" (62 : Nat) "PortDrawer$Harbour" "parts" "I" "PortDrawer") ∈ NWl)) (fun _ h9 => h9) rfl d_D_count_61 ?_
          have hPc := hP.sub (ws' := [(jh, .inr (1, [.ref jt, .ref jk, .ref jv, .ref jr, .int (nI n)])), (jk, .inl (ck, 43, .inl K))]) [1, 2] rfl
          have hKc := hK.sub (tys' := [(ck, .int)]) [0] rfl
          refine vp_callSi (va_Run.run (va_runVN (As := [.int (nI 5), .int (nI n)]) (rest := []) ⟨hx, hb, hml, hown, hts⟩ (c_H_ofKindAheadOf l dC dI jh jt jk jv jr n ck K (nI 5) n (by first | assumption | omega) (by first | assumption | omega)) ⟨va_cnB 2 hts (g_c big_w m_137) rfl rfl rfl (hN _ (by decide +kernel : (Jvm.Cond.methodLinkNest "PortDrawer" (78 : Nat) ({ cls := "PortDrawer$Harbour", name := "ofKindAheadOf", desc := "(II)I" } : Jvm.MethodName) "PortDrawer") ∈ NWl)) (hts _ (List.mem_cons_of_mem _ m_2)) (by decide +kernel) ⟨Nat.le_of_ble_eq_true rfl, Nat.le_of_ble_eq_true rfl⟩, (hts _ (List.mem_cons_of_mem _ m_136)), (hts _ (List.mem_cons_of_mem _ ms_5))⟩ (ro_V hPc hKc hN (va_recv hKc hPc (ci := 1) (q0 := 0) rfl rfl)) rfl rfl hl.1 rfl (lv_room (Nat.le_of_ble_eq_true rfl)) d_D_count_64 ⟨Nat.le_of_ble_eq_true rfl, Nat.le_of_ble_eq_true rfl⟩)) (fun r_3 er_3 => ?_)
          have er_3 := er_3.symm
          subst er_3
          exact W.iret (v := nI (cnt (kP K (nI 5)) n)) hx hb hr (fun t ht hW => ⟨nI (cnt (kP K (nI 5)) n), rfl, (by rw [o3]; exact ct_2.symm), ht⟩) (fun _ h => nomatch h) d_D_count_67
        · skip
          by_cases o_1_3 : p0.toInt = 3
          · skip
            have o3 : p0 = nI 3 := sw_eq o_1_3 (by decide +kernel)
            refine lv_tableIn (tgt := 68) hx hb d_D_count_1 o1_1 o2_1 (by rw [o_1_3]; rfl) (by decide) ?_
            refine lv_aload_n hx hb d_D_count_68 rfl (lv_at hl 0 rfl) ?_
            refine va_get (D := (dC, dI)) (ci := 2) (v := .ref jb) (C := R_D) (T := F_D) (N := 7) hx hb hts (lay_D _) hown hK hP 0 rfl rfl 4 (by decide) (hts _ (List.mem_cons_of_mem _ m_60)) (fun _ h9 => h9) rfl d_D_count_69 ?_
            refine lv_bipush (v := nI 7) hx hb d_D_count_72 (by decide +kernel) ?_
            refine va_lald hx hb hK hP 3 1 rfl rfl (vp_in_nI (by omega) (by omega)) d_D_count_74 ?_
            refine lv_topl (fun w_4 ew_4 => ?_)
            rw [nI_clamp (by omega)] at ew_4
            have ew_4 := ew_4.symm
            subst ew_4
            have hPc := hP.sub (ws' := []) [] rfl
            have hKc := hK.sub (tys' := []) [] rfl
            refine vp_callSi (W.runS (As := [.long (B 7)]) (rest := []) ⟨hx, hb, hml, hown, hts⟩ (c_J_bitCount l dC dI (B 7)) (va_cwS 1 hts (g_S big_w m_104 m_105 m_10 m_106) rfl rfl rfl (by decide +kernel) ⟨Nat.le_of_ble_eq_true rfl, Nat.le_of_ble_eq_true rfl⟩) (ro_S hPc hKc hN) rfl rfl hl.1 rfl (lv_room (Nat.le_of_ble_eq_true rfl)) d_D_count_75 ⟨Nat.le_of_ble_eq_true rfl, Nat.le_of_ble_eq_true rfl⟩) (fun r_5 er_5 => ?_)
            have er_5 := er_5.symm
            subst er_5
            exact W.iret (v := nI (cnt (wbit (B 7)) 64)) hx hb hr (fun t ht hW => ⟨nI (cnt (wbit (B 7)) 64), rfl, (by rw [o3]; exact ct_3.symm), ht⟩) (fun _ h => nomatch h) d_D_count_78
          · skip
            have o_1_4 : p0.toInt = 4 := by omega
            have o3 : p0 = nI 4 := sw_eq o_1_4 (by decide +kernel)
            refine lv_tableIn (tgt := 79) hx hb d_D_count_1 o1_1 o2_1 (by rw [o_1_4]; rfl) (by decide) ?_
            refine lv_aload_n hx hb d_D_count_79 rfl (lv_at hl 0 rfl) ?_
            have hPc := hP.sub (ws' := [(jd, .inr (2, [.long sd, .ref jh, .ref jh2, .ref jg, .ref jb, .ref jy, .long w])), (jy, .inl (cy, 256, .inl (bF S)))]) [0, 4] rfl
            have hKc := hK.sub (tys' := [(cy, .boolean)]) [2] rfl
            refine vp_callSi (W.runV (As := []) (rest := []) ⟨hx, hb, hml, hown, hts⟩ (c_D_verdictsThatStay l dC dI jd jh jh2 jg jb jy sd w cy S) (cwV 0 hts (g_V big_w m_138 m_140 ms_6 m_1 m_141) rfl rfl rfl (by decide +kernel) ⟨Nat.le_of_ble_eq_true rfl, Nat.le_of_ble_eq_true rfl⟩) (ro_V hPc hKc hN (va_recv hKc hPc (ci := 2) (q0 := 0) rfl rfl)) rfl rfl hl.1 rfl (lv_room (Nat.le_of_ble_eq_true rfl)) d_D_count_80 ⟨Nat.le_of_ble_eq_true rfl, Nat.le_of_ble_eq_true rfl⟩) (fun r_6 er_6 => ?_)
            have er_6 := er_6.symm
            subst er_6
            exact W.iret (v := nI (cnt S 256)) hx hb hr (fun t ht hW => ⟨nI (cnt S 256), rfl, (by rw [o3]; exact ct_4.symm), ht⟩) (fun _ h => nomatch h) d_D_count_83
