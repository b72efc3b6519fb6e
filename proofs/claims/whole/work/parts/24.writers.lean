theorem m_271 : (Jvm.Cond.code ({ cls := "PortDrawer$Harbour", name := "isFittingAct", desc := "(I)Z" } : Jvm.MethodName) prog_2_method_8_code (3 : Nat) (Option.some Jvm.ClassFile.FieldType.boolean)) ∈ tblG := m_t (i := 271) rfl rfl
theorem ms_18 : Cond.selects "PortDrawer$Harbour" ⟨"PortDrawer$Harbour", "isFittingAct", "(I)Z"⟩ ⟨"PortDrawer$Harbour", "isFittingAct", "(I)Z"⟩ ∈ tblG := m_s (i := 18) rfl rfl
theorem m_270 : (Jvm.Cond.instanceMethod ({ cls := "PortDrawer$Harbour", name := "isFittingAct", desc := "(I)Z" } : Jvm.MethodName)) ∈ tblG := m_t (i := 270) rfl rfl
theorem m_103 : (Jvm.Cond.code ({ cls := "PortDrawer", name := "allParts", desc := "()J" } : Jvm.MethodName) prog_1_method_15_code (1 : Nat) (Option.some Jvm.ClassFile.FieldType.long)) ∈ tblG := m_t (i := 103) rfl rfl
theorem ms_2 : Cond.selects "PortDrawer" ⟨"PortDrawer", "allParts", "()J"⟩ ⟨"PortDrawer", "allParts", "()J"⟩ ∈ tblG := m_s (i := 2) rfl rfl
theorem m_100 : (Jvm.Cond.methodLink "PortDrawer" (58 : Nat) ({ cls := "PortDrawer", name := "allParts", desc := "()J" } : Jvm.MethodName)) ∈ tblG := m_t (i := 100) rfl rfl
theorem m_102 : (Jvm.Cond.instanceMethod ({ cls := "PortDrawer", name := "allParts", desc := "()J" } : Jvm.MethodName)) ∈ tblG := m_t (i := 102) rfl rfl
theorem m_16 : (Jvm.Cond.methodLink "PortDrawer" (1 : Nat) ({ cls := "java/lang/Object", name := "<init>", desc := "()V" } : Jvm.MethodName)) ∈ tblG := m_t (i := 16) rfl rfl
theorem m_19 : (Jvm.Cond.classLink "PortDrawer" (7 : Nat) "PortDrawer$Harbour") ∈ tblG := m_t (i := 19) rfl rfl
theorem m_20 : (Jvm.Cond.instantiable "PortDrawer$Harbour" (5 : Nat)) ∈ tblG := m_t (i := 20) rfl rfl
theorem m_23 : (Jvm.Cond.code ({ cls := "PortDrawer$Harbour", name := "<init>", desc := "()V" } : Jvm.MethodName) prog_2_method_1_code (1 : Nat) (Option.none : Option Jvm.ClassFile.FieldType)) ∈ tblG := m_t (i := 23) rfl rfl
theorem m_22 : (Jvm.Cond.instanceMethod ({ cls := "PortDrawer$Harbour", name := "<init>", desc := "()V" } : Jvm.MethodName)) ∈ tblG := m_t (i := 22) rfl rfl
theorem m_58 : (Jvm.Cond.fieldLink "PortDrawer" (16 : Nat) "PortDrawer" "otherHarbour" "LPortDrawer$Harbour;") ∈ tblG := m_t (i := 58) rfl rfl
theorem m_78 : (Jvm.Cond.arrayClass Jvm.ClassFile.FieldType.long) ∈ tblG := m_t (i := 78) rfl rfl
theorem m_79 : (Jvm.Cond.arrayClass Jvm.ClassFile.FieldType.boolean) ∈ tblG := m_t (i := 79) rfl rfl
theorem m_56 : (Jvm.Cond.fieldLink "PortDrawer" (34 : Nat) "PortDrawer" "seed" "J") ∈ tblG := m_t (i := 56) rfl rfl
theorem d_D_verdict_0 : decode b_D_verdict 0 = .ok (.iload_n 1, 1) := by decide +kernel
theorem d_D_verdict_1 : decode b_D_verdict 1 = .ok (.ifCond .lt 20, 3) := by decide +kernel
theorem d_D_verdict_4 : decode b_D_verdict 4 = .ok (.iload_n 1, 1) := by decide +kernel
theorem d_D_verdict_5 : decode b_D_verdict 5 = .ok (.sipush 256, 3) := by decide +kernel
theorem d_D_verdict_8 : decode b_D_verdict 8 = .ok (.if_icmp .ge 13, 3) := by decide +kernel
theorem d_D_verdict_11 : decode b_D_verdict 11 = .ok (.aload_n 0, 1) := by decide +kernel
theorem d_D_verdict_12 : decode b_D_verdict 12 = .ok (.getfield 26, 3) := by decide +kernel
theorem d_D_verdict_15 : decode b_D_verdict 15 = .ok (.iload_n 1, 1) := by decide +kernel
theorem d_D_verdict_16 : decode b_D_verdict 16 = .ok (.baload, 1) := by decide +kernel
theorem d_D_verdict_17 : decode b_D_verdict 17 = .ok (.iload_n 2, 1) := by decide +kernel
theorem d_D_verdict_18 : decode b_D_verdict 18 = .ok (.if_icmp .ne 5, 3) := by decide +kernel
theorem d_D_verdict_21 : decode b_D_verdict 21 = .ok (.iconst 0, 1) := by decide +kernel
theorem d_D_verdict_22 : decode b_D_verdict 22 = .ok (.ireturn, 1) := by decide +kernel
theorem d_D_verdict_23 : decode b_D_verdict 23 = .ok (.aload_n 0, 1) := by decide +kernel
theorem d_D_verdict_24 : decode b_D_verdict 24 = .ok (.getfield 26, 3) := by decide +kernel
theorem d_D_verdict_27 : decode b_D_verdict 27 = .ok (.iload_n 1, 1) := by decide +kernel
theorem d_D_verdict_28 : decode b_D_verdict 28 = .ok (.iload_n 2, 1) := by decide +kernel
theorem d_D_verdict_29 : decode b_D_verdict 29 = .ok (.bastore, 1) := by decide +kernel
theorem d_D_verdict_30 : decode b_D_verdict 30 = .ok (.iconst 1, 1) := by decide +kernel
theorem d_D_verdict_31 : decode b_D_verdict 31 = .ok (.ireturn, 1) := by decide +kernel
theorem d_D_noteGoingWith_0 : decode b_D_noteGoingWith 0 = .ok (.iconst 0, 1) := by decide +kernel
theorem d_D_noteGoingWith_1 : decode b_D_noteGoingWith 1 = .ok (.istore_n 1, 1) := by decide +kernel
theorem d_D_noteGoingWith_2 : decode b_D_noteGoingWith 2 = .ok (.iload_n 1, 1) := by decide +kernel
theorem d_D_noteGoingWith_3 : decode b_D_noteGoingWith 3 = .ok (.aload_n 0, 1) := by decide +kernel
theorem d_D_noteGoingWith_4 : decode b_D_noteGoingWith 4 = .ok (.getfield 10, 3) := by decide +kernel
theorem d_D_noteGoingWith_7 : decode b_D_noteGoingWith 7 = .ok (.getfield 62, 3) := by decide +kernel
theorem d_D_noteGoingWith_10 : decode b_D_noteGoingWith 10 = .ok (.if_icmp .ge 18, 3) := by decide +kernel
theorem d_D_noteGoingWith_13 : decode b_D_noteGoingWith 13 = .ok (.aload_n 0, 1) := by decide +kernel
theorem d_D_noteGoingWith_14 : decode b_D_noteGoingWith 14 = .ok (.getfield 19, 3) := by decide +kernel
theorem d_D_noteGoingWith_17 : decode b_D_noteGoingWith 17 = .ok (.iload_n 1, 1) := by decide +kernel
theorem d_D_noteGoingWith_18 : decode b_D_noteGoingWith 18 = .ok (.lconst 1, 1) := by decide +kernel
theorem d_D_noteGoingWith_19 : decode b_D_noteGoingWith 19 = .ok (.iload_n 1, 1) := by decide +kernel
theorem d_D_noteGoingWith_20 : decode b_D_noteGoingWith 20 = .ok (.lshl, 1) := by decide +kernel
theorem d_D_noteGoingWith_21 : decode b_D_noteGoingWith 21 = .ok (.lastore, 1) := by decide +kernel
theorem d_D_noteGoingWith_22 : decode b_D_noteGoingWith 22 = .ok (.iinc 1 1, 3) := by decide +kernel
theorem d_D_noteGoingWith_25 : decode b_D_noteGoingWith 25 = .ok (.goto (-23), 3) := by decide +kernel
theorem d_D_noteGoingWith_28 : decode b_D_noteGoingWith 28 = .ok (.aload_n 0, 1) := by decide +kernel
theorem d_D_noteGoingWith_29 : decode b_D_noteGoingWith 29 = .ok (.getfield 10, 3) := by decide +kernel
theorem d_D_noteGoingWith_32 : decode b_D_noteGoingWith 32 = .ok (.getfield 62, 3) := by decide +kernel
theorem d_D_noteGoingWith_35 : decode b_D_noteGoingWith 35 = .ok (.iconst 1, 1) := by decide +kernel
theorem d_D_noteGoingWith_36 : decode b_D_noteGoingWith 36 = .ok (.isub, 1) := by decide +kernel
theorem d_D_noteGoingWith_37 : decode b_D_noteGoingWith 37 = .ok (.istore_n 1, 1) := by decide +kernel
theorem d_D_noteGoingWith_38 : decode b_D_noteGoingWith 38 = .ok (.iload_n 1, 1) := by decide +kernel
theorem d_D_noteGoingWith_39 : decode b_D_noteGoingWith 39 = .ok (.ifCond .lt 45, 3) := by decide +kernel
theorem d_D_noteGoingWith_42 : decode b_D_noteGoingWith 42 = .ok (.aload_n 0, 1) := by decide +kernel
theorem d_D_noteGoingWith_43 : decode b_D_noteGoingWith 43 = .ok (.getfield 10, 3) := by decide +kernel
theorem d_D_noteGoingWith_46 : decode b_D_noteGoingWith 46 = .ok (.getfield 85, 3) := by decide +kernel
theorem d_D_noteGoingWith_49 : decode b_D_noteGoingWith 49 = .ok (.iload_n 1, 1) := by decide +kernel
theorem d_D_noteGoingWith_50 : decode b_D_noteGoingWith 50 = .ok (.iaload, 1) := by decide +kernel
theorem d_D_noteGoingWith_51 : decode b_D_noteGoingWith 51 = .ok (.istore_n 2, 1) := by decide +kernel
theorem d_D_noteGoingWith_52 : decode b_D_noteGoingWith 52 = .ok (.aload_n 0, 1) := by decide +kernel
theorem d_D_noteGoingWith_53 : decode b_D_noteGoingWith 53 = .ok (.getfield 10, 3) := by decide +kernel
theorem d_D_noteGoingWith_56 : decode b_D_noteGoingWith 56 = .ok (.iload_n 2, 1) := by decide +kernel
theorem d_D_noteGoingWith_57 : decode b_D_noteGoingWith 57 = .ok (.invokevirtual 66, 3) := by decide +kernel
theorem d_D_noteGoingWith_60 : decode b_D_noteGoingWith 60 = .ok (.ifCond .eq 18, 3) := by decide +kernel
theorem d_D_noteGoingWith_63 : decode b_D_noteGoingWith 63 = .ok (.aload_n 0, 1) := by decide +kernel
theorem d_D_noteGoingWith_64 : decode b_D_noteGoingWith 64 = .ok (.getfield 19, 3) := by decide +kernel
theorem d_D_noteGoingWith_67 : decode b_D_noteGoingWith 67 = .ok (.iload_n 2, 1) := by decide +kernel
theorem d_D_noteGoingWith_68 : decode b_D_noteGoingWith 68 = .ok (.dup2, 1) := by decide +kernel
theorem d_D_noteGoingWith_69 : decode b_D_noteGoingWith 69 = .ok (.laload, 1) := by decide +kernel
theorem d_D_noteGoingWith_70 : decode b_D_noteGoingWith 70 = .ok (.aload_n 0, 1) := by decide +kernel
theorem d_D_noteGoingWith_71 : decode b_D_noteGoingWith 71 = .ok (.getfield 19, 3) := by decide +kernel
theorem d_D_noteGoingWith_74 : decode b_D_noteGoingWith 74 = .ok (.iload_n 1, 1) := by decide +kernel
theorem d_D_noteGoingWith_75 : decode b_D_noteGoingWith 75 = .ok (.laload, 1) := by decide +kernel
theorem d_D_noteGoingWith_76 : decode b_D_noteGoingWith 76 = .ok (.lor, 1) := by decide +kernel
theorem d_D_noteGoingWith_77 : decode b_D_noteGoingWith 77 = .ok (.lastore, 1) := by decide +kernel
theorem d_D_noteGoingWith_78 : decode b_D_noteGoingWith 78 = .ok (.iinc 1 (-1), 3) := by decide +kernel
theorem d_D_noteGoingWith_81 : decode b_D_noteGoingWith 81 = .ok (.goto (-43), 3) := by decide +kernel
theorem d_D_noteGoingWith_84 : decode b_D_noteGoingWith 84 = .ok (.return_, 1) := by decide +kernel
theorem d_D_notePartsOfBits_0 : decode b_D_notePartsOfBits 0 = .ok (.iconst 0, 1) := by decide +kernel
theorem d_D_notePartsOfBits_1 : decode b_D_notePartsOfBits 1 = .ok (.istore_n 1, 1) := by decide +kernel
theorem d_D_notePartsOfBits_2 : decode b_D_notePartsOfBits 2 = .ok (.iload_n 1, 1) := by decide +kernel
theorem d_D_notePartsOfBits_3 : decode b_D_notePartsOfBits 3 = .ok (.bipush 8, 2) := by decide +kernel
theorem d_D_notePartsOfBits_5 : decode b_D_notePartsOfBits 5 = .ok (.if_icmp .ge 16, 3) := by decide +kernel
theorem d_D_notePartsOfBits_8 : decode b_D_notePartsOfBits 8 = .ok (.aload_n 0, 1) := by decide +kernel
theorem d_D_notePartsOfBits_9 : decode b_D_notePartsOfBits 9 = .ok (.getfield 23, 3) := by decide +kernel
theorem d_D_notePartsOfBits_12 : decode b_D_notePartsOfBits 12 = .ok (.iload_n 1, 1) := by decide +kernel
theorem d_D_notePartsOfBits_13 : decode b_D_notePartsOfBits 13 = .ok (.lconst 0, 1) := by decide +kernel
theorem d_D_notePartsOfBits_14 : decode b_D_notePartsOfBits 14 = .ok (.lastore, 1) := by decide +kernel
theorem d_D_notePartsOfBits_15 : decode b_D_notePartsOfBits 15 = .ok (.iinc 1 1, 3) := by decide +kernel
theorem d_D_notePartsOfBits_18 : decode b_D_notePartsOfBits 18 = .ok (.goto (-16), 3) := by decide +kernel
theorem d_D_notePartsOfBits_21 : decode b_D_notePartsOfBits 21 = .ok (.iconst 0, 1) := by decide +kernel
theorem d_D_notePartsOfBits_22 : decode b_D_notePartsOfBits 22 = .ok (.istore_n 1, 1) := by decide +kernel
theorem d_D_notePartsOfBits_23 : decode b_D_notePartsOfBits 23 = .ok (.iload_n 1, 1) := by decide +kernel
theorem d_D_notePartsOfBits_24 : decode b_D_notePartsOfBits 24 = .ok (.aload_n 0, 1) := by decide +kernel
theorem d_D_notePartsOfBits_25 : decode b_D_notePartsOfBits 25 = .ok (.getfield 10, 3) := by decide +kernel
theorem d_D_notePartsOfBits_28 : decode b_D_notePartsOfBits 28 = .ok (.getfield 62, 3) := by decide +kernel
theorem d_D_notePartsOfBits_31 : decode b_D_notePartsOfBits 31 = .ok (.if_icmp .ge 79, 3) := by decide +kernel
theorem d_D_notePartsOfBits_34 : decode b_D_notePartsOfBits 34 = .ok (.aload_n 0, 1) := by decide +kernel
theorem d_D_notePartsOfBits_35 : decode b_D_notePartsOfBits 35 = .ok (.getfield 10, 3) := by decide +kernel
theorem d_D_notePartsOfBits_38 : decode b_D_notePartsOfBits 38 = .ok (.getfield 74, 3) := by decide +kernel
theorem d_D_notePartsOfBits_41 : decode b_D_notePartsOfBits 41 = .ok (.iload_n 1, 1) := by decide +kernel
theorem d_D_notePartsOfBits_42 : decode b_D_notePartsOfBits 42 = .ok (.iaload, 1) := by decide +kernel
theorem d_D_notePartsOfBits_43 : decode b_D_notePartsOfBits 43 = .ok (.istore_n 2, 1) := by decide +kernel
theorem d_D_notePartsOfBits_44 : decode b_D_notePartsOfBits 44 = .ok (.aload_n 0, 1) := by decide +kernel
theorem d_D_notePartsOfBits_45 : decode b_D_notePartsOfBits 45 = .ok (.getfield 10, 3) := by decide +kernel
theorem d_D_notePartsOfBits_48 : decode b_D_notePartsOfBits 48 = .ok (.getfield 82, 3) := by decide +kernel
theorem d_D_notePartsOfBits_51 : decode b_D_notePartsOfBits 51 = .ok (.iload_n 1, 1) := by decide +kernel
theorem d_D_notePartsOfBits_52 : decode b_D_notePartsOfBits 52 = .ok (.iaload, 1) := by decide +kernel
theorem d_D_notePartsOfBits_53 : decode b_D_notePartsOfBits 53 = .ok (.bipush 50, 2) := by decide +kernel
theorem d_D_notePartsOfBits_55 : decode b_D_notePartsOfBits 55 = .ok (.if_icmp .lt 25, 3) := by decide +kernel
theorem d_D_notePartsOfBits_58 : decode b_D_notePartsOfBits 58 = .ok (.iload_n 2, 1) := by decide +kernel
theorem d_D_notePartsOfBits_59 : decode b_D_notePartsOfBits 59 = .ok (.ifCond .lt 21, 3) := by decide +kernel
theorem d_D_notePartsOfBits_62 : decode b_D_notePartsOfBits 62 = .ok (.iload_n 2, 1) := by decide +kernel
theorem d_D_notePartsOfBits_63 : decode b_D_notePartsOfBits 63 = .ok (.bipush 7, 2) := by decide +kernel
theorem d_D_notePartsOfBits_65 : decode b_D_notePartsOfBits 65 = .ok (.if_icmp .ge 15, 3) := by decide +kernel
theorem d_D_notePartsOfBits_68 : decode b_D_notePartsOfBits 68 = .ok (.aload_n 0, 1) := by decide +kernel
theorem d_D_notePartsOfBits_69 : decode b_D_notePartsOfBits 69 = .ok (.getfield 23, 3) := by decide +kernel
theorem d_D_notePartsOfBits_72 : decode b_D_notePartsOfBits 72 = .ok (.iload_n 2, 1) := by decide +kernel
theorem d_D_notePartsOfBits_73 : decode b_D_notePartsOfBits 73 = .ok (.dup2, 1) := by decide +kernel
theorem d_D_notePartsOfBits_74 : decode b_D_notePartsOfBits 74 = .ok (.laload, 1) := by decide +kernel
theorem d_D_notePartsOfBits_75 : decode b_D_notePartsOfBits 75 = .ok (.lconst 1, 1) := by decide +kernel
theorem d_D_notePartsOfBits_76 : decode b_D_notePartsOfBits 76 = .ok (.iload_n 1, 1) := by decide +kernel
theorem d_D_notePartsOfBits_77 : decode b_D_notePartsOfBits 77 = .ok (.lshl, 1) := by decide +kernel
theorem d_D_notePartsOfBits_78 : decode b_D_notePartsOfBits 78 = .ok (.lor, 1) := by decide +kernel
theorem d_D_notePartsOfBits_79 : decode b_D_notePartsOfBits 79 = .ok (.lastore, 1) := by decide +kernel
theorem d_D_notePartsOfBits_80 : decode b_D_notePartsOfBits 80 = .ok (.aload_n 0, 1) := by decide +kernel
theorem d_D_notePartsOfBits_81 : decode b_D_notePartsOfBits 81 = .ok (.getfield 10, 3) := by decide +kernel
theorem d_D_notePartsOfBits_84 : decode b_D_notePartsOfBits 84 = .ok (.iload_n 1, 1) := by decide +kernel
theorem d_D_notePartsOfBits_85 : decode b_D_notePartsOfBits 85 = .ok (.invokevirtual 99, 3) := by decide +kernel
theorem d_D_notePartsOfBits_88 : decode b_D_notePartsOfBits 88 = .ok (.ifCond .eq 16, 3) := by decide +kernel
theorem d_D_notePartsOfBits_91 : decode b_D_notePartsOfBits 91 = .ok (.aload_n 0, 1) := by decide +kernel
theorem d_D_notePartsOfBits_92 : decode b_D_notePartsOfBits 92 = .ok (.getfield 23, 3) := by decide +kernel
theorem d_D_notePartsOfBits_95 : decode b_D_notePartsOfBits 95 = .ok (.bipush 7, 2) := by decide +kernel
theorem d_D_notePartsOfBits_97 : decode b_D_notePartsOfBits 97 = .ok (.dup2, 1) := by decide +kernel
theorem d_D_notePartsOfBits_98 : decode b_D_notePartsOfBits 98 = .ok (.laload, 1) := by decide +kernel
theorem d_D_notePartsOfBits_99 : decode b_D_notePartsOfBits 99 = .ok (.lconst 1, 1) := by decide +kernel
theorem d_D_notePartsOfBits_100 : decode b_D_notePartsOfBits 100 = .ok (.iload_n 1, 1) := by decide +kernel
theorem d_D_notePartsOfBits_101 : decode b_D_notePartsOfBits 101 = .ok (.lshl, 1) := by decide +kernel
theorem d_D_notePartsOfBits_102 : decode b_D_notePartsOfBits 102 = .ok (.lor, 1) := by decide +kernel
theorem d_D_notePartsOfBits_103 : decode b_D_notePartsOfBits 103 = .ok (.lastore, 1) := by decide +kernel
theorem d_D_notePartsOfBits_104 : decode b_D_notePartsOfBits 104 = .ok (.iinc 1 1, 3) := by decide +kernel
theorem d_D_notePartsOfBits_107 : decode b_D_notePartsOfBits 107 = .ok (.goto (-84), 3) := by decide +kernel
theorem d_D_notePartsOfBits_110 : decode b_D_notePartsOfBits 110 = .ok (.return_, 1) := by decide +kernel
theorem d_D_shorter_0 : decode b_D_shorter 0 = .ok (.aload_n 0, 1) := by decide +kernel
theorem d_D_shorter_1 : decode b_D_shorter 1 = .ok (.aload_n 0, 1) := by decide +kernel
theorem d_D_shorter_2 : decode b_D_shorter 2 = .ok (.getfield 30, 3) := by decide +kernel
theorem d_D_shorter_5 : decode b_D_shorter 5 = .ok (.invokevirtual 106, 3) := by decide +kernel
theorem d_D_shorter_8 : decode b_D_shorter 8 = .ok (.ifCond .ne 19, 3) := by decide +kernel
theorem d_D_shorter_11 : decode b_D_shorter 11 = .ok (.aload_n 0, 1) := by decide +kernel
theorem d_D_shorter_12 : decode b_D_shorter 12 = .ok (.aload_n 0, 1) := by decide +kernel
theorem d_D_shorter_13 : decode b_D_shorter 13 = .ok (.invokevirtual 58, 3) := by decide +kernel
theorem d_D_shorter_16 : decode b_D_shorter 16 = .ok (.putfield 30, 3) := by decide +kernel
theorem d_D_shorter_19 : decode b_D_shorter 19 = .ok (.aload_n 0, 1) := by decide +kernel
theorem d_D_shorter_20 : decode b_D_shorter 20 = .ok (.getfield 30, 3) := by decide +kernel
theorem d_D_shorter_23 : decode b_D_shorter 23 = .ok (.invokestatic 110, 3) := by decide +kernel
theorem d_D_shorter_26 : decode b_D_shorter 26 = .ok (.ireturn, 1) := by decide +kernel
theorem d_D_shorter_27 : decode b_D_shorter 27 = .ok (.iconst 0, 1) := by decide +kernel
theorem d_D_shorter_28 : decode b_D_shorter 28 = .ok (.istore_n 1, 1) := by decide +kernel
theorem d_D_shorter_29 : decode b_D_shorter 29 = .ok (.iload_n 1, 1) := by decide +kernel
theorem d_D_shorter_30 : decode b_D_shorter 30 = .ok (.bipush 43, 2) := by decide +kernel
theorem d_D_shorter_32 : decode b_D_shorter 32 = .ok (.if_icmp .ge 31, 3) := by decide +kernel
theorem d_D_shorter_35 : decode b_D_shorter 35 = .ok (.aload_n 0, 1) := by decide +kernel
theorem d_D_shorter_36 : decode b_D_shorter 36 = .ok (.invokevirtual 115, 3) := by decide +kernel
theorem d_D_shorter_39 : decode b_D_shorter 39 = .ok (.istore_n 2, 1) := by decide +kernel
theorem d_D_shorter_40 : decode b_D_shorter 40 = .ok (.iload_n 2, 1) := by decide +kernel
theorem d_D_shorter_41 : decode b_D_shorter 41 = .ok (.iconst (-1), 1) := by decide +kernel
theorem d_D_shorter_42 : decode b_D_shorter 42 = .ok (.if_icmp .ne 6, 3) := by decide +kernel
theorem d_D_shorter_45 : decode b_D_shorter 45 = .ok (.goto 18, 3) := by decide +kernel
theorem d_D_shorter_48 : decode b_D_shorter 48 = .ok (.aload_n 0, 1) := by decide +kernel
theorem d_D_shorter_49 : decode b_D_shorter 49 = .ok (.aload_n 0, 1) := by decide +kernel
theorem d_D_shorter_50 : decode b_D_shorter 50 = .ok (.iload_n 2, 1) := by decide +kernel
theorem d_D_shorter_51 : decode b_D_shorter 51 = .ok (.invokevirtual 119, 3) := by decide +kernel
theorem d_D_shorter_54 : decode b_D_shorter 54 = .ok (.putfield 30, 3) := by decide +kernel
theorem d_D_shorter_57 : decode b_D_shorter 57 = .ok (.iinc 1 1, 3) := by decide +kernel
theorem d_D_shorter_60 : decode b_D_shorter 60 = .ok (.goto (-31), 3) := by decide +kernel
theorem d_D_shorter_63 : decode b_D_shorter 63 = .ok (.aload_n 0, 1) := by decide +kernel
theorem d_D_shorter_64 : decode b_D_shorter 64 = .ok (.getfield 30, 3) := by decide +kernel
theorem d_D_shorter_67 : decode b_D_shorter 67 = .ok (.invokestatic 110, 3) := by decide +kernel
theorem d_D_shorter_70 : decode b_D_shorter 70 = .ok (.ireturn, 1) := by decide +kernel
theorem d_D_init_0 : decode b_D_init 0 = .ok (.aload_n 0, 1) := by decide +kernel
theorem d_D_init_1 : decode b_D_init 1 = .ok (.invokespecial 1, 3) := by decide +kernel
theorem d_D_init_4 : decode b_D_init 4 = .ok (.aload_n 0, 1) := by decide +kernel
theorem d_D_init_5 : decode b_D_init 5 = .ok (.new 7, 3) := by decide +kernel
theorem d_D_init_8 : decode b_D_init 8 = .ok (.dup, 1) := by decide +kernel
theorem d_D_init_9 : decode b_D_init 9 = .ok (.invokespecial 9, 3) := by decide +kernel
theorem d_D_init_12 : decode b_D_init 12 = .ok (.putfield 10, 3) := by decide +kernel
theorem d_D_init_15 : decode b_D_init 15 = .ok (.aload_n 0, 1) := by decide +kernel
theorem d_D_init_16 : decode b_D_init 16 = .ok (.new 7, 3) := by decide +kernel
theorem d_D_init_19 : decode b_D_init 19 = .ok (.dup, 1) := by decide +kernel
theorem d_D_init_20 : decode b_D_init 20 = .ok (.invokespecial 9, 3) := by decide +kernel
theorem d_D_init_23 : decode b_D_init 23 = .ok (.putfield 16, 3) := by decide +kernel
theorem d_D_init_26 : decode b_D_init 26 = .ok (.aload_n 0, 1) := by decide +kernel
theorem d_D_init_27 : decode b_D_init 27 = .ok (.bipush 43, 2) := by decide +kernel
theorem d_D_init_29 : decode b_D_init 29 = .ok (.newarray .long, 2) := by decide +kernel
theorem d_D_init_31 : decode b_D_init 31 = .ok (.putfield 19, 3) := by decide +kernel
theorem d_D_init_34 : decode b_D_init 34 = .ok (.aload_n 0, 1) := by decide +kernel
theorem d_D_init_35 : decode b_D_init 35 = .ok (.bipush 8, 2) := by decide +kernel
theorem d_D_init_37 : decode b_D_init 37 = .ok (.newarray .long, 2) := by decide +kernel
theorem d_D_init_39 : decode b_D_init 39 = .ok (.putfield 23, 3) := by decide +kernel
theorem d_D_init_42 : decode b_D_init 42 = .ok (.aload_n 0, 1) := by decide +kernel
theorem d_D_init_43 : decode b_D_init 43 = .ok (.sipush 256, 3) := by decide +kernel
theorem d_D_init_46 : decode b_D_init 46 = .ok (.newarray .boolean, 2) := by decide +kernel
theorem d_D_init_48 : decode b_D_init 48 = .ok (.putfield 26, 3) := by decide +kernel
theorem d_D_init_51 : decode b_D_init 51 = .ok (.aload_n 0, 1) := by decide +kernel
theorem d_D_init_52 : decode b_D_init 52 = .ok (.lconst 0, 1) := by decide +kernel
theorem d_D_init_53 : decode b_D_init 53 = .ok (.putfield 30, 3) := by decide +kernel
theorem d_D_init_56 : decode b_D_init 56 = .ok (.aload_n 0, 1) := by decide +kernel
theorem d_D_init_57 : decode b_D_init 57 = .ok (.lload_n 1, 1) := by decide +kernel
theorem d_D_init_58 : decode b_D_init 58 = .ok (.putfield 34, 3) := by decide +kernel
theorem d_D_init_61 : decode b_D_init 61 = .ok (.return_, 1) := by decide +kernel
set_option maxHeartbeats 4000000 in
set_option maxRecDepth 100000 in
/-- verdict -/
theorem c_D_verdict (l : Launch) (dC : Nat → ClassId) (dI : Nat → Nat → Nat) (jd jh jh2 jg jb jy : Nat) (sd w : Int64) (cy : ClassId) (S : Nat → Bool) (p0 : Int32) (z : Bool)  (sz : Nat) : Met l y_D_verdict w_D_verdict ({ frames := 0, cells := 0, slots := 0, locals := 0 }) (wr_P dC dI [.ref jd, .int p0, .int (bI z)] [(jd, .inr (2, [.long sd, .ref jh, .ref jh2, .ref jg, .ref jb, .ref jy, .long w])), (jy, .inl (cy, 256, .inl (bF S)))] [(cy, .boolean)] sz) (va_Qi (fun (r : Int32) (_ : Unit) => r = bI (veO S p0 z)) (fun (u : Unit) => wr_B dC dI (va_A [(jd, .inr (2, [.long sd, .ref jh, .ref jh2, .ref jg, .ref jb, .ref jy, .long w])), (jy, .inl (cy, 256, .inl (bF S)))] sz) [(jd, .inr (2, [.long sd, .ref jh, .ref jh2, .ref jg, .ref jb, .ref jy, .long w])), (jy, .inl (cy, 256, .inl (bF (veS S p0 z))))] [(cy, .boolean)]) (va_A [(jd, .inr (2, [.long sd, .ref jh, .ref jh2, .ref jg, .ref jb, .ref jy, .long w])), (jy, .inl (cy, 256, .inl (bF S)))] sz)) 0 0 (va_A [(jd, .inr (2, [.long sd, .ref jh, .ref jh2, .ref jg, .ref jb, .ref jy, .long w])), (jy, .inl (cy, 256, .inl (bF S)))] sz) := by
  refine Met.ofW (cc := b_D_verdict) (maxL := 3) (ret := (Option.some Jvm.ClassFile.FieldType.boolean)) (by decide) rfl ?_
  intro p e s m args below meth c s₁ B0 hml hv0
  obtain ⟨rfl, hsz, hP, hK, hD0, hN⟩ := hv0
  have hx := B0.exec
  have hb := B0.bytes
  have hr := B0.returns
  have hts := atoms_spec (ws := w_D_verdict) B0.pre
  have hown : s.vm.findClass R_D = some m.cls := findClass_of_methodNamed B0.named
  have hlocks := B0.notSynchronized
  subst hsz
  have hD := hD0.self (sz := s.heap.size)
  generalize hAe : va_A [(jd, .inr (2, [.long sd, .ref jh, .ref jh2, .ref jg, .ref jb, .ref jy, .long w])), (jy, .inl (cy, 256, .inl (bF S)))] s.heap.size = A at hD ⊢
  have hA : ∀ q : Nat, s.heap.size ≤ q → A q := fun q h => by rw [← hAe]; exact Or.inr h
  have hS : va_S A s.heap s.heap [] := va_S.rf
  have hP : va_P (dC, dI) classes [(jd, .inr (2, [.long sd, .ref jh, .ref jh2, .ref jg, .ref jb, .ref jy, .long w])), (jy, .inl (cy, 256, .inl (bF S)))] s.heap := hP
  have hl := lv_entry ([.ref jd, .int p0, .int (bI z)]) (n := 3) (Nat.le_of_ble_eq_true rfl)
  rw [lg_entry_eq]
  generalize (lg_sl ([.ref jd, .int p0, .int (bI z)]) ++ List.replicate (3 - (lg_sl ([.ref jd, .int p0, .int (bI z)])).length) Slot.unset).toArray = ls at hl ⊢
  have hl : lv_has ls 3 [(0, .ref jd), (1, .int p0), (2, .int (bI z))] := hl
  refine lv_iload_n hx hb d_D_verdict_0 rfl (lv_at hl 1 rfl) ?_
  refine lv_if_lt (tgt := 21) hx hb d_D_verdict_1 (by decide) (fun c_1 => ?_) (fun c_1 => ?_)
  · skip
    refine lv_iconst (v := nI 0) hx hb d_D_verdict_21 (by decide +kernel) ?_
    have e9 : S = veS S p0 z := (if_neg (by simp [veO, c_1])).symm
    rw [e9] at hP hD
    have hP9 := hP.sub (ws' := [(jd, .inr (2, [.long sd, .ref jh, .ref jh2, .ref jg, .ref jb, .ref jy, .long w])), (jy, .inl (cy, 256, .inl (bF (veS S p0 z))))]) [0, 1] rfl
    have hD9 := hD.sub (ws' := [(jd, .inr (2, [.long sd, .ref jh, .ref jh2, .ref jg, .ref jb, .ref jy, .long w])), (jy, .inl (cy, 256, .inl (bF (veS S p0 z))))]) [0, 1] (by decide) rfl
    have hK9 := hK.sub (tys' := [(cy, .boolean)]) [0] rfl
    exact W.zret (v := nI 0) (ty := .boolean) hx hb hr (by decide +kernel) (fun t ht hW => ⟨⟨nI 0, (), rfl, (by simp [veO, bI, c_1]), by rw [ht]; exact hP9, va_K.moved hW.alike hK9, hD9⟩, hS.F ht⟩) hS.2.2 d_D_verdict_22
  · skip
    refine lv_iload_n hx hb d_D_verdict_4 rfl (lv_at hl 1 rfl) ?_
    refine lv_sipush (v := nI 256) hx hb d_D_verdict_5 (by decide +kernel) ?_
    refine lv_icmp_ge (tgt := 21) hx hb d_D_verdict_8 (by decide) (fun c_8 => ?_) (fun c_8 => ?_)
    · skip
      refine lv_iconst (v := nI 0) hx hb d_D_verdict_21 (by decide +kernel) ?_
      have e9 : S = veS S p0 z := (if_neg (by simp [veO, c_1, c_8])).symm
      rw [e9] at hP hD
      have hP9 := hP.sub (ws' := [(jd, .inr (2, [.long sd, .ref jh, .ref jh2, .ref jg, .ref jb, .ref jy, .long w])), (jy, .inl (cy, 256, .inl (bF (veS S p0 z))))]) [0, 1] rfl
      have hD9 := hD.sub (ws' := [(jd, .inr (2, [.long sd, .ref jh, .ref jh2, .ref jg, .ref jb, .ref jy, .long w])), (jy, .inl (cy, 256, .inl (bF (veS S p0 z))))]) [0, 1] (by decide) rfl
      have hK9 := hK.sub (tys' := [(cy, .boolean)]) [0] rfl
      exact W.zret (v := nI 0) (ty := .boolean) hx hb hr (by decide +kernel) (fun t ht hW => ⟨⟨nI 0, (), rfl, (by simp [veO, bI, c_1, c_8]), by rw [ht]; exact hP9, va_K.moved hW.alike hK9, hD9⟩, hS.F ht⟩) hS.2.2 d_D_verdict_22
    · skip
      refine lv_aload_n hx hb d_D_verdict_11 rfl (lv_at hl 0 rfl) ?_
      refine va_get (D := (dC, dI)) (ci := 2) (v := .ref jy) (C := R_D) (T := F_D) (N := 7) hx hb hts (lay_D _) hown hK hP 0 rfl rfl 5 (by decide) (hts _ (List.mem_cons_of_mem _ m_61)) (fun _ h9 => h9) rfl d_D_verdict_12 ?_
      refine lv_iload_n hx hb d_D_verdict_15 rfl (lv_at hl 1 rfl) ?_
      refine va_zald hx hb hK hP 1 0 rfl rfl (in_of c_1 c_8 (by decide)) d_D_verdict_16 ?_
      refine lv_topi (fun w_1 ew_1 => ?_)
      have ew_1 : (bI (S p0.toNatClampNeg)) = w_1 := (ew_1.trans (rfl)).symm
      subst ew_1
      refine lv_iload_n hx hb d_D_verdict_17 rfl (lv_at hl 2 rfl) ?_
      refine lv_icmp_ne (tgt := 23) hx hb d_D_verdict_18 (by decide) (fun c_18 => ?_) (fun c_18 => ?_)
      · skip
        have c_18 := (not_congr bI_inj).mp c_18
        refine lv_aload_n hx hb d_D_verdict_23 rfl (lv_at hl 0 rfl) ?_
        refine va_get (D := (dC, dI)) (ci := 2) (v := .ref jy) (C := R_D) (T := F_D) (N := 7) hx hb hts (lay_D _) hown hK hP 0 rfl rfl 5 (by decide) (hts _ (List.mem_cons_of_mem _ m_61)) (fun _ h9 => h9) rfl d_D_verdict_24 ?_
        refine lv_iload_n hx hb d_D_verdict_27 rfl (lv_at hl 1 rfl) ?_
        refine lv_iload_n hx hb d_D_verdict_28 rfl (lv_at hl 2 rfl) ?_
        refine va_zast hx hb hK hP hD hS 1 0 rfl rfl (in_of c_1 c_8 (by decide)) d_D_verdict_29 (fun H locs hP hD hS => ?_)
        rw [bI_vp] at hP hD
        have hP : va_P (dC, dI) classes [(jd, .inr (2, [.long sd, .ref jh, .ref jh2, .ref jg, .ref jb, .ref jy, .long w])), (jy, .inl (cy, 256, .inl (upd (bF S) p0.toNatClampNeg (bI z))))] H := hP
        have hD : va_D A [(jd, .inr (2, [.long sd, .ref jh, .ref jh2, .ref jg, .ref jb, .ref jy, .long w])), (jy, .inl (cy, 256, .inl (upd (bF S) p0.toNatClampNeg (bI z))))] := hD
        rw [bF_up] at hP hD
        rw [show uB S p0.toNatClampNeg z = veS S p0 z from (if_pos (by simp [veO, c_1, c_8, c_18])).symm] at hP hD
        have hP : va_P (dC, dI) classes [(jd, .inr (2, [.long sd, .ref jh, .ref jh2, .ref jg, .ref jb, .ref jy, .long w])), (jy, .inl (cy, 256, .inl (bF (veS S p0 z))))] H := hP
        have hD : va_D A [(jd, .inr (2, [.long sd, .ref jh, .ref jh2, .ref jg, .ref jb, .ref jy, .long w])), (jy, .inl (cy, 256, .inl (bF (veS S p0 z))))] := hD
        refine lv_iconst (v := nI 1) hx hb d_D_verdict_30 (by decide +kernel) ?_
        have hP9 := hP.sub (ws' := [(jd, .inr (2, [.long sd, .ref jh, .ref jh2, .ref jg, .ref jb, .ref jy, .long w])), (jy, .inl (cy, 256, .inl (bF (veS S p0 z))))]) [0, 1] rfl
        have hD9 := hD.sub (ws' := [(jd, .inr (2, [.long sd, .ref jh, .ref jh2, .ref jg, .ref jb, .ref jy, .long w])), (jy, .inl (cy, 256, .inl (bF (veS S p0 z))))]) [0, 1] (by decide) rfl
        have hK9 := hK.sub (tys' := [(cy, .boolean)]) [0] rfl
        exact W.zret (v := nI 1) (ty := .boolean) hx hb hr (by decide +kernel) (fun t ht hW => ⟨⟨nI 1, (), rfl, (by simp [veO, bI, c_1, c_8, c_18]), by rw [ht]; exact hP9, va_K.moved hW.alike hK9, hD9⟩, hS.F ht⟩) hS.2.2 d_D_verdict_31
      · skip
        have c_18 := bI_inj.mp c_18
        refine lv_iconst (v := nI 0) hx hb d_D_verdict_21 (by decide +kernel) ?_
        have e9 : S = veS S p0 z := (if_neg (by simp [veO, c_1, c_8, c_18])).symm
        rw [e9] at hP hD
        have hP9 := hP.sub (ws' := [(jd, .inr (2, [.long sd, .ref jh, .ref jh2, .ref jg, .ref jb, .ref jy, .long w])), (jy, .inl (cy, 256, .inl (bF (veS S p0 z))))]) [0, 1] rfl
        have hD9 := hD.sub (ws' := [(jd, .inr (2, [.long sd, .ref jh, .ref jh2, .ref jg, .ref jb, .ref jy, .long w])), (jy, .inl (cy, 256, .inl (bF (veS S p0 z))))]) [0, 1] (by decide) rfl
        have hK9 := hK.sub (tys' := [(cy, .boolean)]) [0] rfl
        exact W.zret (v := nI 0) (ty := .boolean) hx hb hr (by decide +kernel) (fun t ht hW => ⟨⟨nI 0, (), rfl, (by simp [veO, bI, c_1, c_8, c_18]), by rw [ht]; exact hP9, va_K.moved hW.alike hK9, hD9⟩, hS.F ht⟩) hS.2.2 d_D_verdict_22
set_option maxHeartbeats 4000000 in
set_option maxRecDepth 100000 in
/-- noteGoingWith -/
theorem c_D_noteGoingWith (l : Launch) (dC : Nat → ClassId) (dI : Nat → Nat → Nat) (jd jh jh2 jg jb jy : Nat) (sd w : Int64) (jt jk jv jr n : Nat) (cr cg : ClassId) (R : Nat → Int32) (G : Nat → Int64) (hn : n ≤ 43) (sz : Nat) : Met l y_D_noteGoingWith w_D_noteGoingWith ({ frames := 1, cells := 0, slots := 0, locals := 21 }) (wr_P dC dI [.ref jd] [(jd, .inr (2, [.long sd, .ref jh, .ref jh2, .ref jg, .ref jb, .ref jy, .long w])), (jh, .inr (1, [.ref jt, .ref jk, .ref jv, .ref jr, .int (nI n)])), (jr, .inl (cr, 43, .inl R)), (jg, .inl (cg, 43, .inr (.inl G)))] [(cr, .int), (cg, .long)] sz) (va_Qv (fun (_ : Unit) => True) (fun (u : Unit) => wr_B dC dI (va_A [(jd, .inr (2, [.long sd, .ref jh, .ref jh2, .ref jg, .ref jb, .ref jy, .long w])), (jh, .inr (1, [.ref jt, .ref jk, .ref jv, .ref jr, .int (nI n)])), (jr, .inl (cr, 43, .inl R)), (jg, .inl (cg, 43, .inr (.inl G)))] sz) [(jd, .inr (2, [.long sd, .ref jh, .ref jh2, .ref jg, .ref jb, .ref jy, .long w])), (jh, .inr (1, [.ref jt, .ref jk, .ref jv, .ref jr, .int (nI n)])), (jr, .inl (cr, 43, .inl R)), (jg, .inl (cg, 43, .inr (.inl (gwG n R G))))] [(cr, .int), (cg, .long)]) (va_A [(jd, .inr (2, [.long sd, .ref jh, .ref jh2, .ref jg, .ref jb, .ref jy, .long w])), (jh, .inr (1, [.ref jt, .ref jk, .ref jv, .ref jr, .int (nI n)])), (jr, .inl (cr, 43, .inl R)), (jg, .inl (cg, 43, .inr (.inl G)))] sz)) 0 0 (va_A [(jd, .inr (2, [.long sd, .ref jh, .ref jh2, .ref jg, .ref jb, .ref jy, .long w])), (jh, .inr (1, [.ref jt, .ref jk, .ref jv, .ref jr, .int (nI n)])), (jr, .inl (cr, 43, .inl R)), (jg, .inl (cg, 43, .inr (.inl G)))] sz) := by
  refine Met.ofW (cc := b_D_noteGoingWith) (maxL := 3) (ret := (Option.none : Option Jvm.ClassFile.FieldType)) (by decide) rfl ?_
  intro p e s m args below meth c s₁ B0 hml hv0
  obtain ⟨rfl, hsz, hP, hK, hD0, hN⟩ := hv0
  have hx := B0.exec
  have hb := B0.bytes
  have hr := B0.returns
  have hts := atoms_spec (ws := w_D_noteGoingWith) B0.pre
  have hown : s.vm.findClass R_D = some m.cls := findClass_of_methodNamed B0.named
  have hlocks := B0.notSynchronized
  subst hsz
  have hD := hD0.self (sz := s.heap.size)
  generalize hAe : va_A [(jd, .inr (2, [.long sd, .ref jh, .ref jh2, .ref jg, .ref jb, .ref jy, .long w])), (jh, .inr (1, [.ref jt, .ref jk, .ref jv, .ref jr, .int (nI n)])), (jr, .inl (cr, 43, .inl R)), (jg, .inl (cg, 43, .inr (.inl G)))] s.heap.size = A at hD ⊢
  have hA : ∀ q : Nat, s.heap.size ≤ q → A q := fun q h => by rw [← hAe]; exact Or.inr h
  have hS : va_S A s.heap s.heap [] := va_S.rf
  have hP : va_P (dC, dI) classes [(jd, .inr (2, [.long sd, .ref jh, .ref jh2, .ref jg, .ref jb, .ref jy, .long w])), (jh, .inr (1, [.ref jt, .ref jk, .ref jv, .ref jr, .int (nI n)])), (jr, .inl (cr, 43, .inl R)), (jg, .inl (cg, 43, .inr (.inl G)))] s.heap := hP
  have hl := lv_entry ([.ref jd]) (n := 3) (Nat.le_of_ble_eq_true rfl)
  rw [lg_entry_eq]
  generalize (lg_sl ([.ref jd]) ++ List.replicate (3 - (lg_sl ([.ref jd])).length) Slot.unset).toArray = ls at hl ⊢
  have hl : lv_has ls 3 [(0, .ref jd)] := hl
  refine lv_iconst (v := nI 0) hx hb d_D_noteGoingWith_0 (by decide +kernel) ?_
  refine lv_istore_n (lv' := [(1, .int (nI 0)), (0, .ref jd)]) hx hb d_D_noteGoingWith_1 rfl hl (by decide) rfl (fun ls hl => ?_)
  have lp_2 : ∀ (k9_2 : Nat), ∀ (i : Nat), n - i < k9_2 → (i ≤ n) → ∀ (H : Heap) (locs : List Loc), va_P (dC, dI) classes [(jd, .inr (2, [.long sd, .ref jh, .ref jh2, .ref jg, .ref jb, .ref jy, .long w])), (jh, .inr (1, [.ref jt, .ref jk, .ref jv, .ref jr, .int (nI n)])), (jr, .inl (cr, 43, .inl R)), (jg, .inl (cg, 43, .inr (.inl (onL G i))))] H → va_D A [(jd, .inr (2, [.long sd, .ref jh, .ref jh2, .ref jg, .ref jb, .ref jy, .long w])), (jh, .inr (1, [.ref jt, .ref jk, .ref jv, .ref jr, .int (nI n)])), (jr, .inl (cr, 43, .inl R)), (jg, .inl (cg, 43, .inr (.inl (onL G i))))] → va_S A s.heap H locs → ∀ (ls : Array Slot), lv_has ls 3 [(0, .ref jd), (1, .int (nI i))] → W p l e (headSpec w_D_noteGoingWith ({ frames := 1, cells := 0, slots := 0, locals := 21 })).room s m ([.ref jd]).toArray below meth c H locs 0 0 (MQ below (va_Qv (fun (_ : Unit) => True) (fun (u : Unit) => wr_B dC dI (A) [(jd, .inr (2, [.long sd, .ref jh, .ref jh2, .ref jg, .ref jb, .ref jy, .long w])), (jh, .inr (1, [.ref jt, .ref jk, .ref jv, .ref jr, .int (nI n)])), (jr, .inl (cr, 43, .inl R)), (jg, .inl (cg, 43, .inr (.inl (gwG n R G))))] [(cr, .int), (cg, .long)]) (A)) ([.ref jd]).toArray s 0 0 A) (F0 m 2 ls []) := by
    intro k9_2
    induction k9_2 with
    | zero =>
      intro i hk9
      exact absurd hk9 (Nat.not_lt_zero _)
    | succ k9_2 ih_2 =>
      intro i hk9_2 hi H locs hP hD hS ls hl
      refine lv_iload_n hx hb d_D_noteGoingWith_2 rfl (lv_at hl 1 rfl) ?_
      refine lv_aload_n hx hb d_D_noteGoingWith_3 rfl (lv_at hl 0 rfl) ?_
      refine va_get (D := (dC, dI)) (ci := 2) (v := .ref jh) (C := R_D) (T := F_D) (N := 7) hx hb hts (lay_D _) hown hK hP 0 rfl rfl 1 (by decide) (hts _ (List.mem_cons_of_mem _ m_57)) (fun _ h9 => h9) rfl d_D_noteGoingWith_4 ?_
      refine va_getN (D := (dC, dI)) (ci := 1) (v := .int (nI n)) (C := R_H) (T := F_H) (N := 5) hx hb hts (lay_H _) hown hK hP 1 rfl rfl 4 (by decide) (hN.use (by decide +kernel : (Jvm.Cond.fieldLinkNest "PortDrawer" (62 : Nat) "PortDrawer$Harbour" "parts" "I" "PortDrawer") ∈ NWl)) (fun _ h9 => h9) rfl d_D_noteGoingWith_7 ?_
      refine lv_icmp_ge (tgt := 28) hx hb d_D_noteGoingWith_10 (by decide) (fun c_10 => ?_) (fun c_10 => ?_)
      · skip
        have c_10 := (nI_leI (by omega) (by omega)).mp c_10
        rw [show i = n by omega] at hP hD
        refine lv_aload_n hx hb d_D_noteGoingWith_28 rfl (lv_at hl 0 rfl) ?_
        refine va_get (D := (dC, dI)) (ci := 2) (v := .ref jh) (C := R_D) (T := F_D) (N := 7) hx hb hts (lay_D _) hown hK hP 0 rfl rfl 1 (by decide) (hts _ (List.mem_cons_of_mem _ m_57)) (fun _ h9 => h9) rfl d_D_noteGoingWith_29 ?_
        refine va_getN (D := (dC, dI)) (ci := 1) (v := .int (nI n)) (C := R_H) (T := F_H) (N := 5) hx hb hts (lay_H _) hown hK hP 1 rfl rfl 4 (by decide) (hN.use (by decide +kernel : (Jvm.Cond.fieldLinkNest "PortDrawer" (62 : Nat) "PortDrawer$Harbour" "parts" "I" "PortDrawer") ∈ NWl)) (fun _ h9 => h9) rfl d_D_noteGoingWith_32 ?_
        refine lv_iconst (v := nI 1) hx hb d_D_noteGoingWith_35 (by decide +kernel) ?_
        refine lv_isub hx hb d_D_noteGoingWith_36 ?_
        refine lv_istore_n (lv' := [(1, .int ((nI n) - (nI 1))), (0, .ref jd)]) hx hb d_D_noteGoingWith_37 rfl hl (by decide) rfl (fun ls hl => ?_)
        have lp_38 : ∀ (k9_38 : Nat), ∀ (k r : Nat), k < k9_38 → (k + r = n) → ∀ (H : Heap) (locs : List Loc), va_P (dC, dI) classes [(jd, .inr (2, [.long sd, .ref jh, .ref jh2, .ref jg, .ref jb, .ref jy, .long w])), (jh, .inr (1, [.ref jt, .ref jk, .ref jv, .ref jr, .int (nI n)])), (jr, .inl (cr, 43, .inl R)), (jg, .inl (cg, 43, .inr (.inl (goL n R (onL G n) r))))] H → va_D A [(jd, .inr (2, [.long sd, .ref jh, .ref jh2, .ref jg, .ref jb, .ref jy, .long w])), (jh, .inr (1, [.ref jt, .ref jk, .ref jv, .ref jr, .int (nI n)])), (jr, .inl (cr, 43, .inl R)), (jg, .inl (cg, 43, .inr (.inl (goL n R (onL G n) r))))] → va_S A s.heap H locs → ∀ (ls : Array Slot), lv_has ls 3 [(0, .ref jd), (1, .int ((nI k) - (nI 1)))] → W p l e (headSpec w_D_noteGoingWith ({ frames := 1, cells := 0, slots := 0, locals := 21 })).room s m ([.ref jd]).toArray below meth c H locs 0 0 (MQ below (va_Qv (fun (_ : Unit) => True) (fun (u : Unit) => wr_B dC dI (A) [(jd, .inr (2, [.long sd, .ref jh, .ref jh2, .ref jg, .ref jb, .ref jy, .long w])), (jh, .inr (1, [.ref jt, .ref jk, .ref jv, .ref jr, .int (nI n)])), (jr, .inl (cr, 43, .inl R)), (jg, .inl (cg, 43, .inr (.inl (gwG n R G))))] [(cr, .int), (cg, .long)]) (A)) ([.ref jd]).toArray s 0 0 A) (F0 m 38 ls []) := by
          intro k9_38
          induction k9_38 with
          | zero =>
            intro k r hk9
            exact absurd hk9 (Nat.not_lt_zero _)
          | succ k9_38 ih_38 =>
            intro k r hk9_38 hkr H locs hP hD hS ls hl
            refine lv_iload_n hx hb d_D_noteGoingWith_38 rfl (lv_at hl 1 rfl) ?_
            refine lv_if_lt (tgt := 84) hx hb d_D_noteGoingWith_39 (by decide) (fun c_39 => ?_) (fun c_39 => ?_)
            · skip
              have c_39 := (dn_lt (by omega)).mp c_39
              rw [show r = n by omega] at hP hD
              have hP9 := hP.sub (ws' := [(jd, .inr (2, [.long sd, .ref jh, .ref jh2, .ref jg, .ref jb, .ref jy, .long w])), (jh, .inr (1, [.ref jt, .ref jk, .ref jv, .ref jr, .int (nI n)])), (jr, .inl (cr, 43, .inl R)), (jg, .inl (cg, 43, .inr (.inl (gwG n R G))))]) [0, 1, 2, 3] rfl
              have hD9 := hD.sub (ws' := [(jd, .inr (2, [.long sd, .ref jh, .ref jh2, .ref jg, .ref jb, .ref jy, .long w])), (jh, .inr (1, [.ref jt, .ref jk, .ref jv, .ref jr, .int (nI n)])), (jr, .inl (cr, 43, .inl R)), (jg, .inl (cg, 43, .inr (.inl (gwG n R G))))]) [0, 1, 2, 3] (by decide) rfl
              have hK9 := hK.sub (tys' := [(cr, .int), (cg, .long)]) [0, 1] rfl
              exact W.vret hx hb hr (fun t ht hW => ⟨⟨(), rfl, trivial, by rw [ht]; exact hP9, va_K.moved hW.alike hK9, hD9⟩, hS.F ht⟩) hS.2.2 d_D_noteGoingWith_84
            · skip
              have c_39 := (not_congr (dn_lt (by omega))).mp c_39
              obtain ⟨k, rfl⟩ : ∃ k1, k = k1 + 1 := ⟨k - 1, by omega⟩
              rw [show (nI (k + 1)) - (nI 1) = nI k from (nI_pred k)] at hl
              refine lv_aload_n hx hb d_D_noteGoingWith_42 rfl (lv_at hl 0 rfl) ?_
              refine va_get (D := (dC, dI)) (ci := 2) (v := .ref jh) (C := R_D) (T := F_D) (N := 7) hx hb hts (lay_D _) hown hK hP 0 rfl rfl 1 (by decide) (hts _ (List.mem_cons_of_mem _ m_57)) (fun _ h9 => h9) rfl d_D_noteGoingWith_43 ?_
              refine va_getN (D := (dC, dI)) (ci := 1) (v := .ref jr) (C := R_H) (T := F_H) (N := 5) hx hb hts (lay_H _) hown hK hP 1 rfl rfl 3 (by decide) (hN.use (by decide +kernel : (Jvm.Cond.fieldLinkNest "PortDrawer" (85 : Nat) "PortDrawer$Harbour" "references" "[I" "PortDrawer") ∈ NWl)) (fun _ h9 => h9) rfl d_D_noteGoingWith_46 ?_
              refine lv_iload_n hx hb d_D_noteGoingWith_49 rfl (lv_at hl 1 rfl) ?_
              refine va_iald hx hb hK hP 2 0 rfl rfl (vp_in_nI (by omega) (by omega)) d_D_noteGoingWith_50 ?_
              refine lv_topi (fun w_1 ew_1 => ?_)
              rw [nI_clamp (by omega)] at ew_1
              have ew_1 := ew_1.symm
              subst ew_1
              refine lv_istore_n (lv' := [(2, .int (R k)), (0, .ref jd), (1, .int (nI k))]) hx hb d_D_noteGoingWith_51 rfl hl (by decide) rfl (fun ls hl => ?_)
              refine lv_aload_n hx hb d_D_noteGoingWith_52 rfl (lv_at hl 1 rfl) ?_
              refine va_get (D := (dC, dI)) (ci := 2) (v := .ref jh) (C := R_D) (T := F_D) (N := 7) hx hb hts (lay_D _) hown hK hP 0 rfl rfl 1 (by decide) (hts _ (List.mem_cons_of_mem _ m_57)) (fun _ h9 => h9) rfl d_D_noteGoingWith_53 ?_
              refine lv_iload_n hx hb d_D_noteGoingWith_56 rfl (lv_at hl 0 rfl) ?_
              have hPc := hP.sub (ws' := [(jh, .inr (1, [.ref jt, .ref jk, .ref jv, .ref jr, .int (nI n)]))]) [1] rfl
              have hKc := hK.sub (tys' := []) [] rfl
              refine vp_callSi (va_Run.run (va_runVN (As := [.int (R k)]) (rest := []) ⟨hx, hb, hml, hown, hts⟩ (c_H_has l dC dI jh jt jk jv jr n (R k)) ⟨va_cnB 1 hts (g_c big_w m_263) rfl rfl rfl (hN _ (by decide +kernel : (Jvm.Cond.methodLinkNest "PortDrawer" (66 : Nat) ({ cls := "PortDrawer$Harbour", name := "has", desc := "(I)Z" } : Jvm.MethodName) "PortDrawer") ∈ NWl)) (hts _ (List.mem_cons_of_mem _ m_2)) (by decide +kernel) ⟨Nat.le_of_ble_eq_true rfl, Nat.le_of_ble_eq_true rfl⟩, (hts _ (List.mem_cons_of_mem _ m_262)), (hts _ (List.mem_cons_of_mem _ ms_16))⟩ (ro_V hPc hKc hN (va_recv hKc hPc (ci := 1) (q0 := 0) rfl rfl)) rfl rfl hl.1 rfl (lv_room (Nat.le_of_ble_eq_true rfl)) d_D_noteGoingWith_57 ⟨Nat.le_of_ble_eq_true rfl, Nat.le_of_ble_eq_true rfl⟩)) (fun r_2 er_2 => ?_)
              have er_2 := er_2.symm
              subst er_2
              refine lv_if_eq (tgt := 78) hx hb d_D_noteGoingWith_60 (by decide) (fun c_60 => ?_) (fun c_60 => ?_)
              · skip
                have c_60 := bI_f c_60
                rw [show (goL n R (onL G n) r) = (goL n R (onL G n) (r + 1)) from ((goL_f (by omega) c_60).symm)] at hP hD
                refine lv_iinc (v := (nI k) - (nI 1)) (lv' := [(1, .int ((nI k) - (nI 1))), (2, .int (R k)), (0, .ref jd)]) hx hb d_D_noteGoingWith_78 hl (k := 2) rfl (dn_inc k) (by decide) rfl (fun ls hl => ?_)
                refine lv_goto (tgt := 38) hx hb d_D_noteGoingWith_81 (by decide) ?_
                exact ih_38 k (r + 1) (by omega) (by first | assumption | omega) _ _ (hP.sub (ws' := [(jd, .inr (2, [.long sd, .ref jh, .ref jh2, .ref jg, .ref jb, .ref jy, .long w])), (jh, .inr (1, [.ref jt, .ref jk, .ref jv, .ref jr, .int (nI n)])), (jr, .inl (cr, 43, .inl R)), (jg, .inl (cg, 43, .inr (.inl (goL n R (onL G n) (r + 1)))))]) [0, 1, 2, 3] rfl) (hD.sub (ws' := [(jd, .inr (2, [.long sd, .ref jh, .ref jh2, .ref jg, .ref jb, .ref jy, .long w])), (jh, .inr (1, [.ref jt, .ref jk, .ref jv, .ref jr, .int (nI n)])), (jr, .inl (cr, 43, .inl R)), (jg, .inl (cg, 43, .inr (.inl (goL n R (onL G n) (r + 1)))))]) [0, 1, 2, 3] (by decide) rfl) hS ls (lv_sub (l' := [(0, .ref jd), (1, .int ((nI k) - (nI 1)))]) hl [2, 0] rfl)
              · skip
                have c_60 := bI_t c_60
                refine lv_aload_n hx hb d_D_noteGoingWith_63 rfl (lv_at hl 1 rfl) ?_
                refine va_get (D := (dC, dI)) (ci := 2) (v := .ref jg) (C := R_D) (T := F_D) (N := 7) hx hb hts (lay_D _) hown hK hP 0 rfl rfl 3 (by decide) (hts _ (List.mem_cons_of_mem _ m_59)) (fun _ h9 => h9) rfl d_D_noteGoingWith_64 ?_
                refine lv_iload_n hx hb d_D_noteGoingWith_67 rfl (lv_at hl 0 rfl) ?_
                refine lv_dup2_11 hx hb d_D_noteGoingWith_68 rfl rfl ?_
                refine va_lald hx hb hK hP 3 1 rfl rfl (hB_in c_60 hn) d_D_noteGoingWith_69 ?_
                refine lv_aload_n hx hb d_D_noteGoingWith_70 rfl (lv_at hl 1 rfl) ?_
                refine va_get (D := (dC, dI)) (ci := 2) (v := .ref jg) (C := R_D) (T := F_D) (N := 7) hx hb hts (lay_D _) hown hK hP 0 rfl rfl 3 (by decide) (hts _ (List.mem_cons_of_mem _ m_59)) (fun _ h9 => h9) rfl d_D_noteGoingWith_71 ?_
                refine lv_iload_n hx hb d_D_noteGoingWith_74 rfl (lv_at hl 2 rfl) ?_
                refine va_lald hx hb hK hP 3 1 rfl rfl (vp_in_nI (by omega) (by omega)) d_D_noteGoingWith_75 ?_
                refine lv_topl (fun w_3 ew_3 => ?_)
                rw [nI_clamp (by omega)] at ew_3
                have ew_3 := ew_3.symm
                subst ew_3
                refine lv_lor hx hb d_D_noteGoingWith_76 ?_
                refine va_last hx hb hK hP hD hS 3 1 rfl rfl (hB_in c_60 hn) d_D_noteGoingWith_77 (fun H locs hP hD hS => ?_)
                have hP : va_P (dC, dI) classes [(jd, .inr (2, [.long sd, .ref jh, .ref jh2, .ref jg, .ref jb, .ref jy, .long w])), (jh, .inr (1, [.ref jt, .ref jk, .ref jv, .ref jr, .int (nI n)])), (jr, .inl (cr, 43, .inl R)), (jg, .inl (cg, 43, .inr (.inl (vp_updL (goL n R (onL G n) r) (R k).toNatClampNeg (((goL n R (onL G n) r) (R k).toNatClampNeg) ||| ((goL n R (onL G n) r) k))))))] H := hP
                have hD : va_D A [(jd, .inr (2, [.long sd, .ref jh, .ref jh2, .ref jg, .ref jb, .ref jy, .long w])), (jh, .inr (1, [.ref jt, .ref jk, .ref jv, .ref jr, .int (nI n)])), (jr, .inl (cr, 43, .inl R)), (jg, .inl (cg, 43, .inr (.inl (vp_updL (goL n R (onL G n) r) (R k).toNatClampNeg (((goL n R (onL G n) r) (R k).toNatClampNeg) ||| ((goL n R (onL G n) r) k))))))] := hD
                rw [show (vp_updL (goL n R (onL G n) r) (R k).toNatClampNeg (((goL n R (onL G n) r) (R k).toNatClampNeg) ||| ((goL n R (onL G n) r) k))) = (goL n R (onL G n) (r + 1)) from ((goL_t (by omega) c_60).symm)] at hP hD
                refine lv_iinc (v := (nI k) - (nI 1)) (lv' := [(1, .int ((nI k) - (nI 1))), (2, .int (R k)), (0, .ref jd)]) hx hb d_D_noteGoingWith_78 hl (k := 2) rfl (dn_inc k) (by decide) rfl (fun ls hl => ?_)
                refine lv_goto (tgt := 38) hx hb d_D_noteGoingWith_81 (by decide) ?_
                exact ih_38 k (r + 1) (by omega) (by first | assumption | omega) _ _ (hP.sub (ws' := [(jd, .inr (2, [.long sd, .ref jh, .ref jh2, .ref jg, .ref jb, .ref jy, .long w])), (jh, .inr (1, [.ref jt, .ref jk, .ref jv, .ref jr, .int (nI n)])), (jr, .inl (cr, 43, .inl R)), (jg, .inl (cg, 43, .inr (.inl (goL n R (onL G n) (r + 1)))))]) [0, 1, 2, 3] rfl) (hD.sub (ws' := [(jd, .inr (2, [.long sd, .ref jh, .ref jh2, .ref jg, .ref jb, .ref jy, .long w])), (jh, .inr (1, [.ref jt, .ref jk, .ref jv, .ref jr, .int (nI n)])), (jr, .inl (cr, 43, .inl R)), (jg, .inl (cg, 43, .inr (.inl (goL n R (onL G n) (r + 1)))))]) [0, 1, 2, 3] (by decide) rfl) hS ls (lv_sub (l' := [(0, .ref jd), (1, .int ((nI k) - (nI 1)))]) hl [2, 0] rfl)
        exact lp_38 (n + 1) n 0 (by omega) (by first | assumption | omega) _ _ (hP.sub (ws' := [(jd, .inr (2, [.long sd, .ref jh, .ref jh2, .ref jg, .ref jb, .ref jy, .long w])), (jh, .inr (1, [.ref jt, .ref jk, .ref jv, .ref jr, .int (nI n)])), (jr, .inl (cr, 43, .inl R)), (jg, .inl (cg, 43, .inr (.inl (goL n R (onL G n) 0))))]) [0, 1, 2, 3] rfl) (hD.sub (ws' := [(jd, .inr (2, [.long sd, .ref jh, .ref jh2, .ref jg, .ref jb, .ref jy, .long w])), (jh, .inr (1, [.ref jt, .ref jk, .ref jv, .ref jr, .int (nI n)])), (jr, .inl (cr, 43, .inl R)), (jg, .inl (cg, 43, .inr (.inl (goL n R (onL G n) 0))))]) [0, 1, 2, 3] (by decide) rfl) hS ls (lv_sub (l' := [(0, .ref jd), (1, .int ((nI n) - (nI 1)))]) hl [1, 0] rfl)
      · skip
        have c_10 := (not_congr (nI_leI (by omega) (by omega))).mp c_10
        refine lv_aload_n hx hb d_D_noteGoingWith_13 rfl (lv_at hl 0 rfl) ?_
        refine va_get (D := (dC, dI)) (ci := 2) (v := .ref jg) (C := R_D) (T := F_D) (N := 7) hx hb hts (lay_D _) hown hK hP 0 rfl rfl 3 (by decide) (hts _ (List.mem_cons_of_mem _ m_59)) (fun _ h9 => h9) rfl d_D_noteGoingWith_14 ?_
        refine lv_iload_n hx hb d_D_noteGoingWith_17 rfl (lv_at hl 1 rfl) ?_
        refine lv_lconst (v := 1) hx hb d_D_noteGoingWith_18 (by decide +kernel) ?_
        refine lv_iload_n hx hb d_D_noteGoingWith_19 rfl (lv_at hl 1 rfl) ?_
        refine lv_lshl hx hb d_D_noteGoingWith_20 rfl ?_
        refine va_last hx hb hK hP hD hS 3 1 rfl rfl (vp_in_nI (by omega) (by omega)) d_D_noteGoingWith_21 (fun H locs hP hD hS => ?_)
        rw [nI_clamp (by omega)] at hP hD
        have hP : va_P (dC, dI) classes [(jd, .inr (2, [.long sd, .ref jh, .ref jh2, .ref jg, .ref jb, .ref jy, .long w])), (jh, .inr (1, [.ref jt, .ref jk, .ref jv, .ref jr, .int (nI n)])), (jr, .inl (cr, 43, .inl R)), (jg, .inl (cg, 43, .inr (.inl (vp_updL (onL G i) i (1 <<< ((nI i).toInt64 &&& 63))))))] H := hP
        have hD : va_D A [(jd, .inr (2, [.long sd, .ref jh, .ref jh2, .ref jg, .ref jb, .ref jy, .long w])), (jh, .inr (1, [.ref jt, .ref jk, .ref jv, .ref jr, .int (nI n)])), (jr, .inl (cr, 43, .inl R)), (jg, .inl (cg, 43, .inr (.inl (vp_updL (onL G i) i (1 <<< ((nI i).toInt64 &&& 63))))))] := hD
        refine lv_iinc (v := nI (i + 1)) (lv' := [(1, .int (nI (i + 1))), (0, .ref jd)]) hx hb d_D_noteGoingWith_22 hl (k := 1) rfl (nI_1 _) (by decide) rfl (fun ls hl => ?_)
        refine lv_goto (tgt := 2) hx hb d_D_noteGoingWith_25 (by decide) ?_
        exact ih_2 (i + 1) (by omega) (by first | assumption | omega) _ _ (hP.sub (ws' := [(jd, .inr (2, [.long sd, .ref jh, .ref jh2, .ref jg, .ref jb, .ref jy, .long w])), (jh, .inr (1, [.ref jt, .ref jk, .ref jv, .ref jr, .int (nI n)])), (jr, .inl (cr, 43, .inl R)), (jg, .inl (cg, 43, .inr (.inl (onL G (i + 1)))))]) [0, 1, 2, 3] rfl) (hD.sub (ws' := [(jd, .inr (2, [.long sd, .ref jh, .ref jh2, .ref jg, .ref jb, .ref jy, .long w])), (jh, .inr (1, [.ref jt, .ref jk, .ref jv, .ref jr, .int (nI n)])), (jr, .inl (cr, 43, .inl R)), (jg, .inl (cg, 43, .inr (.inl (onL G (i + 1)))))]) [0, 1, 2, 3] (by decide) rfl) hS ls (lv_sub (l' := [(0, .ref jd), (1, .int (nI (i + 1)))]) hl [1, 0] rfl)
  exact lp_2 ((n - 0) + 1) 0 (by omega) (by first | assumption | omega) _ _ (hP.sub (ws' := [(jd, .inr (2, [.long sd, .ref jh, .ref jh2, .ref jg, .ref jb, .ref jy, .long w])), (jh, .inr (1, [.ref jt, .ref jk, .ref jv, .ref jr, .int (nI n)])), (jr, .inl (cr, 43, .inl R)), (jg, .inl (cg, 43, .inr (.inl (onL G 0))))]) [0, 1, 2, 3] rfl) (hD.sub (ws' := [(jd, .inr (2, [.long sd, .ref jh, .ref jh2, .ref jg, .ref jb, .ref jy, .long w])), (jh, .inr (1, [.ref jt, .ref jk, .ref jv, .ref jr, .int (nI n)])), (jr, .inl (cr, 43, .inl R)), (jg, .inl (cg, 43, .inr (.inl (onL G 0))))]) [0, 1, 2, 3] (by decide) rfl) hS ls (lv_sub (l' := [(0, .ref jd), (1, .int (nI 0))]) hl [1, 0] rfl)
set_option maxHeartbeats 4000000 in
set_option maxRecDepth 100000 in
/-- notePartsOfBits -/
theorem c_D_notePartsOfBits (l : Launch) (dC : Nat → ClassId) (dI : Nat → Nat → Nat) (jd jh jh2 jg jb jy : Nat) (sd w : Int64) (jt jk jv jr n : Nat) (ck cv cr cb : ClassId) (K V R : Nat → Int32) (B : Nat → Int64) (hn : n ≤ 43) (sz : Nat) : Met l y_D_notePartsOfBits w_D_notePartsOfBits ({ frames := 3, cells := 0, slots := 0, locals := 64 }) (wr_P dC dI [.ref jd] [(jd, .inr (2, [.long sd, .ref jh, .ref jh2, .ref jg, .ref jb, .ref jy, .long w])), (jh, .inr (1, [.ref jt, .ref jk, .ref jv, .ref jr, .int (nI n)])), (jk, .inl (ck, 43, .inl K)), (jv, .inl (cv, 43, .inl V)), (jr, .inl (cr, 43, .inl R)), (jb, .inl (cb, 8, .inr (.inl B)))] [(ck, .int), (cv, .int), (cr, .int), (cb, .long)] sz) (va_Qv (fun (_ : Unit) => True) (fun (u : Unit) => wr_B dC dI (va_A [(jd, .inr (2, [.long sd, .ref jh, .ref jh2, .ref jg, .ref jb, .ref jy, .long w])), (jh, .inr (1, [.ref jt, .ref jk, .ref jv, .ref jr, .int (nI n)])), (jk, .inl (ck, 43, .inl K)), (jv, .inl (cv, 43, .inl V)), (jr, .inl (cr, 43, .inl R)), (jb, .inl (cb, 8, .inr (.inl B)))] sz) [(jd, .inr (2, [.long sd, .ref jh, .ref jh2, .ref jg, .ref jb, .ref jy, .long w])), (jh, .inr (1, [.ref jt, .ref jk, .ref jv, .ref jr, .int (nI n)])), (jk, .inl (ck, 43, .inl K)), (jv, .inl (cv, 43, .inl V)), (jr, .inl (cr, 43, .inl R)), (jb, .inl (cb, 8, .inr (.inl (pbB n K V R B))))] [(ck, .int), (cv, .int), (cr, .int), (cb, .long)]) (va_A [(jd, .inr (2, [.long sd, .ref jh, .ref jh2, .ref jg, .ref jb, .ref jy, .long w])), (jh, .inr (1, [.ref jt, .ref jk, .ref jv, .ref jr, .int (nI n)])), (jk, .inl (ck, 43, .inl K)), (jv, .inl (cv, 43, .inl V)), (jr, .inl (cr, 43, .inl R)), (jb, .inl (cb, 8, .inr (.inl B)))] sz)) 0 0 (va_A [(jd, .inr (2, [.long sd, .ref jh, .ref jh2, .ref jg, .ref jb, .ref jy, .long w])), (jh, .inr (1, [.ref jt, .ref jk, .ref jv, .ref jr, .int (nI n)])), (jk, .inl (ck, 43, .inl K)), (jv, .inl (cv, 43, .inl V)), (jr, .inl (cr, 43, .inl R)), (jb, .inl (cb, 8, .inr (.inl B)))] sz) := by
  refine Met.ofW (cc := b_D_notePartsOfBits) (maxL := 3) (ret := (Option.none : Option Jvm.ClassFile.FieldType)) (by decide) rfl ?_
  intro p e s m args below meth c s₁ B0 hml hv0
  obtain ⟨rfl, hsz, hP, hK, hD0, hN⟩ := hv0
  have hx := B0.exec
  have hb := B0.bytes
  have hr := B0.returns
  have hts := atoms_spec (ws := w_D_notePartsOfBits) B0.pre
  have hown : s.vm.findClass R_D = some m.cls := findClass_of_methodNamed B0.named
  have hlocks := B0.notSynchronized
  subst hsz
  have hD := hD0.self (sz := s.heap.size)
  generalize hAe : va_A [(jd, .inr (2, [.long sd, .ref jh, .ref jh2, .ref jg, .ref jb, .ref jy, .long w])), (jh, .inr (1, [.ref jt, .ref jk, .ref jv, .ref jr, .int (nI n)])), (jk, .inl (ck, 43, .inl K)), (jv, .inl (cv, 43, .inl V)), (jr, .inl (cr, 43, .inl R)), (jb, .inl (cb, 8, .inr (.inl B)))] s.heap.size = A at hD ⊢
  have hA : ∀ q : Nat, s.heap.size ≤ q → A q := fun q h => by rw [← hAe]; exact Or.inr h
  have hS : va_S A s.heap s.heap [] := va_S.rf
  have hP : va_P (dC, dI) classes [(jd, .inr (2, [.long sd, .ref jh, .ref jh2, .ref jg, .ref jb, .ref jy, .long w])), (jh, .inr (1, [.ref jt, .ref jk, .ref jv, .ref jr, .int (nI n)])), (jk, .inl (ck, 43, .inl K)), (jv, .inl (cv, 43, .inl V)), (jr, .inl (cr, 43, .inl R)), (jb, .inl (cb, 8, .inr (.inl B)))] s.heap := hP
  have hl := lv_entry ([.ref jd]) (n := 3) (Nat.le_of_ble_eq_true rfl)
  rw [lg_entry_eq]
  generalize (lg_sl ([.ref jd]) ++ List.replicate (3 - (lg_sl ([.ref jd])).length) Slot.unset).toArray = ls at hl ⊢
  have hl : lv_has ls 3 [(0, .ref jd)] := hl
  refine lv_iconst (v := nI 0) hx hb d_D_notePartsOfBits_0 (by decide +kernel) ?_
  refine lv_istore_n (lv' := [(1, .int (nI 0)), (0, .ref jd)]) hx hb d_D_notePartsOfBits_1 rfl hl (by decide) rfl (fun ls hl => ?_)
  have lp_2 : ∀ (k9_2 : Nat), ∀ (i : Nat), 8 - i < k9_2 → (i ≤ 8) → ∀ (H : Heap) (locs : List Loc), va_P (dC, dI) classes [(jd, .inr (2, [.long sd, .ref jh, .ref jh2, .ref jg, .ref jb, .ref jy, .long w])), (jh, .inr (1, [.ref jt, .ref jk, .ref jv, .ref jr, .int (nI n)])), (jk, .inl (ck, 43, .inl K)), (jv, .inl (cv, 43, .inl V)), (jr, .inl (cr, 43, .inl R)), (jb, .inl (cb, 8, .inr (.inl (zeL B i))))] H → va_D A [(jd, .inr (2, [.long sd, .ref jh, .ref jh2, .ref jg, .ref jb, .ref jy, .long w])), (jh, .inr (1, [.ref jt, .ref jk, .ref jv, .ref jr, .int (nI n)])), (jk, .inl (ck, 43, .inl K)), (jv, .inl (cv, 43, .inl V)), (jr, .inl (cr, 43, .inl R)), (jb, .inl (cb, 8, .inr (.inl (zeL B i))))] → va_S A s.heap H locs → ∀ (ls : Array Slot), lv_has ls 3 [(0, .ref jd), (1, .int (nI i))] → W p l e (headSpec w_D_notePartsOfBits ({ frames := 3, cells := 0, slots := 0, locals := 64 })).room s m ([.ref jd]).toArray below meth c H locs 0 0 (MQ below (va_Qv (fun (_ : Unit) => True) (fun (u : Unit) => wr_B dC dI (A) [(jd, .inr (2, [.long sd, .ref jh, .ref jh2, .ref jg, .ref jb, .ref jy, .long w])), (jh, .inr (1, [.ref jt, .ref jk, .ref jv, .ref jr, .int (nI n)])), (jk, .inl (ck, 43, .inl K)), (jv, .inl (cv, 43, .inl V)), (jr, .inl (cr, 43, .inl R)), (jb, .inl (cb, 8, .inr (.inl (pbB n K V R B))))] [(ck, .int), (cv, .int), (cr, .int), (cb, .long)]) (A)) ([.ref jd]).toArray s 0 0 A) (F0 m 2 ls []) := by
    intro k9_2
    induction k9_2 with
    | zero =>
      intro i hk9
      exact absurd hk9 (Nat.not_lt_zero _)
    | succ k9_2 ih_2 =>
      intro i hk9_2 hi H locs hP hD hS ls hl
      refine lv_iload_n hx hb d_D_notePartsOfBits_2 rfl (lv_at hl 1 rfl) ?_
      refine lv_bipush (v := nI 8) hx hb d_D_notePartsOfBits_3 (by decide +kernel) ?_
      refine lv_icmp_ge (tgt := 21) hx hb d_D_notePartsOfBits_5 (by decide) (fun c_5 => ?_) (fun c_5 => ?_)
      · skip
        have c_5 := (nI_leI (by omega) (by omega)).mp c_5
        rw [show i = 8 by omega] at hP hD
        refine lv_iconst (v := nI 0) hx hb d_D_notePartsOfBits_21 (by decide +kernel) ?_
        refine lv_istore_n (lv' := [(1, .int (nI 0)), (0, .ref jd)]) hx hb d_D_notePartsOfBits_22 rfl hl (by decide) rfl (fun ls hl => ?_)
        have lp_23 : ∀ (k9_23 : Nat), ∀ (i : Nat), n - i < k9_23 → (i ≤ n) → ∀ (H : Heap) (locs : List Loc), va_P (dC, dI) classes [(jd, .inr (2, [.long sd, .ref jh, .ref jh2, .ref jg, .ref jb, .ref jy, .long w])), (jh, .inr (1, [.ref jt, .ref jk, .ref jv, .ref jr, .int (nI n)])), (jk, .inl (ck, 43, .inl K)), (jv, .inl (cv, 43, .inl V)), (jr, .inl (cr, 43, .inl R)), (jb, .inl (cb, 8, .inr (.inl (pbL n K V R (zeL B 8) i))))] H → va_D A [(jd, .inr (2, [.long sd, .ref jh, .ref jh2, .ref jg, .ref jb, .ref jy, .long w])), (jh, .inr (1, [.ref jt, .ref jk, .ref jv, .ref jr, .int (nI n)])), (jk, .inl (ck, 43, .inl K)), (jv, .inl (cv, 43, .inl V)), (jr, .inl (cr, 43, .inl R)), (jb, .inl (cb, 8, .inr (.inl (pbL n K V R (zeL B 8) i))))] → va_S A s.heap H locs → ∀ (ls : Array Slot), lv_has ls 3 [(0, .ref jd), (1, .int (nI i))] → W p l e (headSpec w_D_notePartsOfBits ({ frames := 3, cells := 0, slots := 0, locals := 64 })).room s m ([.ref jd]).toArray below meth c H locs 0 0 (MQ below (va_Qv (fun (_ : Unit) => True) (fun (u : Unit) => wr_B dC dI (A) [(jd, .inr (2, [.long sd, .ref jh, .ref jh2, .ref jg, .ref jb, .ref jy, .long w])), (jh, .inr (1, [.ref jt, .ref jk, .ref jv, .ref jr, .int (nI n)])), (jk, .inl (ck, 43, .inl K)), (jv, .inl (cv, 43, .inl V)), (jr, .inl (cr, 43, .inl R)), (jb, .inl (cb, 8, .inr (.inl (pbB n K V R B))))] [(ck, .int), (cv, .int), (cr, .int), (cb, .long)]) (A)) ([.ref jd]).toArray s 0 0 A) (F0 m 23 ls []) := by
          intro k9_23
          induction k9_23 with
          | zero =>
            intro i hk9
            exact absurd hk9 (Nat.not_lt_zero _)
          | succ k9_23 ih_23 =>
            intro i hk9_23 hi H locs hP hD hS ls hl
            refine lv_iload_n hx hb d_D_notePartsOfBits_23 rfl (lv_at hl 1 rfl) ?_
            refine lv_aload_n hx hb d_D_notePartsOfBits_24 rfl (lv_at hl 0 rfl) ?_
            refine va_get (D := (dC, dI)) (ci := 2) (v := .ref jh) (C := R_D) (T := F_D) (N := 7) hx hb hts (lay_D _) hown hK hP 0 rfl rfl 1 (by decide) (hts _ (List.mem_cons_of_mem _ m_57)) (fun _ h9 => h9) rfl d_D_notePartsOfBits_25 ?_
            refine va_getN (D := (dC, dI)) (ci := 1) (v := .int (nI n)) (C := R_H) (T := F_H) (N := 5) hx hb hts (lay_H _) hown hK hP 1 rfl rfl 4 (by decide) (hN.use (by decide +kernel : (Jvm.Cond.fieldLinkNest "PortDrawer" (62 : Nat) "PortDrawer$Harbour" "parts" "I" "PortDrawer") ∈ NWl)) (fun _ h9 => h9) rfl d_D_notePartsOfBits_28 ?_
            refine lv_icmp_ge (tgt := 110) hx hb d_D_notePartsOfBits_31 (by decide) (fun c_31 => ?_) (fun c_31 => ?_)
            · skip
              have c_31 := (nI_leI (by omega) (by omega)).mp c_31
              rw [show i = n by omega] at hP hD
              have hP9 := hP.sub (ws' := [(jd, .inr (2, [.long sd, .ref jh, .ref jh2, .ref jg, .ref jb, .ref jy, .long w])), (jh, .inr (1, [.ref jt, .ref jk, .ref jv, .ref jr, .int (nI n)])), (jk, .inl (ck, 43, .inl K)), (jv, .inl (cv, 43, .inl V)), (jr, .inl (cr, 43, .inl R)), (jb, .inl (cb, 8, .inr (.inl (pbB n K V R B))))]) [0, 1, 2, 3, 4, 5] rfl
              have hD9 := hD.sub (ws' := [(jd, .inr (2, [.long sd, .ref jh, .ref jh2, .ref jg, .ref jb, .ref jy, .long w])), (jh, .inr (1, [.ref jt, .ref jk, .ref jv, .ref jr, .int (nI n)])), (jk, .inl (ck, 43, .inl K)), (jv, .inl (cv, 43, .inl V)), (jr, .inl (cr, 43, .inl R)), (jb, .inl (cb, 8, .inr (.inl (pbB n K V R B))))]) [0, 1, 2, 3, 4, 5] (by decide) rfl
              have hK9 := hK.sub (tys' := [(ck, .int), (cv, .int), (cr, .int), (cb, .long)]) [0, 1, 2, 3] rfl
              exact W.vret hx hb hr (fun t ht hW => ⟨⟨(), rfl, trivial, by rw [ht]; exact hP9, va_K.moved hW.alike hK9, hD9⟩, hS.F ht⟩) hS.2.2 d_D_notePartsOfBits_110
            · skip
              have c_31 := (not_congr (nI_leI (by omega) (by omega))).mp c_31
              refine lv_aload_n hx hb d_D_notePartsOfBits_34 rfl (lv_at hl 0 rfl) ?_
              refine va_get (D := (dC, dI)) (ci := 2) (v := .ref jh) (C := R_D) (T := F_D) (N := 7) hx hb hts (lay_D _) hown hK hP 0 rfl rfl 1 (by decide) (hts _ (List.mem_cons_of_mem _ m_57)) (fun _ h9 => h9) rfl d_D_notePartsOfBits_35 ?_
              refine va_getN (D := (dC, dI)) (ci := 1) (v := .ref jk) (C := R_H) (T := F_H) (N := 5) hx hb hts (lay_H _) hown hK hP 1 rfl rfl 1 (by decide) (hN.use (by decide +kernel : (Jvm.Cond.fieldLinkNest "PortDrawer" (74 : Nat) "PortDrawer$Harbour" "kinds" "[I" "PortDrawer") ∈ NWl)) (fun _ h9 => h9) rfl d_D_notePartsOfBits_38 ?_
              refine lv_iload_n hx hb d_D_notePartsOfBits_41 rfl (lv_at hl 1 rfl) ?_
              refine va_iald hx hb hK hP 2 0 rfl rfl (vp_in_nI (by omega) (by omega)) d_D_notePartsOfBits_42 ?_
              refine lv_topi (fun w_1 ew_1 => ?_)
              rw [nI_clamp (by omega)] at ew_1
              have ew_1 := ew_1.symm
              subst ew_1
              refine lv_istore_n (lv' := [(2, .int (K i)), (0, .ref jd), (1, .int (nI i))]) hx hb d_D_notePartsOfBits_43 rfl hl (by decide) rfl (fun ls hl => ?_)
              refine lv_aload_n hx hb d_D_notePartsOfBits_44 rfl (lv_at hl 1 rfl) ?_
              refine va_get (D := (dC, dI)) (ci := 2) (v := .ref jh) (C := R_D) (T := F_D) (N := 7) hx hb hts (lay_D _) hown hK hP 0 rfl rfl 1 (by decide) (hts _ (List.mem_cons_of_mem _ m_57)) (fun _ h9 => h9) rfl d_D_notePartsOfBits_45 ?_
              refine va_getN (D := (dC, dI)) (ci := 1) (v := .ref jv) (C := R_H) (T := F_H) (N := 5) hx hb hts (lay_H _) hown hK hP 1 rfl rfl 2 (by decide) (hN.use (by decide +kernel : (Jvm.Cond.fieldLinkNest "PortDrawer" (82 : Nat) "PortDrawer$Harbour" "values" "[I" "PortDrawer") ∈ NWl)) (fun _ h9 => h9) rfl d_D_notePartsOfBits_48 ?_
              refine lv_iload_n hx hb d_D_notePartsOfBits_51 rfl (lv_at hl 2 rfl) ?_
              refine va_iald hx hb hK hP 3 1 rfl rfl (vp_in_nI (by omega) (by omega)) d_D_notePartsOfBits_52 ?_
              refine lv_topi (fun w_2 ew_2 => ?_)
              rw [nI_clamp (by omega)] at ew_2
              have ew_2 := ew_2.symm
              subst ew_2
              refine lv_bipush (v := nI 50) hx hb d_D_notePartsOfBits_53 (by decide +kernel) ?_
              refine lv_icmp_lt (tgt := 80) hx hb d_D_notePartsOfBits_55 (by decide) (fun c_55 => ?_) (fun c_55 => ?_)
              · skip
                rw [show (pbL n K V R (zeL B 8) i) = (p1S K V i (pbL n K V R (zeL B 8) i)) from ((if_neg (by simp [kiB, c_5, c_31, c_55])).symm)] at hP hD
                have lp_80 : ∀ (H : Heap) (locs : List Loc), va_P (dC, dI) classes [(jd, .inr (2, [.long sd, .ref jh, .ref jh2, .ref jg, .ref jb, .ref jy, .long w])), (jh, .inr (1, [.ref jt, .ref jk, .ref jv, .ref jr, .int (nI n)])), (jk, .inl (ck, 43, .inl K)), (jv, .inl (cv, 43, .inl V)), (jr, .inl (cr, 43, .inl R)), (jb, .inl (cb, 8, .inr (.inl (p1S K V i (pbL n K V R (zeL B 8) i)))))] H → va_D A [(jd, .inr (2, [.long sd, .ref jh, .ref jh2, .ref jg, .ref jb, .ref jy, .long w])), (jh, .inr (1, [.ref jt, .ref jk, .ref jv, .ref jr, .int (nI n)])), (jk, .inl (ck, 43, .inl K)), (jv, .inl (cv, 43, .inl V)), (jr, .inl (cr, 43, .inl R)), (jb, .inl (cb, 8, .inr (.inl (p1S K V i (pbL n K V R (zeL B 8) i)))))] → va_S A s.heap H locs → ∀ (ls : Array Slot), lv_has ls 3 [(0, .ref jd), (1, .int (nI i))] → W p l e (headSpec w_D_notePartsOfBits ({ frames := 3, cells := 0, slots := 0, locals := 64 })).room s m ([.ref jd]).toArray below meth c H locs 0 0 (MQ below (va_Qv (fun (_ : Unit) => True) (fun (u : Unit) => wr_B dC dI (A) [(jd, .inr (2, [.long sd, .ref jh, .ref jh2, .ref jg, .ref jb, .ref jy, .long w])), (jh, .inr (1, [.ref jt, .ref jk, .ref jv, .ref jr, .int (nI n)])), (jk, .inl (ck, 43, .inl K)), (jv, .inl (cv, 43, .inl V)), (jr, .inl (cr, 43, .inl R)), (jb, .inl (cb, 8, .inr (.inl (pbB n K V R B))))] [(ck, .int), (cv, .int), (cr, .int), (cb, .long)]) (A)) ([.ref jd]).toArray s 0 0 A) (F0 m 80 ls []) := by
                  intro   H locs hP hD hS ls hl
                  refine lv_aload_n hx hb d_D_notePartsOfBits_80 rfl (lv_at hl 0 rfl) ?_
                  refine va_get (D := (dC, dI)) (ci := 2) (v := .ref jh) (C := R_D) (T := F_D) (N := 7) hx hb hts (lay_D _) hown hK hP 0 rfl rfl 1 (by decide) (hts _ (List.mem_cons_of_mem _ m_57)) (fun _ h9 => h9) rfl d_D_notePartsOfBits_81 ?_
                  refine lv_iload_n hx hb d_D_notePartsOfBits_84 rfl (lv_at hl 1 rfl) ?_
                  have hPc := hP.sub (ws' := [(jh, .inr (1, [.ref jt, .ref jk, .ref jv, .ref jr, .int (nI n)])), (jk, .inl (ck, 43, .inl K)), (jv, .inl (cv, 43, .inl V)), (jr, .inl (cr, 43, .inl R))]) [1, 2, 3, 4] rfl
                  have hKc := hK.sub (tys' := [(ck, .int), (cv, .int), (cr, .int)]) [0, 1, 2] rfl
                  refine vp_callSi (va_Run.run (va_runVN (As := [.int (nI i)]) (rest := []) ⟨hx, hb, hml, hown, hts⟩ (c_H_isFittingAct l dC dI jh jt jk jv jr n ck cv cr K V R (nI i) (by first | assumption | omega)) ⟨va_cnB 1 hts (g_c big_w m_271) rfl rfl rfl (hN _ (by decide +kernel : (Jvm.Cond.methodLinkNest "PortDrawer" (99 : Nat) ({ cls := "PortDrawer$Harbour", name := "isFittingAct", desc := "(I)Z" } : Jvm.MethodName) "PortDrawer") ∈ NWl)) (hts _ (List.mem_cons_of_mem _ m_2)) (by decide +kernel) ⟨Nat.le_of_ble_eq_true rfl, Nat.le_of_ble_eq_true rfl⟩, (hts _ (List.mem_cons_of_mem _ m_270)), (hts _ (List.mem_cons_of_mem _ ms_18))⟩ (ro_V hPc hKc hN (va_recv hKc hPc (ci := 1) (q0 := 0) rfl rfl)) rfl rfl hl.1 rfl (lv_room (Nat.le_of_ble_eq_true rfl)) d_D_notePartsOfBits_85 ⟨Nat.le_of_ble_eq_true rfl, Nat.le_of_ble_eq_true rfl⟩)) (fun r_3 er_3 => ?_)
                  have er_3 := er_3.symm
                  subst er_3
                  refine lv_if_eq (tgt := 104) hx hb d_D_notePartsOfBits_88 (by decide) (fun c_88 => ?_) (fun c_88 => ?_)
                  · skip
                    have c_88 := bI_f c_88
                    rw [show (p1S K V i (pbL n K V R (zeL B 8) i)) = (pbL n K V R (zeL B 8) (i + 1)) from ((if_neg (by rw [c_88]; decide)).symm)] at hP hD
                    refine lv_iinc (v := nI (i + 1)) (lv' := [(1, .int (nI (i + 1))), (0, .ref jd)]) hx hb d_D_notePartsOfBits_104 hl (k := 1) rfl (nI_1 _) (by decide) rfl (fun ls hl => ?_)
                    refine lv_goto (tgt := 23) hx hb d_D_notePartsOfBits_107 (by decide) ?_
                    exact ih_23 (i + 1) (by omega) (by first | assumption | omega) _ _ (hP.sub (ws' := [(jd, .inr (2, [.long sd, .ref jh, .ref jh2, .ref jg, .ref jb, .ref jy, .long w])), (jh, .inr (1, [.ref jt, .ref jk, .ref jv, .ref jr, .int (nI n)])), (jk, .inl (ck, 43, .inl K)), (jv, .inl (cv, 43, .inl V)), (jr, .inl (cr, 43, .inl R)), (jb, .inl (cb, 8, .inr (.inl (pbL n K V R (zeL B 8) (i + 1)))))]) [0, 1, 2, 3, 4, 5] rfl) (hD.sub (ws' := [(jd, .inr (2, [.long sd, .ref jh, .ref jh2, .ref jg, .ref jb, .ref jy, .long w])), (jh, .inr (1, [.ref jt, .ref jk, .ref jv, .ref jr, .int (nI n)])), (jk, .inl (ck, 43, .inl K)), (jv, .inl (cv, 43, .inl V)), (jr, .inl (cr, 43, .inl R)), (jb, .inl (cb, 8, .inr (.inl (pbL n K V R (zeL B 8) (i + 1)))))]) [0, 1, 2, 3, 4, 5] (by decide) rfl) hS ls (lv_sub (l' := [(0, .ref jd), (1, .int (nI (i + 1)))]) hl [1, 0] rfl)
                  · skip
                    have c_88 := bI_t c_88
                    refine lv_aload_n hx hb d_D_notePartsOfBits_91 rfl (lv_at hl 0 rfl) ?_
                    refine va_get (D := (dC, dI)) (ci := 2) (v := .ref jb) (C := R_D) (T := F_D) (N := 7) hx hb hts (lay_D _) hown hK hP 0 rfl rfl 4 (by decide) (hts _ (List.mem_cons_of_mem _ m_60)) (fun _ h9 => h9) rfl d_D_notePartsOfBits_92 ?_
                    refine lv_bipush (v := nI 7) hx hb d_D_notePartsOfBits_95 (by decide +kernel) ?_
                    refine lv_dup2_11 hx hb d_D_notePartsOfBits_97 rfl rfl ?_
                    refine va_lald hx hb hK hP 5 3 rfl rfl (vp_in_nI (by omega) (by omega)) d_D_notePartsOfBits_98 ?_
                    refine lv_topl (fun w_4 ew_4 => ?_)
                    rw [nI_clamp (by omega)] at ew_4
                    have ew_4 := ew_4.symm
                    subst ew_4
                    refine lv_lconst (v := 1) hx hb d_D_notePartsOfBits_99 (by decide +kernel) ?_
                    refine lv_iload_n hx hb d_D_notePartsOfBits_100 rfl (lv_at hl 1 rfl) ?_
                    refine lv_lshl hx hb d_D_notePartsOfBits_101 rfl ?_
                    refine lv_lor hx hb d_D_notePartsOfBits_102 ?_
                    refine va_last hx hb hK hP hD hS 5 3 rfl rfl (vp_in_nI (by omega) (by omega)) d_D_notePartsOfBits_103 (fun H locs hP hD hS => ?_)
                    rw [nI_clamp (by omega)] at hP hD
                    have hP : va_P (dC, dI) classes [(jd, .inr (2, [.long sd, .ref jh, .ref jh2, .ref jg, .ref jb, .ref jy, .long w])), (jh, .inr (1, [.ref jt, .ref jk, .ref jv, .ref jr, .int (nI n)])), (jk, .inl (ck, 43, .inl K)), (jv, .inl (cv, 43, .inl V)), (jr, .inl (cr, 43, .inl R)), (jb, .inl (cb, 8, .inr (.inl (vp_updL (p1S K V i (pbL n K V R (zeL B 8) i)) 7 (((p1S K V i (pbL n K V R (zeL B 8) i)) 7) ||| (1 <<< ((nI i).toInt64 &&& 63)))))))] H := hP
                    have hD : va_D A [(jd, .inr (2, [.long sd, .ref jh, .ref jh2, .ref jg, .ref jb, .ref jy, .long w])), (jh, .inr (1, [.ref jt, .ref jk, .ref jv, .ref jr, .int (nI n)])), (jk, .inl (ck, 43, .inl K)), (jv, .inl (cv, 43, .inl V)), (jr, .inl (cr, 43, .inl R)), (jb, .inl (cb, 8, .inr (.inl (vp_updL (p1S K V i (pbL n K V R (zeL B 8) i)) 7 (((p1S K V i (pbL n K V R (zeL B 8) i)) 7) ||| (1 <<< ((nI i).toInt64 &&& 63)))))))] := hD
                    rw [show (vp_updL (p1S K V i (pbL n K V R (zeL B 8) i)) 7 (((p1S K V i (pbL n K V R (zeL B 8) i)) 7) ||| (1 <<< ((nI i).toInt64 &&& 63)))) = (pbL n K V R (zeL B 8) (i + 1)) from ((if_pos c_88).symm)] at hP hD
                    refine lv_iinc (v := nI (i + 1)) (lv' := [(1, .int (nI (i + 1))), (0, .ref jd)]) hx hb d_D_notePartsOfBits_104 hl (k := 1) rfl (nI_1 _) (by decide) rfl (fun ls hl => ?_)
                    refine lv_goto (tgt := 23) hx hb d_D_notePartsOfBits_107 (by decide) ?_
                    exact ih_23 (i + 1) (by omega) (by first | assumption | omega) _ _ (hP.sub (ws' := [(jd, .inr (2, [.long sd, .ref jh, .ref jh2, .ref jg, .ref jb, .ref jy, .long w])), (jh, .inr (1, [.ref jt, .ref jk, .ref jv, .ref jr, .int (nI n)])), (jk, .inl (ck, 43, .inl K)), (jv, .inl (cv, 43, .inl V)), (jr, .inl (cr, 43, .inl R)), (jb, .inl (cb, 8, .inr (.inl (pbL n K V R (zeL B 8) (i + 1)))))]) [0, 1, 2, 3, 4, 5] rfl) (hD.sub (ws' := [(jd, .inr (2, [.long sd, .ref jh, .ref jh2, .ref jg, .ref jb, .ref jy, .long w])), (jh, .inr (1, [.ref jt, .ref jk, .ref jv, .ref jr, .int (nI n)])), (jk, .inl (ck, 43, .inl K)), (jv, .inl (cv, 43, .inl V)), (jr, .inl (cr, 43, .inl R)), (jb, .inl (cb, 8, .inr (.inl (pbL n K V R (zeL B 8) (i + 1)))))]) [0, 1, 2, 3, 4, 5] (by decide) rfl) hS ls (lv_sub (l' := [(0, .ref jd), (1, .int (nI (i + 1)))]) hl [1, 0] rfl)
                exact lp_80 _ _ (hP.sub (ws' := [(jd, .inr (2, [.long sd, .ref jh, .ref jh2, .ref jg, .ref jb, .ref jy, .long w])), (jh, .inr (1, [.ref jt, .ref jk, .ref jv, .ref jr, .int (nI n)])), (jk, .inl (ck, 43, .inl K)), (jv, .inl (cv, 43, .inl V)), (jr, .inl (cr, 43, .inl R)), (jb, .inl (cb, 8, .inr (.inl (p1S K V i (pbL n K V R (zeL B 8) i)))))]) [0, 1, 2, 3, 4, 5] rfl) (hD.sub (ws' := [(jd, .inr (2, [.long sd, .ref jh, .ref jh2, .ref jg, .ref jb, .ref jy, .long w])), (jh, .inr (1, [.ref jt, .ref jk, .ref jv, .ref jr, .int (nI n)])), (jk, .inl (ck, 43, .inl K)), (jv, .inl (cv, 43, .inl V)), (jr, .inl (cr, 43, .inl R)), (jb, .inl (cb, 8, .inr (.inl (p1S K V i (pbL n K V R (zeL B 8) i)))))]) [0, 1, 2, 3, 4, 5] (by decide) rfl) hS ls (lv_sub (l' := [(0, .ref jd), (1, .int (nI i))]) hl [1, 2] rfl)
              · skip
                refine lv_iload_n hx hb d_D_notePartsOfBits_58 rfl (lv_at hl 0 rfl) ?_
                refine lv_if_lt (tgt := 80) hx hb d_D_notePartsOfBits_59 (by decide) (fun c_59 => ?_) (fun c_59 => ?_)
                · skip
                  rw [show (pbL n K V R (zeL B 8) i) = (p1S K V i (pbL n K V R (zeL B 8) i)) from ((if_neg (by simp [kiB, c_5, c_31, c_55, c_59])).symm)] at hP hD
                  have lp_80 : ∀ (H : Heap) (locs : List Loc), va_P (dC, dI) classes [(jd, .inr (2, [.long sd, .ref jh, .ref jh2, .ref jg, .ref jb, .ref jy, .long w])), (jh, .inr (1, [.ref jt, .ref jk, .ref jv, .ref jr, .int (nI n)])), (jk, .inl (ck, 43, .inl K)), (jv, .inl (cv, 43, .inl V)), (jr, .inl (cr, 43, .inl R)), (jb, .inl (cb, 8, .inr (.inl (p1S K V i (pbL n K V R (zeL B 8) i)))))] H → va_D A [(jd, .inr (2, [.long sd, .ref jh, .ref jh2, .ref jg, .ref jb, .ref jy, .long w])), (jh, .inr (1, [.ref jt, .ref jk, .ref jv, .ref jr, .int (nI n)])), (jk, .inl (ck, 43, .inl K)), (jv, .inl (cv, 43, .inl V)), (jr, .inl (cr, 43, .inl R)), (jb, .inl (cb, 8, .inr (.inl (p1S K V i (pbL n K V R (zeL B 8) i)))))] → va_S A s.heap H locs → ∀ (ls : Array Slot), lv_has ls 3 [(0, .ref jd), (1, .int (nI i))] → W p l e (headSpec w_D_notePartsOfBits ({ frames := 3, cells := 0, slots := 0, locals := 64 })).room s m ([.ref jd]).toArray below meth c H locs 0 0 (MQ below (va_Qv (fun (_ : Unit) => True) (fun (u : Unit) => wr_B dC dI (A) [(jd, .inr (2, [.long sd, .ref jh, .ref jh2, .ref jg, .ref jb, .ref jy, .long w])), (jh, .inr (1, [.ref jt, .ref jk, .ref jv, .ref jr, .int (nI n)])), (jk, .inl (ck, 43, .inl K)), (jv, .inl (cv, 43, .inl V)), (jr, .inl (cr, 43, .inl R)), (jb, .inl (cb, 8, .inr (.inl (pbB n K V R B))))] [(ck, .int), (cv, .int), (cr, .int), (cb, .long)]) (A)) ([.ref jd]).toArray s 0 0 A) (F0 m 80 ls []) := by
                    intro   H locs hP hD hS ls hl
                    refine lv_aload_n hx hb d_D_notePartsOfBits_80 rfl (lv_at hl 0 rfl) ?_
                    refine va_get (D := (dC, dI)) (ci := 2) (v := .ref jh) (C := R_D) (T := F_D) (N := 7) hx hb hts (lay_D _) hown hK hP 0 rfl rfl 1 (by decide) (hts _ (List.mem_cons_of_mem _ m_57)) (fun _ h9 => h9) rfl d_D_notePartsOfBits_81 ?_
                    refine lv_iload_n hx hb d_D_notePartsOfBits_84 rfl (lv_at hl 1 rfl) ?_
                    have hPc := hP.sub (ws' := [(jh, .inr (1, [.ref jt, .ref jk, .ref jv, .ref jr, .int (nI n)])), (jk, .inl (ck, 43, .inl K)), (jv, .inl (cv, 43, .inl V)), (jr, .inl (cr, 43, .inl R))]) [1, 2, 3, 4] rfl
                    have hKc := hK.sub (tys' := [(ck, .int), (cv, .int), (cr, .int)]) [0, 1, 2] rfl
                    refine vp_callSi (va_Run.run (va_runVN (As := [.int (nI i)]) (rest := []) ⟨hx, hb, hml, hown, hts⟩ (c_H_isFittingAct l dC dI jh jt jk jv jr n ck cv cr K V R (nI i) (by first | assumption | omega)) ⟨va_cnB 1 hts (g_c big_w m_271) rfl rfl rfl (hN _ (by decide +kernel : (Jvm.Cond.methodLinkNest "PortDrawer" (99 : Nat) ({ cls := "PortDrawer$Harbour", name := "isFittingAct", desc := "(I)Z" } : Jvm.MethodName) "PortDrawer") ∈ NWl)) (hts _ (List.mem_cons_of_mem _ m_2)) (by decide +kernel) ⟨Nat.le_of_ble_eq_true rfl, Nat.le_of_ble_eq_true rfl⟩, (hts _ (List.mem_cons_of_mem _ m_270)), (hts _ (List.mem_cons_of_mem _ ms_18))⟩ (ro_V hPc hKc hN (va_recv hKc hPc (ci := 1) (q0 := 0) rfl rfl)) rfl rfl hl.1 rfl (lv_room (Nat.le_of_ble_eq_true rfl)) d_D_notePartsOfBits_85 ⟨Nat.le_of_ble_eq_true rfl, Nat.le_of_ble_eq_true rfl⟩)) (fun r_5 er_5 => ?_)
                    have er_5 := er_5.symm
                    subst er_5
                    refine lv_if_eq (tgt := 104) hx hb d_D_notePartsOfBits_88 (by decide) (fun c_88 => ?_) (fun c_88 => ?_)
                    · skip
                      have c_88 := bI_f c_88
                      rw [show (p1S K V i (pbL n K V R (zeL B 8) i)) = (pbL n K V R (zeL B 8) (i + 1)) from ((if_neg (by rw [c_88]; decide)).symm)] at hP hD
                      refine lv_iinc (v := nI (i + 1)) (lv' := [(1, .int (nI (i + 1))), (0, .ref jd)]) hx hb d_D_notePartsOfBits_104 hl (k := 1) rfl (nI_1 _) (by decide) rfl (fun ls hl => ?_)
                      refine lv_goto (tgt := 23) hx hb d_D_notePartsOfBits_107 (by decide) ?_
                      exact ih_23 (i + 1) (by omega) (by first | assumption | omega) _ _ (hP.sub (ws' := [(jd, .inr (2, [.long sd, .ref jh, .ref jh2, .ref jg, .ref jb, .ref jy, .long w])), (jh, .inr (1, [.ref jt, .ref jk, .ref jv, .ref jr, .int (nI n)])), (jk, .inl (ck, 43, .inl K)), (jv, .inl (cv, 43, .inl V)), (jr, .inl (cr, 43, .inl R)), (jb, .inl (cb, 8, .inr (.inl (pbL n K V R (zeL B 8) (i + 1)))))]) [0, 1, 2, 3, 4, 5] rfl) (hD.sub (ws' := [(jd, .inr (2, [.long sd, .ref jh, .ref jh2, .ref jg, .ref jb, .ref jy, .long w])), (jh, .inr (1, [.ref jt, .ref jk, .ref jv, .ref jr, .int (nI n)])), (jk, .inl (ck, 43, .inl K)), (jv, .inl (cv, 43, .inl V)), (jr, .inl (cr, 43, .inl R)), (jb, .inl (cb, 8, .inr (.inl (pbL n K V R (zeL B 8) (i + 1)))))]) [0, 1, 2, 3, 4, 5] (by decide) rfl) hS ls (lv_sub (l' := [(0, .ref jd), (1, .int (nI (i + 1)))]) hl [1, 0] rfl)
                    · skip
                      have c_88 := bI_t c_88
                      refine lv_aload_n hx hb d_D_notePartsOfBits_91 rfl (lv_at hl 0 rfl) ?_
                      refine va_get (D := (dC, dI)) (ci := 2) (v := .ref jb) (C := R_D) (T := F_D) (N := 7) hx hb hts (lay_D _) hown hK hP 0 rfl rfl 4 (by decide) (hts _ (List.mem_cons_of_mem _ m_60)) (fun _ h9 => h9) rfl d_D_notePartsOfBits_92 ?_
                      refine lv_bipush (v := nI 7) hx hb d_D_notePartsOfBits_95 (by decide +kernel) ?_
                      refine lv_dup2_11 hx hb d_D_notePartsOfBits_97 rfl rfl ?_
                      refine va_lald hx hb hK hP 5 3 rfl rfl (vp_in_nI (by omega) (by omega)) d_D_notePartsOfBits_98 ?_
                      refine lv_topl (fun w_6 ew_6 => ?_)
                      rw [nI_clamp (by omega)] at ew_6
                      have ew_6 := ew_6.symm
                      subst ew_6
                      refine lv_lconst (v := 1) hx hb d_D_notePartsOfBits_99 (by decide +kernel) ?_
                      refine lv_iload_n hx hb d_D_notePartsOfBits_100 rfl (lv_at hl 1 rfl) ?_
                      refine lv_lshl hx hb d_D_notePartsOfBits_101 rfl ?_
                      refine lv_lor hx hb d_D_notePartsOfBits_102 ?_
                      refine va_last hx hb hK hP hD hS 5 3 rfl rfl (vp_in_nI (by omega) (by omega)) d_D_notePartsOfBits_103 (fun H locs hP hD hS => ?_)
                      rw [nI_clamp (by omega)] at hP hD
                      have hP : va_P (dC, dI) classes [(jd, .inr (2, [.long sd, .ref jh, .ref jh2, .ref jg, .ref jb, .ref jy, .long w])), (jh, .inr (1, [.ref jt, .ref jk, .ref jv, .ref jr, .int (nI n)])), (jk, .inl (ck, 43, .inl K)), (jv, .inl (cv, 43, .inl V)), (jr, .inl (cr, 43, .inl R)), (jb, .inl (cb, 8, .inr (.inl (vp_updL (p1S K V i (pbL n K V R (zeL B 8) i)) 7 (((p1S K V i (pbL n K V R (zeL B 8) i)) 7) ||| (1 <<< ((nI i).toInt64 &&& 63)))))))] H := hP
                      have hD : va_D A [(jd, .inr (2, [.long sd, .ref jh, .ref jh2, .ref jg, .ref jb, .ref jy, .long w])), (jh, .inr (1, [.ref jt, .ref jk, .ref jv, .ref jr, .int (nI n)])), (jk, .inl (ck, 43, .inl K)), (jv, .inl (cv, 43, .inl V)), (jr, .inl (cr, 43, .inl R)), (jb, .inl (cb, 8, .inr (.inl (vp_updL (p1S K V i (pbL n K V R (zeL B 8) i)) 7 (((p1S K V i (pbL n K V R (zeL B 8) i)) 7) ||| (1 <<< ((nI i).toInt64 &&& 63)))))))] := hD
                      rw [show (vp_updL (p1S K V i (pbL n K V R (zeL B 8) i)) 7 (((p1S K V i (pbL n K V R (zeL B 8) i)) 7) ||| (1 <<< ((nI i).toInt64 &&& 63)))) = (pbL n K V R (zeL B 8) (i + 1)) from ((if_pos c_88).symm)] at hP hD
                      refine lv_iinc (v := nI (i + 1)) (lv' := [(1, .int (nI (i + 1))), (0, .ref jd)]) hx hb d_D_notePartsOfBits_104 hl (k := 1) rfl (nI_1 _) (by decide) rfl (fun ls hl => ?_)
                      refine lv_goto (tgt := 23) hx hb d_D_notePartsOfBits_107 (by decide) ?_
                      exact ih_23 (i + 1) (by omega) (by first | assumption | omega) _ _ (hP.sub (ws' := [(jd, .inr (2, [.long sd, .ref jh, .ref jh2, .ref jg, .ref jb, .ref jy, .long w])), (jh, .inr (1, [.ref jt, .ref jk, .ref jv, .ref jr, .int (nI n)])), (jk, .inl (ck, 43, .inl K)), (jv, .inl (cv, 43, .inl V)), (jr, .inl (cr, 43, .inl R)), (jb, .inl (cb, 8, .inr (.inl (pbL n K V R (zeL B 8) (i + 1)))))]) [0, 1, 2, 3, 4, 5] rfl) (hD.sub (ws' := [(jd, .inr (2, [.long sd, .ref jh, .ref jh2, .ref jg, .ref jb, .ref jy, .long w])), (jh, .inr (1, [.ref jt, .ref jk, .ref jv, .ref jr, .int (nI n)])), (jk, .inl (ck, 43, .inl K)), (jv, .inl (cv, 43, .inl V)), (jr, .inl (cr, 43, .inl R)), (jb, .inl (cb, 8, .inr (.inl (pbL n K V R (zeL B 8) (i + 1)))))]) [0, 1, 2, 3, 4, 5] (by decide) rfl) hS ls (lv_sub (l' := [(0, .ref jd), (1, .int (nI (i + 1)))]) hl [1, 0] rfl)
                  exact lp_80 _ _ (hP.sub (ws' := [(jd, .inr (2, [.long sd, .ref jh, .ref jh2, .ref jg, .ref jb, .ref jy, .long w])), (jh, .inr (1, [.ref jt, .ref jk, .ref jv, .ref jr, .int (nI n)])), (jk, .inl (ck, 43, .inl K)), (jv, .inl (cv, 43, .inl V)), (jr, .inl (cr, 43, .inl R)), (jb, .inl (cb, 8, .inr (.inl (p1S K V i (pbL n K V R (zeL B 8) i)))))]) [0, 1, 2, 3, 4, 5] rfl) (hD.sub (ws' := [(jd, .inr (2, [.long sd, .ref jh, .ref jh2, .ref jg, .ref jb, .ref jy, .long w])), (jh, .inr (1, [.ref jt, .ref jk, .ref jv, .ref jr, .int (nI n)])), (jk, .inl (ck, 43, .inl K)), (jv, .inl (cv, 43, .inl V)), (jr, .inl (cr, 43, .inl R)), (jb, .inl (cb, 8, .inr (.inl (p1S K V i (pbL n K V R (zeL B 8) i)))))]) [0, 1, 2, 3, 4, 5] (by decide) rfl) hS ls (lv_sub (l' := [(0, .ref jd), (1, .int (nI i))]) hl [1, 2] rfl)
                · skip
                  refine lv_iload_n hx hb d_D_notePartsOfBits_62 rfl (lv_at hl 0 rfl) ?_
                  refine lv_bipush (v := nI 7) hx hb d_D_notePartsOfBits_63 (by decide +kernel) ?_
                  refine lv_icmp_ge (tgt := 80) hx hb d_D_notePartsOfBits_65 (by decide) (fun c_65 => ?_) (fun c_65 => ?_)
                  · skip
                    rw [show (pbL n K V R (zeL B 8) i) = (p1S K V i (pbL n K V R (zeL B 8) i)) from ((if_neg (by simp [kiB, c_5, c_31, c_55, c_59, c_65])).symm)] at hP hD
                    have lp_80 : ∀ (H : Heap) (locs : List Loc), va_P (dC, dI) classes [(jd, .inr (2, [.long sd, .ref jh, .ref jh2, .ref jg, .ref jb, .ref jy, .long w])), (jh, .inr (1, [.ref jt, .ref jk, .ref jv, .ref jr, .int (nI n)])), (jk, .inl (ck, 43, .inl K)), (jv, .inl (cv, 43, .inl V)), (jr, .inl (cr, 43, .inl R)), (jb, .inl (cb, 8, .inr (.inl (p1S K V i (pbL n K V R (zeL B 8) i)))))] H → va_D A [(jd, .inr (2, [.long sd, .ref jh, .ref jh2, .ref jg, .ref jb, .ref jy, .long w])), (jh, .inr (1, [.ref jt, .ref jk, .ref jv, .ref jr, .int (nI n)])), (jk, .inl (ck, 43, .inl K)), (jv, .inl (cv, 43, .inl V)), (jr, .inl (cr, 43, .inl R)), (jb, .inl (cb, 8, .inr (.inl (p1S K V i (pbL n K V R (zeL B 8) i)))))] → va_S A s.heap H locs → ∀ (ls : Array Slot), lv_has ls 3 [(0, .ref jd), (1, .int (nI i))] → W p l e (headSpec w_D_notePartsOfBits ({ frames := 3, cells := 0, slots := 0, locals := 64 })).room s m ([.ref jd]).toArray below meth c H locs 0 0 (MQ below (va_Qv (fun (_ : Unit) => True) (fun (u : Unit) => wr_B dC dI (A) [(jd, .inr (2, [.long sd, .ref jh, .ref jh2, .ref jg, .ref jb, .ref jy, .long w])), (jh, .inr (1, [.ref jt, .ref jk, .ref jv, .ref jr, .int (nI n)])), (jk, .inl (ck, 43, .inl K)), (jv, .inl (cv, 43, .inl V)), (jr, .inl (cr, 43, .inl R)), (jb, .inl (cb, 8, .inr (.inl (pbB n K V R B))))] [(ck, .int), (cv, .int), (cr, .int), (cb, .long)]) (A)) ([.ref jd]).toArray s 0 0 A) (F0 m 80 ls []) := by
                      intro   H locs hP hD hS ls hl
                      refine lv_aload_n hx hb d_D_notePartsOfBits_80 rfl (lv_at hl 0 rfl) ?_
                      refine va_get (D := (dC, dI)) (ci := 2) (v := .ref jh) (C := R_D) (T := F_D) (N := 7) hx hb hts (lay_D _) hown hK hP 0 rfl rfl 1 (by decide) (hts _ (List.mem_cons_of_mem _ m_57)) (fun _ h9 => h9) rfl d_D_notePartsOfBits_81 ?_
                      refine lv_iload_n hx hb d_D_notePartsOfBits_84 rfl (lv_at hl 1 rfl) ?_
                      have hPc := hP.sub (ws' := [(jh, .inr (1, [.ref jt, .ref jk, .ref jv, .ref jr, .int (nI n)])), (jk, .inl (ck, 43, .inl K)), (jv, .inl (cv, 43, .inl V)), (jr, .inl (cr, 43, .inl R))]) [1, 2, 3, 4] rfl
                      have hKc := hK.sub (tys' := [(ck, .int), (cv, .int), (cr, .int)]) [0, 1, 2] rfl
                      refine vp_callSi (va_Run.run (va_runVN (As := [.int (nI i)]) (rest := []) ⟨hx, hb, hml, hown, hts⟩ (c_H_isFittingAct l dC dI jh jt jk jv jr n ck cv cr K V R (nI i) (by first | assumption | omega)) ⟨va_cnB 1 hts (g_c big_w m_271) rfl rfl rfl (hN _ (by decide +kernel : (Jvm.Cond.methodLinkNest "PortDrawer" (99 : Nat) ({ cls := "PortDrawer$Harbour", name := "isFittingAct", desc := "(I)Z" } : Jvm.MethodName) "PortDrawer") ∈ NWl)) (hts _ (List.mem_cons_of_mem _ m_2)) (by decide +kernel) ⟨Nat.le_of_ble_eq_true rfl, Nat.le_of_ble_eq_true rfl⟩, (hts _ (List.mem_cons_of_mem _ m_270)), (hts _ (List.mem_cons_of_mem _ ms_18))⟩ (ro_V hPc hKc hN (va_recv hKc hPc (ci := 1) (q0 := 0) rfl rfl)) rfl rfl hl.1 rfl (lv_room (Nat.le_of_ble_eq_true rfl)) d_D_notePartsOfBits_85 ⟨Nat.le_of_ble_eq_true rfl, Nat.le_of_ble_eq_true rfl⟩)) (fun r_7 er_7 => ?_)
                      have er_7 := er_7.symm
                      subst er_7
                      refine lv_if_eq (tgt := 104) hx hb d_D_notePartsOfBits_88 (by decide) (fun c_88 => ?_) (fun c_88 => ?_)
                      · skip
                        have c_88 := bI_f c_88
                        rw [show (p1S K V i (pbL n K V R (zeL B 8) i)) = (pbL n K V R (zeL B 8) (i + 1)) from ((if_neg (by rw [c_88]; decide)).symm)] at hP hD
                        refine lv_iinc (v := nI (i + 1)) (lv' := [(1, .int (nI (i + 1))), (0, .ref jd)]) hx hb d_D_notePartsOfBits_104 hl (k := 1) rfl (nI_1 _) (by decide) rfl (fun ls hl => ?_)
                        refine lv_goto (tgt := 23) hx hb d_D_notePartsOfBits_107 (by decide) ?_
                        exact ih_23 (i + 1) (by omega) (by first | assumption | omega) _ _ (hP.sub (ws' := [(jd, .inr (2, [.long sd, .ref jh, .ref jh2, .ref jg, .ref jb, .ref jy, .long w])), (jh, .inr (1, [.ref jt, .ref jk, .ref jv, .ref jr, .int (nI n)])), (jk, .inl (ck, 43, .inl K)), (jv, .inl (cv, 43, .inl V)), (jr, .inl (cr, 43, .inl R)), (jb, .inl (cb, 8, .inr (.inl (pbL n K V R (zeL B 8) (i + 1)))))]) [0, 1, 2, 3, 4, 5] rfl) (hD.sub (ws' := [(jd, .inr (2, [.long sd, .ref jh, .ref jh2, .ref jg, .ref jb, .ref jy, .long w])), (jh, .inr (1, [.ref jt, .ref jk, .ref jv, .ref jr, .int (nI n)])), (jk, .inl (ck, 43, .inl K)), (jv, .inl (cv, 43, .inl V)), (jr, .inl (cr, 43, .inl R)), (jb, .inl (cb, 8, .inr (.inl (pbL n K V R (zeL B 8) (i + 1)))))]) [0, 1, 2, 3, 4, 5] (by decide) rfl) hS ls (lv_sub (l' := [(0, .ref jd), (1, .int (nI (i + 1)))]) hl [1, 0] rfl)
                      · skip
                        have c_88 := bI_t c_88
                        refine lv_aload_n hx hb d_D_notePartsOfBits_91 rfl (lv_at hl 0 rfl) ?_
                        refine va_get (D := (dC, dI)) (ci := 2) (v := .ref jb) (C := R_D) (T := F_D) (N := 7) hx hb hts (lay_D _) hown hK hP 0 rfl rfl 4 (by decide) (hts _ (List.mem_cons_of_mem _ m_60)) (fun _ h9 => h9) rfl d_D_notePartsOfBits_92 ?_
                        refine lv_bipush (v := nI 7) hx hb d_D_notePartsOfBits_95 (by decide +kernel) ?_
                        refine lv_dup2_11 hx hb d_D_notePartsOfBits_97 rfl rfl ?_
                        refine va_lald hx hb hK hP 5 3 rfl rfl (vp_in_nI (by omega) (by omega)) d_D_notePartsOfBits_98 ?_
                        refine lv_topl (fun w_8 ew_8 => ?_)
                        rw [nI_clamp (by omega)] at ew_8
                        have ew_8 := ew_8.symm
                        subst ew_8
                        refine lv_lconst (v := 1) hx hb d_D_notePartsOfBits_99 (by decide +kernel) ?_
                        refine lv_iload_n hx hb d_D_notePartsOfBits_100 rfl (lv_at hl 1 rfl) ?_
                        refine lv_lshl hx hb d_D_notePartsOfBits_101 rfl ?_
                        refine lv_lor hx hb d_D_notePartsOfBits_102 ?_
                        refine va_last hx hb hK hP hD hS 5 3 rfl rfl (vp_in_nI (by omega) (by omega)) d_D_notePartsOfBits_103 (fun H locs hP hD hS => ?_)
                        rw [nI_clamp (by omega)] at hP hD
                        have hP : va_P (dC, dI) classes [(jd, .inr (2, [.long sd, .ref jh, .ref jh2, .ref jg, .ref jb, .ref jy, .long w])), (jh, .inr (1, [.ref jt, .ref jk, .ref jv, .ref jr, .int (nI n)])), (jk, .inl (ck, 43, .inl K)), (jv, .inl (cv, 43, .inl V)), (jr, .inl (cr, 43, .inl R)), (jb, .inl (cb, 8, .inr (.inl (vp_updL (p1S K V i (pbL n K V R (zeL B 8) i)) 7 (((p1S K V i (pbL n K V R (zeL B 8) i)) 7) ||| (1 <<< ((nI i).toInt64 &&& 63)))))))] H := hP
                        have hD : va_D A [(jd, .inr (2, [.long sd, .ref jh, .ref jh2, .ref jg, .ref jb, .ref jy, .long w])), (jh, .inr (1, [.ref jt, .ref jk, .ref jv, .ref jr, .int (nI n)])), (jk, .inl (ck, 43, .inl K)), (jv, .inl (cv, 43, .inl V)), (jr, .inl (cr, 43, .inl R)), (jb, .inl (cb, 8, .inr (.inl (vp_updL (p1S K V i (pbL n K V R (zeL B 8) i)) 7 (((p1S K V i (pbL n K V R (zeL B 8) i)) 7) ||| (1 <<< ((nI i).toInt64 &&& 63)))))))] := hD
                        rw [show (vp_updL (p1S K V i (pbL n K V R (zeL B 8) i)) 7 (((p1S K V i (pbL n K V R (zeL B 8) i)) 7) ||| (1 <<< ((nI i).toInt64 &&& 63)))) = (pbL n K V R (zeL B 8) (i + 1)) from ((if_pos c_88).symm)] at hP hD
                        refine lv_iinc (v := nI (i + 1)) (lv' := [(1, .int (nI (i + 1))), (0, .ref jd)]) hx hb d_D_notePartsOfBits_104 hl (k := 1) rfl (nI_1 _) (by decide) rfl (fun ls hl => ?_)
                        refine lv_goto (tgt := 23) hx hb d_D_notePartsOfBits_107 (by decide) ?_
                        exact ih_23 (i + 1) (by omega) (by first | assumption | omega) _ _ (hP.sub (ws' := [(jd, .inr (2, [.long sd, .ref jh, .ref jh2, .ref jg, .ref jb, .ref jy, .long w])), (jh, .inr (1, [.ref jt, .ref jk, .ref jv, .ref jr, .int (nI n)])), (jk, .inl (ck, 43, .inl K)), (jv, .inl (cv, 43, .inl V)), (jr, .inl (cr, 43, .inl R)), (jb, .inl (cb, 8, .inr (.inl (pbL n K V R (zeL B 8) (i + 1)))))]) [0, 1, 2, 3, 4, 5] rfl) (hD.sub (ws' := [(jd, .inr (2, [.long sd, .ref jh, .ref jh2, .ref jg, .ref jb, .ref jy, .long w])), (jh, .inr (1, [.ref jt, .ref jk, .ref jv, .ref jr, .int (nI n)])), (jk, .inl (ck, 43, .inl K)), (jv, .inl (cv, 43, .inl V)), (jr, .inl (cr, 43, .inl R)), (jb, .inl (cb, 8, .inr (.inl (pbL n K V R (zeL B 8) (i + 1)))))]) [0, 1, 2, 3, 4, 5] (by decide) rfl) hS ls (lv_sub (l' := [(0, .ref jd), (1, .int (nI (i + 1)))]) hl [1, 0] rfl)
                    exact lp_80 _ _ (hP.sub (ws' := [(jd, .inr (2, [.long sd, .ref jh, .ref jh2, .ref jg, .ref jb, .ref jy, .long w])), (jh, .inr (1, [.ref jt, .ref jk, .ref jv, .ref jr, .int (nI n)])), (jk, .inl (ck, 43, .inl K)), (jv, .inl (cv, 43, .inl V)), (jr, .inl (cr, 43, .inl R)), (jb, .inl (cb, 8, .inr (.inl (p1S K V i (pbL n K V R (zeL B 8) i)))))]) [0, 1, 2, 3, 4, 5] rfl) (hD.sub (ws' := [(jd, .inr (2, [.long sd, .ref jh, .ref jh2, .ref jg, .ref jb, .ref jy, .long w])), (jh, .inr (1, [.ref jt, .ref jk, .ref jv, .ref jr, .int (nI n)])), (jk, .inl (ck, 43, .inl K)), (jv, .inl (cv, 43, .inl V)), (jr, .inl (cr, 43, .inl R)), (jb, .inl (cb, 8, .inr (.inl (p1S K V i (pbL n K V R (zeL B 8) i)))))]) [0, 1, 2, 3, 4, 5] (by decide) rfl) hS ls (lv_sub (l' := [(0, .ref jd), (1, .int (nI i))]) hl [1, 2] rfl)
                  · skip
                    refine lv_aload_n hx hb d_D_notePartsOfBits_68 rfl (lv_at hl 1 rfl) ?_
                    refine va_get (D := (dC, dI)) (ci := 2) (v := .ref jb) (C := R_D) (T := F_D) (N := 7) hx hb hts (lay_D _) hown hK hP 0 rfl rfl 4 (by decide) (hts _ (List.mem_cons_of_mem _ m_60)) (fun _ h9 => h9) rfl d_D_notePartsOfBits_69 ?_
                    refine lv_iload_n hx hb d_D_notePartsOfBits_72 rfl (lv_at hl 0 rfl) ?_
                    refine lv_dup2_11 hx hb d_D_notePartsOfBits_73 rfl rfl ?_
                    refine va_lald hx hb hK hP 5 3 rfl rfl (in_78 c_59 c_65) d_D_notePartsOfBits_74 ?_
                    refine lv_lconst (v := 1) hx hb d_D_notePartsOfBits_75 (by decide +kernel) ?_
                    refine lv_iload_n hx hb d_D_notePartsOfBits_76 rfl (lv_at hl 2 rfl) ?_
                    refine lv_lshl hx hb d_D_notePartsOfBits_77 rfl ?_
                    refine lv_lor hx hb d_D_notePartsOfBits_78 ?_
                    refine va_last hx hb hK hP hD hS 5 3 rfl rfl (in_78 c_59 c_65) d_D_notePartsOfBits_79 (fun H locs hP hD hS => ?_)
                    have hP : va_P (dC, dI) classes [(jd, .inr (2, [.long sd, .ref jh, .ref jh2, .ref jg, .ref jb, .ref jy, .long w])), (jh, .inr (1, [.ref jt, .ref jk, .ref jv, .ref jr, .int (nI n)])), (jk, .inl (ck, 43, .inl K)), (jv, .inl (cv, 43, .inl V)), (jr, .inl (cr, 43, .inl R)), (jb, .inl (cb, 8, .inr (.inl (vp_updL (pbL n K V R (zeL B 8) i) (K i).toNatClampNeg (((pbL n K V R (zeL B 8) i) (K i).toNatClampNeg) ||| (1 <<< ((nI i).toInt64 &&& 63)))))))] H := hP
                    have hD : va_D A [(jd, .inr (2, [.long sd, .ref jh, .ref jh2, .ref jg, .ref jb, .ref jy, .long w])), (jh, .inr (1, [.ref jt, .ref jk, .ref jv, .ref jr, .int (nI n)])), (jk, .inl (ck, 43, .inl K)), (jv, .inl (cv, 43, .inl V)), (jr, .inl (cr, 43, .inl R)), (jb, .inl (cb, 8, .inr (.inl (vp_updL (pbL n K V R (zeL B 8) i) (K i).toNatClampNeg (((pbL n K V R (zeL B 8) i) (K i).toNatClampNeg) ||| (1 <<< ((nI i).toInt64 &&& 63)))))))] := hD
                    rw [show (vp_updL (pbL n K V R (zeL B 8) i) (K i).toNatClampNeg (((pbL n K V R (zeL B 8) i) (K i).toNatClampNeg) ||| (1 <<< ((nI i).toInt64 &&& 63)))) = (p1S K V i (pbL n K V R (zeL B 8) i)) from ((if_pos (by simp [kiB, c_55, c_59, c_65])).symm)] at hP hD
                    have lp_80 : ∀ (H : Heap) (locs : List Loc), va_P (dC, dI) classes [(jd, .inr (2, [.long sd, .ref jh, .ref jh2, .ref jg, .ref jb, .ref jy, .long w])), (jh, .inr (1, [.ref jt, .ref jk, .ref jv, .ref jr, .int (nI n)])), (jk, .inl (ck, 43, .inl K)), (jv, .inl (cv, 43, .inl V)), (jr, .inl (cr, 43, .inl R)), (jb, .inl (cb, 8, .inr (.inl (p1S K V i (pbL n K V R (zeL B 8) i)))))] H → va_D A [(jd, .inr (2, [.long sd, .ref jh, .ref jh2, .ref jg, .ref jb, .ref jy, .long w])), (jh, .inr (1, [.ref jt, .ref jk, .ref jv, .ref jr, .int (nI n)])), (jk, .inl (ck, 43, .inl K)), (jv, .inl (cv, 43, .inl V)), (jr, .inl (cr, 43, .inl R)), (jb, .inl (cb, 8, .inr (.inl (p1S K V i (pbL n K V R (zeL B 8) i)))))] → va_S A s.heap H locs → ∀ (ls : Array Slot), lv_has ls 3 [(0, .ref jd), (1, .int (nI i))] → W p l e (headSpec w_D_notePartsOfBits ({ frames := 3, cells := 0, slots := 0, locals := 64 })).room s m ([.ref jd]).toArray below meth c H locs 0 0 (MQ below (va_Qv (fun (_ : Unit) => True) (fun (u : Unit) => wr_B dC dI (A) [(jd, .inr (2, [.long sd, .ref jh, .ref jh2, .ref jg, .ref jb, .ref jy, .long w])), (jh, .inr (1, [.ref jt, .ref jk, .ref jv, .ref jr, .int (nI n)])), (jk, .inl (ck, 43, .inl K)), (jv, .inl (cv, 43, .inl V)), (jr, .inl (cr, 43, .inl R)), (jb, .inl (cb, 8, .inr (.inl (pbB n K V R B))))] [(ck, .int), (cv, .int), (cr, .int), (cb, .long)]) (A)) ([.ref jd]).toArray s 0 0 A) (F0 m 80 ls []) := by
                      intro   H locs hP hD hS ls hl
                      refine lv_aload_n hx hb d_D_notePartsOfBits_80 rfl (lv_at hl 0 rfl) ?_
                      refine va_get (D := (dC, dI)) (ci := 2) (v := .ref jh) (C := R_D) (T := F_D) (N := 7) hx hb hts (lay_D _) hown hK hP 0 rfl rfl 1 (by decide) (hts _ (List.mem_cons_of_mem _ m_57)) (fun _ h9 => h9) rfl d_D_notePartsOfBits_81 ?_
                      refine lv_iload_n hx hb d_D_notePartsOfBits_84 rfl (lv_at hl 1 rfl) ?_
                      have hPc := hP.sub (ws' := [(jh, .inr (1, [.ref jt, .ref jk, .ref jv, .ref jr, .int (nI n)])), (jk, .inl (ck, 43, .inl K)), (jv, .inl (cv, 43, .inl V)), (jr, .inl (cr, 43, .inl R))]) [1, 2, 3, 4] rfl
                      have hKc := hK.sub (tys' := [(ck, .int), (cv, .int), (cr, .int)]) [0, 1, 2] rfl
                      refine vp_callSi (va_Run.run (va_runVN (As := [.int (nI i)]) (rest := []) ⟨hx, hb, hml, hown, hts⟩ (c_H_isFittingAct l dC dI jh jt jk jv jr n ck cv cr K V R (nI i) (by first | assumption | omega)) ⟨va_cnB 1 hts (g_c big_w m_271) rfl rfl rfl (hN _ (by decide +kernel : (Jvm.Cond.methodLinkNest "PortDrawer" (99 : Nat) ({ cls := "PortDrawer$Harbour", name := "isFittingAct", desc := "(I)Z" } : Jvm.MethodName) "PortDrawer") ∈ NWl)) (hts _ (List.mem_cons_of_mem _ m_2)) (by decide +kernel) ⟨Nat.le_of_ble_eq_true rfl, Nat.le_of_ble_eq_true rfl⟩, (hts _ (List.mem_cons_of_mem _ m_270)), (hts _ (List.mem_cons_of_mem _ ms_18))⟩ (ro_V hPc hKc hN (va_recv hKc hPc (ci := 1) (q0 := 0) rfl rfl)) rfl rfl hl.1 rfl (lv_room (Nat.le_of_ble_eq_true rfl)) d_D_notePartsOfBits_85 ⟨Nat.le_of_ble_eq_true rfl, Nat.le_of_ble_eq_true rfl⟩)) (fun r_9 er_9 => ?_)
                      have er_9 := er_9.symm
                      subst er_9
                      refine lv_if_eq (tgt := 104) hx hb d_D_notePartsOfBits_88 (by decide) (fun c_88 => ?_) (fun c_88 => ?_)
                      · skip
                        have c_88 := bI_f c_88
                        rw [show (p1S K V i (pbL n K V R (zeL B 8) i)) = (pbL n K V R (zeL B 8) (i + 1)) from ((if_neg (by rw [c_88]; decide)).symm)] at hP hD
                        refine lv_iinc (v := nI (i + 1)) (lv' := [(1, .int (nI (i + 1))), (0, .ref jd)]) hx hb d_D_notePartsOfBits_104 hl (k := 1) rfl (nI_1 _) (by decide) rfl (fun ls hl => ?_)
                        refine lv_goto (tgt := 23) hx hb d_D_notePartsOfBits_107 (by decide) ?_
                        exact ih_23 (i + 1) (by omega) (by first | assumption | omega) _ _ (hP.sub (ws' := [(jd, .inr (2, [.long sd, .ref jh, .ref jh2, .ref jg, .ref jb, .ref jy, .long w])), (jh, .inr (1, [.ref jt, .ref jk, .ref jv, .ref jr, .int (nI n)])), (jk, .inl (ck, 43, .inl K)), (jv, .inl (cv, 43, .inl V)), (jr, .inl (cr, 43, .inl R)), (jb, .inl (cb, 8, .inr (.inl (pbL n K V R (zeL B 8) (i + 1)))))]) [0, 1, 2, 3, 4, 5] rfl) (hD.sub (ws' := [(jd, .inr (2, [.long sd, .ref jh, .ref jh2, .ref jg, .ref jb, .ref jy, .long w])), (jh, .inr (1, [.ref jt, .ref jk, .ref jv, .ref jr, .int (nI n)])), (jk, .inl (ck, 43, .inl K)), (jv, .inl (cv, 43, .inl V)), (jr, .inl (cr, 43, .inl R)), (jb, .inl (cb, 8, .inr (.inl (pbL n K V R (zeL B 8) (i + 1)))))]) [0, 1, 2, 3, 4, 5] (by decide) rfl) hS ls (lv_sub (l' := [(0, .ref jd), (1, .int (nI (i + 1)))]) hl [1, 0] rfl)
                      · skip
                        have c_88 := bI_t c_88
                        refine lv_aload_n hx hb d_D_notePartsOfBits_91 rfl (lv_at hl 0 rfl) ?_
                        refine va_get (D := (dC, dI)) (ci := 2) (v := .ref jb) (C := R_D) (T := F_D) (N := 7) hx hb hts (lay_D _) hown hK hP 0 rfl rfl 4 (by decide) (hts _ (List.mem_cons_of_mem _ m_60)) (fun _ h9 => h9) rfl d_D_notePartsOfBits_92 ?_
                        refine lv_bipush (v := nI 7) hx hb d_D_notePartsOfBits_95 (by decide +kernel) ?_
                        refine lv_dup2_11 hx hb d_D_notePartsOfBits_97 rfl rfl ?_
                        refine va_lald hx hb hK hP 5 3 rfl rfl (vp_in_nI (by omega) (by omega)) d_D_notePartsOfBits_98 ?_
                        refine lv_topl (fun w_10 ew_10 => ?_)
                        rw [nI_clamp (by omega)] at ew_10
                        have ew_10 := ew_10.symm
                        subst ew_10
                        refine lv_lconst (v := 1) hx hb d_D_notePartsOfBits_99 (by decide +kernel) ?_
                        refine lv_iload_n hx hb d_D_notePartsOfBits_100 rfl (lv_at hl 1 rfl) ?_
                        refine lv_lshl hx hb d_D_notePartsOfBits_101 rfl ?_
                        refine lv_lor hx hb d_D_notePartsOfBits_102 ?_
                        refine va_last hx hb hK hP hD hS 5 3 rfl rfl (vp_in_nI (by omega) (by omega)) d_D_notePartsOfBits_103 (fun H locs hP hD hS => ?_)
                        rw [nI_clamp (by omega)] at hP hD
                        have hP : va_P (dC, dI) classes [(jd, .inr (2, [.long sd, .ref jh, .ref jh2, .ref jg, .ref jb, .ref jy, .long w])), (jh, .inr (1, [.ref jt, .ref jk, .ref jv, .ref jr, .int (nI n)])), (jk, .inl (ck, 43, .inl K)), (jv, .inl (cv, 43, .inl V)), (jr, .inl (cr, 43, .inl R)), (jb, .inl (cb, 8, .inr (.inl (vp_updL (p1S K V i (pbL n K V R (zeL B 8) i)) 7 (((p1S K V i (pbL n K V R (zeL B 8) i)) 7) ||| (1 <<< ((nI i).toInt64 &&& 63)))))))] H := hP
                        have hD : va_D A [(jd, .inr (2, [.long sd, .ref jh, .ref jh2, .ref jg, .ref jb, .ref jy, .long w])), (jh, .inr (1, [.ref jt, .ref jk, .ref jv, .ref jr, .int (nI n)])), (jk, .inl (ck, 43, .inl K)), (jv, .inl (cv, 43, .inl V)), (jr, .inl (cr, 43, .inl R)), (jb, .inl (cb, 8, .inr (.inl (vp_updL (p1S K V i (pbL n K V R (zeL B 8) i)) 7 (((p1S K V i (pbL n K V R (zeL B 8) i)) 7) ||| (1 <<< ((nI i).toInt64 &&& 63)))))))] := hD
                        rw [show (vp_updL (p1S K V i (pbL n K V R (zeL B 8) i)) 7 (((p1S K V i (pbL n K V R (zeL B 8) i)) 7) ||| (1 <<< ((nI i).toInt64 &&& 63)))) = (pbL n K V R (zeL B 8) (i + 1)) from ((if_pos c_88).symm)] at hP hD
                        refine lv_iinc (v := nI (i + 1)) (lv' := [(1, .int (nI (i + 1))), (0, .ref jd)]) hx hb d_D_notePartsOfBits_104 hl (k := 1) rfl (nI_1 _) (by decide) rfl (fun ls hl => ?_)
                        refine lv_goto (tgt := 23) hx hb d_D_notePartsOfBits_107 (by decide) ?_
                        exact ih_23 (i + 1) (by omega) (by first | assumption | omega) _ _ (hP.sub (ws' := [(jd, .inr (2, [.long sd, .ref jh, .ref jh2, .ref jg, .ref jb, .ref jy, .long w])), (jh, .inr (1, [.ref jt, .ref jk, .ref jv, .ref jr, .int (nI n)])), (jk, .inl (ck, 43, .inl K)), (jv, .inl (cv, 43, .inl V)), (jr, .inl (cr, 43, .inl R)), (jb, .inl (cb, 8, .inr (.inl (pbL n K V R (zeL B 8) (i + 1)))))]) [0, 1, 2, 3, 4, 5] rfl) (hD.sub (ws' := [(jd, .inr (2, [.long sd, .ref jh, .ref jh2, .ref jg, .ref jb, .ref jy, .long w])), (jh, .inr (1, [.ref jt, .ref jk, .ref jv, .ref jr, .int (nI n)])), (jk, .inl (ck, 43, .inl K)), (jv, .inl (cv, 43, .inl V)), (jr, .inl (cr, 43, .inl R)), (jb, .inl (cb, 8, .inr (.inl (pbL n K V R (zeL B 8) (i + 1)))))]) [0, 1, 2, 3, 4, 5] (by decide) rfl) hS ls (lv_sub (l' := [(0, .ref jd), (1, .int (nI (i + 1)))]) hl [1, 0] rfl)
                    exact lp_80 _ _ (hP.sub (ws' := [(jd, .inr (2, [.long sd, .ref jh, .ref jh2, .ref jg, .ref jb, .ref jy, .long w])), (jh, .inr (1, [.ref jt, .ref jk, .ref jv, .ref jr, .int (nI n)])), (jk, .inl (ck, 43, .inl K)), (jv, .inl (cv, 43, .inl V)), (jr, .inl (cr, 43, .inl R)), (jb, .inl (cb, 8, .inr (.inl (p1S K V i (pbL n K V R (zeL B 8) i)))))]) [0, 1, 2, 3, 4, 5] rfl) (hD.sub (ws' := [(jd, .inr (2, [.long sd, .ref jh, .ref jh2, .ref jg, .ref jb, .ref jy, .long w])), (jh, .inr (1, [.ref jt, .ref jk, .ref jv, .ref jr, .int (nI n)])), (jk, .inl (ck, 43, .inl K)), (jv, .inl (cv, 43, .inl V)), (jr, .inl (cr, 43, .inl R)), (jb, .inl (cb, 8, .inr (.inl (p1S K V i (pbL n K V R (zeL B 8) i)))))]) [0, 1, 2, 3, 4, 5] (by decide) rfl) hS ls (lv_sub (l' := [(0, .ref jd), (1, .int (nI i))]) hl [1, 2] rfl)
        exact lp_23 ((n - 0) + 1) 0 (by omega) (by first | assumption | omega) _ _ (hP.sub (ws' := [(jd, .inr (2, [.long sd, .ref jh, .ref jh2, .ref jg, .ref jb, .ref jy, .long w])), (jh, .inr (1, [.ref jt, .ref jk, .ref jv, .ref jr, .int (nI n)])), (jk, .inl (ck, 43, .inl K)), (jv, .inl (cv, 43, .inl V)), (jr, .inl (cr, 43, .inl R)), (jb, .inl (cb, 8, .inr (.inl (pbL n K V R (zeL B 8) 0))))]) [0, 1, 2, 3, 4, 5] rfl) (hD.sub (ws' := [(jd, .inr (2, [.long sd, .ref jh, .ref jh2, .ref jg, .ref jb, .ref jy, .long w])), (jh, .inr (1, [.ref jt, .ref jk, .ref jv, .ref jr, .int (nI n)])), (jk, .inl (ck, 43, .inl K)), (jv, .inl (cv, 43, .inl V)), (jr, .inl (cr, 43, .inl R)), (jb, .inl (cb, 8, .inr (.inl (pbL n K V R (zeL B 8) 0))))]) [0, 1, 2, 3, 4, 5] (by decide) rfl) hS ls (lv_sub (l' := [(0, .ref jd), (1, .int (nI 0))]) hl [1, 0] rfl)
      · skip
        have c_5 := (not_congr (nI_leI (by omega) (by omega))).mp c_5
        refine lv_aload_n hx hb d_D_notePartsOfBits_8 rfl (lv_at hl 0 rfl) ?_
        refine va_get (D := (dC, dI)) (ci := 2) (v := .ref jb) (C := R_D) (T := F_D) (N := 7) hx hb hts (lay_D _) hown hK hP 0 rfl rfl 4 (by decide) (hts _ (List.mem_cons_of_mem _ m_60)) (fun _ h9 => h9) rfl d_D_notePartsOfBits_9 ?_
        refine lv_iload_n hx hb d_D_notePartsOfBits_12 rfl (lv_at hl 1 rfl) ?_
        refine lv_lconst (v := 0) hx hb d_D_notePartsOfBits_13 (by decide +kernel) ?_
        refine va_last hx hb hK hP hD hS 5 3 rfl rfl (vp_in_nI (by omega) (by omega)) d_D_notePartsOfBits_14 (fun H locs hP hD hS => ?_)
        rw [nI_clamp (by omega)] at hP hD
        have hP : va_P (dC, dI) classes [(jd, .inr (2, [.long sd, .ref jh, .ref jh2, .ref jg, .ref jb, .ref jy, .long w])), (jh, .inr (1, [.ref jt, .ref jk, .ref jv, .ref jr, .int (nI n)])), (jk, .inl (ck, 43, .inl K)), (jv, .inl (cv, 43, .inl V)), (jr, .inl (cr, 43, .inl R)), (jb, .inl (cb, 8, .inr (.inl (vp_updL (zeL B i) i 0))))] H := hP
        have hD : va_D A [(jd, .inr (2, [.long sd, .ref jh, .ref jh2, .ref jg, .ref jb, .ref jy, .long w])), (jh, .inr (1, [.ref jt, .ref jk, .ref jv, .ref jr, .int (nI n)])), (jk, .inl (ck, 43, .inl K)), (jv, .inl (cv, 43, .inl V)), (jr, .inl (cr, 43, .inl R)), (jb, .inl (cb, 8, .inr (.inl (vp_updL (zeL B i) i 0))))] := hD
        refine lv_iinc (v := nI (i + 1)) (lv' := [(1, .int (nI (i + 1))), (0, .ref jd)]) hx hb d_D_notePartsOfBits_15 hl (k := 1) rfl (nI_1 _) (by decide) rfl (fun ls hl => ?_)
        refine lv_goto (tgt := 2) hx hb d_D_notePartsOfBits_18 (by decide) ?_
        exact ih_2 (i + 1) (by omega) (by first | assumption | omega) _ _ (hP.sub (ws' := [(jd, .inr (2, [.long sd, .ref jh, .ref jh2, .ref jg, .ref jb, .ref jy, .long w])), (jh, .inr (1, [.ref jt, .ref jk, .ref jv, .ref jr, .int (nI n)])), (jk, .inl (ck, 43, .inl K)), (jv, .inl (cv, 43, .inl V)), (jr, .inl (cr, 43, .inl R)), (jb, .inl (cb, 8, .inr (.inl (zeL B (i + 1)))))]) [0, 1, 2, 3, 4, 5] rfl) (hD.sub (ws' := [(jd, .inr (2, [.long sd, .ref jh, .ref jh2, .ref jg, .ref jb, .ref jy, .long w])), (jh, .inr (1, [.ref jt, .ref jk, .ref jv, .ref jr, .int (nI n)])), (jk, .inl (ck, 43, .inl K)), (jv, .inl (cv, 43, .inl V)), (jr, .inl (cr, 43, .inl R)), (jb, .inl (cb, 8, .inr (.inl (zeL B (i + 1)))))]) [0, 1, 2, 3, 4, 5] (by decide) rfl) hS ls (lv_sub (l' := [(0, .ref jd), (1, .int (nI (i + 1)))]) hl [1, 0] rfl)
  exact lp_2 ((8 - 0) + 1) 0 (by omega) (by first | assumption | omega) _ _ (hP.sub (ws' := [(jd, .inr (2, [.long sd, .ref jh, .ref jh2, .ref jg, .ref jb, .ref jy, .long w])), (jh, .inr (1, [.ref jt, .ref jk, .ref jv, .ref jr, .int (nI n)])), (jk, .inl (ck, 43, .inl K)), (jv, .inl (cv, 43, .inl V)), (jr, .inl (cr, 43, .inl R)), (jb, .inl (cb, 8, .inr (.inl (zeL B 0))))]) [0, 1, 2, 3, 4, 5] rfl) (hD.sub (ws' := [(jd, .inr (2, [.long sd, .ref jh, .ref jh2, .ref jg, .ref jb, .ref jy, .long w])), (jh, .inr (1, [.ref jt, .ref jk, .ref jv, .ref jr, .int (nI n)])), (jk, .inl (ck, 43, .inl K)), (jv, .inl (cv, 43, .inl V)), (jr, .inl (cr, 43, .inl R)), (jb, .inl (cb, 8, .inr (.inl (zeL B 0))))]) [0, 1, 2, 3, 4, 5] (by decide) rfl) hS ls (lv_sub (l' := [(0, .ref jd), (1, .int (nI 0))]) hl [1, 0] rfl)
set_option maxHeartbeats 4000000 in
set_option maxRecDepth 100000 in
/-- shorter -/
theorem c_D_shorter (l : Launch) (dC : Nat → ClassId) (dI : Nat → Nat → Nat) (jd jh jh2 jg jb jy : Nat) (sd w : Int64) (jt jk jv jr n : Nat) (cg cb cy : ClassId) (G B : Nat → Int64) (S : Nat → Bool) (hn : n ≤ 43) (sz : Nat) : Met l y_D_shorter w_D_shorter ({ frames := 3, cells := 0, slots := 0, locals := 69 }) (wr_P dC dI [.ref jd] [(jd, .inr (2, [.long sd, .ref jh, .ref jh2, .ref jg, .ref jb, .ref jy, .long w])), (jh, .inr (1, [.ref jt, .ref jk, .ref jv, .ref jr, .int (nI n)])), (jg, .inl (cg, 43, .inr (.inl G))), (jb, .inl (cb, 8, .inr (.inl B))), (jy, .inl (cy, 256, .inl (bF S)))] [(cg, .long), (cb, .long), (cy, .boolean)] sz) (va_Qi (fun (r : Int32) (_ : Unit) => r = nI (cnt (wbit (shO S G B n w)) 64)) (fun (u : Unit) => wr_B dC dI (va_A [(jd, .inr (2, [.long sd, .ref jh, .ref jh2, .ref jg, .ref jb, .ref jy, .long w])), (jh, .inr (1, [.ref jt, .ref jk, .ref jv, .ref jr, .int (nI n)])), (jg, .inl (cg, 43, .inr (.inl G))), (jb, .inl (cb, 8, .inr (.inl B))), (jy, .inl (cy, 256, .inl (bF S)))] sz) [(jd, .inr (2, [.long sd, .ref jh, .ref jh2, .ref jg, .ref jb, .ref jy, .long (shO S G B n w)])), (jh, .inr (1, [.ref jt, .ref jk, .ref jv, .ref jr, .int (nI n)])), (jg, .inl (cg, 43, .inr (.inl G))), (jb, .inl (cb, 8, .inr (.inl B))), (jy, .inl (cy, 256, .inl (bF S)))] [(cg, .long), (cb, .long), (cy, .boolean)]) (va_A [(jd, .inr (2, [.long sd, .ref jh, .ref jh2, .ref jg, .ref jb, .ref jy, .long w])), (jh, .inr (1, [.ref jt, .ref jk, .ref jv, .ref jr, .int (nI n)])), (jg, .inl (cg, 43, .inr (.inl G))), (jb, .inl (cb, 8, .inr (.inl B))), (jy, .inl (cy, 256, .inl (bF S)))] sz)) 0 0 (va_A [(jd, .inr (2, [.long sd, .ref jh, .ref jh2, .ref jg, .ref jb, .ref jy, .long w])), (jh, .inr (1, [.ref jt, .ref jk, .ref jv, .ref jr, .int (nI n)])), (jg, .inl (cg, 43, .inr (.inl G))), (jb, .inl (cb, 8, .inr (.inl B))), (jy, .inl (cy, 256, .inl (bF S)))] sz) := by
  refine Met.ofW (cc := b_D_shorter) (maxL := 3) (ret := (Option.some Jvm.ClassFile.FieldType.int)) (by decide) rfl ?_
  intro p e s m args below meth c s₁ B0 hml hv0
  obtain ⟨rfl, hsz, hP, hK, hD0, hN⟩ := hv0
  have hx := B0.exec
  have hb := B0.bytes
  have hr := B0.returns
  have hts := atoms_spec (ws := w_D_shorter) B0.pre
  have hown : s.vm.findClass R_D = some m.cls := findClass_of_methodNamed B0.named
  have hlocks := B0.notSynchronized
  subst hsz
  have hD := hD0.self (sz := s.heap.size)
  generalize hAe : va_A [(jd, .inr (2, [.long sd, .ref jh, .ref jh2, .ref jg, .ref jb, .ref jy, .long w])), (jh, .inr (1, [.ref jt, .ref jk, .ref jv, .ref jr, .int (nI n)])), (jg, .inl (cg, 43, .inr (.inl G))), (jb, .inl (cb, 8, .inr (.inl B))), (jy, .inl (cy, 256, .inl (bF S)))] s.heap.size = A at hD ⊢
  have hA : ∀ q : Nat, s.heap.size ≤ q → A q := fun q h => by rw [← hAe]; exact Or.inr h
  have hS : va_S A s.heap s.heap [] := va_S.rf
  have hP : va_P (dC, dI) classes [(jd, .inr (2, [.long sd, .ref jh, .ref jh2, .ref jg, .ref jb, .ref jy, .long w])), (jh, .inr (1, [.ref jt, .ref jk, .ref jv, .ref jr, .int (nI n)])), (jg, .inl (cg, 43, .inr (.inl G))), (jb, .inl (cb, 8, .inr (.inl B))), (jy, .inl (cy, 256, .inl (bF S)))] s.heap := hP
  have hl := lv_entry ([.ref jd]) (n := 3) (Nat.le_of_ble_eq_true rfl)
  rw [lg_entry_eq]
  generalize (lg_sl ([.ref jd]) ++ List.replicate (3 - (lg_sl ([.ref jd])).length) Slot.unset).toArray = ls at hl ⊢
  have hl : lv_has ls 3 [(0, .ref jd)] := hl
  refine lv_aload_n hx hb d_D_shorter_0 rfl (lv_at hl 0 rfl) ?_
  refine lv_aload_n hx hb d_D_shorter_1 rfl (lv_at hl 0 rfl) ?_
  refine va_get (D := (dC, dI)) (ci := 2) (v := .long w) (C := R_D) (T := F_D) (N := 7) hx hb hts (lay_D _) hown hK hP 0 rfl rfl 6 (by decide) (hts _ (List.mem_cons_of_mem _ m_62)) (fun _ h9 => h9) rfl d_D_shorter_2 ?_
  have hPc := hP.sub (ws' := [(jd, .inr (2, [.long sd, .ref jh, .ref jh2, .ref jg, .ref jb, .ref jy, .long w])), (jb, .inl (cb, 8, .inr (.inl B))), (jy, .inl (cy, 256, .inl (bF S)))]) [0, 3, 4] rfl
  have hKc := hK.sub (tys' := [(cb, .long), (cy, .boolean)]) [1, 2] rfl
  refine vp_callSi (W.runV (As := [.long w]) (rest := []) ⟨hx, hb, hml, hown, hts⟩ (c_D_staysWith l dC dI jd jh jh2 jg jb jy sd w cb cy B S w) (cwV 1 hts (g_V big_w m_96 m_98 ms_1 m_1 m_99) rfl rfl rfl (by decide +kernel) ⟨Nat.le_of_ble_eq_true rfl, Nat.le_of_ble_eq_true rfl⟩) (ro_V hPc hKc hN (va_recv hKc hPc (ci := 2) (q0 := 0) rfl rfl)) rfl rfl hl.1 rfl (lv_room (Nat.le_of_ble_eq_true rfl)) d_D_shorter_5 ⟨Nat.le_of_ble_eq_true rfl, Nat.le_of_ble_eq_true rfl⟩) (fun r_1 er_1 => ?_)
  have er_1 := er_1.symm
  subst er_1
  refine lv_if_ne (tgt := 27) hx hb d_D_shorter_8 (by decide) (fun c_8 => ?_) (fun c_8 => ?_)
  · skip
    have c_8 := bI_t c_8
    refine lv_iconst (v := nI 0) hx hb d_D_shorter_27 (by decide +kernel) ?_
    refine lv_istore_n (lv' := [(1, .int (nI 0)), (0, .ref jd)]) hx hb d_D_shorter_28 rfl hl (by decide) rfl (fun ls hl => ?_)
    have lp_29 : ∀ (k9_29 : Nat), ∀ (r : Nat) (v : Int64), 43 - r < k9_29 → (r ≤ 43) → (shW S G B n (43 - r) v = shW S G B n 43 w) → ∀ (H : Heap) (locs : List Loc), va_P (dC, dI) classes [(jd, .inr (2, [.long sd, .ref jh, .ref jh2, .ref jg, .ref jb, .ref jy, .long v])), (jh, .inr (1, [.ref jt, .ref jk, .ref jv, .ref jr, .int (nI n)])), (jg, .inl (cg, 43, .inr (.inl G))), (jb, .inl (cb, 8, .inr (.inl B))), (jy, .inl (cy, 256, .inl (bF S)))] H → va_D A [(jd, .inr (2, [.long sd, .ref jh, .ref jh2, .ref jg, .ref jb, .ref jy, .long v])), (jh, .inr (1, [.ref jt, .ref jk, .ref jv, .ref jr, .int (nI n)])), (jg, .inl (cg, 43, .inr (.inl G))), (jb, .inl (cb, 8, .inr (.inl B))), (jy, .inl (cy, 256, .inl (bF S)))] → va_S A s.heap H locs → ∀ (ls : Array Slot), lv_has ls 3 [(0, .ref jd), (1, .int (nI r))] → W p l e (headSpec w_D_shorter ({ frames := 3, cells := 0, slots := 0, locals := 69 })).room s m ([.ref jd]).toArray below meth c H locs 0 0 (MQ below (va_Qi (fun (r : Int32) (_ : Unit) => r = nI (cnt (wbit (shO S G B n w)) 64)) (fun (u : Unit) => wr_B dC dI (A) [(jd, .inr (2, [.long sd, .ref jh, .ref jh2, .ref jg, .ref jb, .ref jy, .long (shO S G B n w)])), (jh, .inr (1, [.ref jt, .ref jk, .ref jv, .ref jr, .int (nI n)])), (jg, .inl (cg, 43, .inr (.inl G))), (jb, .inl (cb, 8, .inr (.inl B))), (jy, .inl (cy, 256, .inl (bF S)))] [(cg, .long), (cb, .long), (cy, .boolean)]) (A)) ([.ref jd]).toArray s 0 0 A) (F0 m 29 ls []) := by
      intro k9_29
      induction k9_29 with
      | zero =>
        intro r v hk9
        exact absurd hk9 (Nat.not_lt_zero _)
      | succ k9_29 ih_29 =>
        intro r v hk9_29 hr9 hsh H locs hP hD hS ls hl
        refine lv_iload_n hx hb d_D_shorter_29 rfl (lv_at hl 1 rfl) ?_
        refine lv_bipush (v := nI 43) hx hb d_D_shorter_30 (by decide +kernel) ?_
        refine lv_icmp_ge (tgt := 63) hx hb d_D_shorter_32 (by decide) (fun c_32 => ?_) (fun c_32 => ?_)
        · skip
          have c_32 := (nI_leI (by omega) (by omega)).mp c_32
          have ev : v = shO S G B n w := shO_v c_8 hsh (Or.inl (by omega)) hn
          refine lv_aload_n hx hb d_D_shorter_63 rfl (lv_at hl 0 rfl) ?_
          refine va_get (D := (dC, dI)) (ci := 2) (v := .long v) (C := R_D) (T := F_D) (N := 7) hx hb hts (lay_D _) hown hK hP 0 rfl rfl 6 (by decide) (hts _ (List.mem_cons_of_mem _ m_62)) (fun _ h9 => h9) rfl d_D_shorter_64 ?_
          have hPc := hP.sub (ws' := []) [] rfl
          have hKc := hK.sub (tys' := []) [] rfl
          refine vp_callSi (W.runS (As := [.long v]) (rest := []) ⟨hx, hb, hml, hown, hts⟩ (c_J_bitCount l dC dI v) (va_cwS 1 hts (g_S big_w m_104 m_105 m_10 m_106) rfl rfl rfl (by decide +kernel) ⟨Nat.le_of_ble_eq_true rfl, Nat.le_of_ble_eq_true rfl⟩) (ro_S hPc hKc hN) rfl rfl hl.1 rfl (lv_room (Nat.le_of_ble_eq_true rfl)) d_D_shorter_67 ⟨Nat.le_of_ble_eq_true rfl, Nat.le_of_ble_eq_true rfl⟩) (fun r_2 er_2 => ?_)
          have er_2 := er_2.symm
          subst er_2
          rw [ev] at hP hD
          have hP9 := hP.sub (ws' := [(jd, .inr (2, [.long sd, .ref jh, .ref jh2, .ref jg, .ref jb, .ref jy, .long (shO S G B n w)])), (jh, .inr (1, [.ref jt, .ref jk, .ref jv, .ref jr, .int (nI n)])), (jg, .inl (cg, 43, .inr (.inl G))), (jb, .inl (cb, 8, .inr (.inl B))), (jy, .inl (cy, 256, .inl (bF S)))]) [0, 1, 2, 3, 4] rfl
          have hD9 := hD.sub (ws' := [(jd, .inr (2, [.long sd, .ref jh, .ref jh2, .ref jg, .ref jb, .ref jy, .long (shO S G B n w)])), (jh, .inr (1, [.ref jt, .ref jk, .ref jv, .ref jr, .int (nI n)])), (jg, .inl (cg, 43, .inr (.inl G))), (jb, .inl (cb, 8, .inr (.inl B))), (jy, .inl (cy, 256, .inl (bF S)))]) [0, 1, 2, 3, 4] (by decide) rfl
          have hK9 := hK.sub (tys' := [(cg, .long), (cb, .long), (cy, .boolean)]) [0, 1, 2] rfl
          exact W.iret (v := nI (cnt (wbit v) 64)) hx hb hr (fun t ht hW => ⟨⟨nI (cnt (wbit v) 64), (), rfl, (by rw [ev]), by rw [ht]; exact hP9, va_K.moved hW.alike hK9, hD9⟩, hS.F ht⟩) hS.2.2 d_D_shorter_70
        · skip
          have c_32 := (not_congr (nI_leI (by omega) (by omega))).mp c_32
          refine lv_aload_n hx hb d_D_shorter_35 rfl (lv_at hl 0 rfl) ?_
          have hPc := hP.sub (ws' := [(jd, .inr (2, [.long sd, .ref jh, .ref jh2, .ref jg, .ref jb, .ref jy, .long v])), (jh, .inr (1, [.ref jt, .ref jk, .ref jv, .ref jr, .int (nI n)])), (jg, .inl (cg, 43, .inr (.inl G))), (jb, .inl (cb, 8, .inr (.inl B))), (jy, .inl (cy, 256, .inl (bF S)))]) [0, 1, 2, 3, 4] rfl
          have hKc := hK.sub (tys' := [(cg, .long), (cb, .long), (cy, .boolean)]) [0, 1, 2] rfl
          refine vp_callSi (W.runV (As := []) (rest := []) ⟨hx, hb, hml, hown, hts⟩ (c_D_firstThatMayGo l dC dI jd jh jh2 jg jb jy sd v jt jk jv jr n cg cb cy G B S (by first | assumption | omega)) (cwV 0 hts (g_V big_w m_110 m_112 ms_3 m_1 m_113) rfl rfl rfl (by decide +kernel) ⟨Nat.le_of_ble_eq_true rfl, Nat.le_of_ble_eq_true rfl⟩) (ro_V hPc hKc hN (va_recv hKc hPc (ci := 2) (q0 := 0) rfl rfl)) rfl rfl hl.1 rfl (lv_room (Nat.le_of_ble_eq_true rfl)) d_D_shorter_36 ⟨Nat.le_of_ble_eq_true rfl, Nat.le_of_ble_eq_true rfl⟩) (fun r_3 er_3 => ?_)
          have er_3 := er_3.symm
          subst er_3
          refine lv_istore_n (lv' := [(2, .int (oI (fgO S G B n v))), (0, .ref jd), (1, .int (nI r))]) hx hb d_D_shorter_39 rfl hl (by decide) rfl (fun ls hl => ?_)
          refine lv_iload_n hx hb d_D_shorter_40 rfl (lv_at hl 0 rfl) ?_
          refine lv_iconst (v := (-1)) hx hb d_D_shorter_41 (by decide +kernel) ?_
          refine lv_icmp_ne (tgt := 48) hx hb d_D_shorter_42 (by decide) (fun c_42 => ?_) (fun c_42 => ?_)
          · skip
            obtain ⟨i, hi9, ho9⟩ := fg_some c_42
            rw [show oI (fgO S G B n v) = nI i from (by rw [ho9]; rfl)] at hl
            refine lv_aload_n hx hb d_D_shorter_48 rfl (lv_at hl 1 rfl) ?_
            refine lv_aload_n hx hb d_D_shorter_49 rfl (lv_at hl 1 rfl) ?_
            refine lv_iload_n hx hb d_D_shorter_50 rfl (lv_at hl 0 rfl) ?_
            have hPc := hP.sub (ws' := [(jd, .inr (2, [.long sd, .ref jh, .ref jh2, .ref jg, .ref jb, .ref jy, .long v])), (jg, .inl (cg, 43, .inr (.inl G)))]) [0, 2] rfl
            have hKc := hK.sub (tys' := [(cg, .long)]) [0] rfl
            refine vp_callSl (W.runV (As := [.int (nI i)]) (rest := [.ref jd]) ⟨hx, hb, hml, hown, hts⟩ (c_D_leftWithout l dC dI jd jh jh2 jg jb jy sd v cg G i (by first | assumption | omega)) (cwV 1 hts (g_V big_w m_117 m_119 ms_4 m_1 m_120) rfl rfl rfl (by decide +kernel) ⟨Nat.le_of_ble_eq_true rfl, Nat.le_of_ble_eq_true rfl⟩) (ro_V hPc hKc hN (va_recv hKc hPc (ci := 2) (q0 := 0) rfl rfl)) rfl rfl hl.1 rfl (lv_room (Nat.le_of_ble_eq_true rfl)) d_D_shorter_51 ⟨Nat.le_of_ble_eq_true rfl, Nat.le_of_ble_eq_true rfl⟩) (fun r_4 er_4 => ?_)
            have er_4 := er_4.symm
            subst er_4
            refine va_put (D := (dC, dI)) (ci := 2) (v := .long (noW v (G i))) (ty := .long) (C := R_D) (T := F_D) (N := 7) hx hb hts (lay_D _) ft_D tok_D nok_D hown hK hP hD hS 0 rfl rfl 6 (by decide) (hts _ (List.mem_cons_of_mem _ m_62)) (fun _ h9 => h9) rfl (by decide +kernel) rfl rfl (Nat.le_of_ble_eq_true rfl) d_D_shorter_54 (fun H locs hP hD hS => ?_)
            have hP : va_P (dC, dI) classes [(jd, .inr (2, [.long sd, .ref jh, .ref jh2, .ref jg, .ref jb, .ref jy, .long (noW v (G i))])), (jh, .inr (1, [.ref jt, .ref jk, .ref jv, .ref jr, .int (nI n)])), (jg, .inl (cg, 43, .inr (.inl G))), (jb, .inl (cb, 8, .inr (.inl B))), (jy, .inl (cy, 256, .inl (bF S)))] H := hP
            have hD : va_D A [(jd, .inr (2, [.long sd, .ref jh, .ref jh2, .ref jg, .ref jb, .ref jy, .long (noW v (G i))])), (jh, .inr (1, [.ref jt, .ref jk, .ref jv, .ref jr, .int (nI n)])), (jg, .inl (cg, 43, .inr (.inl G))), (jb, .inl (cb, 8, .inr (.inl B))), (jy, .inl (cy, 256, .inl (bF S)))] := hD
            refine lv_iinc (v := nI (r + 1)) (lv' := [(1, .int (nI (r + 1))), (2, .int (nI i)), (0, .ref jd)]) hx hb d_D_shorter_57 hl (k := 2) rfl (nI_1 _) (by decide) rfl (fun ls hl => ?_)
            refine lv_goto (tgt := 29) hx hb d_D_shorter_60 (by decide) ?_
            exact ih_29 (r + 1) (noW v (G i)) (by omega) (by omega) ((shW_s (by omega) ho9).symm.trans hsh) _ _ (hP.sub (ws' := [(jd, .inr (2, [.long sd, .ref jh, .ref jh2, .ref jg, .ref jb, .ref jy, .long (noW v (G i))])), (jh, .inr (1, [.ref jt, .ref jk, .ref jv, .ref jr, .int (nI n)])), (jg, .inl (cg, 43, .inr (.inl G))), (jb, .inl (cb, 8, .inr (.inl B))), (jy, .inl (cy, 256, .inl (bF S)))]) [0, 1, 2, 3, 4] rfl) (hD.sub (ws' := [(jd, .inr (2, [.long sd, .ref jh, .ref jh2, .ref jg, .ref jb, .ref jy, .long (noW v (G i))])), (jh, .inr (1, [.ref jt, .ref jk, .ref jv, .ref jr, .int (nI n)])), (jg, .inl (cg, 43, .inr (.inl G))), (jb, .inl (cb, 8, .inr (.inl B))), (jy, .inl (cy, 256, .inl (bF S)))]) [0, 1, 2, 3, 4] (by decide) rfl) hS ls (lv_sub (l' := [(0, .ref jd), (1, .int (nI (r + 1)))]) hl [2, 0] rfl)
          · skip
            have ev : v = shO S G B n w := shO_v c_8 hsh (Or.inr c_42) hn
            refine lv_goto (tgt := 63) hx hb d_D_shorter_45 (by decide) ?_
            refine lv_aload_n hx hb d_D_shorter_63 rfl (lv_at hl 1 rfl) ?_
            refine va_get (D := (dC, dI)) (ci := 2) (v := .long v) (C := R_D) (T := F_D) (N := 7) hx hb hts (lay_D _) hown hK hP 0 rfl rfl 6 (by decide) (hts _ (List.mem_cons_of_mem _ m_62)) (fun _ h9 => h9) rfl d_D_shorter_64 ?_
            have hPc := hP.sub (ws' := []) [] rfl
            have hKc := hK.sub (tys' := []) [] rfl
            refine vp_callSi (W.runS (As := [.long v]) (rest := []) ⟨hx, hb, hml, hown, hts⟩ (c_J_bitCount l dC dI v) (va_cwS 1 hts (g_S big_w m_104 m_105 m_10 m_106) rfl rfl rfl (by decide +kernel) ⟨Nat.le_of_ble_eq_true rfl, Nat.le_of_ble_eq_true rfl⟩) (ro_S hPc hKc hN) rfl rfl hl.1 rfl (lv_room (Nat.le_of_ble_eq_true rfl)) d_D_shorter_67 ⟨Nat.le_of_ble_eq_true rfl, Nat.le_of_ble_eq_true rfl⟩) (fun r_5 er_5 => ?_)
            have er_5 := er_5.symm
            subst er_5
            rw [ev] at hP hD
            have hP9 := hP.sub (ws' := [(jd, .inr (2, [.long sd, .ref jh, .ref jh2, .ref jg, .ref jb, .ref jy, .long (shO S G B n w)])), (jh, .inr (1, [.ref jt, .ref jk, .ref jv, .ref jr, .int (nI n)])), (jg, .inl (cg, 43, .inr (.inl G))), (jb, .inl (cb, 8, .inr (.inl B))), (jy, .inl (cy, 256, .inl (bF S)))]) [0, 1, 2, 3, 4] rfl
            have hD9 := hD.sub (ws' := [(jd, .inr (2, [.long sd, .ref jh, .ref jh2, .ref jg, .ref jb, .ref jy, .long (shO S G B n w)])), (jh, .inr (1, [.ref jt, .ref jk, .ref jv, .ref jr, .int (nI n)])), (jg, .inl (cg, 43, .inr (.inl G))), (jb, .inl (cb, 8, .inr (.inl B))), (jy, .inl (cy, 256, .inl (bF S)))]) [0, 1, 2, 3, 4] (by decide) rfl
            have hK9 := hK.sub (tys' := [(cg, .long), (cb, .long), (cy, .boolean)]) [0, 1, 2] rfl
            exact W.iret (v := nI (cnt (wbit v) 64)) hx hb hr (fun t ht hW => ⟨⟨nI (cnt (wbit v) 64), (), rfl, (by rw [ev]), by rw [ht]; exact hP9, va_K.moved hW.alike hK9, hD9⟩, hS.F ht⟩) hS.2.2 d_D_shorter_70
    exact lp_29 ((43 - 0) + 1) 0 w (by omega) (by omega) rfl _ _ (hP.sub (ws' := [(jd, .inr (2, [.long sd, .ref jh, .ref jh2, .ref jg, .ref jb, .ref jy, .long w])), (jh, .inr (1, [.ref jt, .ref jk, .ref jv, .ref jr, .int (nI n)])), (jg, .inl (cg, 43, .inr (.inl G))), (jb, .inl (cb, 8, .inr (.inl B))), (jy, .inl (cy, 256, .inl (bF S)))]) [0, 1, 2, 3, 4] rfl) (hD.sub (ws' := [(jd, .inr (2, [.long sd, .ref jh, .ref jh2, .ref jg, .ref jb, .ref jy, .long w])), (jh, .inr (1, [.ref jt, .ref jk, .ref jv, .ref jr, .int (nI n)])), (jg, .inl (cg, 43, .inr (.inl G))), (jb, .inl (cb, 8, .inr (.inl B))), (jy, .inl (cy, 256, .inl (bF S)))]) [0, 1, 2, 3, 4] (by decide) rfl) hS ls (lv_sub (l' := [(0, .ref jd), (1, .int (nI 0))]) hl [1, 0] rfl)
  · skip
    have c_8 := bI_f c_8
    have ew : allW n = shO S G B n w := (if_neg (by rw [c_8]; decide)).symm
    refine lv_aload_n hx hb d_D_shorter_11 rfl (lv_at hl 0 rfl) ?_
    refine lv_aload_n hx hb d_D_shorter_12 rfl (lv_at hl 0 rfl) ?_
    have hPc := hP.sub (ws' := [(jd, .inr (2, [.long sd, .ref jh, .ref jh2, .ref jg, .ref jb, .ref jy, .long w])), (jh, .inr (1, [.ref jt, .ref jk, .ref jv, .ref jr, .int (nI n)]))]) [0, 1] rfl
    have hKc := hK.sub (tys' := []) [] rfl
    refine vp_callSl (W.runV (As := []) (rest := [.ref jd]) ⟨hx, hb, hml, hown, hts⟩ (c_D_allParts l dC dI jd jh jh2 jg jb jy sd w jt jk jv jr n) (cwV 0 hts (g_V big_w m_100 m_102 ms_2 m_1 m_103) rfl rfl rfl (by decide +kernel) ⟨Nat.le_of_ble_eq_true rfl, Nat.le_of_ble_eq_true rfl⟩) (ro_V hPc hKc hN (va_recv hKc hPc (ci := 2) (q0 := 0) rfl rfl)) rfl rfl hl.1 rfl (lv_room (Nat.le_of_ble_eq_true rfl)) d_D_shorter_13 ⟨Nat.le_of_ble_eq_true rfl, Nat.le_of_ble_eq_true rfl⟩) (fun r_6 er_6 => ?_)
    have er_6 := er_6.symm
    subst er_6
    refine va_put (D := (dC, dI)) (ci := 2) (v := .long (allW n)) (ty := .long) (C := R_D) (T := F_D) (N := 7) hx hb hts (lay_D _) ft_D tok_D nok_D hown hK hP hD hS 0 rfl rfl 6 (by decide) (hts _ (List.mem_cons_of_mem _ m_62)) (fun _ h9 => h9) rfl (by decide +kernel) rfl rfl (Nat.le_of_ble_eq_true rfl) d_D_shorter_16 (fun H locs hP hD hS => ?_)
    have hP : va_P (dC, dI) classes [(jd, .inr (2, [.long sd, .ref jh, .ref jh2, .ref jg, .ref jb, .ref jy, .long (allW n)])), (jh, .inr (1, [.ref jt, .ref jk, .ref jv, .ref jr, .int (nI n)])), (jg, .inl (cg, 43, .inr (.inl G))), (jb, .inl (cb, 8, .inr (.inl B))), (jy, .inl (cy, 256, .inl (bF S)))] H := hP
    have hD : va_D A [(jd, .inr (2, [.long sd, .ref jh, .ref jh2, .ref jg, .ref jb, .ref jy, .long (allW n)])), (jh, .inr (1, [.ref jt, .ref jk, .ref jv, .ref jr, .int (nI n)])), (jg, .inl (cg, 43, .inr (.inl G))), (jb, .inl (cb, 8, .inr (.inl B))), (jy, .inl (cy, 256, .inl (bF S)))] := hD
    refine lv_aload_n hx hb d_D_shorter_19 rfl (lv_at hl 0 rfl) ?_
    refine va_get (D := (dC, dI)) (ci := 2) (v := .long (allW n)) (C := R_D) (T := F_D) (N := 7) hx hb hts (lay_D _) hown hK hP 0 rfl rfl 6 (by decide) (hts _ (List.mem_cons_of_mem _ m_62)) (fun _ h9 => h9) rfl d_D_shorter_20 ?_
    have hPc := hP.sub (ws' := []) [] rfl
    have hKc := hK.sub (tys' := []) [] rfl
    refine vp_callSi (W.runS (As := [.long (allW n)]) (rest := []) ⟨hx, hb, hml, hown, hts⟩ (c_J_bitCount l dC dI (allW n)) (va_cwS 1 hts (g_S big_w m_104 m_105 m_10 m_106) rfl rfl rfl (by decide +kernel) ⟨Nat.le_of_ble_eq_true rfl, Nat.le_of_ble_eq_true rfl⟩) (ro_S hPc hKc hN) rfl rfl hl.1 rfl (lv_room (Nat.le_of_ble_eq_true rfl)) d_D_shorter_23 ⟨Nat.le_of_ble_eq_true rfl, Nat.le_of_ble_eq_true rfl⟩) (fun r_7 er_7 => ?_)
    have er_7 := er_7.symm
    subst er_7
    rw [ew] at hP hD
    have hP9 := hP.sub (ws' := [(jd, .inr (2, [.long sd, .ref jh, .ref jh2, .ref jg, .ref jb, .ref jy, .long (shO S G B n w)])), (jh, .inr (1, [.ref jt, .ref jk, .ref jv, .ref jr, .int (nI n)])), (jg, .inl (cg, 43, .inr (.inl G))), (jb, .inl (cb, 8, .inr (.inl B))), (jy, .inl (cy, 256, .inl (bF S)))]) [0, 1, 2, 3, 4] rfl
    have hD9 := hD.sub (ws' := [(jd, .inr (2, [.long sd, .ref jh, .ref jh2, .ref jg, .ref jb, .ref jy, .long (shO S G B n w)])), (jh, .inr (1, [.ref jt, .ref jk, .ref jv, .ref jr, .int (nI n)])), (jg, .inl (cg, 43, .inr (.inl G))), (jb, .inl (cb, 8, .inr (.inl B))), (jy, .inl (cy, 256, .inl (bF S)))]) [0, 1, 2, 3, 4] (by decide) rfl
    have hK9 := hK.sub (tys' := [(cg, .long), (cb, .long), (cy, .boolean)]) [0, 1, 2] rfl
    exact W.iret (v := nI (cnt (wbit (allW n)) 64)) hx hb hr (fun t ht hW => ⟨⟨nI (cnt (wbit (allW n)) 64), (), rfl, (by rw [ew]), by rw [ht]; exact hP9, va_K.moved hW.alike hK9, hD9⟩, hS.F ht⟩) hS.2.2 d_D_shorter_26
set_option maxHeartbeats 4000000 in
set_option maxRecDepth 100000 in
/-- PortDrawer() -/
theorem c_D_init (l : Launch) (dC : Nat → ClassId) (dI : Nat → Nat → Nat) (jd : Nat) (sd : Int64)  (sz : Nat) : Met l y_D_init w_D_init ({ frames := 3, cells := 13, slots := 577, locals := 60 }) (wr_P dC dI [.ref jd, .long sd] [(jd, .inr (2, [.long 0, .null, .null, .null, .null, .null, .long 0]))] [] sz) (va_Qv (fun (_ : Nat × Nat × Nat × Nat × Nat × Nat × Nat × Nat × Nat × Nat × Nat × Nat × Nat × ClassId × ClassId × ClassId × ClassId × ClassId × ClassId × ClassId × ClassId × ClassId) => True) (fun (u : Nat × Nat × Nat × Nat × Nat × Nat × Nat × Nat × Nat × Nat × Nat × Nat × Nat × ClassId × ClassId × ClassId × ClassId × ClassId × ClassId × ClassId × ClassId × ClassId) => wr_B dC dI (va_A [(jd, .inr (2, [.long 0, .null, .null, .null, .null, .null, .long 0]))] sz) [(jd, .inr (2, [.long sd, .ref u.1, .ref u.2.2.2.2.2.1, .ref u.2.2.2.2.2.2.2.2.2.2.1, .ref u.2.2.2.2.2.2.2.2.2.2.2.1, .ref u.2.2.2.2.2.2.2.2.2.2.2.2.1, .long 0])), (u.1, .inr (1, [.ref u.2.1, .ref u.2.2.1, .ref u.2.2.2.1, .ref u.2.2.2.2.1, .int (nI 0)])), (u.2.1, .inr (0, [.long 0])), (u.2.2.1, .inl (u.2.2.2.2.2.2.2.2.2.2.2.2.2.1, 43, .inl (fun _ => 0))), (u.2.2.2.1, .inl (u.2.2.2.2.2.2.2.2.2.2.2.2.2.2.1, 43, .inl (fun _ => 0))), (u.2.2.2.2.1, .inl (u.2.2.2.2.2.2.2.2.2.2.2.2.2.2.2.1, 43, .inl (fun _ => 0))), (u.2.2.2.2.2.1, .inr (1, [.ref u.2.2.2.2.2.2.1, .ref u.2.2.2.2.2.2.2.1, .ref u.2.2.2.2.2.2.2.2.1, .ref u.2.2.2.2.2.2.2.2.2.1, .int (nI 0)])), (u.2.2.2.2.2.2.1, .inr (0, [.long 0])), (u.2.2.2.2.2.2.2.1, .inl (u.2.2.2.2.2.2.2.2.2.2.2.2.2.2.2.2.1, 43, .inl (fun _ => 0))), (u.2.2.2.2.2.2.2.2.1, .inl (u.2.2.2.2.2.2.2.2.2.2.2.2.2.2.2.2.2.1, 43, .inl (fun _ => 0))), (u.2.2.2.2.2.2.2.2.2.1, .inl (u.2.2.2.2.2.2.2.2.2.2.2.2.2.2.2.2.2.2.1, 43, .inl (fun _ => 0))), (u.2.2.2.2.2.2.2.2.2.2.1, .inl (u.2.2.2.2.2.2.2.2.2.2.2.2.2.2.2.2.2.2.2.1, 43, .inr (.inl (fun _ => 0)))), (u.2.2.2.2.2.2.2.2.2.2.2.1, .inl (u.2.2.2.2.2.2.2.2.2.2.2.2.2.2.2.2.2.2.2.2.1, 8, .inr (.inl (fun _ => 0)))), (u.2.2.2.2.2.2.2.2.2.2.2.2.1, .inl (u.2.2.2.2.2.2.2.2.2.2.2.2.2.2.2.2.2.2.2.2.2, 256, .inl (bF (fun _ => false))))] [(u.2.2.2.2.2.2.2.2.2.2.2.2.2.1, .int), (u.2.2.2.2.2.2.2.2.2.2.2.2.2.2.1, .int), (u.2.2.2.2.2.2.2.2.2.2.2.2.2.2.2.1, .int), (u.2.2.2.2.2.2.2.2.2.2.2.2.2.2.2.2.1, .int), (u.2.2.2.2.2.2.2.2.2.2.2.2.2.2.2.2.2.1, .int), (u.2.2.2.2.2.2.2.2.2.2.2.2.2.2.2.2.2.2.1, .int), (u.2.2.2.2.2.2.2.2.2.2.2.2.2.2.2.2.2.2.2.1, .long), (u.2.2.2.2.2.2.2.2.2.2.2.2.2.2.2.2.2.2.2.2.1, .long), (u.2.2.2.2.2.2.2.2.2.2.2.2.2.2.2.2.2.2.2.2.2, .boolean)]) (va_A [(jd, .inr (2, [.long 0, .null, .null, .null, .null, .null, .long 0]))] sz)) 13 577 (va_A [(jd, .inr (2, [.long 0, .null, .null, .null, .null, .null, .long 0]))] sz) := by
  refine Met.ofW (cc := b_D_init) (maxL := 3) (ret := (Option.none : Option Jvm.ClassFile.FieldType)) (by decide) rfl ?_
  intro p e s m args below meth c s₁ B0 hml hv0
  obtain ⟨rfl, hsz, hP, hK, hD0, hN⟩ := hv0
  have hx := B0.exec
  have hb := B0.bytes
  have hr := B0.returns
  have hts := atoms_spec (ws := w_D_init) B0.pre
  have hown : s.vm.findClass R_D = some m.cls := findClass_of_methodNamed B0.named
  have hlocks := B0.notSynchronized
  have hin : meth.name = "<init>" := (name_of_methodNamed B0.named B0.method).1
  subst hsz
  have hD := hD0.self (sz := s.heap.size)
  generalize hAe : va_A [(jd, .inr (2, [.long 0, .null, .null, .null, .null, .null, .long 0]))] s.heap.size = A at hD ⊢
  have hA : ∀ q : Nat, s.heap.size ≤ q → A q := fun q h => by rw [← hAe]; exact Or.inr h
  have hS : va_S A s.heap s.heap [] := va_S.rf
  have hP : va_P (dC, dI) classes [(jd, .inr (2, [.long 0, .null, .null, .null, .null, .null, .long 0]))] s.heap := hP
  have hl := lv_entry ([.ref jd, .long sd]) (n := 3) (Nat.le_of_ble_eq_true rfl)
  rw [lg_entry_eq]
  generalize (lg_sl ([.ref jd, .long sd]) ++ List.replicate (3 - (lg_sl ([.ref jd, .long sd])).length) Slot.unset).toArray = ls at hl ⊢
  have hl : lv_has ls 3 [(0, .ref jd), (1, .long sd)] := hl
  refine lv_aload_n hx hb d_D_init_0 rfl (lv_at hl 0 rfl) ?_
  refine W.objInit hx hb hown (hts _ (List.mem_cons_of_mem _ m_16)) (hts _ (List.mem_cons_of_mem _ m_17)) (hts _ (List.mem_cons_of_mem _ m_18)) rfl (by rw [hml]; exact hl.1) rfl d_D_init_1 (Nat.le_of_ble_eq_true rfl) (Nat.le_of_ble_eq_true rfl) ?_
  refine W.eq (g2 := F0 m 4 ls []) rfl ?_
  refine lv_aload_n hx hb d_D_init_4 rfl (lv_at hl 0 rfl) ?_
  refine va_new (ci := 1) (fs := [.null, .null, .null, .null, .int 0]) (C := R_H) (T := F_H) (N := 5) hx hb hts (lay_H _) ft_H tok_H hown (hts _ (List.mem_cons_of_mem _ m_19)) (hts _ (List.mem_cons_of_mem _ m_20)) (hts _ (List.mem_cons_of_mem _ m_2)) hK hP hD hS hA rfl (fun j hj => by rcases (show j = 0 ∨ j = 1 ∨ j = 2 ∨ j = 3 ∨ j = 4 by omega) with rfl | rfl | rfl | rfl | rfl <;> rfl) (Nat.le_of_ble_eq_true rfl) (Nat.le_of_ble_eq_true rfl) d_D_init_5 (fun q_1 H hP hD hS => ?_)
  have hP : va_P (dC, dI) classes [(jd, .inr (2, [.long 0, .null, .null, .null, .null, .null, .long 0])), (q_1, .inr (1, [.null, .null, .null, .null, .int 0]))] H := hP
  have hD : va_D A [(jd, .inr (2, [.long 0, .null, .null, .null, .null, .null, .long 0])), (q_1, .inr (1, [.null, .null, .null, .null, .int 0]))] := hD
  refine W.cs (cells' := 1) (slots' := 5) rfl rfl ?_
  refine lv_dup hx hb d_D_init_8 rfl ?_
  have hPc := hP.sub (ws' := [(q_1, .inr (1, [.null, .null, .null, .null, .int 0]))]) [1] rfl
  have hKc := hK.sub (tys' := []) [] rfl
  have hDc := hD.sub (ws' := [(q_1, .inr (1, [.null, .null, .null, .null, .int 0]))]) [1] (by decide) rfl
  have hFc := va_free (wc := [(q_1, .inr (1, [.null, .null, .null, .null, .int 0]))]) hD hS hA [1] rfl
  refine va_callv (va_runIN (As := []) (rest := [.ref q_1, .ref jd]) ⟨hx, hb, hml, hown, hts⟩ (c_H_init l dC dI q_1 0 _) ⟨va_cnB 0 hts (g_c big_w m_23) rfl rfl rfl (hN _ (by decide +kernel : (Jvm.Cond.methodLinkNest "PortDrawer" (9 : Nat) ({ cls := "PortDrawer$Harbour", name := "<init>", desc := "()V" } : Jvm.MethodName) "PortDrawer") ∈ NWl)) (hts _ (List.mem_cons_of_mem _ m_2)) (by decide +kernel) ⟨Nat.le_of_ble_eq_true rfl, Nat.le_of_ble_eq_true rfl⟩, rfl, (hts _ (List.mem_cons_of_mem _ m_22))⟩ (wr_S hPc hKc hDc hN) rfl rfl hl.1 rfl (lv_room (Nat.le_of_ble_eq_true rfl)) d_D_init_9 ⟨Nat.le_of_ble_eq_true rfl, Nat.le_of_ble_eq_true rfl⟩) hS (fun q _ h => hFc q h) hFc (fun u t H1 locs ht hvm hw hB hz1 hk1 hS => ?_)
  obtain ⟨jt_3, jk_4, jv_5, jr_6, ck_7, cv_8, cr_9⟩ := u
  obtain ⟨hP1, hK1, hD1⟩ := hB
  rw [ht] at hP1
  obtain ⟨hP, hD⟩ := va_join (wr := [(jd, .inr (2, [.long 0, .null, .null, .null, .null, .null, .long 0]))]) (w1 := [(q_1, .inr (1, [.ref jt_3, .ref jk_4, .ref jv_5, .ref jr_6, .int (nI 0)])), (jt_3, .inr (0, [.long 0])), (jk_4, .inl (ck_7, 43, .inl (fun _ => 0))), (jv_5, .inl (cv_8, 43, .inl (fun _ => 0))), (jr_6, .inl (cr_9, 43, .inl (fun _ => 0)))]) hP hD [1] [0] rfl rfl (by decide) (by decide) hk1 hFc hP1 hD1
  generalize H1 = H at hP hS ⊢
  have hP : va_P (dC, dI) classes [(jd, .inr (2, [.long 0, .null, .null, .null, .null, .null, .long 0])), (q_1, .inr (1, [.ref jt_3, .ref jk_4, .ref jv_5, .ref jr_6, .int (nI 0)])), (jt_3, .inr (0, [.long 0])), (jk_4, .inl (ck_7, 43, .inl (fun _ => 0))), (jv_5, .inl (cv_8, 43, .inl (fun _ => 0))), (jr_6, .inl (cr_9, 43, .inl (fun _ => 0)))] H := hP
  have hD : va_D A [(jd, .inr (2, [.long 0, .null, .null, .null, .null, .null, .long 0])), (q_1, .inr (1, [.ref jt_3, .ref jk_4, .ref jv_5, .ref jr_6, .int (nI 0)])), (jt_3, .inr (0, [.long 0])), (jk_4, .inl (ck_7, 43, .inl (fun _ => 0))), (jv_5, .inl (cv_8, 43, .inl (fun _ => 0))), (jr_6, .inl (cr_9, 43, .inl (fun _ => 0)))] := hD
  have hK1 := va_K.moved hvm.symm hK1
  have hK : va_K (dC, dI) classes [(ck_7, .int), (cv_8, .int), (cr_9, .int)] s := hK.app (hK1.sub (tys' := [(ck_7, .int), (cv_8, .int), (cr_9, .int)]) [0, 1, 2] rfl)
  refine W.cs (cells' := 5) (slots' := 135) rfl rfl ?_
  refine va_putF (D := (dC, dI)) (ci := 2) (v := .ref q_1) (ty := .object "PortDrawer$Harbour") (C := R_D) (T := F_D) (N := 7) hx hb hts (lay_D _) ft_D tok_D nok_D hown hK hP hD hS 0 rfl rfl 1 (by decide) (hts _ (List.mem_cons_of_mem _ m_57)) (fun _ h9 => h9) rfl hin rfl (by decide +kernel) rfl rfl (Nat.le_of_ble_eq_true rfl) d_D_init_12 (fun H locs hP hD hS => ?_)
  have hP : va_P (dC, dI) classes [(jd, .inr (2, [.long 0, .ref q_1, .null, .null, .null, .null, .long 0])), (q_1, .inr (1, [.ref jt_3, .ref jk_4, .ref jv_5, .ref jr_6, .int (nI 0)])), (jt_3, .inr (0, [.long 0])), (jk_4, .inl (ck_7, 43, .inl (fun _ => 0))), (jv_5, .inl (cv_8, 43, .inl (fun _ => 0))), (jr_6, .inl (cr_9, 43, .inl (fun _ => 0)))] H := hP
  have hD : va_D A [(jd, .inr (2, [.long 0, .ref q_1, .null, .null, .null, .null, .long 0])), (q_1, .inr (1, [.ref jt_3, .ref jk_4, .ref jv_5, .ref jr_6, .int (nI 0)])), (jt_3, .inr (0, [.long 0])), (jk_4, .inl (ck_7, 43, .inl (fun _ => 0))), (jv_5, .inl (cv_8, 43, .inl (fun _ => 0))), (jr_6, .inl (cr_9, 43, .inl (fun _ => 0)))] := hD
  refine lv_aload_n hx hb d_D_init_15 rfl (lv_at hl 0 rfl) ?_
  refine va_new (ci := 1) (fs := [.null, .null, .null, .null, .int 0]) (C := R_H) (T := F_H) (N := 5) hx hb hts (lay_H _) ft_H tok_H hown (hts _ (List.mem_cons_of_mem _ m_19)) (hts _ (List.mem_cons_of_mem _ m_20)) (hts _ (List.mem_cons_of_mem _ m_2)) hK hP hD hS hA rfl (fun j hj => by rcases (show j = 0 ∨ j = 1 ∨ j = 2 ∨ j = 3 ∨ j = 4 by omega) with rfl | rfl | rfl | rfl | rfl <;> rfl) (Nat.le_of_ble_eq_true rfl) (Nat.le_of_ble_eq_true rfl) d_D_init_16 (fun q_10 H hP hD hS => ?_)
  have hP : va_P (dC, dI) classes [(jd, .inr (2, [.long 0, .ref q_1, .null, .null, .null, .null, .long 0])), (q_1, .inr (1, [.ref jt_3, .ref jk_4, .ref jv_5, .ref jr_6, .int (nI 0)])), (jt_3, .inr (0, [.long 0])), (jk_4, .inl (ck_7, 43, .inl (fun _ => 0))), (jv_5, .inl (cv_8, 43, .inl (fun _ => 0))), (jr_6, .inl (cr_9, 43, .inl (fun _ => 0))), (q_10, .inr (1, [.null, .null, .null, .null, .int 0]))] H := hP
  have hD : va_D A [(jd, .inr (2, [.long 0, .ref q_1, .null, .null, .null, .null, .long 0])), (q_1, .inr (1, [.ref jt_3, .ref jk_4, .ref jv_5, .ref jr_6, .int (nI 0)])), (jt_3, .inr (0, [.long 0])), (jk_4, .inl (ck_7, 43, .inl (fun _ => 0))), (jv_5, .inl (cv_8, 43, .inl (fun _ => 0))), (jr_6, .inl (cr_9, 43, .inl (fun _ => 0))), (q_10, .inr (1, [.null, .null, .null, .null, .int 0]))] := hD
  refine W.cs (cells' := 6) (slots' := 140) rfl rfl ?_
  refine lv_dup hx hb d_D_init_19 rfl ?_
  have hPc := hP.sub (ws' := [(q_10, .inr (1, [.null, .null, .null, .null, .int 0]))]) [6] rfl
  have hKc := hK.sub (tys' := []) [] rfl
  have hDc := hD.sub (ws' := [(q_10, .inr (1, [.null, .null, .null, .null, .int 0]))]) [6] (by decide) rfl
  have hFc := va_free (wc := [(q_10, .inr (1, [.null, .null, .null, .null, .int 0]))]) hD hS hA [6] rfl
  refine va_callv (va_runIN (As := []) (rest := [.ref q_10, .ref jd]) ⟨hx, hb, hml, hown, hts⟩ (c_H_init l dC dI q_10 0 _) ⟨va_cnB 0 hts (g_c big_w m_23) rfl rfl rfl (hN _ (by decide +kernel : (Jvm.Cond.methodLinkNest "PortDrawer" (9 : Nat) ({ cls := "PortDrawer$Harbour", name := "<init>", desc := "()V" } : Jvm.MethodName) "PortDrawer") ∈ NWl)) (hts _ (List.mem_cons_of_mem _ m_2)) (by decide +kernel) ⟨Nat.le_of_ble_eq_true rfl, Nat.le_of_ble_eq_true rfl⟩, rfl, (hts _ (List.mem_cons_of_mem _ m_22))⟩ (wr_S hPc hKc hDc hN) rfl rfl hl.1 rfl (lv_room (Nat.le_of_ble_eq_true rfl)) d_D_init_20 ⟨Nat.le_of_ble_eq_true rfl, Nat.le_of_ble_eq_true rfl⟩) hS (fun q _ h => hFc q h) hFc (fun u t H1 locs ht hvm hw hB hz1 hk1 hS => ?_)
  obtain ⟨jt_12, jk_13, jv_14, jr_15, ck_16, cv_17, cr_18⟩ := u
  obtain ⟨hP1, hK1, hD1⟩ := hB
  rw [ht] at hP1
  obtain ⟨hP, hD⟩ := va_join (wr := [(jd, .inr (2, [.long 0, .ref q_1, .null, .null, .null, .null, .long 0])), (q_1, .inr (1, [.ref jt_3, .ref jk_4, .ref jv_5, .ref jr_6, .int (nI 0)])), (jt_3, .inr (0, [.long 0])), (jk_4, .inl (ck_7, 43, .inl (fun _ => 0))), (jv_5, .inl (cv_8, 43, .inl (fun _ => 0))), (jr_6, .inl (cr_9, 43, .inl (fun _ => 0)))]) (w1 := [(q_10, .inr (1, [.ref jt_12, .ref jk_13, .ref jv_14, .ref jr_15, .int (nI 0)])), (jt_12, .inr (0, [.long 0])), (jk_13, .inl (ck_16, 43, .inl (fun _ => 0))), (jv_14, .inl (cv_17, 43, .inl (fun _ => 0))), (jr_15, .inl (cr_18, 43, .inl (fun _ => 0)))]) hP hD [6] [0, 1, 2, 3, 4, 5] rfl rfl (by decide) (by decide) hk1 hFc hP1 hD1
  generalize H1 = H at hP hS ⊢
  have hP : va_P (dC, dI) classes [(jd, .inr (2, [.long 0, .ref q_1, .null, .null, .null, .null, .long 0])), (q_1, .inr (1, [.ref jt_3, .ref jk_4, .ref jv_5, .ref jr_6, .int (nI 0)])), (jt_3, .inr (0, [.long 0])), (jk_4, .inl (ck_7, 43, .inl (fun _ => 0))), (jv_5, .inl (cv_8, 43, .inl (fun _ => 0))), (jr_6, .inl (cr_9, 43, .inl (fun _ => 0))), (q_10, .inr (1, [.ref jt_12, .ref jk_13, .ref jv_14, .ref jr_15, .int (nI 0)])), (jt_12, .inr (0, [.long 0])), (jk_13, .inl (ck_16, 43, .inl (fun _ => 0))), (jv_14, .inl (cv_17, 43, .inl (fun _ => 0))), (jr_15, .inl (cr_18, 43, .inl (fun _ => 0)))] H := hP
  have hD : va_D A [(jd, .inr (2, [.long 0, .ref q_1, .null, .null, .null, .null, .long 0])), (q_1, .inr (1, [.ref jt_3, .ref jk_4, .ref jv_5, .ref jr_6, .int (nI 0)])), (jt_3, .inr (0, [.long 0])), (jk_4, .inl (ck_7, 43, .inl (fun _ => 0))), (jv_5, .inl (cv_8, 43, .inl (fun _ => 0))), (jr_6, .inl (cr_9, 43, .inl (fun _ => 0))), (q_10, .inr (1, [.ref jt_12, .ref jk_13, .ref jv_14, .ref jr_15, .int (nI 0)])), (jt_12, .inr (0, [.long 0])), (jk_13, .inl (ck_16, 43, .inl (fun _ => 0))), (jv_14, .inl (cv_17, 43, .inl (fun _ => 0))), (jr_15, .inl (cr_18, 43, .inl (fun _ => 0)))] := hD
  have hK1 := va_K.moved hvm.symm hK1
  have hK : va_K (dC, dI) classes [(ck_7, .int), (cv_8, .int), (cr_9, .int), (ck_16, .int), (cv_17, .int), (cr_18, .int)] s := hK.app (hK1.sub (tys' := [(ck_16, .int), (cv_17, .int), (cr_18, .int)]) [0, 1, 2] rfl)
  refine W.cs (cells' := 10) (slots' := 270) rfl rfl ?_
  refine va_putF (D := (dC, dI)) (ci := 2) (v := .ref q_10) (ty := .object "PortDrawer$Harbour") (C := R_D) (T := F_D) (N := 7) hx hb hts (lay_D _) ft_D tok_D nok_D hown hK hP hD hS 0 rfl rfl 2 (by decide) (hts _ (List.mem_cons_of_mem _ m_58)) (fun _ h9 => h9) rfl hin rfl (by decide +kernel) rfl rfl (Nat.le_of_ble_eq_true rfl) d_D_init_23 (fun H locs hP hD hS => ?_)
  have hP : va_P (dC, dI) classes [(jd, .inr (2, [.long 0, .ref q_1, .ref q_10, .null, .null, .null, .long 0])), (q_1, .inr (1, [.ref jt_3, .ref jk_4, .ref jv_5, .ref jr_6, .int (nI 0)])), (jt_3, .inr (0, [.long 0])), (jk_4, .inl (ck_7, 43, .inl (fun _ => 0))), (jv_5, .inl (cv_8, 43, .inl (fun _ => 0))), (jr_6, .inl (cr_9, 43, .inl (fun _ => 0))), (q_10, .inr (1, [.ref jt_12, .ref jk_13, .ref jv_14, .ref jr_15, .int (nI 0)])), (jt_12, .inr (0, [.long 0])), (jk_13, .inl (ck_16, 43, .inl (fun _ => 0))), (jv_14, .inl (cv_17, 43, .inl (fun _ => 0))), (jr_15, .inl (cr_18, 43, .inl (fun _ => 0)))] H := hP
  have hD : va_D A [(jd, .inr (2, [.long 0, .ref q_1, .ref q_10, .null, .null, .null, .long 0])), (q_1, .inr (1, [.ref jt_3, .ref jk_4, .ref jv_5, .ref jr_6, .int (nI 0)])), (jt_3, .inr (0, [.long 0])), (jk_4, .inl (ck_7, 43, .inl (fun _ => 0))), (jv_5, .inl (cv_8, 43, .inl (fun _ => 0))), (jr_6, .inl (cr_9, 43, .inl (fun _ => 0))), (q_10, .inr (1, [.ref jt_12, .ref jk_13, .ref jv_14, .ref jr_15, .int (nI 0)])), (jt_12, .inr (0, [.long 0])), (jk_13, .inl (ck_16, 43, .inl (fun _ => 0))), (jv_14, .inl (cv_17, 43, .inl (fun _ => 0))), (jr_15, .inl (cr_18, 43, .inl (fun _ => 0)))] := hD
  refine lv_aload_n hx hb d_D_init_26 rfl (lv_at hl 0 rfl) ?_
  refine lv_bipush (v := nI 43) hx hb d_D_init_27 (by decide +kernel) ?_
  refine va_newa (atype := .long) (ty := .long) (a0 := (43, .inr (.inl (fun _ => 0)))) hx hb (hts _ (List.mem_cons_of_mem _ m_78)) rfl hK hP hD hS hA (fun _ => rfl) (nI_pos (by omega)) (nI_clamp (by omega)) (by decide) (Nat.le_of_ble_eq_true rfl) (Nat.le_of_ble_eq_true rfl) d_D_init_29 (fun q_19 cA_20 H hK hP hD hS => ?_)
  have hK : va_K (dC, dI) classes [(ck_7, .int), (cv_8, .int), (cr_9, .int), (ck_16, .int), (cv_17, .int), (cr_18, .int), (cA_20, .long)] s := hK
  have hP : va_P (dC, dI) classes [(jd, .inr (2, [.long 0, .ref q_1, .ref q_10, .null, .null, .null, .long 0])), (q_1, .inr (1, [.ref jt_3, .ref jk_4, .ref jv_5, .ref jr_6, .int (nI 0)])), (jt_3, .inr (0, [.long 0])), (jk_4, .inl (ck_7, 43, .inl (fun _ => 0))), (jv_5, .inl (cv_8, 43, .inl (fun _ => 0))), (jr_6, .inl (cr_9, 43, .inl (fun _ => 0))), (q_10, .inr (1, [.ref jt_12, .ref jk_13, .ref jv_14, .ref jr_15, .int (nI 0)])), (jt_12, .inr (0, [.long 0])), (jk_13, .inl (ck_16, 43, .inl (fun _ => 0))), (jv_14, .inl (cv_17, 43, .inl (fun _ => 0))), (jr_15, .inl (cr_18, 43, .inl (fun _ => 0))), (q_19, .inl (cA_20, 43, .inr (.inl (fun _ => 0))))] H := hP
  have hD : va_D A [(jd, .inr (2, [.long 0, .ref q_1, .ref q_10, .null, .null, .null, .long 0])), (q_1, .inr (1, [.ref jt_3, .ref jk_4, .ref jv_5, .ref jr_6, .int (nI 0)])), (jt_3, .inr (0, [.long 0])), (jk_4, .inl (ck_7, 43, .inl (fun _ => 0))), (jv_5, .inl (cv_8, 43, .inl (fun _ => 0))), (jr_6, .inl (cr_9, 43, .inl (fun _ => 0))), (q_10, .inr (1, [.ref jt_12, .ref jk_13, .ref jv_14, .ref jr_15, .int (nI 0)])), (jt_12, .inr (0, [.long 0])), (jk_13, .inl (ck_16, 43, .inl (fun _ => 0))), (jv_14, .inl (cv_17, 43, .inl (fun _ => 0))), (jr_15, .inl (cr_18, 43, .inl (fun _ => 0))), (q_19, .inl (cA_20, 43, .inr (.inl (fun _ => 0))))] := hD
  refine W.cs (cells' := 11) (slots' := 313) rfl rfl ?_
  refine va_putF (D := (dC, dI)) (ci := 2) (v := .ref q_19) (ty := .array .long) (C := R_D) (T := F_D) (N := 7) hx hb hts (lay_D _) ft_D tok_D nok_D hown hK hP hD hS 0 rfl rfl 3 (by decide) (hts _ (List.mem_cons_of_mem _ m_59)) (fun _ h9 => h9) rfl hin rfl (by decide +kernel) rfl rfl (Nat.le_of_ble_eq_true rfl) d_D_init_31 (fun H locs hP hD hS => ?_)
  have hP : va_P (dC, dI) classes [(jd, .inr (2, [.long 0, .ref q_1, .ref q_10, .ref q_19, .null, .null, .long 0])), (q_1, .inr (1, [.ref jt_3, .ref jk_4, .ref jv_5, .ref jr_6, .int (nI 0)])), (jt_3, .inr (0, [.long 0])), (jk_4, .inl (ck_7, 43, .inl (fun _ => 0))), (jv_5, .inl (cv_8, 43, .inl (fun _ => 0))), (jr_6, .inl (cr_9, 43, .inl (fun _ => 0))), (q_10, .inr (1, [.ref jt_12, .ref jk_13, .ref jv_14, .ref jr_15, .int (nI 0)])), (jt_12, .inr (0, [.long 0])), (jk_13, .inl (ck_16, 43, .inl (fun _ => 0))), (jv_14, .inl (cv_17, 43, .inl (fun _ => 0))), (jr_15, .inl (cr_18, 43, .inl (fun _ => 0))), (q_19, .inl (cA_20, 43, .inr (.inl (fun _ => 0))))] H := hP
  have hD : va_D A [(jd, .inr (2, [.long 0, .ref q_1, .ref q_10, .ref q_19, .null, .null, .long 0])), (q_1, .inr (1, [.ref jt_3, .ref jk_4, .ref jv_5, .ref jr_6, .int (nI 0)])), (jt_3, .inr (0, [.long 0])), (jk_4, .inl (ck_7, 43, .inl (fun _ => 0))), (jv_5, .inl (cv_8, 43, .inl (fun _ => 0))), (jr_6, .inl (cr_9, 43, .inl (fun _ => 0))), (q_10, .inr (1, [.ref jt_12, .ref jk_13, .ref jv_14, .ref jr_15, .int (nI 0)])), (jt_12, .inr (0, [.long 0])), (jk_13, .inl (ck_16, 43, .inl (fun _ => 0))), (jv_14, .inl (cv_17, 43, .inl (fun _ => 0))), (jr_15, .inl (cr_18, 43, .inl (fun _ => 0))), (q_19, .inl (cA_20, 43, .inr (.inl (fun _ => 0))))] := hD
  refine lv_aload_n hx hb d_D_init_34 rfl (lv_at hl 0 rfl) ?_
  refine lv_bipush (v := nI 8) hx hb d_D_init_35 (by decide +kernel) ?_
  refine va_newa (atype := .long) (ty := .long) (a0 := (8, .inr (.inl (fun _ => 0)))) hx hb (hts _ (List.mem_cons_of_mem _ m_78)) rfl hK hP hD hS hA (fun _ => rfl) (nI_pos (by omega)) (nI_clamp (by omega)) (by decide) (Nat.le_of_ble_eq_true rfl) (Nat.le_of_ble_eq_true rfl) d_D_init_37 (fun q_21 cA_22 H hK hP hD hS => ?_)
  have hK : va_K (dC, dI) classes [(ck_7, .int), (cv_8, .int), (cr_9, .int), (ck_16, .int), (cv_17, .int), (cr_18, .int), (cA_20, .long), (cA_22, .long)] s := hK
  have hP : va_P (dC, dI) classes [(jd, .inr (2, [.long 0, .ref q_1, .ref q_10, .ref q_19, .null, .null, .long 0])), (q_1, .inr (1, [.ref jt_3, .ref jk_4, .ref jv_5, .ref jr_6, .int (nI 0)])), (jt_3, .inr (0, [.long 0])), (jk_4, .inl (ck_7, 43, .inl (fun _ => 0))), (jv_5, .inl (cv_8, 43, .inl (fun _ => 0))), (jr_6, .inl (cr_9, 43, .inl (fun _ => 0))), (q_10, .inr (1, [.ref jt_12, .ref jk_13, .ref jv_14, .ref jr_15, .int (nI 0)])), (jt_12, .inr (0, [.long 0])), (jk_13, .inl (ck_16, 43, .inl (fun _ => 0))), (jv_14, .inl (cv_17, 43, .inl (fun _ => 0))), (jr_15, .inl (cr_18, 43, .inl (fun _ => 0))), (q_19, .inl (cA_20, 43, .inr (.inl (fun _ => 0)))), (q_21, .inl (cA_22, 8, .inr (.inl (fun _ => 0))))] H := hP
  have hD : va_D A [(jd, .inr (2, [.long 0, .ref q_1, .ref q_10, .ref q_19, .null, .null, .long 0])), (q_1, .inr (1, [.ref jt_3, .ref jk_4, .ref jv_5, .ref jr_6, .int (nI 0)])), (jt_3, .inr (0, [.long 0])), (jk_4, .inl (ck_7, 43, .inl (fun _ => 0))), (jv_5, .inl (cv_8, 43, .inl (fun _ => 0))), (jr_6, .inl (cr_9, 43, .inl (fun _ => 0))), (q_10, .inr (1, [.ref jt_12, .ref jk_13, .ref jv_14, .ref jr_15, .int (nI 0)])), (jt_12, .inr (0, [.long 0])), (jk_13, .inl (ck_16, 43, .inl (fun _ => 0))), (jv_14, .inl (cv_17, 43, .inl (fun _ => 0))), (jr_15, .inl (cr_18, 43, .inl (fun _ => 0))), (q_19, .inl (cA_20, 43, .inr (.inl (fun _ => 0)))), (q_21, .inl (cA_22, 8, .inr (.inl (fun _ => 0))))] := hD
  refine W.cs (cells' := 12) (slots' := 321) rfl rfl ?_
  refine va_putF (D := (dC, dI)) (ci := 2) (v := .ref q_21) (ty := .array .long) (C := R_D) (T := F_D) (N := 7) hx hb hts (lay_D _) ft_D tok_D nok_D hown hK hP hD hS 0 rfl rfl 4 (by decide) (hts _ (List.mem_cons_of_mem _ m_60)) (fun _ h9 => h9) rfl hin rfl (by decide +kernel) rfl rfl (Nat.le_of_ble_eq_true rfl) d_D_init_39 (fun H locs hP hD hS => ?_)
  have hP : va_P (dC, dI) classes [(jd, .inr (2, [.long 0, .ref q_1, .ref q_10, .ref q_19, .ref q_21, .null, .long 0])), (q_1, .inr (1, [.ref jt_3, .ref jk_4, .ref jv_5, .ref jr_6, .int (nI 0)])), (jt_3, .inr (0, [.long 0])), (jk_4, .inl (ck_7, 43, .inl (fun _ => 0))), (jv_5, .inl (cv_8, 43, .inl (fun _ => 0))), (jr_6, .inl (cr_9, 43, .inl (fun _ => 0))), (q_10, .inr (1, [.ref jt_12, .ref jk_13, .ref jv_14, .ref jr_15, .int (nI 0)])), (jt_12, .inr (0, [.long 0])), (jk_13, .inl (ck_16, 43, .inl (fun _ => 0))), (jv_14, .inl (cv_17, 43, .inl (fun _ => 0))), (jr_15, .inl (cr_18, 43, .inl (fun _ => 0))), (q_19, .inl (cA_20, 43, .inr (.inl (fun _ => 0)))), (q_21, .inl (cA_22, 8, .inr (.inl (fun _ => 0))))] H := hP
  have hD : va_D A [(jd, .inr (2, [.long 0, .ref q_1, .ref q_10, .ref q_19, .ref q_21, .null, .long 0])), (q_1, .inr (1, [.ref jt_3, .ref jk_4, .ref jv_5, .ref jr_6, .int (nI 0)])), (jt_3, .inr (0, [.long 0])), (jk_4, .inl (ck_7, 43, .inl (fun _ => 0))), (jv_5, .inl (cv_8, 43, .inl (fun _ => 0))), (jr_6, .inl (cr_9, 43, .inl (fun _ => 0))), (q_10, .inr (1, [.ref jt_12, .ref jk_13, .ref jv_14, .ref jr_15, .int (nI 0)])), (jt_12, .inr (0, [.long 0])), (jk_13, .inl (ck_16, 43, .inl (fun _ => 0))), (jv_14, .inl (cv_17, 43, .inl (fun _ => 0))), (jr_15, .inl (cr_18, 43, .inl (fun _ => 0))), (q_19, .inl (cA_20, 43, .inr (.inl (fun _ => 0)))), (q_21, .inl (cA_22, 8, .inr (.inl (fun _ => 0))))] := hD
  refine lv_aload_n hx hb d_D_init_42 rfl (lv_at hl 0 rfl) ?_
  refine lv_sipush (v := nI 256) hx hb d_D_init_43 (by decide +kernel) ?_
  refine va_newa (atype := .boolean) (ty := .boolean) (a0 := (256, .inl (fun _ => 0))) hx hb (hts _ (List.mem_cons_of_mem _ m_79)) rfl hK hP hD hS hA (fun _ => rfl) (nI_pos (by omega)) (nI_clamp (by omega)) (by decide) (Nat.le_of_ble_eq_true rfl) (Nat.le_of_ble_eq_true rfl) d_D_init_46 (fun q_23 cA_24 H hK hP hD hS => ?_)
  have hK : va_K (dC, dI) classes [(ck_7, .int), (cv_8, .int), (cr_9, .int), (ck_16, .int), (cv_17, .int), (cr_18, .int), (cA_20, .long), (cA_22, .long), (cA_24, .boolean)] s := hK
  have hP : va_P (dC, dI) classes [(jd, .inr (2, [.long 0, .ref q_1, .ref q_10, .ref q_19, .ref q_21, .null, .long 0])), (q_1, .inr (1, [.ref jt_3, .ref jk_4, .ref jv_5, .ref jr_6, .int (nI 0)])), (jt_3, .inr (0, [.long 0])), (jk_4, .inl (ck_7, 43, .inl (fun _ => 0))), (jv_5, .inl (cv_8, 43, .inl (fun _ => 0))), (jr_6, .inl (cr_9, 43, .inl (fun _ => 0))), (q_10, .inr (1, [.ref jt_12, .ref jk_13, .ref jv_14, .ref jr_15, .int (nI 0)])), (jt_12, .inr (0, [.long 0])), (jk_13, .inl (ck_16, 43, .inl (fun _ => 0))), (jv_14, .inl (cv_17, 43, .inl (fun _ => 0))), (jr_15, .inl (cr_18, 43, .inl (fun _ => 0))), (q_19, .inl (cA_20, 43, .inr (.inl (fun _ => 0)))), (q_21, .inl (cA_22, 8, .inr (.inl (fun _ => 0)))), (q_23, .inl (cA_24, 256, .inl (fun _ => 0)))] H := hP
  have hD : va_D A [(jd, .inr (2, [.long 0, .ref q_1, .ref q_10, .ref q_19, .ref q_21, .null, .long 0])), (q_1, .inr (1, [.ref jt_3, .ref jk_4, .ref jv_5, .ref jr_6, .int (nI 0)])), (jt_3, .inr (0, [.long 0])), (jk_4, .inl (ck_7, 43, .inl (fun _ => 0))), (jv_5, .inl (cv_8, 43, .inl (fun _ => 0))), (jr_6, .inl (cr_9, 43, .inl (fun _ => 0))), (q_10, .inr (1, [.ref jt_12, .ref jk_13, .ref jv_14, .ref jr_15, .int (nI 0)])), (jt_12, .inr (0, [.long 0])), (jk_13, .inl (ck_16, 43, .inl (fun _ => 0))), (jv_14, .inl (cv_17, 43, .inl (fun _ => 0))), (jr_15, .inl (cr_18, 43, .inl (fun _ => 0))), (q_19, .inl (cA_20, 43, .inr (.inl (fun _ => 0)))), (q_21, .inl (cA_22, 8, .inr (.inl (fun _ => 0)))), (q_23, .inl (cA_24, 256, .inl (fun _ => 0)))] := hD
  refine W.cs (cells' := 13) (slots' := 577) rfl rfl ?_
  refine va_putF (D := (dC, dI)) (ci := 2) (v := .ref q_23) (ty := .array .boolean) (C := R_D) (T := F_D) (N := 7) hx hb hts (lay_D _) ft_D tok_D nok_D hown hK hP hD hS 0 rfl rfl 5 (by decide) (hts _ (List.mem_cons_of_mem _ m_61)) (fun _ h9 => h9) rfl hin rfl (by decide +kernel) rfl rfl (Nat.le_of_ble_eq_true rfl) d_D_init_48 (fun H locs hP hD hS => ?_)
  have hP : va_P (dC, dI) classes [(jd, .inr (2, [.long 0, .ref q_1, .ref q_10, .ref q_19, .ref q_21, .ref q_23, .long 0])), (q_1, .inr (1, [.ref jt_3, .ref jk_4, .ref jv_5, .ref jr_6, .int (nI 0)])), (jt_3, .inr (0, [.long 0])), (jk_4, .inl (ck_7, 43, .inl (fun _ => 0))), (jv_5, .inl (cv_8, 43, .inl (fun _ => 0))), (jr_6, .inl (cr_9, 43, .inl (fun _ => 0))), (q_10, .inr (1, [.ref jt_12, .ref jk_13, .ref jv_14, .ref jr_15, .int (nI 0)])), (jt_12, .inr (0, [.long 0])), (jk_13, .inl (ck_16, 43, .inl (fun _ => 0))), (jv_14, .inl (cv_17, 43, .inl (fun _ => 0))), (jr_15, .inl (cr_18, 43, .inl (fun _ => 0))), (q_19, .inl (cA_20, 43, .inr (.inl (fun _ => 0)))), (q_21, .inl (cA_22, 8, .inr (.inl (fun _ => 0)))), (q_23, .inl (cA_24, 256, .inl (fun _ => 0)))] H := hP
  have hD : va_D A [(jd, .inr (2, [.long 0, .ref q_1, .ref q_10, .ref q_19, .ref q_21, .ref q_23, .long 0])), (q_1, .inr (1, [.ref jt_3, .ref jk_4, .ref jv_5, .ref jr_6, .int (nI 0)])), (jt_3, .inr (0, [.long 0])), (jk_4, .inl (ck_7, 43, .inl (fun _ => 0))), (jv_5, .inl (cv_8, 43, .inl (fun _ => 0))), (jr_6, .inl (cr_9, 43, .inl (fun _ => 0))), (q_10, .inr (1, [.ref jt_12, .ref jk_13, .ref jv_14, .ref jr_15, .int (nI 0)])), (jt_12, .inr (0, [.long 0])), (jk_13, .inl (ck_16, 43, .inl (fun _ => 0))), (jv_14, .inl (cv_17, 43, .inl (fun _ => 0))), (jr_15, .inl (cr_18, 43, .inl (fun _ => 0))), (q_19, .inl (cA_20, 43, .inr (.inl (fun _ => 0)))), (q_21, .inl (cA_22, 8, .inr (.inl (fun _ => 0)))), (q_23, .inl (cA_24, 256, .inl (fun _ => 0)))] := hD
  refine lv_aload_n hx hb d_D_init_51 rfl (lv_at hl 0 rfl) ?_
  refine lv_lconst (v := 0) hx hb d_D_init_52 (by decide +kernel) ?_
  refine va_put (D := (dC, dI)) (ci := 2) (v := .long 0) (ty := .long) (C := R_D) (T := F_D) (N := 7) hx hb hts (lay_D _) ft_D tok_D nok_D hown hK hP hD hS 0 rfl rfl 6 (by decide) (hts _ (List.mem_cons_of_mem _ m_62)) (fun _ h9 => h9) rfl (by decide +kernel) rfl rfl (Nat.le_of_ble_eq_true rfl) d_D_init_53 (fun H locs hP hD hS => ?_)
  have hP : va_P (dC, dI) classes [(jd, .inr (2, [.long 0, .ref q_1, .ref q_10, .ref q_19, .ref q_21, .ref q_23, .long 0])), (q_1, .inr (1, [.ref jt_3, .ref jk_4, .ref jv_5, .ref jr_6, .int (nI 0)])), (jt_3, .inr (0, [.long 0])), (jk_4, .inl (ck_7, 43, .inl (fun _ => 0))), (jv_5, .inl (cv_8, 43, .inl (fun _ => 0))), (jr_6, .inl (cr_9, 43, .inl (fun _ => 0))), (q_10, .inr (1, [.ref jt_12, .ref jk_13, .ref jv_14, .ref jr_15, .int (nI 0)])), (jt_12, .inr (0, [.long 0])), (jk_13, .inl (ck_16, 43, .inl (fun _ => 0))), (jv_14, .inl (cv_17, 43, .inl (fun _ => 0))), (jr_15, .inl (cr_18, 43, .inl (fun _ => 0))), (q_19, .inl (cA_20, 43, .inr (.inl (fun _ => 0)))), (q_21, .inl (cA_22, 8, .inr (.inl (fun _ => 0)))), (q_23, .inl (cA_24, 256, .inl (fun _ => 0)))] H := hP
  have hD : va_D A [(jd, .inr (2, [.long 0, .ref q_1, .ref q_10, .ref q_19, .ref q_21, .ref q_23, .long 0])), (q_1, .inr (1, [.ref jt_3, .ref jk_4, .ref jv_5, .ref jr_6, .int (nI 0)])), (jt_3, .inr (0, [.long 0])), (jk_4, .inl (ck_7, 43, .inl (fun _ => 0))), (jv_5, .inl (cv_8, 43, .inl (fun _ => 0))), (jr_6, .inl (cr_9, 43, .inl (fun _ => 0))), (q_10, .inr (1, [.ref jt_12, .ref jk_13, .ref jv_14, .ref jr_15, .int (nI 0)])), (jt_12, .inr (0, [.long 0])), (jk_13, .inl (ck_16, 43, .inl (fun _ => 0))), (jv_14, .inl (cv_17, 43, .inl (fun _ => 0))), (jr_15, .inl (cr_18, 43, .inl (fun _ => 0))), (q_19, .inl (cA_20, 43, .inr (.inl (fun _ => 0)))), (q_21, .inl (cA_22, 8, .inr (.inl (fun _ => 0)))), (q_23, .inl (cA_24, 256, .inl (fun _ => 0)))] := hD
  refine lv_aload_n hx hb d_D_init_56 rfl (lv_at hl 0 rfl) ?_
  refine lv_lload_n hx hb d_D_init_57 rfl (lv_at hl 1 rfl) ?_
  refine va_putF (D := (dC, dI)) (ci := 2) (v := .long sd) (ty := .long) (C := R_D) (T := F_D) (N := 7) hx hb hts (lay_D _) ft_D tok_D nok_D hown hK hP hD hS 0 rfl rfl 0 (by decide) (hts _ (List.mem_cons_of_mem _ m_56)) (fun _ h9 => h9) rfl hin rfl (by decide +kernel) rfl rfl (Nat.le_of_ble_eq_true rfl) d_D_init_58 (fun H locs hP hD hS => ?_)
  have hP : va_P (dC, dI) classes [(jd, .inr (2, [.long sd, .ref q_1, .ref q_10, .ref q_19, .ref q_21, .ref q_23, .long 0])), (q_1, .inr (1, [.ref jt_3, .ref jk_4, .ref jv_5, .ref jr_6, .int (nI 0)])), (jt_3, .inr (0, [.long 0])), (jk_4, .inl (ck_7, 43, .inl (fun _ => 0))), (jv_5, .inl (cv_8, 43, .inl (fun _ => 0))), (jr_6, .inl (cr_9, 43, .inl (fun _ => 0))), (q_10, .inr (1, [.ref jt_12, .ref jk_13, .ref jv_14, .ref jr_15, .int (nI 0)])), (jt_12, .inr (0, [.long 0])), (jk_13, .inl (ck_16, 43, .inl (fun _ => 0))), (jv_14, .inl (cv_17, 43, .inl (fun _ => 0))), (jr_15, .inl (cr_18, 43, .inl (fun _ => 0))), (q_19, .inl (cA_20, 43, .inr (.inl (fun _ => 0)))), (q_21, .inl (cA_22, 8, .inr (.inl (fun _ => 0)))), (q_23, .inl (cA_24, 256, .inl (fun _ => 0)))] H := hP
  have hD : va_D A [(jd, .inr (2, [.long sd, .ref q_1, .ref q_10, .ref q_19, .ref q_21, .ref q_23, .long 0])), (q_1, .inr (1, [.ref jt_3, .ref jk_4, .ref jv_5, .ref jr_6, .int (nI 0)])), (jt_3, .inr (0, [.long 0])), (jk_4, .inl (ck_7, 43, .inl (fun _ => 0))), (jv_5, .inl (cv_8, 43, .inl (fun _ => 0))), (jr_6, .inl (cr_9, 43, .inl (fun _ => 0))), (q_10, .inr (1, [.ref jt_12, .ref jk_13, .ref jv_14, .ref jr_15, .int (nI 0)])), (jt_12, .inr (0, [.long 0])), (jk_13, .inl (ck_16, 43, .inl (fun _ => 0))), (jv_14, .inl (cv_17, 43, .inl (fun _ => 0))), (jr_15, .inl (cr_18, 43, .inl (fun _ => 0))), (q_19, .inl (cA_20, 43, .inr (.inl (fun _ => 0)))), (q_21, .inl (cA_22, 8, .inr (.inl (fun _ => 0)))), (q_23, .inl (cA_24, 256, .inl (fun _ => 0)))] := hD
  have hP9 := hP.sub (ws' := [(jd, .inr (2, [.long sd, .ref q_1, .ref q_10, .ref q_19, .ref q_21, .ref q_23, .long 0])), (q_1, .inr (1, [.ref jt_3, .ref jk_4, .ref jv_5, .ref jr_6, .int (nI 0)])), (jt_3, .inr (0, [.long 0])), (jk_4, .inl (ck_7, 43, .inl (fun _ => 0))), (jv_5, .inl (cv_8, 43, .inl (fun _ => 0))), (jr_6, .inl (cr_9, 43, .inl (fun _ => 0))), (q_10, .inr (1, [.ref jt_12, .ref jk_13, .ref jv_14, .ref jr_15, .int (nI 0)])), (jt_12, .inr (0, [.long 0])), (jk_13, .inl (ck_16, 43, .inl (fun _ => 0))), (jv_14, .inl (cv_17, 43, .inl (fun _ => 0))), (jr_15, .inl (cr_18, 43, .inl (fun _ => 0))), (q_19, .inl (cA_20, 43, .inr (.inl (fun _ => 0)))), (q_21, .inl (cA_22, 8, .inr (.inl (fun _ => 0)))), (q_23, .inl (cA_24, 256, .inl (bF (fun _ => false))))]) [0, 1, 2, 3, 4, 5, 6, 7, 8, 9, 10, 11, 12, 13] rfl
  have hD9 := hD.sub (ws' := [(jd, .inr (2, [.long sd, .ref q_1, .ref q_10, .ref q_19, .ref q_21, .ref q_23, .long 0])), (q_1, .inr (1, [.ref jt_3, .ref jk_4, .ref jv_5, .ref jr_6, .int (nI 0)])), (jt_3, .inr (0, [.long 0])), (jk_4, .inl (ck_7, 43, .inl (fun _ => 0))), (jv_5, .inl (cv_8, 43, .inl (fun _ => 0))), (jr_6, .inl (cr_9, 43, .inl (fun _ => 0))), (q_10, .inr (1, [.ref jt_12, .ref jk_13, .ref jv_14, .ref jr_15, .int (nI 0)])), (jt_12, .inr (0, [.long 0])), (jk_13, .inl (ck_16, 43, .inl (fun _ => 0))), (jv_14, .inl (cv_17, 43, .inl (fun _ => 0))), (jr_15, .inl (cr_18, 43, .inl (fun _ => 0))), (q_19, .inl (cA_20, 43, .inr (.inl (fun _ => 0)))), (q_21, .inl (cA_22, 8, .inr (.inl (fun _ => 0)))), (q_23, .inl (cA_24, 256, .inl (bF (fun _ => false))))]) [0, 1, 2, 3, 4, 5, 6, 7, 8, 9, 10, 11, 12, 13] (by decide) rfl
  have hK9 := hK.sub (tys' := [(ck_7, .int), (cv_8, .int), (cr_9, .int), (ck_16, .int), (cv_17, .int), (cr_18, .int), (cA_20, .long), (cA_22, .long), (cA_24, .boolean)]) [0, 1, 2, 3, 4, 5, 6, 7, 8] rfl
  exact W.vret hx hb hr (fun t ht hW => ⟨⟨(q_1, jt_3, jk_4, jv_5, jr_6, q_10, jt_12, jk_13, jv_14, jr_15, q_19, q_21, q_23, ck_7, cv_8, cr_9, ck_16, cv_17, cr_18, cA_20, cA_22, cA_24), rfl, trivial, by rw [ht]; exact hP9, va_K.moved hW.alike hK9, hD9⟩, hS.F ht⟩) hS.2.2 d_D_init_61
