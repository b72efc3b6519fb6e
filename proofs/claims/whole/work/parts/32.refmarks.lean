theorem m_430 : (Jvm.Cond.code ({ cls := "PortDrawerModel", name := "none", desc := "()V" } : Jvm.MethodName) prog_5_method_17_code (2 : Nat) (Option.none : Option Jvm.ClassFile.FieldType)) ∈ tblG := m_t (i := 430) rfl rfl
theorem ms_28 : Cond.selects "PortDrawerModel" ⟨"PortDrawerModel", "none", "()V"⟩ ⟨"PortDrawerModel", "none", "()V"⟩ ∈ tblG := m_s (i := 28) rfl rfl
theorem m_427 : (Jvm.Cond.methodLink "PortDrawerModel" (80 : Nat) ({ cls := "PortDrawerModel", name := "none", desc := "()V" } : Jvm.MethodName)) ∈ tblG := m_t (i := 427) rfl rfl
theorem m_429 : (Jvm.Cond.instanceMethod ({ cls := "PortDrawerModel", name := "none", desc := "()V" } : Jvm.MethodName)) ∈ tblG := m_t (i := 429) rfl rfl
theorem m_418 : (Jvm.Cond.code ({ cls := "PortDrawerModel", name := "isFit", desc := "(I)Z" } : Jvm.MethodName) prog_5_method_13_code (2 : Nat) (Option.some Jvm.ClassFile.FieldType.boolean)) ∈ tblG := m_t (i := 418) rfl rfl
theorem ms_27 : Cond.selects "PortDrawerModel" ⟨"PortDrawerModel", "isFit", "(I)Z"⟩ ⟨"PortDrawerModel", "isFit", "(I)Z"⟩ ∈ tblG := m_s (i := 27) rfl rfl
theorem m_415 : (Jvm.Cond.methodLink "PortDrawerModel" (77 : Nat) ({ cls := "PortDrawerModel", name := "isFit", desc := "(I)Z" } : Jvm.MethodName)) ∈ tblG := m_t (i := 415) rfl rfl
theorem m_417 : (Jvm.Cond.instanceMethod ({ cls := "PortDrawerModel", name := "isFit", desc := "(I)Z" } : Jvm.MethodName)) ∈ tblG := m_t (i := 417) rfl rfl
theorem m_450 : (Jvm.Cond.code ({ cls := "PortDrawerModel", name := "marks", desc := "(I)I" } : Jvm.MethodName) prog_5_method_18_code (4 : Nat) (Option.some Jvm.ClassFile.FieldType.int)) ∈ tblG := m_t (i := 450) rfl rfl
theorem ms_32 : Cond.selects "PortDrawerModel" ⟨"PortDrawerModel", "marks", "(I)I"⟩ ⟨"PortDrawerModel", "marks", "(I)I"⟩ ∈ tblG := m_s (i := 32) rfl rfl
theorem m_447 : (Jvm.Cond.methodLink "PortDrawerModel" (87 : Nat) ({ cls := "PortDrawerModel", name := "marks", desc := "(I)I" } : Jvm.MethodName)) ∈ tblG := m_t (i := 447) rfl rfl
theorem m_449 : (Jvm.Cond.instanceMethod ({ cls := "PortDrawerModel", name := "marks", desc := "(I)I" } : Jvm.MethodName)) ∈ tblG := m_t (i := 449) rfl rfl
theorem m_454 : (Jvm.Cond.code ({ cls := "PortDrawerModel", name := "many", desc := "()I" } : Jvm.MethodName) prog_5_method_19_code (3 : Nat) (Option.some Jvm.ClassFile.FieldType.int)) ∈ tblG := m_t (i := 454) rfl rfl
theorem ms_33 : Cond.selects "PortDrawerModel" ⟨"PortDrawerModel", "many", "()I"⟩ ⟨"PortDrawerModel", "many", "()I"⟩ ∈ tblG := m_s (i := 33) rfl rfl
theorem m_451 : (Jvm.Cond.methodLink "PortDrawerModel" (90 : Nat) ({ cls := "PortDrawerModel", name := "many", desc := "()I" } : Jvm.MethodName)) ∈ tblG := m_t (i := 451) rfl rfl
theorem m_453 : (Jvm.Cond.instanceMethod ({ cls := "PortDrawerModel", name := "many", desc := "()I" } : Jvm.MethodName)) ∈ tblG := m_t (i := 453) rfl rfl
theorem m_344 : (Jvm.Cond.fieldLink "PortDrawerModel" (23 : Nat) "PortDrawerModel" "stays" "[Z") ∈ tblG := m_t (i := 344) rfl rfl
theorem m_434 : (Jvm.Cond.code ({ cls := "PortDrawerModel", name := "judged", desc := "()I" } : Jvm.MethodName) prog_5_method_16_code (3 : Nat) (Option.some Jvm.ClassFile.FieldType.int)) ∈ tblG := m_t (i := 434) rfl rfl
theorem ms_29 : Cond.selects "PortDrawerModel" ⟨"PortDrawerModel", "judged", "()I"⟩ ⟨"PortDrawerModel", "judged", "()I"⟩ ∈ tblG := m_s (i := 29) rfl rfl
theorem m_431 : (Jvm.Cond.methodLink "PortDrawerModel" (83 : Nat) ({ cls := "PortDrawerModel", name := "judged", desc := "()I" } : Jvm.MethodName)) ∈ tblG := m_t (i := 431) rfl rfl
theorem m_433 : (Jvm.Cond.instanceMethod ({ cls := "PortDrawerModel", name := "judged", desc := "()I" } : Jvm.MethodName)) ∈ tblG := m_t (i := 433) rfl rfl
theorem m_446 : (Jvm.Cond.code ({ cls := "PortDrawerModel", name := "mayGo", desc := "(I)Z" } : Jvm.MethodName) prog_5_method_21_code (2 : Nat) (Option.some Jvm.ClassFile.FieldType.boolean)) ∈ tblG := m_t (i := 446) rfl rfl
theorem ms_31 : Cond.selects "PortDrawerModel" ⟨"PortDrawerModel", "mayGo", "(I)Z"⟩ ⟨"PortDrawerModel", "mayGo", "(I)Z"⟩ ∈ tblG := m_s (i := 31) rfl rfl
theorem m_443 : (Jvm.Cond.methodLink "PortDrawerModel" (93 : Nat) ({ cls := "PortDrawerModel", name := "mayGo", desc := "(I)Z" } : Jvm.MethodName)) ∈ tblG := m_t (i := 443) rfl rfl
theorem m_445 : (Jvm.Cond.instanceMethod ({ cls := "PortDrawerModel", name := "mayGo", desc := "(I)Z" } : Jvm.MethodName)) ∈ tblG := m_t (i := 445) rfl rfl
theorem d_M_marks_0 : decode b_M_marks 0 = .ok (.aload_n 0, 1) := by decide +kernel
theorem d_M_marks_1 : decode b_M_marks 1 = .ok (.invokevirtual 80, 3) := by decide +kernel
theorem d_M_marks_4 : decode b_M_marks 4 = .ok (.iconst 0, 1) := by decide +kernel
theorem d_M_marks_5 : decode b_M_marks 5 = .ok (.istore_n 2, 1) := by decide +kernel
theorem d_M_marks_6 : decode b_M_marks 6 = .ok (.iload_n 1, 1) := by decide +kernel
theorem d_M_marks_7 : decode b_M_marks 7 = .ok (.istore_n 3, 1) := by decide +kernel
theorem d_M_marks_8 : decode b_M_marks 8 = .ok (.iload_n 3, 1) := by decide +kernel
theorem d_M_marks_9 : decode b_M_marks 9 = .ok (.aload_n 0, 1) := by decide +kernel
theorem d_M_marks_10 : decode b_M_marks 10 = .ok (.getfield 37, 3) := by decide +kernel
theorem d_M_marks_13 : decode b_M_marks 13 = .ok (.if_icmp .ge 89, 3) := by decide +kernel
theorem d_M_marks_16 : decode b_M_marks 16 = .ok (.aload_n 0, 1) := by decide +kernel
theorem d_M_marks_17 : decode b_M_marks 17 = .ok (.getfield 26, 3) := by decide +kernel
theorem d_M_marks_20 : decode b_M_marks 20 = .ok (.iload_n 3, 1) := by decide +kernel
theorem d_M_marks_21 : decode b_M_marks 21 = .ok (.iload_n 3, 1) := by decide +kernel
theorem d_M_marks_22 : decode b_M_marks 22 = .ok (.iload_n 1, 1) := by decide +kernel
theorem d_M_marks_23 : decode b_M_marks 23 = .ok (.if_icmp .eq 50, 3) := by decide +kernel
theorem d_M_marks_26 : decode b_M_marks 26 = .ok (.aload_n 0, 1) := by decide +kernel
theorem d_M_marks_27 : decode b_M_marks 27 = .ok (.getfield 19, 3) := by decide +kernel
theorem d_M_marks_30 : decode b_M_marks 30 = .ok (.iload_n 3, 1) := by decide +kernel
theorem d_M_marks_31 : decode b_M_marks 31 = .ok (.baload, 1) := by decide +kernel
theorem d_M_marks_32 : decode b_M_marks 32 = .ok (.ifCond .eq 45, 3) := by decide +kernel
theorem d_M_marks_35 : decode b_M_marks 35 = .ok (.aload_n 0, 1) := by decide +kernel
theorem d_M_marks_36 : decode b_M_marks 36 = .ok (.getfield 16, 3) := by decide +kernel
theorem d_M_marks_39 : decode b_M_marks 39 = .ok (.iload_n 3, 1) := by decide +kernel
theorem d_M_marks_40 : decode b_M_marks 40 = .ok (.iaload, 1) := by decide +kernel
theorem d_M_marks_41 : decode b_M_marks 41 = .ok (.iconst (-1), 1) := by decide +kernel
theorem d_M_marks_42 : decode b_M_marks 42 = .ok (.if_icmp .eq 35, 3) := by decide +kernel
theorem d_M_marks_45 : decode b_M_marks 45 = .ok (.aload_n 0, 1) := by decide +kernel
theorem d_M_marks_46 : decode b_M_marks 46 = .ok (.getfield 26, 3) := by decide +kernel
theorem d_M_marks_49 : decode b_M_marks 49 = .ok (.aload_n 0, 1) := by decide +kernel
theorem d_M_marks_50 : decode b_M_marks 50 = .ok (.getfield 16, 3) := by decide +kernel
theorem d_M_marks_53 : decode b_M_marks 53 = .ok (.iload_n 3, 1) := by decide +kernel
theorem d_M_marks_54 : decode b_M_marks 54 = .ok (.iaload, 1) := by decide +kernel
theorem d_M_marks_55 : decode b_M_marks 55 = .ok (.iconst (-1), 1) := by decide +kernel
theorem d_M_marks_56 : decode b_M_marks 56 = .ok (.if_icmp .ne 7, 3) := by decide +kernel
theorem d_M_marks_63 : decode b_M_marks 63 = .ok (.aload_n 0, 1) := by decide +kernel
theorem d_M_marks_64 : decode b_M_marks 64 = .ok (.getfield 16, 3) := by decide +kernel
theorem d_M_marks_67 : decode b_M_marks 67 = .ok (.iload_n 3, 1) := by decide +kernel
theorem d_M_marks_68 : decode b_M_marks 68 = .ok (.iaload, 1) := by decide +kernel
theorem d_M_marks_69 : decode b_M_marks 69 = .ok (.baload, 1) := by decide +kernel
theorem d_M_marks_70 : decode b_M_marks 70 = .ok (.ifCond .eq 7, 3) := by decide +kernel
theorem d_M_marks_73 : decode b_M_marks 73 = .ok (.iconst 1, 1) := by decide +kernel
theorem d_M_marks_74 : decode b_M_marks 74 = .ok (.goto 4, 3) := by decide +kernel
theorem d_M_marks_77 : decode b_M_marks 77 = .ok (.iconst 0, 1) := by decide +kernel
theorem d_M_marks_78 : decode b_M_marks 78 = .ok (.bastore, 1) := by decide +kernel
theorem d_M_marks_79 : decode b_M_marks 79 = .ok (.iload_n 2, 1) := by decide +kernel
theorem d_M_marks_80 : decode b_M_marks 80 = .ok (.aload_n 0, 1) := by decide +kernel
theorem d_M_marks_81 : decode b_M_marks 81 = .ok (.getfield 26, 3) := by decide +kernel
theorem d_M_marks_84 : decode b_M_marks 84 = .ok (.iload_n 3, 1) := by decide +kernel
theorem d_M_marks_85 : decode b_M_marks 85 = .ok (.baload, 1) := by decide +kernel
theorem d_M_marks_86 : decode b_M_marks 86 = .ok (.ifCond .eq 7, 3) := by decide +kernel
theorem d_M_marks_89 : decode b_M_marks 89 = .ok (.iconst 1, 1) := by decide +kernel
theorem d_M_marks_90 : decode b_M_marks 90 = .ok (.goto 4, 3) := by decide +kernel
theorem d_M_marks_93 : decode b_M_marks 93 = .ok (.iconst 0, 1) := by decide +kernel
theorem d_M_marks_94 : decode b_M_marks 94 = .ok (.iadd, 1) := by decide +kernel
theorem d_M_marks_95 : decode b_M_marks 95 = .ok (.istore_n 2, 1) := by decide +kernel
theorem d_M_marks_96 : decode b_M_marks 96 = .ok (.iinc 3 1, 3) := by decide +kernel
theorem d_M_marks_99 : decode b_M_marks 99 = .ok (.goto (-91), 3) := by decide +kernel
theorem d_M_marks_102 : decode b_M_marks 102 = .ok (.iload_n 2, 1) := by decide +kernel
theorem d_M_marks_103 : decode b_M_marks 103 = .ok (.ireturn, 1) := by decide +kernel
theorem d_M_judged_0 : decode b_M_judged 0 = .ok (.iconst 0, 1) := by decide +kernel
theorem d_M_judged_1 : decode b_M_judged 1 = .ok (.istore_n 1, 1) := by decide +kernel
theorem d_M_judged_2 : decode b_M_judged 2 = .ok (.iconst 0, 1) := by decide +kernel
theorem d_M_judged_3 : decode b_M_judged 3 = .ok (.istore_n 2, 1) := by decide +kernel
theorem d_M_judged_4 : decode b_M_judged 4 = .ok (.iload_n 2, 1) := by decide +kernel
theorem d_M_judged_5 : decode b_M_judged 5 = .ok (.aload_n 0, 1) := by decide +kernel
theorem d_M_judged_6 : decode b_M_judged 6 = .ok (.getfield 37, 3) := by decide +kernel
theorem d_M_judged_9 : decode b_M_judged 9 = .ok (.if_icmp .ge 81, 3) := by decide +kernel
theorem d_M_judged_12 : decode b_M_judged 12 = .ok (.aload_n 0, 1) := by decide +kernel
theorem d_M_judged_13 : decode b_M_judged 13 = .ok (.getfield 19, 3) := by decide +kernel
theorem d_M_judged_16 : decode b_M_judged 16 = .ok (.iload_n 2, 1) := by decide +kernel
theorem d_M_judged_17 : decode b_M_judged 17 = .ok (.baload, 1) := by decide +kernel
theorem d_M_judged_18 : decode b_M_judged 18 = .ok (.ifCond .eq 66, 3) := by decide +kernel
theorem d_M_judged_21 : decode b_M_judged 21 = .ok (.aload_n 0, 1) := by decide +kernel
theorem d_M_judged_22 : decode b_M_judged 22 = .ok (.getfield 26, 3) := by decide +kernel
theorem d_M_judged_25 : decode b_M_judged 25 = .ok (.iload_n 2, 1) := by decide +kernel
theorem d_M_judged_26 : decode b_M_judged 26 = .ok (.baload, 1) := by decide +kernel
theorem d_M_judged_27 : decode b_M_judged 27 = .ok (.ifCond .ne 57, 3) := by decide +kernel
theorem d_M_judged_30 : decode b_M_judged 30 = .ok (.iload_n 1, 1) := by decide +kernel
theorem d_M_judged_31 : decode b_M_judged 31 = .ok (.aload_n 0, 1) := by decide +kernel
theorem d_M_judged_32 : decode b_M_judged 32 = .ok (.getfield 13, 3) := by decide +kernel
theorem d_M_judged_35 : decode b_M_judged 35 = .ok (.iload_n 2, 1) := by decide +kernel
theorem d_M_judged_36 : decode b_M_judged 36 = .ok (.iaload, 1) := by decide +kernel
theorem d_M_judged_37 : decode b_M_judged 37 = .ok (.bipush 50, 2) := by decide +kernel
theorem d_M_judged_39 : decode b_M_judged 39 = .ok (.if_icmp .lt 14, 3) := by decide +kernel
theorem d_M_judged_42 : decode b_M_judged 42 = .ok (.iconst 1, 1) := by decide +kernel
theorem d_M_judged_43 : decode b_M_judged 43 = .ok (.aload_n 0, 1) := by decide +kernel
theorem d_M_judged_44 : decode b_M_judged 44 = .ok (.getfield 7, 3) := by decide +kernel
theorem d_M_judged_47 : decode b_M_judged 47 = .ok (.iload_n 2, 1) := by decide +kernel
theorem d_M_judged_48 : decode b_M_judged 48 = .ok (.iaload, 1) := by decide +kernel
theorem d_M_judged_49 : decode b_M_judged 49 = .ok (.ishl, 1) := by decide +kernel
theorem d_M_judged_50 : decode b_M_judged 50 = .ok (.goto 4, 3) := by decide +kernel
theorem d_M_judged_53 : decode b_M_judged 53 = .ok (.iconst 0, 1) := by decide +kernel
theorem d_M_judged_54 : decode b_M_judged 54 = .ok (.ior, 1) := by decide +kernel
theorem d_M_judged_55 : decode b_M_judged 55 = .ok (.istore_n 1, 1) := by decide +kernel
theorem d_M_judged_56 : decode b_M_judged 56 = .ok (.iload_n 1, 1) := by decide +kernel
theorem d_M_judged_57 : decode b_M_judged 57 = .ok (.aload_n 0, 1) := by decide +kernel
theorem d_M_judged_58 : decode b_M_judged 58 = .ok (.getfield 7, 3) := by decide +kernel
theorem d_M_judged_61 : decode b_M_judged 61 = .ok (.iload_n 2, 1) := by decide +kernel
theorem d_M_judged_62 : decode b_M_judged 62 = .ok (.iaload, 1) := by decide +kernel
theorem d_M_judged_63 : decode b_M_judged 63 = .ok (.iconst 5, 1) := by decide +kernel
theorem d_M_judged_64 : decode b_M_judged 64 = .ok (.if_icmp .ne 17, 3) := by decide +kernel
theorem d_M_judged_67 : decode b_M_judged 67 = .ok (.aload_n 0, 1) := by decide +kernel
theorem d_M_judged_68 : decode b_M_judged 68 = .ok (.iload_n 2, 1) := by decide +kernel
theorem d_M_judged_69 : decode b_M_judged 69 = .ok (.invokevirtual 77, 3) := by decide +kernel
theorem d_M_judged_72 : decode b_M_judged 72 = .ok (.ifCond .eq 9, 3) := by decide +kernel
theorem d_M_judged_75 : decode b_M_judged 75 = .ok (.sipush 128, 3) := by decide +kernel
theorem d_M_judged_78 : decode b_M_judged 78 = .ok (.goto 4, 3) := by decide +kernel
theorem d_M_judged_81 : decode b_M_judged 81 = .ok (.iconst 0, 1) := by decide +kernel
theorem d_M_judged_82 : decode b_M_judged 82 = .ok (.ior, 1) := by decide +kernel
theorem d_M_judged_83 : decode b_M_judged 83 = .ok (.istore_n 1, 1) := by decide +kernel
theorem d_M_judged_84 : decode b_M_judged 84 = .ok (.iinc 2 1, 3) := by decide +kernel
theorem d_M_judged_87 : decode b_M_judged 87 = .ok (.goto (-83), 3) := by decide +kernel
theorem d_M_judged_90 : decode b_M_judged 90 = .ok (.iload_n 1, 1) := by decide +kernel
theorem d_M_judged_91 : decode b_M_judged 91 = .ok (.ireturn, 1) := by decide +kernel
theorem d_M_mayGo_0 : decode b_M_mayGo 0 = .ok (.aload_n 0, 1) := by decide +kernel
theorem d_M_mayGo_1 : decode b_M_mayGo 1 = .ok (.getfield 19, 3) := by decide +kernel
theorem d_M_mayGo_4 : decode b_M_mayGo 4 = .ok (.iload_n 1, 1) := by decide +kernel
theorem d_M_mayGo_5 : decode b_M_mayGo 5 = .ok (.baload, 1) := by decide +kernel
theorem d_M_mayGo_6 : decode b_M_mayGo 6 = .ok (.ifCond .eq 31, 3) := by decide +kernel
theorem d_M_mayGo_9 : decode b_M_mayGo 9 = .ok (.aload_n 0, 1) := by decide +kernel
theorem d_M_mayGo_10 : decode b_M_mayGo 10 = .ok (.iload_n 1, 1) := by decide +kernel
theorem d_M_mayGo_11 : decode b_M_mayGo 11 = .ok (.invokevirtual 87, 3) := by decide +kernel
theorem d_M_mayGo_14 : decode b_M_mayGo 14 = .ok (.aload_n 0, 1) := by decide +kernel
theorem d_M_mayGo_15 : decode b_M_mayGo 15 = .ok (.invokevirtual 90, 3) := by decide +kernel
theorem d_M_mayGo_18 : decode b_M_mayGo 18 = .ok (.if_icmp .ge 19, 3) := by decide +kernel
theorem d_M_mayGo_21 : decode b_M_mayGo 21 = .ok (.aload_n 0, 1) := by decide +kernel
theorem d_M_mayGo_22 : decode b_M_mayGo 22 = .ok (.getfield 23, 3) := by decide +kernel
theorem d_M_mayGo_25 : decode b_M_mayGo 25 = .ok (.aload_n 0, 1) := by decide +kernel
theorem d_M_mayGo_26 : decode b_M_mayGo 26 = .ok (.invokevirtual 83, 3) := by decide +kernel
theorem d_M_mayGo_29 : decode b_M_mayGo 29 = .ok (.baload, 1) := by decide +kernel
theorem d_M_mayGo_30 : decode b_M_mayGo 30 = .ok (.ifCond .eq 7, 3) := by decide +kernel
theorem d_M_mayGo_33 : decode b_M_mayGo 33 = .ok (.iconst 1, 1) := by decide +kernel
theorem d_M_mayGo_34 : decode b_M_mayGo 34 = .ok (.goto 4, 3) := by decide +kernel
theorem d_M_mayGo_37 : decode b_M_mayGo 37 = .ok (.iconst 0, 1) := by decide +kernel
theorem d_M_mayGo_38 : decode b_M_mayGo 38 = .ok (.ireturn, 1) := by decide +kernel
theorem d_M_first_0 : decode b_M_first 0 = .ok (.iconst 0, 1) := by decide +kernel
theorem d_M_first_1 : decode b_M_first 1 = .ok (.istore_n 1, 1) := by decide +kernel
theorem d_M_first_2 : decode b_M_first 2 = .ok (.iload_n 1, 1) := by decide +kernel
theorem d_M_first_3 : decode b_M_first 3 = .ok (.aload_n 0, 1) := by decide +kernel
theorem d_M_first_4 : decode b_M_first 4 = .ok (.getfield 37, 3) := by decide +kernel
theorem d_M_first_7 : decode b_M_first 7 = .ok (.if_icmp .ge 19, 3) := by decide +kernel
theorem d_M_first_10 : decode b_M_first 10 = .ok (.aload_n 0, 1) := by decide +kernel
theorem d_M_first_11 : decode b_M_first 11 = .ok (.iload_n 1, 1) := by decide +kernel
theorem d_M_first_12 : decode b_M_first 12 = .ok (.invokevirtual 93, 3) := by decide +kernel
theorem d_M_first_15 : decode b_M_first 15 = .ok (.ifCond .eq 5, 3) := by decide +kernel
theorem d_M_first_18 : decode b_M_first 18 = .ok (.iload_n 1, 1) := by decide +kernel
theorem d_M_first_19 : decode b_M_first 19 = .ok (.ireturn, 1) := by decide +kernel
theorem d_M_first_20 : decode b_M_first 20 = .ok (.iinc 1 1, 3) := by decide +kernel
theorem d_M_first_23 : decode b_M_first 23 = .ok (.goto (-21), 3) := by decide +kernel
theorem d_M_first_26 : decode b_M_first 26 = .ok (.iconst (-1), 1) := by decide +kernel
theorem d_M_first_27 : decode b_M_first 27 = .ok (.ireturn, 1) := by decide +kernel
set_option maxHeartbeats 4000000 in
set_option maxRecDepth 100000 in
/-- reference: marks -/
theorem c_M_marks (l : Launch) (dC : Nat → ClassId) (dI : Nat → Nat → Nat) (jm ik iv ir il iy ig : Nat) (n : Nat) (th : Int32) (sd tp : Int64) (dr dl dg : ClassId) (R : Nat → Int32) (L G : Nat → Bool) (i : Nat) (hn : n ≤ 43) (hR : rfK n R) (hi : i < n) (sz : Nat) : Met l y_M_marks w_M_marks ({ frames := 1, cells := 0, slots := 0, locals := 21 }) (wr_P dC dI [.ref jm, .int (nI i)] [(jm, .inr (3, [.int th, .long sd, .long tp, .int (nI n), .ref ik, .ref iv, .ref ir, .ref il, .ref iy, .ref ig])), (ir, .inl (dr, 86, .inl R)), (il, .inl (dl, 43, .inl (bF L))), (ig, .inl (dg, 43, .inl (bF G)))] [(dr, .int), (dl, .boolean), (dg, .boolean)] sz) (va_Qi (fun (r : Int32) (_ : Unit) => r = nI (cnt (mkB R L i) n)) (fun (u : Unit) => wr_B dC dI (va_A [(jm, .inr (3, [.int th, .long sd, .long tp, .int (nI n), .ref ik, .ref iv, .ref ir, .ref il, .ref iy, .ref ig])), (ir, .inl (dr, 86, .inl R)), (il, .inl (dl, 43, .inl (bF L))), (ig, .inl (dg, 43, .inl (bF G)))] sz) [(jm, .inr (3, [.int th, .long sd, .long tp, .int (nI n), .ref ik, .ref iv, .ref ir, .ref il, .ref iy, .ref ig])), (ir, .inl (dr, 86, .inl R)), (il, .inl (dl, 43, .inl (bF L))), (ig, .inl (dg, 43, .inl (bF (mkF R L i n))))] [(dr, .int), (dl, .boolean), (dg, .boolean)]) (va_A [(jm, .inr (3, [.int th, .long sd, .long tp, .int (nI n), .ref ik, .ref iv, .ref ir, .ref il, .ref iy, .ref ig])), (ir, .inl (dr, 86, .inl R)), (il, .inl (dl, 43, .inl (bF L))), (ig, .inl (dg, 43, .inl (bF G)))] sz)) 0 0 (va_A [(jm, .inr (3, [.int th, .long sd, .long tp, .int (nI n), .ref ik, .ref iv, .ref ir, .ref il, .ref iy, .ref ig])), (ir, .inl (dr, 86, .inl R)), (il, .inl (dl, 43, .inl (bF L))), (ig, .inl (dg, 43, .inl (bF G)))] sz) := by
  refine Met.ofW (cc := b_M_marks) (maxL := 4) (ret := (Option.some Jvm.ClassFile.FieldType.int)) (by decide) rfl ?_
  intro p e s m args below meth c s₁ B0 hml hv0
  obtain ⟨rfl, hsz, hP, hK, hD0, hN⟩ := hv0
  have hx := B0.exec
  have hb := B0.bytes
  have hr := B0.returns
  have hts := atoms_spec (ws := w_M_marks) B0.pre
  have hown : s.vm.findClass R_M = some m.cls := findClass_of_methodNamed B0.named
  have hlocks := B0.notSynchronized
  subst hsz
  have hD := hD0.self (sz := s.heap.size)
  generalize hAe : va_A [(jm, .inr (3, [.int th, .long sd, .long tp, .int (nI n), .ref ik, .ref iv, .ref ir, .ref il, .ref iy, .ref ig])), (ir, .inl (dr, 86, .inl R)), (il, .inl (dl, 43, .inl (bF L))), (ig, .inl (dg, 43, .inl (bF G)))] s.heap.size = A at hD ⊢
  have hA : ∀ q : Nat, s.heap.size ≤ q → A q := fun q h => by rw [← hAe]; exact Or.inr h
  have hS : va_S A s.heap s.heap [] := va_S.rf
  have hP : va_P (dC, dI) classes [(jm, .inr (3, [.int th, .long sd, .long tp, .int (nI n), .ref ik, .ref iv, .ref ir, .ref il, .ref iy, .ref ig])), (ir, .inl (dr, 86, .inl R)), (il, .inl (dl, 43, .inl (bF L))), (ig, .inl (dg, 43, .inl (bF G)))] s.heap := hP
  have hl := lv_entry ([.ref jm, .int (nI i)]) (n := 4) (Nat.le_of_ble_eq_true rfl)
  rw [lg_entry_eq]
  generalize (lg_sl ([.ref jm, .int (nI i)]) ++ List.replicate (4 - (lg_sl ([.ref jm, .int (nI i)])).length) Slot.unset).toArray = ls at hl ⊢
  have hl : lv_has ls 4 [(0, .ref jm), (1, .int (nI i))] := hl
  refine lv_aload_n hx hb d_M_marks_0 rfl (lv_at hl 0 rfl) ?_
  have hPc := hP.sub (ws' := [(jm, .inr (3, [.int th, .long sd, .long tp, .int (nI n), .ref ik, .ref iv, .ref ir, .ref il, .ref iy, .ref ig])), (ig, .inl (dg, 43, .inl (bF G)))]) [0, 3] rfl
  have hKc := hK.sub (tys' := [(dg, .boolean)]) [2] rfl
  have hDc := hD.sub (ws' := [(jm, .inr (3, [.int th, .long sd, .long tp, .int (nI n), .ref ik, .ref iv, .ref ir, .ref il, .ref iy, .ref ig])), (ig, .inl (dg, 43, .inl (bF G)))]) [0, 3] (by decide) rfl
  have hFc := va_free (wc := [(jm, .inr (3, [.int th, .long sd, .long tp, .int (nI n), .ref ik, .ref iv, .ref ir, .ref il, .ref iy, .ref ig])), (ig, .inl (dg, 43, .inl (bF G)))]) hD hS hA [0, 3] rfl
  refine va_callv (va_runV (As := []) (rest := []) ⟨hx, hb, hml, hown, hts⟩ (c_M_none l dC dI jm ik iv ir il iy ig n th sd tp dg G _) (cwV 0 hts (g_V big_w m_427 m_429 ms_28 m_4 m_430) rfl rfl rfl (by decide +kernel) ⟨Nat.le_of_ble_eq_true rfl, Nat.le_of_ble_eq_true rfl⟩) (wr_V hPc hKc hDc hN (va_recv hKc hPc (ci := 3) (q0 := 0) rfl rfl)) rfl rfl hl.1 rfl (lv_room (Nat.le_of_ble_eq_true rfl)) d_M_marks_1 ⟨Nat.le_of_ble_eq_true rfl, Nat.le_of_ble_eq_true rfl⟩) hS (fun q _ h => hFc q h) hFc (fun u t H1 locs ht hvm hw hB hz1 hk1 hS => ?_)
  obtain ⟨hP1, hK1, hD1⟩ := hB
  rw [ht] at hP1
  obtain ⟨hP, hD⟩ := va_join (wr := [(ir, .inl (dr, 86, .inl R)), (il, .inl (dl, 43, .inl (bF L)))]) (w1 := [(jm, .inr (3, [.int th, .long sd, .long tp, .int (nI n), .ref ik, .ref iv, .ref ir, .ref il, .ref iy, .ref ig])), (ig, .inl (dg, 43, .inl (bF fF)))]) hP hD [0, 3] [1, 2] rfl rfl (by decide) (by decide) hk1 hFc hP1 hD1
  generalize H1 = H at hP hS ⊢
  have hP : va_P (dC, dI) classes [(ir, .inl (dr, 86, .inl R)), (il, .inl (dl, 43, .inl (bF L))), (jm, .inr (3, [.int th, .long sd, .long tp, .int (nI n), .ref ik, .ref iv, .ref ir, .ref il, .ref iy, .ref ig])), (ig, .inl (dg, 43, .inl (bF fF)))] H := hP
  have hD : va_D A [(ir, .inl (dr, 86, .inl R)), (il, .inl (dl, 43, .inl (bF L))), (jm, .inr (3, [.int th, .long sd, .long tp, .int (nI n), .ref ik, .ref iv, .ref ir, .ref il, .ref iy, .ref ig])), (ig, .inl (dg, 43, .inl (bF fF)))] := hD
  rw [show (bF fF) = (bF (mkF R L i i)) from (congrArg bF (mkF_0 R L i))] at hP hD
  refine lv_iconst (v := nI 0) hx hb d_M_marks_4 (by decide +kernel) ?_
  refine lv_istore_n (lv' := [(2, .int (nI 0)), (0, .ref jm), (1, .int (nI i))]) hx hb d_M_marks_5 rfl hl (by decide) rfl (fun ls hl => ?_)
  refine lv_iload_n hx hb d_M_marks_6 rfl (lv_at hl 2 rfl) ?_
  refine lv_istore_n (lv' := [(3, .int (nI i)), (2, .int (nI 0)), (0, .ref jm), (1, .int (nI i))]) hx hb d_M_marks_7 rfl hl (by decide) rfl (fun ls hl => ?_)
  rw [show nI 0 = nI (cnt (mkB R L i) i) from (by rw [mkB_0])] at hl
  have lp_8 : ∀ (k9_8 : Nat), ∀ (k : Nat), n - k < k9_8 → (i ≤ k) → (k ≤ n) → ∀ (H : Heap) (locs : List Loc), va_P (dC, dI) classes [(jm, .inr (3, [.int th, .long sd, .long tp, .int (nI n), .ref ik, .ref iv, .ref ir, .ref il, .ref iy, .ref ig])), (ir, .inl (dr, 86, .inl R)), (il, .inl (dl, 43, .inl (bF L))), (ig, .inl (dg, 43, .inl (bF (mkF R L i k))))] H → va_D A [(jm, .inr (3, [.int th, .long sd, .long tp, .int (nI n), .ref ik, .ref iv, .ref ir, .ref il, .ref iy, .ref ig])), (ir, .inl (dr, 86, .inl R)), (il, .inl (dl, 43, .inl (bF L))), (ig, .inl (dg, 43, .inl (bF (mkF R L i k))))] → va_S A s.heap H locs → ∀ (ls : Array Slot), lv_has ls 4 [(0, .ref jm), (1, .int (nI i)), (2, .int (nI (cnt (mkB R L i) k))), (3, .int (nI k))] → W p l e (headSpec w_M_marks ({ frames := 1, cells := 0, slots := 0, locals := 21 })).room s m ([.ref jm, .int (nI i)]).toArray below meth c H locs 0 0 (MQ below (va_Qi (fun (r : Int32) (_ : Unit) => r = nI (cnt (mkB R L i) n)) (fun (u : Unit) => wr_B dC dI (A) [(jm, .inr (3, [.int th, .long sd, .long tp, .int (nI n), .ref ik, .ref iv, .ref ir, .ref il, .ref iy, .ref ig])), (ir, .inl (dr, 86, .inl R)), (il, .inl (dl, 43, .inl (bF L))), (ig, .inl (dg, 43, .inl (bF (mkF R L i n))))] [(dr, .int), (dl, .boolean), (dg, .boolean)]) (A)) ([.ref jm, .int (nI i)]).toArray s 0 0 A) (F0 m 8 ls []) := by
    intro k9_8
    induction k9_8 with
    | zero =>
      intro k hk9
      exact absurd hk9 (Nat.not_lt_zero _)
    | succ k9_8 ih_8 =>
      intro k hk9_8 hik hk H locs hP hD hS ls hl
      have hck := cnt_le (mkB R L i) k
      refine lv_iload_n hx hb d_M_marks_8 rfl (lv_at hl 3 rfl) ?_
      refine lv_aload_n hx hb d_M_marks_9 rfl (lv_at hl 0 rfl) ?_
      refine va_get (D := (dC, dI)) (ci := 3) (v := .int (nI n)) (C := R_M) (T := F_M) (N := 10) hx hb hts (lay_M _) hown hK hP 0 rfl rfl 3 (by decide) (hts _ (List.mem_cons_of_mem _ m_339)) (fun _ h9 => h9) rfl d_M_marks_10 ?_
      refine lv_icmp_ge (tgt := 102) hx hb d_M_marks_13 (by decide) (fun c_13 => ?_) (fun c_13 => ?_)
      · skip
        have c_13 := (nI_leI (by omega) (by omega)).mp c_13
        refine lv_iload_n hx hb d_M_marks_102 rfl (lv_at hl 2 rfl) ?_
        rw [show k = n by omega] at hP hD
        have hP9 := hP.sub (ws' := [(jm, .inr (3, [.int th, .long sd, .long tp, .int (nI n), .ref ik, .ref iv, .ref ir, .ref il, .ref iy, .ref ig])), (ir, .inl (dr, 86, .inl R)), (il, .inl (dl, 43, .inl (bF L))), (ig, .inl (dg, 43, .inl (bF (mkF R L i n))))]) [0, 1, 2, 3] rfl
        have hD9 := hD.sub (ws' := [(jm, .inr (3, [.int th, .long sd, .long tp, .int (nI n), .ref ik, .ref iv, .ref ir, .ref il, .ref iy, .ref ig])), (ir, .inl (dr, 86, .inl R)), (il, .inl (dl, 43, .inl (bF L))), (ig, .inl (dg, 43, .inl (bF (mkF R L i n))))]) [0, 1, 2, 3] (by decide) rfl
        have hK9 := hK.sub (tys' := [(dr, .int), (dl, .boolean), (dg, .boolean)]) [0, 1, 2] rfl
        exact W.iret (v := nI (cnt (mkB R L i) k)) hx hb hr (fun t ht hW => ⟨⟨nI (cnt (mkB R L i) k), (), rfl, (by rw [show k = n by omega]), by rw [ht]; exact hP9, va_K.moved hW.alike hK9, hD9⟩, hS.F ht⟩) hS.2.2 d_M_marks_103
      · skip
        have c_13 := (not_congr (nI_leI (by omega) (by omega))).mp c_13
        refine lv_aload_n hx hb d_M_marks_16 rfl (lv_at hl 0 rfl) ?_
        refine va_get (D := (dC, dI)) (ci := 3) (v := .ref ig) (C := R_M) (T := F_M) (N := 10) hx hb hts (lay_M _) hown hK hP 0 rfl rfl 9 (by decide) (hts _ (List.mem_cons_of_mem _ m_345)) (fun _ h9 => h9) rfl d_M_marks_17 ?_
        refine lv_iload_n hx hb d_M_marks_20 rfl (lv_at hl 3 rfl) ?_
        refine lv_iload_n hx hb d_M_marks_21 rfl (lv_at hl 3 rfl) ?_
        refine lv_iload_n hx hb d_M_marks_22 rfl (lv_at hl 1 rfl) ?_
        refine lv_icmp_eq (tgt := 73) hx hb d_M_marks_23 (by decide) (fun c_23 => ?_) (fun c_23 => ?_)
        · skip
          have c_23 := (nI_eq (by omega) (by omega)).mp c_23
          refine lv_iconst (v := nI 1) hx hb d_M_marks_73 (by decide +kernel) ?_
          refine lv_topi (fun w_2 ew_2 => ?_)
          have ew_2 : (bI (mkB R L i k)) = w_2 := (ew_2.trans (by first | (rw [c_70]; rfl) | (rw [c_23, mkB_i]; rfl))).symm
          subst ew_2
          refine lv_goto (tgt := 78) hx hb d_M_marks_74 (by decide) ?_
          refine va_zast hx hb hK hP hD hS 3 2 rfl rfl (vp_in_nI (by omega) (by omega)) d_M_marks_78 (fun H locs hP hD hS => ?_)
          rw [nI_clamp (by omega)] at hP hD
          rw [bI_vp] at hP hD
          have hP : va_P (dC, dI) classes [(jm, .inr (3, [.int th, .long sd, .long tp, .int (nI n), .ref ik, .ref iv, .ref ir, .ref il, .ref iy, .ref ig])), (ir, .inl (dr, 86, .inl R)), (il, .inl (dl, 43, .inl (bF L))), (ig, .inl (dg, 43, .inl (upd (bF (mkF R L i k)) k (bI (mkB R L i k)))))] H := hP
          have hD : va_D A [(jm, .inr (3, [.int th, .long sd, .long tp, .int (nI n), .ref ik, .ref iv, .ref ir, .ref il, .ref iy, .ref ig])), (ir, .inl (dr, 86, .inl R)), (il, .inl (dl, 43, .inl (bF L))), (ig, .inl (dg, 43, .inl (upd (bF (mkF R L i k)) k (bI (mkB R L i k)))))] := hD
          rw [show (upd (bF (mkF R L i k)) k (bI (mkB R L i k))) = (bF (mkF R L i (k + 1))) from ((bF_up _ _ _).trans (congrArg bF (mkF_s rfl)))] at hP hD
          refine lv_iload_n hx hb d_M_marks_79 rfl (lv_at hl 2 rfl) ?_
          refine lv_aload_n hx hb d_M_marks_80 rfl (lv_at hl 0 rfl) ?_
          refine va_get (D := (dC, dI)) (ci := 3) (v := .ref ig) (C := R_M) (T := F_M) (N := 10) hx hb hts (lay_M _) hown hK hP 0 rfl rfl 9 (by decide) (hts _ (List.mem_cons_of_mem _ m_345)) (fun _ h9 => h9) rfl d_M_marks_81 ?_
          refine lv_iload_n hx hb d_M_marks_84 rfl (lv_at hl 3 rfl) ?_
          refine va_zald hx hb hK hP 3 2 rfl rfl (vp_in_nI (by omega) (by omega)) d_M_marks_85 ?_
          refine lv_topi (fun w_3 ew_3 => ?_)
          have ew_3 : (bI (mkB R L i k)) = w_3 := (ew_3.trans (by rw [nI_clamp (by omega)]; show bI (mkF R L i (k + 1) k) = _; rw [mkF_at (by omega)])).symm
          subst ew_3
          refine lv_if_eq (tgt := 93) hx hb d_M_marks_86 (by decide) (fun c_86 => ?_) (fun c_86 => ?_)
          · skip
            have c_86 := bI_f c_86
            refine lv_iconst (v := nI 0) hx hb d_M_marks_93 (by decide +kernel) ?_
            refine lv_iadd hx hb d_M_marks_94 ?_
            refine lv_topi (fun w_4 ew_4 => ?_)
            have ew_4 : (nI (cnt (mkB R L i) (k + 1))) = w_4 := (ew_4.trans (by first | (rw [cnt_t (P := mkB R L i) (n := k) c_86]; exact nI_add _ _) | (rw [cnt_f (P := mkB R L i) (n := k) c_86]; exact nI_add _ _))).symm
            subst ew_4
            refine lv_istore_n (lv' := [(2, .int (nI (cnt (mkB R L i) (k + 1)))), (0, .ref jm), (1, .int (nI i)), (3, .int (nI k))]) hx hb d_M_marks_95 rfl hl (by decide) rfl (fun ls hl => ?_)
            refine lv_iinc (v := nI (k + 1)) (lv' := [(3, .int (nI (k + 1))), (2, .int (nI (cnt (mkB R L i) (k + 1)))), (0, .ref jm), (1, .int (nI i))]) hx hb d_M_marks_96 hl (k := 3) rfl (nI_1 _) (by decide) rfl (fun ls hl => ?_)
            refine lv_goto (tgt := 8) hx hb d_M_marks_99 (by decide) ?_
            exact ih_8 (k + 1) (by omega) (by omega) (by omega) _ _ (hP.sub (ws' := [(jm, .inr (3, [.int th, .long sd, .long tp, .int (nI n), .ref ik, .ref iv, .ref ir, .ref il, .ref iy, .ref ig])), (ir, .inl (dr, 86, .inl R)), (il, .inl (dl, 43, .inl (bF L))), (ig, .inl (dg, 43, .inl (bF (mkF R L i (k + 1)))))]) [0, 1, 2, 3] rfl) (hD.sub (ws' := [(jm, .inr (3, [.int th, .long sd, .long tp, .int (nI n), .ref ik, .ref iv, .ref ir, .ref il, .ref iy, .ref ig])), (ir, .inl (dr, 86, .inl R)), (il, .inl (dl, 43, .inl (bF L))), (ig, .inl (dg, 43, .inl (bF (mkF R L i (k + 1)))))]) [0, 1, 2, 3] (by decide) rfl) hS ls (lv_sub (l' := [(0, .ref jm), (1, .int (nI i)), (2, .int (nI (cnt (mkB R L i) (k + 1)))), (3, .int (nI (k + 1)))]) hl [2, 3, 1, 0] rfl)
          · skip
            have c_86 := bI_t c_86
            refine lv_iconst (v := nI 1) hx hb d_M_marks_89 (by decide +kernel) ?_
            refine lv_goto (tgt := 94) hx hb d_M_marks_90 (by decide) ?_
            refine lv_iadd hx hb d_M_marks_94 ?_
            refine lv_topi (fun w_5 ew_5 => ?_)
            have ew_5 : (nI (cnt (mkB R L i) (k + 1))) = w_5 := (ew_5.trans (by first | (rw [cnt_t (P := mkB R L i) (n := k) c_86]; exact nI_add _ _) | (rw [cnt_f (P := mkB R L i) (n := k) c_86]; exact nI_add _ _))).symm
            subst ew_5
            refine lv_istore_n (lv' := [(2, .int (nI (cnt (mkB R L i) (k + 1)))), (0, .ref jm), (1, .int (nI i)), (3, .int (nI k))]) hx hb d_M_marks_95 rfl hl (by decide) rfl (fun ls hl => ?_)
            refine lv_iinc (v := nI (k + 1)) (lv' := [(3, .int (nI (k + 1))), (2, .int (nI (cnt (mkB R L i) (k + 1)))), (0, .ref jm), (1, .int (nI i))]) hx hb d_M_marks_96 hl (k := 3) rfl (nI_1 _) (by decide) rfl (fun ls hl => ?_)
            refine lv_goto (tgt := 8) hx hb d_M_marks_99 (by decide) ?_
            exact ih_8 (k + 1) (by omega) (by omega) (by omega) _ _ (hP.sub (ws' := [(jm, .inr (3, [.int th, .long sd, .long tp, .int (nI n), .ref ik, .ref iv, .ref ir, .ref il, .ref iy, .ref ig])), (ir, .inl (dr, 86, .inl R)), (il, .inl (dl, 43, .inl (bF L))), (ig, .inl (dg, 43, .inl (bF (mkF R L i (k + 1)))))]) [0, 1, 2, 3] rfl) (hD.sub (ws' := [(jm, .inr (3, [.int th, .long sd, .long tp, .int (nI n), .ref ik, .ref iv, .ref ir, .ref il, .ref iy, .ref ig])), (ir, .inl (dr, 86, .inl R)), (il, .inl (dl, 43, .inl (bF L))), (ig, .inl (dg, 43, .inl (bF (mkF R L i (k + 1)))))]) [0, 1, 2, 3] (by decide) rfl) hS ls (lv_sub (l' := [(0, .ref jm), (1, .int (nI i)), (2, .int (nI (cnt (mkB R L i) (k + 1)))), (3, .int (nI (k + 1)))]) hl [2, 3, 1, 0] rfl)
        · skip
          have c_23 := (not_congr (nI_eq (by omega) (by omega))).mp c_23
          refine lv_aload_n hx hb d_M_marks_26 rfl (lv_at hl 0 rfl) ?_
          refine va_get (D := (dC, dI)) (ci := 3) (v := .ref il) (C := R_M) (T := F_M) (N := 10) hx hb hts (lay_M _) hown hK hP 0 rfl rfl 7 (by decide) (hts _ (List.mem_cons_of_mem _ m_343)) (fun _ h9 => h9) rfl d_M_marks_27 ?_
          refine lv_iload_n hx hb d_M_marks_30 rfl (lv_at hl 3 rfl) ?_
          refine va_zald hx hb hK hP 2 1 rfl rfl (vp_in_nI (by omega) (by omega)) d_M_marks_31 ?_
          refine lv_topi (fun w_6 ew_6 => ?_)
          have ew_6 : (bI (L k)) = w_6 := (ew_6.trans (by rw [nI_clamp (by omega)]; rfl)).symm
          subst ew_6
          refine lv_if_eq (tgt := 77) hx hb d_M_marks_32 (by decide) (fun c_32 => ?_) (fun c_32 => ?_)
          · skip
            have c_32 := bI_f c_32
            refine lv_iconst (v := nI 0) hx hb d_M_marks_77 (by decide +kernel) ?_
            refine lv_topi (fun w_7 ew_7 => ?_)
            have ew_7 : (bI (mkB R L i k)) = w_7 := (ew_7.trans (by first | (rw [c_70]; rfl) | (rw [mkB_N c_23 c_42]; rfl) | (rw [mkB_L c_23 c_32]; rfl))).symm
            subst ew_7
            refine va_zast hx hb hK hP hD hS 3 2 rfl rfl (vp_in_nI (by omega) (by omega)) d_M_marks_78 (fun H locs hP hD hS => ?_)
            rw [nI_clamp (by omega)] at hP hD
            rw [bI_vp] at hP hD
            have hP : va_P (dC, dI) classes [(jm, .inr (3, [.int th, .long sd, .long tp, .int (nI n), .ref ik, .ref iv, .ref ir, .ref il, .ref iy, .ref ig])), (ir, .inl (dr, 86, .inl R)), (il, .inl (dl, 43, .inl (bF L))), (ig, .inl (dg, 43, .inl (upd (bF (mkF R L i k)) k (bI (mkB R L i k)))))] H := hP
            have hD : va_D A [(jm, .inr (3, [.int th, .long sd, .long tp, .int (nI n), .ref ik, .ref iv, .ref ir, .ref il, .ref iy, .ref ig])), (ir, .inl (dr, 86, .inl R)), (il, .inl (dl, 43, .inl (bF L))), (ig, .inl (dg, 43, .inl (upd (bF (mkF R L i k)) k (bI (mkB R L i k)))))] := hD
            rw [show (upd (bF (mkF R L i k)) k (bI (mkB R L i k))) = (bF (mkF R L i (k + 1))) from ((bF_up _ _ _).trans (congrArg bF (mkF_s rfl)))] at hP hD
            refine lv_iload_n hx hb d_M_marks_79 rfl (lv_at hl 2 rfl) ?_
            refine lv_aload_n hx hb d_M_marks_80 rfl (lv_at hl 0 rfl) ?_
            refine va_get (D := (dC, dI)) (ci := 3) (v := .ref ig) (C := R_M) (T := F_M) (N := 10) hx hb hts (lay_M _) hown hK hP 0 rfl rfl 9 (by decide) (hts _ (List.mem_cons_of_mem _ m_345)) (fun _ h9 => h9) rfl d_M_marks_81 ?_
            refine lv_iload_n hx hb d_M_marks_84 rfl (lv_at hl 3 rfl) ?_
            refine va_zald hx hb hK hP 3 2 rfl rfl (vp_in_nI (by omega) (by omega)) d_M_marks_85 ?_
            refine lv_topi (fun w_8 ew_8 => ?_)
            have ew_8 : (bI (mkB R L i k)) = w_8 := (ew_8.trans (by rw [nI_clamp (by omega)]; show bI (mkF R L i (k + 1) k) = _; rw [mkF_at (by omega)])).symm
            subst ew_8
            refine lv_if_eq (tgt := 93) hx hb d_M_marks_86 (by decide) (fun c_86 => ?_) (fun c_86 => ?_)
            · skip
              have c_86 := bI_f c_86
              refine lv_iconst (v := nI 0) hx hb d_M_marks_93 (by decide +kernel) ?_
              refine lv_iadd hx hb d_M_marks_94 ?_
              refine lv_topi (fun w_9 ew_9 => ?_)
              have ew_9 : (nI (cnt (mkB R L i) (k + 1))) = w_9 := (ew_9.trans (by first | (rw [cnt_t (P := mkB R L i) (n := k) c_86]; exact nI_add _ _) | (rw [cnt_f (P := mkB R L i) (n := k) c_86]; exact nI_add _ _))).symm
              subst ew_9
              refine lv_istore_n (lv' := [(2, .int (nI (cnt (mkB R L i) (k + 1)))), (0, .ref jm), (1, .int (nI i)), (3, .int (nI k))]) hx hb d_M_marks_95 rfl hl (by decide) rfl (fun ls hl => ?_)
              refine lv_iinc (v := nI (k + 1)) (lv' := [(3, .int (nI (k + 1))), (2, .int (nI (cnt (mkB R L i) (k + 1)))), (0, .ref jm), (1, .int (nI i))]) hx hb d_M_marks_96 hl (k := 3) rfl (nI_1 _) (by decide) rfl (fun ls hl => ?_)
              refine lv_goto (tgt := 8) hx hb d_M_marks_99 (by decide) ?_
              exact ih_8 (k + 1) (by omega) (by omega) (by omega) _ _ (hP.sub (ws' := [(jm, .inr (3, [.int th, .long sd, .long tp, .int (nI n), .ref ik, .ref iv, .ref ir, .ref il, .ref iy, .ref ig])), (ir, .inl (dr, 86, .inl R)), (il, .inl (dl, 43, .inl (bF L))), (ig, .inl (dg, 43, .inl (bF (mkF R L i (k + 1)))))]) [0, 1, 2, 3] rfl) (hD.sub (ws' := [(jm, .inr (3, [.int th, .long sd, .long tp, .int (nI n), .ref ik, .ref iv, .ref ir, .ref il, .ref iy, .ref ig])), (ir, .inl (dr, 86, .inl R)), (il, .inl (dl, 43, .inl (bF L))), (ig, .inl (dg, 43, .inl (bF (mkF R L i (k + 1)))))]) [0, 1, 2, 3] (by decide) rfl) hS ls (lv_sub (l' := [(0, .ref jm), (1, .int (nI i)), (2, .int (nI (cnt (mkB R L i) (k + 1)))), (3, .int (nI (k + 1)))]) hl [2, 3, 1, 0] rfl)
            · skip
              have c_86 := bI_t c_86
              refine lv_iconst (v := nI 1) hx hb d_M_marks_89 (by decide +kernel) ?_
              refine lv_goto (tgt := 94) hx hb d_M_marks_90 (by decide) ?_
              refine lv_iadd hx hb d_M_marks_94 ?_
              refine lv_topi (fun w_10 ew_10 => ?_)
              have ew_10 : (nI (cnt (mkB R L i) (k + 1))) = w_10 := (ew_10.trans (by first | (rw [cnt_t (P := mkB R L i) (n := k) c_86]; exact nI_add _ _) | (rw [cnt_f (P := mkB R L i) (n := k) c_86]; exact nI_add _ _))).symm
              subst ew_10
              refine lv_istore_n (lv' := [(2, .int (nI (cnt (mkB R L i) (k + 1)))), (0, .ref jm), (1, .int (nI i)), (3, .int (nI k))]) hx hb d_M_marks_95 rfl hl (by decide) rfl (fun ls hl => ?_)
              refine lv_iinc (v := nI (k + 1)) (lv' := [(3, .int (nI (k + 1))), (2, .int (nI (cnt (mkB R L i) (k + 1)))), (0, .ref jm), (1, .int (nI i))]) hx hb d_M_marks_96 hl (k := 3) rfl (nI_1 _) (by decide) rfl (fun ls hl => ?_)
              refine lv_goto (tgt := 8) hx hb d_M_marks_99 (by decide) ?_
              exact ih_8 (k + 1) (by omega) (by omega) (by omega) _ _ (hP.sub (ws' := [(jm, .inr (3, [.int th, .long sd, .long tp, .int (nI n), .ref ik, .ref iv, .ref ir, .ref il, .ref iy, .ref ig])), (ir, .inl (dr, 86, .inl R)), (il, .inl (dl, 43, .inl (bF L))), (ig, .inl (dg, 43, .inl (bF (mkF R L i (k + 1)))))]) [0, 1, 2, 3] rfl) (hD.sub (ws' := [(jm, .inr (3, [.int th, .long sd, .long tp, .int (nI n), .ref ik, .ref iv, .ref ir, .ref il, .ref iy, .ref ig])), (ir, .inl (dr, 86, .inl R)), (il, .inl (dl, 43, .inl (bF L))), (ig, .inl (dg, 43, .inl (bF (mkF R L i (k + 1)))))]) [0, 1, 2, 3] (by decide) rfl) hS ls (lv_sub (l' := [(0, .ref jm), (1, .int (nI i)), (2, .int (nI (cnt (mkB R L i) (k + 1)))), (3, .int (nI (k + 1)))]) hl [2, 3, 1, 0] rfl)
          · skip
            have c_32 := bI_t c_32
            refine lv_aload_n hx hb d_M_marks_35 rfl (lv_at hl 0 rfl) ?_
            refine va_get (D := (dC, dI)) (ci := 3) (v := .ref ir) (C := R_M) (T := F_M) (N := 10) hx hb hts (lay_M _) hown hK hP 0 rfl rfl 6 (by decide) (hts _ (List.mem_cons_of_mem _ m_342)) (fun _ h9 => h9) rfl d_M_marks_36 ?_
            refine lv_iload_n hx hb d_M_marks_39 rfl (lv_at hl 3 rfl) ?_
            refine va_iald hx hb hK hP 1 0 rfl rfl (vp_in_nI (by omega) (by omega)) d_M_marks_40 ?_
            refine lv_topi (fun w_11 ew_11 => ?_)
            rw [nI_clamp (by omega)] at ew_11
            have ew_11 := ew_11.symm
            subst ew_11
            refine lv_iconst (v := (-1)) hx hb d_M_marks_41 (by decide +kernel) ?_
            refine lv_icmp_eq (tgt := 77) hx hb d_M_marks_42 (by decide) (fun c_42 => ?_) (fun c_42 => ?_)
            · skip
              refine lv_iconst (v := nI 0) hx hb d_M_marks_77 (by decide +kernel) ?_
              refine lv_topi (fun w_12 ew_12 => ?_)
              have ew_12 : (bI (mkB R L i k)) = w_12 := (ew_12.trans (by first | (rw [c_70]; rfl) | (rw [mkB_N c_23 c_42]; rfl) | (rw [mkB_L c_23 c_32]; rfl))).symm
              subst ew_12
              refine va_zast hx hb hK hP hD hS 3 2 rfl rfl (vp_in_nI (by omega) (by omega)) d_M_marks_78 (fun H locs hP hD hS => ?_)
              rw [nI_clamp (by omega)] at hP hD
              rw [bI_vp] at hP hD
              have hP : va_P (dC, dI) classes [(jm, .inr (3, [.int th, .long sd, .long tp, .int (nI n), .ref ik, .ref iv, .ref ir, .ref il, .ref iy, .ref ig])), (ir, .inl (dr, 86, .inl R)), (il, .inl (dl, 43, .inl (bF L))), (ig, .inl (dg, 43, .inl (upd (bF (mkF R L i k)) k (bI (mkB R L i k)))))] H := hP
              have hD : va_D A [(jm, .inr (3, [.int th, .long sd, .long tp, .int (nI n), .ref ik, .ref iv, .ref ir, .ref il, .ref iy, .ref ig])), (ir, .inl (dr, 86, .inl R)), (il, .inl (dl, 43, .inl (bF L))), (ig, .inl (dg, 43, .inl (upd (bF (mkF R L i k)) k (bI (mkB R L i k)))))] := hD
              rw [show (upd (bF (mkF R L i k)) k (bI (mkB R L i k))) = (bF (mkF R L i (k + 1))) from ((bF_up _ _ _).trans (congrArg bF (mkF_s rfl)))] at hP hD
              refine lv_iload_n hx hb d_M_marks_79 rfl (lv_at hl 2 rfl) ?_
              refine lv_aload_n hx hb d_M_marks_80 rfl (lv_at hl 0 rfl) ?_
              refine va_get (D := (dC, dI)) (ci := 3) (v := .ref ig) (C := R_M) (T := F_M) (N := 10) hx hb hts (lay_M _) hown hK hP 0 rfl rfl 9 (by decide) (hts _ (List.mem_cons_of_mem _ m_345)) (fun _ h9 => h9) rfl d_M_marks_81 ?_
              refine lv_iload_n hx hb d_M_marks_84 rfl (lv_at hl 3 rfl) ?_
              refine va_zald hx hb hK hP 3 2 rfl rfl (vp_in_nI (by omega) (by omega)) d_M_marks_85 ?_
              refine lv_topi (fun w_13 ew_13 => ?_)
              have ew_13 : (bI (mkB R L i k)) = w_13 := (ew_13.trans (by rw [nI_clamp (by omega)]; show bI (mkF R L i (k + 1) k) = _; rw [mkF_at (by omega)])).symm
              subst ew_13
              refine lv_if_eq (tgt := 93) hx hb d_M_marks_86 (by decide) (fun c_86 => ?_) (fun c_86 => ?_)
              · skip
                have c_86 := bI_f c_86
                refine lv_iconst (v := nI 0) hx hb d_M_marks_93 (by decide +kernel) ?_
                refine lv_iadd hx hb d_M_marks_94 ?_
                refine lv_topi (fun w_14 ew_14 => ?_)
                have ew_14 : (nI (cnt (mkB R L i) (k + 1))) = w_14 := (ew_14.trans (by first | (rw [cnt_t (P := mkB R L i) (n := k) c_86]; exact nI_add _ _) | (rw [cnt_f (P := mkB R L i) (n := k) c_86]; exact nI_add _ _))).symm
                subst ew_14
                refine lv_istore_n (lv' := [(2, .int (nI (cnt (mkB R L i) (k + 1)))), (0, .ref jm), (1, .int (nI i)), (3, .int (nI k))]) hx hb d_M_marks_95 rfl hl (by decide) rfl (fun ls hl => ?_)
                refine lv_iinc (v := nI (k + 1)) (lv' := [(3, .int (nI (k + 1))), (2, .int (nI (cnt (mkB R L i) (k + 1)))), (0, .ref jm), (1, .int (nI i))]) hx hb d_M_marks_96 hl (k := 3) rfl (nI_1 _) (by decide) rfl (fun ls hl => ?_)
                refine lv_goto (tgt := 8) hx hb d_M_marks_99 (by decide) ?_
                exact ih_8 (k + 1) (by omega) (by omega) (by omega) _ _ (hP.sub (ws' := [(jm, .inr (3, [.int th, .long sd, .long tp, .int (nI n), .ref ik, .ref iv, .ref ir, .ref il, .ref iy, .ref ig])), (ir, .inl (dr, 86, .inl R)), (il, .inl (dl, 43, .inl (bF L))), (ig, .inl (dg, 43, .inl (bF (mkF R L i (k + 1)))))]) [0, 1, 2, 3] rfl) (hD.sub (ws' := [(jm, .inr (3, [.int th, .long sd, .long tp, .int (nI n), .ref ik, .ref iv, .ref ir, .ref il, .ref iy, .ref ig])), (ir, .inl (dr, 86, .inl R)), (il, .inl (dl, 43, .inl (bF L))), (ig, .inl (dg, 43, .inl (bF (mkF R L i (k + 1)))))]) [0, 1, 2, 3] (by decide) rfl) hS ls (lv_sub (l' := [(0, .ref jm), (1, .int (nI i)), (2, .int (nI (cnt (mkB R L i) (k + 1)))), (3, .int (nI (k + 1)))]) hl [2, 3, 1, 0] rfl)
              · skip
                have c_86 := bI_t c_86
                refine lv_iconst (v := nI 1) hx hb d_M_marks_89 (by decide +kernel) ?_
                refine lv_goto (tgt := 94) hx hb d_M_marks_90 (by decide) ?_
                refine lv_iadd hx hb d_M_marks_94 ?_
                refine lv_topi (fun w_15 ew_15 => ?_)
                have ew_15 : (nI (cnt (mkB R L i) (k + 1))) = w_15 := (ew_15.trans (by first | (rw [cnt_t (P := mkB R L i) (n := k) c_86]; exact nI_add _ _) | (rw [cnt_f (P := mkB R L i) (n := k) c_86]; exact nI_add _ _))).symm
                subst ew_15
                refine lv_istore_n (lv' := [(2, .int (nI (cnt (mkB R L i) (k + 1)))), (0, .ref jm), (1, .int (nI i)), (3, .int (nI k))]) hx hb d_M_marks_95 rfl hl (by decide) rfl (fun ls hl => ?_)
                refine lv_iinc (v := nI (k + 1)) (lv' := [(3, .int (nI (k + 1))), (2, .int (nI (cnt (mkB R L i) (k + 1)))), (0, .ref jm), (1, .int (nI i))]) hx hb d_M_marks_96 hl (k := 3) rfl (nI_1 _) (by decide) rfl (fun ls hl => ?_)
                refine lv_goto (tgt := 8) hx hb d_M_marks_99 (by decide) ?_
                exact ih_8 (k + 1) (by omega) (by omega) (by omega) _ _ (hP.sub (ws' := [(jm, .inr (3, [.int th, .long sd, .long tp, .int (nI n), .ref ik, .ref iv, .ref ir, .ref il, .ref iy, .ref ig])), (ir, .inl (dr, 86, .inl R)), (il, .inl (dl, 43, .inl (bF L))), (ig, .inl (dg, 43, .inl (bF (mkF R L i (k + 1)))))]) [0, 1, 2, 3] rfl) (hD.sub (ws' := [(jm, .inr (3, [.int th, .long sd, .long tp, .int (nI n), .ref ik, .ref iv, .ref ir, .ref il, .ref iy, .ref ig])), (ir, .inl (dr, 86, .inl R)), (il, .inl (dl, 43, .inl (bF L))), (ig, .inl (dg, 43, .inl (bF (mkF R L i (k + 1)))))]) [0, 1, 2, 3] (by decide) rfl) hS ls (lv_sub (l' := [(0, .ref jm), (1, .int (nI i)), (2, .int (nI (cnt (mkB R L i) (k + 1)))), (3, .int (nI (k + 1)))]) hl [2, 3, 1, 0] rfl)
            · skip
              refine lv_aload_n hx hb d_M_marks_45 rfl (lv_at hl 0 rfl) ?_
              refine va_get (D := (dC, dI)) (ci := 3) (v := .ref ig) (C := R_M) (T := F_M) (N := 10) hx hb hts (lay_M _) hown hK hP 0 rfl rfl 9 (by decide) (hts _ (List.mem_cons_of_mem _ m_345)) (fun _ h9 => h9) rfl d_M_marks_46 ?_
              refine lv_aload_n hx hb d_M_marks_49 rfl (lv_at hl 0 rfl) ?_
              refine va_get (D := (dC, dI)) (ci := 3) (v := .ref ir) (C := R_M) (T := F_M) (N := 10) hx hb hts (lay_M _) hown hK hP 0 rfl rfl 6 (by decide) (hts _ (List.mem_cons_of_mem _ m_342)) (fun _ h9 => h9) rfl d_M_marks_50 ?_
              refine lv_iload_n hx hb d_M_marks_53 rfl (lv_at hl 3 rfl) ?_
              refine va_iald hx hb hK hP 1 0 rfl rfl (vp_in_nI (by omega) (by omega)) d_M_marks_54 ?_
              refine lv_topi (fun w_16 ew_16 => ?_)
              rw [nI_clamp (by omega)] at ew_16
              have ew_16 := ew_16.symm
              subst ew_16
              refine lv_iconst (v := (-1)) hx hb d_M_marks_55 (by decide +kernel) ?_
              refine lv_icmp_ne (tgt := 63) hx hb d_M_marks_56 (by decide) (fun c_56 => ?_) (fun c_56 => ?_)
              · skip
                refine lv_aload_n hx hb d_M_marks_63 rfl (lv_at hl 0 rfl) ?_
                refine va_get (D := (dC, dI)) (ci := 3) (v := .ref ir) (C := R_M) (T := F_M) (N := 10) hx hb hts (lay_M _) hown hK hP 0 rfl rfl 6 (by decide) (hts _ (List.mem_cons_of_mem _ m_342)) (fun _ h9 => h9) rfl d_M_marks_64 ?_
                refine lv_iload_n hx hb d_M_marks_67 rfl (lv_at hl 3 rfl) ?_
                refine va_iald hx hb hK hP 1 0 rfl rfl (vp_in_nI (by omega) (by omega)) d_M_marks_68 ?_
                refine lv_topi (fun w_17 ew_17 => ?_)
                rw [nI_clamp (by omega)] at ew_17
                have ew_17 := ew_17.symm
                subst ew_17
                refine va_zald hx hb hK hP 3 2 rfl rfl (rfK_in hR (by omega) hn (by decide) c_42) d_M_marks_69 ?_
                refine lv_topi (fun w_18 ew_18 => ?_)
                have ew_18 : (bI (mkB R L i k)) = w_18 := (ew_18.trans (by show bI (mkF R L i k (R k).toNatClampNeg) = _; rw [mkF_at (rfK_lt hR (by omega) hn c_42), ← mkB_R c_23 (by omega) c_32 c_42 (rfK_lt hR (by omega) hn c_42)])).symm
                subst ew_18
                refine lv_if_eq (tgt := 77) hx hb d_M_marks_70 (by decide) (fun c_70 => ?_) (fun c_70 => ?_)
                · skip
                  have c_70 := bI_f c_70
                  refine lv_iconst (v := nI 0) hx hb d_M_marks_77 (by decide +kernel) ?_
                  refine lv_topi (fun w_19 ew_19 => ?_)
                  have ew_19 : (bI (mkB R L i k)) = w_19 := (ew_19.trans (by first | (rw [c_70]; rfl) | (rw [mkB_N c_23 c_42]; rfl) | (rw [mkB_L c_23 c_32]; rfl))).symm
                  subst ew_19
                  refine va_zast hx hb hK hP hD hS 3 2 rfl rfl (vp_in_nI (by omega) (by omega)) d_M_marks_78 (fun H locs hP hD hS => ?_)
                  rw [nI_clamp (by omega)] at hP hD
                  rw [bI_vp] at hP hD
                  have hP : va_P (dC, dI) classes [(jm, .inr (3, [.int th, .long sd, .long tp, .int (nI n), .ref ik, .ref iv, .ref ir, .ref il, .ref iy, .ref ig])), (ir, .inl (dr, 86, .inl R)), (il, .inl (dl, 43, .inl (bF L))), (ig, .inl (dg, 43, .inl (upd (bF (mkF R L i k)) k (bI (mkB R L i k)))))] H := hP
                  have hD : va_D A [(jm, .inr (3, [.int th, .long sd, .long tp, .int (nI n), .ref ik, .ref iv, .ref ir, .ref il, .ref iy, .ref ig])), (ir, .inl (dr, 86, .inl R)), (il, .inl (dl, 43, .inl (bF L))), (ig, .inl (dg, 43, .inl (upd (bF (mkF R L i k)) k (bI (mkB R L i k)))))] := hD
                  rw [show (upd (bF (mkF R L i k)) k (bI (mkB R L i k))) = (bF (mkF R L i (k + 1))) from ((bF_up _ _ _).trans (congrArg bF (mkF_s rfl)))] at hP hD
                  refine lv_iload_n hx hb d_M_marks_79 rfl (lv_at hl 2 rfl) ?_
                  refine lv_aload_n hx hb d_M_marks_80 rfl (lv_at hl 0 rfl) ?_
                  refine va_get (D := (dC, dI)) (ci := 3) (v := .ref ig) (C := R_M) (T := F_M) (N := 10) hx hb hts (lay_M _) hown hK hP 0 rfl rfl 9 (by decide) (hts _ (List.mem_cons_of_mem _ m_345)) (fun _ h9 => h9) rfl d_M_marks_81 ?_
                  refine lv_iload_n hx hb d_M_marks_84 rfl (lv_at hl 3 rfl) ?_
                  refine va_zald hx hb hK hP 3 2 rfl rfl (vp_in_nI (by omega) (by omega)) d_M_marks_85 ?_
                  refine lv_topi (fun w_20 ew_20 => ?_)
                  have ew_20 : (bI (mkB R L i k)) = w_20 := (ew_20.trans (by rw [nI_clamp (by omega)]; show bI (mkF R L i (k + 1) k) = _; rw [mkF_at (by omega)])).symm
                  subst ew_20
                  refine lv_if_eq (tgt := 93) hx hb d_M_marks_86 (by decide) (fun c_86 => ?_) (fun c_86 => ?_)
                  · skip
                    have c_86 := bI_f c_86
                    refine lv_iconst (v := nI 0) hx hb d_M_marks_93 (by decide +kernel) ?_
                    refine lv_iadd hx hb d_M_marks_94 ?_
                    refine lv_topi (fun w_21 ew_21 => ?_)
                    have ew_21 : (nI (cnt (mkB R L i) (k + 1))) = w_21 := (ew_21.trans (by first | (rw [cnt_t (P := mkB R L i) (n := k) c_86]; exact nI_add _ _) | (rw [cnt_f (P := mkB R L i) (n := k) c_86]; exact nI_add _ _))).symm
                    subst ew_21
                    refine lv_istore_n (lv' := [(2, .int (nI (cnt (mkB R L i) (k + 1)))), (0, .ref jm), (1, .int (nI i)), (3, .int (nI k))]) hx hb d_M_marks_95 rfl hl (by decide) rfl (fun ls hl => ?_)
                    refine lv_iinc (v := nI (k + 1)) (lv' := [(3, .int (nI (k + 1))), (2, .int (nI (cnt (mkB R L i) (k + 1)))), (0, .ref jm), (1, .int (nI i))]) hx hb d_M_marks_96 hl (k := 3) rfl (nI_1 _) (by decide) rfl (fun ls hl => ?_)
                    refine lv_goto (tgt := 8) hx hb d_M_marks_99 (by decide) ?_
                    exact ih_8 (k + 1) (by omega) (by omega) (by omega) _ _ (hP.sub (ws' := [(jm, .inr (3, [.int th, .long sd, .long tp, .int (nI n), .ref ik, .ref iv, .ref ir, .ref il, .ref iy, .ref ig])), (ir, .inl (dr, 86, .inl R)), (il, .inl (dl, 43, .inl (bF L))), (ig, .inl (dg, 43, .inl (bF (mkF R L i (k + 1)))))]) [0, 1, 2, 3] rfl) (hD.sub (ws' := [(jm, .inr (3, [.int th, .long sd, .long tp, .int (nI n), .ref ik, .ref iv, .ref ir, .ref il, .ref iy, .ref ig])), (ir, .inl (dr, 86, .inl R)), (il, .inl (dl, 43, .inl (bF L))), (ig, .inl (dg, 43, .inl (bF (mkF R L i (k + 1)))))]) [0, 1, 2, 3] (by decide) rfl) hS ls (lv_sub (l' := [(0, .ref jm), (1, .int (nI i)), (2, .int (nI (cnt (mkB R L i) (k + 1)))), (3, .int (nI (k + 1)))]) hl [2, 3, 1, 0] rfl)
                  · skip
                    have c_86 := bI_t c_86
                    refine lv_iconst (v := nI 1) hx hb d_M_marks_89 (by decide +kernel) ?_
                    refine lv_goto (tgt := 94) hx hb d_M_marks_90 (by decide) ?_
                    refine lv_iadd hx hb d_M_marks_94 ?_
                    refine lv_topi (fun w_22 ew_22 => ?_)
                    have ew_22 : (nI (cnt (mkB R L i) (k + 1))) = w_22 := (ew_22.trans (by first | (rw [cnt_t (P := mkB R L i) (n := k) c_86]; exact nI_add _ _) | (rw [cnt_f (P := mkB R L i) (n := k) c_86]; exact nI_add _ _))).symm
                    subst ew_22
                    refine lv_istore_n (lv' := [(2, .int (nI (cnt (mkB R L i) (k + 1)))), (0, .ref jm), (1, .int (nI i)), (3, .int (nI k))]) hx hb d_M_marks_95 rfl hl (by decide) rfl (fun ls hl => ?_)
                    refine lv_iinc (v := nI (k + 1)) (lv' := [(3, .int (nI (k + 1))), (2, .int (nI (cnt (mkB R L i) (k + 1)))), (0, .ref jm), (1, .int (nI i))]) hx hb d_M_marks_96 hl (k := 3) rfl (nI_1 _) (by decide) rfl (fun ls hl => ?_)
                    refine lv_goto (tgt := 8) hx hb d_M_marks_99 (by decide) ?_
                    exact ih_8 (k + 1) (by omega) (by omega) (by omega) _ _ (hP.sub (ws' := [(jm, .inr (3, [.int th, .long sd, .long tp, .int (nI n), .ref ik, .ref iv, .ref ir, .ref il, .ref iy, .ref ig])), (ir, .inl (dr, 86, .inl R)), (il, .inl (dl, 43, .inl (bF L))), (ig, .inl (dg, 43, .inl (bF (mkF R L i (k + 1)))))]) [0, 1, 2, 3] rfl) (hD.sub (ws' := [(jm, .inr (3, [.int th, .long sd, .long tp, .int (nI n), .ref ik, .ref iv, .ref ir, .ref il, .ref iy, .ref ig])), (ir, .inl (dr, 86, .inl R)), (il, .inl (dl, 43, .inl (bF L))), (ig, .inl (dg, 43, .inl (bF (mkF R L i (k + 1)))))]) [0, 1, 2, 3] (by decide) rfl) hS ls (lv_sub (l' := [(0, .ref jm), (1, .int (nI i)), (2, .int (nI (cnt (mkB R L i) (k + 1)))), (3, .int (nI (k + 1)))]) hl [2, 3, 1, 0] rfl)
                · skip
                  have c_70 := bI_t c_70
                  refine lv_iconst (v := nI 1) hx hb d_M_marks_73 (by decide +kernel) ?_
                  refine lv_topi (fun w_23 ew_23 => ?_)
                  have ew_23 : (bI (mkB R L i k)) = w_23 := (ew_23.trans (by first | (rw [c_70]; rfl) | (rw [c_23, mkB_i]; rfl))).symm
                  subst ew_23
                  refine lv_goto (tgt := 78) hx hb d_M_marks_74 (by decide) ?_
                  refine va_zast hx hb hK hP hD hS 3 2 rfl rfl (vp_in_nI (by omega) (by omega)) d_M_marks_78 (fun H locs hP hD hS => ?_)
                  rw [nI_clamp (by omega)] at hP hD
                  rw [bI_vp] at hP hD
                  have hP : va_P (dC, dI) classes [(jm, .inr (3, [.int th, .long sd, .long tp, .int (nI n), .ref ik, .ref iv, .ref ir, .ref il, .ref iy, .ref ig])), (ir, .inl (dr, 86, .inl R)), (il, .inl (dl, 43, .inl (bF L))), (ig, .inl (dg, 43, .inl (upd (bF (mkF R L i k)) k (bI (mkB R L i k)))))] H := hP
                  have hD : va_D A [(jm, .inr (3, [.int th, .long sd, .long tp, .int (nI n), .ref ik, .ref iv, .ref ir, .ref il, .ref iy, .ref ig])), (ir, .inl (dr, 86, .inl R)), (il, .inl (dl, 43, .inl (bF L))), (ig, .inl (dg, 43, .inl (upd (bF (mkF R L i k)) k (bI (mkB R L i k)))))] := hD
                  rw [show (upd (bF (mkF R L i k)) k (bI (mkB R L i k))) = (bF (mkF R L i (k + 1))) from ((bF_up _ _ _).trans (congrArg bF (mkF_s rfl)))] at hP hD
                  refine lv_iload_n hx hb d_M_marks_79 rfl (lv_at hl 2 rfl) ?_
                  refine lv_aload_n hx hb d_M_marks_80 rfl (lv_at hl 0 rfl) ?_
                  refine va_get (D := (dC, dI)) (ci := 3) (v := .ref ig) (C := R_M) (T := F_M) (N := 10) hx hb hts (lay_M _) hown hK hP 0 rfl rfl 9 (by decide) (hts _ (List.mem_cons_of_mem _ m_345)) (fun _ h9 => h9) rfl d_M_marks_81 ?_
                  refine lv_iload_n hx hb d_M_marks_84 rfl (lv_at hl 3 rfl) ?_
                  refine va_zald hx hb hK hP 3 2 rfl rfl (vp_in_nI (by omega) (by omega)) d_M_marks_85 ?_
                  refine lv_topi (fun w_24 ew_24 => ?_)
                  have ew_24 : (bI (mkB R L i k)) = w_24 := (ew_24.trans (by rw [nI_clamp (by omega)]; show bI (mkF R L i (k + 1) k) = _; rw [mkF_at (by omega)])).symm
                  subst ew_24
                  refine lv_if_eq (tgt := 93) hx hb d_M_marks_86 (by decide) (fun c_86 => ?_) (fun c_86 => ?_)
                  · skip
                    have c_86 := bI_f c_86
                    refine lv_iconst (v := nI 0) hx hb d_M_marks_93 (by decide +kernel) ?_
                    refine lv_iadd hx hb d_M_marks_94 ?_
                    refine lv_topi (fun w_25 ew_25 => ?_)
                    have ew_25 : (nI (cnt (mkB R L i) (k + 1))) = w_25 := (ew_25.trans (by first | (rw [cnt_t (P := mkB R L i) (n := k) c_86]; exact nI_add _ _) | (rw [cnt_f (P := mkB R L i) (n := k) c_86]; exact nI_add _ _))).symm
                    subst ew_25
                    refine lv_istore_n (lv' := [(2, .int (nI (cnt (mkB R L i) (k + 1)))), (0, .ref jm), (1, .int (nI i)), (3, .int (nI k))]) hx hb d_M_marks_95 rfl hl (by decide) rfl (fun ls hl => ?_)
                    refine lv_iinc (v := nI (k + 1)) (lv' := [(3, .int (nI (k + 1))), (2, .int (nI (cnt (mkB R L i) (k + 1)))), (0, .ref jm), (1, .int (nI i))]) hx hb d_M_marks_96 hl (k := 3) rfl (nI_1 _) (by decide) rfl (fun ls hl => ?_)
                    refine lv_goto (tgt := 8) hx hb d_M_marks_99 (by decide) ?_
                    exact ih_8 (k + 1) (by omega) (by omega) (by omega) _ _ (hP.sub (ws' := [(jm, .inr (3, [.int th, .long sd, .long tp, .int (nI n), .ref ik, .ref iv, .ref ir, .ref il, .ref iy, .ref ig])), (ir, .inl (dr, 86, .inl R)), (il, .inl (dl, 43, .inl (bF L))), (ig, .inl (dg, 43, .inl (bF (mkF R L i (k + 1)))))]) [0, 1, 2, 3] rfl) (hD.sub (ws' := [(jm, .inr (3, [.int th, .long sd, .long tp, .int (nI n), .ref ik, .ref iv, .ref ir, .ref il, .ref iy, .ref ig])), (ir, .inl (dr, 86, .inl R)), (il, .inl (dl, 43, .inl (bF L))), (ig, .inl (dg, 43, .inl (bF (mkF R L i (k + 1)))))]) [0, 1, 2, 3] (by decide) rfl) hS ls (lv_sub (l' := [(0, .ref jm), (1, .int (nI i)), (2, .int (nI (cnt (mkB R L i) (k + 1)))), (3, .int (nI (k + 1)))]) hl [2, 3, 1, 0] rfl)
                  · skip
                    have c_86 := bI_t c_86
                    refine lv_iconst (v := nI 1) hx hb d_M_marks_89 (by decide +kernel) ?_
                    refine lv_goto (tgt := 94) hx hb d_M_marks_90 (by decide) ?_
                    refine lv_iadd hx hb d_M_marks_94 ?_
                    refine lv_topi (fun w_26 ew_26 => ?_)
                    have ew_26 : (nI (cnt (mkB R L i) (k + 1))) = w_26 := (ew_26.trans (by first | (rw [cnt_t (P := mkB R L i) (n := k) c_86]; exact nI_add _ _) | (rw [cnt_f (P := mkB R L i) (n := k) c_86]; exact nI_add _ _))).symm
                    subst ew_26
                    refine lv_istore_n (lv' := [(2, .int (nI (cnt (mkB R L i) (k + 1)))), (0, .ref jm), (1, .int (nI i)), (3, .int (nI k))]) hx hb d_M_marks_95 rfl hl (by decide) rfl (fun ls hl => ?_)
                    refine lv_iinc (v := nI (k + 1)) (lv' := [(3, .int (nI (k + 1))), (2, .int (nI (cnt (mkB R L i) (k + 1)))), (0, .ref jm), (1, .int (nI i))]) hx hb d_M_marks_96 hl (k := 3) rfl (nI_1 _) (by decide) rfl (fun ls hl => ?_)
                    refine lv_goto (tgt := 8) hx hb d_M_marks_99 (by decide) ?_
                    exact ih_8 (k + 1) (by omega) (by omega) (by omega) _ _ (hP.sub (ws' := [(jm, .inr (3, [.int th, .long sd, .long tp, .int (nI n), .ref ik, .ref iv, .ref ir, .ref il, .ref iy, .ref ig])), (ir, .inl (dr, 86, .inl R)), (il, .inl (dl, 43, .inl (bF L))), (ig, .inl (dg, 43, .inl (bF (mkF R L i (k + 1)))))]) [0, 1, 2, 3] rfl) (hD.sub (ws' := [(jm, .inr (3, [.int th, .long sd, .long tp, .int (nI n), .ref ik, .ref iv, .ref ir, .ref il, .ref iy, .ref ig])), (ir, .inl (dr, 86, .inl R)), (il, .inl (dl, 43, .inl (bF L))), (ig, .inl (dg, 43, .inl (bF (mkF R L i (k + 1)))))]) [0, 1, 2, 3] (by decide) rfl) hS ls (lv_sub (l' := [(0, .ref jm), (1, .int (nI i)), (2, .int (nI (cnt (mkB R L i) (k + 1)))), (3, .int (nI (k + 1)))]) hl [2, 3, 1, 0] rfl)
              · skip
                exact absurd c_56 c_42
  exact lp_8 ((n - i) + 1) i (by omega) (by omega) (by omega) _ _ (hP.sub (ws' := [(jm, .inr (3, [.int th, .long sd, .long tp, .int (nI n), .ref ik, .ref iv, .ref ir, .ref il, .ref iy, .ref ig])), (ir, .inl (dr, 86, .inl R)), (il, .inl (dl, 43, .inl (bF L))), (ig, .inl (dg, 43, .inl (bF (mkF R L i i))))]) [2, 0, 1, 3] rfl) (hD.sub (ws' := [(jm, .inr (3, [.int th, .long sd, .long tp, .int (nI n), .ref ik, .ref iv, .ref ir, .ref il, .ref iy, .ref ig])), (ir, .inl (dr, 86, .inl R)), (il, .inl (dl, 43, .inl (bF L))), (ig, .inl (dg, 43, .inl (bF (mkF R L i i))))]) [2, 0, 1, 3] (by decide) rfl) hS ls (lv_sub (l' := [(0, .ref jm), (1, .int (nI i)), (2, .int (nI (cnt (mkB R L i) i))), (3, .int (nI i))]) hl [2, 3, 1, 0] rfl)
set_option maxHeartbeats 4000000 in
set_option maxRecDepth 100000 in
/-- reference: judged -/
theorem c_M_judged (l : Launch) (dC : Nat → ClassId) (dI : Nat → Nat → Nat) (jm ik iv ir il iy ig : Nat) (n : Nat) (th : Int32) (sd tp : Int64) (dk dv dr dl dg : ClassId) (K V R : Nat → Int32) (L G : Nat → Bool) (hn : n ≤ 43) (hR : rfK n R) : Met l y_M_judged w_M_judged ({ frames := 1, cells := 0, slots := 0, locals := 21 }) (ro_P dC dI [.ref jm] [(jm, .inr (3, [.int th, .long sd, .long tp, .int (nI n), .ref ik, .ref iv, .ref ir, .ref il, .ref iy, .ref ig])), (ik, .inl (dk, 86, .inl K)), (iv, .inl (dv, 86, .inl V)), (ir, .inl (dr, 86, .inl R)), (il, .inl (dl, 43, .inl (bF L))), (ig, .inl (dg, 43, .inl (bF G)))] [(dk, .int), (dv, .int), (dr, .int), (dl, .boolean), (dg, .boolean)]) (vp_Si (fun r => r = jdL K V R L G n)) 0 0 (fun _ => False) := by
  refine Met.ofW (cc := b_M_judged) (maxL := 3) (ret := (Option.some Jvm.ClassFile.FieldType.int)) (by decide) rfl ?_
  intro p e s m args below meth c s₁ B0 hml hv0
  obtain ⟨rfl, hP, hK, hN⟩ := hv0
  have hx := B0.exec
  have hb := B0.bytes
  have hr := B0.returns
  have hts := atoms_spec (ws := w_M_judged) B0.pre
  have hown : s.vm.findClass R_M = some m.cls := findClass_of_methodNamed B0.named
  have hlocks := B0.notSynchronized
  have hP : va_P (dC, dI) classes [(jm, .inr (3, [.int th, .long sd, .long tp, .int (nI n), .ref ik, .ref iv, .ref ir, .ref il, .ref iy, .ref ig])), (ik, .inl (dk, 86, .inl K)), (iv, .inl (dv, 86, .inl V)), (ir, .inl (dr, 86, .inl R)), (il, .inl (dl, 43, .inl (bF L))), (ig, .inl (dg, 43, .inl (bF G)))] s.heap := hP
  have hl := lv_entry ([.ref jm]) (n := 3) (Nat.le_of_ble_eq_true rfl)
  rw [lg_entry_eq]
  generalize (lg_sl ([.ref jm]) ++ List.replicate (3 - (lg_sl ([.ref jm])).length) Slot.unset).toArray = ls at hl ⊢
  have hl : lv_has ls 3 [(0, .ref jm)] := hl
  refine lv_iconst (v := nI 0) hx hb d_M_judged_0 (by decide +kernel) ?_
  refine lv_istore_n (lv' := [(1, .int (nI 0)), (0, .ref jm)]) hx hb d_M_judged_1 rfl hl (by decide) rfl (fun ls hl => ?_)
  refine lv_iconst (v := nI 0) hx hb d_M_judged_2 (by decide +kernel) ?_
  refine lv_istore_n (lv' := [(2, .int (nI 0)), (1, .int (nI 0)), (0, .ref jm)]) hx hb d_M_judged_3 rfl hl (by decide) rfl (fun ls hl => ?_)
  have lp_4 : ∀ (k9_4 : Nat), ∀ (i : Nat), n - i < k9_4 → (i ≤ n) → ∀ (ls : Array Slot), lv_has ls 3 [(0, .ref jm), (1, .int (jdL K V R L G i)), (2, .int (nI i))] → W p l e (headSpec w_M_judged ({ frames := 1, cells := 0, slots := 0, locals := 21 })).room s m ([.ref jm]).toArray below meth c s.heap [] 0 0 (MQ below (vp_Si (fun r => r = jdL K V R L G n)) ([.ref jm]).toArray s 0 0 (fun _ => False)) (F0 m 4 ls []) := by
    intro k9_4
    induction k9_4 with
    | zero =>
      intro i hk9
      exact absurd hk9 (Nat.not_lt_zero _)
    | succ k9_4 ih_4 =>
      intro i hk9_4 hi ls hl
      refine lv_iload_n hx hb d_M_judged_4 rfl (lv_at hl 2 rfl) ?_
      refine lv_aload_n hx hb d_M_judged_5 rfl (lv_at hl 0 rfl) ?_
      refine va_get (D := (dC, dI)) (ci := 3) (v := .int (nI n)) (C := R_M) (T := F_M) (N := 10) hx hb hts (lay_M _) hown hK hP 0 rfl rfl 3 (by decide) (hts _ (List.mem_cons_of_mem _ m_339)) (fun _ h9 => h9) rfl d_M_judged_6 ?_
      refine lv_icmp_ge (tgt := 90) hx hb d_M_judged_9 (by decide) (fun c_9 => ?_) (fun c_9 => ?_)
      · skip
        have c_9 := (nI_leI (by omega) (by omega)).mp c_9
        refine lv_iload_n hx hb d_M_judged_90 rfl (lv_at hl 1 rfl) ?_
        exact W.iret (v := jdL K V R L G i) hx hb hr (fun t ht hW => ⟨jdL K V R L G i, rfl, (by rw [show i = n by omega]), ht⟩) (fun _ h => nomatch h) d_M_judged_91
      · skip
        have c_9 := (not_congr (nI_leI (by omega) (by omega))).mp c_9
        refine lv_aload_n hx hb d_M_judged_12 rfl (lv_at hl 0 rfl) ?_
        refine va_get (D := (dC, dI)) (ci := 3) (v := .ref il) (C := R_M) (T := F_M) (N := 10) hx hb hts (lay_M _) hown hK hP 0 rfl rfl 7 (by decide) (hts _ (List.mem_cons_of_mem _ m_343)) (fun _ h9 => h9) rfl d_M_judged_13 ?_
        refine lv_iload_n hx hb d_M_judged_16 rfl (lv_at hl 2 rfl) ?_
        refine va_zald hx hb hK hP 4 3 rfl rfl (vp_in_nI (by omega) (by omega)) d_M_judged_17 ?_
        refine lv_topi (fun w_1 ew_1 => ?_)
        have ew_1 : (bI (L i)) = w_1 := (ew_1.trans (by rw [nI_clamp (by omega)]; rfl)).symm
        subst ew_1
        refine lv_if_eq (tgt := 84) hx hb d_M_judged_18 (by decide) (fun c_18 => ?_) (fun c_18 => ?_)
        · skip
          have c_18 := bI_f c_18
          rw [show jdL K V R L G i = jdL K V R L G (i + 1) from (jdL_f1 c_18)] at hl
          refine lv_iinc (v := nI (i + 1)) (lv' := [(2, .int (nI (i + 1))), (0, .ref jm), (1, .int (jdL K V R L G (i + 1)))]) hx hb d_M_judged_84 hl (k := 2) rfl (nI_1 _) (by decide) rfl (fun ls hl => ?_)
          refine lv_goto (tgt := 4) hx hb d_M_judged_87 (by decide) ?_
          exact ih_4 (i + 1) (by omega) (by first | assumption | omega) ls (lv_sub (l' := [(0, .ref jm), (1, .int (jdL K V R L G (i + 1))), (2, .int (nI (i + 1)))]) hl [1, 2, 0] rfl)
        · skip
          have c_18 := bI_t c_18
          refine lv_aload_n hx hb d_M_judged_21 rfl (lv_at hl 0 rfl) ?_
          refine va_get (D := (dC, dI)) (ci := 3) (v := .ref ig) (C := R_M) (T := F_M) (N := 10) hx hb hts (lay_M _) hown hK hP 0 rfl rfl 9 (by decide) (hts _ (List.mem_cons_of_mem _ m_345)) (fun _ h9 => h9) rfl d_M_judged_22 ?_
          refine lv_iload_n hx hb d_M_judged_25 rfl (lv_at hl 2 rfl) ?_
          refine va_zald hx hb hK hP 5 4 rfl rfl (vp_in_nI (by omega) (by omega)) d_M_judged_26 ?_
          refine lv_topi (fun w_2 ew_2 => ?_)
          have ew_2 : (bI (G i)) = w_2 := (ew_2.trans (by rw [nI_clamp (by omega)]; rfl)).symm
          subst ew_2
          refine lv_if_ne (tgt := 84) hx hb d_M_judged_27 (by decide) (fun c_27 => ?_) (fun c_27 => ?_)
          · skip
            have c_27 := bI_t c_27
            rw [show jdL K V R L G i = jdL K V R L G (i + 1) from (jdL_f2 c_27)] at hl
            refine lv_iinc (v := nI (i + 1)) (lv' := [(2, .int (nI (i + 1))), (0, .ref jm), (1, .int (jdL K V R L G (i + 1)))]) hx hb d_M_judged_84 hl (k := 2) rfl (nI_1 _) (by decide) rfl (fun ls hl => ?_)
            refine lv_goto (tgt := 4) hx hb d_M_judged_87 (by decide) ?_
            exact ih_4 (i + 1) (by omega) (by first | assumption | omega) ls (lv_sub (l' := [(0, .ref jm), (1, .int (jdL K V R L G (i + 1))), (2, .int (nI (i + 1)))]) hl [1, 2, 0] rfl)
          · skip
            have c_27 := bI_f c_27
            refine lv_iload_n hx hb d_M_judged_30 rfl (lv_at hl 1 rfl) ?_
            refine lv_aload_n hx hb d_M_judged_31 rfl (lv_at hl 0 rfl) ?_
            refine va_get (D := (dC, dI)) (ci := 3) (v := .ref iv) (C := R_M) (T := F_M) (N := 10) hx hb hts (lay_M _) hown hK hP 0 rfl rfl 5 (by decide) (hts _ (List.mem_cons_of_mem _ m_341)) (fun _ h9 => h9) rfl d_M_judged_32 ?_
            refine lv_iload_n hx hb d_M_judged_35 rfl (lv_at hl 2 rfl) ?_
            refine va_iald hx hb hK hP 2 1 rfl rfl (vp_in_nI (by omega) (by omega)) d_M_judged_36 ?_
            refine lv_topi (fun w_3 ew_3 => ?_)
            rw [nI_clamp (by omega)] at ew_3
            have ew_3 := ew_3.symm
            subst ew_3
            refine lv_bipush (v := nI 50) hx hb d_M_judged_37 (by decide +kernel) ?_
            refine lv_icmp_lt (tgt := 53) hx hb d_M_judged_39 (by decide) (fun c_39 => ?_) (fun c_39 => ?_)
            · skip
              refine lv_iconst (v := nI 0) hx hb d_M_judged_53 (by decide +kernel) ?_
              refine lv_ior hx hb d_M_judged_54 ?_
              refine lv_topi (fun w_4 ew_4 => ?_)
              have ew_4 : (jdA K V i (jdL K V R L G i)) = w_4 := (ew_4.trans (by unfold jdA; first | rw [if_pos c_39] | rw [if_neg c_39])).symm
              subst ew_4
              refine lv_istore_n (lv' := [(1, .int (jdA K V i (jdL K V R L G i))), (0, .ref jm), (2, .int (nI i))]) hx hb d_M_judged_55 rfl hl (by decide) rfl (fun ls hl => ?_)
              refine lv_iload_n hx hb d_M_judged_56 rfl (lv_at hl 0 rfl) ?_
              refine lv_aload_n hx hb d_M_judged_57 rfl (lv_at hl 1 rfl) ?_
              refine va_get (D := (dC, dI)) (ci := 3) (v := .ref ik) (C := R_M) (T := F_M) (N := 10) hx hb hts (lay_M _) hown hK hP 0 rfl rfl 4 (by decide) (hts _ (List.mem_cons_of_mem _ m_340)) (fun _ h9 => h9) rfl d_M_judged_58 ?_
              refine lv_iload_n hx hb d_M_judged_61 rfl (lv_at hl 2 rfl) ?_
              refine va_iald hx hb hK hP 1 0 rfl rfl (vp_in_nI (by omega) (by omega)) d_M_judged_62 ?_
              refine lv_topi (fun w_5 ew_5 => ?_)
              rw [nI_clamp (by omega)] at ew_5
              have ew_5 := ew_5.symm
              subst ew_5
              refine lv_iconst (v := nI 5) hx hb d_M_judged_63 (by decide +kernel) ?_
              refine lv_icmp_ne (tgt := 81) hx hb d_M_judged_64 (by decide) (fun c_64 => ?_) (fun c_64 => ?_)
              · skip
                refine lv_iconst (v := nI 0) hx hb d_M_judged_81 (by decide +kernel) ?_
                refine lv_ior hx hb d_M_judged_82 ?_
                refine lv_topi (fun w_6 ew_6 => ?_)
                have ew_6 : (jdL K V R L G (i + 1)) = w_6 := (ew_6.trans (by rw [← jdL_t c_18 c_27]; unfold jdS; first | rw [if_pos (by rw [decide_eq_true c_64, c_72]; rfl)] | rw [if_neg (by rw [c_72]; simp)] | rw [if_neg (by rw [decide_eq_false c_64]; simp)])).symm
                subst ew_6
                refine lv_istore_n (lv' := [(1, .int (jdL K V R L G (i + 1))), (0, .ref jm), (2, .int (nI i))]) hx hb d_M_judged_83 rfl hl (by decide) rfl (fun ls hl => ?_)
                refine lv_iinc (v := nI (i + 1)) (lv' := [(2, .int (nI (i + 1))), (1, .int (jdL K V R L G (i + 1))), (0, .ref jm)]) hx hb d_M_judged_84 hl (k := 2) rfl (nI_1 _) (by decide) rfl (fun ls hl => ?_)
                refine lv_goto (tgt := 4) hx hb d_M_judged_87 (by decide) ?_
                exact ih_4 (i + 1) (by omega) (by first | assumption | omega) ls (lv_sub (l' := [(0, .ref jm), (1, .int (jdL K V R L G (i + 1))), (2, .int (nI (i + 1)))]) hl [2, 1, 0] rfl)
              · skip
                refine lv_aload_n hx hb d_M_judged_67 rfl (lv_at hl 1 rfl) ?_
                refine lv_iload_n hx hb d_M_judged_68 rfl (lv_at hl 2 rfl) ?_
                have hPc := hP.sub (ws' := [(jm, .inr (3, [.int th, .long sd, .long tp, .int (nI n), .ref ik, .ref iv, .ref ir, .ref il, .ref iy, .ref ig])), (iv, .inl (dv, 86, .inl V)), (ir, .inl (dr, 86, .inl R))]) [0, 2, 3] rfl
                have hKc := hK.sub (tys' := [(dv, .int), (dr, .int)]) [1, 2] rfl
                refine vp_callSi (W.runV (As := [.int (nI i)]) (rest := [.int (jdA K V i (jdL K V R L G i))]) ⟨hx, hb, hml, hown, hts⟩ (c_M_isFit l dC dI jm ik iv ir il iy ig n th sd tp dv dr V R i (by first | assumption | omega) (by first | assumption | omega) (by first | assumption | omega)) (cwV 1 hts (g_V big_w m_415 m_417 ms_27 m_4 m_418) rfl rfl rfl (by decide +kernel) ⟨Nat.le_of_ble_eq_true rfl, Nat.le_of_ble_eq_true rfl⟩) (ro_V hPc hKc hN (va_recv hKc hPc (ci := 3) (q0 := 0) rfl rfl)) rfl rfl hl.1 rfl (lv_room (Nat.le_of_ble_eq_true rfl)) d_M_judged_69 ⟨Nat.le_of_ble_eq_true rfl, Nat.le_of_ble_eq_true rfl⟩) (fun r_7 er_7 => ?_)
                have er_7 := er_7.symm
                subst er_7
                refine lv_if_eq (tgt := 81) hx hb d_M_judged_72 (by decide) (fun c_72 => ?_) (fun c_72 => ?_)
                · skip
                  have c_72 := bI_f c_72
                  refine lv_iconst (v := nI 0) hx hb d_M_judged_81 (by decide +kernel) ?_
                  refine lv_ior hx hb d_M_judged_82 ?_
                  refine lv_topi (fun w_8 ew_8 => ?_)
                  have ew_8 : (jdL K V R L G (i + 1)) = w_8 := (ew_8.trans (by rw [← jdL_t c_18 c_27]; unfold jdS; first | rw [if_pos (by rw [decide_eq_true c_64, c_72]; rfl)] | rw [if_neg (by rw [c_72]; simp)] | rw [if_neg (by rw [decide_eq_false c_64]; simp)])).symm
                  subst ew_8
                  refine lv_istore_n (lv' := [(1, .int (jdL K V R L G (i + 1))), (0, .ref jm), (2, .int (nI i))]) hx hb d_M_judged_83 rfl hl (by decide) rfl (fun ls hl => ?_)
                  refine lv_iinc (v := nI (i + 1)) (lv' := [(2, .int (nI (i + 1))), (1, .int (jdL K V R L G (i + 1))), (0, .ref jm)]) hx hb d_M_judged_84 hl (k := 2) rfl (nI_1 _) (by decide) rfl (fun ls hl => ?_)
                  refine lv_goto (tgt := 4) hx hb d_M_judged_87 (by decide) ?_
                  exact ih_4 (i + 1) (by omega) (by first | assumption | omega) ls (lv_sub (l' := [(0, .ref jm), (1, .int (jdL K V R L G (i + 1))), (2, .int (nI (i + 1)))]) hl [2, 1, 0] rfl)
                · skip
                  have c_72 := bI_t c_72
                  refine lv_sipush (v := nI 128) hx hb d_M_judged_75 (by decide +kernel) ?_
                  refine lv_goto (tgt := 82) hx hb d_M_judged_78 (by decide) ?_
                  refine lv_ior hx hb d_M_judged_82 ?_
                  refine lv_topi (fun w_9 ew_9 => ?_)
                  have ew_9 : (jdL K V R L G (i + 1)) = w_9 := (ew_9.trans (by rw [← jdL_t c_18 c_27]; unfold jdS; first | rw [if_pos (by rw [decide_eq_true c_64, c_72]; rfl)] | rw [if_neg (by rw [c_72]; simp)] | rw [if_neg (by rw [decide_eq_false c_64]; simp)])).symm
                  subst ew_9
                  refine lv_istore_n (lv' := [(1, .int (jdL K V R L G (i + 1))), (0, .ref jm), (2, .int (nI i))]) hx hb d_M_judged_83 rfl hl (by decide) rfl (fun ls hl => ?_)
                  refine lv_iinc (v := nI (i + 1)) (lv' := [(2, .int (nI (i + 1))), (1, .int (jdL K V R L G (i + 1))), (0, .ref jm)]) hx hb d_M_judged_84 hl (k := 2) rfl (nI_1 _) (by decide) rfl (fun ls hl => ?_)
                  refine lv_goto (tgt := 4) hx hb d_M_judged_87 (by decide) ?_
                  exact ih_4 (i + 1) (by omega) (by first | assumption | omega) ls (lv_sub (l' := [(0, .ref jm), (1, .int (jdL K V R L G (i + 1))), (2, .int (nI (i + 1)))]) hl [2, 1, 0] rfl)
            · skip
              refine lv_iconst (v := nI 1) hx hb d_M_judged_42 (by decide +kernel) ?_
              refine lv_aload_n hx hb d_M_judged_43 rfl (lv_at hl 0 rfl) ?_
              refine va_get (D := (dC, dI)) (ci := 3) (v := .ref ik) (C := R_M) (T := F_M) (N := 10) hx hb hts (lay_M _) hown hK hP 0 rfl rfl 4 (by decide) (hts _ (List.mem_cons_of_mem _ m_340)) (fun _ h9 => h9) rfl d_M_judged_44 ?_
              refine lv_iload_n hx hb d_M_judged_47 rfl (lv_at hl 2 rfl) ?_
              refine va_iald hx hb hK hP 1 0 rfl rfl (vp_in_nI (by omega) (by omega)) d_M_judged_48 ?_
              refine lv_topi (fun w_10 ew_10 => ?_)
              rw [nI_clamp (by omega)] at ew_10
              have ew_10 := ew_10.symm
              subst ew_10
              refine lv_ishl hx hb d_M_judged_49 ?_
              refine lv_goto (tgt := 54) hx hb d_M_judged_50 (by decide) ?_
              refine lv_ior hx hb d_M_judged_54 ?_
              refine lv_topi (fun w_11 ew_11 => ?_)
              have ew_11 : (jdA K V i (jdL K V R L G i)) = w_11 := (ew_11.trans (by unfold jdA; first | rw [if_pos c_39] | rw [if_neg c_39])).symm
              subst ew_11
              refine lv_istore_n (lv' := [(1, .int (jdA K V i (jdL K V R L G i))), (0, .ref jm), (2, .int (nI i))]) hx hb d_M_judged_55 rfl hl (by decide) rfl (fun ls hl => ?_)
              refine lv_iload_n hx hb d_M_judged_56 rfl (lv_at hl 0 rfl) ?_
              refine lv_aload_n hx hb d_M_judged_57 rfl (lv_at hl 1 rfl) ?_
              refine va_get (D := (dC, dI)) (ci := 3) (v := .ref ik) (C := R_M) (T := F_M) (N := 10) hx hb hts (lay_M _) hown hK hP 0 rfl rfl 4 (by decide) (hts _ (List.mem_cons_of_mem _ m_340)) (fun _ h9 => h9) rfl d_M_judged_58 ?_
              refine lv_iload_n hx hb d_M_judged_61 rfl (lv_at hl 2 rfl) ?_
              refine va_iald hx hb hK hP 1 0 rfl rfl (vp_in_nI (by omega) (by omega)) d_M_judged_62 ?_
              refine lv_topi (fun w_12 ew_12 => ?_)
              rw [nI_clamp (by omega)] at ew_12
              have ew_12 := ew_12.symm
              subst ew_12
              refine lv_iconst (v := nI 5) hx hb d_M_judged_63 (by decide +kernel) ?_
              refine lv_icmp_ne (tgt := 81) hx hb d_M_judged_64 (by decide) (fun c_64 => ?_) (fun c_64 => ?_)
              · skip
                refine lv_iconst (v := nI 0) hx hb d_M_judged_81 (by decide +kernel) ?_
                refine lv_ior hx hb d_M_judged_82 ?_
                refine lv_topi (fun w_13 ew_13 => ?_)
                have ew_13 : (jdL K V R L G (i + 1)) = w_13 := (ew_13.trans (by rw [← jdL_t c_18 c_27]; unfold jdS; first | rw [if_pos (by rw [decide_eq_true c_64, c_72]; rfl)] | rw [if_neg (by rw [c_72]; simp)] | rw [if_neg (by rw [decide_eq_false c_64]; simp)])).symm
                subst ew_13
                refine lv_istore_n (lv' := [(1, .int (jdL K V R L G (i + 1))), (0, .ref jm), (2, .int (nI i))]) hx hb d_M_judged_83 rfl hl (by decide) rfl (fun ls hl => ?_)
                refine lv_iinc (v := nI (i + 1)) (lv' := [(2, .int (nI (i + 1))), (1, .int (jdL K V R L G (i + 1))), (0, .ref jm)]) hx hb d_M_judged_84 hl (k := 2) rfl (nI_1 _) (by decide) rfl (fun ls hl => ?_)
                refine lv_goto (tgt := 4) hx hb d_M_judged_87 (by decide) ?_
                exact ih_4 (i + 1) (by omega) (by first | assumption | omega) ls (lv_sub (l' := [(0, .ref jm), (1, .int (jdL K V R L G (i + 1))), (2, .int (nI (i + 1)))]) hl [2, 1, 0] rfl)
              · skip
                refine lv_aload_n hx hb d_M_judged_67 rfl (lv_at hl 1 rfl) ?_
                refine lv_iload_n hx hb d_M_judged_68 rfl (lv_at hl 2 rfl) ?_
                have hPc := hP.sub (ws' := [(jm, .inr (3, [.int th, .long sd, .long tp, .int (nI n), .ref ik, .ref iv, .ref ir, .ref il, .ref iy, .ref ig])), (iv, .inl (dv, 86, .inl V)), (ir, .inl (dr, 86, .inl R))]) [0, 2, 3] rfl
                have hKc := hK.sub (tys' := [(dv, .int), (dr, .int)]) [1, 2] rfl
                refine vp_callSi (W.runV (As := [.int (nI i)]) (rest := [.int (jdA K V i (jdL K V R L G i))]) ⟨hx, hb, hml, hown, hts⟩ (c_M_isFit l dC dI jm ik iv ir il iy ig n th sd tp dv dr V R i (by first | assumption | omega) (by first | assumption | omega) (by first | assumption | omega)) (cwV 1 hts (g_V big_w m_415 m_417 ms_27 m_4 m_418) rfl rfl rfl (by decide +kernel) ⟨Nat.le_of_ble_eq_true rfl, Nat.le_of_ble_eq_true rfl⟩) (ro_V hPc hKc hN (va_recv hKc hPc (ci := 3) (q0 := 0) rfl rfl)) rfl rfl hl.1 rfl (lv_room (Nat.le_of_ble_eq_true rfl)) d_M_judged_69 ⟨Nat.le_of_ble_eq_true rfl, Nat.le_of_ble_eq_true rfl⟩) (fun r_14 er_14 => ?_)
                have er_14 := er_14.symm
                subst er_14
                refine lv_if_eq (tgt := 81) hx hb d_M_judged_72 (by decide) (fun c_72 => ?_) (fun c_72 => ?_)
                · skip
                  have c_72 := bI_f c_72
                  refine lv_iconst (v := nI 0) hx hb d_M_judged_81 (by decide +kernel) ?_
                  refine lv_ior hx hb d_M_judged_82 ?_
                  refine lv_topi (fun w_15 ew_15 => ?_)
                  have ew_15 : (jdL K V R L G (i + 1)) = w_15 := (ew_15.trans (by rw [← jdL_t c_18 c_27]; unfold jdS; first | rw [if_pos (by rw [decide_eq_true c_64, c_72]; rfl)] | rw [if_neg (by rw [c_72]; simp)] | rw [if_neg (by rw [decide_eq_false c_64]; simp)])).symm
                  subst ew_15
                  refine lv_istore_n (lv' := [(1, .int (jdL K V R L G (i + 1))), (0, .ref jm), (2, .int (nI i))]) hx hb d_M_judged_83 rfl hl (by decide) rfl (fun ls hl => ?_)
                  refine lv_iinc (v := nI (i + 1)) (lv' := [(2, .int (nI (i + 1))), (1, .int (jdL K V R L G (i + 1))), (0, .ref jm)]) hx hb d_M_judged_84 hl (k := 2) rfl (nI_1 _) (by decide) rfl (fun ls hl => ?_)
                  refine lv_goto (tgt := 4) hx hb d_M_judged_87 (by decide) ?_
                  exact ih_4 (i + 1) (by omega) (by first | assumption | omega) ls (lv_sub (l' := [(0, .ref jm), (1, .int (jdL K V R L G (i + 1))), (2, .int (nI (i + 1)))]) hl [2, 1, 0] rfl)
                · skip
                  have c_72 := bI_t c_72
                  refine lv_sipush (v := nI 128) hx hb d_M_judged_75 (by decide +kernel) ?_
                  refine lv_goto (tgt := 82) hx hb d_M_judged_78 (by decide) ?_
                  refine lv_ior hx hb d_M_judged_82 ?_
                  refine lv_topi (fun w_16 ew_16 => ?_)
                  have ew_16 : (jdL K V R L G (i + 1)) = w_16 := (ew_16.trans (by rw [← jdL_t c_18 c_27]; unfold jdS; first | rw [if_pos (by rw [decide_eq_true c_64, c_72]; rfl)] | rw [if_neg (by rw [c_72]; simp)] | rw [if_neg (by rw [decide_eq_false c_64]; simp)])).symm
                  subst ew_16
                  refine lv_istore_n (lv' := [(1, .int (jdL K V R L G (i + 1))), (0, .ref jm), (2, .int (nI i))]) hx hb d_M_judged_83 rfl hl (by decide) rfl (fun ls hl => ?_)
                  refine lv_iinc (v := nI (i + 1)) (lv' := [(2, .int (nI (i + 1))), (1, .int (jdL K V R L G (i + 1))), (0, .ref jm)]) hx hb d_M_judged_84 hl (k := 2) rfl (nI_1 _) (by decide) rfl (fun ls hl => ?_)
                  refine lv_goto (tgt := 4) hx hb d_M_judged_87 (by decide) ?_
                  exact ih_4 (i + 1) (by omega) (by first | assumption | omega) ls (lv_sub (l' := [(0, .ref jm), (1, .int (jdL K V R L G (i + 1))), (2, .int (nI (i + 1)))]) hl [2, 1, 0] rfl)
  exact lp_4 ((n - 0) + 1) 0 (by omega) (by first | assumption | omega) ls (lv_sub (l' := [(0, .ref jm), (1, .int (jdL K V R L G 0)), (2, .int (nI 0))]) hl [2, 1, 0] rfl)
set_option maxHeartbeats 4000000 in
set_option maxRecDepth 100000 in
/-- reference: mayGo -/
theorem c_M_mayGo (l : Launch) (dC : Nat → ClassId) (dI : Nat → Nat → Nat) (jm ik iv ir il iy ig : Nat) (n : Nat) (th : Int32) (sd tp : Int64) (dk dv dr dl dy dg : ClassId) (K V R : Nat → Int32) (L S G : Nat → Bool) (i : Nat) (hn : n ≤ 43) (hR : rfK n R) (hKk : kdK n K) (hi : i < n) (sz : Nat) : Met l y_M_mayGo w_M_mayGo ({ frames := 2, cells := 0, slots := 0, locals := 44 }) (wr_P dC dI [.ref jm, .int (nI i)] [(jm, .inr (3, [.int th, .long sd, .long tp, .int (nI n), .ref ik, .ref iv, .ref ir, .ref il, .ref iy, .ref ig])), (ik, .inl (dk, 86, .inl K)), (iv, .inl (dv, 86, .inl V)), (ir, .inl (dr, 86, .inl R)), (il, .inl (dl, 43, .inl (bF L))), (iy, .inl (dy, 256, .inl (bF S))), (ig, .inl (dg, 43, .inl (bF G)))] [(dk, .int), (dv, .int), (dr, .int), (dl, .boolean), (dy, .boolean), (dg, .boolean)] sz) (va_Qi (fun (r : Int32) (_ : Unit) => r = bI (mgM n K V R S L i)) (fun (u : Unit) => wr_B dC dI (va_A [(jm, .inr (3, [.int th, .long sd, .long tp, .int (nI n), .ref ik, .ref iv, .ref ir, .ref il, .ref iy, .ref ig])), (ik, .inl (dk, 86, .inl K)), (iv, .inl (dv, 86, .inl V)), (ir, .inl (dr, 86, .inl R)), (il, .inl (dl, 43, .inl (bF L))), (iy, .inl (dy, 256, .inl (bF S))), (ig, .inl (dg, 43, .inl (bF G)))] sz) [(jm, .inr (3, [.int th, .long sd, .long tp, .int (nI n), .ref ik, .ref iv, .ref ir, .ref il, .ref iy, .ref ig])), (ik, .inl (dk, 86, .inl K)), (iv, .inl (dv, 86, .inl V)), (ir, .inl (dr, 86, .inl R)), (il, .inl (dl, 43, .inl (bF L))), (iy, .inl (dy, 256, .inl (bF S))), (ig, .inl (dg, 43, .inl (bF (gaS n R L i G))))] [(dk, .int), (dv, .int), (dr, .int), (dl, .boolean), (dy, .boolean), (dg, .boolean)]) (va_A [(jm, .inr (3, [.int th, .long sd, .long tp, .int (nI n), .ref ik, .ref iv, .ref ir, .ref il, .ref iy, .ref ig])), (ik, .inl (dk, 86, .inl K)), (iv, .inl (dv, 86, .inl V)), (ir, .inl (dr, 86, .inl R)), (il, .inl (dl, 43, .inl (bF L))), (iy, .inl (dy, 256, .inl (bF S))), (ig, .inl (dg, 43, .inl (bF G)))] sz)) 0 0 (va_A [(jm, .inr (3, [.int th, .long sd, .long tp, .int (nI n), .ref ik, .ref iv, .ref ir, .ref il, .ref iy, .ref ig])), (ik, .inl (dk, 86, .inl K)), (iv, .inl (dv, 86, .inl V)), (ir, .inl (dr, 86, .inl R)), (il, .inl (dl, 43, .inl (bF L))), (iy, .inl (dy, 256, .inl (bF S))), (ig, .inl (dg, 43, .inl (bF G)))] sz) := by
  refine Met.ofW (cc := b_M_mayGo) (maxL := 2) (ret := (Option.some Jvm.ClassFile.FieldType.boolean)) (by decide) rfl ?_
  intro p e s m args below meth c s₁ B0 hml hv0
  obtain ⟨rfl, hsz, hP, hK, hD0, hN⟩ := hv0
  have hx := B0.exec
  have hb := B0.bytes
  have hr := B0.returns
  have hts := atoms_spec (ws := w_M_mayGo) B0.pre
  have hown : s.vm.findClass R_M = some m.cls := findClass_of_methodNamed B0.named
  have hlocks := B0.notSynchronized
  subst hsz
  have hD := hD0.self (sz := s.heap.size)
  generalize hAe : va_A [(jm, .inr (3, [.int th, .long sd, .long tp, .int (nI n), .ref ik, .ref iv, .ref ir, .ref il, .ref iy, .ref ig])), (ik, .inl (dk, 86, .inl K)), (iv, .inl (dv, 86, .inl V)), (ir, .inl (dr, 86, .inl R)), (il, .inl (dl, 43, .inl (bF L))), (iy, .inl (dy, 256, .inl (bF S))), (ig, .inl (dg, 43, .inl (bF G)))] s.heap.size = A at hD ⊢
  have hA : ∀ q : Nat, s.heap.size ≤ q → A q := fun q h => by rw [← hAe]; exact Or.inr h
  have hS : va_S A s.heap s.heap [] := va_S.rf
  have hP : va_P (dC, dI) classes [(jm, .inr (3, [.int th, .long sd, .long tp, .int (nI n), .ref ik, .ref iv, .ref ir, .ref il, .ref iy, .ref ig])), (ik, .inl (dk, 86, .inl K)), (iv, .inl (dv, 86, .inl V)), (ir, .inl (dr, 86, .inl R)), (il, .inl (dl, 43, .inl (bF L))), (iy, .inl (dy, 256, .inl (bF S))), (ig, .inl (dg, 43, .inl (bF G)))] s.heap := hP
  have hl := lv_entry ([.ref jm, .int (nI i)]) (n := 2) (Nat.le_of_ble_eq_true rfl)
  rw [lg_entry_eq]
  generalize (lg_sl ([.ref jm, .int (nI i)]) ++ List.replicate (2 - (lg_sl ([.ref jm, .int (nI i)])).length) Slot.unset).toArray = ls at hl ⊢
  have hl : lv_has ls 2 [(0, .ref jm), (1, .int (nI i))] := hl
  have hc1 := cnt_le (mkB R L i) n
  have hc2 := cnt_le L n
  refine lv_aload_n hx hb d_M_mayGo_0 rfl (lv_at hl 0 rfl) ?_
  refine va_get (D := (dC, dI)) (ci := 3) (v := .ref il) (C := R_M) (T := F_M) (N := 10) hx hb hts (lay_M _) hown hK hP 0 rfl rfl 7 (by decide) (hts _ (List.mem_cons_of_mem _ m_343)) (fun _ h9 => h9) rfl d_M_mayGo_1 ?_
  refine lv_iload_n hx hb d_M_mayGo_4 rfl (lv_at hl 1 rfl) ?_
  refine va_zald hx hb hK hP 4 3 rfl rfl (vp_in_nI (by omega) (by omega)) d_M_mayGo_5 ?_
  refine lv_topi (fun w_1 ew_1 => ?_)
  have ew_1 : (bI (L i)) = w_1 := (ew_1.trans (by rw [nI_clamp (by omega)]; rfl)).symm
  subst ew_1
  refine lv_if_eq (tgt := 37) hx hb d_M_mayGo_6 (by decide) (fun c_6 => ?_) (fun c_6 => ?_)
  · skip
    have c_6 := bI_f c_6
    refine lv_iconst (v := nI 0) hx hb d_M_mayGo_37 (by decide +kernel) ?_
    rw [show (bF G) = (bF (gaS n R L i G)) from ((congrArg bF (if_neg (by rw [c_6]; decide))).symm)] at hP hD
    have hP9 := hP.sub (ws' := [(jm, .inr (3, [.int th, .long sd, .long tp, .int (nI n), .ref ik, .ref iv, .ref ir, .ref il, .ref iy, .ref ig])), (ik, .inl (dk, 86, .inl K)), (iv, .inl (dv, 86, .inl V)), (ir, .inl (dr, 86, .inl R)), (il, .inl (dl, 43, .inl (bF L))), (iy, .inl (dy, 256, .inl (bF S))), (ig, .inl (dg, 43, .inl (bF (gaS n R L i G))))]) [0, 1, 2, 3, 4, 5, 6] rfl
    have hD9 := hD.sub (ws' := [(jm, .inr (3, [.int th, .long sd, .long tp, .int (nI n), .ref ik, .ref iv, .ref ir, .ref il, .ref iy, .ref ig])), (ik, .inl (dk, 86, .inl K)), (iv, .inl (dv, 86, .inl V)), (ir, .inl (dr, 86, .inl R)), (il, .inl (dl, 43, .inl (bF L))), (iy, .inl (dy, 256, .inl (bF S))), (ig, .inl (dg, 43, .inl (bF (gaS n R L i G))))]) [0, 1, 2, 3, 4, 5, 6] (by decide) rfl
    have hK9 := hK.sub (tys' := [(dk, .int), (dv, .int), (dr, .int), (dl, .boolean), (dy, .boolean), (dg, .boolean)]) [0, 1, 2, 3, 4, 5] rfl
    exact W.zret (v := nI 0) (ty := .boolean) hx hb hr (by decide +kernel) (fun t ht hW => ⟨⟨nI 0, (), rfl, (by unfold mgM; first | (rw [c_6, decide_eq_true (Nat.lt_of_not_le c_18), c_30]; rfl) | (rw [c_6, decide_eq_false (Nat.not_lt.mpr c_18)]; rfl) | (rw [c_6]; rfl)), by rw [ht]; exact hP9, va_K.moved hW.alike hK9, hD9⟩, hS.F ht⟩) hS.2.2 d_M_mayGo_38
  · skip
    have c_6 := bI_t c_6
    refine lv_aload_n hx hb d_M_mayGo_9 rfl (lv_at hl 0 rfl) ?_
    refine lv_iload_n hx hb d_M_mayGo_10 rfl (lv_at hl 1 rfl) ?_
    have hPc := hP.sub (ws' := [(jm, .inr (3, [.int th, .long sd, .long tp, .int (nI n), .ref ik, .ref iv, .ref ir, .ref il, .ref iy, .ref ig])), (ir, .inl (dr, 86, .inl R)), (il, .inl (dl, 43, .inl (bF L))), (ig, .inl (dg, 43, .inl (bF G)))]) [0, 3, 4, 6] rfl
    have hKc := hK.sub (tys' := [(dr, .int), (dl, .boolean), (dg, .boolean)]) [2, 3, 5] rfl
    have hDc := hD.sub (ws' := [(jm, .inr (3, [.int th, .long sd, .long tp, .int (nI n), .ref ik, .ref iv, .ref ir, .ref il, .ref iy, .ref ig])), (ir, .inl (dr, 86, .inl R)), (il, .inl (dl, 43, .inl (bF L))), (ig, .inl (dg, 43, .inl (bF G)))]) [0, 3, 4, 6] (by decide) rfl
    have hFc := va_free (wc := [(jm, .inr (3, [.int th, .long sd, .long tp, .int (nI n), .ref ik, .ref iv, .ref ir, .ref il, .ref iy, .ref ig])), (ir, .inl (dr, 86, .inl R)), (il, .inl (dl, 43, .inl (bF L))), (ig, .inl (dg, 43, .inl (bF G)))]) hD hS hA [0, 3, 4, 6] rfl
    refine va_calli (va_runV (As := [.int (nI i)]) (rest := []) ⟨hx, hb, hml, hown, hts⟩ (c_M_marks l dC dI jm ik iv ir il iy ig n th sd tp dr dl dg R L G i (by first | assumption | omega) (by first | assumption | omega) (by first | assumption | omega) _) (cwV 1 hts (g_V big_w m_447 m_449 ms_32 m_4 m_450) rfl rfl rfl (by decide +kernel) ⟨Nat.le_of_ble_eq_true rfl, Nat.le_of_ble_eq_true rfl⟩) (wr_V hPc hKc hDc hN (va_recv hKc hPc (ci := 3) (q0 := 0) rfl rfl)) rfl rfl hl.1 rfl (lv_room (Nat.le_of_ble_eq_true rfl)) d_M_mayGo_11 ⟨Nat.le_of_ble_eq_true rfl, Nat.le_of_ble_eq_true rfl⟩) hS (fun q _ h => hFc q h) hFc (fun r_2 u t H1 locs ht hvm hw hB hz1 hk1 hS => ?_)
    obtain ⟨hP1, hK1, hD1⟩ := hB
    rw [ht] at hP1
    obtain ⟨hP, hD⟩ := va_join (wr := [(ik, .inl (dk, 86, .inl K)), (iv, .inl (dv, 86, .inl V)), (iy, .inl (dy, 256, .inl (bF S)))]) (w1 := [(jm, .inr (3, [.int th, .long sd, .long tp, .int (nI n), .ref ik, .ref iv, .ref ir, .ref il, .ref iy, .ref ig])), (ir, .inl (dr, 86, .inl R)), (il, .inl (dl, 43, .inl (bF L))), (ig, .inl (dg, 43, .inl (bF (mkF R L i n))))]) hP hD [0, 3, 4, 6] [1, 2, 5] rfl rfl (by decide) (by decide) hk1 hFc hP1 hD1
    generalize H1 = H at hP hS ⊢
    have hP : va_P (dC, dI) classes [(ik, .inl (dk, 86, .inl K)), (iv, .inl (dv, 86, .inl V)), (iy, .inl (dy, 256, .inl (bF S))), (jm, .inr (3, [.int th, .long sd, .long tp, .int (nI n), .ref ik, .ref iv, .ref ir, .ref il, .ref iy, .ref ig])), (ir, .inl (dr, 86, .inl R)), (il, .inl (dl, 43, .inl (bF L))), (ig, .inl (dg, 43, .inl (bF (mkF R L i n))))] H := hP
    have hD : va_D A [(ik, .inl (dk, 86, .inl K)), (iv, .inl (dv, 86, .inl V)), (iy, .inl (dy, 256, .inl (bF S))), (jm, .inr (3, [.int th, .long sd, .long tp, .int (nI n), .ref ik, .ref iv, .ref ir, .ref il, .ref iy, .ref ig])), (ir, .inl (dr, 86, .inl R)), (il, .inl (dl, 43, .inl (bF L))), (ig, .inl (dg, 43, .inl (bF (mkF R L i n))))] := hD
    have hw := hw.symm
    subst hw
    refine lv_aload_n hx hb d_M_mayGo_14 rfl (lv_at hl 0 rfl) ?_
    have hPc := hP.sub (ws' := [(jm, .inr (3, [.int th, .long sd, .long tp, .int (nI n), .ref ik, .ref iv, .ref ir, .ref il, .ref iy, .ref ig])), (il, .inl (dl, 43, .inl (bF L)))]) [3, 5] rfl
    have hKc := hK.sub (tys' := [(dl, .boolean)]) [3] rfl
    refine vp_callSi (W.runV (As := []) (rest := [.int (nI (cnt (mkB R L i) n))]) ⟨hx, hb, hml, hown, hts⟩ (c_M_many l dC dI jm ik iv ir il iy ig n th sd tp dl L (by first | assumption | omega)) (cwV 0 hts (g_V big_w m_451 m_453 ms_33 m_4 m_454) rfl rfl rfl (by decide +kernel) ⟨Nat.le_of_ble_eq_true rfl, Nat.le_of_ble_eq_true rfl⟩) (ro_V hPc hKc hN (va_recv hKc hPc (ci := 3) (q0 := 0) rfl rfl)) rfl rfl hl.1 rfl (lv_room (Nat.le_of_ble_eq_true rfl)) d_M_mayGo_15 ⟨Nat.le_of_ble_eq_true rfl, Nat.le_of_ble_eq_true rfl⟩) (fun r_3 er_3 => ?_)
    have er_3 := er_3.symm
    subst er_3
    refine lv_icmp_ge (tgt := 37) hx hb d_M_mayGo_18 (by decide) (fun c_18 => ?_) (fun c_18 => ?_)
    · skip
      have c_18 := (nI_leI (by omega) (by omega)).mp c_18
      refine lv_iconst (v := nI 0) hx hb d_M_mayGo_37 (by decide +kernel) ?_
      rw [show (bF (mkF R L i n)) = (bF (gaS n R L i G)) from ((congrArg bF (if_pos c_6)).symm)] at hP hD
      have hP9 := hP.sub (ws' := [(jm, .inr (3, [.int th, .long sd, .long tp, .int (nI n), .ref ik, .ref iv, .ref ir, .ref il, .ref iy, .ref ig])), (ik, .inl (dk, 86, .inl K)), (iv, .inl (dv, 86, .inl V)), (ir, .inl (dr, 86, .inl R)), (il, .inl (dl, 43, .inl (bF L))), (iy, .inl (dy, 256, .inl (bF S))), (ig, .inl (dg, 43, .inl (bF (gaS n R L i G))))]) [3, 0, 1, 4, 5, 2, 6] rfl
      have hD9 := hD.sub (ws' := [(jm, .inr (3, [.int th, .long sd, .long tp, .int (nI n), .ref ik, .ref iv, .ref ir, .ref il, .ref iy, .ref ig])), (ik, .inl (dk, 86, .inl K)), (iv, .inl (dv, 86, .inl V)), (ir, .inl (dr, 86, .inl R)), (il, .inl (dl, 43, .inl (bF L))), (iy, .inl (dy, 256, .inl (bF S))), (ig, .inl (dg, 43, .inl (bF (gaS n R L i G))))]) [3, 0, 1, 4, 5, 2, 6] (by decide) rfl
      have hK9 := hK.sub (tys' := [(dk, .int), (dv, .int), (dr, .int), (dl, .boolean), (dy, .boolean), (dg, .boolean)]) [0, 1, 2, 3, 4, 5] rfl
      exact W.zret (v := nI 0) (ty := .boolean) hx hb hr (by decide +kernel) (fun t ht hW => ⟨⟨nI 0, (), rfl, (by unfold mgM; first | (rw [c_6, decide_eq_true (Nat.lt_of_not_le c_18), c_30]; rfl) | (rw [c_6, decide_eq_false (Nat.not_lt.mpr c_18)]; rfl) | (rw [c_6]; rfl)), by rw [ht]; exact hP9, va_K.moved hW.alike hK9, hD9⟩, hS.F ht⟩) hS.2.2 d_M_mayGo_38
    · skip
      have c_18 := (not_congr (nI_leI (by omega) (by omega))).mp c_18
      refine lv_aload_n hx hb d_M_mayGo_21 rfl (lv_at hl 0 rfl) ?_
      refine va_get (D := (dC, dI)) (ci := 3) (v := .ref iy) (C := R_M) (T := F_M) (N := 10) hx hb hts (lay_M _) hown hK hP 3 rfl rfl 8 (by decide) (hts _ (List.mem_cons_of_mem _ m_344)) (fun _ h9 => h9) rfl d_M_mayGo_22 ?_
      refine lv_aload_n hx hb d_M_mayGo_25 rfl (lv_at hl 0 rfl) ?_
      have hPc := hP.sub (ws' := [(jm, .inr (3, [.int th, .long sd, .long tp, .int (nI n), .ref ik, .ref iv, .ref ir, .ref il, .ref iy, .ref ig])), (ik, .inl (dk, 86, .inl K)), (iv, .inl (dv, 86, .inl V)), (ir, .inl (dr, 86, .inl R)), (il, .inl (dl, 43, .inl (bF L))), (ig, .inl (dg, 43, .inl (bF (mkF R L i n))))]) [3, 0, 1, 4, 5, 6] rfl
      have hKc := hK.sub (tys' := [(dk, .int), (dv, .int), (dr, .int), (dl, .boolean), (dg, .boolean)]) [0, 1, 2, 3, 5] rfl
      refine vp_callSi (W.runV (As := []) (rest := [.ref iy]) ⟨hx, hb, hml, hown, hts⟩ (c_M_judged l dC dI jm ik iv ir il iy ig n th sd tp dk dv dr dl dg K V R L (mkF R L i n) (by first | assumption | omega) (by first | assumption | omega)) (cwV 0 hts (g_V big_w m_431 m_433 ms_29 m_4 m_434) rfl rfl rfl (by decide +kernel) ⟨Nat.le_of_ble_eq_true rfl, Nat.le_of_ble_eq_true rfl⟩) (ro_V hPc hKc hN (va_recv hKc hPc (ci := 3) (q0 := 0) rfl rfl)) rfl rfl hl.1 rfl (lv_room (Nat.le_of_ble_eq_true rfl)) d_M_mayGo_26 ⟨Nat.le_of_ble_eq_true rfl, Nat.le_of_ble_eq_true rfl⟩) (fun r_4 er_4 => ?_)
      have er_4 := er_4.symm
      subst er_4
      refine va_zald hx hb hK hP 2 4 rfl rfl (jdL_in hKk) d_M_mayGo_29 ?_
      refine lv_topi (fun w_5 ew_5 => ?_)
      have ew_5 : (bI (S (jdL K V R L (mkF R L i n) n).toNatClampNeg)) = w_5 := (ew_5.trans (rfl)).symm
      subst ew_5
      refine lv_if_eq (tgt := 37) hx hb d_M_mayGo_30 (by decide) (fun c_30 => ?_) (fun c_30 => ?_)
      · skip
        have c_30 := bI_f c_30
        refine lv_iconst (v := nI 0) hx hb d_M_mayGo_37 (by decide +kernel) ?_
        rw [show (bF (mkF R L i n)) = (bF (gaS n R L i G)) from ((congrArg bF (if_pos c_6)).symm)] at hP hD
        have hP9 := hP.sub (ws' := [(jm, .inr (3, [.int th, .long sd, .long tp, .int (nI n), .ref ik, .ref iv, .ref ir, .ref il, .ref iy, .ref ig])), (ik, .inl (dk, 86, .inl K)), (iv, .inl (dv, 86, .inl V)), (ir, .inl (dr, 86, .inl R)), (il, .inl (dl, 43, .inl (bF L))), (iy, .inl (dy, 256, .inl (bF S))), (ig, .inl (dg, 43, .inl (bF (gaS n R L i G))))]) [3, 0, 1, 4, 5, 2, 6] rfl
        have hD9 := hD.sub (ws' := [(jm, .inr (3, [.int th, .long sd, .long tp, .int (nI n), .ref ik, .ref iv, .ref ir, .ref il, .ref iy, .ref ig])), (ik, .inl (dk, 86, .inl K)), (iv, .inl (dv, 86, .inl V)), (ir, .inl (dr, 86, .inl R)), (il, .inl (dl, 43, .inl (bF L))), (iy, .inl (dy, 256, .inl (bF S))), (ig, .inl (dg, 43, .inl (bF (gaS n R L i G))))]) [3, 0, 1, 4, 5, 2, 6] (by decide) rfl
        have hK9 := hK.sub (tys' := [(dk, .int), (dv, .int), (dr, .int), (dl, .boolean), (dy, .boolean), (dg, .boolean)]) [0, 1, 2, 3, 4, 5] rfl
        exact W.zret (v := nI 0) (ty := .boolean) hx hb hr (by decide +kernel) (fun t ht hW => ⟨⟨nI 0, (), rfl, (by unfold mgM; first | (rw [c_6, decide_eq_true (Nat.lt_of_not_le c_18), c_30]; rfl) | (rw [c_6, decide_eq_false (Nat.not_lt.mpr c_18)]; rfl) | (rw [c_6]; rfl)), by rw [ht]; exact hP9, va_K.moved hW.alike hK9, hD9⟩, hS.F ht⟩) hS.2.2 d_M_mayGo_38
      · skip
        have c_30 := bI_t c_30
        refine lv_iconst (v := nI 1) hx hb d_M_mayGo_33 (by decide +kernel) ?_
        refine lv_goto (tgt := 38) hx hb d_M_mayGo_34 (by decide) ?_
        rw [show (bF (mkF R L i n)) = (bF (gaS n R L i G)) from ((congrArg bF (if_pos c_6)).symm)] at hP hD
        have hP9 := hP.sub (ws' := [(jm, .inr (3, [.int th, .long sd, .long tp, .int (nI n), .ref ik, .ref iv, .ref ir, .ref il, .ref iy, .ref ig])), (ik, .inl (dk, 86, .inl K)), (iv, .inl (dv, 86, .inl V)), (ir, .inl (dr, 86, .inl R)), (il, .inl (dl, 43, .inl (bF L))), (iy, .inl (dy, 256, .inl (bF S))), (ig, .inl (dg, 43, .inl (bF (gaS n R L i G))))]) [3, 0, 1, 4, 5, 2, 6] rfl
        have hD9 := hD.sub (ws' := [(jm, .inr (3, [.int th, .long sd, .long tp, .int (nI n), .ref ik, .ref iv, .ref ir, .ref il, .ref iy, .ref ig])), (ik, .inl (dk, 86, .inl K)), (iv, .inl (dv, 86, .inl V)), (ir, .inl (dr, 86, .inl R)), (il, .inl (dl, 43, .inl (bF L))), (iy, .inl (dy, 256, .inl (bF S))), (ig, .inl (dg, 43, .inl (bF (gaS n R L i G))))]) [3, 0, 1, 4, 5, 2, 6] (by decide) rfl
        have hK9 := hK.sub (tys' := [(dk, .int), (dv, .int), (dr, .int), (dl, .boolean), (dy, .boolean), (dg, .boolean)]) [0, 1, 2, 3, 4, 5] rfl
        exact W.zret (v := nI 1) (ty := .boolean) hx hb hr (by decide +kernel) (fun t ht hW => ⟨⟨nI 1, (), rfl, (by unfold mgM; first | (rw [c_6, decide_eq_true (Nat.lt_of_not_le c_18), c_30]; rfl) | (rw [c_6, decide_eq_false (Nat.not_lt.mpr c_18)]; rfl) | (rw [c_6]; rfl)), by rw [ht]; exact hP9, va_K.moved hW.alike hK9, hD9⟩, hS.F ht⟩) hS.2.2 d_M_mayGo_38
set_option maxHeartbeats 4000000 in
set_option maxRecDepth 100000 in
/-- reference: first -/
theorem c_M_first (l : Launch) (dC : Nat → ClassId) (dI : Nat → Nat → Nat) (jm ik iv ir il iy ig : Nat) (n : Nat) (th : Int32) (sd tp : Int64) (dk dv dr dl dy dg : ClassId) (K V R : Nat → Int32) (L S G : Nat → Bool)  (hn : n ≤ 43) (hR : rfK n R) (hKk : kdK n K) (sz : Nat) : Met l y_M_first w_M_first ({ frames := 3, cells := 0, slots := 0, locals := 65 }) (wr_P dC dI [.ref jm] [(jm, .inr (3, [.int th, .long sd, .long tp, .int (nI n), .ref ik, .ref iv, .ref ir, .ref il, .ref iy, .ref ig])), (ik, .inl (dk, 86, .inl K)), (iv, .inl (dv, 86, .inl V)), (ir, .inl (dr, 86, .inl R)), (il, .inl (dl, 43, .inl (bF L))), (iy, .inl (dy, 256, .inl (bF S))), (ig, .inl (dg, 43, .inl (bF G)))] [(dk, .int), (dv, .int), (dr, .int), (dl, .boolean), (dy, .boolean), (dg, .boolean)] sz) (va_Qi (fun (r : Int32) (_ : Unit) => r = oI (mgO n K V R S L)) (fun (u : Unit) => wr_B dC dI (va_A [(jm, .inr (3, [.int th, .long sd, .long tp, .int (nI n), .ref ik, .ref iv, .ref ir, .ref il, .ref iy, .ref ig])), (ik, .inl (dk, 86, .inl K)), (iv, .inl (dv, 86, .inl V)), (ir, .inl (dr, 86, .inl R)), (il, .inl (dl, 43, .inl (bF L))), (iy, .inl (dy, 256, .inl (bF S))), (ig, .inl (dg, 43, .inl (bF G)))] sz) [(jm, .inr (3, [.int th, .long sd, .long tp, .int (nI n), .ref ik, .ref iv, .ref ir, .ref il, .ref iy, .ref ig])), (ik, .inl (dk, 86, .inl K)), (iv, .inl (dv, 86, .inl V)), (ir, .inl (dr, 86, .inl R)), (il, .inl (dl, 43, .inl (bF L))), (iy, .inl (dy, 256, .inl (bF S))), (ig, .inl (dg, 43, .inl (bF (gaE n K V R S L G))))] [(dk, .int), (dv, .int), (dr, .int), (dl, .boolean), (dy, .boolean), (dg, .boolean)]) (va_A [(jm, .inr (3, [.int th, .long sd, .long tp, .int (nI n), .ref ik, .ref iv, .ref ir, .ref il, .ref iy, .ref ig])), (ik, .inl (dk, 86, .inl K)), (iv, .inl (dv, 86, .inl V)), (ir, .inl (dr, 86, .inl R)), (il, .inl (dl, 43, .inl (bF L))), (iy, .inl (dy, 256, .inl (bF S))), (ig, .inl (dg, 43, .inl (bF G)))] sz)) 0 0 (va_A [(jm, .inr (3, [.int th, .long sd, .long tp, .int (nI n), .ref ik, .ref iv, .ref ir, .ref il, .ref iy, .ref ig])), (ik, .inl (dk, 86, .inl K)), (iv, .inl (dv, 86, .inl V)), (ir, .inl (dr, 86, .inl R)), (il, .inl (dl, 43, .inl (bF L))), (iy, .inl (dy, 256, .inl (bF S))), (ig, .inl (dg, 43, .inl (bF G)))] sz) := by
  refine Met.ofW (cc := b_M_first) (maxL := 2) (ret := (Option.some Jvm.ClassFile.FieldType.int)) (by decide) rfl ?_
  intro p e s m args below meth c s₁ B0 hml hv0
  obtain ⟨rfl, hsz, hP, hK, hD0, hN⟩ := hv0
  have hx := B0.exec
  have hb := B0.bytes
  have hr := B0.returns
  have hts := atoms_spec (ws := w_M_first) B0.pre
  have hown : s.vm.findClass R_M = some m.cls := findClass_of_methodNamed B0.named
  have hlocks := B0.notSynchronized
  subst hsz
  have hD := hD0.self (sz := s.heap.size)
  generalize hAe : va_A [(jm, .inr (3, [.int th, .long sd, .long tp, .int (nI n), .ref ik, .ref iv, .ref ir, .ref il, .ref iy, .ref ig])), (ik, .inl (dk, 86, .inl K)), (iv, .inl (dv, 86, .inl V)), (ir, .inl (dr, 86, .inl R)), (il, .inl (dl, 43, .inl (bF L))), (iy, .inl (dy, 256, .inl (bF S))), (ig, .inl (dg, 43, .inl (bF G)))] s.heap.size = A at hD ⊢
  have hA : ∀ q : Nat, s.heap.size ≤ q → A q := fun q h => by rw [← hAe]; exact Or.inr h
  have hS : va_S A s.heap s.heap [] := va_S.rf
  have hP : va_P (dC, dI) classes [(jm, .inr (3, [.int th, .long sd, .long tp, .int (nI n), .ref ik, .ref iv, .ref ir, .ref il, .ref iy, .ref ig])), (ik, .inl (dk, 86, .inl K)), (iv, .inl (dv, 86, .inl V)), (ir, .inl (dr, 86, .inl R)), (il, .inl (dl, 43, .inl (bF L))), (iy, .inl (dy, 256, .inl (bF S))), (ig, .inl (dg, 43, .inl (bF G)))] s.heap := hP
  have hl := lv_entry ([.ref jm]) (n := 2) (Nat.le_of_ble_eq_true rfl)
  rw [lg_entry_eq]
  generalize (lg_sl ([.ref jm]) ++ List.replicate (2 - (lg_sl ([.ref jm])).length) Slot.unset).toArray = ls at hl ⊢
  have hl : lv_has ls 2 [(0, .ref jm)] := hl
  refine lv_iconst (v := nI 0) hx hb d_M_first_0 (by decide +kernel) ?_
  refine lv_istore_n (lv' := [(1, .int (nI 0)), (0, .ref jm)]) hx hb d_M_first_1 rfl hl (by decide) rfl (fun ls hl => ?_)
  have lp_2 : ∀ (k9_2 : Nat), ∀ (i : Nat), n - i < k9_2 → (i ≤ n) → (∀ a, a < i → mgM n K V R S L a = false) → ∀ (H : Heap) (locs : List Loc), va_P (dC, dI) classes [(jm, .inr (3, [.int th, .long sd, .long tp, .int (nI n), .ref ik, .ref iv, .ref ir, .ref il, .ref iy, .ref ig])), (ik, .inl (dk, 86, .inl K)), (iv, .inl (dv, 86, .inl V)), (ir, .inl (dr, 86, .inl R)), (il, .inl (dl, 43, .inl (bF L))), (iy, .inl (dy, 256, .inl (bF S))), (ig, .inl (dg, 43, .inl (bF (gaF n R L G i))))] H → va_D A [(jm, .inr (3, [.int th, .long sd, .long tp, .int (nI n), .ref ik, .ref iv, .ref ir, .ref il, .ref iy, .ref ig])), (ik, .inl (dk, 86, .inl K)), (iv, .inl (dv, 86, .inl V)), (ir, .inl (dr, 86, .inl R)), (il, .inl (dl, 43, .inl (bF L))), (iy, .inl (dy, 256, .inl (bF S))), (ig, .inl (dg, 43, .inl (bF (gaF n R L G i))))] → va_S A s.heap H locs → ∀ (ls : Array Slot), lv_has ls 2 [(0, .ref jm), (1, .int (nI i))] → W p l e (headSpec w_M_first ({ frames := 3, cells := 0, slots := 0, locals := 65 })).room s m ([.ref jm]).toArray below meth c H locs 0 0 (MQ below (va_Qi (fun (r : Int32) (_ : Unit) => r = oI (mgO n K V R S L)) (fun (u : Unit) => wr_B dC dI (A) [(jm, .inr (3, [.int th, .long sd, .long tp, .int (nI n), .ref ik, .ref iv, .ref ir, .ref il, .ref iy, .ref ig])), (ik, .inl (dk, 86, .inl K)), (iv, .inl (dv, 86, .inl V)), (ir, .inl (dr, 86, .inl R)), (il, .inl (dl, 43, .inl (bF L))), (iy, .inl (dy, 256, .inl (bF S))), (ig, .inl (dg, 43, .inl (bF (gaE n K V R S L G))))] [(dk, .int), (dv, .int), (dr, .int), (dl, .boolean), (dy, .boolean), (dg, .boolean)]) (A)) ([.ref jm]).toArray s 0 0 A) (F0 m 2 ls []) := by
    intro k9_2
    induction k9_2 with
    | zero =>
      intro i hk9
      exact absurd hk9 (Nat.not_lt_zero _)
    | succ k9_2 ih_2 =>
      intro i hk9_2 hi hno H locs hP hD hS ls hl
      refine lv_iload_n hx hb d_M_first_2 rfl (lv_at hl 1 rfl) ?_
      refine lv_aload_n hx hb d_M_first_3 rfl (lv_at hl 0 rfl) ?_
      refine va_get (D := (dC, dI)) (ci := 3) (v := .int (nI n)) (C := R_M) (T := F_M) (N := 10) hx hb hts (lay_M _) hown hK hP 0 rfl rfl 3 (by decide) (hts _ (List.mem_cons_of_mem _ m_339)) (fun _ h9 => h9) rfl d_M_first_4 ?_
      refine lv_icmp_ge (tgt := 26) hx hb d_M_first_7 (by decide) (fun c_7 => ?_) (fun c_7 => ?_)
      · skip
        have c_7 := (nI_leI (by omega) (by omega)).mp c_7
        refine lv_iconst (v := (-1)) hx hb d_M_first_26 (by decide +kernel) ?_
        rw [show i = n by omega] at hP hD
        rw [show (bF (gaF n R L G n)) = (bF (gaE n K V R S L G)) from (congrArg bF (ga_none (fun a ha => hno a (by omega))))] at hP hD
        have hP9 := hP.sub (ws' := [(jm, .inr (3, [.int th, .long sd, .long tp, .int (nI n), .ref ik, .ref iv, .ref ir, .ref il, .ref iy, .ref ig])), (ik, .inl (dk, 86, .inl K)), (iv, .inl (dv, 86, .inl V)), (ir, .inl (dr, 86, .inl R)), (il, .inl (dl, 43, .inl (bF L))), (iy, .inl (dy, 256, .inl (bF S))), (ig, .inl (dg, 43, .inl (bF (gaE n K V R S L G))))]) [0, 1, 2, 3, 4, 5, 6] rfl
        have hD9 := hD.sub (ws' := [(jm, .inr (3, [.int th, .long sd, .long tp, .int (nI n), .ref ik, .ref iv, .ref ir, .ref il, .ref iy, .ref ig])), (ik, .inl (dk, 86, .inl K)), (iv, .inl (dv, 86, .inl V)), (ir, .inl (dr, 86, .inl R)), (il, .inl (dl, 43, .inl (bF L))), (iy, .inl (dy, 256, .inl (bF S))), (ig, .inl (dg, 43, .inl (bF (gaE n K V R S L G))))]) [0, 1, 2, 3, 4, 5, 6] (by decide) rfl
        have hK9 := hK.sub (tys' := [(dk, .int), (dv, .int), (dr, .int), (dl, .boolean), (dy, .boolean), (dg, .boolean)]) [0, 1, 2, 3, 4, 5] rfl
        exact W.iret (v := (-1)) hx hb hr (fun t ht hW => ⟨⟨(-1), (), rfl, (by unfold mgO; rw [fst9_none (fun a ha => hno a (by omega))]; rfl), by rw [ht]; exact hP9, va_K.moved hW.alike hK9, hD9⟩, hS.F ht⟩) hS.2.2 d_M_first_27
      · skip
        have c_7 := (not_congr (nI_leI (by omega) (by omega))).mp c_7
        refine lv_aload_n hx hb d_M_first_10 rfl (lv_at hl 0 rfl) ?_
        refine lv_iload_n hx hb d_M_first_11 rfl (lv_at hl 1 rfl) ?_
        have hPc := hP.sub (ws' := [(jm, .inr (3, [.int th, .long sd, .long tp, .int (nI n), .ref ik, .ref iv, .ref ir, .ref il, .ref iy, .ref ig])), (ik, .inl (dk, 86, .inl K)), (iv, .inl (dv, 86, .inl V)), (ir, .inl (dr, 86, .inl R)), (il, .inl (dl, 43, .inl (bF L))), (iy, .inl (dy, 256, .inl (bF S))), (ig, .inl (dg, 43, .inl (bF (gaF n R L G i))))]) [0, 1, 2, 3, 4, 5, 6] rfl
        have hKc := hK.sub (tys' := [(dk, .int), (dv, .int), (dr, .int), (dl, .boolean), (dy, .boolean), (dg, .boolean)]) [0, 1, 2, 3, 4, 5] rfl
        have hDc := hD.sub (ws' := [(jm, .inr (3, [.int th, .long sd, .long tp, .int (nI n), .ref ik, .ref iv, .ref ir, .ref il, .ref iy, .ref ig])), (ik, .inl (dk, 86, .inl K)), (iv, .inl (dv, 86, .inl V)), (ir, .inl (dr, 86, .inl R)), (il, .inl (dl, 43, .inl (bF L))), (iy, .inl (dy, 256, .inl (bF S))), (ig, .inl (dg, 43, .inl (bF (gaF n R L G i))))]) [0, 1, 2, 3, 4, 5, 6] (by decide) rfl
        have hFc := va_free (wc := [(jm, .inr (3, [.int th, .long sd, .long tp, .int (nI n), .ref ik, .ref iv, .ref ir, .ref il, .ref iy, .ref ig])), (ik, .inl (dk, 86, .inl K)), (iv, .inl (dv, 86, .inl V)), (ir, .inl (dr, 86, .inl R)), (il, .inl (dl, 43, .inl (bF L))), (iy, .inl (dy, 256, .inl (bF S))), (ig, .inl (dg, 43, .inl (bF (gaF n R L G i))))]) hD hS hA [0, 1, 2, 3, 4, 5, 6] rfl
        refine va_calli (va_runV (As := [.int (nI i)]) (rest := []) ⟨hx, hb, hml, hown, hts⟩ (c_M_mayGo l dC dI jm ik iv ir il iy ig n th sd tp dk dv dr dl dy dg K V R L S (gaF n R L G i) i (by first | assumption | omega) (by first | assumption | omega) (by first | assumption | omega) (by first | assumption | omega) _) (cwV 1 hts (g_V big_w m_443 m_445 ms_31 m_4 m_446) rfl rfl rfl (by decide +kernel) ⟨Nat.le_of_ble_eq_true rfl, Nat.le_of_ble_eq_true rfl⟩) (wr_V hPc hKc hDc hN (va_recv hKc hPc (ci := 3) (q0 := 0) rfl rfl)) rfl rfl hl.1 rfl (lv_room (Nat.le_of_ble_eq_true rfl)) d_M_first_12 ⟨Nat.le_of_ble_eq_true rfl, Nat.le_of_ble_eq_true rfl⟩) hS (fun q _ h => hFc q h) hFc (fun r_1 u t H1 locs ht hvm hw hB hz1 hk1 hS => ?_)
        obtain ⟨hP1, hK1, hD1⟩ := hB
        rw [ht] at hP1
        obtain ⟨hP, hD⟩ := va_join (wr := []) (w1 := [(jm, .inr (3, [.int th, .long sd, .long tp, .int (nI n), .ref ik, .ref iv, .ref ir, .ref il, .ref iy, .ref ig])), (ik, .inl (dk, 86, .inl K)), (iv, .inl (dv, 86, .inl V)), (ir, .inl (dr, 86, .inl R)), (il, .inl (dl, 43, .inl (bF L))), (iy, .inl (dy, 256, .inl (bF S))), (ig, .inl (dg, 43, .inl (bF (gaS n R L i (gaF n R L G i)))))]) hP hD [0, 1, 2, 3, 4, 5, 6] [] rfl rfl (by decide) (by decide) hk1 hFc hP1 hD1
        generalize H1 = H at hP hS ⊢
        have hP : va_P (dC, dI) classes [(jm, .inr (3, [.int th, .long sd, .long tp, .int (nI n), .ref ik, .ref iv, .ref ir, .ref il, .ref iy, .ref ig])), (ik, .inl (dk, 86, .inl K)), (iv, .inl (dv, 86, .inl V)), (ir, .inl (dr, 86, .inl R)), (il, .inl (dl, 43, .inl (bF L))), (iy, .inl (dy, 256, .inl (bF S))), (ig, .inl (dg, 43, .inl (bF (gaS n R L i (gaF n R L G i)))))] H := hP
        have hD : va_D A [(jm, .inr (3, [.int th, .long sd, .long tp, .int (nI n), .ref ik, .ref iv, .ref ir, .ref il, .ref iy, .ref ig])), (ik, .inl (dk, 86, .inl K)), (iv, .inl (dv, 86, .inl V)), (ir, .inl (dr, 86, .inl R)), (il, .inl (dl, 43, .inl (bF L))), (iy, .inl (dy, 256, .inl (bF S))), (ig, .inl (dg, 43, .inl (bF (gaS n R L i (gaF n R L G i)))))] := hD
        have hw := hw.symm
        subst hw
        refine lv_if_eq (tgt := 20) hx hb d_M_first_15 (by decide) (fun c_15 => ?_) (fun c_15 => ?_)
        · skip
          have c_15 := bI_f c_15
          refine lv_iinc (v := nI (i + 1)) (lv' := [(1, .int (nI (i + 1))), (0, .ref jm)]) hx hb d_M_first_20 hl (k := 1) rfl (nI_1 _) (by decide) rfl (fun ls hl => ?_)
          refine lv_goto (tgt := 2) hx hb d_M_first_23 (by decide) ?_
          exact ih_2 (i + 1) (by omega) (by omega) (lt_s hno c_15) _ _ (hP.sub (ws' := [(jm, .inr (3, [.int th, .long sd, .long tp, .int (nI n), .ref ik, .ref iv, .ref ir, .ref il, .ref iy, .ref ig])), (ik, .inl (dk, 86, .inl K)), (iv, .inl (dv, 86, .inl V)), (ir, .inl (dr, 86, .inl R)), (il, .inl (dl, 43, .inl (bF L))), (iy, .inl (dy, 256, .inl (bF S))), (ig, .inl (dg, 43, .inl (bF (gaF n R L G (i + 1)))))]) [0, 1, 2, 3, 4, 5, 6] rfl) (hD.sub (ws' := [(jm, .inr (3, [.int th, .long sd, .long tp, .int (nI n), .ref ik, .ref iv, .ref ir, .ref il, .ref iy, .ref ig])), (ik, .inl (dk, 86, .inl K)), (iv, .inl (dv, 86, .inl V)), (ir, .inl (dr, 86, .inl R)), (il, .inl (dl, 43, .inl (bF L))), (iy, .inl (dy, 256, .inl (bF S))), (ig, .inl (dg, 43, .inl (bF (gaF n R L G (i + 1)))))]) [0, 1, 2, 3, 4, 5, 6] (by decide) rfl) hS ls (lv_sub (l' := [(0, .ref jm), (1, .int (nI (i + 1)))]) hl [1, 0] rfl)
        · skip
          have c_15 := bI_t c_15
          refine lv_iload_n hx hb d_M_first_18 rfl (lv_at hl 1 rfl) ?_
          rw [show (bF (gaS n R L i (gaF n R L G i))) = (bF (gaE n K V R S L G)) from (congrArg bF (ga_some (by omega) hno c_15))] at hP hD
          have hP9 := hP.sub (ws' := [(jm, .inr (3, [.int th, .long sd, .long tp, .int (nI n), .ref ik, .ref iv, .ref ir, .ref il, .ref iy, .ref ig])), (ik, .inl (dk, 86, .inl K)), (iv, .inl (dv, 86, .inl V)), (ir, .inl (dr, 86, .inl R)), (il, .inl (dl, 43, .inl (bF L))), (iy, .inl (dy, 256, .inl (bF S))), (ig, .inl (dg, 43, .inl (bF (gaE n K V R S L G))))]) [0, 1, 2, 3, 4, 5, 6] rfl
          have hD9 := hD.sub (ws' := [(jm, .inr (3, [.int th, .long sd, .long tp, .int (nI n), .ref ik, .ref iv, .ref ir, .ref il, .ref iy, .ref ig])), (ik, .inl (dk, 86, .inl K)), (iv, .inl (dv, 86, .inl V)), (ir, .inl (dr, 86, .inl R)), (il, .inl (dl, 43, .inl (bF L))), (iy, .inl (dy, 256, .inl (bF S))), (ig, .inl (dg, 43, .inl (bF (gaE n K V R S L G))))]) [0, 1, 2, 3, 4, 5, 6] (by decide) rfl
          have hK9 := hK.sub (tys' := [(dk, .int), (dv, .int), (dr, .int), (dl, .boolean), (dy, .boolean), (dg, .boolean)]) [0, 1, 2, 3, 4, 5] rfl
          exact W.iret (v := nI i) hx hb hr (fun t ht hW => ⟨⟨nI i, (), rfl, (by unfold mgO; rw [fst9_some c_15 hno (by omega)]; rfl), by rw [ht]; exact hP9, va_K.moved hW.alike hK9, hD9⟩, hS.F ht⟩) hS.2.2 d_M_first_19
  exact lp_2 ((n - 0) + 1) 0 (by omega) (by omega) lt_0 _ _ (hP.sub (ws' := [(jm, .inr (3, [.int th, .long sd, .long tp, .int (nI n), .ref ik, .ref iv, .ref ir, .ref il, .ref iy, .ref ig])), (ik, .inl (dk, 86, .inl K)), (iv, .inl (dv, 86, .inl V)), (ir, .inl (dr, 86, .inl R)), (il, .inl (dl, 43, .inl (bF L))), (iy, .inl (dy, 256, .inl (bF S))), (ig, .inl (dg, 43, .inl (bF (gaF n R L G 0))))]) [0, 1, 2, 3, 4, 5, 6] rfl) (hD.sub (ws' := [(jm, .inr (3, [.int th, .long sd, .long tp, .int (nI n), .ref ik, .ref iv, .ref ir, .ref il, .ref iy, .ref ig])), (ik, .inl (dk, 86, .inl K)), (iv, .inl (dv, 86, .inl V)), (ir, .inl (dr, 86, .inl R)), (il, .inl (dl, 43, .inl (bF L))), (iy, .inl (dy, 256, .inl (bF S))), (ig, .inl (dg, 43, .inl (bF (gaF n R L G 0))))]) [0, 1, 2, 3, 4, 5, 6] (by decide) rfl) hS ls (lv_sub (l' := [(0, .ref jm), (1, .int (nI 0))]) hl [1, 0] rfl)
