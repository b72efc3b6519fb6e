theorem m_335 : (Jvm.Cond.methodLink "PortDrawerModel" (1 : Nat) ({ cls := "java/lang/Object", name := "<init>", desc := "()V" } : Jvm.MethodName)) ∈ tblG := m_t (i := 335) rfl rfl
theorem m_337 : (Jvm.Cond.fieldLink "PortDrawerModel" (29 : Nat) "PortDrawerModel" "seed" "J") ∈ tblG := m_t (i := 337) rfl rfl
theorem m_385 : (Jvm.Cond.code ({ cls := "PortDrawerModel", name := "draws", desc := "(JII)V" } : Jvm.MethodName) prog_5_method_9_code (7 : Nat) (Option.none : Option Jvm.ClassFile.FieldType)) ∈ tblG := m_t (i := 385) rfl rfl
theorem ms_22 : Cond.selects "PortDrawerModel" ⟨"PortDrawerModel", "draws", "(JII)V"⟩ ⟨"PortDrawerModel", "draws", "(JII)V"⟩ ∈ tblG := m_s (i := 22) rfl rfl
theorem m_382 : (Jvm.Cond.methodLink "PortDrawerModel" (66 : Nat) ({ cls := "PortDrawerModel", name := "draws", desc := "(JII)V" } : Jvm.MethodName)) ∈ tblG := m_t (i := 382) rfl rfl
theorem m_384 : (Jvm.Cond.instanceMethod ({ cls := "PortDrawerModel", name := "draws", desc := "(JII)V" } : Jvm.MethodName)) ∈ tblG := m_t (i := 384) rfl rfl
theorem m_381 : (Jvm.Cond.code ({ cls := "PortDrawerModel", name := "refuse", desc := "(I)I" } : Jvm.MethodName) prog_5_method_3_code (2 : Nat) (Option.some Jvm.ClassFile.FieldType.int)) ∈ tblG := m_t (i := 381) rfl rfl
theorem ms_21 : Cond.selects "PortDrawerModel" ⟨"PortDrawerModel", "refuse", "(I)I"⟩ ⟨"PortDrawerModel", "refuse", "(I)I"⟩ ∈ tblG := m_s (i := 21) rfl rfl
theorem m_378 : (Jvm.Cond.methodLink "PortDrawerModel" (63 : Nat) ({ cls := "PortDrawerModel", name := "refuse", desc := "(I)I" } : Jvm.MethodName)) ∈ tblG := m_t (i := 378) rfl rfl
theorem m_380 : (Jvm.Cond.instanceMethod ({ cls := "PortDrawerModel", name := "refuse", desc := "(I)I" } : Jvm.MethodName)) ∈ tblG := m_t (i := 380) rfl rfl
theorem m_414 : (Jvm.Cond.code ({ cls := "PortDrawerModel", name := "isPart", desc := "(I)Z" } : Jvm.MethodName) prog_5_method_5_code (2 : Nat) (Option.some Jvm.ClassFile.FieldType.boolean)) ∈ tblG := m_t (i := 414) rfl rfl
theorem ms_26 : Cond.selects "PortDrawerModel" ⟨"PortDrawerModel", "isPart", "(I)Z"⟩ ⟨"PortDrawerModel", "isPart", "(I)Z"⟩ ∈ tblG := m_s (i := 26) rfl rfl
theorem m_411 : (Jvm.Cond.methodLink "PortDrawerModel" (73 : Nat) ({ cls := "PortDrawerModel", name := "isPart", desc := "(I)Z" } : Jvm.MethodName)) ∈ tblG := m_t (i := 411) rfl rfl
theorem m_413 : (Jvm.Cond.instanceMethod ({ cls := "PortDrawerModel", name := "isPart", desc := "(I)Z" } : Jvm.MethodName)) ∈ tblG := m_t (i := 413) rfl rfl
theorem m_482 : (Jvm.Cond.code ({ cls := "PortDrawerModel", name := "ofKind", desc := "(I)I" } : Jvm.MethodName) prog_5_method_29_code (4 : Nat) (Option.some Jvm.ClassFile.FieldType.int)) ∈ tblG := m_t (i := 482) rfl rfl
theorem ms_35 : Cond.selects "PortDrawerModel" ⟨"PortDrawerModel", "ofKind", "(I)I"⟩ ⟨"PortDrawerModel", "ofKind", "(I)I"⟩ ∈ tblG := m_s (i := 35) rfl rfl
theorem m_479 : (Jvm.Cond.methodLink "PortDrawerModel" (102 : Nat) ({ cls := "PortDrawerModel", name := "ofKind", desc := "(I)I" } : Jvm.MethodName)) ∈ tblG := m_t (i := 479) rfl rfl
theorem m_481 : (Jvm.Cond.instanceMethod ({ cls := "PortDrawerModel", name := "ofKind", desc := "(I)I" } : Jvm.MethodName)) ∈ tblG := m_t (i := 481) rfl rfl
theorem d_M_init_0 : decode b_M_init 0 = .ok (.aload_n 0, 1) := by decide +kernel
theorem d_M_init_1 : decode b_M_init 1 = .ok (.invokespecial 1, 3) := by decide +kernel
theorem d_M_init_4 : decode b_M_init 4 = .ok (.aload_n 0, 1) := by decide +kernel
theorem d_M_init_5 : decode b_M_init 5 = .ok (.bipush 86, 2) := by decide +kernel
theorem d_M_init_7 : decode b_M_init 7 = .ok (.newarray .int, 2) := by decide +kernel
theorem d_M_init_9 : decode b_M_init 9 = .ok (.putfield 7, 3) := by decide +kernel
theorem d_M_init_12 : decode b_M_init 12 = .ok (.aload_n 0, 1) := by decide +kernel
theorem d_M_init_13 : decode b_M_init 13 = .ok (.bipush 86, 2) := by decide +kernel
theorem d_M_init_15 : decode b_M_init 15 = .ok (.newarray .int, 2) := by decide +kernel
theorem d_M_init_17 : decode b_M_init 17 = .ok (.putfield 13, 3) := by decide +kernel
theorem d_M_init_20 : decode b_M_init 20 = .ok (.aload_n 0, 1) := by decide +kernel
theorem d_M_init_21 : decode b_M_init 21 = .ok (.bipush 86, 2) := by decide +kernel
theorem d_M_init_23 : decode b_M_init 23 = .ok (.newarray .int, 2) := by decide +kernel
theorem d_M_init_25 : decode b_M_init 25 = .ok (.putfield 16, 3) := by decide +kernel
theorem d_M_init_28 : decode b_M_init 28 = .ok (.aload_n 0, 1) := by decide +kernel
theorem d_M_init_29 : decode b_M_init 29 = .ok (.bipush 43, 2) := by decide +kernel
theorem d_M_init_31 : decode b_M_init 31 = .ok (.newarray .boolean, 2) := by decide +kernel
theorem d_M_init_33 : decode b_M_init 33 = .ok (.putfield 19, 3) := by decide +kernel
theorem d_M_init_36 : decode b_M_init 36 = .ok (.aload_n 0, 1) := by decide +kernel
theorem d_M_init_37 : decode b_M_init 37 = .ok (.sipush 256, 3) := by decide +kernel
theorem d_M_init_40 : decode b_M_init 40 = .ok (.newarray .boolean, 2) := by decide +kernel
theorem d_M_init_42 : decode b_M_init 42 = .ok (.putfield 23, 3) := by decide +kernel
theorem d_M_init_45 : decode b_M_init 45 = .ok (.aload_n 0, 1) := by decide +kernel
theorem d_M_init_46 : decode b_M_init 46 = .ok (.bipush 43, 2) := by decide +kernel
theorem d_M_init_48 : decode b_M_init 48 = .ok (.newarray .boolean, 2) := by decide +kernel
theorem d_M_init_50 : decode b_M_init 50 = .ok (.putfield 26, 3) := by decide +kernel
theorem d_M_init_53 : decode b_M_init 53 = .ok (.aload_n 0, 1) := by decide +kernel
theorem d_M_init_54 : decode b_M_init 54 = .ok (.lload_n 1, 1) := by decide +kernel
theorem d_M_init_55 : decode b_M_init 55 = .ok (.putfield 29, 3) := by decide +kernel
theorem d_M_init_58 : decode b_M_init 58 = .ok (.return_, 1) := by decide +kernel
theorem d_M_draw_0 : decode b_M_draw 0 = .ok (.iload_n 1, 1) := by decide +kernel
theorem d_M_draw_1 : decode b_M_draw 1 = .ok (.iconst 0, 1) := by decide +kernel
theorem d_M_draw_2 : decode b_M_draw 2 = .ok (.bipush 40, 2) := by decide +kernel
theorem d_M_draw_4 : decode b_M_draw 4 = .ok (.invokestatic 59, 3) := by decide +kernel
theorem d_M_draw_7 : decode b_M_draw 7 = .ok (.ifCond .ne 9, 3) := by decide +kernel
theorem d_M_draw_10 : decode b_M_draw 10 = .ok (.aload_n 0, 1) := by decide +kernel
theorem d_M_draw_11 : decode b_M_draw 11 = .ok (.iconst 1, 1) := by decide +kernel
theorem d_M_draw_12 : decode b_M_draw 12 = .ok (.invokevirtual 63, 3) := by decide +kernel
theorem d_M_draw_15 : decode b_M_draw 15 = .ok (.ireturn, 1) := by decide +kernel
theorem d_M_draw_16 : decode b_M_draw 16 = .ok (.aload_n 0, 1) := by decide +kernel
theorem d_M_draw_17 : decode b_M_draw 17 = .ok (.iconst 0, 1) := by decide +kernel
theorem d_M_draw_18 : decode b_M_draw 18 = .ok (.putfield 33, 3) := by decide +kernel
theorem d_M_draw_21 : decode b_M_draw 21 = .ok (.aload_n 0, 1) := by decide +kernel
theorem d_M_draw_22 : decode b_M_draw 22 = .ok (.aload_n 0, 1) := by decide +kernel
theorem d_M_draw_23 : decode b_M_draw 23 = .ok (.getfield 29, 3) := by decide +kernel
theorem d_M_draw_26 : decode b_M_draw 26 = .ok (.iconst 0, 1) := by decide +kernel
theorem d_M_draw_27 : decode b_M_draw 27 = .ok (.iload_n 1, 1) := by decide +kernel
theorem d_M_draw_28 : decode b_M_draw 28 = .ok (.invokevirtual 66, 3) := by decide +kernel
theorem d_M_draw_31 : decode b_M_draw 31 = .ok (.aload_n 0, 1) := by decide +kernel
theorem d_M_draw_32 : decode b_M_draw 32 = .ok (.iload_n 1, 1) := by decide +kernel
theorem d_M_draw_33 : decode b_M_draw 33 = .ok (.iconst 3, 1) := by decide +kernel
theorem d_M_draw_34 : decode b_M_draw 34 = .ok (.iadd, 1) := by decide +kernel
theorem d_M_draw_35 : decode b_M_draw 35 = .ok (.putfield 37, 3) := by decide +kernel
theorem d_M_draw_38 : decode b_M_draw 38 = .ok (.aload_n 0, 1) := by decide +kernel
theorem d_M_draw_39 : decode b_M_draw 39 = .ok (.invokevirtual 70, 3) := by decide +kernel
theorem d_M_draw_42 : decode b_M_draw 42 = .ok (.aload_n 0, 1) := by decide +kernel
theorem d_M_draw_43 : decode b_M_draw 43 = .ok (.getfield 37, 3) := by decide +kernel
theorem d_M_draw_46 : decode b_M_draw 46 = .ok (.ireturn, 1) := by decide +kernel
theorem d_M_same_0 : decode b_M_same 0 = .ok (.iload_n 3, 1) := by decide +kernel
theorem d_M_same_1 : decode b_M_same 1 = .ok (.iconst 0, 1) := by decide +kernel
theorem d_M_same_2 : decode b_M_same 2 = .ok (.bipush 40, 2) := by decide +kernel
theorem d_M_same_4 : decode b_M_same 4 = .ok (.invokestatic 59, 3) := by decide +kernel
theorem d_M_same_7 : decode b_M_same 7 = .ok (.ifCond .ne 10, 3) := by decide +kernel
theorem d_M_same_10 : decode b_M_same 10 = .ok (.aload_n 0, 1) := by decide +kernel
theorem d_M_same_11 : decode b_M_same 11 = .ok (.iconst 1, 1) := by decide +kernel
theorem d_M_same_12 : decode b_M_same 12 = .ok (.putfield 33, 3) := by decide +kernel
theorem d_M_same_15 : decode b_M_same 15 = .ok (.iconst 0, 1) := by decide +kernel
theorem d_M_same_16 : decode b_M_same 16 = .ok (.ireturn, 1) := by decide +kernel
theorem d_M_same_17 : decode b_M_same 17 = .ok (.aload_n 0, 1) := by decide +kernel
theorem d_M_same_18 : decode b_M_same 18 = .ok (.iconst 0, 1) := by decide +kernel
theorem d_M_same_19 : decode b_M_same 19 = .ok (.putfield 33, 3) := by decide +kernel
theorem d_M_same_22 : decode b_M_same 22 = .ok (.aload_n 0, 1) := by decide +kernel
theorem d_M_same_23 : decode b_M_same 23 = .ok (.lload_n 1, 1) := by decide +kernel
theorem d_M_same_24 : decode b_M_same 24 = .ok (.bipush 43, 2) := by decide +kernel
theorem d_M_same_26 : decode b_M_same 26 = .ok (.iload_n 3, 1) := by decide +kernel
theorem d_M_same_27 : decode b_M_same 27 = .ok (.invokevirtual 66, 3) := by decide +kernel
theorem d_M_same_30 : decode b_M_same 30 = .ok (.aload_n 0, 1) := by decide +kernel
theorem d_M_same_31 : decode b_M_same 31 = .ok (.getfield 37, 3) := by decide +kernel
theorem d_M_same_34 : decode b_M_same 34 = .ok (.iload_n 3, 1) := by decide +kernel
theorem d_M_same_35 : decode b_M_same 35 = .ok (.iconst 3, 1) := by decide +kernel
theorem d_M_same_36 : decode b_M_same 36 = .ok (.iadd, 1) := by decide +kernel
theorem d_M_same_37 : decode b_M_same 37 = .ok (.if_icmp .ne 7, 3) := by decide +kernel
theorem d_M_same_40 : decode b_M_same 40 = .ok (.iconst 1, 1) := by decide +kernel
theorem d_M_same_41 : decode b_M_same 41 = .ok (.goto 4, 3) := by decide +kernel
theorem d_M_same_44 : decode b_M_same 44 = .ok (.iconst 0, 1) := by decide +kernel
theorem d_M_same_45 : decode b_M_same 45 = .ok (.istore 4, 2) := by decide +kernel
theorem d_M_same_47 : decode b_M_same 47 = .ok (.iconst 0, 1) := by decide +kernel
theorem d_M_same_48 : decode b_M_same 48 = .ok (.istore 5, 2) := by decide +kernel
theorem d_M_same_50 : decode b_M_same 50 = .ok (.iload 5, 2) := by decide +kernel
theorem d_M_same_52 : decode b_M_same 52 = .ok (.aload_n 0, 1) := by decide +kernel
theorem d_M_same_53 : decode b_M_same 53 = .ok (.getfield 37, 3) := by decide +kernel
theorem d_M_same_56 : decode b_M_same 56 = .ok (.if_icmp .ge 81, 3) := by decide +kernel
theorem d_M_same_59 : decode b_M_same 59 = .ok (.iload 4, 2) := by decide +kernel
theorem d_M_same_61 : decode b_M_same 61 = .ok (.ifCond .eq 67, 3) := by decide +kernel
theorem d_M_same_64 : decode b_M_same 64 = .ok (.aload_n 0, 1) := by decide +kernel
theorem d_M_same_65 : decode b_M_same 65 = .ok (.getfield 7, 3) := by decide +kernel
theorem d_M_same_68 : decode b_M_same 68 = .ok (.iload 5, 2) := by decide +kernel
theorem d_M_same_70 : decode b_M_same 70 = .ok (.iaload, 1) := by decide +kernel
theorem d_M_same_71 : decode b_M_same 71 = .ok (.aload_n 0, 1) := by decide +kernel
theorem d_M_same_72 : decode b_M_same 72 = .ok (.getfield 7, 3) := by decide +kernel
theorem d_M_same_75 : decode b_M_same 75 = .ok (.bipush 43, 2) := by decide +kernel
theorem d_M_same_77 : decode b_M_same 77 = .ok (.iload 5, 2) := by decide +kernel
theorem d_M_same_79 : decode b_M_same 79 = .ok (.iadd, 1) := by decide +kernel
theorem d_M_same_80 : decode b_M_same 80 = .ok (.iaload, 1) := by decide +kernel
theorem d_M_same_81 : decode b_M_same 81 = .ok (.if_icmp .ne 47, 3) := by decide +kernel
theorem d_M_same_84 : decode b_M_same 84 = .ok (.aload_n 0, 1) := by decide +kernel
theorem d_M_same_85 : decode b_M_same 85 = .ok (.getfield 13, 3) := by decide +kernel
theorem d_M_same_88 : decode b_M_same 88 = .ok (.iload 5, 2) := by decide +kernel
theorem d_M_same_90 : decode b_M_same 90 = .ok (.iaload, 1) := by decide +kernel
theorem d_M_same_91 : decode b_M_same 91 = .ok (.aload_n 0, 1) := by decide +kernel
theorem d_M_same_92 : decode b_M_same 92 = .ok (.getfield 13, 3) := by decide +kernel
theorem d_M_same_95 : decode b_M_same 95 = .ok (.bipush 43, 2) := by decide +kernel
theorem d_M_same_97 : decode b_M_same 97 = .ok (.iload 5, 2) := by decide +kernel
theorem d_M_same_99 : decode b_M_same 99 = .ok (.iadd, 1) := by decide +kernel
theorem d_M_same_100 : decode b_M_same 100 = .ok (.iaload, 1) := by decide +kernel
theorem d_M_same_101 : decode b_M_same 101 = .ok (.if_icmp .ne 27, 3) := by decide +kernel
theorem d_M_same_104 : decode b_M_same 104 = .ok (.aload_n 0, 1) := by decide +kernel
theorem d_M_same_105 : decode b_M_same 105 = .ok (.getfield 16, 3) := by decide +kernel
theorem d_M_same_108 : decode b_M_same 108 = .ok (.iload 5, 2) := by decide +kernel
theorem d_M_same_110 : decode b_M_same 110 = .ok (.iaload, 1) := by decide +kernel
theorem d_M_same_111 : decode b_M_same 111 = .ok (.aload_n 0, 1) := by decide +kernel
theorem d_M_same_112 : decode b_M_same 112 = .ok (.getfield 16, 3) := by decide +kernel
theorem d_M_same_115 : decode b_M_same 115 = .ok (.bipush 43, 2) := by decide +kernel
theorem d_M_same_117 : decode b_M_same 117 = .ok (.iload 5, 2) := by decide +kernel
theorem d_M_same_119 : decode b_M_same 119 = .ok (.iadd, 1) := by decide +kernel
theorem d_M_same_120 : decode b_M_same 120 = .ok (.iaload, 1) := by decide +kernel
theorem d_M_same_121 : decode b_M_same 121 = .ok (.if_icmp .ne 7, 3) := by decide +kernel
theorem d_M_same_124 : decode b_M_same 124 = .ok (.iconst 1, 1) := by decide +kernel
theorem d_M_same_125 : decode b_M_same 125 = .ok (.goto 4, 3) := by decide +kernel
theorem d_M_same_128 : decode b_M_same 128 = .ok (.iconst 0, 1) := by decide +kernel
theorem d_M_same_129 : decode b_M_same 129 = .ok (.istore 4, 2) := by decide +kernel
theorem d_M_same_131 : decode b_M_same 131 = .ok (.iinc 5 1, 3) := by decide +kernel
theorem d_M_same_134 : decode b_M_same 134 = .ok (.goto (-84), 3) := by decide +kernel
theorem d_M_same_137 : decode b_M_same 137 = .ok (.iload 4, 2) := by decide +kernel
theorem d_M_same_139 : decode b_M_same 139 = .ok (.ireturn, 1) := by decide +kernel
theorem d_M_fits_0 : decode b_M_fits 0 = .ok (.aload_n 0, 1) := by decide +kernel
theorem d_M_fits_1 : decode b_M_fits 1 = .ok (.aload_n 0, 1) := by decide +kernel
theorem d_M_fits_2 : decode b_M_fits 2 = .ok (.iload_n 1, 1) := by decide +kernel
theorem d_M_fits_3 : decode b_M_fits 3 = .ok (.invokevirtual 73, 3) := by decide +kernel
theorem d_M_fits_6 : decode b_M_fits 6 = .ok (.ifCond .eq 17, 3) := by decide +kernel
theorem d_M_fits_9 : decode b_M_fits 9 = .ok (.aload_n 0, 1) := by decide +kernel
theorem d_M_fits_10 : decode b_M_fits 10 = .ok (.getfield 7, 3) := by decide +kernel
theorem d_M_fits_13 : decode b_M_fits 13 = .ok (.iload_n 1, 1) := by decide +kernel
theorem d_M_fits_14 : decode b_M_fits 14 = .ok (.iaload, 1) := by decide +kernel
theorem d_M_fits_15 : decode b_M_fits 15 = .ok (.iconst 5, 1) := by decide +kernel
theorem d_M_fits_16 : decode b_M_fits 16 = .ok (.if_icmp .ne 7, 3) := by decide +kernel
theorem d_M_fits_19 : decode b_M_fits 19 = .ok (.iconst 0, 1) := by decide +kernel
theorem d_M_fits_20 : decode b_M_fits 20 = .ok (.goto 4, 3) := by decide +kernel
theorem d_M_fits_23 : decode b_M_fits 23 = .ok (.iconst 1, 1) := by decide +kernel
theorem d_M_fits_24 : decode b_M_fits 24 = .ok (.putfield 33, 3) := by decide +kernel
theorem d_M_fits_27 : decode b_M_fits 27 = .ok (.aload_n 0, 1) := by decide +kernel
theorem d_M_fits_28 : decode b_M_fits 28 = .ok (.getfield 33, 3) := by decide +kernel
theorem d_M_fits_31 : decode b_M_fits 31 = .ok (.ifCond .ne 15, 3) := by decide +kernel
theorem d_M_fits_34 : decode b_M_fits 34 = .ok (.aload_n 0, 1) := by decide +kernel
theorem d_M_fits_35 : decode b_M_fits 35 = .ok (.iload_n 1, 1) := by decide +kernel
theorem d_M_fits_36 : decode b_M_fits 36 = .ok (.invokevirtual 77, 3) := by decide +kernel
theorem d_M_fits_39 : decode b_M_fits 39 = .ok (.ifCond .eq 7, 3) := by decide +kernel
theorem d_M_fits_42 : decode b_M_fits 42 = .ok (.iconst 1, 1) := by decide +kernel
theorem d_M_fits_43 : decode b_M_fits 43 = .ok (.goto 4, 3) := by decide +kernel
theorem d_M_fits_46 : decode b_M_fits 46 = .ok (.iconst 0, 1) := by decide +kernel
theorem d_M_fits_47 : decode b_M_fits 47 = .ok (.ireturn, 1) := by decide +kernel
theorem d_M_without_0 : decode b_M_without 0 = .ok (.aload_n 0, 1) := by decide +kernel
theorem d_M_without_1 : decode b_M_without 1 = .ok (.iload_n 1, 1) := by decide +kernel
theorem d_M_without_2 : decode b_M_without 2 = .ok (.invokevirtual 73, 3) := by decide +kernel
theorem d_M_without_5 : decode b_M_without 5 = .ok (.ifCond .eq 12, 3) := by decide +kernel
theorem d_M_without_8 : decode b_M_without 8 = .ok (.aload_n 0, 1) := by decide +kernel
theorem d_M_without_9 : decode b_M_without 9 = .ok (.getfield 19, 3) := by decide +kernel
theorem d_M_without_12 : decode b_M_without 12 = .ok (.iload_n 1, 1) := by decide +kernel
theorem d_M_without_13 : decode b_M_without 13 = .ok (.baload, 1) := by decide +kernel
theorem d_M_without_14 : decode b_M_without 14 = .ok (.ifCond .ne 9, 3) := by decide +kernel
theorem d_M_without_17 : decode b_M_without 17 = .ok (.aload_n 0, 1) := by decide +kernel
theorem d_M_without_18 : decode b_M_without 18 = .ok (.iconst 1, 1) := by decide +kernel
theorem d_M_without_19 : decode b_M_without 19 = .ok (.invokevirtual 63, 3) := by decide +kernel
theorem d_M_without_22 : decode b_M_without 22 = .ok (.ireturn, 1) := by decide +kernel
theorem d_M_without_23 : decode b_M_without 23 = .ok (.aload_n 0, 1) := by decide +kernel
theorem d_M_without_24 : decode b_M_without 24 = .ok (.iconst 0, 1) := by decide +kernel
theorem d_M_without_25 : decode b_M_without 25 = .ok (.putfield 33, 3) := by decide +kernel
theorem d_M_without_28 : decode b_M_without 28 = .ok (.aload_n 0, 1) := by decide +kernel
theorem d_M_without_29 : decode b_M_without 29 = .ok (.iload_n 1, 1) := by decide +kernel
theorem d_M_without_30 : decode b_M_without 30 = .ok (.invokevirtual 87, 3) := by decide +kernel
theorem d_M_without_33 : decode b_M_without 33 = .ok (.istore_n 2, 1) := by decide +kernel
theorem d_M_without_34 : decode b_M_without 34 = .ok (.aload_n 0, 1) := by decide +kernel
theorem d_M_without_35 : decode b_M_without 35 = .ok (.invokevirtual 99, 3) := by decide +kernel
theorem d_M_without_38 : decode b_M_without 38 = .ok (.iload_n 2, 1) := by decide +kernel
theorem d_M_without_39 : decode b_M_without 39 = .ok (.ireturn, 1) := by decide +kernel
theorem d_M_part_0 : decode b_M_part 0 = .ok (.aload_n 0, 1) := by decide +kernel
theorem d_M_part_1 : decode b_M_part 1 = .ok (.iload_n 1, 1) := by decide +kernel
theorem d_M_part_2 : decode b_M_part 2 = .ok (.invokevirtual 73, 3) := by decide +kernel
theorem d_M_part_5 : decode b_M_part 5 = .ok (.ifCond .eq 12, 3) := by decide +kernel
theorem d_M_part_8 : decode b_M_part 8 = .ok (.iload_n 2, 1) := by decide +kernel
theorem d_M_part_9 : decode b_M_part 9 = .ok (.iconst 0, 1) := by decide +kernel
theorem d_M_part_10 : decode b_M_part 10 = .ok (.iconst 4, 1) := by decide +kernel
theorem d_M_part_11 : decode b_M_part 11 = .ok (.invokestatic 59, 3) := by decide +kernel
theorem d_M_part_14 : decode b_M_part 14 = .ok (.ifCond .ne 9, 3) := by decide +kernel
theorem d_M_part_17 : decode b_M_part 17 = .ok (.aload_n 0, 1) := by decide +kernel
theorem d_M_part_18 : decode b_M_part 18 = .ok (.iconst 1, 1) := by decide +kernel
theorem d_M_part_19 : decode b_M_part 19 = .ok (.invokevirtual 63, 3) := by decide +kernel
theorem d_M_part_22 : decode b_M_part 22 = .ok (.ireturn, 1) := by decide +kernel
theorem d_M_part_23 : decode b_M_part 23 = .ok (.aload_n 0, 1) := by decide +kernel
theorem d_M_part_24 : decode b_M_part 24 = .ok (.iconst 0, 1) := by decide +kernel
theorem d_M_part_25 : decode b_M_part 25 = .ok (.putfield 33, 3) := by decide +kernel
theorem d_M_part_28 : decode b_M_part 28 = .ok (.iconst 0, 1) := by decide +kernel
theorem d_M_part_29 : decode b_M_part 29 = .ok (.istore_n 3, 1) := by decide +kernel
theorem d_M_part_30 : decode b_M_part 30 = .ok (.iconst 0, 1) := by decide +kernel
theorem d_M_part_31 : decode b_M_part 31 = .ok (.istore 4, 2) := by decide +kernel
theorem d_M_part_33 : decode b_M_part 33 = .ok (.iload 4, 2) := by decide +kernel
theorem d_M_part_35 : decode b_M_part 35 = .ok (.iload_n 1, 1) := by decide +kernel
theorem d_M_part_36 : decode b_M_part 36 = .ok (.if_icmp .ge 33, 3) := by decide +kernel
theorem d_M_part_39 : decode b_M_part 39 = .ok (.iload_n 3, 1) := by decide +kernel
theorem d_M_part_40 : decode b_M_part 40 = .ok (.aload_n 0, 1) := by decide +kernel
theorem d_M_part_41 : decode b_M_part 41 = .ok (.getfield 7, 3) := by decide +kernel
theorem d_M_part_44 : decode b_M_part 44 = .ok (.iload 4, 2) := by decide +kernel
theorem d_M_part_46 : decode b_M_part 46 = .ok (.iaload, 1) := by decide +kernel
theorem d_M_part_47 : decode b_M_part 47 = .ok (.aload_n 0, 1) := by decide +kernel
theorem d_M_part_48 : decode b_M_part 48 = .ok (.getfield 7, 3) := by decide +kernel
theorem d_M_part_51 : decode b_M_part 51 = .ok (.iload_n 1, 1) := by decide +kernel
theorem d_M_part_52 : decode b_M_part 52 = .ok (.iaload, 1) := by decide +kernel
theorem d_M_part_53 : decode b_M_part 53 = .ok (.if_icmp .ne 7, 3) := by decide +kernel
theorem d_M_part_56 : decode b_M_part 56 = .ok (.iconst 1, 1) := by decide +kernel
theorem d_M_part_57 : decode b_M_part 57 = .ok (.goto 4, 3) := by decide +kernel
theorem d_M_part_60 : decode b_M_part 60 = .ok (.iconst 0, 1) := by decide +kernel
theorem d_M_part_61 : decode b_M_part 61 = .ok (.iadd, 1) := by decide +kernel
theorem d_M_part_62 : decode b_M_part 62 = .ok (.istore_n 3, 1) := by decide +kernel
theorem d_M_part_63 : decode b_M_part 63 = .ok (.iinc 4 1, 3) := by decide +kernel
theorem d_M_part_66 : decode b_M_part 66 = .ok (.goto (-33), 3) := by decide +kernel
theorem d_M_part_69 : decode b_M_part 69 = .ok (.iload_n 2, 1) := by decide +kernel
theorem d_M_part_70 : decode b_M_part 70 = .ok (.ifCond .ne 12, 3) := by decide +kernel
theorem d_M_part_73 : decode b_M_part 73 = .ok (.aload_n 0, 1) := by decide +kernel
theorem d_M_part_74 : decode b_M_part 74 = .ok (.getfield 7, 3) := by decide +kernel
theorem d_M_part_77 : decode b_M_part 77 = .ok (.iload_n 1, 1) := by decide +kernel
theorem d_M_part_78 : decode b_M_part 78 = .ok (.iaload, 1) := by decide +kernel
theorem d_M_part_79 : decode b_M_part 79 = .ok (.goto 54, 3) := by decide +kernel
theorem d_M_part_82 : decode b_M_part 82 = .ok (.iload_n 2, 1) := by decide +kernel
theorem d_M_part_83 : decode b_M_part 83 = .ok (.iconst 1, 1) := by decide +kernel
theorem d_M_part_84 : decode b_M_part 84 = .ok (.if_icmp .ne 7, 3) := by decide +kernel
theorem d_M_part_87 : decode b_M_part 87 = .ok (.iload_n 3, 1) := by decide +kernel
theorem d_M_part_88 : decode b_M_part 88 = .ok (.goto 45, 3) := by decide +kernel
theorem d_M_part_91 : decode b_M_part 91 = .ok (.iload_n 2, 1) := by decide +kernel
theorem d_M_part_92 : decode b_M_part 92 = .ok (.iconst 2, 1) := by decide +kernel
theorem d_M_part_93 : decode b_M_part 93 = .ok (.if_icmp .ne 12, 3) := by decide +kernel
theorem d_M_part_96 : decode b_M_part 96 = .ok (.aload_n 0, 1) := by decide +kernel
theorem d_M_part_97 : decode b_M_part 97 = .ok (.getfield 13, 3) := by decide +kernel
theorem d_M_part_100 : decode b_M_part 100 = .ok (.iload_n 1, 1) := by decide +kernel
theorem d_M_part_101 : decode b_M_part 101 = .ok (.iaload, 1) := by decide +kernel
theorem d_M_part_102 : decode b_M_part 102 = .ok (.goto 31, 3) := by decide +kernel
theorem d_M_part_105 : decode b_M_part 105 = .ok (.iload_n 2, 1) := by decide +kernel
theorem d_M_part_106 : decode b_M_part 106 = .ok (.iconst 3, 1) := by decide +kernel
theorem d_M_part_107 : decode b_M_part 107 = .ok (.if_icmp .ne 12, 3) := by decide +kernel
theorem d_M_part_110 : decode b_M_part 110 = .ok (.aload_n 0, 1) := by decide +kernel
theorem d_M_part_111 : decode b_M_part 111 = .ok (.getfield 16, 3) := by decide +kernel
theorem d_M_part_114 : decode b_M_part 114 = .ok (.iload_n 1, 1) := by decide +kernel
theorem d_M_part_115 : decode b_M_part 115 = .ok (.iaload, 1) := by decide +kernel
theorem d_M_part_116 : decode b_M_part 116 = .ok (.goto 17, 3) := by decide +kernel
theorem d_M_part_119 : decode b_M_part 119 = .ok (.aload_n 0, 1) := by decide +kernel
theorem d_M_part_120 : decode b_M_part 120 = .ok (.getfield 19, 3) := by decide +kernel
theorem d_M_part_123 : decode b_M_part 123 = .ok (.iload_n 1, 1) := by decide +kernel
theorem d_M_part_124 : decode b_M_part 124 = .ok (.baload, 1) := by decide +kernel
theorem d_M_part_125 : decode b_M_part 125 = .ok (.ifCond .eq 7, 3) := by decide +kernel
theorem d_M_part_128 : decode b_M_part 128 = .ok (.iconst 1, 1) := by decide +kernel
theorem d_M_part_129 : decode b_M_part 129 = .ok (.goto 4, 3) := by decide +kernel
theorem d_M_part_132 : decode b_M_part 132 = .ok (.iconst 0, 1) := by decide +kernel
theorem d_M_part_133 : decode b_M_part 133 = .ok (.ireturn, 1) := by decide +kernel
theorem d_M_count_0 : decode b_M_count 0 = .ok (.aload_n 0, 1) := by decide +kernel
theorem d_M_count_1 : decode b_M_count 1 = .ok (.iconst 0, 1) := by decide +kernel
theorem d_M_count_2 : decode b_M_count 2 = .ok (.putfield 33, 3) := by decide +kernel
theorem d_M_count_5 : decode b_M_count 5 = .ok (.iload_n 1, 1) := by decide +kernel
theorem d_M_count_6 : decode b_M_count 6 = .ok (.bipush 10, 2) := by decide +kernel
theorem d_M_count_8 : decode b_M_count 8 = .ok (.if_icmp .lt 22, 3) := by decide +kernel
theorem d_M_count_11 : decode b_M_count 11 = .ok (.iload_n 1, 1) := by decide +kernel
theorem d_M_count_12 : decode b_M_count 12 = .ok (.bipush 17, 2) := by decide +kernel
theorem d_M_count_14 : decode b_M_count 14 = .ok (.if_icmp .ge 14, 3) := by decide +kernel
theorem d_M_count_17 : decode b_M_count 17 = .ok (.aload_n 0, 1) := by decide +kernel
theorem d_M_count_18 : decode b_M_count 18 = .ok (.iload_n 1, 1) := by decide +kernel
theorem d_M_count_19 : decode b_M_count 19 = .ok (.bipush 10, 2) := by decide +kernel
theorem d_M_count_21 : decode b_M_count 21 = .ok (.isub, 1) := by decide +kernel
theorem d_M_count_22 : decode b_M_count 22 = .ok (.invokevirtual 102, 3) := by decide +kernel
theorem d_M_count_25 : decode b_M_count 25 = .ok (.goto 4, 3) := by decide +kernel
theorem d_M_count_28 : decode b_M_count 28 = .ok (.iconst (-1), 1) := by decide +kernel
theorem d_M_count_29 : decode b_M_count 29 = .ok (.ireturn, 1) := by decide +kernel
theorem d_M_count_30 : decode b_M_count 30 = .ok (.iconst 0, 1) := by decide +kernel
theorem d_M_count_31 : decode b_M_count 31 = .ok (.istore_n 2, 1) := by decide +kernel
theorem d_M_count_32 : decode b_M_count 32 = .ok (.iconst 0, 1) := by decide +kernel
theorem d_M_count_33 : decode b_M_count 33 = .ok (.istore_n 3, 1) := by decide +kernel
theorem d_M_count_34 : decode b_M_count 34 = .ok (.iload_n 3, 1) := by decide +kernel
theorem d_M_count_35 : decode b_M_count 35 = .ok (.aload_n 0, 1) := by decide +kernel
theorem d_M_count_36 : decode b_M_count 36 = .ok (.getfield 37, 3) := by decide +kernel
theorem d_M_count_39 : decode b_M_count 39 = .ok (.if_icmp .ge 35, 3) := by decide +kernel
theorem d_M_count_42 : decode b_M_count 42 = .ok (.iload_n 2, 1) := by decide +kernel
theorem d_M_count_43 : decode b_M_count 43 = .ok (.aload_n 0, 1) := by decide +kernel
theorem d_M_count_44 : decode b_M_count 44 = .ok (.getfield 7, 3) := by decide +kernel
theorem d_M_count_47 : decode b_M_count 47 = .ok (.iload_n 3, 1) := by decide +kernel
theorem d_M_count_48 : decode b_M_count 48 = .ok (.iaload, 1) := by decide +kernel
theorem d_M_count_49 : decode b_M_count 49 = .ok (.iconst 5, 1) := by decide +kernel
theorem d_M_count_50 : decode b_M_count 50 = .ok (.if_icmp .ne 15, 3) := by decide +kernel
theorem d_M_count_53 : decode b_M_count 53 = .ok (.aload_n 0, 1) := by decide +kernel
theorem d_M_count_54 : decode b_M_count 54 = .ok (.iload_n 3, 1) := by decide +kernel
theorem d_M_count_55 : decode b_M_count 55 = .ok (.invokevirtual 77, 3) := by decide +kernel
theorem d_M_count_58 : decode b_M_count 58 = .ok (.ifCond .eq 7, 3) := by decide +kernel
theorem d_M_count_61 : decode b_M_count 61 = .ok (.iconst 1, 1) := by decide +kernel
theorem d_M_count_62 : decode b_M_count 62 = .ok (.goto 4, 3) := by decide +kernel
theorem d_M_count_65 : decode b_M_count 65 = .ok (.iconst 0, 1) := by decide +kernel
theorem d_M_count_66 : decode b_M_count 66 = .ok (.iadd, 1) := by decide +kernel
theorem d_M_count_67 : decode b_M_count 67 = .ok (.istore_n 2, 1) := by decide +kernel
theorem d_M_count_68 : decode b_M_count 68 = .ok (.iinc 3 1, 3) := by decide +kernel
theorem d_M_count_71 : decode b_M_count 71 = .ok (.goto (-37), 3) := by decide +kernel
theorem d_M_count_74 : decode b_M_count 74 = .ok (.iconst 0, 1) := by decide +kernel
theorem d_M_count_75 : decode b_M_count 75 = .ok (.istore_n 3, 1) := by decide +kernel
theorem d_M_count_76 : decode b_M_count 76 = .ok (.iconst 0, 1) := by decide +kernel
theorem d_M_count_77 : decode b_M_count 77 = .ok (.istore 4, 2) := by decide +kernel
theorem d_M_count_79 : decode b_M_count 79 = .ok (.iload 4, 2) := by decide +kernel
theorem d_M_count_81 : decode b_M_count 81 = .ok (.sipush 256, 3) := by decide +kernel
theorem d_M_count_84 : decode b_M_count 84 = .ok (.if_icmp .ge 27, 3) := by decide +kernel
theorem d_M_count_87 : decode b_M_count 87 = .ok (.iload_n 3, 1) := by decide +kernel
theorem d_M_count_88 : decode b_M_count 88 = .ok (.aload_n 0, 1) := by decide +kernel
theorem d_M_count_89 : decode b_M_count 89 = .ok (.getfield 23, 3) := by decide +kernel
theorem d_M_count_92 : decode b_M_count 92 = .ok (.iload 4, 2) := by decide +kernel
theorem d_M_count_94 : decode b_M_count 94 = .ok (.baload, 1) := by decide +kernel
theorem d_M_count_95 : decode b_M_count 95 = .ok (.ifCond .eq 7, 3) := by decide +kernel
theorem d_M_count_98 : decode b_M_count 98 = .ok (.iconst 1, 1) := by decide +kernel
theorem d_M_count_99 : decode b_M_count 99 = .ok (.goto 4, 3) := by decide +kernel
theorem d_M_count_102 : decode b_M_count 102 = .ok (.iconst 0, 1) := by decide +kernel
theorem d_M_count_103 : decode b_M_count 103 = .ok (.iadd, 1) := by decide +kernel
theorem d_M_count_104 : decode b_M_count 104 = .ok (.istore_n 3, 1) := by decide +kernel
theorem d_M_count_105 : decode b_M_count 105 = .ok (.iinc 4 1, 3) := by decide +kernel
theorem d_M_count_108 : decode b_M_count 108 = .ok (.goto (-29), 3) := by decide +kernel
theorem d_M_count_111 : decode b_M_count 111 = .ok (.iload_n 1, 1) := by decide +kernel
theorem d_M_count_112 : decode b_M_count 112 = .ok (.tableswitch 56 0 4 #[36, 41, 46, 52, 54], 36) := by decide +kernel
theorem d_M_count_148 : decode b_M_count 148 = .ok (.aload_n 0, 1) := by decide +kernel
theorem d_M_count_149 : decode b_M_count 149 = .ok (.getfield 37, 3) := by decide +kernel
theorem d_M_count_152 : decode b_M_count 152 = .ok (.ireturn, 1) := by decide +kernel
theorem d_M_count_153 : decode b_M_count 153 = .ok (.aload_n 0, 1) := by decide +kernel
theorem d_M_count_154 : decode b_M_count 154 = .ok (.invokevirtual 90, 3) := by decide +kernel
theorem d_M_count_157 : decode b_M_count 157 = .ok (.ireturn, 1) := by decide +kernel
theorem d_M_count_158 : decode b_M_count 158 = .ok (.aload_n 0, 1) := by decide +kernel
theorem d_M_count_159 : decode b_M_count 159 = .ok (.iconst 5, 1) := by decide +kernel
theorem d_M_count_160 : decode b_M_count 160 = .ok (.invokevirtual 102, 3) := by decide +kernel
theorem d_M_count_163 : decode b_M_count 163 = .ok (.ireturn, 1) := by decide +kernel
theorem d_M_count_164 : decode b_M_count 164 = .ok (.iload_n 2, 1) := by decide +kernel
theorem d_M_count_165 : decode b_M_count 165 = .ok (.ireturn, 1) := by decide +kernel
theorem d_M_count_166 : decode b_M_count 166 = .ok (.iload_n 3, 1) := by decide +kernel
theorem d_M_count_167 : decode b_M_count 167 = .ok (.ireturn, 1) := by decide +kernel
theorem d_M_count_168 : decode b_M_count 168 = .ok (.iconst (-1), 1) := by decide +kernel
theorem d_M_count_169 : decode b_M_count 169 = .ok (.ireturn, 1) := by decide +kernel
set_option maxHeartbeats 4000000 in
set_option maxRecDepth 100000 in
/-- reference: its making -/
theorem c_M_init (l : Launch) (dC : Nat → ClassId) (dI : Nat → Nat → Nat) (jm : Nat) (sd : Int64)  (sz : Nat) : Met l y_M_init w_M_init ({ frames := 1, cells := 6, slots := 600, locals := 20 }) (wr_P dC dI [.ref jm, .long sd] [(jm, .inr (3, [.int 0, .long 0, .long 0, .int 0, .null, .null, .null, .null, .null, .null]))] [] sz) (va_Qv (fun (_ : Nat × Nat × Nat × Nat × Nat × Nat × ClassId × ClassId × ClassId × ClassId × ClassId × ClassId) => True) (fun (u : Nat × Nat × Nat × Nat × Nat × Nat × ClassId × ClassId × ClassId × ClassId × ClassId × ClassId) => wr_B dC dI (va_A [(jm, .inr (3, [.int 0, .long 0, .long 0, .int 0, .null, .null, .null, .null, .null, .null]))] sz) [(jm, .inr (3, [.int 0, .long sd, .long 0, .int (nI 0), .ref u.1, .ref u.2.1, .ref u.2.2.1, .ref u.2.2.2.1, .ref u.2.2.2.2.1, .ref u.2.2.2.2.2.1])), (u.1, .inl (u.2.2.2.2.2.2.1, 86, .inl (fun _ => 0))), (u.2.1, .inl (u.2.2.2.2.2.2.2.1, 86, .inl (fun _ => 0))), (u.2.2.1, .inl (u.2.2.2.2.2.2.2.2.1, 86, .inl (fun _ => 0))), (u.2.2.2.1, .inl (u.2.2.2.2.2.2.2.2.2.1, 43, .inl (bF fF))), (u.2.2.2.2.1, .inl (u.2.2.2.2.2.2.2.2.2.2.1, 256, .inl (bF fF))), (u.2.2.2.2.2.1, .inl (u.2.2.2.2.2.2.2.2.2.2.2, 43, .inl (bF fF)))] [(u.2.2.2.2.2.2.1, .int), (u.2.2.2.2.2.2.2.1, .int), (u.2.2.2.2.2.2.2.2.1, .int), (u.2.2.2.2.2.2.2.2.2.1, .boolean), (u.2.2.2.2.2.2.2.2.2.2.1, .boolean), (u.2.2.2.2.2.2.2.2.2.2.2, .boolean)]) (va_A [(jm, .inr (3, [.int 0, .long 0, .long 0, .int 0, .null, .null, .null, .null, .null, .null]))] sz)) 6 600 (va_A [(jm, .inr (3, [.int 0, .long 0, .long 0, .int 0, .null, .null, .null, .null, .null, .null]))] sz) := by
  refine Met.ofW (cc := b_M_init) (maxL := 3) (ret := (Option.none : Option Jvm.ClassFile.FieldType)) (by decide) rfl ?_
  intro p e s m args below meth c s₁ B0 hml hv0
  obtain ⟨rfl, hsz, hP, hK, hD0, hN⟩ := hv0
  have hx := B0.exec
  have hb := B0.bytes
  have hr := B0.returns
  have hts := atoms_spec (ws := w_M_init) B0.pre
  have hown : s.vm.findClass R_M = some m.cls := findClass_of_methodNamed B0.named
  have hlocks := B0.notSynchronized
  have hin : meth.name = "<init>" := (name_of_methodNamed B0.named B0.method).1
  subst hsz
  have hD := hD0.self (sz := s.heap.size)
  generalize hAe : va_A [(jm, .inr (3, [.int 0, .long 0, .long 0, .int 0, .null, .null, .null, .null, .null, .null]))] s.heap.size = A at hD ⊢
  have hA : ∀ q : Nat, s.heap.size ≤ q → A q := fun q h => by rw [← hAe]; exact Or.inr h
  have hS : va_S A s.heap s.heap [] := va_S.rf
  have hP : va_P (dC, dI) classes [(jm, .inr (3, [.int 0, .long 0, .long 0, .int 0, .null, .null, .null, .null, .null, .null]))] s.heap := hP
  have hl := lv_entry ([.ref jm, .long sd]) (n := 3) (Nat.le_of_ble_eq_true rfl)
  rw [lg_entry_eq]
  generalize (lg_sl ([.ref jm, .long sd]) ++ List.replicate (3 - (lg_sl ([.ref jm, .long sd])).length) Slot.unset).toArray = ls at hl ⊢
  have hl : lv_has ls 3 [(0, .ref jm), (1, .long sd)] := hl
  refine lv_aload_n hx hb d_M_init_0 rfl (lv_at hl 0 rfl) ?_
  refine W.objInit hx hb hown (hts _ (List.mem_cons_of_mem _ m_335)) (hts _ (List.mem_cons_of_mem _ m_17)) (hts _ (List.mem_cons_of_mem _ m_18)) rfl (by rw [hml]; exact hl.1) rfl d_M_init_1 (Nat.le_of_ble_eq_true rfl) (Nat.le_of_ble_eq_true rfl) ?_
  refine W.eq (g2 := F0 m 4 ls []) rfl ?_
  refine lv_aload_n hx hb d_M_init_4 rfl (lv_at hl 0 rfl) ?_
  refine lv_bipush (v := nI 86) hx hb d_M_init_5 (by decide +kernel) ?_
  refine va_newa (atype := .int) (ty := .int) (a0 := (86, .inl (fun _ => 0))) hx hb (hts _ (List.mem_cons_of_mem _ m_55)) rfl hK hP hD hS hA (fun _ => rfl) (nI_pos (by omega)) (nI_clamp (by omega)) (by decide) (Nat.le_of_ble_eq_true rfl) (Nat.le_of_ble_eq_true rfl) d_M_init_7 (fun q_1 cA_2 H hK hP hD hS => ?_)
  have hK : va_K (dC, dI) classes [(cA_2, .int)] s := hK
  have hP : va_P (dC, dI) classes [(jm, .inr (3, [.int 0, .long 0, .long 0, .int 0, .null, .null, .null, .null, .null, .null])), (q_1, .inl (cA_2, 86, .inl (fun _ => 0)))] H := hP
  have hD : va_D A [(jm, .inr (3, [.int 0, .long 0, .long 0, .int 0, .null, .null, .null, .null, .null, .null])), (q_1, .inl (cA_2, 86, .inl (fun _ => 0)))] := hD
  refine W.cs (cells' := 1) (slots' := 86) rfl rfl ?_
  refine va_putF (D := (dC, dI)) (ci := 3) (v := .ref q_1) (ty := .array .int) (C := R_M) (T := F_M) (N := 10) hx hb hts (lay_M _) ft_M tok_M nok_M hown hK hP hD hS 0 rfl rfl 4 (by decide) (hts _ (List.mem_cons_of_mem _ m_340)) (fun _ h9 => h9) rfl hin rfl (by decide +kernel) rfl rfl (Nat.le_of_ble_eq_true rfl) d_M_init_9 (fun H locs hP hD hS => ?_)
  have hP : va_P (dC, dI) classes [(jm, .inr (3, [.int 0, .long 0, .long 0, .int 0, .ref q_1, .null, .null, .null, .null, .null])), (q_1, .inl (cA_2, 86, .inl (fun _ => 0)))] H := hP
  have hD : va_D A [(jm, .inr (3, [.int 0, .long 0, .long 0, .int 0, .ref q_1, .null, .null, .null, .null, .null])), (q_1, .inl (cA_2, 86, .inl (fun _ => 0)))] := hD
  refine lv_aload_n hx hb d_M_init_12 rfl (lv_at hl 0 rfl) ?_
  refine lv_bipush (v := nI 86) hx hb d_M_init_13 (by decide +kernel) ?_
  refine va_newa (atype := .int) (ty := .int) (a0 := (86, .inl (fun _ => 0))) hx hb (hts _ (List.mem_cons_of_mem _ m_55)) rfl hK hP hD hS hA (fun _ => rfl) (nI_pos (by omega)) (nI_clamp (by omega)) (by decide) (Nat.le_of_ble_eq_true rfl) (Nat.le_of_ble_eq_true rfl) d_M_init_15 (fun q_3 cA_4 H hK hP hD hS => ?_)
  have hK : va_K (dC, dI) classes [(cA_2, .int), (cA_4, .int)] s := hK
  have hP : va_P (dC, dI) classes [(jm, .inr (3, [.int 0, .long 0, .long 0, .int 0, .ref q_1, .null, .null, .null, .null, .null])), (q_1, .inl (cA_2, 86, .inl (fun _ => 0))), (q_3, .inl (cA_4, 86, .inl (fun _ => 0)))] H := hP
  have hD : va_D A [(jm, .inr (3, [.int 0, .long 0, .long 0, .int 0, .ref q_1, .null, .null, .null, .null, .null])), (q_1, .inl (cA_2, 86, .inl (fun _ => 0))), (q_3, .inl (cA_4, 86, .inl (fun _ => 0)))] := hD
  refine W.cs (cells' := 2) (slots' := 172) rfl rfl ?_
  refine va_putF (D := (dC, dI)) (ci := 3) (v := .ref q_3) (ty := .array .int) (C := R_M) (T := F_M) (N := 10) hx hb hts (lay_M _) ft_M tok_M nok_M hown hK hP hD hS 0 rfl rfl 5 (by decide) (hts _ (List.mem_cons_of_mem _ m_341)) (fun _ h9 => h9) rfl hin rfl (by decide +kernel) rfl rfl (Nat.le_of_ble_eq_true rfl) d_M_init_17 (fun H locs hP hD hS => ?_)
  have hP : va_P (dC, dI) classes [(jm, .inr (3, [.int 0, .long 0, .long 0, .int 0, .ref q_1, .ref q_3, .null, .null, .null, .null])), (q_1, .inl (cA_2, 86, .inl (fun _ => 0))), (q_3, .inl (cA_4, 86, .inl (fun _ => 0)))] H := hP
  have hD : va_D A [(jm, .inr (3, [.int 0, .long 0, .long 0, .int 0, .ref q_1, .ref q_3, .null, .null, .null, .null])), (q_1, .inl (cA_2, 86, .inl (fun _ => 0))), (q_3, .inl (cA_4, 86, .inl (fun _ => 0)))] := hD
  refine lv_aload_n hx hb d_M_init_20 rfl (lv_at hl 0 rfl) ?_
  refine lv_bipush (v := nI 86) hx hb d_M_init_21 (by decide +kernel) ?_
  refine va_newa (atype := .int) (ty := .int) (a0 := (86, .inl (fun _ => 0))) hx hb (hts _ (List.mem_cons_of_mem _ m_55)) rfl hK hP hD hS hA (fun _ => rfl) (nI_pos (by omega)) (nI_clamp (by omega)) (by decide) (Nat.le_of_ble_eq_true rfl) (Nat.le_of_ble_eq_true rfl) d_M_init_23 (fun q_5 cA_6 H hK hP hD hS => ?_)
  have hK : va_K (dC, dI) classes [(cA_2, .int), (cA_4, .int), (cA_6, .int)] s := hK
  have hP : va_P (dC, dI) classes [(jm, .inr (3, [.int 0, .long 0, .long 0, .int 0, .ref q_1, .ref q_3, .null, .null, .null, .null])), (q_1, .inl (cA_2, 86, .inl (fun _ => 0))), (q_3, .inl (cA_4, 86, .inl (fun _ => 0))), (q_5, .inl (cA_6, 86, .inl (fun _ => 0)))] H := hP
  have hD : va_D A [(jm, .inr (3, [.int 0, .long 0, .long 0, .int 0, .ref q_1, .ref q_3, .null, .null, .null, .null])), (q_1, .inl (cA_2, 86, .inl (fun _ => 0))), (q_3, .inl (cA_4, 86, .inl (fun _ => 0))), (q_5, .inl (cA_6, 86, .inl (fun _ => 0)))] := hD
  refine W.cs (cells' := 3) (slots' := 258) rfl rfl ?_
  refine va_putF (D := (dC, dI)) (ci := 3) (v := .ref q_5) (ty := .array .int) (C := R_M) (T := F_M) (N := 10) hx hb hts (lay_M _) ft_M tok_M nok_M hown hK hP hD hS 0 rfl rfl 6 (by decide) (hts _ (List.mem_cons_of_mem _ m_342)) (fun _ h9 => h9) rfl hin rfl (by decide +kernel) rfl rfl (Nat.le_of_ble_eq_true rfl) d_M_init_25 (fun H locs hP hD hS => ?_)
  have hP : va_P (dC, dI) classes [(jm, .inr (3, [.int 0, .long 0, .long 0, .int 0, .ref q_1, .ref q_3, .ref q_5, .null, .null, .null])), (q_1, .inl (cA_2, 86, .inl (fun _ => 0))), (q_3, .inl (cA_4, 86, .inl (fun _ => 0))), (q_5, .inl (cA_6, 86, .inl (fun _ => 0)))] H := hP
  have hD : va_D A [(jm, .inr (3, [.int 0, .long 0, .long 0, .int 0, .ref q_1, .ref q_3, .ref q_5, .null, .null, .null])), (q_1, .inl (cA_2, 86, .inl (fun _ => 0))), (q_3, .inl (cA_4, 86, .inl (fun _ => 0))), (q_5, .inl (cA_6, 86, .inl (fun _ => 0)))] := hD
  refine lv_aload_n hx hb d_M_init_28 rfl (lv_at hl 0 rfl) ?_
  refine lv_bipush (v := nI 43) hx hb d_M_init_29 (by decide +kernel) ?_
  refine va_newa (atype := .boolean) (ty := .boolean) (a0 := (43, .inl (fun _ => 0))) hx hb (hts _ (List.mem_cons_of_mem _ m_79)) rfl hK hP hD hS hA (fun _ => rfl) (nI_pos (by omega)) (nI_clamp (by omega)) (by decide) (Nat.le_of_ble_eq_true rfl) (Nat.le_of_ble_eq_true rfl) d_M_init_31 (fun q_7 cA_8 H hK hP hD hS => ?_)
  have hK : va_K (dC, dI) classes [(cA_2, .int), (cA_4, .int), (cA_6, .int), (cA_8, .boolean)] s := hK
  have hP : va_P (dC, dI) classes [(jm, .inr (3, [.int 0, .long 0, .long 0, .int 0, .ref q_1, .ref q_3, .ref q_5, .null, .null, .null])), (q_1, .inl (cA_2, 86, .inl (fun _ => 0))), (q_3, .inl (cA_4, 86, .inl (fun _ => 0))), (q_5, .inl (cA_6, 86, .inl (fun _ => 0))), (q_7, .inl (cA_8, 43, .inl (fun _ => 0)))] H := hP
  have hD : va_D A [(jm, .inr (3, [.int 0, .long 0, .long 0, .int 0, .ref q_1, .ref q_3, .ref q_5, .null, .null, .null])), (q_1, .inl (cA_2, 86, .inl (fun _ => 0))), (q_3, .inl (cA_4, 86, .inl (fun _ => 0))), (q_5, .inl (cA_6, 86, .inl (fun _ => 0))), (q_7, .inl (cA_8, 43, .inl (fun _ => 0)))] := hD
  refine W.cs (cells' := 4) (slots' := 301) rfl rfl ?_
  refine va_putF (D := (dC, dI)) (ci := 3) (v := .ref q_7) (ty := .array .boolean) (C := R_M) (T := F_M) (N := 10) hx hb hts (lay_M _) ft_M tok_M nok_M hown hK hP hD hS 0 rfl rfl 7 (by decide) (hts _ (List.mem_cons_of_mem _ m_343)) (fun _ h9 => h9) rfl hin rfl (by decide +kernel) rfl rfl (Nat.le_of_ble_eq_true rfl) d_M_init_33 (fun H locs hP hD hS => ?_)
  have hP : va_P (dC, dI) classes [(jm, .inr (3, [.int 0, .long 0, .long 0, .int 0, .ref q_1, .ref q_3, .ref q_5, .ref q_7, .null, .null])), (q_1, .inl (cA_2, 86, .inl (fun _ => 0))), (q_3, .inl (cA_4, 86, .inl (fun _ => 0))), (q_5, .inl (cA_6, 86, .inl (fun _ => 0))), (q_7, .inl (cA_8, 43, .inl (fun _ => 0)))] H := hP
  have hD : va_D A [(jm, .inr (3, [.int 0, .long 0, .long 0, .int 0, .ref q_1, .ref q_3, .ref q_5, .ref q_7, .null, .null])), (q_1, .inl (cA_2, 86, .inl (fun _ => 0))), (q_3, .inl (cA_4, 86, .inl (fun _ => 0))), (q_5, .inl (cA_6, 86, .inl (fun _ => 0))), (q_7, .inl (cA_8, 43, .inl (fun _ => 0)))] := hD
  refine lv_aload_n hx hb d_M_init_36 rfl (lv_at hl 0 rfl) ?_
  refine lv_sipush (v := nI 256) hx hb d_M_init_37 (by decide +kernel) ?_
  refine va_newa (atype := .boolean) (ty := .boolean) (a0 := (256, .inl (fun _ => 0))) hx hb (hts _ (List.mem_cons_of_mem _ m_79)) rfl hK hP hD hS hA (fun _ => rfl) (nI_pos (by omega)) (nI_clamp (by omega)) (by decide) (Nat.le_of_ble_eq_true rfl) (Nat.le_of_ble_eq_true rfl) d_M_init_40 (fun q_9 cA_10 H hK hP hD hS => ?_)
  have hK : va_K (dC, dI) classes [(cA_2, .int), (cA_4, .int), (cA_6, .int), (cA_8, .boolean), (cA_10, .boolean)] s := hK
  have hP : va_P (dC, dI) classes [(jm, .inr (3, [.int 0, .long 0, .long 0, .int 0, .ref q_1, .ref q_3, .ref q_5, .ref q_7, .null, .null])), (q_1, .inl (cA_2, 86, .inl (fun _ => 0))), (q_3, .inl (cA_4, 86, .inl (fun _ => 0))), (q_5, .inl (cA_6, 86, .inl (fun _ => 0))), (q_7, .inl (cA_8, 43, .inl (fun _ => 0))), (q_9, .inl (cA_10, 256, .inl (fun _ => 0)))] H := hP
  have hD : va_D A [(jm, .inr (3, [.int 0, .long 0, .long 0, .int 0, .ref q_1, .ref q_3, .ref q_5, .ref q_7, .null, .null])), (q_1, .inl (cA_2, 86, .inl (fun _ => 0))), (q_3, .inl (cA_4, 86, .inl (fun _ => 0))), (q_5, .inl (cA_6, 86, .inl (fun _ => 0))), (q_7, .inl (cA_8, 43, .inl (fun _ => 0))), (q_9, .inl (cA_10, 256, .inl (fun _ => 0)))] := hD
  refine W.cs (cells' := 5) (slots' := 557) rfl rfl ?_
  refine va_putF (D := (dC, dI)) (ci := 3) (v := .ref q_9) (ty := .array .boolean) (C := R_M) (T := F_M) (N := 10) hx hb hts (lay_M _) ft_M tok_M nok_M hown hK hP hD hS 0 rfl rfl 8 (by decide) (hts _ (List.mem_cons_of_mem _ m_344)) (fun _ h9 => h9) rfl hin rfl (by decide +kernel) rfl rfl (Nat.le_of_ble_eq_true rfl) d_M_init_42 (fun H locs hP hD hS => ?_)
  have hP : va_P (dC, dI) classes [(jm, .inr (3, [.int 0, .long 0, .long 0, .int 0, .ref q_1, .ref q_3, .ref q_5, .ref q_7, .ref q_9, .null])), (q_1, .inl (cA_2, 86, .inl (fun _ => 0))), (q_3, .inl (cA_4, 86, .inl (fun _ => 0))), (q_5, .inl (cA_6, 86, .inl (fun _ => 0))), (q_7, .inl (cA_8, 43, .inl (fun _ => 0))), (q_9, .inl (cA_10, 256, .inl (fun _ => 0)))] H := hP
  have hD : va_D A [(jm, .inr (3, [.int 0, .long 0, .long 0, .int 0, .ref q_1, .ref q_3, .ref q_5, .ref q_7, .ref q_9, .null])), (q_1, .inl (cA_2, 86, .inl (fun _ => 0))), (q_3, .inl (cA_4, 86, .inl (fun _ => 0))), (q_5, .inl (cA_6, 86, .inl (fun _ => 0))), (q_7, .inl (cA_8, 43, .inl (fun _ => 0))), (q_9, .inl (cA_10, 256, .inl (fun _ => 0)))] := hD
  refine lv_aload_n hx hb d_M_init_45 rfl (lv_at hl 0 rfl) ?_
  refine lv_bipush (v := nI 43) hx hb d_M_init_46 (by decide +kernel) ?_
  refine va_newa (atype := .boolean) (ty := .boolean) (a0 := (43, .inl (fun _ => 0))) hx hb (hts _ (List.mem_cons_of_mem _ m_79)) rfl hK hP hD hS hA (fun _ => rfl) (nI_pos (by omega)) (nI_clamp (by omega)) (by decide) (Nat.le_of_ble_eq_true rfl) (Nat.le_of_ble_eq_true rfl) d_M_init_48 (fun q_11 cA_12 H hK hP hD hS => ?_)
  have hK : va_K (dC, dI) classes [(cA_2, .int), (cA_4, .int), (cA_6, .int), (cA_8, .boolean), (cA_10, .boolean), (cA_12, .boolean)] s := hK
  have hP : va_P (dC, dI) classes [(jm, .inr (3, [.int 0, .long 0, .long 0, .int 0, .ref q_1, .ref q_3, .ref q_5, .ref q_7, .ref q_9, .null])), (q_1, .inl (cA_2, 86, .inl (fun _ => 0))), (q_3, .inl (cA_4, 86, .inl (fun _ => 0))), (q_5, .inl (cA_6, 86, .inl (fun _ => 0))), (q_7, .inl (cA_8, 43, .inl (fun _ => 0))), (q_9, .inl (cA_10, 256, .inl (fun _ => 0))), (q_11, .inl (cA_12, 43, .inl (fun _ => 0)))] H := hP
  have hD : va_D A [(jm, .inr (3, [.int 0, .long 0, .long 0, .int 0, .ref q_1, .ref q_3, .ref q_5, .ref q_7, .ref q_9, .null])), (q_1, .inl (cA_2, 86, .inl (fun _ => 0))), (q_3, .inl (cA_4, 86, .inl (fun _ => 0))), (q_5, .inl (cA_6, 86, .inl (fun _ => 0))), (q_7, .inl (cA_8, 43, .inl (fun _ => 0))), (q_9, .inl (cA_10, 256, .inl (fun _ => 0))), (q_11, .inl (cA_12, 43, .inl (fun _ => 0)))] := hD
  refine W.cs (cells' := 6) (slots' := 600) rfl rfl ?_
  refine va_putF (D := (dC, dI)) (ci := 3) (v := .ref q_11) (ty := .array .boolean) (C := R_M) (T := F_M) (N := 10) hx hb hts (lay_M _) ft_M tok_M nok_M hown hK hP hD hS 0 rfl rfl 9 (by decide) (hts _ (List.mem_cons_of_mem _ m_345)) (fun _ h9 => h9) rfl hin rfl (by decide +kernel) rfl rfl (Nat.le_of_ble_eq_true rfl) d_M_init_50 (fun H locs hP hD hS => ?_)
  have hP : va_P (dC, dI) classes [(jm, .inr (3, [.int 0, .long 0, .long 0, .int 0, .ref q_1, .ref q_3, .ref q_5, .ref q_7, .ref q_9, .ref q_11])), (q_1, .inl (cA_2, 86, .inl (fun _ => 0))), (q_3, .inl (cA_4, 86, .inl (fun _ => 0))), (q_5, .inl (cA_6, 86, .inl (fun _ => 0))), (q_7, .inl (cA_8, 43, .inl (fun _ => 0))), (q_9, .inl (cA_10, 256, .inl (fun _ => 0))), (q_11, .inl (cA_12, 43, .inl (fun _ => 0)))] H := hP
  have hD : va_D A [(jm, .inr (3, [.int 0, .long 0, .long 0, .int 0, .ref q_1, .ref q_3, .ref q_5, .ref q_7, .ref q_9, .ref q_11])), (q_1, .inl (cA_2, 86, .inl (fun _ => 0))), (q_3, .inl (cA_4, 86, .inl (fun _ => 0))), (q_5, .inl (cA_6, 86, .inl (fun _ => 0))), (q_7, .inl (cA_8, 43, .inl (fun _ => 0))), (q_9, .inl (cA_10, 256, .inl (fun _ => 0))), (q_11, .inl (cA_12, 43, .inl (fun _ => 0)))] := hD
  refine lv_aload_n hx hb d_M_init_53 rfl (lv_at hl 0 rfl) ?_
  refine lv_lload_n hx hb d_M_init_54 rfl (lv_at hl 1 rfl) ?_
  refine va_putF (D := (dC, dI)) (ci := 3) (v := .long sd) (ty := .long) (C := R_M) (T := F_M) (N := 10) hx hb hts (lay_M _) ft_M tok_M nok_M hown hK hP hD hS 0 rfl rfl 1 (by decide) (hts _ (List.mem_cons_of_mem _ m_337)) (fun _ h9 => h9) rfl hin rfl (by decide +kernel) rfl rfl (Nat.le_of_ble_eq_true rfl) d_M_init_55 (fun H locs hP hD hS => ?_)
  have hP : va_P (dC, dI) classes [(jm, .inr (3, [.int 0, .long sd, .long 0, .int 0, .ref q_1, .ref q_3, .ref q_5, .ref q_7, .ref q_9, .ref q_11])), (q_1, .inl (cA_2, 86, .inl (fun _ => 0))), (q_3, .inl (cA_4, 86, .inl (fun _ => 0))), (q_5, .inl (cA_6, 86, .inl (fun _ => 0))), (q_7, .inl (cA_8, 43, .inl (fun _ => 0))), (q_9, .inl (cA_10, 256, .inl (fun _ => 0))), (q_11, .inl (cA_12, 43, .inl (fun _ => 0)))] H := hP
  have hD : va_D A [(jm, .inr (3, [.int 0, .long sd, .long 0, .int 0, .ref q_1, .ref q_3, .ref q_5, .ref q_7, .ref q_9, .ref q_11])), (q_1, .inl (cA_2, 86, .inl (fun _ => 0))), (q_3, .inl (cA_4, 86, .inl (fun _ => 0))), (q_5, .inl (cA_6, 86, .inl (fun _ => 0))), (q_7, .inl (cA_8, 43, .inl (fun _ => 0))), (q_9, .inl (cA_10, 256, .inl (fun _ => 0))), (q_11, .inl (cA_12, 43, .inl (fun _ => 0)))] := hD
  have hP9 := hP.sub (ws' := [(jm, .inr (3, [.int 0, .long sd, .long 0, .int (nI 0), .ref q_1, .ref q_3, .ref q_5, .ref q_7, .ref q_9, .ref q_11])), (q_1, .inl (cA_2, 86, .inl (fun _ => 0))), (q_3, .inl (cA_4, 86, .inl (fun _ => 0))), (q_5, .inl (cA_6, 86, .inl (fun _ => 0))), (q_7, .inl (cA_8, 43, .inl (bF fF))), (q_9, .inl (cA_10, 256, .inl (bF fF))), (q_11, .inl (cA_12, 43, .inl (bF fF)))]) [0, 1, 2, 3, 4, 5, 6] rfl
  have hD9 := hD.sub (ws' := [(jm, .inr (3, [.int 0, .long sd, .long 0, .int (nI 0), .ref q_1, .ref q_3, .ref q_5, .ref q_7, .ref q_9, .ref q_11])), (q_1, .inl (cA_2, 86, .inl (fun _ => 0))), (q_3, .inl (cA_4, 86, .inl (fun _ => 0))), (q_5, .inl (cA_6, 86, .inl (fun _ => 0))), (q_7, .inl (cA_8, 43, .inl (bF fF))), (q_9, .inl (cA_10, 256, .inl (bF fF))), (q_11, .inl (cA_12, 43, .inl (bF fF)))]) [0, 1, 2, 3, 4, 5, 6] (by decide) rfl
  have hK9 := hK.sub (tys' := [(cA_2, .int), (cA_4, .int), (cA_6, .int), (cA_8, .boolean), (cA_10, .boolean), (cA_12, .boolean)]) [0, 1, 2, 3, 4, 5] rfl
  exact W.vret hx hb hr (fun t ht hW => ⟨⟨(q_1, q_3, q_5, q_7, q_9, q_11, cA_2, cA_4, cA_6, cA_8, cA_10, cA_12), rfl, trivial, by rw [ht]; exact hP9, va_K.moved hW.alike hK9, hD9⟩, hS.F ht⟩) hS.2.2 d_M_init_58
set_option maxHeartbeats 4000000 in
set_option maxRecDepth 100000 in
/-- reference: draw, of a size -/
theorem c_M_draw (l : Launch) (dC : Nat → ClassId) (dI : Nat → Nat → Nat) (jm ik iv ir il iy ig : Nat) (n : Nat) (th : Int32) (sd tp : Int64) (dk dv dr dl : ClassId) (K V R : Nat → Int32) (L : Nat → Bool) (z : Nat) (hz : z ≤ 40) (sz : Nat) : Met l y_M_draw w_M_draw ({ frames := 3, cells := 0, slots := 0, locals := 74 }) (wr_P dC dI [.ref jm, .int (nI z)] [(jm, .inr (3, [.int th, .long sd, .long tp, .int (nI n), .ref ik, .ref iv, .ref ir, .ref il, .ref iy, .ref ig])), (ik, .inl (dk, 86, .inl K)), (iv, .inl (dv, 86, .inl V)), (ir, .inl (dr, 86, .inl R)), (il, .inl (dl, 43, .inl (bF L)))] [(dk, .int), (dv, .int), (dr, .int), (dl, .boolean)] sz) (va_Qi (fun (r : Int32) (_ : Unit) => r = nI (z + 3)) (fun (u : Unit) => wr_B dC dI (va_A [(jm, .inr (3, [.int th, .long sd, .long tp, .int (nI n), .ref ik, .ref iv, .ref ir, .ref il, .ref iy, .ref ig])), (ik, .inl (dk, 86, .inl K)), (iv, .inl (dv, 86, .inl V)), (ir, .inl (dr, 86, .inl R)), (il, .inl (dl, 43, .inl (bF L)))] sz) [(jm, .inr (3, [.int (nI 0), .long sd, .long ((drM 0 (sd, K, V, R) (z + 3)).1), .int (nI (z + 3)), .ref ik, .ref iv, .ref ir, .ref il, .ref iy, .ref ig])), (ik, .inl (dk, 86, .inl ((drM 0 (sd, K, V, R) (z + 3)).2.1))), (iv, .inl (dv, 86, .inl ((drM 0 (sd, K, V, R) (z + 3)).2.2.1))), (ir, .inl (dr, 86, .inl ((drM 0 (sd, K, V, R) (z + 3)).2.2.2))), (il, .inl (dl, 43, .inl (bF (alF (z + 3) 43 L))))] [(dk, .int), (dv, .int), (dr, .int), (dl, .boolean)]) (va_A [(jm, .inr (3, [.int th, .long sd, .long tp, .int (nI n), .ref ik, .ref iv, .ref ir, .ref il, .ref iy, .ref ig])), (ik, .inl (dk, 86, .inl K)), (iv, .inl (dv, 86, .inl V)), (ir, .inl (dr, 86, .inl R)), (il, .inl (dl, 43, .inl (bF L)))] sz)) 0 0 (va_A [(jm, .inr (3, [.int th, .long sd, .long tp, .int (nI n), .ref ik, .ref iv, .ref ir, .ref il, .ref iy, .ref ig])), (ik, .inl (dk, 86, .inl K)), (iv, .inl (dv, 86, .inl V)), (ir, .inl (dr, 86, .inl R)), (il, .inl (dl, 43, .inl (bF L)))] sz) := by
  refine Met.ofW (cc := b_M_draw) (maxL := 2) (ret := (Option.some Jvm.ClassFile.FieldType.int)) (by decide) rfl ?_
  intro p e s m args below meth c s₁ B0 hml hv0
  obtain ⟨rfl, hsz, hP, hK, hD0, hN⟩ := hv0
  have hx := B0.exec
  have hb := B0.bytes
  have hr := B0.returns
  have hts := atoms_spec (ws := w_M_draw) B0.pre
  have hown : s.vm.findClass R_M = some m.cls := findClass_of_methodNamed B0.named
  have hlocks := B0.notSynchronized
  subst hsz
  have hD := hD0.self (sz := s.heap.size)
  generalize hAe : va_A [(jm, .inr (3, [.int th, .long sd, .long tp, .int (nI n), .ref ik, .ref iv, .ref ir, .ref il, .ref iy, .ref ig])), (ik, .inl (dk, 86, .inl K)), (iv, .inl (dv, 86, .inl V)), (ir, .inl (dr, 86, .inl R)), (il, .inl (dl, 43, .inl (bF L)))] s.heap.size = A at hD ⊢
  have hA : ∀ q : Nat, s.heap.size ≤ q → A q := fun q h => by rw [← hAe]; exact Or.inr h
  have hS : va_S A s.heap s.heap [] := va_S.rf
  have hP : va_P (dC, dI) classes [(jm, .inr (3, [.int th, .long sd, .long tp, .int (nI n), .ref ik, .ref iv, .ref ir, .ref il, .ref iy, .ref ig])), (ik, .inl (dk, 86, .inl K)), (iv, .inl (dv, 86, .inl V)), (ir, .inl (dr, 86, .inl R)), (il, .inl (dl, 43, .inl (bF L)))] s.heap := hP
  have hl := lv_entry ([.ref jm, .int (nI z)]) (n := 2) (Nat.le_of_ble_eq_true rfl)
  rw [lg_entry_eq]
  generalize (lg_sl ([.ref jm, .int (nI z)]) ++ List.replicate (2 - (lg_sl ([.ref jm, .int (nI z)])).length) Slot.unset).toArray = ls at hl ⊢
  have hl : lv_has ls 2 [(0, .ref jm), (1, .int (nI z))] := hl
  refine lv_iload_n hx hb d_M_draw_0 rfl (lv_at hl 1 rfl) ?_
  refine lv_iconst (v := nI 0) hx hb d_M_draw_1 (by decide +kernel) ?_
  refine lv_bipush (v := nI 40) hx hb d_M_draw_2 (by decide +kernel) ?_
  have hPc := hP.sub (ws' := []) [] rfl
  have hKc := hK.sub (tys' := []) [] rfl
  refine vp_callSi (W.runS (As := [.int (nI z), .int (nI 0), .int (nI 40)]) (rest := []) ⟨hx, hb, hml, hown, hts⟩ (c_M_in_ l dC dI (nI z) (nI 0) (nI 40)) (va_cwS 3 hts (g_S big_w m_375 m_376 m_4 m_377) rfl rfl rfl (by decide +kernel) ⟨Nat.le_of_ble_eq_true rfl, Nat.le_of_ble_eq_true rfl⟩) (ro_S hPc hKc hN) rfl rfl hl.1 rfl (lv_room (Nat.le_of_ble_eq_true rfl)) d_M_draw_4 ⟨Nat.le_of_ble_eq_true rfl, Nat.le_of_ble_eq_true rfl⟩) (fun r_1 er_1 => ?_)
  have er_1 := er_1.symm
  subst er_1
  refine lv_if_ne (tgt := 16) hx hb d_M_draw_7 (by decide) (fun c_7 => ?_) (fun c_7 => ?_)
  · skip
    have c_7 := bI_t c_7
    refine lv_aload_n hx hb d_M_draw_16 rfl (lv_at hl 0 rfl) ?_
    refine lv_iconst (v := nI 0) hx hb d_M_draw_17 (by decide +kernel) ?_
    refine va_put (D := (dC, dI)) (ci := 3) (v := .int (nI 0)) (ty := .int) (C := R_M) (T := F_M) (N := 10) hx hb hts (lay_M _) ft_M tok_M nok_M hown hK hP hD hS 0 rfl rfl 0 (by decide) (hts _ (List.mem_cons_of_mem _ m_336)) (fun _ h9 => h9) rfl (by decide +kernel) rfl rfl (Nat.le_of_ble_eq_true rfl) d_M_draw_18 (fun H locs hP hD hS => ?_)
    have hP : va_P (dC, dI) classes [(jm, .inr (3, [.int (nI 0), .long sd, .long tp, .int (nI n), .ref ik, .ref iv, .ref ir, .ref il, .ref iy, .ref ig])), (ik, .inl (dk, 86, .inl K)), (iv, .inl (dv, 86, .inl V)), (ir, .inl (dr, 86, .inl R)), (il, .inl (dl, 43, .inl (bF L)))] H := hP
    have hD : va_D A [(jm, .inr (3, [.int (nI 0), .long sd, .long tp, .int (nI n), .ref ik, .ref iv, .ref ir, .ref il, .ref iy, .ref ig])), (ik, .inl (dk, 86, .inl K)), (iv, .inl (dv, 86, .inl V)), (ir, .inl (dr, 86, .inl R)), (il, .inl (dl, 43, .inl (bF L)))] := hD
    refine lv_aload_n hx hb d_M_draw_21 rfl (lv_at hl 0 rfl) ?_
    refine lv_aload_n hx hb d_M_draw_22 rfl (lv_at hl 0 rfl) ?_
    refine va_get (D := (dC, dI)) (ci := 3) (v := .long sd) (C := R_M) (T := F_M) (N := 10) hx hb hts (lay_M _) hown hK hP 0 rfl rfl 1 (by decide) (hts _ (List.mem_cons_of_mem _ m_337)) (fun _ h9 => h9) rfl d_M_draw_23 ?_
    refine lv_iconst (v := nI 0) hx hb d_M_draw_26 (by decide +kernel) ?_
    refine lv_iload_n hx hb d_M_draw_27 rfl (lv_at hl 1 rfl) ?_
    have hPc := hP.sub (ws' := [(jm, .inr (3, [.int (nI 0), .long sd, .long tp, .int (nI n), .ref ik, .ref iv, .ref ir, .ref il, .ref iy, .ref ig])), (ik, .inl (dk, 86, .inl K)), (iv, .inl (dv, 86, .inl V)), (ir, .inl (dr, 86, .inl R))]) [0, 1, 2, 3] rfl
    have hKc := hK.sub (tys' := [(dk, .int), (dv, .int), (dr, .int)]) [0, 1, 2] rfl
    have hDc := hD.sub (ws' := [(jm, .inr (3, [.int (nI 0), .long sd, .long tp, .int (nI n), .ref ik, .ref iv, .ref ir, .ref il, .ref iy, .ref ig])), (ik, .inl (dk, 86, .inl K)), (iv, .inl (dv, 86, .inl V)), (ir, .inl (dr, 86, .inl R))]) [0, 1, 2, 3] (by decide) rfl
    have hFc := va_free (wc := [(jm, .inr (3, [.int (nI 0), .long sd, .long tp, .int (nI n), .ref ik, .ref iv, .ref ir, .ref il, .ref iy, .ref ig])), (ik, .inl (dk, 86, .inl K)), (iv, .inl (dv, 86, .inl V)), (ir, .inl (dr, 86, .inl R))]) hD hS hA [0, 1, 2, 3] rfl
    refine va_callv (va_runV (As := [.long sd, .int (nI 0), .int (nI z)]) (rest := []) ⟨hx, hb, hml, hown, hts⟩ (c_M_draws l dC dI jm ik iv ir il iy ig n (nI 0) sd tp dk dv dr K V R sd 0 z (by decide) hz _) (cwV 3 hts (g_V big_w m_382 m_384 ms_22 m_4 m_385) rfl rfl rfl (by decide +kernel) ⟨Nat.le_of_ble_eq_true rfl, Nat.le_of_ble_eq_true rfl⟩) (wr_V hPc hKc hDc hN (va_recv hKc hPc (ci := 3) (q0 := 0) rfl rfl)) rfl rfl hl.1 rfl (lv_room (Nat.le_of_ble_eq_true rfl)) d_M_draw_28 ⟨Nat.le_of_ble_eq_true rfl, Nat.le_of_ble_eq_true rfl⟩) hS (fun q _ h => hFc q h) hFc (fun u t H1 locs ht hvm hw hB hz1 hk1 hS => ?_)
    obtain ⟨hP1, hK1, hD1⟩ := hB
    rw [ht] at hP1
    obtain ⟨hP, hD⟩ := va_join (wr := [(il, .inl (dl, 43, .inl (bF L)))]) (w1 := [(jm, .inr (3, [.int (nI 0), .long sd, .long ((drM 0 (sd, K, V, R) (z + 3)).1), .int (nI n), .ref ik, .ref iv, .ref ir, .ref il, .ref iy, .ref ig])), (ik, .inl (dk, 86, .inl ((drM 0 (sd, K, V, R) (z + 3)).2.1))), (iv, .inl (dv, 86, .inl ((drM 0 (sd, K, V, R) (z + 3)).2.2.1))), (ir, .inl (dr, 86, .inl ((drM 0 (sd, K, V, R) (z + 3)).2.2.2)))]) hP hD [0, 1, 2, 3] [4] rfl rfl (by decide) (by decide) hk1 hFc hP1 hD1
    generalize H1 = H at hP hS ⊢
    have hP : va_P (dC, dI) classes [(il, .inl (dl, 43, .inl (bF L))), (jm, .inr (3, [.int (nI 0), .long sd, .long ((drM 0 (sd, K, V, R) (z + 3)).1), .int (nI n), .ref ik, .ref iv, .ref ir, .ref il, .ref iy, .ref ig])), (ik, .inl (dk, 86, .inl ((drM 0 (sd, K, V, R) (z + 3)).2.1))), (iv, .inl (dv, 86, .inl ((drM 0 (sd, K, V, R) (z + 3)).2.2.1))), (ir, .inl (dr, 86, .inl ((drM 0 (sd, K, V, R) (z + 3)).2.2.2)))] H := hP
    have hD : va_D A [(il, .inl (dl, 43, .inl (bF L))), (jm, .inr (3, [.int (nI 0), .long sd, .long ((drM 0 (sd, K, V, R) (z + 3)).1), .int (nI n), .ref ik, .ref iv, .ref ir, .ref il, .ref iy, .ref ig])), (ik, .inl (dk, 86, .inl ((drM 0 (sd, K, V, R) (z + 3)).2.1))), (iv, .inl (dv, 86, .inl ((drM 0 (sd, K, V, R) (z + 3)).2.2.1))), (ir, .inl (dr, 86, .inl ((drM 0 (sd, K, V, R) (z + 3)).2.2.2)))] := hD
    refine lv_aload_n hx hb d_M_draw_31 rfl (lv_at hl 0 rfl) ?_
    refine lv_iload_n hx hb d_M_draw_32 rfl (lv_at hl 1 rfl) ?_
    refine lv_iconst (v := nI 3) hx hb d_M_draw_33 (by decide +kernel) ?_
    refine lv_iadd hx hb d_M_draw_34 ?_
    refine lv_topi (fun w_3 ew_3 => ?_)
    have ew_3 : (nI (z + 3)) = w_3 := (ew_3.trans (nI_add _ _)).symm
    subst ew_3
    refine va_put (D := (dC, dI)) (ci := 3) (v := .int (nI (z + 3))) (ty := .int) (C := R_M) (T := F_M) (N := 10) hx hb hts (lay_M _) ft_M tok_M nok_M hown hK hP hD hS 1 rfl rfl 3 (by decide) (hts _ (List.mem_cons_of_mem _ m_339)) (fun _ h9 => h9) rfl (by decide +kernel) rfl rfl (Nat.le_of_ble_eq_true rfl) d_M_draw_35 (fun H locs hP hD hS => ?_)
    have hP : va_P (dC, dI) classes [(il, .inl (dl, 43, .inl (bF L))), (jm, .inr (3, [.int (nI 0), .long sd, .long ((drM 0 (sd, K, V, R) (z + 3)).1), .int (nI (z + 3)), .ref ik, .ref iv, .ref ir, .ref il, .ref iy, .ref ig])), (ik, .inl (dk, 86, .inl ((drM 0 (sd, K, V, R) (z + 3)).2.1))), (iv, .inl (dv, 86, .inl ((drM 0 (sd, K, V, R) (z + 3)).2.2.1))), (ir, .inl (dr, 86, .inl ((drM 0 (sd, K, V, R) (z + 3)).2.2.2)))] H := hP
    have hD : va_D A [(il, .inl (dl, 43, .inl (bF L))), (jm, .inr (3, [.int (nI 0), .long sd, .long ((drM 0 (sd, K, V, R) (z + 3)).1), .int (nI (z + 3)), .ref ik, .ref iv, .ref ir, .ref il, .ref iy, .ref ig])), (ik, .inl (dk, 86, .inl ((drM 0 (sd, K, V, R) (z + 3)).2.1))), (iv, .inl (dv, 86, .inl ((drM 0 (sd, K, V, R) (z + 3)).2.2.1))), (ir, .inl (dr, 86, .inl ((drM 0 (sd, K, V, R) (z + 3)).2.2.2)))] := hD
    refine lv_aload_n hx hb d_M_draw_38 rfl (lv_at hl 0 rfl) ?_
    have hPc := hP.sub (ws' := [(jm, .inr (3, [.int (nI 0), .long sd, .long ((drM 0 (sd, K, V, R) (z + 3)).1), .int (nI (z + 3)), .ref ik, .ref iv, .ref ir, .ref il, .ref iy, .ref ig])), (il, .inl (dl, 43, .inl (bF L)))]) [1, 0] rfl
    have hKc := hK.sub (tys' := [(dl, .boolean)]) [3] rfl
    have hDc := hD.sub (ws' := [(jm, .inr (3, [.int (nI 0), .long sd, .long ((drM 0 (sd, K, V, R) (z + 3)).1), .int (nI (z + 3)), .ref ik, .ref iv, .ref ir, .ref il, .ref iy, .ref ig])), (il, .inl (dl, 43, .inl (bF L)))]) [1, 0] (by decide) rfl
    have hFc := va_free (wc := [(jm, .inr (3, [.int (nI 0), .long sd, .long ((drM 0 (sd, K, V, R) (z + 3)).1), .int (nI (z + 3)), .ref ik, .ref iv, .ref ir, .ref il, .ref iy, .ref ig])), (il, .inl (dl, 43, .inl (bF L)))]) hD hS hA [1, 0] rfl
    refine va_callv (va_runV (As := []) (rest := []) ⟨hx, hb, hml, hown, hts⟩ (c_M_all l dC dI jm ik iv ir il iy ig (z + 3) (nI 0) sd ((drM 0 (sd, K, V, R) (z + 3)).1) dl L (by first | assumption | omega) _) (cwV 0 hts (g_V big_w m_399 m_401 ms_25 m_4 m_402) rfl rfl rfl (by decide +kernel) ⟨Nat.le_of_ble_eq_true rfl, Nat.le_of_ble_eq_true rfl⟩) (wr_V hPc hKc hDc hN (va_recv hKc hPc (ci := 3) (q0 := 0) rfl rfl)) rfl rfl hl.1 rfl (lv_room (Nat.le_of_ble_eq_true rfl)) d_M_draw_39 ⟨Nat.le_of_ble_eq_true rfl, Nat.le_of_ble_eq_true rfl⟩) hS (fun q _ h => hFc q h) hFc (fun u t H1 locs ht hvm hw hB hz1 hk1 hS => ?_)
    obtain ⟨hP1, hK1, hD1⟩ := hB
    rw [ht] at hP1
    obtain ⟨hP, hD⟩ := va_join (wr := [(ik, .inl (dk, 86, .inl ((drM 0 (sd, K, V, R) (z + 3)).2.1))), (iv, .inl (dv, 86, .inl ((drM 0 (sd, K, V, R) (z + 3)).2.2.1))), (ir, .inl (dr, 86, .inl ((drM 0 (sd, K, V, R) (z + 3)).2.2.2)))]) (w1 := [(jm, .inr (3, [.int (nI 0), .long sd, .long ((drM 0 (sd, K, V, R) (z + 3)).1), .int (nI (z + 3)), .ref ik, .ref iv, .ref ir, .ref il, .ref iy, .ref ig])), (il, .inl (dl, 43, .inl (bF (alF (z + 3) 43 L))))]) hP hD [1, 0] [2, 3, 4] rfl rfl (by decide) (by decide) hk1 hFc hP1 hD1
    generalize H1 = H at hP hS ⊢
    have hP : va_P (dC, dI) classes [(ik, .inl (dk, 86, .inl ((drM 0 (sd, K, V, R) (z + 3)).2.1))), (iv, .inl (dv, 86, .inl ((drM 0 (sd, K, V, R) (z + 3)).2.2.1))), (ir, .inl (dr, 86, .inl ((drM 0 (sd, K, V, R) (z + 3)).2.2.2))), (jm, .inr (3, [.int (nI 0), .long sd, .long ((drM 0 (sd, K, V, R) (z + 3)).1), .int (nI (z + 3)), .ref ik, .ref iv, .ref ir, .ref il, .ref iy, .ref ig])), (il, .inl (dl, 43, .inl (bF (alF (z + 3) 43 L))))] H := hP
    have hD : va_D A [(ik, .inl (dk, 86, .inl ((drM 0 (sd, K, V, R) (z + 3)).2.1))), (iv, .inl (dv, 86, .inl ((drM 0 (sd, K, V, R) (z + 3)).2.2.1))), (ir, .inl (dr, 86, .inl ((drM 0 (sd, K, V, R) (z + 3)).2.2.2))), (jm, .inr (3, [.int (nI 0), .long sd, .long ((drM 0 (sd, K, V, R) (z + 3)).1), .int (nI (z + 3)), .ref ik, .ref iv, .ref ir, .ref il, .ref iy, .ref ig])), (il, .inl (dl, 43, .inl (bF (alF (z + 3) 43 L))))] := hD
    refine lv_aload_n hx hb d_M_draw_42 rfl (lv_at hl 0 rfl) ?_
    refine va_get (D := (dC, dI)) (ci := 3) (v := .int (nI (z + 3))) (C := R_M) (T := F_M) (N := 10) hx hb hts (lay_M _) hown hK hP 3 rfl rfl 3 (by decide) (hts _ (List.mem_cons_of_mem _ m_339)) (fun _ h9 => h9) rfl d_M_draw_43 ?_
    have hP9 := hP.sub (ws' := [(jm, .inr (3, [.int (nI 0), .long sd, .long ((drM 0 (sd, K, V, R) (z + 3)).1), .int (nI (z + 3)), .ref ik, .ref iv, .ref ir, .ref il, .ref iy, .ref ig])), (ik, .inl (dk, 86, .inl ((drM 0 (sd, K, V, R) (z + 3)).2.1))), (iv, .inl (dv, 86, .inl ((drM 0 (sd, K, V, R) (z + 3)).2.2.1))), (ir, .inl (dr, 86, .inl ((drM 0 (sd, K, V, R) (z + 3)).2.2.2))), (il, .inl (dl, 43, .inl (bF (alF (z + 3) 43 L))))]) [3, 0, 1, 2, 4] rfl
    have hD9 := hD.sub (ws' := [(jm, .inr (3, [.int (nI 0), .long sd, .long ((drM 0 (sd, K, V, R) (z + 3)).1), .int (nI (z + 3)), .ref ik, .ref iv, .ref ir, .ref il, .ref iy, .ref ig])), (ik, .inl (dk, 86, .inl ((drM 0 (sd, K, V, R) (z + 3)).2.1))), (iv, .inl (dv, 86, .inl ((drM 0 (sd, K, V, R) (z + 3)).2.2.1))), (ir, .inl (dr, 86, .inl ((drM 0 (sd, K, V, R) (z + 3)).2.2.2))), (il, .inl (dl, 43, .inl (bF (alF (z + 3) 43 L))))]) [3, 0, 1, 2, 4] (by decide) rfl
    have hK9 := hK.sub (tys' := [(dk, .int), (dv, .int), (dr, .int), (dl, .boolean)]) [0, 1, 2, 3] rfl
    exact W.iret (v := nI (z + 3)) hx hb hr (fun t ht hW => ⟨⟨nI (z + 3), (), rfl, rfl, by rw [ht]; exact hP9, va_K.moved hW.alike hK9, hD9⟩, hS.F ht⟩) hS.2.2 d_M_draw_46
  · skip
    have c_7 := bI_f c_7
    exact absurd c_7 (by rw [in_sz hz]; decide)
set_option maxHeartbeats 4000000 in
set_option maxRecDepth 100000 in
/-- reference: draw, of no size -/
theorem c_M_drawx (l : Launch) (dC : Nat → ClassId) (dI : Nat → Nat → Nat) (jm ik iv ir il iy ig : Nat) (n : Nat) (th : Int32) (sd tp : Int64) (p0 : Int32) (hex : szB p0 = false) (sz : Nat) : Met l y_M_draw w_M_draw ({ frames := 3, cells := 0, slots := 0, locals := 74 }) (wr_P dC dI [.ref jm, .int p0] [(jm, .inr (3, [.int th, .long sd, .long tp, .int (nI n), .ref ik, .ref iv, .ref ir, .ref il, .ref iy, .ref ig]))] [] sz) (va_Qi (fun (r : Int32) (_ : Unit) => r = nI 0) (fun (u : Unit) => wr_B dC dI (va_A [(jm, .inr (3, [.int th, .long sd, .long tp, .int (nI n), .ref ik, .ref iv, .ref ir, .ref il, .ref iy, .ref ig]))] sz) [(jm, .inr (3, [.int (nI 1), .long sd, .long tp, .int (nI n), .ref ik, .ref iv, .ref ir, .ref il, .ref iy, .ref ig]))] []) (va_A [(jm, .inr (3, [.int th, .long sd, .long tp, .int (nI n), .ref ik, .ref iv, .ref ir, .ref il, .ref iy, .ref ig]))] sz)) 0 0 (va_A [(jm, .inr (3, [.int th, .long sd, .long tp, .int (nI n), .ref ik, .ref iv, .ref ir, .ref il, .ref iy, .ref ig]))] sz) := by
  refine Met.ofW (cc := b_M_draw) (maxL := 2) (ret := (Option.some Jvm.ClassFile.FieldType.int)) (by decide) rfl ?_
  intro p e s m args below meth c s₁ B0 hml hv0
  obtain ⟨rfl, hsz, hP, hK, hD0, hN⟩ := hv0
  have hx := B0.exec
  have hb := B0.bytes
  have hr := B0.returns
  have hts := atoms_spec (ws := w_M_draw) B0.pre
  have hown : s.vm.findClass R_M = some m.cls := findClass_of_methodNamed B0.named
  have hlocks := B0.notSynchronized
  subst hsz
  have hD := hD0.self (sz := s.heap.size)
  generalize hAe : va_A [(jm, .inr (3, [.int th, .long sd, .long tp, .int (nI n), .ref ik, .ref iv, .ref ir, .ref il, .ref iy, .ref ig]))] s.heap.size = A at hD ⊢
  have hA : ∀ q : Nat, s.heap.size ≤ q → A q := fun q h => by rw [← hAe]; exact Or.inr h
  have hS : va_S A s.heap s.heap [] := va_S.rf
  have hP : va_P (dC, dI) classes [(jm, .inr (3, [.int th, .long sd, .long tp, .int (nI n), .ref ik, .ref iv, .ref ir, .ref il, .ref iy, .ref ig]))] s.heap := hP
  have hl := lv_entry ([.ref jm, .int p0]) (n := 2) (Nat.le_of_ble_eq_true rfl)
  rw [lg_entry_eq]
  generalize (lg_sl ([.ref jm, .int p0]) ++ List.replicate (2 - (lg_sl ([.ref jm, .int p0])).length) Slot.unset).toArray = ls at hl ⊢
  have hl : lv_has ls 2 [(0, .ref jm), (1, .int p0)] := hl
  refine lv_iload_n hx hb d_M_draw_0 rfl (lv_at hl 1 rfl) ?_
  refine lv_iconst (v := nI 0) hx hb d_M_draw_1 (by decide +kernel) ?_
  refine lv_bipush (v := nI 40) hx hb d_M_draw_2 (by decide +kernel) ?_
  have hPc := hP.sub (ws' := []) [] rfl
  have hKc := hK.sub (tys' := []) [] rfl
  refine vp_callSi (W.runS (As := [.int p0, .int (nI 0), .int (nI 40)]) (rest := []) ⟨hx, hb, hml, hown, hts⟩ (c_M_in_ l dC dI p0 (nI 0) (nI 40)) (va_cwS 3 hts (g_S big_w m_375 m_376 m_4 m_377) rfl rfl rfl (by decide +kernel) ⟨Nat.le_of_ble_eq_true rfl, Nat.le_of_ble_eq_true rfl⟩) (ro_S hPc hKc hN) rfl rfl hl.1 rfl (lv_room (Nat.le_of_ble_eq_true rfl)) d_M_draw_4 ⟨Nat.le_of_ble_eq_true rfl, Nat.le_of_ble_eq_true rfl⟩) (fun r_1 er_1 => ?_)
  have er_1 := er_1.symm
  subst er_1
  refine lv_if_ne (tgt := 16) hx hb d_M_draw_7 (by decide) (fun c_7 => ?_) (fun c_7 => ?_)
  · skip
    have c_7 := bI_t c_7
    exact absurd c_7 (by rw [show inB p0 (nI 0) (nI 40) = false from hex]; decide)
  · skip
    have c_7 := bI_f c_7
    refine lv_aload_n hx hb d_M_draw_10 rfl (lv_at hl 0 rfl) ?_
    refine lv_iconst (v := nI 1) hx hb d_M_draw_11 (by decide +kernel) ?_
    have hPc := hP.sub (ws' := [(jm, .inr (3, [.int th, .long sd, .long tp, .int (nI n), .ref ik, .ref iv, .ref ir, .ref il, .ref iy, .ref ig]))]) [0] rfl
    have hKc := hK.sub (tys' := []) [] rfl
    have hDc := hD.sub (ws' := [(jm, .inr (3, [.int th, .long sd, .long tp, .int (nI n), .ref ik, .ref iv, .ref ir, .ref il, .ref iy, .ref ig]))]) [0] (by decide) rfl
    have hFc := va_free (wc := [(jm, .inr (3, [.int th, .long sd, .long tp, .int (nI n), .ref ik, .ref iv, .ref ir, .ref il, .ref iy, .ref ig]))]) hD hS hA [0] rfl
    refine va_calli (va_runV (As := [.int (nI 1)]) (rest := []) ⟨hx, hb, hml, hown, hts⟩ (c_M_refuse l dC dI jm ik iv ir il iy ig n th sd tp (nI 1) _) (cwV 1 hts (g_V big_w m_378 m_380 ms_21 m_4 m_381) rfl rfl rfl (by decide +kernel) ⟨Nat.le_of_ble_eq_true rfl, Nat.le_of_ble_eq_true rfl⟩) (wr_V hPc hKc hDc hN (va_recv hKc hPc (ci := 3) (q0 := 0) rfl rfl)) rfl rfl hl.1 rfl (lv_room (Nat.le_of_ble_eq_true rfl)) d_M_draw_12 ⟨Nat.le_of_ble_eq_true rfl, Nat.le_of_ble_eq_true rfl⟩) hS (fun q _ h => hFc q h) hFc (fun r_2 u t H1 locs ht hvm hw hB hz1 hk1 hS => ?_)
    obtain ⟨hP1, hK1, hD1⟩ := hB
    rw [ht] at hP1
    obtain ⟨hP, hD⟩ := va_join (wr := []) (w1 := [(jm, .inr (3, [.int (nI 1), .long sd, .long tp, .int (nI n), .ref ik, .ref iv, .ref ir, .ref il, .ref iy, .ref ig]))]) hP hD [0] [] rfl rfl (by decide) (by decide) hk1 hFc hP1 hD1
    generalize H1 = H at hP hS ⊢
    have hP : va_P (dC, dI) classes [(jm, .inr (3, [.int (nI 1), .long sd, .long tp, .int (nI n), .ref ik, .ref iv, .ref ir, .ref il, .ref iy, .ref ig]))] H := hP
    have hD : va_D A [(jm, .inr (3, [.int (nI 1), .long sd, .long tp, .int (nI n), .ref ik, .ref iv, .ref ir, .ref il, .ref iy, .ref ig]))] := hD
    have hw := hw.symm
    subst hw
    have hP9 := hP.sub (ws' := [(jm, .inr (3, [.int (nI 1), .long sd, .long tp, .int (nI n), .ref ik, .ref iv, .ref ir, .ref il, .ref iy, .ref ig]))]) [0] rfl
    have hD9 := hD.sub (ws' := [(jm, .inr (3, [.int (nI 1), .long sd, .long tp, .int (nI n), .ref ik, .ref iv, .ref ir, .ref il, .ref iy, .ref ig]))]) [0] (by decide) rfl
    have hK9 := hK.sub (tys' := []) [] rfl
    exact W.iret (v := nI 0) hx hb hr (fun t ht hW => ⟨⟨nI 0, (), rfl, rfl, by rw [ht]; exact hP9, va_K.moved hW.alike hK9, hD9⟩, hS.F ht⟩) hS.2.2 d_M_draw_15
set_option maxHeartbeats 4000000 in
set_option maxRecDepth 100000 in
/-- reference: same, of a size -/
theorem c_M_same (l : Launch) (dC : Nat → ClassId) (dI : Nat → Nat → Nat) (jm ik iv ir il iy ig : Nat) (n : Nat) (th : Int32) (sd tp : Int64) (dk dv dr : ClassId) (K V R : Nat → Int32) (ot : Int64) (z : Nat) (hn : n ≤ 43) (hz : z ≤ 40) (sz : Nat) : Met l y_M_same w_M_same ({ frames := 3, cells := 0, slots := 0, locals := 74 }) (wr_P dC dI [.ref jm, .long ot, .int (nI z)] [(jm, .inr (3, [.int th, .long sd, .long tp, .int (nI n), .ref ik, .ref iv, .ref ir, .ref il, .ref iy, .ref ig])), (ik, .inl (dk, 86, .inl K)), (iv, .inl (dv, 86, .inl V)), (ir, .inl (dr, 86, .inl R))] [(dk, .int), (dv, .int), (dr, .int)] sz) (va_Qi (fun (r : Int32) (_ : Unit) => r = bI (decide (n = z + 3) && alB (eq3 (drM 43 (ot, K, V, R) (z + 3)).2.1 (drM 43 (ot, K, V, R) (z + 3)).2.2.1 (drM 43 (ot, K, V, R) (z + 3)).2.2.2 (shf (drM 43 (ot, K, V, R) (z + 3)).2.1 43) (shf (drM 43 (ot, K, V, R) (z + 3)).2.2.1 43) (shf (drM 43 (ot, K, V, R) (z + 3)).2.2.2 43)) n)) (fun (u : Unit) => wr_B dC dI (va_A [(jm, .inr (3, [.int th, .long sd, .long tp, .int (nI n), .ref ik, .ref iv, .ref ir, .ref il, .ref iy, .ref ig])), (ik, .inl (dk, 86, .inl K)), (iv, .inl (dv, 86, .inl V)), (ir, .inl (dr, 86, .inl R))] sz) [(jm, .inr (3, [.int (nI 0), .long sd, .long ((drM 43 (ot, K, V, R) (z + 3)).1), .int (nI n), .ref ik, .ref iv, .ref ir, .ref il, .ref iy, .ref ig])), (ik, .inl (dk, 86, .inl ((drM 43 (ot, K, V, R) (z + 3)).2.1))), (iv, .inl (dv, 86, .inl ((drM 43 (ot, K, V, R) (z + 3)).2.2.1))), (ir, .inl (dr, 86, .inl ((drM 43 (ot, K, V, R) (z + 3)).2.2.2)))] [(dk, .int), (dv, .int), (dr, .int)]) (va_A [(jm, .inr (3, [.int th, .long sd, .long tp, .int (nI n), .ref ik, .ref iv, .ref ir, .ref il, .ref iy, .ref ig])), (ik, .inl (dk, 86, .inl K)), (iv, .inl (dv, 86, .inl V)), (ir, .inl (dr, 86, .inl R))] sz)) 0 0 (va_A [(jm, .inr (3, [.int th, .long sd, .long tp, .int (nI n), .ref ik, .ref iv, .ref ir, .ref il, .ref iy, .ref ig])), (ik, .inl (dk, 86, .inl K)), (iv, .inl (dv, 86, .inl V)), (ir, .inl (dr, 86, .inl R))] sz) := by
  refine Met.ofW (cc := b_M_same) (maxL := 6) (ret := (Option.some Jvm.ClassFile.FieldType.boolean)) (by decide) rfl ?_
  intro p e s m args below meth c s₁ B0 hml hv0
  obtain ⟨rfl, hsz, hP, hK, hD0, hN⟩ := hv0
  have hx := B0.exec
  have hb := B0.bytes
  have hr := B0.returns
  have hts := atoms_spec (ws := w_M_same) B0.pre
  have hown : s.vm.findClass R_M = some m.cls := findClass_of_methodNamed B0.named
  have hlocks := B0.notSynchronized
  subst hsz
  have hD := hD0.self (sz := s.heap.size)
  generalize hAe : va_A [(jm, .inr (3, [.int th, .long sd, .long tp, .int (nI n), .ref ik, .ref iv, .ref ir, .ref il, .ref iy, .ref ig])), (ik, .inl (dk, 86, .inl K)), (iv, .inl (dv, 86, .inl V)), (ir, .inl (dr, 86, .inl R))] s.heap.size = A at hD ⊢
  have hA : ∀ q : Nat, s.heap.size ≤ q → A q := fun q h => by rw [← hAe]; exact Or.inr h
  have hS : va_S A s.heap s.heap [] := va_S.rf
  have hP : va_P (dC, dI) classes [(jm, .inr (3, [.int th, .long sd, .long tp, .int (nI n), .ref ik, .ref iv, .ref ir, .ref il, .ref iy, .ref ig])), (ik, .inl (dk, 86, .inl K)), (iv, .inl (dv, 86, .inl V)), (ir, .inl (dr, 86, .inl R))] s.heap := hP
  have hl := lv_entry ([.ref jm, .long ot, .int (nI z)]) (n := 6) (Nat.le_of_ble_eq_true rfl)
  rw [lg_entry_eq]
  generalize (lg_sl ([.ref jm, .long ot, .int (nI z)]) ++ List.replicate (6 - (lg_sl ([.ref jm, .long ot, .int (nI z)])).length) Slot.unset).toArray = ls at hl ⊢
  have hl : lv_has ls 6 [(0, .ref jm), (1, .long ot), (3, .int (nI z))] := hl
  refine lv_iload_n hx hb d_M_same_0 rfl (lv_at hl 2 rfl) ?_
  refine lv_iconst (v := nI 0) hx hb d_M_same_1 (by decide +kernel) ?_
  refine lv_bipush (v := nI 40) hx hb d_M_same_2 (by decide +kernel) ?_
  have hPc := hP.sub (ws' := []) [] rfl
  have hKc := hK.sub (tys' := []) [] rfl
  refine vp_callSi (W.runS (As := [.int (nI z), .int (nI 0), .int (nI 40)]) (rest := []) ⟨hx, hb, hml, hown, hts⟩ (c_M_in_ l dC dI (nI z) (nI 0) (nI 40)) (va_cwS 3 hts (g_S big_w m_375 m_376 m_4 m_377) rfl rfl rfl (by decide +kernel) ⟨Nat.le_of_ble_eq_true rfl, Nat.le_of_ble_eq_true rfl⟩) (ro_S hPc hKc hN) rfl rfl hl.1 rfl (lv_room (Nat.le_of_ble_eq_true rfl)) d_M_same_4 ⟨Nat.le_of_ble_eq_true rfl, Nat.le_of_ble_eq_true rfl⟩) (fun r_1 er_1 => ?_)
  have er_1 := er_1.symm
  subst er_1
  refine lv_if_ne (tgt := 17) hx hb d_M_same_7 (by decide) (fun c_7 => ?_) (fun c_7 => ?_)
  · skip
    have c_7 := bI_t c_7
    refine lv_aload_n hx hb d_M_same_17 rfl (lv_at hl 0 rfl) ?_
    refine lv_iconst (v := nI 0) hx hb d_M_same_18 (by decide +kernel) ?_
    refine va_put (D := (dC, dI)) (ci := 3) (v := .int (nI 0)) (ty := .int) (C := R_M) (T := F_M) (N := 10) hx hb hts (lay_M _) ft_M tok_M nok_M hown hK hP hD hS 0 rfl rfl 0 (by decide) (hts _ (List.mem_cons_of_mem _ m_336)) (fun _ h9 => h9) rfl (by decide +kernel) rfl rfl (Nat.le_of_ble_eq_true rfl) d_M_same_19 (fun H locs hP hD hS => ?_)
    have hP : va_P (dC, dI) classes [(jm, .inr (3, [.int (nI 0), .long sd, .long tp, .int (nI n), .ref ik, .ref iv, .ref ir, .ref il, .ref iy, .ref ig])), (ik, .inl (dk, 86, .inl K)), (iv, .inl (dv, 86, .inl V)), (ir, .inl (dr, 86, .inl R))] H := hP
    have hD : va_D A [(jm, .inr (3, [.int (nI 0), .long sd, .long tp, .int (nI n), .ref ik, .ref iv, .ref ir, .ref il, .ref iy, .ref ig])), (ik, .inl (dk, 86, .inl K)), (iv, .inl (dv, 86, .inl V)), (ir, .inl (dr, 86, .inl R))] := hD
    refine lv_aload_n hx hb d_M_same_22 rfl (lv_at hl 0 rfl) ?_
    refine lv_lload_n hx hb d_M_same_23 rfl (lv_at hl 1 rfl) ?_
    refine lv_bipush (v := nI 43) hx hb d_M_same_24 (by decide +kernel) ?_
    refine lv_iload_n hx hb d_M_same_26 rfl (lv_at hl 2 rfl) ?_
    have hPc := hP.sub (ws' := [(jm, .inr (3, [.int (nI 0), .long sd, .long tp, .int (nI n), .ref ik, .ref iv, .ref ir, .ref il, .ref iy, .ref ig])), (ik, .inl (dk, 86, .inl K)), (iv, .inl (dv, 86, .inl V)), (ir, .inl (dr, 86, .inl R))]) [0, 1, 2, 3] rfl
    have hKc := hK.sub (tys' := [(dk, .int), (dv, .int), (dr, .int)]) [0, 1, 2] rfl
    have hDc := hD.sub (ws' := [(jm, .inr (3, [.int (nI 0), .long sd, .long tp, .int (nI n), .ref ik, .ref iv, .ref ir, .ref il, .ref iy, .ref ig])), (ik, .inl (dk, 86, .inl K)), (iv, .inl (dv, 86, .inl V)), (ir, .inl (dr, 86, .inl R))]) [0, 1, 2, 3] (by decide) rfl
    have hFc := va_free (wc := [(jm, .inr (3, [.int (nI 0), .long sd, .long tp, .int (nI n), .ref ik, .ref iv, .ref ir, .ref il, .ref iy, .ref ig])), (ik, .inl (dk, 86, .inl K)), (iv, .inl (dv, 86, .inl V)), (ir, .inl (dr, 86, .inl R))]) hD hS hA [0, 1, 2, 3] rfl
    refine va_callv (va_runV (As := [.long ot, .int (nI 43), .int (nI z)]) (rest := []) ⟨hx, hb, hml, hown, hts⟩ (c_M_draws l dC dI jm ik iv ir il iy ig n (nI 0) sd tp dk dv dr K V R ot 43 z (by decide) hz _) (cwV 3 hts (g_V big_w m_382 m_384 ms_22 m_4 m_385) rfl rfl rfl (by decide +kernel) ⟨Nat.le_of_ble_eq_true rfl, Nat.le_of_ble_eq_true rfl⟩) (wr_V hPc hKc hDc hN (va_recv hKc hPc (ci := 3) (q0 := 0) rfl rfl)) rfl rfl hl.1 rfl (lv_room (Nat.le_of_ble_eq_true rfl)) d_M_same_27 ⟨Nat.le_of_ble_eq_true rfl, Nat.le_of_ble_eq_true rfl⟩) hS (fun q _ h => hFc q h) hFc (fun u t H1 locs ht hvm hw hB hz1 hk1 hS => ?_)
    obtain ⟨hP1, hK1, hD1⟩ := hB
    rw [ht] at hP1
    obtain ⟨hP, hD⟩ := va_join (wr := []) (w1 := [(jm, .inr (3, [.int (nI 0), .long sd, .long ((drM 43 (ot, K, V, R) (z + 3)).1), .int (nI n), .ref ik, .ref iv, .ref ir, .ref il, .ref iy, .ref ig])), (ik, .inl (dk, 86, .inl ((drM 43 (ot, K, V, R) (z + 3)).2.1))), (iv, .inl (dv, 86, .inl ((drM 43 (ot, K, V, R) (z + 3)).2.2.1))), (ir, .inl (dr, 86, .inl ((drM 43 (ot, K, V, R) (z + 3)).2.2.2)))]) hP hD [0, 1, 2, 3] [] rfl rfl (by decide) (by decide) hk1 hFc hP1 hD1
    generalize H1 = H at hP hS ⊢
    have hP : va_P (dC, dI) classes [(jm, .inr (3, [.int (nI 0), .long sd, .long ((drM 43 (ot, K, V, R) (z + 3)).1), .int (nI n), .ref ik, .ref iv, .ref ir, .ref il, .ref iy, .ref ig])), (ik, .inl (dk, 86, .inl ((drM 43 (ot, K, V, R) (z + 3)).2.1))), (iv, .inl (dv, 86, .inl ((drM 43 (ot, K, V, R) (z + 3)).2.2.1))), (ir, .inl (dr, 86, .inl ((drM 43 (ot, K, V, R) (z + 3)).2.2.2)))] H := hP
    have hD : va_D A [(jm, .inr (3, [.int (nI 0), .long sd, .long ((drM 43 (ot, K, V, R) (z + 3)).1), .int (nI n), .ref ik, .ref iv, .ref ir, .ref il, .ref iy, .ref ig])), (ik, .inl (dk, 86, .inl ((drM 43 (ot, K, V, R) (z + 3)).2.1))), (iv, .inl (dv, 86, .inl ((drM 43 (ot, K, V, R) (z + 3)).2.2.1))), (ir, .inl (dr, 86, .inl ((drM 43 (ot, K, V, R) (z + 3)).2.2.2)))] := hD
    refine lv_aload_n hx hb d_M_same_30 rfl (lv_at hl 0 rfl) ?_
    refine va_get (D := (dC, dI)) (ci := 3) (v := .int (nI n)) (C := R_M) (T := F_M) (N := 10) hx hb hts (lay_M _) hown hK hP 0 rfl rfl 3 (by decide) (hts _ (List.mem_cons_of_mem _ m_339)) (fun _ h9 => h9) rfl d_M_same_31 ?_
    refine lv_iload_n hx hb d_M_same_34 rfl (lv_at hl 2 rfl) ?_
    refine lv_iconst (v := nI 3) hx hb d_M_same_35 (by decide +kernel) ?_
    refine lv_iadd hx hb d_M_same_36 ?_
    refine lv_topi (fun w_3 ew_3 => ?_)
    have ew_3 : (nI (z + 3)) = w_3 := (ew_3.trans (nI_add _ _)).symm
    subst ew_3
    refine lv_icmp_ne (tgt := 44) hx hb d_M_same_37 (by decide) (fun c_37 => ?_) (fun c_37 => ?_)
    · skip
      have c_37 := (not_congr (nI_eq (by omega) (by omega))).mp c_37
      refine lv_iconst (v := nI 0) hx hb d_M_same_44 (by decide +kernel) ?_
      refine lv_topi (fun w_4 ew_4 => ?_)
      have ew_4 : (bI (decide (n = z + 3) && alB (eq3 (drM 43 (ot, K, V, R) (z + 3)).2.1 (drM 43 (ot, K, V, R) (z + 3)).2.2.1 (drM 43 (ot, K, V, R) (z + 3)).2.2.2 (shf (drM 43 (ot, K, V, R) (z + 3)).2.1 43) (shf (drM 43 (ot, K, V, R) (z + 3)).2.2.1 43) (shf (drM 43 (ot, K, V, R) (z + 3)).2.2.2 43)) 0)) = w_4 := (ew_4.trans (by rw [decide_eq_false c_37]; rfl)).symm
      subst ew_4
      refine lv_istore (lv' := [(4, .int (bI (decide (n = z + 3) && alB (eq3 (drM 43 (ot, K, V, R) (z + 3)).2.1 (drM 43 (ot, K, V, R) (z + 3)).2.2.1 (drM 43 (ot, K, V, R) (z + 3)).2.2.2 (shf (drM 43 (ot, K, V, R) (z + 3)).2.1 43) (shf (drM 43 (ot, K, V, R) (z + 3)).2.2.1 43) (shf (drM 43 (ot, K, V, R) (z + 3)).2.2.2 43)) 0))), (0, .ref jm), (1, .long ot), (3, .int (nI z))]) hx hb d_M_same_45 hl (by decide) rfl (fun ls hl => ?_)
      refine lv_iconst (v := nI 0) hx hb d_M_same_47 (by decide +kernel) ?_
      refine lv_istore (lv' := [(5, .int (nI 0)), (4, .int (bI (decide (n = z + 3) && alB (eq3 (drM 43 (ot, K, V, R) (z + 3)).2.1 (drM 43 (ot, K, V, R) (z + 3)).2.2.1 (drM 43 (ot, K, V, R) (z + 3)).2.2.2 (shf (drM 43 (ot, K, V, R) (z + 3)).2.1 43) (shf (drM 43 (ot, K, V, R) (z + 3)).2.2.1 43) (shf (drM 43 (ot, K, V, R) (z + 3)).2.2.2 43)) 0))), (0, .ref jm), (1, .long ot), (3, .int (nI z))]) hx hb d_M_same_48 hl (by decide) rfl (fun ls hl => ?_)
      have lp_50 : ∀ (k9_50 : Nat), ∀ (i : Nat), n - i < k9_50 → (i ≤ n) → ∀ (ls : Array Slot), lv_has ls 6 [(0, .ref jm), (4, .int (bI (decide (n = z + 3) && alB (eq3 (drM 43 (ot, K, V, R) (z + 3)).2.1 (drM 43 (ot, K, V, R) (z + 3)).2.2.1 (drM 43 (ot, K, V, R) (z + 3)).2.2.2 (shf (drM 43 (ot, K, V, R) (z + 3)).2.1 43) (shf (drM 43 (ot, K, V, R) (z + 3)).2.2.1 43) (shf (drM 43 (ot, K, V, R) (z + 3)).2.2.2 43)) i))), (5, .int (nI i))] → W p l e (headSpec w_M_same ({ frames := 3, cells := 0, slots := 0, locals := 74 })).room s m ([.ref jm, .long ot, .int (nI z)]).toArray below meth c H locs 0 0 (MQ below (va_Qi (fun (r : Int32) (_ : Unit) => r = bI (decide (n = z + 3) && alB (eq3 (drM 43 (ot, K, V, R) (z + 3)).2.1 (drM 43 (ot, K, V, R) (z + 3)).2.2.1 (drM 43 (ot, K, V, R) (z + 3)).2.2.2 (shf (drM 43 (ot, K, V, R) (z + 3)).2.1 43) (shf (drM 43 (ot, K, V, R) (z + 3)).2.2.1 43) (shf (drM 43 (ot, K, V, R) (z + 3)).2.2.2 43)) n)) (fun (u : Unit) => wr_B dC dI (A) [(jm, .inr (3, [.int (nI 0), .long sd, .long ((drM 43 (ot, K, V, R) (z + 3)).1), .int (nI n), .ref ik, .ref iv, .ref ir, .ref il, .ref iy, .ref ig])), (ik, .inl (dk, 86, .inl ((drM 43 (ot, K, V, R) (z + 3)).2.1))), (iv, .inl (dv, 86, .inl ((drM 43 (ot, K, V, R) (z + 3)).2.2.1))), (ir, .inl (dr, 86, .inl ((drM 43 (ot, K, V, R) (z + 3)).2.2.2)))] [(dk, .int), (dv, .int), (dr, .int)]) (A)) ([.ref jm, .long ot, .int (nI z)]).toArray s 0 0 A) (F0 m 50 ls []) := by
        intro k9_50
        induction k9_50 with
        | zero =>
          intro i hk9
          exact absurd hk9 (Nat.not_lt_zero _)
        | succ k9_50 ih_50 =>
          intro i hk9_50 hi ls hl
          refine lv_iload hx hb d_M_same_50 (lv_at hl 2 rfl) ?_
          refine lv_aload_n hx hb d_M_same_52 rfl (lv_at hl 0 rfl) ?_
          refine va_get (D := (dC, dI)) (ci := 3) (v := .int (nI n)) (C := R_M) (T := F_M) (N := 10) hx hb hts (lay_M _) hown hK hP 0 rfl rfl 3 (by decide) (hts _ (List.mem_cons_of_mem _ m_339)) (fun _ h9 => h9) rfl d_M_same_53 ?_
          refine lv_icmp_ge (tgt := 137) hx hb d_M_same_56 (by decide) (fun c_56 => ?_) (fun c_56 => ?_)
          · skip
            have c_56 := (nI_leI (by omega) (by omega)).mp c_56
            refine lv_iload hx hb d_M_same_137 (lv_at hl 1 rfl) ?_
            have hP9 := hP.sub (ws' := [(jm, .inr (3, [.int (nI 0), .long sd, .long ((drM 43 (ot, K, V, R) (z + 3)).1), .int (nI n), .ref ik, .ref iv, .ref ir, .ref il, .ref iy, .ref ig])), (ik, .inl (dk, 86, .inl ((drM 43 (ot, K, V, R) (z + 3)).2.1))), (iv, .inl (dv, 86, .inl ((drM 43 (ot, K, V, R) (z + 3)).2.2.1))), (ir, .inl (dr, 86, .inl ((drM 43 (ot, K, V, R) (z + 3)).2.2.2)))]) [0, 1, 2, 3] rfl
            have hD9 := hD.sub (ws' := [(jm, .inr (3, [.int (nI 0), .long sd, .long ((drM 43 (ot, K, V, R) (z + 3)).1), .int (nI n), .ref ik, .ref iv, .ref ir, .ref il, .ref iy, .ref ig])), (ik, .inl (dk, 86, .inl ((drM 43 (ot, K, V, R) (z + 3)).2.1))), (iv, .inl (dv, 86, .inl ((drM 43 (ot, K, V, R) (z + 3)).2.2.1))), (ir, .inl (dr, 86, .inl ((drM 43 (ot, K, V, R) (z + 3)).2.2.2)))]) [0, 1, 2, 3] (by decide) rfl
            have hK9 := hK.sub (tys' := [(dk, .int), (dv, .int), (dr, .int)]) [0, 1, 2] rfl
            exact W.zret (v := bI (decide (n = z + 3) && alB (eq3 (drM 43 (ot, K, V, R) (z + 3)).2.1 (drM 43 (ot, K, V, R) (z + 3)).2.2.1 (drM 43 (ot, K, V, R) (z + 3)).2.2.2 (shf (drM 43 (ot, K, V, R) (z + 3)).2.1 43) (shf (drM 43 (ot, K, V, R) (z + 3)).2.2.1 43) (shf (drM 43 (ot, K, V, R) (z + 3)).2.2.2 43)) i)) (ty := .boolean) hx hb hr (bI_nar _) (fun t ht hW => ⟨⟨bI (decide (n = z + 3) && alB (eq3 (drM 43 (ot, K, V, R) (z + 3)).2.1 (drM 43 (ot, K, V, R) (z + 3)).2.2.1 (drM 43 (ot, K, V, R) (z + 3)).2.2.2 (shf (drM 43 (ot, K, V, R) (z + 3)).2.1 43) (shf (drM 43 (ot, K, V, R) (z + 3)).2.2.1 43) (shf (drM 43 (ot, K, V, R) (z + 3)).2.2.2 43)) i), (), rfl, (by rw [show i = n by omega]), by rw [ht]; exact hP9, va_K.moved hW.alike hK9, hD9⟩, hS.F ht⟩) hS.2.2 d_M_same_139
          · skip
            have c_56 := (not_congr (nI_leI (by omega) (by omega))).mp c_56
            refine lv_iload hx hb d_M_same_59 (lv_at hl 1 rfl) ?_
            refine lv_if_eq (tgt := 128) hx hb d_M_same_61 (by decide) (fun c_61 => ?_) (fun c_61 => ?_)
            · skip
              have c_61 := bI_f c_61
              refine lv_iconst (v := nI 0) hx hb d_M_same_128 (by decide +kernel) ?_
              refine lv_topi (fun w_5 ew_5 => ?_)
              have ew_5 : (bI (decide (n = z + 3) && alB (eq3 (drM 43 (ot, K, V, R) (z + 3)).2.1 (drM 43 (ot, K, V, R) (z + 3)).2.2.1 (drM 43 (ot, K, V, R) (z + 3)).2.2.2 (shf (drM 43 (ot, K, V, R) (z + 3)).2.1 43) (shf (drM 43 (ot, K, V, R) (z + 3)).2.2.1 43) (shf (drM 43 (ot, K, V, R) (z + 3)).2.2.2 43)) (i + 1))) = w_5 := (ew_5.trans (by rw [alB_s, ← Bool.and_assoc]; first | (rw [c_61]; rfl) | (unfold eq3 shf; rw [decide_eq_false c_121, Bool.and_false, Bool.and_false, Bool.and_false]; rfl) | (unfold eq3 shf; rw [decide_eq_false c_101, Bool.false_and, Bool.and_false, Bool.and_false]; rfl) | (unfold eq3 shf; rw [decide_eq_false c_81, Bool.false_and, Bool.and_false]; rfl))).symm
              subst ew_5
              refine lv_istore (lv' := [(4, .int (bI (decide (n = z + 3) && alB (eq3 (drM 43 (ot, K, V, R) (z + 3)).2.1 (drM 43 (ot, K, V, R) (z + 3)).2.2.1 (drM 43 (ot, K, V, R) (z + 3)).2.2.2 (shf (drM 43 (ot, K, V, R) (z + 3)).2.1 43) (shf (drM 43 (ot, K, V, R) (z + 3)).2.2.1 43) (shf (drM 43 (ot, K, V, R) (z + 3)).2.2.2 43)) (i + 1)))), (0, .ref jm), (5, .int (nI i))]) hx hb d_M_same_129 hl (by decide) rfl (fun ls hl => ?_)
              refine lv_iinc (v := nI (i + 1)) (lv' := [(5, .int (nI (i + 1))), (4, .int (bI (decide (n = z + 3) && alB (eq3 (drM 43 (ot, K, V, R) (z + 3)).2.1 (drM 43 (ot, K, V, R) (z + 3)).2.2.1 (drM 43 (ot, K, V, R) (z + 3)).2.2.2 (shf (drM 43 (ot, K, V, R) (z + 3)).2.1 43) (shf (drM 43 (ot, K, V, R) (z + 3)).2.2.1 43) (shf (drM 43 (ot, K, V, R) (z + 3)).2.2.2 43)) (i + 1)))), (0, .ref jm)]) hx hb d_M_same_131 hl (k := 2) rfl (nI_1 _) (by decide) rfl (fun ls hl => ?_)
              refine lv_goto (tgt := 50) hx hb d_M_same_134 (by decide) ?_
              exact ih_50 (i + 1) (by omega) (by first | assumption | omega) ls (lv_sub (l' := [(0, .ref jm), (4, .int (bI (decide (n = z + 3) && alB (eq3 (drM 43 (ot, K, V, R) (z + 3)).2.1 (drM 43 (ot, K, V, R) (z + 3)).2.2.1 (drM 43 (ot, K, V, R) (z + 3)).2.2.2 (shf (drM 43 (ot, K, V, R) (z + 3)).2.1 43) (shf (drM 43 (ot, K, V, R) (z + 3)).2.2.1 43) (shf (drM 43 (ot, K, V, R) (z + 3)).2.2.2 43)) (i + 1)))), (5, .int (nI (i + 1)))]) hl [2, 1, 0] rfl)
            · skip
              have c_61 := bI_t c_61
              refine lv_aload_n hx hb d_M_same_64 rfl (lv_at hl 0 rfl) ?_
              refine va_get (D := (dC, dI)) (ci := 3) (v := .ref ik) (C := R_M) (T := F_M) (N := 10) hx hb hts (lay_M _) hown hK hP 0 rfl rfl 4 (by decide) (hts _ (List.mem_cons_of_mem _ m_340)) (fun _ h9 => h9) rfl d_M_same_65 ?_
              refine lv_iload hx hb d_M_same_68 (lv_at hl 2 rfl) ?_
              refine va_iald hx hb hK hP 1 0 rfl rfl (vp_in_nI (by omega) (by omega)) d_M_same_70 ?_
              refine lv_topi (fun w_6 ew_6 => ?_)
              rw [nI_clamp (by omega)] at ew_6
              have ew_6 := ew_6.symm
              subst ew_6
              refine lv_aload_n hx hb d_M_same_71 rfl (lv_at hl 0 rfl) ?_
              refine va_get (D := (dC, dI)) (ci := 3) (v := .ref ik) (C := R_M) (T := F_M) (N := 10) hx hb hts (lay_M _) hown hK hP 0 rfl rfl 4 (by decide) (hts _ (List.mem_cons_of_mem _ m_340)) (fun _ h9 => h9) rfl d_M_same_72 ?_
              refine lv_bipush (v := nI 43) hx hb d_M_same_75 (by decide +kernel) ?_
              refine lv_iload hx hb d_M_same_77 (lv_at hl 2 rfl) ?_
              refine lv_iadd hx hb d_M_same_79 ?_
              refine lv_topi (fun w_7 ew_7 => ?_)
              have ew_7 : (nI (43 + i)) = w_7 := (ew_7.trans (nI_add _ _)).symm
              subst ew_7
              refine va_iald hx hb hK hP 1 0 rfl rfl (vp_in_nI (by omega) (by omega)) d_M_same_80 ?_
              refine lv_topi (fun w_8 ew_8 => ?_)
              rw [nI_clamp (by omega)] at ew_8
              have ew_8 := ew_8.symm
              subst ew_8
              refine lv_icmp_ne (tgt := 128) hx hb d_M_same_81 (by decide) (fun c_81 => ?_) (fun c_81 => ?_)
              · skip
                refine lv_iconst (v := nI 0) hx hb d_M_same_128 (by decide +kernel) ?_
                refine lv_topi (fun w_9 ew_9 => ?_)
                have ew_9 : (bI (decide (n = z + 3) && alB (eq3 (drM 43 (ot, K, V, R) (z + 3)).2.1 (drM 43 (ot, K, V, R) (z + 3)).2.2.1 (drM 43 (ot, K, V, R) (z + 3)).2.2.2 (shf (drM 43 (ot, K, V, R) (z + 3)).2.1 43) (shf (drM 43 (ot, K, V, R) (z + 3)).2.2.1 43) (shf (drM 43 (ot, K, V, R) (z + 3)).2.2.2 43)) (i + 1))) = w_9 := (ew_9.trans (by rw [alB_s, ← Bool.and_assoc]; first | (rw [c_61]; rfl) | (unfold eq3 shf; rw [decide_eq_false c_121, Bool.and_false, Bool.and_false, Bool.and_false]; rfl) | (unfold eq3 shf; rw [decide_eq_false c_101, Bool.false_and, Bool.and_false, Bool.and_false]; rfl) | (unfold eq3 shf; rw [decide_eq_false c_81, Bool.false_and, Bool.and_false]; rfl))).symm
                subst ew_9
                refine lv_istore (lv' := [(4, .int (bI (decide (n = z + 3) && alB (eq3 (drM 43 (ot, K, V, R) (z + 3)).2.1 (drM 43 (ot, K, V, R) (z + 3)).2.2.1 (drM 43 (ot, K, V, R) (z + 3)).2.2.2 (shf (drM 43 (ot, K, V, R) (z + 3)).2.1 43) (shf (drM 43 (ot, K, V, R) (z + 3)).2.2.1 43) (shf (drM 43 (ot, K, V, R) (z + 3)).2.2.2 43)) (i + 1)))), (0, .ref jm), (5, .int (nI i))]) hx hb d_M_same_129 hl (by decide) rfl (fun ls hl => ?_)
                refine lv_iinc (v := nI (i + 1)) (lv' := [(5, .int (nI (i + 1))), (4, .int (bI (decide (n = z + 3) && alB (eq3 (drM 43 (ot, K, V, R) (z + 3)).2.1 (drM 43 (ot, K, V, R) (z + 3)).2.2.1 (drM 43 (ot, K, V, R) (z + 3)).2.2.2 (shf (drM 43 (ot, K, V, R) (z + 3)).2.1 43) (shf (drM 43 (ot, K, V, R) (z + 3)).2.2.1 43) (shf (drM 43 (ot, K, V, R) (z + 3)).2.2.2 43)) (i + 1)))), (0, .ref jm)]) hx hb d_M_same_131 hl (k := 2) rfl (nI_1 _) (by decide) rfl (fun ls hl => ?_)
                refine lv_goto (tgt := 50) hx hb d_M_same_134 (by decide) ?_
                exact ih_50 (i + 1) (by omega) (by first | assumption | omega) ls (lv_sub (l' := [(0, .ref jm), (4, .int (bI (decide (n = z + 3) && alB (eq3 (drM 43 (ot, K, V, R) (z + 3)).2.1 (drM 43 (ot, K, V, R) (z + 3)).2.2.1 (drM 43 (ot, K, V, R) (z + 3)).2.2.2 (shf (drM 43 (ot, K, V, R) (z + 3)).2.1 43) (shf (drM 43 (ot, K, V, R) (z + 3)).2.2.1 43) (shf (drM 43 (ot, K, V, R) (z + 3)).2.2.2 43)) (i + 1)))), (5, .int (nI (i + 1)))]) hl [2, 1, 0] rfl)
              · skip
                refine lv_aload_n hx hb d_M_same_84 rfl (lv_at hl 0 rfl) ?_
                refine va_get (D := (dC, dI)) (ci := 3) (v := .ref iv) (C := R_M) (T := F_M) (N := 10) hx hb hts (lay_M _) hown hK hP 0 rfl rfl 5 (by decide) (hts _ (List.mem_cons_of_mem _ m_341)) (fun _ h9 => h9) rfl d_M_same_85 ?_
                refine lv_iload hx hb d_M_same_88 (lv_at hl 2 rfl) ?_
                refine va_iald hx hb hK hP 2 1 rfl rfl (vp_in_nI (by omega) (by omega)) d_M_same_90 ?_
                refine lv_topi (fun w_10 ew_10 => ?_)
                rw [nI_clamp (by omega)] at ew_10
                have ew_10 := ew_10.symm
                subst ew_10
                refine lv_aload_n hx hb d_M_same_91 rfl (lv_at hl 0 rfl) ?_
                refine va_get (D := (dC, dI)) (ci := 3) (v := .ref iv) (C := R_M) (T := F_M) (N := 10) hx hb hts (lay_M _) hown hK hP 0 rfl rfl 5 (by decide) (hts _ (List.mem_cons_of_mem _ m_341)) (fun _ h9 => h9) rfl d_M_same_92 ?_
                refine lv_bipush (v := nI 43) hx hb d_M_same_95 (by decide +kernel) ?_
                refine lv_iload hx hb d_M_same_97 (lv_at hl 2 rfl) ?_
                refine lv_iadd hx hb d_M_same_99 ?_
                refine lv_topi (fun w_11 ew_11 => ?_)
                have ew_11 : (nI (43 + i)) = w_11 := (ew_11.trans (nI_add _ _)).symm
                subst ew_11
                refine va_iald hx hb hK hP 2 1 rfl rfl (vp_in_nI (by omega) (by omega)) d_M_same_100 ?_
                refine lv_topi (fun w_12 ew_12 => ?_)
                rw [nI_clamp (by omega)] at ew_12
                have ew_12 := ew_12.symm
                subst ew_12
                refine lv_icmp_ne (tgt := 128) hx hb d_M_same_101 (by decide) (fun c_101 => ?_) (fun c_101 => ?_)
                · skip
                  refine lv_iconst (v := nI 0) hx hb d_M_same_128 (by decide +kernel) ?_
                  refine lv_topi (fun w_13 ew_13 => ?_)
                  have ew_13 : (bI (decide (n = z + 3) && alB (eq3 (drM 43 (ot, K, V, R) (z + 3)).2.1 (drM 43 (ot, K, V, R) (z + 3)).2.2.1 (drM 43 (ot, K, V, R) (z + 3)).2.2.2 (shf (drM 43 (ot, K, V, R) (z + 3)).2.1 43) (shf (drM 43 (ot, K, V, R) (z + 3)).2.2.1 43) (shf (drM 43 (ot, K, V, R) (z + 3)).2.2.2 43)) (i + 1))) = w_13 := (ew_13.trans (by rw [alB_s, ← Bool.and_assoc]; first | (rw [c_61]; rfl) | (unfold eq3 shf; rw [decide_eq_false c_121, Bool.and_false, Bool.and_false, Bool.and_false]; rfl) | (unfold eq3 shf; rw [decide_eq_false c_101, Bool.false_and, Bool.and_false, Bool.and_false]; rfl) | (unfold eq3 shf; rw [decide_eq_false c_81, Bool.false_and, Bool.and_false]; rfl))).symm
                  subst ew_13
                  refine lv_istore (lv' := [(4, .int (bI (decide (n = z + 3) && alB (eq3 (drM 43 (ot, K, V, R) (z + 3)).2.1 (drM 43 (ot, K, V, R) (z + 3)).2.2.1 (drM 43 (ot, K, V, R) (z + 3)).2.2.2 (shf (drM 43 (ot, K, V, R) (z + 3)).2.1 43) (shf (drM 43 (ot, K, V, R) (z + 3)).2.2.1 43) (shf (drM 43 (ot, K, V, R) (z + 3)).2.2.2 43)) (i + 1)))), (0, .ref jm), (5, .int (nI i))]) hx hb d_M_same_129 hl (by decide) rfl (fun ls hl => ?_)
                  refine lv_iinc (v := nI (i + 1)) (lv' := [(5, .int (nI (i + 1))), (4, .int (bI (decide (n = z + 3) && alB (eq3 (drM 43 (ot, K, V, R) (z + 3)).2.1 (drM 43 (ot, K, V, R) (z + 3)).2.2.1 (drM 43 (ot, K, V, R) (z + 3)).2.2.2 (shf (drM 43 (ot, K, V, R) (z + 3)).2.1 43) (shf (drM 43 (ot, K, V, R) (z + 3)).2.2.1 43) (shf (drM 43 (ot, K, V, R) (z + 3)).2.2.2 43)) (i + 1)))), (0, .ref jm)]) hx hb d_M_same_131 hl (k := 2) rfl (nI_1 _) (by decide) rfl (fun ls hl => ?_)
                  refine lv_goto (tgt := 50) hx hb d_M_same_134 (by decide) ?_
                  exact ih_50 (i + 1) (by omega) (by first | assumption | omega) ls (lv_sub (l' := [(0, .ref jm), (4, .int (bI (decide (n = z + 3) && alB (eq3 (drM 43 (ot, K, V, R) (z + 3)).2.1 (drM 43 (ot, K, V, R) (z + 3)).2.2.1 (drM 43 (ot, K, V, R) (z + 3)).2.2.2 (shf (drM 43 (ot, K, V, R) (z + 3)).2.1 43) (shf (drM 43 (ot, K, V, R) (z + 3)).2.2.1 43) (shf (drM 43 (ot, K, V, R) (z + 3)).2.2.2 43)) (i + 1)))), (5, .int (nI (i + 1)))]) hl [2, 1, 0] rfl)
                · skip
                  refine lv_aload_n hx hb d_M_same_104 rfl (lv_at hl 0 rfl) ?_
                  refine va_get (D := (dC, dI)) (ci := 3) (v := .ref ir) (C := R_M) (T := F_M) (N := 10) hx hb hts (lay_M _) hown hK hP 0 rfl rfl 6 (by decide) (hts _ (List.mem_cons_of_mem _ m_342)) (fun _ h9 => h9) rfl d_M_same_105 ?_
                  refine lv_iload hx hb d_M_same_108 (lv_at hl 2 rfl) ?_
                  refine va_iald hx hb hK hP 3 2 rfl rfl (vp_in_nI (by omega) (by omega)) d_M_same_110 ?_
                  refine lv_topi (fun w_14 ew_14 => ?_)
                  rw [nI_clamp (by omega)] at ew_14
                  have ew_14 := ew_14.symm
                  subst ew_14
                  refine lv_aload_n hx hb d_M_same_111 rfl (lv_at hl 0 rfl) ?_
                  refine va_get (D := (dC, dI)) (ci := 3) (v := .ref ir) (C := R_M) (T := F_M) (N := 10) hx hb hts (lay_M _) hown hK hP 0 rfl rfl 6 (by decide) (hts _ (List.mem_cons_of_mem _ m_342)) (fun _ h9 => h9) rfl d_M_same_112 ?_
                  refine lv_bipush (v := nI 43) hx hb d_M_same_115 (by decide +kernel) ?_
                  refine lv_iload hx hb d_M_same_117 (lv_at hl 2 rfl) ?_
                  refine lv_iadd hx hb d_M_same_119 ?_
                  refine lv_topi (fun w_15 ew_15 => ?_)
                  have ew_15 : (nI (43 + i)) = w_15 := (ew_15.trans (nI_add _ _)).symm
                  subst ew_15
                  refine va_iald hx hb hK hP 3 2 rfl rfl (vp_in_nI (by omega) (by omega)) d_M_same_120 ?_
                  refine lv_topi (fun w_16 ew_16 => ?_)
                  rw [nI_clamp (by omega)] at ew_16
                  have ew_16 := ew_16.symm
                  subst ew_16
                  refine lv_icmp_ne (tgt := 128) hx hb d_M_same_121 (by decide) (fun c_121 => ?_) (fun c_121 => ?_)
                  · skip
                    refine lv_iconst (v := nI 0) hx hb d_M_same_128 (by decide +kernel) ?_
                    refine lv_topi (fun w_17 ew_17 => ?_)
                    have ew_17 : (bI (decide (n = z + 3) && alB (eq3 (drM 43 (ot, K, V, R) (z + 3)).2.1 (drM 43 (ot, K, V, R) (z + 3)).2.2.1 (drM 43 (ot, K, V, R) (z + 3)).2.2.2 (shf (drM 43 (ot, K, V, R) (z + 3)).2.1 43) (shf (drM 43 (ot, K, V, R) (z + 3)).2.2.1 43) (shf (drM 43 (ot, K, V, R) (z + 3)).2.2.2 43)) (i + 1))) = w_17 := (ew_17.trans (by rw [alB_s, ← Bool.and_assoc]; first | (rw [c_61]; rfl) | (unfold eq3 shf; rw [decide_eq_false c_121, Bool.and_false, Bool.and_false, Bool.and_false]; rfl) | (unfold eq3 shf; rw [decide_eq_false c_101, Bool.false_and, Bool.and_false, Bool.and_false]; rfl) | (unfold eq3 shf; rw [decide_eq_false c_81, Bool.false_and, Bool.and_false]; rfl))).symm
                    subst ew_17
                    refine lv_istore (lv' := [(4, .int (bI (decide (n = z + 3) && alB (eq3 (drM 43 (ot, K, V, R) (z + 3)).2.1 (drM 43 (ot, K, V, R) (z + 3)).2.2.1 (drM 43 (ot, K, V, R) (z + 3)).2.2.2 (shf (drM 43 (ot, K, V, R) (z + 3)).2.1 43) (shf (drM 43 (ot, K, V, R) (z + 3)).2.2.1 43) (shf (drM 43 (ot, K, V, R) (z + 3)).2.2.2 43)) (i + 1)))), (0, .ref jm), (5, .int (nI i))]) hx hb d_M_same_129 hl (by decide) rfl (fun ls hl => ?_)
                    refine lv_iinc (v := nI (i + 1)) (lv' := [(5, .int (nI (i + 1))), (4, .int (bI (decide (n = z + 3) && alB (eq3 (drM 43 (ot, K, V, R) (z + 3)).2.1 (drM 43 (ot, K, V, R) (z + 3)).2.2.1 (drM 43 (ot, K, V, R) (z + 3)).2.2.2 (shf (drM 43 (ot, K, V, R) (z + 3)).2.1 43) (shf (drM 43 (ot, K, V, R) (z + 3)).2.2.1 43) (shf (drM 43 (ot, K, V, R) (z + 3)).2.2.2 43)) (i + 1)))), (0, .ref jm)]) hx hb d_M_same_131 hl (k := 2) rfl (nI_1 _) (by decide) rfl (fun ls hl => ?_)
                    refine lv_goto (tgt := 50) hx hb d_M_same_134 (by decide) ?_
                    exact ih_50 (i + 1) (by omega) (by first | assumption | omega) ls (lv_sub (l' := [(0, .ref jm), (4, .int (bI (decide (n = z + 3) && alB (eq3 (drM 43 (ot, K, V, R) (z + 3)).2.1 (drM 43 (ot, K, V, R) (z + 3)).2.2.1 (drM 43 (ot, K, V, R) (z + 3)).2.2.2 (shf (drM 43 (ot, K, V, R) (z + 3)).2.1 43) (shf (drM 43 (ot, K, V, R) (z + 3)).2.2.1 43) (shf (drM 43 (ot, K, V, R) (z + 3)).2.2.2 43)) (i + 1)))), (5, .int (nI (i + 1)))]) hl [2, 1, 0] rfl)
                  · skip
                    refine lv_iconst (v := nI 1) hx hb d_M_same_124 (by decide +kernel) ?_
                    refine lv_topi (fun w_18 ew_18 => ?_)
                    have ew_18 : (bI (decide (n = z + 3) && alB (eq3 (drM 43 (ot, K, V, R) (z + 3)).2.1 (drM 43 (ot, K, V, R) (z + 3)).2.2.1 (drM 43 (ot, K, V, R) (z + 3)).2.2.2 (shf (drM 43 (ot, K, V, R) (z + 3)).2.1 43) (shf (drM 43 (ot, K, V, R) (z + 3)).2.2.1 43) (shf (drM 43 (ot, K, V, R) (z + 3)).2.2.2 43)) (i + 1))) = w_18 := (ew_18.trans (by rw [alB_s, ← Bool.and_assoc, c_61]; unfold eq3 shf; rw [decide_eq_true c_81, decide_eq_true c_101, decide_eq_true c_121]; rfl)).symm
                    subst ew_18
                    refine lv_goto (tgt := 129) hx hb d_M_same_125 (by decide) ?_
                    refine lv_istore (lv' := [(4, .int (bI (decide (n = z + 3) && alB (eq3 (drM 43 (ot, K, V, R) (z + 3)).2.1 (drM 43 (ot, K, V, R) (z + 3)).2.2.1 (drM 43 (ot, K, V, R) (z + 3)).2.2.2 (shf (drM 43 (ot, K, V, R) (z + 3)).2.1 43) (shf (drM 43 (ot, K, V, R) (z + 3)).2.2.1 43) (shf (drM 43 (ot, K, V, R) (z + 3)).2.2.2 43)) (i + 1)))), (0, .ref jm), (5, .int (nI i))]) hx hb d_M_same_129 hl (by decide) rfl (fun ls hl => ?_)
                    refine lv_iinc (v := nI (i + 1)) (lv' := [(5, .int (nI (i + 1))), (4, .int (bI (decide (n = z + 3) && alB (eq3 (drM 43 (ot, K, V, R) (z + 3)).2.1 (drM 43 (ot, K, V, R) (z + 3)).2.2.1 (drM 43 (ot, K, V, R) (z + 3)).2.2.2 (shf (drM 43 (ot, K, V, R) (z + 3)).2.1 43) (shf (drM 43 (ot, K, V, R) (z + 3)).2.2.1 43) (shf (drM 43 (ot, K, V, R) (z + 3)).2.2.2 43)) (i + 1)))), (0, .ref jm)]) hx hb d_M_same_131 hl (k := 2) rfl (nI_1 _) (by decide) rfl (fun ls hl => ?_)
                    refine lv_goto (tgt := 50) hx hb d_M_same_134 (by decide) ?_
                    exact ih_50 (i + 1) (by omega) (by first | assumption | omega) ls (lv_sub (l' := [(0, .ref jm), (4, .int (bI (decide (n = z + 3) && alB (eq3 (drM 43 (ot, K, V, R) (z + 3)).2.1 (drM 43 (ot, K, V, R) (z + 3)).2.2.1 (drM 43 (ot, K, V, R) (z + 3)).2.2.2 (shf (drM 43 (ot, K, V, R) (z + 3)).2.1 43) (shf (drM 43 (ot, K, V, R) (z + 3)).2.2.1 43) (shf (drM 43 (ot, K, V, R) (z + 3)).2.2.2 43)) (i + 1)))), (5, .int (nI (i + 1)))]) hl [2, 1, 0] rfl)
      exact lp_50 ((n - 0) + 1) 0 (by omega) (by first | assumption | omega) ls (lv_sub (l' := [(0, .ref jm), (4, .int (bI (decide (n = z + 3) && alB (eq3 (drM 43 (ot, K, V, R) (z + 3)).2.1 (drM 43 (ot, K, V, R) (z + 3)).2.2.1 (drM 43 (ot, K, V, R) (z + 3)).2.2.2 (shf (drM 43 (ot, K, V, R) (z + 3)).2.1 43) (shf (drM 43 (ot, K, V, R) (z + 3)).2.2.1 43) (shf (drM 43 (ot, K, V, R) (z + 3)).2.2.2 43)) 0))), (5, .int (nI 0))]) hl [2, 1, 0] rfl)
    · skip
      have c_37 := (nI_eq (by omega) (by omega)).mp c_37
      refine lv_iconst (v := nI 1) hx hb d_M_same_40 (by decide +kernel) ?_
      refine lv_topi (fun w_19 ew_19 => ?_)
      have ew_19 : (bI (decide (n = z + 3) && alB (eq3 (drM 43 (ot, K, V, R) (z + 3)).2.1 (drM 43 (ot, K, V, R) (z + 3)).2.2.1 (drM 43 (ot, K, V, R) (z + 3)).2.2.2 (shf (drM 43 (ot, K, V, R) (z + 3)).2.1 43) (shf (drM 43 (ot, K, V, R) (z + 3)).2.2.1 43) (shf (drM 43 (ot, K, V, R) (z + 3)).2.2.2 43)) 0)) = w_19 := (ew_19.trans (by rw [decide_eq_true c_37]; rfl)).symm
      subst ew_19
      refine lv_goto (tgt := 45) hx hb d_M_same_41 (by decide) ?_
      refine lv_istore (lv' := [(4, .int (bI (decide (n = z + 3) && alB (eq3 (drM 43 (ot, K, V, R) (z + 3)).2.1 (drM 43 (ot, K, V, R) (z + 3)).2.2.1 (drM 43 (ot, K, V, R) (z + 3)).2.2.2 (shf (drM 43 (ot, K, V, R) (z + 3)).2.1 43) (shf (drM 43 (ot, K, V, R) (z + 3)).2.2.1 43) (shf (drM 43 (ot, K, V, R) (z + 3)).2.2.2 43)) 0))), (0, .ref jm), (1, .long ot), (3, .int (nI z))]) hx hb d_M_same_45 hl (by decide) rfl (fun ls hl => ?_)
      refine lv_iconst (v := nI 0) hx hb d_M_same_47 (by decide +kernel) ?_
      refine lv_istore (lv' := [(5, .int (nI 0)), (4, .int (bI (decide (n = z + 3) && alB (eq3 (drM 43 (ot, K, V, R) (z + 3)).2.1 (drM 43 (ot, K, V, R) (z + 3)).2.2.1 (drM 43 (ot, K, V, R) (z + 3)).2.2.2 (shf (drM 43 (ot, K, V, R) (z + 3)).2.1 43) (shf (drM 43 (ot, K, V, R) (z + 3)).2.2.1 43) (shf (drM 43 (ot, K, V, R) (z + 3)).2.2.2 43)) 0))), (0, .ref jm), (1, .long ot), (3, .int (nI z))]) hx hb d_M_same_48 hl (by decide) rfl (fun ls hl => ?_)
      have lp_50 : ∀ (k9_50 : Nat), ∀ (i : Nat), n - i < k9_50 → (i ≤ n) → ∀ (ls : Array Slot), lv_has ls 6 [(0, .ref jm), (4, .int (bI (decide (n = z + 3) && alB (eq3 (drM 43 (ot, K, V, R) (z + 3)).2.1 (drM 43 (ot, K, V, R) (z + 3)).2.2.1 (drM 43 (ot, K, V, R) (z + 3)).2.2.2 (shf (drM 43 (ot, K, V, R) (z + 3)).2.1 43) (shf (drM 43 (ot, K, V, R) (z + 3)).2.2.1 43) (shf (drM 43 (ot, K, V, R) (z + 3)).2.2.2 43)) i))), (5, .int (nI i))] → W p l e (headSpec w_M_same ({ frames := 3, cells := 0, slots := 0, locals := 74 })).room s m ([.ref jm, .long ot, .int (nI z)]).toArray below meth c H locs 0 0 (MQ below (va_Qi (fun (r : Int32) (_ : Unit) => r = bI (decide (n = z + 3) && alB (eq3 (drM 43 (ot, K, V, R) (z + 3)).2.1 (drM 43 (ot, K, V, R) (z + 3)).2.2.1 (drM 43 (ot, K, V, R) (z + 3)).2.2.2 (shf (drM 43 (ot, K, V, R) (z + 3)).2.1 43) (shf (drM 43 (ot, K, V, R) (z + 3)).2.2.1 43) (shf (drM 43 (ot, K, V, R) (z + 3)).2.2.2 43)) n)) (fun (u : Unit) => wr_B dC dI (A) [(jm, .inr (3, [.int (nI 0), .long sd, .long ((drM 43 (ot, K, V, R) (z + 3)).1), .int (nI n), .ref ik, .ref iv, .ref ir, .ref il, .ref iy, .ref ig])), (ik, .inl (dk, 86, .inl ((drM 43 (ot, K, V, R) (z + 3)).2.1))), (iv, .inl (dv, 86, .inl ((drM 43 (ot, K, V, R) (z + 3)).2.2.1))), (ir, .inl (dr, 86, .inl ((drM 43 (ot, K, V, R) (z + 3)).2.2.2)))] [(dk, .int), (dv, .int), (dr, .int)]) (A)) ([.ref jm, .long ot, .int (nI z)]).toArray s 0 0 A) (F0 m 50 ls []) := by
        intro k9_50
        induction k9_50 with
        | zero =>
          intro i hk9
          exact absurd hk9 (Nat.not_lt_zero _)
        | succ k9_50 ih_50 =>
          intro i hk9_50 hi ls hl
          refine lv_iload hx hb d_M_same_50 (lv_at hl 2 rfl) ?_
          refine lv_aload_n hx hb d_M_same_52 rfl (lv_at hl 0 rfl) ?_
          refine va_get (D := (dC, dI)) (ci := 3) (v := .int (nI n)) (C := R_M) (T := F_M) (N := 10) hx hb hts (lay_M _) hown hK hP 0 rfl rfl 3 (by decide) (hts _ (List.mem_cons_of_mem _ m_339)) (fun _ h9 => h9) rfl d_M_same_53 ?_
          refine lv_icmp_ge (tgt := 137) hx hb d_M_same_56 (by decide) (fun c_56 => ?_) (fun c_56 => ?_)
          · skip
            have c_56 := (nI_leI (by omega) (by omega)).mp c_56
            refine lv_iload hx hb d_M_same_137 (lv_at hl 1 rfl) ?_
            have hP9 := hP.sub (ws' := [(jm, .inr (3, [.int (nI 0), .long sd, .long ((drM 43 (ot, K, V, R) (z + 3)).1), .int (nI n), .ref ik, .ref iv, .ref ir, .ref il, .ref iy, .ref ig])), (ik, .inl (dk, 86, .inl ((drM 43 (ot, K, V, R) (z + 3)).2.1))), (iv, .inl (dv, 86, .inl ((drM 43 (ot, K, V, R) (z + 3)).2.2.1))), (ir, .inl (dr, 86, .inl ((drM 43 (ot, K, V, R) (z + 3)).2.2.2)))]) [0, 1, 2, 3] rfl
            have hD9 := hD.sub (ws' := [(jm, .inr (3, [.int (nI 0), .long sd, .long ((drM 43 (ot, K, V, R) (z + 3)).1), .int (nI n), .ref ik, .ref iv, .ref ir, .ref il, .ref iy, .ref ig])), (ik, .inl (dk, 86, .inl ((drM 43 (ot, K, V, R) (z + 3)).2.1))), (iv, .inl (dv, 86, .inl ((drM 43 (ot, K, V, R) (z + 3)).2.2.1))), (ir, .inl (dr, 86, .inl ((drM 43 (ot, K, V, R) (z + 3)).2.2.2)))]) [0, 1, 2, 3] (by decide) rfl
            have hK9 := hK.sub (tys' := [(dk, .int), (dv, .int), (dr, .int)]) [0, 1, 2] rfl
            exact W.zret (v := bI (decide (n = z + 3) && alB (eq3 (drM 43 (ot, K, V, R) (z + 3)).2.1 (drM 43 (ot, K, V, R) (z + 3)).2.2.1 (drM 43 (ot, K, V, R) (z + 3)).2.2.2 (shf (drM 43 (ot, K, V, R) (z + 3)).2.1 43) (shf (drM 43 (ot, K, V, R) (z + 3)).2.2.1 43) (shf (drM 43 (ot, K, V, R) (z + 3)).2.2.2 43)) i)) (ty := .boolean) hx hb hr (bI_nar _) (fun t ht hW => ⟨⟨bI (decide (n = z + 3) && alB (eq3 (drM 43 (ot, K, V, R) (z + 3)).2.1 (drM 43 (ot, K, V, R) (z + 3)).2.2.1 (drM 43 (ot, K, V, R) (z + 3)).2.2.2 (shf (drM 43 (ot, K, V, R) (z + 3)).2.1 43) (shf (drM 43 (ot, K, V, R) (z + 3)).2.2.1 43) (shf (drM 43 (ot, K, V, R) (z + 3)).2.2.2 43)) i), (), rfl, (by rw [show i = n by omega]), by rw [ht]; exact hP9, va_K.moved hW.alike hK9, hD9⟩, hS.F ht⟩) hS.2.2 d_M_same_139
          · skip
            have c_56 := (not_congr (nI_leI (by omega) (by omega))).mp c_56
            refine lv_iload hx hb d_M_same_59 (lv_at hl 1 rfl) ?_
            refine lv_if_eq (tgt := 128) hx hb d_M_same_61 (by decide) (fun c_61 => ?_) (fun c_61 => ?_)
            · skip
              have c_61 := bI_f c_61
              refine lv_iconst (v := nI 0) hx hb d_M_same_128 (by decide +kernel) ?_
              refine lv_topi (fun w_20 ew_20 => ?_)
              have ew_20 : (bI (decide (n = z + 3) && alB (eq3 (drM 43 (ot, K, V, R) (z + 3)).2.1 (drM 43 (ot, K, V, R) (z + 3)).2.2.1 (drM 43 (ot, K, V, R) (z + 3)).2.2.2 (shf (drM 43 (ot, K, V, R) (z + 3)).2.1 43) (shf (drM 43 (ot, K, V, R) (z + 3)).2.2.1 43) (shf (drM 43 (ot, K, V, R) (z + 3)).2.2.2 43)) (i + 1))) = w_20 := (ew_20.trans (by rw [alB_s, ← Bool.and_assoc]; first | (rw [c_61]; rfl) | (unfold eq3 shf; rw [decide_eq_false c_121, Bool.and_false, Bool.and_false, Bool.and_false]; rfl) | (unfold eq3 shf; rw [decide_eq_false c_101, Bool.false_and, Bool.and_false, Bool.and_false]; rfl) | (unfold eq3 shf; rw [decide_eq_false c_81, Bool.false_and, Bool.and_false]; rfl))).symm
              subst ew_20
              refine lv_istore (lv' := [(4, .int (bI (decide (n = z + 3) && alB (eq3 (drM 43 (ot, K, V, R) (z + 3)).2.1 (drM 43 (ot, K, V, R) (z + 3)).2.2.1 (drM 43 (ot, K, V, R) (z + 3)).2.2.2 (shf (drM 43 (ot, K, V, R) (z + 3)).2.1 43) (shf (drM 43 (ot, K, V, R) (z + 3)).2.2.1 43) (shf (drM 43 (ot, K, V, R) (z + 3)).2.2.2 43)) (i + 1)))), (0, .ref jm), (5, .int (nI i))]) hx hb d_M_same_129 hl (by decide) rfl (fun ls hl => ?_)
              refine lv_iinc (v := nI (i + 1)) (lv' := [(5, .int (nI (i + 1))), (4, .int (bI (decide (n = z + 3) && alB (eq3 (drM 43 (ot, K, V, R) (z + 3)).2.1 (drM 43 (ot, K, V, R) (z + 3)).2.2.1 (drM 43 (ot, K, V, R) (z + 3)).2.2.2 (shf (drM 43 (ot, K, V, R) (z + 3)).2.1 43) (shf (drM 43 (ot, K, V, R) (z + 3)).2.2.1 43) (shf (drM 43 (ot, K, V, R) (z + 3)).2.2.2 43)) (i + 1)))), (0, .ref jm)]) hx hb d_M_same_131 hl (k := 2) rfl (nI_1 _) (by decide) rfl (fun ls hl => ?_)
              refine lv_goto (tgt := 50) hx hb d_M_same_134 (by decide) ?_
              exact ih_50 (i + 1) (by omega) (by first | assumption | omega) ls (lv_sub (l' := [(0, .ref jm), (4, .int (bI (decide (n = z + 3) && alB (eq3 (drM 43 (ot, K, V, R) (z + 3)).2.1 (drM 43 (ot, K, V, R) (z + 3)).2.2.1 (drM 43 (ot, K, V, R) (z + 3)).2.2.2 (shf (drM 43 (ot, K, V, R) (z + 3)).2.1 43) (shf (drM 43 (ot, K, V, R) (z + 3)).2.2.1 43) (shf (drM 43 (ot, K, V, R) (z + 3)).2.2.2 43)) (i + 1)))), (5, .int (nI (i + 1)))]) hl [2, 1, 0] rfl)
            · skip
              have c_61 := bI_t c_61
              refine lv_aload_n hx hb d_M_same_64 rfl (lv_at hl 0 rfl) ?_
              refine va_get (D := (dC, dI)) (ci := 3) (v := .ref ik) (C := R_M) (T := F_M) (N := 10) hx hb hts (lay_M _) hown hK hP 0 rfl rfl 4 (by decide) (hts _ (List.mem_cons_of_mem _ m_340)) (fun _ h9 => h9) rfl d_M_same_65 ?_
              refine lv_iload hx hb d_M_same_68 (lv_at hl 2 rfl) ?_
              refine va_iald hx hb hK hP 1 0 rfl rfl (vp_in_nI (by omega) (by omega)) d_M_same_70 ?_
              refine lv_topi (fun w_21 ew_21 => ?_)
              rw [nI_clamp (by omega)] at ew_21
              have ew_21 := ew_21.symm
              subst ew_21
              refine lv_aload_n hx hb d_M_same_71 rfl (lv_at hl 0 rfl) ?_
              refine va_get (D := (dC, dI)) (ci := 3) (v := .ref ik) (C := R_M) (T := F_M) (N := 10) hx hb hts (lay_M _) hown hK hP 0 rfl rfl 4 (by decide) (hts _ (List.mem_cons_of_mem _ m_340)) (fun _ h9 => h9) rfl d_M_same_72 ?_
              refine lv_bipush (v := nI 43) hx hb d_M_same_75 (by decide +kernel) ?_
              refine lv_iload hx hb d_M_same_77 (lv_at hl 2 rfl) ?_
              refine lv_iadd hx hb d_M_same_79 ?_
              refine lv_topi (fun w_22 ew_22 => ?_)
              have ew_22 : (nI (43 + i)) = w_22 := (ew_22.trans (nI_add _ _)).symm
              subst ew_22
              refine va_iald hx hb hK hP 1 0 rfl rfl (vp_in_nI (by omega) (by omega)) d_M_same_80 ?_
              refine lv_topi (fun w_23 ew_23 => ?_)
              rw [nI_clamp (by omega)] at ew_23
              have ew_23 := ew_23.symm
              subst ew_23
              refine lv_icmp_ne (tgt := 128) hx hb d_M_same_81 (by decide) (fun c_81 => ?_) (fun c_81 => ?_)
              · skip
                refine lv_iconst (v := nI 0) hx hb d_M_same_128 (by decide +kernel) ?_
                refine lv_topi (fun w_24 ew_24 => ?_)
                have ew_24 : (bI (decide (n = z + 3) && alB (eq3 (drM 43 (ot, K, V, R) (z + 3)).2.1 (drM 43 (ot, K, V, R) (z + 3)).2.2.1 (drM 43 (ot, K, V, R) (z + 3)).2.2.2 (shf (drM 43 (ot, K, V, R) (z + 3)).2.1 43) (shf (drM 43 (ot, K, V, R) (z + 3)).2.2.1 43) (shf (drM 43 (ot, K, V, R) (z + 3)).2.2.2 43)) (i + 1))) = w_24 := (ew_24.trans (by rw [alB_s, ← Bool.and_assoc]; first | (rw [c_61]; rfl) | (unfold eq3 shf; rw [decide_eq_false c_121, Bool.and_false, Bool.and_false, Bool.and_false]; rfl) | (unfold eq3 shf; rw [decide_eq_false c_101, Bool.false_and, Bool.and_false, Bool.and_false]; rfl) | (unfold eq3 shf; rw [decide_eq_false c_81, Bool.false_and, Bool.and_false]; rfl))).symm
                subst ew_24
                refine lv_istore (lv' := [(4, .int (bI (decide (n = z + 3) && alB (eq3 (drM 43 (ot, K, V, R) (z + 3)).2.1 (drM 43 (ot, K, V, R) (z + 3)).2.2.1 (drM 43 (ot, K, V, R) (z + 3)).2.2.2 (shf (drM 43 (ot, K, V, R) (z + 3)).2.1 43) (shf (drM 43 (ot, K, V, R) (z + 3)).2.2.1 43) (shf (drM 43 (ot, K, V, R) (z + 3)).2.2.2 43)) (i + 1)))), (0, .ref jm), (5, .int (nI i))]) hx hb d_M_same_129 hl (by decide) rfl (fun ls hl => ?_)
                refine lv_iinc (v := nI (i + 1)) (lv' := [(5, .int (nI (i + 1))), (4, .int (bI (decide (n = z + 3) && alB (eq3 (drM 43 (ot, K, V, R) (z + 3)).2.1 (drM 43 (ot, K, V, R) (z + 3)).2.2.1 (drM 43 (ot, K, V, R) (z + 3)).2.2.2 (shf (drM 43 (ot, K, V, R) (z + 3)).2.1 43) (shf (drM 43 (ot, K, V, R) (z + 3)).2.2.1 43) (shf (drM 43 (ot, K, V, R) (z + 3)).2.2.2 43)) (i + 1)))), (0, .ref jm)]) hx hb d_M_same_131 hl (k := 2) rfl (nI_1 _) (by decide) rfl (fun ls hl => ?_)
                refine lv_goto (tgt := 50) hx hb d_M_same_134 (by decide) ?_
                exact ih_50 (i + 1) (by omega) (by first | assumption | omega) ls (lv_sub (l' := [(0, .ref jm), (4, .int (bI (decide (n = z + 3) && alB (eq3 (drM 43 (ot, K, V, R) (z + 3)).2.1 (drM 43 (ot, K, V, R) (z + 3)).2.2.1 (drM 43 (ot, K, V, R) (z + 3)).2.2.2 (shf (drM 43 (ot, K, V, R) (z + 3)).2.1 43) (shf (drM 43 (ot, K, V, R) (z + 3)).2.2.1 43) (shf (drM 43 (ot, K, V, R) (z + 3)).2.2.2 43)) (i + 1)))), (5, .int (nI (i + 1)))]) hl [2, 1, 0] rfl)
              · skip
                refine lv_aload_n hx hb d_M_same_84 rfl (lv_at hl 0 rfl) ?_
                refine va_get (D := (dC, dI)) (ci := 3) (v := .ref iv) (C := R_M) (T := F_M) (N := 10) hx hb hts (lay_M _) hown hK hP 0 rfl rfl 5 (by decide) (hts _ (List.mem_cons_of_mem _ m_341)) (fun _ h9 => h9) rfl d_M_same_85 ?_
                refine lv_iload hx hb d_M_same_88 (lv_at hl 2 rfl) ?_
                refine va_iald hx hb hK hP 2 1 rfl rfl (vp_in_nI (by omega) (by omega)) d_M_same_90 ?_
                refine lv_topi (fun w_25 ew_25 => ?_)
                rw [nI_clamp (by omega)] at ew_25
                have ew_25 := ew_25.symm
                subst ew_25
                refine lv_aload_n hx hb d_M_same_91 rfl (lv_at hl 0 rfl) ?_
                refine va_get (D := (dC, dI)) (ci := 3) (v := .ref iv) (C := R_M) (T := F_M) (N := 10) hx hb hts (lay_M _) hown hK hP 0 rfl rfl 5 (by decide) (hts _ (List.mem_cons_of_mem _ m_341)) (fun _ h9 => h9) rfl d_M_same_92 ?_
                refine lv_bipush (v := nI 43) hx hb d_M_same_95 (by decide +kernel) ?_
                refine lv_iload hx hb d_M_same_97 (lv_at hl 2 rfl) ?_
                refine lv_iadd hx hb d_M_same_99 ?_
                refine lv_topi (fun w_26 ew_26 => ?_)
                have ew_26 : (nI (43 + i)) = w_26 := (ew_26.trans (nI_add _ _)).symm
                subst ew_26
                refine va_iald hx hb hK hP 2 1 rfl rfl (vp_in_nI (by omega) (by omega)) d_M_same_100 ?_
                refine lv_topi (fun w_27 ew_27 => ?_)
                rw [nI_clamp (by omega)] at ew_27
                have ew_27 := ew_27.symm
                subst ew_27
                refine lv_icmp_ne (tgt := 128) hx hb d_M_same_101 (by decide) (fun c_101 => ?_) (fun c_101 => ?_)
                · skip
                  refine lv_iconst (v := nI 0) hx hb d_M_same_128 (by decide +kernel) ?_
                  refine lv_topi (fun w_28 ew_28 => ?_)
                  have ew_28 : (bI (decide (n = z + 3) && alB (eq3 (drM 43 (ot, K, V, R) (z + 3)).2.1 (drM 43 (ot, K, V, R) (z + 3)).2.2.1 (drM 43 (ot, K, V, R) (z + 3)).2.2.2 (shf (drM 43 (ot, K, V, R) (z + 3)).2.1 43) (shf (drM 43 (ot, K, V, R) (z + 3)).2.2.1 43) (shf (drM 43 (ot, K, V, R) (z + 3)).2.2.2 43)) (i + 1))) = w_28 := (ew_28.trans (by rw [alB_s, ← Bool.and_assoc]; first | (rw [c_61]; rfl) | (unfold eq3 shf; rw [decide_eq_false c_121, Bool.and_false, Bool.and_false, Bool.and_false]; rfl) | (unfold eq3 shf; rw [decide_eq_false c_101, Bool.false_and, Bool.and_false, Bool.and_false]; rfl) | (unfold eq3 shf; rw [decide_eq_false c_81, Bool.false_and, Bool.and_false]; rfl))).symm
                  subst ew_28
                  refine lv_istore (lv' := [(4, .int (bI (decide (n = z + 3) && alB (eq3 (drM 43 (ot, K, V, R) (z + 3)).2.1 (drM 43 (ot, K, V, R) (z + 3)).2.2.1 (drM 43 (ot, K, V, R) (z + 3)).2.2.2 (shf (drM 43 (ot, K, V, R) (z + 3)).2.1 43) (shf (drM 43 (ot, K, V, R) (z + 3)).2.2.1 43) (shf (drM 43 (ot, K, V, R) (z + 3)).2.2.2 43)) (i + 1)))), (0, .ref jm), (5, .int (nI i))]) hx hb d_M_same_129 hl (by decide) rfl (fun ls hl => ?_)
                  refine lv_iinc (v := nI (i + 1)) (lv' := [(5, .int (nI (i + 1))), (4, .int (bI (decide (n = z + 3) && alB (eq3 (drM 43 (ot, K, V, R) (z + 3)).2.1 (drM 43 (ot, K, V, R) (z + 3)).2.2.1 (drM 43 (ot, K, V, R) (z + 3)).2.2.2 (shf (drM 43 (ot, K, V, R) (z + 3)).2.1 43) (shf (drM 43 (ot, K, V, R) (z + 3)).2.2.1 43) (shf (drM 43 (ot, K, V, R) (z + 3)).2.2.2 43)) (i + 1)))), (0, .ref jm)]) hx hb d_M_same_131 hl (k := 2) rfl (nI_1 _) (by decide) rfl (fun ls hl => ?_)
                  refine lv_goto (tgt := 50) hx hb d_M_same_134 (by decide) ?_
                  exact ih_50 (i + 1) (by omega) (by first | assumption | omega) ls (lv_sub (l' := [(0, .ref jm), (4, .int (bI (decide (n = z + 3) && alB (eq3 (drM 43 (ot, K, V, R) (z + 3)).2.1 (drM 43 (ot, K, V, R) (z + 3)).2.2.1 (drM 43 (ot, K, V, R) (z + 3)).2.2.2 (shf (drM 43 (ot, K, V, R) (z + 3)).2.1 43) (shf (drM 43 (ot, K, V, R) (z + 3)).2.2.1 43) (shf (drM 43 (ot, K, V, R) (z + 3)).2.2.2 43)) (i + 1)))), (5, .int (nI (i + 1)))]) hl [2, 1, 0] rfl)
                · skip
                  refine lv_aload_n hx hb d_M_same_104 rfl (lv_at hl 0 rfl) ?_
                  refine va_get (D := (dC, dI)) (ci := 3) (v := .ref ir) (C := R_M) (T := F_M) (N := 10) hx hb hts (lay_M _) hown hK hP 0 rfl rfl 6 (by decide) (hts _ (List.mem_cons_of_mem _ m_342)) (fun _ h9 => h9) rfl d_M_same_105 ?_
                  refine lv_iload hx hb d_M_same_108 (lv_at hl 2 rfl) ?_
                  refine va_iald hx hb hK hP 3 2 rfl rfl (vp_in_nI (by omega) (by omega)) d_M_same_110 ?_
                  refine lv_topi (fun w_29 ew_29 => ?_)
                  rw [nI_clamp (by omega)] at ew_29
                  have ew_29 := ew_29.symm
                  subst ew_29
                  refine lv_aload_n hx hb d_M_same_111 rfl (lv_at hl 0 rfl) ?_
                  refine va_get (D := (dC, dI)) (ci := 3) (v := .ref ir) (C := R_M) (T := F_M) (N := 10) hx hb hts (lay_M _) hown hK hP 0 rfl rfl 6 (by decide) (hts _ (List.mem_cons_of_mem _ m_342)) (fun _ h9 => h9) rfl d_M_same_112 ?_
                  refine lv_bipush (v := nI 43) hx hb d_M_same_115 (by decide +kernel) ?_
                  refine lv_iload hx hb d_M_same_117 (lv_at hl 2 rfl) ?_
                  refine lv_iadd hx hb d_M_same_119 ?_
                  refine lv_topi (fun w_30 ew_30 => ?_)
                  have ew_30 : (nI (43 + i)) = w_30 := (ew_30.trans (nI_add _ _)).symm
                  subst ew_30
                  refine va_iald hx hb hK hP 3 2 rfl rfl (vp_in_nI (by omega) (by omega)) d_M_same_120 ?_
                  refine lv_topi (fun w_31 ew_31 => ?_)
                  rw [nI_clamp (by omega)] at ew_31
                  have ew_31 := ew_31.symm
                  subst ew_31
                  refine lv_icmp_ne (tgt := 128) hx hb d_M_same_121 (by decide) (fun c_121 => ?_) (fun c_121 => ?_)
                  · skip
                    refine lv_iconst (v := nI 0) hx hb d_M_same_128 (by decide +kernel) ?_
                    refine lv_topi (fun w_32 ew_32 => ?_)
                    have ew_32 : (bI (decide (n = z + 3) && alB (eq3 (drM 43 (ot, K, V, R) (z + 3)).2.1 (drM 43 (ot, K, V, R) (z + 3)).2.2.1 (drM 43 (ot, K, V, R) (z + 3)).2.2.2 (shf (drM 43 (ot, K, V, R) (z + 3)).2.1 43) (shf (drM 43 (ot, K, V, R) (z + 3)).2.2.1 43) (shf (drM 43 (ot, K, V, R) (z + 3)).2.2.2 43)) (i + 1))) = w_32 := (ew_32.trans (by rw [alB_s, ← Bool.and_assoc]; first | (rw [c_61]; rfl) | (unfold eq3 shf; rw [decide_eq_false c_121, Bool.and_false, Bool.and_false, Bool.and_false]; rfl) | (unfold eq3 shf; rw [decide_eq_false c_101, Bool.false_and, Bool.and_false, Bool.and_false]; rfl) | (unfold eq3 shf; rw [decide_eq_false c_81, Bool.false_and, Bool.and_false]; rfl))).symm
                    subst ew_32
                    refine lv_istore (lv' := [(4, .int (bI (decide (n = z + 3) && alB (eq3 (drM 43 (ot, K, V, R) (z + 3)).2.1 (drM 43 (ot, K, V, R) (z + 3)).2.2.1 (drM 43 (ot, K, V, R) (z + 3)).2.2.2 (shf (drM 43 (ot, K, V, R) (z + 3)).2.1 43) (shf (drM 43 (ot, K, V, R) (z + 3)).2.2.1 43) (shf (drM 43 (ot, K, V, R) (z + 3)).2.2.2 43)) (i + 1)))), (0, .ref jm), (5, .int (nI i))]) hx hb d_M_same_129 hl (by decide) rfl (fun ls hl => ?_)
                    refine lv_iinc (v := nI (i + 1)) (lv' := [(5, .int (nI (i + 1))), (4, .int (bI (decide (n = z + 3) && alB (eq3 (drM 43 (ot, K, V, R) (z + 3)).2.1 (drM 43 (ot, K, V, R) (z + 3)).2.2.1 (drM 43 (ot, K, V, R) (z + 3)).2.2.2 (shf (drM 43 (ot, K, V, R) (z + 3)).2.1 43) (shf (drM 43 (ot, K, V, R) (z + 3)).2.2.1 43) (shf (drM 43 (ot, K, V, R) (z + 3)).2.2.2 43)) (i + 1)))), (0, .ref jm)]) hx hb d_M_same_131 hl (k := 2) rfl (nI_1 _) (by decide) rfl (fun ls hl => ?_)
                    refine lv_goto (tgt := 50) hx hb d_M_same_134 (by decide) ?_
                    exact ih_50 (i + 1) (by omega) (by first | assumption | omega) ls (lv_sub (l' := [(0, .ref jm), (4, .int (bI (decide (n = z + 3) && alB (eq3 (drM 43 (ot, K, V, R) (z + 3)).2.1 (drM 43 (ot, K, V, R) (z + 3)).2.2.1 (drM 43 (ot, K, V, R) (z + 3)).2.2.2 (shf (drM 43 (ot, K, V, R) (z + 3)).2.1 43) (shf (drM 43 (ot, K, V, R) (z + 3)).2.2.1 43) (shf (drM 43 (ot, K, V, R) (z + 3)).2.2.2 43)) (i + 1)))), (5, .int (nI (i + 1)))]) hl [2, 1, 0] rfl)
                  · skip
                    refine lv_iconst (v := nI 1) hx hb d_M_same_124 (by decide +kernel) ?_
                    refine lv_topi (fun w_33 ew_33 => ?_)
                    have ew_33 : (bI (decide (n = z + 3) && alB (eq3 (drM 43 (ot, K, V, R) (z + 3)).2.1 (drM 43 (ot, K, V, R) (z + 3)).2.2.1 (drM 43 (ot, K, V, R) (z + 3)).2.2.2 (shf (drM 43 (ot, K, V, R) (z + 3)).2.1 43) (shf (drM 43 (ot, K, V, R) (z + 3)).2.2.1 43) (shf (drM 43 (ot, K, V, R) (z + 3)).2.2.2 43)) (i + 1))) = w_33 := (ew_33.trans (by rw [alB_s, ← Bool.and_assoc, c_61]; unfold eq3 shf; rw [decide_eq_true c_81, decide_eq_true c_101, decide_eq_true c_121]; rfl)).symm
                    subst ew_33
                    refine lv_goto (tgt := 129) hx hb d_M_same_125 (by decide) ?_
                    refine lv_istore (lv' := [(4, .int (bI (decide (n = z + 3) && alB (eq3 (drM 43 (ot, K, V, R) (z + 3)).2.1 (drM 43 (ot, K, V, R) (z + 3)).2.2.1 (drM 43 (ot, K, V, R) (z + 3)).2.2.2 (shf (drM 43 (ot, K, V, R) (z + 3)).2.1 43) (shf (drM 43 (ot, K, V, R) (z + 3)).2.2.1 43) (shf (drM 43 (ot, K, V, R) (z + 3)).2.2.2 43)) (i + 1)))), (0, .ref jm), (5, .int (nI i))]) hx hb d_M_same_129 hl (by decide) rfl (fun ls hl => ?_)
                    refine lv_iinc (v := nI (i + 1)) (lv' := [(5, .int (nI (i + 1))), (4, .int (bI (decide (n = z + 3) && alB (eq3 (drM 43 (ot, K, V, R) (z + 3)).2.1 (drM 43 (ot, K, V, R) (z + 3)).2.2.1 (drM 43 (ot, K, V, R) (z + 3)).2.2.2 (shf (drM 43 (ot, K, V, R) (z + 3)).2.1 43) (shf (drM 43 (ot, K, V, R) (z + 3)).2.2.1 43) (shf (drM 43 (ot, K, V, R) (z + 3)).2.2.2 43)) (i + 1)))), (0, .ref jm)]) hx hb d_M_same_131 hl (k := 2) rfl (nI_1 _) (by decide) rfl (fun ls hl => ?_)
                    refine lv_goto (tgt := 50) hx hb d_M_same_134 (by decide) ?_
                    exact ih_50 (i + 1) (by omega) (by first | assumption | omega) ls (lv_sub (l' := [(0, .ref jm), (4, .int (bI (decide (n = z + 3) && alB (eq3 (drM 43 (ot, K, V, R) (z + 3)).2.1 (drM 43 (ot, K, V, R) (z + 3)).2.2.1 (drM 43 (ot, K, V, R) (z + 3)).2.2.2 (shf (drM 43 (ot, K, V, R) (z + 3)).2.1 43) (shf (drM 43 (ot, K, V, R) (z + 3)).2.2.1 43) (shf (drM 43 (ot, K, V, R) (z + 3)).2.2.2 43)) (i + 1)))), (5, .int (nI (i + 1)))]) hl [2, 1, 0] rfl)
      exact lp_50 ((n - 0) + 1) 0 (by omega) (by first | assumption | omega) ls (lv_sub (l' := [(0, .ref jm), (4, .int (bI (decide (n = z + 3) && alB (eq3 (drM 43 (ot, K, V, R) (z + 3)).2.1 (drM 43 (ot, K, V, R) (z + 3)).2.2.1 (drM 43 (ot, K, V, R) (z + 3)).2.2.2 (shf (drM 43 (ot, K, V, R) (z + 3)).2.1 43) (shf (drM 43 (ot, K, V, R) (z + 3)).2.2.1 43) (shf (drM 43 (ot, K, V, R) (z + 3)).2.2.2 43)) 0))), (5, .int (nI 0))]) hl [2, 1, 0] rfl)
  · skip
    have c_7 := bI_f c_7
    exact absurd c_7 (by rw [in_sz hz]; decide)
set_option maxHeartbeats 4000000 in
set_option maxRecDepth 100000 in
/-- reference: same, of no size -/
theorem c_M_samex (l : Launch) (dC : Nat → ClassId) (dI : Nat → Nat → Nat) (jm ik iv ir il iy ig : Nat) (n : Nat) (th : Int32) (sd tp : Int64) (ot : Int64) (p0 : Int32) (hex : szB p0 = false) (sz : Nat) : Met l y_M_same w_M_same ({ frames := 3, cells := 0, slots := 0, locals := 74 }) (wr_P dC dI [.ref jm, .long ot, .int p0] [(jm, .inr (3, [.int th, .long sd, .long tp, .int (nI n), .ref ik, .ref iv, .ref ir, .ref il, .ref iy, .ref ig]))] [] sz) (va_Qi (fun (r : Int32) (_ : Unit) => r = nI 0) (fun (u : Unit) => wr_B dC dI (va_A [(jm, .inr (3, [.int th, .long sd, .long tp, .int (nI n), .ref ik, .ref iv, .ref ir, .ref il, .ref iy, .ref ig]))] sz) [(jm, .inr (3, [.int (nI 1), .long sd, .long tp, .int (nI n), .ref ik, .ref iv, .ref ir, .ref il, .ref iy, .ref ig]))] []) (va_A [(jm, .inr (3, [.int th, .long sd, .long tp, .int (nI n), .ref ik, .ref iv, .ref ir, .ref il, .ref iy, .ref ig]))] sz)) 0 0 (va_A [(jm, .inr (3, [.int th, .long sd, .long tp, .int (nI n), .ref ik, .ref iv, .ref ir, .ref il, .ref iy, .ref ig]))] sz) := by
  refine Met.ofW (cc := b_M_same) (maxL := 6) (ret := (Option.some Jvm.ClassFile.FieldType.boolean)) (by decide) rfl ?_
  intro p e s m args below meth c s₁ B0 hml hv0
  obtain ⟨rfl, hsz, hP, hK, hD0, hN⟩ := hv0
  have hx := B0.exec
  have hb := B0.bytes
  have hr := B0.returns
  have hts := atoms_spec (ws := w_M_same) B0.pre
  have hown : s.vm.findClass R_M = some m.cls := findClass_of_methodNamed B0.named
  have hlocks := B0.notSynchronized
  subst hsz
  have hD := hD0.self (sz := s.heap.size)
  generalize hAe : va_A [(jm, .inr (3, [.int th, .long sd, .long tp, .int (nI n), .ref ik, .ref iv, .ref ir, .ref il, .ref iy, .ref ig]))] s.heap.size = A at hD ⊢
  have hA : ∀ q : Nat, s.heap.size ≤ q → A q := fun q h => by rw [← hAe]; exact Or.inr h
  have hS : va_S A s.heap s.heap [] := va_S.rf
  have hP : va_P (dC, dI) classes [(jm, .inr (3, [.int th, .long sd, .long tp, .int (nI n), .ref ik, .ref iv, .ref ir, .ref il, .ref iy, .ref ig]))] s.heap := hP
  have hl := lv_entry ([.ref jm, .long ot, .int p0]) (n := 6) (Nat.le_of_ble_eq_true rfl)
  rw [lg_entry_eq]
  generalize (lg_sl ([.ref jm, .long ot, .int p0]) ++ List.replicate (6 - (lg_sl ([.ref jm, .long ot, .int p0])).length) Slot.unset).toArray = ls at hl ⊢
  have hl : lv_has ls 6 [(0, .ref jm), (1, .long ot), (3, .int p0)] := hl
  refine lv_iload_n hx hb d_M_same_0 rfl (lv_at hl 2 rfl) ?_
  refine lv_iconst (v := nI 0) hx hb d_M_same_1 (by decide +kernel) ?_
  refine lv_bipush (v := nI 40) hx hb d_M_same_2 (by decide +kernel) ?_
  have hPc := hP.sub (ws' := []) [] rfl
  have hKc := hK.sub (tys' := []) [] rfl
  refine vp_callSi (W.runS (As := [.int p0, .int (nI 0), .int (nI 40)]) (rest := []) ⟨hx, hb, hml, hown, hts⟩ (c_M_in_ l dC dI p0 (nI 0) (nI 40)) (va_cwS 3 hts (g_S big_w m_375 m_376 m_4 m_377) rfl rfl rfl (by decide +kernel) ⟨Nat.le_of_ble_eq_true rfl, Nat.le_of_ble_eq_true rfl⟩) (ro_S hPc hKc hN) rfl rfl hl.1 rfl (lv_room (Nat.le_of_ble_eq_true rfl)) d_M_same_4 ⟨Nat.le_of_ble_eq_true rfl, Nat.le_of_ble_eq_true rfl⟩) (fun r_1 er_1 => ?_)
  have er_1 := er_1.symm
  subst er_1
  refine lv_if_ne (tgt := 17) hx hb d_M_same_7 (by decide) (fun c_7 => ?_) (fun c_7 => ?_)
  · skip
    have c_7 := bI_t c_7
    exact absurd c_7 (by rw [show inB p0 (nI 0) (nI 40) = false from hex]; decide)
  · skip
    have c_7 := bI_f c_7
    refine lv_aload_n hx hb d_M_same_10 rfl (lv_at hl 0 rfl) ?_
    refine lv_iconst (v := nI 1) hx hb d_M_same_11 (by decide +kernel) ?_
    refine va_put (D := (dC, dI)) (ci := 3) (v := .int (nI 1)) (ty := .int) (C := R_M) (T := F_M) (N := 10) hx hb hts (lay_M _) ft_M tok_M nok_M hown hK hP hD hS 0 rfl rfl 0 (by decide) (hts _ (List.mem_cons_of_mem _ m_336)) (fun _ h9 => h9) rfl (by decide +kernel) rfl rfl (Nat.le_of_ble_eq_true rfl) d_M_same_12 (fun H locs hP hD hS => ?_)
    have hP : va_P (dC, dI) classes [(jm, .inr (3, [.int (nI 1), .long sd, .long tp, .int (nI n), .ref ik, .ref iv, .ref ir, .ref il, .ref iy, .ref ig]))] H := hP
    have hD : va_D A [(jm, .inr (3, [.int (nI 1), .long sd, .long tp, .int (nI n), .ref ik, .ref iv, .ref ir, .ref il, .ref iy, .ref ig]))] := hD
    refine lv_iconst (v := nI 0) hx hb d_M_same_15 (by decide +kernel) ?_
    have hP9 := hP.sub (ws' := [(jm, .inr (3, [.int (nI 1), .long sd, .long tp, .int (nI n), .ref ik, .ref iv, .ref ir, .ref il, .ref iy, .ref ig]))]) [0] rfl
    have hD9 := hD.sub (ws' := [(jm, .inr (3, [.int (nI 1), .long sd, .long tp, .int (nI n), .ref ik, .ref iv, .ref ir, .ref il, .ref iy, .ref ig]))]) [0] (by decide) rfl
    have hK9 := hK.sub (tys' := []) [] rfl
    exact W.zret (v := nI 0) (ty := .boolean) hx hb hr (by decide +kernel) (fun t ht hW => ⟨⟨nI 0, (), rfl, rfl, by rw [ht]; exact hP9, va_K.moved hW.alike hK9, hD9⟩, hS.F ht⟩) hS.2.2 d_M_same_16
set_option maxHeartbeats 4000000 in
set_option maxRecDepth 100000 in
/-- reference: fits, of an act -/
theorem c_M_fits (l : Launch) (dC : Nat → ClassId) (dI : Nat → Nat → Nat) (jm ik iv ir il iy ig : Nat) (n : Nat) (th : Int32) (sd tp : Int64) (dk dv dr : ClassId) (K V R : Nat → Int32) (i : Nat) (hn : n ≤ 43) (hR : rfK n R) (hi : i < n) (ha : K i = nI 5) (sz : Nat) : Met l y_M_fits w_M_fits ({ frames := 1, cells := 0, slots := 0, locals := 21 }) (wr_P dC dI [.ref jm, .int (nI i)] [(jm, .inr (3, [.int th, .long sd, .long tp, .int (nI n), .ref ik, .ref iv, .ref ir, .ref il, .ref iy, .ref ig])), (ik, .inl (dk, 86, .inl K)), (iv, .inl (dv, 86, .inl V)), (ir, .inl (dr, 86, .inl R))] [(dk, .int), (dv, .int), (dr, .int)] sz) (va_Qi (fun (r : Int32) (_ : Unit) => r = bI (ft9 V R i)) (fun (u : Unit) => wr_B dC dI (va_A [(jm, .inr (3, [.int th, .long sd, .long tp, .int (nI n), .ref ik, .ref iv, .ref ir, .ref il, .ref iy, .ref ig])), (ik, .inl (dk, 86, .inl K)), (iv, .inl (dv, 86, .inl V)), (ir, .inl (dr, 86, .inl R))] sz) [(jm, .inr (3, [.int (nI 0), .long sd, .long tp, .int (nI n), .ref ik, .ref iv, .ref ir, .ref il, .ref iy, .ref ig])), (ik, .inl (dk, 86, .inl K)), (iv, .inl (dv, 86, .inl V)), (ir, .inl (dr, 86, .inl R))] [(dk, .int), (dv, .int), (dr, .int)]) (va_A [(jm, .inr (3, [.int th, .long sd, .long tp, .int (nI n), .ref ik, .ref iv, .ref ir, .ref il, .ref iy, .ref ig])), (ik, .inl (dk, 86, .inl K)), (iv, .inl (dv, 86, .inl V)), (ir, .inl (dr, 86, .inl R))] sz)) 0 0 (va_A [(jm, .inr (3, [.int th, .long sd, .long tp, .int (nI n), .ref ik, .ref iv, .ref ir, .ref il, .ref iy, .ref ig])), (ik, .inl (dk, 86, .inl K)), (iv, .inl (dv, 86, .inl V)), (ir, .inl (dr, 86, .inl R))] sz) := by
  refine Met.ofW (cc := b_M_fits) (maxL := 2) (ret := (Option.some Jvm.ClassFile.FieldType.boolean)) (by decide) rfl ?_
  intro p e s m args below meth c s₁ B0 hml hv0
  obtain ⟨rfl, hsz, hP, hK, hD0, hN⟩ := hv0
  have hx := B0.exec
  have hb := B0.bytes
  have hr := B0.returns
  have hts := atoms_spec (ws := w_M_fits) B0.pre
  have hown : s.vm.findClass R_M = some m.cls := findClass_of_methodNamed B0.named
  have hlocks := B0.notSynchronized
  subst hsz
  have hD := hD0.self (sz := s.heap.size)
  generalize hAe : va_A [(jm, .inr (3, [.int th, .long sd, .long tp, .int (nI n), .ref ik, .ref iv, .ref ir, .ref il, .ref iy, .ref ig])), (ik, .inl (dk, 86, .inl K)), (iv, .inl (dv, 86, .inl V)), (ir, .inl (dr, 86, .inl R))] s.heap.size = A at hD ⊢
  have hA : ∀ q : Nat, s.heap.size ≤ q → A q := fun q h => by rw [← hAe]; exact Or.inr h
  have hS : va_S A s.heap s.heap [] := va_S.rf
  have hP : va_P (dC, dI) classes [(jm, .inr (3, [.int th, .long sd, .long tp, .int (nI n), .ref ik, .ref iv, .ref ir, .ref il, .ref iy, .ref ig])), (ik, .inl (dk, 86, .inl K)), (iv, .inl (dv, 86, .inl V)), (ir, .inl (dr, 86, .inl R))] s.heap := hP
  have hl := lv_entry ([.ref jm, .int (nI i)]) (n := 2) (Nat.le_of_ble_eq_true rfl)
  rw [lg_entry_eq]
  generalize (lg_sl ([.ref jm, .int (nI i)]) ++ List.replicate (2 - (lg_sl ([.ref jm, .int (nI i)])).length) Slot.unset).toArray = ls at hl ⊢
  have hl : lv_has ls 2 [(0, .ref jm), (1, .int (nI i))] := hl
  refine lv_aload_n hx hb d_M_fits_0 rfl (lv_at hl 0 rfl) ?_
  refine lv_aload_n hx hb d_M_fits_1 rfl (lv_at hl 0 rfl) ?_
  refine lv_iload_n hx hb d_M_fits_2 rfl (lv_at hl 1 rfl) ?_
  have hPc := hP.sub (ws' := [(jm, .inr (3, [.int th, .long sd, .long tp, .int (nI n), .ref ik, .ref iv, .ref ir, .ref il, .ref iy, .ref ig]))]) [0] rfl
  have hKc := hK.sub (tys' := []) [] rfl
  refine vp_callSi (W.runV (As := [.int (nI i)]) (rest := [.ref jm]) ⟨hx, hb, hml, hown, hts⟩ (c_M_isPart l dC dI jm ik iv ir il iy ig n th sd tp (nI i)) (cwV 1 hts (g_V big_w m_411 m_413 ms_26 m_4 m_414) rfl rfl rfl (by decide +kernel) ⟨Nat.le_of_ble_eq_true rfl, Nat.le_of_ble_eq_true rfl⟩) (ro_V hPc hKc hN (va_recv hKc hPc (ci := 3) (q0 := 0) rfl rfl)) rfl rfl hl.1 rfl (lv_room (Nat.le_of_ble_eq_true rfl)) d_M_fits_3 ⟨Nat.le_of_ble_eq_true rfl, Nat.le_of_ble_eq_true rfl⟩) (fun r_1 er_1 => ?_)
  have er_1 := er_1.symm
  subst er_1
  refine lv_if_eq (tgt := 23) hx hb d_M_fits_6 (by decide) (fun c_6 => ?_) (fun c_6 => ?_)
  · skip
    have c_6 := bI_f c_6
    exact absurd c_6 (by rw [hB_nI hi (by omega)]; decide)
  · skip
    have c_6 := bI_t c_6
    refine lv_aload_n hx hb d_M_fits_9 rfl (lv_at hl 0 rfl) ?_
    refine va_get (D := (dC, dI)) (ci := 3) (v := .ref ik) (C := R_M) (T := F_M) (N := 10) hx hb hts (lay_M _) hown hK hP 0 rfl rfl 4 (by decide) (hts _ (List.mem_cons_of_mem _ m_340)) (fun _ h9 => h9) rfl d_M_fits_10 ?_
    refine lv_iload_n hx hb d_M_fits_13 rfl (lv_at hl 1 rfl) ?_
    refine va_iald hx hb hK hP 1 0 rfl rfl (vp_in_nI (by omega) (by omega)) d_M_fits_14 ?_
    refine lv_topi (fun w_2 ew_2 => ?_)
    rw [nI_clamp (by omega)] at ew_2
    have ew_2 := ew_2.symm
    subst ew_2
    refine lv_iconst (v := nI 5) hx hb d_M_fits_15 (by decide +kernel) ?_
    refine lv_icmp_ne (tgt := 23) hx hb d_M_fits_16 (by decide) (fun c_16 => ?_) (fun c_16 => ?_)
    · skip
      exact absurd ha c_16
    · skip
      refine lv_iconst (v := nI 0) hx hb d_M_fits_19 (by decide +kernel) ?_
      refine lv_goto (tgt := 24) hx hb d_M_fits_20 (by decide) ?_
      refine va_put (D := (dC, dI)) (ci := 3) (v := .int (nI 0)) (ty := .int) (C := R_M) (T := F_M) (N := 10) hx hb hts (lay_M _) ft_M tok_M nok_M hown hK hP hD hS 0 rfl rfl 0 (by decide) (hts _ (List.mem_cons_of_mem _ m_336)) (fun _ h9 => h9) rfl (by decide +kernel) rfl rfl (Nat.le_of_ble_eq_true rfl) d_M_fits_24 (fun H locs hP hD hS => ?_)
      have hP : va_P (dC, dI) classes [(jm, .inr (3, [.int (nI 0), .long sd, .long tp, .int (nI n), .ref ik, .ref iv, .ref ir, .ref il, .ref iy, .ref ig])), (ik, .inl (dk, 86, .inl K)), (iv, .inl (dv, 86, .inl V)), (ir, .inl (dr, 86, .inl R))] H := hP
      have hD : va_D A [(jm, .inr (3, [.int (nI 0), .long sd, .long tp, .int (nI n), .ref ik, .ref iv, .ref ir, .ref il, .ref iy, .ref ig])), (ik, .inl (dk, 86, .inl K)), (iv, .inl (dv, 86, .inl V)), (ir, .inl (dr, 86, .inl R))] := hD
      refine lv_aload_n hx hb d_M_fits_27 rfl (lv_at hl 0 rfl) ?_
      refine va_get (D := (dC, dI)) (ci := 3) (v := .int (nI 0)) (C := R_M) (T := F_M) (N := 10) hx hb hts (lay_M _) hown hK hP 0 rfl rfl 0 (by decide) (hts _ (List.mem_cons_of_mem _ m_336)) (fun _ h9 => h9) rfl d_M_fits_28 ?_
      refine lv_if_ne (tgt := 46) hx hb d_M_fits_31 (by decide) (fun c_31 => ?_) (fun c_31 => ?_)
      · skip
        have c_31 := (not_congr (nI_z (by omega))).mp c_31
        exact absurd rfl c_31
      · skip
        have c_31 := (nI_z (by omega)).mp c_31
        refine lv_aload_n hx hb d_M_fits_34 rfl (lv_at hl 0 rfl) ?_
        refine lv_iload_n hx hb d_M_fits_35 rfl (lv_at hl 1 rfl) ?_
        have hPc := hP.sub (ws' := [(jm, .inr (3, [.int (nI 0), .long sd, .long tp, .int (nI n), .ref ik, .ref iv, .ref ir, .ref il, .ref iy, .ref ig])), (iv, .inl (dv, 86, .inl V)), (ir, .inl (dr, 86, .inl R))]) [0, 2, 3] rfl
        have hKc := hK.sub (tys' := [(dv, .int), (dr, .int)]) [1, 2] rfl
        refine vp_callSi (W.runV (As := [.int (nI i)]) (rest := []) ⟨hx, hb, hml, hown, hts⟩ (c_M_isFit l dC dI jm ik iv ir il iy ig n (nI 0) sd tp dv dr V R i (by first | assumption | omega) (by first | assumption | omega) (by first | assumption | omega)) (cwV 1 hts (g_V big_w m_415 m_417 ms_27 m_4 m_418) rfl rfl rfl (by decide +kernel) ⟨Nat.le_of_ble_eq_true rfl, Nat.le_of_ble_eq_true rfl⟩) (ro_V hPc hKc hN (va_recv hKc hPc (ci := 3) (q0 := 0) rfl rfl)) rfl rfl hl.1 rfl (lv_room (Nat.le_of_ble_eq_true rfl)) d_M_fits_36 ⟨Nat.le_of_ble_eq_true rfl, Nat.le_of_ble_eq_true rfl⟩) (fun r_3 er_3 => ?_)
        have er_3 := er_3.symm
        subst er_3
        refine lv_if_eq (tgt := 46) hx hb d_M_fits_39 (by decide) (fun c_39 => ?_) (fun c_39 => ?_)
        · skip
          have c_39 := bI_f c_39
          refine lv_iconst (v := nI 0) hx hb d_M_fits_46 (by decide +kernel) ?_
          have hP9 := hP.sub (ws' := [(jm, .inr (3, [.int (nI 0), .long sd, .long tp, .int (nI n), .ref ik, .ref iv, .ref ir, .ref il, .ref iy, .ref ig])), (ik, .inl (dk, 86, .inl K)), (iv, .inl (dv, 86, .inl V)), (ir, .inl (dr, 86, .inl R))]) [0, 1, 2, 3] rfl
          have hD9 := hD.sub (ws' := [(jm, .inr (3, [.int (nI 0), .long sd, .long tp, .int (nI n), .ref ik, .ref iv, .ref ir, .ref il, .ref iy, .ref ig])), (ik, .inl (dk, 86, .inl K)), (iv, .inl (dv, 86, .inl V)), (ir, .inl (dr, 86, .inl R))]) [0, 1, 2, 3] (by decide) rfl
          have hK9 := hK.sub (tys' := [(dk, .int), (dv, .int), (dr, .int)]) [0, 1, 2] rfl
          exact W.zret (v := nI 0) (ty := .boolean) hx hb hr (by decide +kernel) (fun t ht hW => ⟨⟨nI 0, (), rfl, (by rw [c_39]; rfl), by rw [ht]; exact hP9, va_K.moved hW.alike hK9, hD9⟩, hS.F ht⟩) hS.2.2 d_M_fits_47
        · skip
          have c_39 := bI_t c_39
          refine lv_iconst (v := nI 1) hx hb d_M_fits_42 (by decide +kernel) ?_
          refine lv_goto (tgt := 47) hx hb d_M_fits_43 (by decide) ?_
          have hP9 := hP.sub (ws' := [(jm, .inr (3, [.int (nI 0), .long sd, .long tp, .int (nI n), .ref ik, .ref iv, .ref ir, .ref il, .ref iy, .ref ig])), (ik, .inl (dk, 86, .inl K)), (iv, .inl (dv, 86, .inl V)), (ir, .inl (dr, 86, .inl R))]) [0, 1, 2, 3] rfl
          have hD9 := hD.sub (ws' := [(jm, .inr (3, [.int (nI 0), .long sd, .long tp, .int (nI n), .ref ik, .ref iv, .ref ir, .ref il, .ref iy, .ref ig])), (ik, .inl (dk, 86, .inl K)), (iv, .inl (dv, 86, .inl V)), (ir, .inl (dr, 86, .inl R))]) [0, 1, 2, 3] (by decide) rfl
          have hK9 := hK.sub (tys' := [(dk, .int), (dv, .int), (dr, .int)]) [0, 1, 2] rfl
          exact W.zret (v := nI 1) (ty := .boolean) hx hb hr (by decide +kernel) (fun t ht hW => ⟨⟨nI 1, (), rfl, (by rw [c_39]; rfl), by rw [ht]; exact hP9, va_K.moved hW.alike hK9, hD9⟩, hS.F ht⟩) hS.2.2 d_M_fits_47
set_option maxHeartbeats 4000000 in
set_option maxRecDepth 100000 in
/-- reference: fits, of no act -/
theorem c_M_fitsx (l : Launch) (dC : Nat → ClassId) (dI : Nat → Nat → Nat) (jm ik iv ir il iy ig : Nat) (n : Nat) (th : Int32) (sd tp : Int64) (dk : ClassId) (K : Nat → Int32) (p0 : Int32) (hn : n ≤ 43) (hex : aB n K p0 = false) (sz : Nat) : Met l y_M_fits w_M_fits ({ frames := 1, cells := 0, slots := 0, locals := 21 }) (wr_P dC dI [.ref jm, .int p0] [(jm, .inr (3, [.int th, .long sd, .long tp, .int (nI n), .ref ik, .ref iv, .ref ir, .ref il, .ref iy, .ref ig])), (ik, .inl (dk, 86, .inl K))] [(dk, .int)] sz) (va_Qi (fun (r : Int32) (_ : Unit) => r = nI 0) (fun (u : Unit) => wr_B dC dI (va_A [(jm, .inr (3, [.int th, .long sd, .long tp, .int (nI n), .ref ik, .ref iv, .ref ir, .ref il, .ref iy, .ref ig])), (ik, .inl (dk, 86, .inl K))] sz) [(jm, .inr (3, [.int (nI 1), .long sd, .long tp, .int (nI n), .ref ik, .ref iv, .ref ir, .ref il, .ref iy, .ref ig])), (ik, .inl (dk, 86, .inl K))] [(dk, .int)]) (va_A [(jm, .inr (3, [.int th, .long sd, .long tp, .int (nI n), .ref ik, .ref iv, .ref ir, .ref il, .ref iy, .ref ig])), (ik, .inl (dk, 86, .inl K))] sz)) 0 0 (va_A [(jm, .inr (3, [.int th, .long sd, .long tp, .int (nI n), .ref ik, .ref iv, .ref ir, .ref il, .ref iy, .ref ig])), (ik, .inl (dk, 86, .inl K))] sz) := by
  refine Met.ofW (cc := b_M_fits) (maxL := 2) (ret := (Option.some Jvm.ClassFile.FieldType.boolean)) (by decide) rfl ?_
  intro p e s m args below meth c s₁ B0 hml hv0
  obtain ⟨rfl, hsz, hP, hK, hD0, hN⟩ := hv0
  have hx := B0.exec
  have hb := B0.bytes
  have hr := B0.returns
  have hts := atoms_spec (ws := w_M_fits) B0.pre
  have hown : s.vm.findClass R_M = some m.cls := findClass_of_methodNamed B0.named
  have hlocks := B0.notSynchronized
  subst hsz
  have hD := hD0.self (sz := s.heap.size)
  generalize hAe : va_A [(jm, .inr (3, [.int th, .long sd, .long tp, .int (nI n), .ref ik, .ref iv, .ref ir, .ref il, .ref iy, .ref ig])), (ik, .inl (dk, 86, .inl K))] s.heap.size = A at hD ⊢
  have hA : ∀ q : Nat, s.heap.size ≤ q → A q := fun q h => by rw [← hAe]; exact Or.inr h
  have hS : va_S A s.heap s.heap [] := va_S.rf
  have hP : va_P (dC, dI) classes [(jm, .inr (3, [.int th, .long sd, .long tp, .int (nI n), .ref ik, .ref iv, .ref ir, .ref il, .ref iy, .ref ig])), (ik, .inl (dk, 86, .inl K))] s.heap := hP
  have hl := lv_entry ([.ref jm, .int p0]) (n := 2) (Nat.le_of_ble_eq_true rfl)
  rw [lg_entry_eq]
  generalize (lg_sl ([.ref jm, .int p0]) ++ List.replicate (2 - (lg_sl ([.ref jm, .int p0])).length) Slot.unset).toArray = ls at hl ⊢
  have hl : lv_has ls 2 [(0, .ref jm), (1, .int p0)] := hl
  refine lv_aload_n hx hb d_M_fits_0 rfl (lv_at hl 0 rfl) ?_
  refine lv_aload_n hx hb d_M_fits_1 rfl (lv_at hl 0 rfl) ?_
  refine lv_iload_n hx hb d_M_fits_2 rfl (lv_at hl 1 rfl) ?_
  have hPc := hP.sub (ws' := [(jm, .inr (3, [.int th, .long sd, .long tp, .int (nI n), .ref ik, .ref iv, .ref ir, .ref il, .ref iy, .ref ig]))]) [0] rfl
  have hKc := hK.sub (tys' := []) [] rfl
  refine vp_callSi (W.runV (As := [.int p0]) (rest := [.ref jm]) ⟨hx, hb, hml, hown, hts⟩ (c_M_isPart l dC dI jm ik iv ir il iy ig n th sd tp p0) (cwV 1 hts (g_V big_w m_411 m_413 ms_26 m_4 m_414) rfl rfl rfl (by decide +kernel) ⟨Nat.le_of_ble_eq_true rfl, Nat.le_of_ble_eq_true rfl⟩) (ro_V hPc hKc hN (va_recv hKc hPc (ci := 3) (q0 := 0) rfl rfl)) rfl rfl hl.1 rfl (lv_room (Nat.le_of_ble_eq_true rfl)) d_M_fits_3 ⟨Nat.le_of_ble_eq_true rfl, Nat.le_of_ble_eq_true rfl⟩) (fun r_1 er_1 => ?_)
  have er_1 := er_1.symm
  subst er_1
  refine lv_if_eq (tgt := 23) hx hb d_M_fits_6 (by decide) (fun c_6 => ?_) (fun c_6 => ?_)
  · skip
    have c_6 := bI_f c_6
    refine lv_iconst (v := nI 1) hx hb d_M_fits_23 (by decide +kernel) ?_
    refine va_put (D := (dC, dI)) (ci := 3) (v := .int (nI 1)) (ty := .int) (C := R_M) (T := F_M) (N := 10) hx hb hts (lay_M _) ft_M tok_M nok_M hown hK hP hD hS 0 rfl rfl 0 (by decide) (hts _ (List.mem_cons_of_mem _ m_336)) (fun _ h9 => h9) rfl (by decide +kernel) rfl rfl (Nat.le_of_ble_eq_true rfl) d_M_fits_24 (fun H locs hP hD hS => ?_)
    have hP : va_P (dC, dI) classes [(jm, .inr (3, [.int (nI 1), .long sd, .long tp, .int (nI n), .ref ik, .ref iv, .ref ir, .ref il, .ref iy, .ref ig])), (ik, .inl (dk, 86, .inl K))] H := hP
    have hD : va_D A [(jm, .inr (3, [.int (nI 1), .long sd, .long tp, .int (nI n), .ref ik, .ref iv, .ref ir, .ref il, .ref iy, .ref ig])), (ik, .inl (dk, 86, .inl K))] := hD
    refine lv_aload_n hx hb d_M_fits_27 rfl (lv_at hl 0 rfl) ?_
    refine va_get (D := (dC, dI)) (ci := 3) (v := .int (nI 1)) (C := R_M) (T := F_M) (N := 10) hx hb hts (lay_M _) hown hK hP 0 rfl rfl 0 (by decide) (hts _ (List.mem_cons_of_mem _ m_336)) (fun _ h9 => h9) rfl d_M_fits_28 ?_
    refine lv_if_ne (tgt := 46) hx hb d_M_fits_31 (by decide) (fun c_31 => ?_) (fun c_31 => ?_)
    · skip
      have c_31 := (not_congr (nI_z (by omega))).mp c_31
      refine lv_iconst (v := nI 0) hx hb d_M_fits_46 (by decide +kernel) ?_
      have hP9 := hP.sub (ws' := [(jm, .inr (3, [.int (nI 1), .long sd, .long tp, .int (nI n), .ref ik, .ref iv, .ref ir, .ref il, .ref iy, .ref ig])), (ik, .inl (dk, 86, .inl K))]) [0, 1] rfl
      have hD9 := hD.sub (ws' := [(jm, .inr (3, [.int (nI 1), .long sd, .long tp, .int (nI n), .ref ik, .ref iv, .ref ir, .ref il, .ref iy, .ref ig])), (ik, .inl (dk, 86, .inl K))]) [0, 1] (by decide) rfl
      have hK9 := hK.sub (tys' := [(dk, .int)]) [0] rfl
      exact W.zret (v := nI 0) (ty := .boolean) hx hb hr (by decide +kernel) (fun t ht hW => ⟨⟨nI 0, (), rfl, rfl, by rw [ht]; exact hP9, va_K.moved hW.alike hK9, hD9⟩, hS.F ht⟩) hS.2.2 d_M_fits_47
    · skip
      have c_31 := (nI_z (by omega)).mp c_31
      exact absurd c_31 (by decide)
  · skip
    have c_6 := bI_t c_6
    refine lv_aload_n hx hb d_M_fits_9 rfl (lv_at hl 0 rfl) ?_
    refine va_get (D := (dC, dI)) (ci := 3) (v := .ref ik) (C := R_M) (T := F_M) (N := 10) hx hb hts (lay_M _) hown hK hP 0 rfl rfl 4 (by decide) (hts _ (List.mem_cons_of_mem _ m_340)) (fun _ h9 => h9) rfl d_M_fits_10 ?_
    refine lv_iload_n hx hb d_M_fits_13 rfl (lv_at hl 1 rfl) ?_
    refine va_iald hx hb hK hP 1 0 rfl rfl (hB_i86 c_6 hn) d_M_fits_14 ?_
    refine lv_iconst (v := nI 5) hx hb d_M_fits_15 (by decide +kernel) ?_
    refine lv_icmp_ne (tgt := 23) hx hb d_M_fits_16 (by decide) (fun c_16 => ?_) (fun c_16 => ?_)
    · skip
      refine lv_iconst (v := nI 1) hx hb d_M_fits_23 (by decide +kernel) ?_
      refine va_put (D := (dC, dI)) (ci := 3) (v := .int (nI 1)) (ty := .int) (C := R_M) (T := F_M) (N := 10) hx hb hts (lay_M _) ft_M tok_M nok_M hown hK hP hD hS 0 rfl rfl 0 (by decide) (hts _ (List.mem_cons_of_mem _ m_336)) (fun _ h9 => h9) rfl (by decide +kernel) rfl rfl (Nat.le_of_ble_eq_true rfl) d_M_fits_24 (fun H locs hP hD hS => ?_)
      have hP : va_P (dC, dI) classes [(jm, .inr (3, [.int (nI 1), .long sd, .long tp, .int (nI n), .ref ik, .ref iv, .ref ir, .ref il, .ref iy, .ref ig])), (ik, .inl (dk, 86, .inl K))] H := hP
      have hD : va_D A [(jm, .inr (3, [.int (nI 1), .long sd, .long tp, .int (nI n), .ref ik, .ref iv, .ref ir, .ref il, .ref iy, .ref ig])), (ik, .inl (dk, 86, .inl K))] := hD
      refine lv_aload_n hx hb d_M_fits_27 rfl (lv_at hl 0 rfl) ?_
      refine va_get (D := (dC, dI)) (ci := 3) (v := .int (nI 1)) (C := R_M) (T := F_M) (N := 10) hx hb hts (lay_M _) hown hK hP 0 rfl rfl 0 (by decide) (hts _ (List.mem_cons_of_mem _ m_336)) (fun _ h9 => h9) rfl d_M_fits_28 ?_
      refine lv_if_ne (tgt := 46) hx hb d_M_fits_31 (by decide) (fun c_31 => ?_) (fun c_31 => ?_)
      · skip
        have c_31 := (not_congr (nI_z (by omega))).mp c_31
        refine lv_iconst (v := nI 0) hx hb d_M_fits_46 (by decide +kernel) ?_
        have hP9 := hP.sub (ws' := [(jm, .inr (3, [.int (nI 1), .long sd, .long tp, .int (nI n), .ref ik, .ref iv, .ref ir, .ref il, .ref iy, .ref ig])), (ik, .inl (dk, 86, .inl K))]) [0, 1] rfl
        have hD9 := hD.sub (ws' := [(jm, .inr (3, [.int (nI 1), .long sd, .long tp, .int (nI n), .ref ik, .ref iv, .ref ir, .ref il, .ref iy, .ref ig])), (ik, .inl (dk, 86, .inl K))]) [0, 1] (by decide) rfl
        have hK9 := hK.sub (tys' := [(dk, .int)]) [0] rfl
        exact W.zret (v := nI 0) (ty := .boolean) hx hb hr (by decide +kernel) (fun t ht hW => ⟨⟨nI 0, (), rfl, rfl, by rw [ht]; exact hP9, va_K.moved hW.alike hK9, hD9⟩, hS.F ht⟩) hS.2.2 d_M_fits_47
      · skip
        have c_31 := (nI_z (by omega)).mp c_31
        exact absurd c_31 (by decide)
    · skip
      exact absurd hex (by unfold aB; rw [c_6, decide_eq_true c_16]; decide)
set_option maxHeartbeats 4000000 in
set_option maxRecDepth 100000 in
/-- reference: without, of a part that is left -/
theorem c_M_without (l : Launch) (dC : Nat → ClassId) (dI : Nat → Nat → Nat) (jm ik iv ir il iy ig : Nat) (n : Nat) (th : Int32) (sd tp : Int64) (dr dl dg : ClassId) (R : Nat → Int32) (L G : Nat → Bool) (i : Nat) (hn : n ≤ 43) (hR : rfK n R) (hi : i < n) (hw9 : L i = true) (sz : Nat) : Met l y_M_without w_M_without ({ frames := 2, cells := 0, slots := 0, locals := 44 }) (wr_P dC dI [.ref jm, .int (nI i)] [(jm, .inr (3, [.int th, .long sd, .long tp, .int (nI n), .ref ik, .ref iv, .ref ir, .ref il, .ref iy, .ref ig])), (ir, .inl (dr, 86, .inl R)), (il, .inl (dl, 43, .inl (bF L))), (ig, .inl (dg, 43, .inl (bF G)))] [(dr, .int), (dl, .boolean), (dg, .boolean)] sz) (va_Qi (fun (r : Int32) (_ : Unit) => r = nI (cnt (mkB R L i) n)) (fun (u : Unit) => wr_B dC dI (va_A [(jm, .inr (3, [.int th, .long sd, .long tp, .int (nI n), .ref ik, .ref iv, .ref ir, .ref il, .ref iy, .ref ig])), (ir, .inl (dr, 86, .inl R)), (il, .inl (dl, 43, .inl (bF L))), (ig, .inl (dg, 43, .inl (bF G)))] sz) [(jm, .inr (3, [.int (nI 0), .long sd, .long tp, .int (nI n), .ref ik, .ref iv, .ref ir, .ref il, .ref iy, .ref ig])), (ir, .inl (dr, 86, .inl R)), (il, .inl (dl, 43, .inl (bF (lvF n L (mkF R L i n))))), (ig, .inl (dg, 43, .inl (bF (mkF R L i n))))] [(dr, .int), (dl, .boolean), (dg, .boolean)]) (va_A [(jm, .inr (3, [.int th, .long sd, .long tp, .int (nI n), .ref ik, .ref iv, .ref ir, .ref il, .ref iy, .ref ig])), (ir, .inl (dr, 86, .inl R)), (il, .inl (dl, 43, .inl (bF L))), (ig, .inl (dg, 43, .inl (bF G)))] sz)) 0 0 (va_A [(jm, .inr (3, [.int th, .long sd, .long tp, .int (nI n), .ref ik, .ref iv, .ref ir, .ref il, .ref iy, .ref ig])), (ir, .inl (dr, 86, .inl R)), (il, .inl (dl, 43, .inl (bF L))), (ig, .inl (dg, 43, .inl (bF G)))] sz) := by
  refine Met.ofW (cc := b_M_without) (maxL := 3) (ret := (Option.some Jvm.ClassFile.FieldType.int)) (by decide) rfl ?_
  intro p e s m args below meth c s₁ B0 hml hv0
  obtain ⟨rfl, hsz, hP, hK, hD0, hN⟩ := hv0
  have hx := B0.exec
  have hb := B0.bytes
  have hr := B0.returns
  have hts := atoms_spec (ws := w_M_without) B0.pre
  have hown : s.vm.findClass R_M = some m.cls := findClass_of_methodNamed B0.named
  have hlocks := B0.notSynchronized
  subst hsz
  have hD := hD0.self (sz := s.heap.size)
  generalize hAe : va_A [(jm, .inr (3, [.int th, .long sd, .long tp, .int (nI n), .ref ik, .ref iv, .ref ir, .ref il, .ref iy, .ref ig])), (ir, .inl (dr, 86, .inl R)), (il, .inl (dl, 43, .inl (bF L))), (ig, .inl (dg, 43, .inl (bF G)))] s.heap.size = A at hD ⊢
  have hA : ∀ q : Nat, s.heap.size ≤ q → A q := fun q h => by rw [← hAe]; exact Or.inr h
  have hS : va_S A s.heap s.heap [] := va_S.rf
  have hP : va_P (dC, dI) classes [(jm, .inr (3, [.int th, .long sd, .long tp, .int (nI n), .ref ik, .ref iv, .ref ir, .ref il, .ref iy, .ref ig])), (ir, .inl (dr, 86, .inl R)), (il, .inl (dl, 43, .inl (bF L))), (ig, .inl (dg, 43, .inl (bF G)))] s.heap := hP
  have hl := lv_entry ([.ref jm, .int (nI i)]) (n := 3) (Nat.le_of_ble_eq_true rfl)
  rw [lg_entry_eq]
  generalize (lg_sl ([.ref jm, .int (nI i)]) ++ List.replicate (3 - (lg_sl ([.ref jm, .int (nI i)])).length) Slot.unset).toArray = ls at hl ⊢
  have hl : lv_has ls 3 [(0, .ref jm), (1, .int (nI i))] := hl
  refine lv_aload_n hx hb d_M_without_0 rfl (lv_at hl 0 rfl) ?_
  refine lv_iload_n hx hb d_M_without_1 rfl (lv_at hl 1 rfl) ?_
  have hPc := hP.sub (ws' := [(jm, .inr (3, [.int th, .long sd, .long tp, .int (nI n), .ref ik, .ref iv, .ref ir, .ref il, .ref iy, .ref ig]))]) [0] rfl
  have hKc := hK.sub (tys' := []) [] rfl
  refine vp_callSi (W.runV (As := [.int (nI i)]) (rest := []) ⟨hx, hb, hml, hown, hts⟩ (c_M_isPart l dC dI jm ik iv ir il iy ig n th sd tp (nI i)) (cwV 1 hts (g_V big_w m_411 m_413 ms_26 m_4 m_414) rfl rfl rfl (by decide +kernel) ⟨Nat.le_of_ble_eq_true rfl, Nat.le_of_ble_eq_true rfl⟩) (ro_V hPc hKc hN (va_recv hKc hPc (ci := 3) (q0 := 0) rfl rfl)) rfl rfl hl.1 rfl (lv_room (Nat.le_of_ble_eq_true rfl)) d_M_without_2 ⟨Nat.le_of_ble_eq_true rfl, Nat.le_of_ble_eq_true rfl⟩) (fun r_1 er_1 => ?_)
  have er_1 := er_1.symm
  subst er_1
  refine lv_if_eq (tgt := 17) hx hb d_M_without_5 (by decide) (fun c_5 => ?_) (fun c_5 => ?_)
  · skip
    have c_5 := bI_f c_5
    exact absurd c_5 (by rw [hB_nI hi (by omega)]; decide)
  · skip
    have c_5 := bI_t c_5
    refine lv_aload_n hx hb d_M_without_8 rfl (lv_at hl 0 rfl) ?_
    refine va_get (D := (dC, dI)) (ci := 3) (v := .ref il) (C := R_M) (T := F_M) (N := 10) hx hb hts (lay_M _) hown hK hP 0 rfl rfl 7 (by decide) (hts _ (List.mem_cons_of_mem _ m_343)) (fun _ h9 => h9) rfl d_M_without_9 ?_
    refine lv_iload_n hx hb d_M_without_12 rfl (lv_at hl 1 rfl) ?_
    refine va_zald hx hb hK hP 2 1 rfl rfl (vp_in_nI (by omega) (by omega)) d_M_without_13 ?_
    refine lv_topi (fun w_2 ew_2 => ?_)
    have ew_2 : (bI (L i)) = w_2 := (ew_2.trans (by rw [nI_clamp (by omega)]; rfl)).symm
    subst ew_2
    refine lv_if_ne (tgt := 23) hx hb d_M_without_14 (by decide) (fun c_14 => ?_) (fun c_14 => ?_)
    · skip
      have c_14 := bI_t c_14
      refine lv_aload_n hx hb d_M_without_23 rfl (lv_at hl 0 rfl) ?_
      refine lv_iconst (v := nI 0) hx hb d_M_without_24 (by decide +kernel) ?_
      refine va_put (D := (dC, dI)) (ci := 3) (v := .int (nI 0)) (ty := .int) (C := R_M) (T := F_M) (N := 10) hx hb hts (lay_M _) ft_M tok_M nok_M hown hK hP hD hS 0 rfl rfl 0 (by decide) (hts _ (List.mem_cons_of_mem _ m_336)) (fun _ h9 => h9) rfl (by decide +kernel) rfl rfl (Nat.le_of_ble_eq_true rfl) d_M_without_25 (fun H locs hP hD hS => ?_)
      have hP : va_P (dC, dI) classes [(jm, .inr (3, [.int (nI 0), .long sd, .long tp, .int (nI n), .ref ik, .ref iv, .ref ir, .ref il, .ref iy, .ref ig])), (ir, .inl (dr, 86, .inl R)), (il, .inl (dl, 43, .inl (bF L))), (ig, .inl (dg, 43, .inl (bF G)))] H := hP
      have hD : va_D A [(jm, .inr (3, [.int (nI 0), .long sd, .long tp, .int (nI n), .ref ik, .ref iv, .ref ir, .ref il, .ref iy, .ref ig])), (ir, .inl (dr, 86, .inl R)), (il, .inl (dl, 43, .inl (bF L))), (ig, .inl (dg, 43, .inl (bF G)))] := hD
      refine lv_aload_n hx hb d_M_without_28 rfl (lv_at hl 0 rfl) ?_
      refine lv_iload_n hx hb d_M_without_29 rfl (lv_at hl 1 rfl) ?_
      have hPc := hP.sub (ws' := [(jm, .inr (3, [.int (nI 0), .long sd, .long tp, .int (nI n), .ref ik, .ref iv, .ref ir, .ref il, .ref iy, .ref ig])), (ir, .inl (dr, 86, .inl R)), (il, .inl (dl, 43, .inl (bF L))), (ig, .inl (dg, 43, .inl (bF G)))]) [0, 1, 2, 3] rfl
      have hKc := hK.sub (tys' := [(dr, .int), (dl, .boolean), (dg, .boolean)]) [0, 1, 2] rfl
      have hDc := hD.sub (ws' := [(jm, .inr (3, [.int (nI 0), .long sd, .long tp, .int (nI n), .ref ik, .ref iv, .ref ir, .ref il, .ref iy, .ref ig])), (ir, .inl (dr, 86, .inl R)), (il, .inl (dl, 43, .inl (bF L))), (ig, .inl (dg, 43, .inl (bF G)))]) [0, 1, 2, 3] (by decide) rfl
      have hFc := va_free (wc := [(jm, .inr (3, [.int (nI 0), .long sd, .long tp, .int (nI n), .ref ik, .ref iv, .ref ir, .ref il, .ref iy, .ref ig])), (ir, .inl (dr, 86, .inl R)), (il, .inl (dl, 43, .inl (bF L))), (ig, .inl (dg, 43, .inl (bF G)))]) hD hS hA [0, 1, 2, 3] rfl
      refine va_calli (va_runV (As := [.int (nI i)]) (rest := []) ⟨hx, hb, hml, hown, hts⟩ (c_M_marks l dC dI jm ik iv ir il iy ig n (nI 0) sd tp dr dl dg R L G i (by first | assumption | omega) (by first | assumption | omega) (by first | assumption | omega) _) (cwV 1 hts (g_V big_w m_447 m_449 ms_32 m_4 m_450) rfl rfl rfl (by decide +kernel) ⟨Nat.le_of_ble_eq_true rfl, Nat.le_of_ble_eq_true rfl⟩) (wr_V hPc hKc hDc hN (va_recv hKc hPc (ci := 3) (q0 := 0) rfl rfl)) rfl rfl hl.1 rfl (lv_room (Nat.le_of_ble_eq_true rfl)) d_M_without_30 ⟨Nat.le_of_ble_eq_true rfl, Nat.le_of_ble_eq_true rfl⟩) hS (fun q _ h => hFc q h) hFc (fun r_3 u t H1 locs ht hvm hw hB hz1 hk1 hS => ?_)
      obtain ⟨hP1, hK1, hD1⟩ := hB
      rw [ht] at hP1
      obtain ⟨hP, hD⟩ := va_join (wr := []) (w1 := [(jm, .inr (3, [.int (nI 0), .long sd, .long tp, .int (nI n), .ref ik, .ref iv, .ref ir, .ref il, .ref iy, .ref ig])), (ir, .inl (dr, 86, .inl R)), (il, .inl (dl, 43, .inl (bF L))), (ig, .inl (dg, 43, .inl (bF (mkF R L i n))))]) hP hD [0, 1, 2, 3] [] rfl rfl (by decide) (by decide) hk1 hFc hP1 hD1
      generalize H1 = H at hP hS ⊢
      have hP : va_P (dC, dI) classes [(jm, .inr (3, [.int (nI 0), .long sd, .long tp, .int (nI n), .ref ik, .ref iv, .ref ir, .ref il, .ref iy, .ref ig])), (ir, .inl (dr, 86, .inl R)), (il, .inl (dl, 43, .inl (bF L))), (ig, .inl (dg, 43, .inl (bF (mkF R L i n))))] H := hP
      have hD : va_D A [(jm, .inr (3, [.int (nI 0), .long sd, .long tp, .int (nI n), .ref ik, .ref iv, .ref ir, .ref il, .ref iy, .ref ig])), (ir, .inl (dr, 86, .inl R)), (il, .inl (dl, 43, .inl (bF L))), (ig, .inl (dg, 43, .inl (bF (mkF R L i n))))] := hD
      have hw := hw.symm
      subst hw
      refine lv_istore_n (lv' := [(2, .int (nI (cnt (mkB R L i) n))), (0, .ref jm), (1, .int (nI i))]) hx hb d_M_without_33 rfl hl (by decide) rfl (fun ls hl => ?_)
      refine lv_aload_n hx hb d_M_without_34 rfl (lv_at hl 1 rfl) ?_
      have hPc := hP.sub (ws' := [(jm, .inr (3, [.int (nI 0), .long sd, .long tp, .int (nI n), .ref ik, .ref iv, .ref ir, .ref il, .ref iy, .ref ig])), (il, .inl (dl, 43, .inl (bF L))), (ig, .inl (dg, 43, .inl (bF (mkF R L i n))))]) [0, 2, 3] rfl
      have hKc := hK.sub (tys' := [(dl, .boolean), (dg, .boolean)]) [1, 2] rfl
      have hDc := hD.sub (ws' := [(jm, .inr (3, [.int (nI 0), .long sd, .long tp, .int (nI n), .ref ik, .ref iv, .ref ir, .ref il, .ref iy, .ref ig])), (il, .inl (dl, 43, .inl (bF L))), (ig, .inl (dg, 43, .inl (bF (mkF R L i n))))]) [0, 2, 3] (by decide) rfl
      have hFc := va_free (wc := [(jm, .inr (3, [.int (nI 0), .long sd, .long tp, .int (nI n), .ref ik, .ref iv, .ref ir, .ref il, .ref iy, .ref ig])), (il, .inl (dl, 43, .inl (bF L))), (ig, .inl (dg, 43, .inl (bF (mkF R L i n))))]) hD hS hA [0, 2, 3] rfl
      refine va_callv (va_runV (As := []) (rest := []) ⟨hx, hb, hml, hown, hts⟩ (c_M_leaves l dC dI jm ik iv ir il iy ig n (nI 0) sd tp dl dg L (mkF R L i n) (by first | assumption | omega) _) (cwV 0 hts (g_V big_w m_455 m_457 ms_34 m_4 m_458) rfl rfl rfl (by decide +kernel) ⟨Nat.le_of_ble_eq_true rfl, Nat.le_of_ble_eq_true rfl⟩) (wr_V hPc hKc hDc hN (va_recv hKc hPc (ci := 3) (q0 := 0) rfl rfl)) rfl rfl hl.1 rfl (lv_room (Nat.le_of_ble_eq_true rfl)) d_M_without_35 ⟨Nat.le_of_ble_eq_true rfl, Nat.le_of_ble_eq_true rfl⟩) hS (fun q _ h => hFc q h) hFc (fun u t H1 locs ht hvm hw hB hz1 hk1 hS => ?_)
      obtain ⟨hP1, hK1, hD1⟩ := hB
      rw [ht] at hP1
      obtain ⟨hP, hD⟩ := va_join (wr := [(ir, .inl (dr, 86, .inl R))]) (w1 := [(jm, .inr (3, [.int (nI 0), .long sd, .long tp, .int (nI n), .ref ik, .ref iv, .ref ir, .ref il, .ref iy, .ref ig])), (il, .inl (dl, 43, .inl (bF (lvF n L (mkF R L i n))))), (ig, .inl (dg, 43, .inl (bF (mkF R L i n))))]) hP hD [0, 2, 3] [1] rfl rfl (by decide) (by decide) hk1 hFc hP1 hD1
      generalize H1 = H at hP hS ⊢
      have hP : va_P (dC, dI) classes [(ir, .inl (dr, 86, .inl R)), (jm, .inr (3, [.int (nI 0), .long sd, .long tp, .int (nI n), .ref ik, .ref iv, .ref ir, .ref il, .ref iy, .ref ig])), (il, .inl (dl, 43, .inl (bF (lvF n L (mkF R L i n))))), (ig, .inl (dg, 43, .inl (bF (mkF R L i n))))] H := hP
      have hD : va_D A [(ir, .inl (dr, 86, .inl R)), (jm, .inr (3, [.int (nI 0), .long sd, .long tp, .int (nI n), .ref ik, .ref iv, .ref ir, .ref il, .ref iy, .ref ig])), (il, .inl (dl, 43, .inl (bF (lvF n L (mkF R L i n))))), (ig, .inl (dg, 43, .inl (bF (mkF R L i n))))] := hD
      refine lv_iload_n hx hb d_M_without_38 rfl (lv_at hl 0 rfl) ?_
      have hP9 := hP.sub (ws' := [(jm, .inr (3, [.int (nI 0), .long sd, .long tp, .int (nI n), .ref ik, .ref iv, .ref ir, .ref il, .ref iy, .ref ig])), (ir, .inl (dr, 86, .inl R)), (il, .inl (dl, 43, .inl (bF (lvF n L (mkF R L i n))))), (ig, .inl (dg, 43, .inl (bF (mkF R L i n))))]) [1, 0, 2, 3] rfl
      have hD9 := hD.sub (ws' := [(jm, .inr (3, [.int (nI 0), .long sd, .long tp, .int (nI n), .ref ik, .ref iv, .ref ir, .ref il, .ref iy, .ref ig])), (ir, .inl (dr, 86, .inl R)), (il, .inl (dl, 43, .inl (bF (lvF n L (mkF R L i n))))), (ig, .inl (dg, 43, .inl (bF (mkF R L i n))))]) [1, 0, 2, 3] (by decide) rfl
      have hK9 := hK.sub (tys' := [(dr, .int), (dl, .boolean), (dg, .boolean)]) [0, 1, 2] rfl
      exact W.iret (v := nI (cnt (mkB R L i) n)) hx hb hr (fun t ht hW => ⟨⟨nI (cnt (mkB R L i) n), (), rfl, rfl, by rw [ht]; exact hP9, va_K.moved hW.alike hK9, hD9⟩, hS.F ht⟩) hS.2.2 d_M_without_39
    · skip
      have c_14 := bI_f c_14
      exact absurd c_14 (by rw [hw9]; decide)
set_option maxHeartbeats 4000000 in
set_option maxRecDepth 100000 in
/-- reference: without, of another -/
theorem c_M_withoutx (l : Launch) (dC : Nat → ClassId) (dI : Nat → Nat → Nat) (jm ik iv ir il iy ig : Nat) (n : Nat) (th : Int32) (sd tp : Int64) (dl : ClassId) (L : Nat → Bool) (p0 : Int32) (hn : n ≤ 43) (hex : hB n p0 = false ∨ L p0.toNatClampNeg = false) (sz : Nat) : Met l y_M_without w_M_without ({ frames := 2, cells := 0, slots := 0, locals := 44 }) (wr_P dC dI [.ref jm, .int p0] [(jm, .inr (3, [.int th, .long sd, .long tp, .int (nI n), .ref ik, .ref iv, .ref ir, .ref il, .ref iy, .ref ig])), (il, .inl (dl, 43, .inl (bF L)))] [(dl, .boolean)] sz) (va_Qi (fun (r : Int32) (_ : Unit) => r = nI 0) (fun (u : Unit) => wr_B dC dI (va_A [(jm, .inr (3, [.int th, .long sd, .long tp, .int (nI n), .ref ik, .ref iv, .ref ir, .ref il, .ref iy, .ref ig])), (il, .inl (dl, 43, .inl (bF L)))] sz) [(jm, .inr (3, [.int (nI 1), .long sd, .long tp, .int (nI n), .ref ik, .ref iv, .ref ir, .ref il, .ref iy, .ref ig])), (il, .inl (dl, 43, .inl (bF L)))] [(dl, .boolean)]) (va_A [(jm, .inr (3, [.int th, .long sd, .long tp, .int (nI n), .ref ik, .ref iv, .ref ir, .ref il, .ref iy, .ref ig])), (il, .inl (dl, 43, .inl (bF L)))] sz)) 0 0 (va_A [(jm, .inr (3, [.int th, .long sd, .long tp, .int (nI n), .ref ik, .ref iv, .ref ir, .ref il, .ref iy, .ref ig])), (il, .inl (dl, 43, .inl (bF L)))] sz) := by
  refine Met.ofW (cc := b_M_without) (maxL := 3) (ret := (Option.some Jvm.ClassFile.FieldType.int)) (by decide) rfl ?_
  intro p e s m args below meth c s₁ B0 hml hv0
  obtain ⟨rfl, hsz, hP, hK, hD0, hN⟩ := hv0
  have hx := B0.exec
  have hb := B0.bytes
  have hr := B0.returns
  have hts := atoms_spec (ws := w_M_without) B0.pre
  have hown : s.vm.findClass R_M = some m.cls := findClass_of_methodNamed B0.named
  have hlocks := B0.notSynchronized
  subst hsz
  have hD := hD0.self (sz := s.heap.size)
  generalize hAe : va_A [(jm, .inr (3, [.int th, .long sd, .long tp, .int (nI n), .ref ik, .ref iv, .ref ir, .ref il, .ref iy, .ref ig])), (il, .inl (dl, 43, .inl (bF L)))] s.heap.size = A at hD ⊢
  have hA : ∀ q : Nat, s.heap.size ≤ q → A q := fun q h => by rw [← hAe]; exact Or.inr h
  have hS : va_S A s.heap s.heap [] := va_S.rf
  have hP : va_P (dC, dI) classes [(jm, .inr (3, [.int th, .long sd, .long tp, .int (nI n), .ref ik, .ref iv, .ref ir, .ref il, .ref iy, .ref ig])), (il, .inl (dl, 43, .inl (bF L)))] s.heap := hP
  have hl := lv_entry ([.ref jm, .int p0]) (n := 3) (Nat.le_of_ble_eq_true rfl)
  rw [lg_entry_eq]
  generalize (lg_sl ([.ref jm, .int p0]) ++ List.replicate (3 - (lg_sl ([.ref jm, .int p0])).length) Slot.unset).toArray = ls at hl ⊢
  have hl : lv_has ls 3 [(0, .ref jm), (1, .int p0)] := hl
  refine lv_aload_n hx hb d_M_without_0 rfl (lv_at hl 0 rfl) ?_
  refine lv_iload_n hx hb d_M_without_1 rfl (lv_at hl 1 rfl) ?_
  have hPc := hP.sub (ws' := [(jm, .inr (3, [.int th, .long sd, .long tp, .int (nI n), .ref ik, .ref iv, .ref ir, .ref il, .ref iy, .ref ig]))]) [0] rfl
  have hKc := hK.sub (tys' := []) [] rfl
  refine vp_callSi (W.runV (As := [.int p0]) (rest := []) ⟨hx, hb, hml, hown, hts⟩ (c_M_isPart l dC dI jm ik iv ir il iy ig n th sd tp p0) (cwV 1 hts (g_V big_w m_411 m_413 ms_26 m_4 m_414) rfl rfl rfl (by decide +kernel) ⟨Nat.le_of_ble_eq_true rfl, Nat.le_of_ble_eq_true rfl⟩) (ro_V hPc hKc hN (va_recv hKc hPc (ci := 3) (q0 := 0) rfl rfl)) rfl rfl hl.1 rfl (lv_room (Nat.le_of_ble_eq_true rfl)) d_M_without_2 ⟨Nat.le_of_ble_eq_true rfl, Nat.le_of_ble_eq_true rfl⟩) (fun r_1 er_1 => ?_)
  have er_1 := er_1.symm
  subst er_1
  refine lv_if_eq (tgt := 17) hx hb d_M_without_5 (by decide) (fun c_5 => ?_) (fun c_5 => ?_)
  · skip
    have c_5 := bI_f c_5
    refine lv_aload_n hx hb d_M_without_17 rfl (lv_at hl 0 rfl) ?_
    refine lv_iconst (v := nI 1) hx hb d_M_without_18 (by decide +kernel) ?_
    have hPc := hP.sub (ws' := [(jm, .inr (3, [.int th, .long sd, .long tp, .int (nI n), .ref ik, .ref iv, .ref ir, .ref il, .ref iy, .ref ig]))]) [0] rfl
    have hKc := hK.sub (tys' := []) [] rfl
    have hDc := hD.sub (ws' := [(jm, .inr (3, [.int th, .long sd, .long tp, .int (nI n), .ref ik, .ref iv, .ref ir, .ref il, .ref iy, .ref ig]))]) [0] (by decide) rfl
    have hFc := va_free (wc := [(jm, .inr (3, [.int th, .long sd, .long tp, .int (nI n), .ref ik, .ref iv, .ref ir, .ref il, .ref iy, .ref ig]))]) hD hS hA [0] rfl
    refine va_calli (va_runV (As := [.int (nI 1)]) (rest := []) ⟨hx, hb, hml, hown, hts⟩ (c_M_refuse l dC dI jm ik iv ir il iy ig n th sd tp (nI 1) _) (cwV 1 hts (g_V big_w m_378 m_380 ms_21 m_4 m_381) rfl rfl rfl (by decide +kernel) ⟨Nat.le_of_ble_eq_true rfl, Nat.le_of_ble_eq_true rfl⟩) (wr_V hPc hKc hDc hN (va_recv hKc hPc (ci := 3) (q0 := 0) rfl rfl)) rfl rfl hl.1 rfl (lv_room (Nat.le_of_ble_eq_true rfl)) d_M_without_19 ⟨Nat.le_of_ble_eq_true rfl, Nat.le_of_ble_eq_true rfl⟩) hS (fun q _ h => hFc q h) hFc (fun r_2 u t H1 locs ht hvm hw hB hz1 hk1 hS => ?_)
    obtain ⟨hP1, hK1, hD1⟩ := hB
    rw [ht] at hP1
    obtain ⟨hP, hD⟩ := va_join (wr := [(il, .inl (dl, 43, .inl (bF L)))]) (w1 := [(jm, .inr (3, [.int (nI 1), .long sd, .long tp, .int (nI n), .ref ik, .ref iv, .ref ir, .ref il, .ref iy, .ref ig]))]) hP hD [0] [1] rfl rfl (by decide) (by decide) hk1 hFc hP1 hD1
    generalize H1 = H at hP hS ⊢
    have hP : va_P (dC, dI) classes [(il, .inl (dl, 43, .inl (bF L))), (jm, .inr (3, [.int (nI 1), .long sd, .long tp, .int (nI n), .ref ik, .ref iv, .ref ir, .ref il, .ref iy, .ref ig]))] H := hP
    have hD : va_D A [(il, .inl (dl, 43, .inl (bF L))), (jm, .inr (3, [.int (nI 1), .long sd, .long tp, .int (nI n), .ref ik, .ref iv, .ref ir, .ref il, .ref iy, .ref ig]))] := hD
    have hw := hw.symm
    subst hw
    have hP9 := hP.sub (ws' := [(jm, .inr (3, [.int (nI 1), .long sd, .long tp, .int (nI n), .ref ik, .ref iv, .ref ir, .ref il, .ref iy, .ref ig])), (il, .inl (dl, 43, .inl (bF L)))]) [1, 0] rfl
    have hD9 := hD.sub (ws' := [(jm, .inr (3, [.int (nI 1), .long sd, .long tp, .int (nI n), .ref ik, .ref iv, .ref ir, .ref il, .ref iy, .ref ig])), (il, .inl (dl, 43, .inl (bF L)))]) [1, 0] (by decide) rfl
    have hK9 := hK.sub (tys' := [(dl, .boolean)]) [0] rfl
    exact W.iret (v := nI 0) hx hb hr (fun t ht hW => ⟨⟨nI 0, (), rfl, rfl, by rw [ht]; exact hP9, va_K.moved hW.alike hK9, hD9⟩, hS.F ht⟩) hS.2.2 d_M_without_22
  · skip
    have c_5 := bI_t c_5
    refine lv_aload_n hx hb d_M_without_8 rfl (lv_at hl 0 rfl) ?_
    refine va_get (D := (dC, dI)) (ci := 3) (v := .ref il) (C := R_M) (T := F_M) (N := 10) hx hb hts (lay_M _) hown hK hP 0 rfl rfl 7 (by decide) (hts _ (List.mem_cons_of_mem _ m_343)) (fun _ h9 => h9) rfl d_M_without_9 ?_
    refine lv_iload_n hx hb d_M_without_12 rfl (lv_at hl 1 rfl) ?_
    refine va_zald hx hb hK hP 1 0 rfl rfl (hB_in c_5 hn) d_M_without_13 ?_
    refine lv_topi (fun w_3 ew_3 => ?_)
    have ew_3 : (bI (L p0.toNatClampNeg)) = w_3 := (ew_3.trans (rfl)).symm
    subst ew_3
    refine lv_if_ne (tgt := 23) hx hb d_M_without_14 (by decide) (fun c_14 => ?_) (fun c_14 => ?_)
    · skip
      have c_14 := bI_t c_14
      exact absurd c_14 (by rw [c_5] at hex; rw [hex.resolve_left (by decide)]; decide)
    · skip
      have c_14 := bI_f c_14
      refine lv_aload_n hx hb d_M_without_17 rfl (lv_at hl 0 rfl) ?_
      refine lv_iconst (v := nI 1) hx hb d_M_without_18 (by decide +kernel) ?_
      have hPc := hP.sub (ws' := [(jm, .inr (3, [.int th, .long sd, .long tp, .int (nI n), .ref ik, .ref iv, .ref ir, .ref il, .ref iy, .ref ig]))]) [0] rfl
      have hKc := hK.sub (tys' := []) [] rfl
      have hDc := hD.sub (ws' := [(jm, .inr (3, [.int th, .long sd, .long tp, .int (nI n), .ref ik, .ref iv, .ref ir, .ref il, .ref iy, .ref ig]))]) [0] (by decide) rfl
      have hFc := va_free (wc := [(jm, .inr (3, [.int th, .long sd, .long tp, .int (nI n), .ref ik, .ref iv, .ref ir, .ref il, .ref iy, .ref ig]))]) hD hS hA [0] rfl
      refine va_calli (va_runV (As := [.int (nI 1)]) (rest := []) ⟨hx, hb, hml, hown, hts⟩ (c_M_refuse l dC dI jm ik iv ir il iy ig n th sd tp (nI 1) _) (cwV 1 hts (g_V big_w m_378 m_380 ms_21 m_4 m_381) rfl rfl rfl (by decide +kernel) ⟨Nat.le_of_ble_eq_true rfl, Nat.le_of_ble_eq_true rfl⟩) (wr_V hPc hKc hDc hN (va_recv hKc hPc (ci := 3) (q0 := 0) rfl rfl)) rfl rfl hl.1 rfl (lv_room (Nat.le_of_ble_eq_true rfl)) d_M_without_19 ⟨Nat.le_of_ble_eq_true rfl, Nat.le_of_ble_eq_true rfl⟩) hS (fun q _ h => hFc q h) hFc (fun r_4 u t H1 locs ht hvm hw hB hz1 hk1 hS => ?_)
      obtain ⟨hP1, hK1, hD1⟩ := hB
      rw [ht] at hP1
      obtain ⟨hP, hD⟩ := va_join (wr := [(il, .inl (dl, 43, .inl (bF L)))]) (w1 := [(jm, .inr (3, [.int (nI 1), .long sd, .long tp, .int (nI n), .ref ik, .ref iv, .ref ir, .ref il, .ref iy, .ref ig]))]) hP hD [0] [1] rfl rfl (by decide) (by decide) hk1 hFc hP1 hD1
      generalize H1 = H at hP hS ⊢
      have hP : va_P (dC, dI) classes [(il, .inl (dl, 43, .inl (bF L))), (jm, .inr (3, [.int (nI 1), .long sd, .long tp, .int (nI n), .ref ik, .ref iv, .ref ir, .ref il, .ref iy, .ref ig]))] H := hP
      have hD : va_D A [(il, .inl (dl, 43, .inl (bF L))), (jm, .inr (3, [.int (nI 1), .long sd, .long tp, .int (nI n), .ref ik, .ref iv, .ref ir, .ref il, .ref iy, .ref ig]))] := hD
      have hw := hw.symm
      subst hw
      have hP9 := hP.sub (ws' := [(jm, .inr (3, [.int (nI 1), .long sd, .long tp, .int (nI n), .ref ik, .ref iv, .ref ir, .ref il, .ref iy, .ref ig])), (il, .inl (dl, 43, .inl (bF L)))]) [1, 0] rfl
      have hD9 := hD.sub (ws' := [(jm, .inr (3, [.int (nI 1), .long sd, .long tp, .int (nI n), .ref ik, .ref iv, .ref ir, .ref il, .ref iy, .ref ig])), (il, .inl (dl, 43, .inl (bF L)))]) [1, 0] (by decide) rfl
      have hK9 := hK.sub (tys' := [(dl, .boolean)]) [0] rfl
      exact W.iret (v := nI 0) hx hb hr (fun t ht hW => ⟨⟨nI 0, (), rfl, rfl, by rw [ht]; exact hP9, va_K.moved hW.alike hK9, hD9⟩, hS.F ht⟩) hS.2.2 d_M_without_22
set_option maxHeartbeats 4000000 in
set_option maxRecDepth 100000 in
/-- reference: part, where there is one -/
theorem c_M_part (l : Launch) (dC : Nat → ClassId) (dI : Nat → Nat → Nat) (jm ik iv ir il iy ig : Nat) (n : Nat) (th : Int32) (sd tp : Int64) (dk dv dr dl : ClassId) (K V R : Nat → Int32) (L : Nat → Bool) (i0 : Nat) (p1 : Int32) (hn : n ≤ 43) (hi0 : i0 < n) (h4 : ¬ (p1.toInt < 0 ∨ 4 < p1.toInt)) (sz : Nat) : Met l y_M_part w_M_part ({ frames := 1, cells := 0, slots := 0, locals := 22 }) (wr_P dC dI [.ref jm, .int (nI i0), .int p1] [(jm, .inr (3, [.int th, .long sd, .long tp, .int (nI n), .ref ik, .ref iv, .ref ir, .ref il, .ref iy, .ref ig])), (ik, .inl (dk, 86, .inl K)), (iv, .inl (dv, 86, .inl V)), (ir, .inl (dr, 86, .inl R)), (il, .inl (dl, 43, .inl (bF L)))] [(dk, .int), (dv, .int), (dr, .int), (dl, .boolean)] sz) (va_Qi (fun (r : Int32) (_ : Unit) => r = pmI K V R L i0 p1) (fun (u : Unit) => wr_B dC dI (va_A [(jm, .inr (3, [.int th, .long sd, .long tp, .int (nI n), .ref ik, .ref iv, .ref ir, .ref il, .ref iy, .ref ig])), (ik, .inl (dk, 86, .inl K)), (iv, .inl (dv, 86, .inl V)), (ir, .inl (dr, 86, .inl R)), (il, .inl (dl, 43, .inl (bF L)))] sz) [(jm, .inr (3, [.int (nI 0), .long sd, .long tp, .int (nI n), .ref ik, .ref iv, .ref ir, .ref il, .ref iy, .ref ig])), (ik, .inl (dk, 86, .inl K)), (iv, .inl (dv, 86, .inl V)), (ir, .inl (dr, 86, .inl R)), (il, .inl (dl, 43, .inl (bF L)))] [(dk, .int), (dv, .int), (dr, .int), (dl, .boolean)]) (va_A [(jm, .inr (3, [.int th, .long sd, .long tp, .int (nI n), .ref ik, .ref iv, .ref ir, .ref il, .ref iy, .ref ig])), (ik, .inl (dk, 86, .inl K)), (iv, .inl (dv, 86, .inl V)), (ir, .inl (dr, 86, .inl R)), (il, .inl (dl, 43, .inl (bF L)))] sz)) 0 0 (va_A [(jm, .inr (3, [.int th, .long sd, .long tp, .int (nI n), .ref ik, .ref iv, .ref ir, .ref il, .ref iy, .ref ig])), (ik, .inl (dk, 86, .inl K)), (iv, .inl (dv, 86, .inl V)), (ir, .inl (dr, 86, .inl R)), (il, .inl (dl, 43, .inl (bF L)))] sz) := by
  refine Met.ofW (cc := b_M_part) (maxL := 5) (ret := (Option.some Jvm.ClassFile.FieldType.int)) (by decide) rfl ?_
  intro p e s m args below meth c s₁ B0 hml hv0
  obtain ⟨rfl, hsz, hP, hK, hD0, hN⟩ := hv0
  have hx := B0.exec
  have hb := B0.bytes
  have hr := B0.returns
  have hts := atoms_spec (ws := w_M_part) B0.pre
  have hown : s.vm.findClass R_M = some m.cls := findClass_of_methodNamed B0.named
  have hlocks := B0.notSynchronized
  subst hsz
  have hD := hD0.self (sz := s.heap.size)
  generalize hAe : va_A [(jm, .inr (3, [.int th, .long sd, .long tp, .int (nI n), .ref ik, .ref iv, .ref ir, .ref il, .ref iy, .ref ig])), (ik, .inl (dk, 86, .inl K)), (iv, .inl (dv, 86, .inl V)), (ir, .inl (dr, 86, .inl R)), (il, .inl (dl, 43, .inl (bF L)))] s.heap.size = A at hD ⊢
  have hA : ∀ q : Nat, s.heap.size ≤ q → A q := fun q h => by rw [← hAe]; exact Or.inr h
  have hS : va_S A s.heap s.heap [] := va_S.rf
  have hP : va_P (dC, dI) classes [(jm, .inr (3, [.int th, .long sd, .long tp, .int (nI n), .ref ik, .ref iv, .ref ir, .ref il, .ref iy, .ref ig])), (ik, .inl (dk, 86, .inl K)), (iv, .inl (dv, 86, .inl V)), (ir, .inl (dr, 86, .inl R)), (il, .inl (dl, 43, .inl (bF L)))] s.heap := hP
  have hl := lv_entry ([.ref jm, .int (nI i0), .int p1]) (n := 5) (Nat.le_of_ble_eq_true rfl)
  rw [lg_entry_eq]
  generalize (lg_sl ([.ref jm, .int (nI i0), .int p1]) ++ List.replicate (5 - (lg_sl ([.ref jm, .int (nI i0), .int p1])).length) Slot.unset).toArray = ls at hl ⊢
  have hl : lv_has ls 5 [(0, .ref jm), (1, .int (nI i0)), (2, .int p1)] := hl
  refine lv_aload_n hx hb d_M_part_0 rfl (lv_at hl 0 rfl) ?_
  refine lv_iload_n hx hb d_M_part_1 rfl (lv_at hl 1 rfl) ?_
  have hPc := hP.sub (ws' := [(jm, .inr (3, [.int th, .long sd, .long tp, .int (nI n), .ref ik, .ref iv, .ref ir, .ref il, .ref iy, .ref ig]))]) [0] rfl
  have hKc := hK.sub (tys' := []) [] rfl
  refine vp_callSi (W.runV (As := [.int (nI i0)]) (rest := []) ⟨hx, hb, hml, hown, hts⟩ (c_M_isPart l dC dI jm ik iv ir il iy ig n th sd tp (nI i0)) (cwV 1 hts (g_V big_w m_411 m_413 ms_26 m_4 m_414) rfl rfl rfl (by decide +kernel) ⟨Nat.le_of_ble_eq_true rfl, Nat.le_of_ble_eq_true rfl⟩) (ro_V hPc hKc hN (va_recv hKc hPc (ci := 3) (q0 := 0) rfl rfl)) rfl rfl hl.1 rfl (lv_room (Nat.le_of_ble_eq_true rfl)) d_M_part_2 ⟨Nat.le_of_ble_eq_true rfl, Nat.le_of_ble_eq_true rfl⟩) (fun r_1 er_1 => ?_)
  have er_1 := er_1.symm
  subst er_1
  refine lv_if_eq (tgt := 17) hx hb d_M_part_5 (by decide) (fun c_5 => ?_) (fun c_5 => ?_)
  · skip
    have c_5 := bI_f c_5
    exact absurd c_5 (by rw [hB_nI hi0 (by omega)]; decide)
  · skip
    have c_5 := bI_t c_5
    refine lv_iload_n hx hb d_M_part_8 rfl (lv_at hl 2 rfl) ?_
    refine lv_iconst (v := nI 0) hx hb d_M_part_9 (by decide +kernel) ?_
    refine lv_iconst (v := nI 4) hx hb d_M_part_10 (by decide +kernel) ?_
    have hPc := hP.sub (ws' := []) [] rfl
    have hKc := hK.sub (tys' := []) [] rfl
    refine vp_callSi (W.runS (As := [.int p1, .int (nI 0), .int (nI 4)]) (rest := []) ⟨hx, hb, hml, hown, hts⟩ (c_M_in_ l dC dI p1 (nI 0) (nI 4)) (va_cwS 3 hts (g_S big_w m_375 m_376 m_4 m_377) rfl rfl rfl (by decide +kernel) ⟨Nat.le_of_ble_eq_true rfl, Nat.le_of_ble_eq_true rfl⟩) (ro_S hPc hKc hN) rfl rfl hl.1 rfl (lv_room (Nat.le_of_ble_eq_true rfl)) d_M_part_11 ⟨Nat.le_of_ble_eq_true rfl, Nat.le_of_ble_eq_true rfl⟩) (fun r_2 er_2 => ?_)
    have er_2 := er_2.symm
    subst er_2
    refine lv_if_ne (tgt := 23) hx hb d_M_part_14 (by decide) (fun c_14 => ?_) (fun c_14 => ?_)
    · skip
      have c_14 := bI_t c_14
      refine lv_aload_n hx hb d_M_part_23 rfl (lv_at hl 0 rfl) ?_
      refine lv_iconst (v := nI 0) hx hb d_M_part_24 (by decide +kernel) ?_
      refine va_put (D := (dC, dI)) (ci := 3) (v := .int (nI 0)) (ty := .int) (C := R_M) (T := F_M) (N := 10) hx hb hts (lay_M _) ft_M tok_M nok_M hown hK hP hD hS 0 rfl rfl 0 (by decide) (hts _ (List.mem_cons_of_mem _ m_336)) (fun _ h9 => h9) rfl (by decide +kernel) rfl rfl (Nat.le_of_ble_eq_true rfl) d_M_part_25 (fun H locs hP hD hS => ?_)
      have hP : va_P (dC, dI) classes [(jm, .inr (3, [.int (nI 0), .long sd, .long tp, .int (nI n), .ref ik, .ref iv, .ref ir, .ref il, .ref iy, .ref ig])), (ik, .inl (dk, 86, .inl K)), (iv, .inl (dv, 86, .inl V)), (ir, .inl (dr, 86, .inl R)), (il, .inl (dl, 43, .inl (bF L)))] H := hP
      have hD : va_D A [(jm, .inr (3, [.int (nI 0), .long sd, .long tp, .int (nI n), .ref ik, .ref iv, .ref ir, .ref il, .ref iy, .ref ig])), (ik, .inl (dk, 86, .inl K)), (iv, .inl (dv, 86, .inl V)), (ir, .inl (dr, 86, .inl R)), (il, .inl (dl, 43, .inl (bF L)))] := hD
      refine lv_iconst (v := nI 0) hx hb d_M_part_28 (by decide +kernel) ?_
      refine lv_istore_n (lv' := [(3, .int (nI 0)), (0, .ref jm), (1, .int (nI i0)), (2, .int p1)]) hx hb d_M_part_29 rfl hl (by decide) rfl (fun ls hl => ?_)
      refine lv_iconst (v := nI 0) hx hb d_M_part_30 (by decide +kernel) ?_
      refine lv_istore (lv' := [(4, .int (nI 0)), (3, .int (nI 0)), (0, .ref jm), (1, .int (nI i0)), (2, .int p1)]) hx hb d_M_part_31 hl (by decide) rfl (fun ls hl => ?_)
      have lp_33 : ∀ (k9_33 : Nat), ∀ (i : Nat), i0 - i < k9_33 → (i ≤ i0) → ∀ (ls : Array Slot), lv_has ls 5 [(0, .ref jm), (1, .int (nI i0)), (2, .int p1), (3, .int (nI (cnt (kP K (K i0)) i))), (4, .int (nI i))] → W p l e (headSpec w_M_part ({ frames := 1, cells := 0, slots := 0, locals := 22 })).room s m ([.ref jm, .int (nI i0), .int p1]).toArray below meth c H locs 0 0 (MQ below (va_Qi (fun (r : Int32) (_ : Unit) => r = pmI K V R L i0 p1) (fun (u : Unit) => wr_B dC dI (A) [(jm, .inr (3, [.int (nI 0), .long sd, .long tp, .int (nI n), .ref ik, .ref iv, .ref ir, .ref il, .ref iy, .ref ig])), (ik, .inl (dk, 86, .inl K)), (iv, .inl (dv, 86, .inl V)), (ir, .inl (dr, 86, .inl R)), (il, .inl (dl, 43, .inl (bF L)))] [(dk, .int), (dv, .int), (dr, .int), (dl, .boolean)]) (A)) ([.ref jm, .int (nI i0), .int p1]).toArray s 0 0 A) (F0 m 33 ls []) := by
        intro k9_33
        induction k9_33 with
        | zero =>
          intro i hk9
          exact absurd hk9 (Nat.not_lt_zero _)
        | succ k9_33 ih_33 =>
          intro i hk9_33 hi ls hl
          refine lv_iload hx hb d_M_part_33 (lv_at hl 4 rfl) ?_
          refine lv_iload_n hx hb d_M_part_35 rfl (lv_at hl 1 rfl) ?_
          refine lv_icmp_ge (tgt := 69) hx hb d_M_part_36 (by decide) (fun c_36 => ?_) (fun c_36 => ?_)
          · skip
            have c_36 := (nI_leI (by omega) (by omega)).mp c_36
            refine lv_iload_n hx hb d_M_part_69 rfl (lv_at hl 2 rfl) ?_
            refine lv_if_ne (tgt := 82) hx hb d_M_part_70 (by decide) (fun c_70 => ?_) (fun c_70 => ?_)
            · skip
              rw [← nI_0] at c_70
              refine lv_iload_n hx hb d_M_part_82 rfl (lv_at hl 2 rfl) ?_
              refine lv_iconst (v := nI 1) hx hb d_M_part_83 (by decide +kernel) ?_
              refine lv_icmp_ne (tgt := 91) hx hb d_M_part_84 (by decide) (fun c_84 => ?_) (fun c_84 => ?_)
              · skip
                refine lv_iload_n hx hb d_M_part_91 rfl (lv_at hl 2 rfl) ?_
                refine lv_iconst (v := nI 2) hx hb d_M_part_92 (by decide +kernel) ?_
                refine lv_icmp_ne (tgt := 105) hx hb d_M_part_93 (by decide) (fun c_93 => ?_) (fun c_93 => ?_)
                · skip
                  refine lv_iload_n hx hb d_M_part_105 rfl (lv_at hl 2 rfl) ?_
                  refine lv_iconst (v := nI 3) hx hb d_M_part_106 (by decide +kernel) ?_
                  refine lv_icmp_ne (tgt := 119) hx hb d_M_part_107 (by decide) (fun c_107 => ?_) (fun c_107 => ?_)
                  · skip
                    refine lv_aload_n hx hb d_M_part_119 rfl (lv_at hl 0 rfl) ?_
                    refine va_get (D := (dC, dI)) (ci := 3) (v := .ref il) (C := R_M) (T := F_M) (N := 10) hx hb hts (lay_M _) hown hK hP 0 rfl rfl 7 (by decide) (hts _ (List.mem_cons_of_mem _ m_343)) (fun _ h9 => h9) rfl d_M_part_120 ?_
                    refine lv_iload_n hx hb d_M_part_123 rfl (lv_at hl 1 rfl) ?_
                    refine va_zald hx hb hK hP 4 3 rfl rfl (vp_in_nI (by omega) (by omega)) d_M_part_124 ?_
                    refine lv_topi (fun w_3 ew_3 => ?_)
                    have ew_3 : (bI (L i0)) = w_3 := (ew_3.trans (by rw [nI_clamp (by omega)]; rfl)).symm
                    subst ew_3
                    refine lv_if_eq (tgt := 132) hx hb d_M_part_125 (by decide) (fun c_125 => ?_) (fun c_125 => ?_)
                    · skip
                      have c_125 := bI_f c_125
                      refine lv_iconst (v := nI 0) hx hb d_M_part_132 (by decide +kernel) ?_
                      have hP9 := hP.sub (ws' := [(jm, .inr (3, [.int (nI 0), .long sd, .long tp, .int (nI n), .ref ik, .ref iv, .ref ir, .ref il, .ref iy, .ref ig])), (ik, .inl (dk, 86, .inl K)), (iv, .inl (dv, 86, .inl V)), (ir, .inl (dr, 86, .inl R)), (il, .inl (dl, 43, .inl (bF L)))]) [0, 1, 2, 3, 4] rfl
                      have hD9 := hD.sub (ws' := [(jm, .inr (3, [.int (nI 0), .long sd, .long tp, .int (nI n), .ref ik, .ref iv, .ref ir, .ref il, .ref iy, .ref ig])), (ik, .inl (dk, 86, .inl K)), (iv, .inl (dv, 86, .inl V)), (ir, .inl (dr, 86, .inl R)), (il, .inl (dl, 43, .inl (bF L)))]) [0, 1, 2, 3, 4] (by decide) rfl
                      have hK9 := hK.sub (tys' := [(dk, .int), (dv, .int), (dr, .int), (dl, .boolean)]) [0, 1, 2, 3] rfl
                      exact W.iret (v := nI 0) hx hb hr (fun t ht hW => ⟨⟨nI 0, (), rfl, (by unfold pmI; first | (rw [if_pos c_70]) | (rw [if_neg c_70, if_pos c_84, show i = i0 by omega]) | (rw [if_neg c_70, if_neg c_84, if_pos c_93]) | (rw [if_neg c_70, if_neg c_84, if_neg c_93, if_pos c_107]) | (rw [if_neg c_70, if_neg c_84, if_neg c_93, if_neg c_107, c_125]; rfl)), by rw [ht]; exact hP9, va_K.moved hW.alike hK9, hD9⟩, hS.F ht⟩) hS.2.2 d_M_part_133
                    · skip
                      have c_125 := bI_t c_125
                      refine lv_iconst (v := nI 1) hx hb d_M_part_128 (by decide +kernel) ?_
                      refine lv_goto (tgt := 133) hx hb d_M_part_129 (by decide) ?_
                      have hP9 := hP.sub (ws' := [(jm, .inr (3, [.int (nI 0), .long sd, .long tp, .int (nI n), .ref ik, .ref iv, .ref ir, .ref il, .ref iy, .ref ig])), (ik, .inl (dk, 86, .inl K)), (iv, .inl (dv, 86, .inl V)), (ir, .inl (dr, 86, .inl R)), (il, .inl (dl, 43, .inl (bF L)))]) [0, 1, 2, 3, 4] rfl
                      have hD9 := hD.sub (ws' := [(jm, .inr (3, [.int (nI 0), .long sd, .long tp, .int (nI n), .ref ik, .ref iv, .ref ir, .ref il, .ref iy, .ref ig])), (ik, .inl (dk, 86, .inl K)), (iv, .inl (dv, 86, .inl V)), (ir, .inl (dr, 86, .inl R)), (il, .inl (dl, 43, .inl (bF L)))]) [0, 1, 2, 3, 4] (by decide) rfl
                      have hK9 := hK.sub (tys' := [(dk, .int), (dv, .int), (dr, .int), (dl, .boolean)]) [0, 1, 2, 3] rfl
                      exact W.iret (v := nI 1) hx hb hr (fun t ht hW => ⟨⟨nI 1, (), rfl, (by unfold pmI; first | (rw [if_pos c_70]) | (rw [if_neg c_70, if_pos c_84, show i = i0 by omega]) | (rw [if_neg c_70, if_neg c_84, if_pos c_93]) | (rw [if_neg c_70, if_neg c_84, if_neg c_93, if_pos c_107]) | (rw [if_neg c_70, if_neg c_84, if_neg c_93, if_neg c_107, c_125]; rfl)), by rw [ht]; exact hP9, va_K.moved hW.alike hK9, hD9⟩, hS.F ht⟩) hS.2.2 d_M_part_133
                  · skip
                    refine lv_aload_n hx hb d_M_part_110 rfl (lv_at hl 0 rfl) ?_
                    refine va_get (D := (dC, dI)) (ci := 3) (v := .ref ir) (C := R_M) (T := F_M) (N := 10) hx hb hts (lay_M _) hown hK hP 0 rfl rfl 6 (by decide) (hts _ (List.mem_cons_of_mem _ m_342)) (fun _ h9 => h9) rfl d_M_part_111 ?_
                    refine lv_iload_n hx hb d_M_part_114 rfl (lv_at hl 1 rfl) ?_
                    refine va_iald hx hb hK hP 3 2 rfl rfl (vp_in_nI (by omega) (by omega)) d_M_part_115 ?_
                    refine lv_topi (fun w_4 ew_4 => ?_)
                    rw [nI_clamp (by omega)] at ew_4
                    have ew_4 := ew_4.symm
                    subst ew_4
                    refine lv_goto (tgt := 133) hx hb d_M_part_116 (by decide) ?_
                    have hP9 := hP.sub (ws' := [(jm, .inr (3, [.int (nI 0), .long sd, .long tp, .int (nI n), .ref ik, .ref iv, .ref ir, .ref il, .ref iy, .ref ig])), (ik, .inl (dk, 86, .inl K)), (iv, .inl (dv, 86, .inl V)), (ir, .inl (dr, 86, .inl R)), (il, .inl (dl, 43, .inl (bF L)))]) [0, 1, 2, 3, 4] rfl
                    have hD9 := hD.sub (ws' := [(jm, .inr (3, [.int (nI 0), .long sd, .long tp, .int (nI n), .ref ik, .ref iv, .ref ir, .ref il, .ref iy, .ref ig])), (ik, .inl (dk, 86, .inl K)), (iv, .inl (dv, 86, .inl V)), (ir, .inl (dr, 86, .inl R)), (il, .inl (dl, 43, .inl (bF L)))]) [0, 1, 2, 3, 4] (by decide) rfl
                    have hK9 := hK.sub (tys' := [(dk, .int), (dv, .int), (dr, .int), (dl, .boolean)]) [0, 1, 2, 3] rfl
                    exact W.iret (v := R i0) hx hb hr (fun t ht hW => ⟨⟨R i0, (), rfl, (by unfold pmI; first | (rw [if_pos c_70]) | (rw [if_neg c_70, if_pos c_84, show i = i0 by omega]) | (rw [if_neg c_70, if_neg c_84, if_pos c_93]) | (rw [if_neg c_70, if_neg c_84, if_neg c_93, if_pos c_107]) | (rw [if_neg c_70, if_neg c_84, if_neg c_93, if_neg c_107, c_125]; rfl)), by rw [ht]; exact hP9, va_K.moved hW.alike hK9, hD9⟩, hS.F ht⟩) hS.2.2 d_M_part_133
                · skip
                  refine lv_aload_n hx hb d_M_part_96 rfl (lv_at hl 0 rfl) ?_
                  refine va_get (D := (dC, dI)) (ci := 3) (v := .ref iv) (C := R_M) (T := F_M) (N := 10) hx hb hts (lay_M _) hown hK hP 0 rfl rfl 5 (by decide) (hts _ (List.mem_cons_of_mem _ m_341)) (fun _ h9 => h9) rfl d_M_part_97 ?_
                  refine lv_iload_n hx hb d_M_part_100 rfl (lv_at hl 1 rfl) ?_
                  refine va_iald hx hb hK hP 2 1 rfl rfl (vp_in_nI (by omega) (by omega)) d_M_part_101 ?_
                  refine lv_topi (fun w_5 ew_5 => ?_)
                  rw [nI_clamp (by omega)] at ew_5
                  have ew_5 := ew_5.symm
                  subst ew_5
                  refine lv_goto (tgt := 133) hx hb d_M_part_102 (by decide) ?_
                  have hP9 := hP.sub (ws' := [(jm, .inr (3, [.int (nI 0), .long sd, .long tp, .int (nI n), .ref ik, .ref iv, .ref ir, .ref il, .ref iy, .ref ig])), (ik, .inl (dk, 86, .inl K)), (iv, .inl (dv, 86, .inl V)), (ir, .inl (dr, 86, .inl R)), (il, .inl (dl, 43, .inl (bF L)))]) [0, 1, 2, 3, 4] rfl
                  have hD9 := hD.sub (ws' := [(jm, .inr (3, [.int (nI 0), .long sd, .long tp, .int (nI n), .ref ik, .ref iv, .ref ir, .ref il, .ref iy, .ref ig])), (ik, .inl (dk, 86, .inl K)), (iv, .inl (dv, 86, .inl V)), (ir, .inl (dr, 86, .inl R)), (il, .inl (dl, 43, .inl (bF L)))]) [0, 1, 2, 3, 4] (by decide) rfl
                  have hK9 := hK.sub (tys' := [(dk, .int), (dv, .int), (dr, .int), (dl, .boolean)]) [0, 1, 2, 3] rfl
                  exact W.iret (v := V i0) hx hb hr (fun t ht hW => ⟨⟨V i0, (), rfl, (by unfold pmI; first | (rw [if_pos c_70]) | (rw [if_neg c_70, if_pos c_84, show i = i0 by omega]) | (rw [if_neg c_70, if_neg c_84, if_pos c_93]) | (rw [if_neg c_70, if_neg c_84, if_neg c_93, if_pos c_107]) | (rw [if_neg c_70, if_neg c_84, if_neg c_93, if_neg c_107, c_125]; rfl)), by rw [ht]; exact hP9, va_K.moved hW.alike hK9, hD9⟩, hS.F ht⟩) hS.2.2 d_M_part_133
              · skip
                refine lv_iload_n hx hb d_M_part_87 rfl (lv_at hl 3 rfl) ?_
                refine lv_goto (tgt := 133) hx hb d_M_part_88 (by decide) ?_
                have hP9 := hP.sub (ws' := [(jm, .inr (3, [.int (nI 0), .long sd, .long tp, .int (nI n), .ref ik, .ref iv, .ref ir, .ref il, .ref iy, .ref ig])), (ik, .inl (dk, 86, .inl K)), (iv, .inl (dv, 86, .inl V)), (ir, .inl (dr, 86, .inl R)), (il, .inl (dl, 43, .inl (bF L)))]) [0, 1, 2, 3, 4] rfl
                have hD9 := hD.sub (ws' := [(jm, .inr (3, [.int (nI 0), .long sd, .long tp, .int (nI n), .ref ik, .ref iv, .ref ir, .ref il, .ref iy, .ref ig])), (ik, .inl (dk, 86, .inl K)), (iv, .inl (dv, 86, .inl V)), (ir, .inl (dr, 86, .inl R)), (il, .inl (dl, 43, .inl (bF L)))]) [0, 1, 2, 3, 4] (by decide) rfl
                have hK9 := hK.sub (tys' := [(dk, .int), (dv, .int), (dr, .int), (dl, .boolean)]) [0, 1, 2, 3] rfl
                exact W.iret (v := nI (cnt (kP K (K i0)) i)) hx hb hr (fun t ht hW => ⟨⟨nI (cnt (kP K (K i0)) i), (), rfl, (by unfold pmI; first | (rw [if_pos c_70]) | (rw [if_neg c_70, if_pos c_84, show i = i0 by omega]) | (rw [if_neg c_70, if_neg c_84, if_pos c_93]) | (rw [if_neg c_70, if_neg c_84, if_neg c_93, if_pos c_107]) | (rw [if_neg c_70, if_neg c_84, if_neg c_93, if_neg c_107, c_125]; rfl)), by rw [ht]; exact hP9, va_K.moved hW.alike hK9, hD9⟩, hS.F ht⟩) hS.2.2 d_M_part_133
            · skip
              rw [← nI_0] at c_70
              refine lv_aload_n hx hb d_M_part_73 rfl (lv_at hl 0 rfl) ?_
              refine va_get (D := (dC, dI)) (ci := 3) (v := .ref ik) (C := R_M) (T := F_M) (N := 10) hx hb hts (lay_M _) hown hK hP 0 rfl rfl 4 (by decide) (hts _ (List.mem_cons_of_mem _ m_340)) (fun _ h9 => h9) rfl d_M_part_74 ?_
              refine lv_iload_n hx hb d_M_part_77 rfl (lv_at hl 1 rfl) ?_
              refine va_iald hx hb hK hP 1 0 rfl rfl (vp_in_nI (by omega) (by omega)) d_M_part_78 ?_
              refine lv_topi (fun w_6 ew_6 => ?_)
              rw [nI_clamp (by omega)] at ew_6
              have ew_6 := ew_6.symm
              subst ew_6
              refine lv_goto (tgt := 133) hx hb d_M_part_79 (by decide) ?_
              have hP9 := hP.sub (ws' := [(jm, .inr (3, [.int (nI 0), .long sd, .long tp, .int (nI n), .ref ik, .ref iv, .ref ir, .ref il, .ref iy, .ref ig])), (ik, .inl (dk, 86, .inl K)), (iv, .inl (dv, 86, .inl V)), (ir, .inl (dr, 86, .inl R)), (il, .inl (dl, 43, .inl (bF L)))]) [0, 1, 2, 3, 4] rfl
              have hD9 := hD.sub (ws' := [(jm, .inr (3, [.int (nI 0), .long sd, .long tp, .int (nI n), .ref ik, .ref iv, .ref ir, .ref il, .ref iy, .ref ig])), (ik, .inl (dk, 86, .inl K)), (iv, .inl (dv, 86, .inl V)), (ir, .inl (dr, 86, .inl R)), (il, .inl (dl, 43, .inl (bF L)))]) [0, 1, 2, 3, 4] (by decide) rfl
              have hK9 := hK.sub (tys' := [(dk, .int), (dv, .int), (dr, .int), (dl, .boolean)]) [0, 1, 2, 3] rfl
              exact W.iret (v := K i0) hx hb hr (fun t ht hW => ⟨⟨K i0, (), rfl, (by unfold pmI; first | (rw [if_pos c_70]) | (rw [if_neg c_70, if_pos c_84, show i = i0 by omega]) | (rw [if_neg c_70, if_neg c_84, if_pos c_93]) | (rw [if_neg c_70, if_neg c_84, if_neg c_93, if_pos c_107]) | (rw [if_neg c_70, if_neg c_84, if_neg c_93, if_neg c_107, c_125]; rfl)), by rw [ht]; exact hP9, va_K.moved hW.alike hK9, hD9⟩, hS.F ht⟩) hS.2.2 d_M_part_133
          · skip
            have c_36 := (not_congr (nI_leI (by omega) (by omega))).mp c_36
            refine lv_iload_n hx hb d_M_part_39 rfl (lv_at hl 3 rfl) ?_
            refine lv_aload_n hx hb d_M_part_40 rfl (lv_at hl 0 rfl) ?_
            refine va_get (D := (dC, dI)) (ci := 3) (v := .ref ik) (C := R_M) (T := F_M) (N := 10) hx hb hts (lay_M _) hown hK hP 0 rfl rfl 4 (by decide) (hts _ (List.mem_cons_of_mem _ m_340)) (fun _ h9 => h9) rfl d_M_part_41 ?_
            refine lv_iload hx hb d_M_part_44 (lv_at hl 4 rfl) ?_
            refine va_iald hx hb hK hP 1 0 rfl rfl (vp_in_nI (by omega) (by omega)) d_M_part_46 ?_
            refine lv_topi (fun w_7 ew_7 => ?_)
            rw [nI_clamp (by omega)] at ew_7
            have ew_7 := ew_7.symm
            subst ew_7
            refine lv_aload_n hx hb d_M_part_47 rfl (lv_at hl 0 rfl) ?_
            refine va_get (D := (dC, dI)) (ci := 3) (v := .ref ik) (C := R_M) (T := F_M) (N := 10) hx hb hts (lay_M _) hown hK hP 0 rfl rfl 4 (by decide) (hts _ (List.mem_cons_of_mem _ m_340)) (fun _ h9 => h9) rfl d_M_part_48 ?_
            refine lv_iload_n hx hb d_M_part_51 rfl (lv_at hl 1 rfl) ?_
            refine va_iald hx hb hK hP 1 0 rfl rfl (vp_in_nI (by omega) (by omega)) d_M_part_52 ?_
            refine lv_topi (fun w_8 ew_8 => ?_)
            rw [nI_clamp (by omega)] at ew_8
            have ew_8 := ew_8.symm
            subst ew_8
            refine lv_icmp_ne (tgt := 60) hx hb d_M_part_53 (by decide) (fun c_53 => ?_) (fun c_53 => ?_)
            · skip
              refine lv_iconst (v := nI 0) hx hb d_M_part_60 (by decide +kernel) ?_
              refine lv_iadd hx hb d_M_part_61 ?_
              refine lv_topi (fun w_9 ew_9 => ?_)
              have ew_9 : (nI (cnt (kP K (K i0)) (i + 1))) = w_9 := (ew_9.trans (by first | (rw [cnt_t (P := kP K (K i0)) (n := i) (decide_eq_true c_53)]; exact nI_add _ _) | (rw [cnt_f (P := kP K (K i0)) (n := i) (decide_eq_false c_53)]; exact nI_add _ _))).symm
              subst ew_9
              refine lv_istore_n (lv' := [(3, .int (nI (cnt (kP K (K i0)) (i + 1)))), (0, .ref jm), (1, .int (nI i0)), (2, .int p1), (4, .int (nI i))]) hx hb d_M_part_62 rfl hl (by decide) rfl (fun ls hl => ?_)
              refine lv_iinc (v := nI (i + 1)) (lv' := [(4, .int (nI (i + 1))), (3, .int (nI (cnt (kP K (K i0)) (i + 1)))), (0, .ref jm), (1, .int (nI i0)), (2, .int p1)]) hx hb d_M_part_63 hl (k := 4) rfl (nI_1 _) (by decide) rfl (fun ls hl => ?_)
              refine lv_goto (tgt := 33) hx hb d_M_part_66 (by decide) ?_
              exact ih_33 (i + 1) (by omega) (by first | assumption | omega) ls (lv_sub (l' := [(0, .ref jm), (1, .int (nI i0)), (2, .int p1), (3, .int (nI (cnt (kP K (K i0)) (i + 1)))), (4, .int (nI (i + 1)))]) hl [2, 3, 4, 1, 0] rfl)
            · skip
              refine lv_iconst (v := nI 1) hx hb d_M_part_56 (by decide +kernel) ?_
              refine lv_goto (tgt := 61) hx hb d_M_part_57 (by decide) ?_
              refine lv_iadd hx hb d_M_part_61 ?_
              refine lv_topi (fun w_10 ew_10 => ?_)
              have ew_10 : (nI (cnt (kP K (K i0)) (i + 1))) = w_10 := (ew_10.trans (by first | (rw [cnt_t (P := kP K (K i0)) (n := i) (decide_eq_true c_53)]; exact nI_add _ _) | (rw [cnt_f (P := kP K (K i0)) (n := i) (decide_eq_false c_53)]; exact nI_add _ _))).symm
              subst ew_10
              refine lv_istore_n (lv' := [(3, .int (nI (cnt (kP K (K i0)) (i + 1)))), (0, .ref jm), (1, .int (nI i0)), (2, .int p1), (4, .int (nI i))]) hx hb d_M_part_62 rfl hl (by decide) rfl (fun ls hl => ?_)
              refine lv_iinc (v := nI (i + 1)) (lv' := [(4, .int (nI (i + 1))), (3, .int (nI (cnt (kP K (K i0)) (i + 1)))), (0, .ref jm), (1, .int (nI i0)), (2, .int p1)]) hx hb d_M_part_63 hl (k := 4) rfl (nI_1 _) (by decide) rfl (fun ls hl => ?_)
              refine lv_goto (tgt := 33) hx hb d_M_part_66 (by decide) ?_
              exact ih_33 (i + 1) (by omega) (by first | assumption | omega) ls (lv_sub (l' := [(0, .ref jm), (1, .int (nI i0)), (2, .int p1), (3, .int (nI (cnt (kP K (K i0)) (i + 1)))), (4, .int (nI (i + 1)))]) hl [2, 3, 4, 1, 0] rfl)
      exact lp_33 ((i0 - 0) + 1) 0 (by omega) (by first | assumption | omega) ls (lv_sub (l' := [(0, .ref jm), (1, .int (nI i0)), (2, .int p1), (3, .int (nI (cnt (kP K (K i0)) 0))), (4, .int (nI 0))]) hl [2, 3, 4, 1, 0] rfl)
    · skip
      have c_14 := bI_f c_14
      exact absurd c_14 (by rw [in4.mpr h4]; decide)
set_option maxHeartbeats 4000000 in
set_option maxRecDepth 100000 in
/-- reference: part, where there is none -/
theorem c_M_partx (l : Launch) (dC : Nat → ClassId) (dI : Nat → Nat → Nat) (jm ik iv ir il iy ig : Nat) (n : Nat) (th : Int32) (sd tp : Int64) (p0 p1 : Int32) (hn : n ≤ 43) (hex : hB n p0 = false ∨ (p1.toInt < 0 ∨ 4 < p1.toInt)) (sz : Nat) : Met l y_M_part w_M_part ({ frames := 1, cells := 0, slots := 0, locals := 22 }) (wr_P dC dI [.ref jm, .int p0, .int p1] [(jm, .inr (3, [.int th, .long sd, .long tp, .int (nI n), .ref ik, .ref iv, .ref ir, .ref il, .ref iy, .ref ig]))] [] sz) (va_Qi (fun (r : Int32) (_ : Unit) => r = nI 0) (fun (u : Unit) => wr_B dC dI (va_A [(jm, .inr (3, [.int th, .long sd, .long tp, .int (nI n), .ref ik, .ref iv, .ref ir, .ref il, .ref iy, .ref ig]))] sz) [(jm, .inr (3, [.int (nI 1), .long sd, .long tp, .int (nI n), .ref ik, .ref iv, .ref ir, .ref il, .ref iy, .ref ig]))] []) (va_A [(jm, .inr (3, [.int th, .long sd, .long tp, .int (nI n), .ref ik, .ref iv, .ref ir, .ref il, .ref iy, .ref ig]))] sz)) 0 0 (va_A [(jm, .inr (3, [.int th, .long sd, .long tp, .int (nI n), .ref ik, .ref iv, .ref ir, .ref il, .ref iy, .ref ig]))] sz) := by
  refine Met.ofW (cc := b_M_part) (maxL := 5) (ret := (Option.some Jvm.ClassFile.FieldType.int)) (by decide) rfl ?_
  intro p e s m args below meth c s₁ B0 hml hv0
  obtain ⟨rfl, hsz, hP, hK, hD0, hN⟩ := hv0
  have hx := B0.exec
  have hb := B0.bytes
  have hr := B0.returns
  have hts := atoms_spec (ws := w_M_part) B0.pre
  have hown : s.vm.findClass R_M = some m.cls := findClass_of_methodNamed B0.named
  have hlocks := B0.notSynchronized
  subst hsz
  have hD := hD0.self (sz := s.heap.size)
  generalize hAe : va_A [(jm, .inr (3, [.int th, .long sd, .long tp, .int (nI n), .ref ik, .ref iv, .ref ir, .ref il, .ref iy, .ref ig]))] s.heap.size = A at hD ⊢
  have hA : ∀ q : Nat, s.heap.size ≤ q → A q := fun q h => by rw [← hAe]; exact Or.inr h
  have hS : va_S A s.heap s.heap [] := va_S.rf
  have hP : va_P (dC, dI) classes [(jm, .inr (3, [.int th, .long sd, .long tp, .int (nI n), .ref ik, .ref iv, .ref ir, .ref il, .ref iy, .ref ig]))] s.heap := hP
  have hl := lv_entry ([.ref jm, .int p0, .int p1]) (n := 5) (Nat.le_of_ble_eq_true rfl)
  rw [lg_entry_eq]
  generalize (lg_sl ([.ref jm, .int p0, .int p1]) ++ List.replicate (5 - (lg_sl ([.ref jm, .int p0, .int p1])).length) Slot.unset).toArray = ls at hl ⊢
  have hl : lv_has ls 5 [(0, .ref jm), (1, .int p0), (2, .int p1)] := hl
  refine lv_aload_n hx hb d_M_part_0 rfl (lv_at hl 0 rfl) ?_
  refine lv_iload_n hx hb d_M_part_1 rfl (lv_at hl 1 rfl) ?_
  have hPc := hP.sub (ws' := [(jm, .inr (3, [.int th, .long sd, .long tp, .int (nI n), .ref ik, .ref iv, .ref ir, .ref il, .ref iy, .ref ig]))]) [0] rfl
  have hKc := hK.sub (tys' := []) [] rfl
  refine vp_callSi (W.runV (As := [.int p0]) (rest := []) ⟨hx, hb, hml, hown, hts⟩ (c_M_isPart l dC dI jm ik iv ir il iy ig n th sd tp p0) (cwV 1 hts (g_V big_w m_411 m_413 ms_26 m_4 m_414) rfl rfl rfl (by decide +kernel) ⟨Nat.le_of_ble_eq_true rfl, Nat.le_of_ble_eq_true rfl⟩) (ro_V hPc hKc hN (va_recv hKc hPc (ci := 3) (q0 := 0) rfl rfl)) rfl rfl hl.1 rfl (lv_room (Nat.le_of_ble_eq_true rfl)) d_M_part_2 ⟨Nat.le_of_ble_eq_true rfl, Nat.le_of_ble_eq_true rfl⟩) (fun r_1 er_1 => ?_)
  have er_1 := er_1.symm
  subst er_1
  refine lv_if_eq (tgt := 17) hx hb d_M_part_5 (by decide) (fun c_5 => ?_) (fun c_5 => ?_)
  · skip
    have c_5 := bI_f c_5
    refine lv_aload_n hx hb d_M_part_17 rfl (lv_at hl 0 rfl) ?_
    refine lv_iconst (v := nI 1) hx hb d_M_part_18 (by decide +kernel) ?_
    have hPc := hP.sub (ws' := [(jm, .inr (3, [.int th, .long sd, .long tp, .int (nI n), .ref ik, .ref iv, .ref ir, .ref il, .ref iy, .ref ig]))]) [0] rfl
    have hKc := hK.sub (tys' := []) [] rfl
    have hDc := hD.sub (ws' := [(jm, .inr (3, [.int th, .long sd, .long tp, .int (nI n), .ref ik, .ref iv, .ref ir, .ref il, .ref iy, .ref ig]))]) [0] (by decide) rfl
    have hFc := va_free (wc := [(jm, .inr (3, [.int th, .long sd, .long tp, .int (nI n), .ref ik, .ref iv, .ref ir, .ref il, .ref iy, .ref ig]))]) hD hS hA [0] rfl
    refine va_calli (va_runV (As := [.int (nI 1)]) (rest := []) ⟨hx, hb, hml, hown, hts⟩ (c_M_refuse l dC dI jm ik iv ir il iy ig n th sd tp (nI 1) _) (cwV 1 hts (g_V big_w m_378 m_380 ms_21 m_4 m_381) rfl rfl rfl (by decide +kernel) ⟨Nat.le_of_ble_eq_true rfl, Nat.le_of_ble_eq_true rfl⟩) (wr_V hPc hKc hDc hN (va_recv hKc hPc (ci := 3) (q0 := 0) rfl rfl)) rfl rfl hl.1 rfl (lv_room (Nat.le_of_ble_eq_true rfl)) d_M_part_19 ⟨Nat.le_of_ble_eq_true rfl, Nat.le_of_ble_eq_true rfl⟩) hS (fun q _ h => hFc q h) hFc (fun r_2 u t H1 locs ht hvm hw hB hz1 hk1 hS => ?_)
    obtain ⟨hP1, hK1, hD1⟩ := hB
    rw [ht] at hP1
    obtain ⟨hP, hD⟩ := va_join (wr := []) (w1 := [(jm, .inr (3, [.int (nI 1), .long sd, .long tp, .int (nI n), .ref ik, .ref iv, .ref ir, .ref il, .ref iy, .ref ig]))]) hP hD [0] [] rfl rfl (by decide) (by decide) hk1 hFc hP1 hD1
    generalize H1 = H at hP hS ⊢
    have hP : va_P (dC, dI) classes [(jm, .inr (3, [.int (nI 1), .long sd, .long tp, .int (nI n), .ref ik, .ref iv, .ref ir, .ref il, .ref iy, .ref ig]))] H := hP
    have hD : va_D A [(jm, .inr (3, [.int (nI 1), .long sd, .long tp, .int (nI n), .ref ik, .ref iv, .ref ir, .ref il, .ref iy, .ref ig]))] := hD
    have hw := hw.symm
    subst hw
    have hP9 := hP.sub (ws' := [(jm, .inr (3, [.int (nI 1), .long sd, .long tp, .int (nI n), .ref ik, .ref iv, .ref ir, .ref il, .ref iy, .ref ig]))]) [0] rfl
    have hD9 := hD.sub (ws' := [(jm, .inr (3, [.int (nI 1), .long sd, .long tp, .int (nI n), .ref ik, .ref iv, .ref ir, .ref il, .ref iy, .ref ig]))]) [0] (by decide) rfl
    have hK9 := hK.sub (tys' := []) [] rfl
    exact W.iret (v := nI 0) hx hb hr (fun t ht hW => ⟨⟨nI 0, (), rfl, rfl, by rw [ht]; exact hP9, va_K.moved hW.alike hK9, hD9⟩, hS.F ht⟩) hS.2.2 d_M_part_22
  · skip
    have c_5 := bI_t c_5
    refine lv_iload_n hx hb d_M_part_8 rfl (lv_at hl 2 rfl) ?_
    refine lv_iconst (v := nI 0) hx hb d_M_part_9 (by decide +kernel) ?_
    refine lv_iconst (v := nI 4) hx hb d_M_part_10 (by decide +kernel) ?_
    have hPc := hP.sub (ws' := []) [] rfl
    have hKc := hK.sub (tys' := []) [] rfl
    refine vp_callSi (W.runS (As := [.int p1, .int (nI 0), .int (nI 4)]) (rest := []) ⟨hx, hb, hml, hown, hts⟩ (c_M_in_ l dC dI p1 (nI 0) (nI 4)) (va_cwS 3 hts (g_S big_w m_375 m_376 m_4 m_377) rfl rfl rfl (by decide +kernel) ⟨Nat.le_of_ble_eq_true rfl, Nat.le_of_ble_eq_true rfl⟩) (ro_S hPc hKc hN) rfl rfl hl.1 rfl (lv_room (Nat.le_of_ble_eq_true rfl)) d_M_part_11 ⟨Nat.le_of_ble_eq_true rfl, Nat.le_of_ble_eq_true rfl⟩) (fun r_3 er_3 => ?_)
    have er_3 := er_3.symm
    subst er_3
    refine lv_if_ne (tgt := 23) hx hb d_M_part_14 (by decide) (fun c_14 => ?_) (fun c_14 => ?_)
    · skip
      have c_14 := bI_t c_14
      exact absurd (hex.resolve_left (by rw [c_5]; decide)) (in4.mp c_14)
    · skip
      have c_14 := bI_f c_14
      refine lv_aload_n hx hb d_M_part_17 rfl (lv_at hl 0 rfl) ?_
      refine lv_iconst (v := nI 1) hx hb d_M_part_18 (by decide +kernel) ?_
      have hPc := hP.sub (ws' := [(jm, .inr (3, [.int th, .long sd, .long tp, .int (nI n), .ref ik, .ref iv, .ref ir, .ref il, .ref iy, .ref ig]))]) [0] rfl
      have hKc := hK.sub (tys' := []) [] rfl
      have hDc := hD.sub (ws' := [(jm, .inr (3, [.int th, .long sd, .long tp, .int (nI n), .ref ik, .ref iv, .ref ir, .ref il, .ref iy, .ref ig]))]) [0] (by decide) rfl
      have hFc := va_free (wc := [(jm, .inr (3, [.int th, .long sd, .long tp, .int (nI n), .ref ik, .ref iv, .ref ir, .ref il, .ref iy, .ref ig]))]) hD hS hA [0] rfl
      refine va_calli (va_runV (As := [.int (nI 1)]) (rest := []) ⟨hx, hb, hml, hown, hts⟩ (c_M_refuse l dC dI jm ik iv ir il iy ig n th sd tp (nI 1) _) (cwV 1 hts (g_V big_w m_378 m_380 ms_21 m_4 m_381) rfl rfl rfl (by decide +kernel) ⟨Nat.le_of_ble_eq_true rfl, Nat.le_of_ble_eq_true rfl⟩) (wr_V hPc hKc hDc hN (va_recv hKc hPc (ci := 3) (q0 := 0) rfl rfl)) rfl rfl hl.1 rfl (lv_room (Nat.le_of_ble_eq_true rfl)) d_M_part_19 ⟨Nat.le_of_ble_eq_true rfl, Nat.le_of_ble_eq_true rfl⟩) hS (fun q _ h => hFc q h) hFc (fun r_4 u t H1 locs ht hvm hw hB hz1 hk1 hS => ?_)
      obtain ⟨hP1, hK1, hD1⟩ := hB
      rw [ht] at hP1
      obtain ⟨hP, hD⟩ := va_join (wr := []) (w1 := [(jm, .inr (3, [.int (nI 1), .long sd, .long tp, .int (nI n), .ref ik, .ref iv, .ref ir, .ref il, .ref iy, .ref ig]))]) hP hD [0] [] rfl rfl (by decide) (by decide) hk1 hFc hP1 hD1
      generalize H1 = H at hP hS ⊢
      have hP : va_P (dC, dI) classes [(jm, .inr (3, [.int (nI 1), .long sd, .long tp, .int (nI n), .ref ik, .ref iv, .ref ir, .ref il, .ref iy, .ref ig]))] H := hP
      have hD : va_D A [(jm, .inr (3, [.int (nI 1), .long sd, .long tp, .int (nI n), .ref ik, .ref iv, .ref ir, .ref il, .ref iy, .ref ig]))] := hD
      have hw := hw.symm
      subst hw
      have hP9 := hP.sub (ws' := [(jm, .inr (3, [.int (nI 1), .long sd, .long tp, .int (nI n), .ref ik, .ref iv, .ref ir, .ref il, .ref iy, .ref ig]))]) [0] rfl
      have hD9 := hD.sub (ws' := [(jm, .inr (3, [.int (nI 1), .long sd, .long tp, .int (nI n), .ref ik, .ref iv, .ref ir, .ref il, .ref iy, .ref ig]))]) [0] (by decide) rfl
      have hK9 := hK.sub (tys' := []) [] rfl
      exact W.iret (v := nI 0) hx hb hr (fun t ht hW => ⟨⟨nI 0, (), rfl, rfl, by rw [ht]; exact hP9, va_K.moved hW.alike hK9, hD9⟩, hS.F ht⟩) hS.2.2 d_M_part_22
set_option maxHeartbeats 4000000 in
set_option maxRecDepth 100000 in
/-- reference: count -/
theorem c_M_count (l : Launch) (dC : Nat → ClassId) (dI : Nat → Nat → Nat) (jm ik iv ir il iy ig : Nat) (n : Nat) (th : Int32) (sd tp : Int64) (dk dv dr dl dy : ClassId) (K V R : Nat → Int32) (L S : Nat → Bool) (p0 : Int32) (hn : n ≤ 43) (hR : rfK n R) (sz : Nat) : Met l y_M_count w_M_count ({ frames := 1, cells := 0, slots := 0, locals := 23 }) (wr_P dC dI [.ref jm, .int p0] [(jm, .inr (3, [.int th, .long sd, .long tp, .int (nI n), .ref ik, .ref iv, .ref ir, .ref il, .ref iy, .ref ig])), (ik, .inl (dk, 86, .inl K)), (iv, .inl (dv, 86, .inl V)), (ir, .inl (dr, 86, .inl R)), (il, .inl (dl, 43, .inl (bF L))), (iy, .inl (dy, 256, .inl (bF S)))] [(dk, .int), (dv, .int), (dr, .int), (dl, .boolean), (dy, .boolean)] sz) (va_Qi (fun (r : Int32) (_ : Unit) => r = cmI n K V R L S p0) (fun (u : Unit) => wr_B dC dI (va_A [(jm, .inr (3, [.int th, .long sd, .long tp, .int (nI n), .ref ik, .ref iv, .ref ir, .ref il, .ref iy, .ref ig])), (ik, .inl (dk, 86, .inl K)), (iv, .inl (dv, 86, .inl V)), (ir, .inl (dr, 86, .inl R)), (il, .inl (dl, 43, .inl (bF L))), (iy, .inl (dy, 256, .inl (bF S)))] sz) [(jm, .inr (3, [.int (nI 0), .long sd, .long tp, .int (nI n), .ref ik, .ref iv, .ref ir, .ref il, .ref iy, .ref ig])), (ik, .inl (dk, 86, .inl K)), (iv, .inl (dv, 86, .inl V)), (ir, .inl (dr, 86, .inl R)), (il, .inl (dl, 43, .inl (bF L))), (iy, .inl (dy, 256, .inl (bF S)))] [(dk, .int), (dv, .int), (dr, .int), (dl, .boolean), (dy, .boolean)]) (va_A [(jm, .inr (3, [.int th, .long sd, .long tp, .int (nI n), .ref ik, .ref iv, .ref ir, .ref il, .ref iy, .ref ig])), (ik, .inl (dk, 86, .inl K)), (iv, .inl (dv, 86, .inl V)), (ir, .inl (dr, 86, .inl R)), (il, .inl (dl, 43, .inl (bF L))), (iy, .inl (dy, 256, .inl (bF S)))] sz)) 0 0 (va_A [(jm, .inr (3, [.int th, .long sd, .long tp, .int (nI n), .ref ik, .ref iv, .ref ir, .ref il, .ref iy, .ref ig])), (ik, .inl (dk, 86, .inl K)), (iv, .inl (dv, 86, .inl V)), (ir, .inl (dr, 86, .inl R)), (il, .inl (dl, 43, .inl (bF L))), (iy, .inl (dy, 256, .inl (bF S)))] sz) := by
  refine Met.ofW (cc := b_M_count) (maxL := 5) (ret := (Option.some Jvm.ClassFile.FieldType.int)) (by decide) rfl ?_
  intro p e s m args below meth c s₁ B0 hml hv0
  obtain ⟨rfl, hsz, hP, hK, hD0, hN⟩ := hv0
  have hx := B0.exec
  have hb := B0.bytes
  have hr := B0.returns
  have hts := atoms_spec (ws := w_M_count) B0.pre
  have hown : s.vm.findClass R_M = some m.cls := findClass_of_methodNamed B0.named
  have hlocks := B0.notSynchronized
  subst hsz
  have hD := hD0.self (sz := s.heap.size)
  generalize hAe : va_A [(jm, .inr (3, [.int th, .long sd, .long tp, .int (nI n), .ref ik, .ref iv, .ref ir, .ref il, .ref iy, .ref ig])), (ik, .inl (dk, 86, .inl K)), (iv, .inl (dv, 86, .inl V)), (ir, .inl (dr, 86, .inl R)), (il, .inl (dl, 43, .inl (bF L))), (iy, .inl (dy, 256, .inl (bF S)))] s.heap.size = A at hD ⊢
  have hA : ∀ q : Nat, s.heap.size ≤ q → A q := fun q h => by rw [← hAe]; exact Or.inr h
  have hS : va_S A s.heap s.heap [] := va_S.rf
  have hP : va_P (dC, dI) classes [(jm, .inr (3, [.int th, .long sd, .long tp, .int (nI n), .ref ik, .ref iv, .ref ir, .ref il, .ref iy, .ref ig])), (ik, .inl (dk, 86, .inl K)), (iv, .inl (dv, 86, .inl V)), (ir, .inl (dr, 86, .inl R)), (il, .inl (dl, 43, .inl (bF L))), (iy, .inl (dy, 256, .inl (bF S)))] s.heap := hP
  have hl := lv_entry ([.ref jm, .int p0]) (n := 5) (Nat.le_of_ble_eq_true rfl)
  rw [lg_entry_eq]
  generalize (lg_sl ([.ref jm, .int p0]) ++ List.replicate (5 - (lg_sl ([.ref jm, .int p0])).length) Slot.unset).toArray = ls at hl ⊢
  have hl : lv_has ls 5 [(0, .ref jm), (1, .int p0)] := hl
  refine lv_aload_n hx hb d_M_count_0 rfl (lv_at hl 0 rfl) ?_
  refine lv_iconst (v := nI 0) hx hb d_M_count_1 (by decide +kernel) ?_
  refine va_put (D := (dC, dI)) (ci := 3) (v := .int (nI 0)) (ty := .int) (C := R_M) (T := F_M) (N := 10) hx hb hts (lay_M _) ft_M tok_M nok_M hown hK hP hD hS 0 rfl rfl 0 (by decide) (hts _ (List.mem_cons_of_mem _ m_336)) (fun _ h9 => h9) rfl (by decide +kernel) rfl rfl (Nat.le_of_ble_eq_true rfl) d_M_count_2 (fun H locs hP hD hS => ?_)
  have hP : va_P (dC, dI) classes [(jm, .inr (3, [.int (nI 0), .long sd, .long tp, .int (nI n), .ref ik, .ref iv, .ref ir, .ref il, .ref iy, .ref ig])), (ik, .inl (dk, 86, .inl K)), (iv, .inl (dv, 86, .inl V)), (ir, .inl (dr, 86, .inl R)), (il, .inl (dl, 43, .inl (bF L))), (iy, .inl (dy, 256, .inl (bF S)))] H := hP
  have hD : va_D A [(jm, .inr (3, [.int (nI 0), .long sd, .long tp, .int (nI n), .ref ik, .ref iv, .ref ir, .ref il, .ref iy, .ref ig])), (ik, .inl (dk, 86, .inl K)), (iv, .inl (dv, 86, .inl V)), (ir, .inl (dr, 86, .inl R)), (il, .inl (dl, 43, .inl (bF L))), (iy, .inl (dy, 256, .inl (bF S)))] := hD
  refine lv_iload_n hx hb d_M_count_5 rfl (lv_at hl 1 rfl) ?_
  refine lv_bipush (v := nI 10) hx hb d_M_count_6 (by decide +kernel) ?_
  refine lv_icmp_lt (tgt := 30) hx hb d_M_count_8 (by decide) (fun c_8 => ?_) (fun c_8 => ?_)
  · skip
    refine lv_iconst (v := nI 0) hx hb d_M_count_30 (by decide +kernel) ?_
    refine lv_istore_n (lv' := [(2, .int (nI 0)), (0, .ref jm), (1, .int p0)]) hx hb d_M_count_31 rfl hl (by decide) rfl (fun ls hl => ?_)
    refine lv_iconst (v := nI 0) hx hb d_M_count_32 (by decide +kernel) ?_
    refine lv_istore_n (lv' := [(3, .int (nI 0)), (2, .int (nI 0)), (0, .ref jm), (1, .int p0)]) hx hb d_M_count_33 rfl hl (by decide) rfl (fun ls hl => ?_)
    have lp_34 : ∀ (k9_34 : Nat), ∀ (i : Nat), n - i < k9_34 → (i ≤ n) → ∀ (ls : Array Slot), lv_has ls 5 [(0, .ref jm), (1, .int p0), (2, .int (nI (cnt (cfI n K V R) i))), (3, .int (nI i))] → W p l e (headSpec w_M_count ({ frames := 1, cells := 0, slots := 0, locals := 23 })).room s m ([.ref jm, .int p0]).toArray below meth c H locs 0 0 (MQ below (va_Qi (fun (r : Int32) (_ : Unit) => r = cmI n K V R L S p0) (fun (u : Unit) => wr_B dC dI (A) [(jm, .inr (3, [.int (nI 0), .long sd, .long tp, .int (nI n), .ref ik, .ref iv, .ref ir, .ref il, .ref iy, .ref ig])), (ik, .inl (dk, 86, .inl K)), (iv, .inl (dv, 86, .inl V)), (ir, .inl (dr, 86, .inl R)), (il, .inl (dl, 43, .inl (bF L))), (iy, .inl (dy, 256, .inl (bF S)))] [(dk, .int), (dv, .int), (dr, .int), (dl, .boolean), (dy, .boolean)]) (A)) ([.ref jm, .int p0]).toArray s 0 0 A) (F0 m 34 ls []) := by
      intro k9_34
      induction k9_34 with
      | zero =>
        intro i hk9
        exact absurd hk9 (Nat.not_lt_zero _)
      | succ k9_34 ih_34 =>
        intro i hk9_34 hi ls hl
        refine lv_iload_n hx hb d_M_count_34 rfl (lv_at hl 3 rfl) ?_
        refine lv_aload_n hx hb d_M_count_35 rfl (lv_at hl 0 rfl) ?_
        refine va_get (D := (dC, dI)) (ci := 3) (v := .int (nI n)) (C := R_M) (T := F_M) (N := 10) hx hb hts (lay_M _) hown hK hP 0 rfl rfl 3 (by decide) (hts _ (List.mem_cons_of_mem _ m_339)) (fun _ h9 => h9) rfl d_M_count_36 ?_
        refine lv_icmp_ge (tgt := 74) hx hb d_M_count_39 (by decide) (fun c_39 => ?_) (fun c_39 => ?_)
        · skip
          have c_39 := (nI_leI (by omega) (by omega)).mp c_39
          rw [show nI (cnt (cfI n K V R) i) = nI (cnt (cfI n K V R) n) from (by rw [show i = n by omega])] at hl
          refine lv_iconst (v := nI 0) hx hb d_M_count_74 (by decide +kernel) ?_
          refine lv_istore_n (lv' := [(3, .int (nI 0)), (0, .ref jm), (1, .int p0), (2, .int (nI (cnt (cfI n K V R) n)))]) hx hb d_M_count_75 rfl hl (by decide) rfl (fun ls hl => ?_)
          refine lv_iconst (v := nI 0) hx hb d_M_count_76 (by decide +kernel) ?_
          refine lv_istore (lv' := [(4, .int (nI 0)), (3, .int (nI 0)), (0, .ref jm), (1, .int p0), (2, .int (nI (cnt (cfI n K V R) n)))]) hx hb d_M_count_77 hl (by decide) rfl (fun ls hl => ?_)
          have lp_79 : ∀ (k9_79 : Nat), ∀ (i : Nat), 256 - i < k9_79 → (i ≤ 256) → ∀ (ls : Array Slot), lv_has ls 5 [(0, .ref jm), (1, .int p0), (2, .int (nI (cnt (cfI n K V R) n))), (3, .int (nI (cnt S i))), (4, .int (nI i))] → W p l e (headSpec w_M_count ({ frames := 1, cells := 0, slots := 0, locals := 23 })).room s m ([.ref jm, .int p0]).toArray below meth c H locs 0 0 (MQ below (va_Qi (fun (r : Int32) (_ : Unit) => r = cmI n K V R L S p0) (fun (u : Unit) => wr_B dC dI (A) [(jm, .inr (3, [.int (nI 0), .long sd, .long tp, .int (nI n), .ref ik, .ref iv, .ref ir, .ref il, .ref iy, .ref ig])), (ik, .inl (dk, 86, .inl K)), (iv, .inl (dv, 86, .inl V)), (ir, .inl (dr, 86, .inl R)), (il, .inl (dl, 43, .inl (bF L))), (iy, .inl (dy, 256, .inl (bF S)))] [(dk, .int), (dv, .int), (dr, .int), (dl, .boolean), (dy, .boolean)]) (A)) ([.ref jm, .int p0]).toArray s 0 0 A) (F0 m 79 ls []) := by
            intro k9_79
            induction k9_79 with
            | zero =>
              intro i hk9
              exact absurd hk9 (Nat.not_lt_zero _)
            | succ k9_79 ih_79 =>
              intro i hk9_79 hi ls hl
              refine lv_iload hx hb d_M_count_79 (lv_at hl 4 rfl) ?_
              refine lv_sipush (v := nI 256) hx hb d_M_count_81 (by decide +kernel) ?_
              refine lv_icmp_ge (tgt := 111) hx hb d_M_count_84 (by decide) (fun c_84 => ?_) (fun c_84 => ?_)
              · skip
                have c_84 := (nI_leI (by omega) (by omega)).mp c_84
                rw [show nI (cnt S i) = nI (cnt S 256) from (by rw [show i = 256 by omega])] at hl
                refine lv_iload_n hx hb d_M_count_111 rfl (lv_at hl 1 rfl) ?_
                by_cases o_112 : p0.toInt < 0 ∨ 4 < p0.toInt
                · skip
                  refine lv_tableOut (tgt := 168) hx hb d_M_count_112 o_112 (by decide) ?_
                  refine lv_iconst (v := (-1)) hx hb d_M_count_168 (by decide +kernel) ?_
                  have hP9 := hP.sub (ws' := [(jm, .inr (3, [.int (nI 0), .long sd, .long tp, .int (nI n), .ref ik, .ref iv, .ref ir, .ref il, .ref iy, .ref ig])), (ik, .inl (dk, 86, .inl K)), (iv, .inl (dv, 86, .inl V)), (ir, .inl (dr, 86, .inl R)), (il, .inl (dl, 43, .inl (bF L))), (iy, .inl (dy, 256, .inl (bF S)))]) [0, 1, 2, 3, 4, 5] rfl
                  have hD9 := hD.sub (ws' := [(jm, .inr (3, [.int (nI 0), .long sd, .long tp, .int (nI n), .ref ik, .ref iv, .ref ir, .ref il, .ref iy, .ref ig])), (ik, .inl (dk, 86, .inl K)), (iv, .inl (dv, 86, .inl V)), (ir, .inl (dr, 86, .inl R)), (il, .inl (dl, 43, .inl (bF L))), (iy, .inl (dy, 256, .inl (bF S)))]) [0, 1, 2, 3, 4, 5] (by decide) rfl
                  have hK9 := hK.sub (tys' := [(dk, .int), (dv, .int), (dr, .int), (dl, .boolean), (dy, .boolean)]) [0, 1, 2, 3, 4] rfl
                  exact W.iret (v := (-1)) hx hb hr (fun t ht hW => ⟨⟨(-1), (), rfl, ((cm_o c_8 o_112).symm), by rw [ht]; exact hP9, va_K.moved hW.alike hK9, hD9⟩, hS.F ht⟩) hS.2.2 d_M_count_169
                · skip
                  have o1_112 : ¬ p0.toInt < 0 := fun h => o_112 (Or.inl h)
                  have o2_112 : ¬ 4 < p0.toInt := fun h => o_112 (Or.inr h)
                  by_cases o_112_0 : p0.toInt = 0
                  · skip
                    have o3 : p0 = nI 0 := sw_eq o_112_0 (by decide +kernel)
                    refine lv_tableIn (tgt := 148) hx hb d_M_count_112 o1_112 o2_112 (by rw [o_112_0]; rfl) (by decide) ?_
                    refine lv_aload_n hx hb d_M_count_148 rfl (lv_at hl 0 rfl) ?_
                    refine va_get (D := (dC, dI)) (ci := 3) (v := .int (nI n)) (C := R_M) (T := F_M) (N := 10) hx hb hts (lay_M _) hown hK hP 0 rfl rfl 3 (by decide) (hts _ (List.mem_cons_of_mem _ m_339)) (fun _ h9 => h9) rfl d_M_count_149 ?_
                    have hP9 := hP.sub (ws' := [(jm, .inr (3, [.int (nI 0), .long sd, .long tp, .int (nI n), .ref ik, .ref iv, .ref ir, .ref il, .ref iy, .ref ig])), (ik, .inl (dk, 86, .inl K)), (iv, .inl (dv, 86, .inl V)), (ir, .inl (dr, 86, .inl R)), (il, .inl (dl, 43, .inl (bF L))), (iy, .inl (dy, 256, .inl (bF S)))]) [0, 1, 2, 3, 4, 5] rfl
                    have hD9 := hD.sub (ws' := [(jm, .inr (3, [.int (nI 0), .long sd, .long tp, .int (nI n), .ref ik, .ref iv, .ref ir, .ref il, .ref iy, .ref ig])), (ik, .inl (dk, 86, .inl K)), (iv, .inl (dv, 86, .inl V)), (ir, .inl (dr, 86, .inl R)), (il, .inl (dl, 43, .inl (bF L))), (iy, .inl (dy, 256, .inl (bF S)))]) [0, 1, 2, 3, 4, 5] (by decide) rfl
                    have hK9 := hK.sub (tys' := [(dk, .int), (dv, .int), (dr, .int), (dl, .boolean), (dy, .boolean)]) [0, 1, 2, 3, 4] rfl
                    exact W.iret (v := nI n) hx hb hr (fun t ht hW => ⟨⟨nI n, (), rfl, (by rw [o3]; exact cm_0.symm), by rw [ht]; exact hP9, va_K.moved hW.alike hK9, hD9⟩, hS.F ht⟩) hS.2.2 d_M_count_152
                  · skip
                    by_cases o_112_1 : p0.toInt = 1
                    · skip
                      have o3 : p0 = nI 1 := sw_eq o_112_1 (by decide +kernel)
                      refine lv_tableIn (tgt := 153) hx hb d_M_count_112 o1_112 o2_112 (by rw [o_112_1]; rfl) (by decide) ?_
                      refine lv_aload_n hx hb d_M_count_153 rfl (lv_at hl 0 rfl) ?_
                      have hPc := hP.sub (ws' := [(jm, .inr (3, [.int (nI 0), .long sd, .long tp, .int (nI n), .ref ik, .ref iv, .ref ir, .ref il, .ref iy, .ref ig])), (il, .inl (dl, 43, .inl (bF L)))]) [0, 4] rfl
                      have hKc := hK.sub (tys' := [(dl, .boolean)]) [3] rfl
                      refine vp_callSi (W.runV (As := []) (rest := []) ⟨hx, hb, hml, hown, hts⟩ (c_M_many l dC dI jm ik iv ir il iy ig n (nI 0) sd tp dl L (by first | assumption | omega)) (cwV 0 hts (g_V big_w m_451 m_453 ms_33 m_4 m_454) rfl rfl rfl (by decide +kernel) ⟨Nat.le_of_ble_eq_true rfl, Nat.le_of_ble_eq_true rfl⟩) (ro_V hPc hKc hN (va_recv hKc hPc (ci := 3) (q0 := 0) rfl rfl)) rfl rfl hl.1 rfl (lv_room (Nat.le_of_ble_eq_true rfl)) d_M_count_154 ⟨Nat.le_of_ble_eq_true rfl, Nat.le_of_ble_eq_true rfl⟩) (fun r_1 er_1 => ?_)
                      have er_1 := er_1.symm
                      subst er_1
                      have hP9 := hP.sub (ws' := [(jm, .inr (3, [.int (nI 0), .long sd, .long tp, .int (nI n), .ref ik, .ref iv, .ref ir, .ref il, .ref iy, .ref ig])), (ik, .inl (dk, 86, .inl K)), (iv, .inl (dv, 86, .inl V)), (ir, .inl (dr, 86, .inl R)), (il, .inl (dl, 43, .inl (bF L))), (iy, .inl (dy, 256, .inl (bF S)))]) [0, 1, 2, 3, 4, 5] rfl
                      have hD9 := hD.sub (ws' := [(jm, .inr (3, [.int (nI 0), .long sd, .long tp, .int (nI n), .ref ik, .ref iv, .ref ir, .ref il, .ref iy, .ref ig])), (ik, .inl (dk, 86, .inl K)), (iv, .inl (dv, 86, .inl V)), (ir, .inl (dr, 86, .inl R)), (il, .inl (dl, 43, .inl (bF L))), (iy, .inl (dy, 256, .inl (bF S)))]) [0, 1, 2, 3, 4, 5] (by decide) rfl
                      have hK9 := hK.sub (tys' := [(dk, .int), (dv, .int), (dr, .int), (dl, .boolean), (dy, .boolean)]) [0, 1, 2, 3, 4] rfl
                      exact W.iret (v := nI (cnt L n)) hx hb hr (fun t ht hW => ⟨⟨nI (cnt L n), (), rfl, (by rw [o3]; exact cm_1.symm), by rw [ht]; exact hP9, va_K.moved hW.alike hK9, hD9⟩, hS.F ht⟩) hS.2.2 d_M_count_157
                    · skip
                      by_cases o_112_2 : p0.toInt = 2
                      · skip
                        have o3 : p0 = nI 2 := sw_eq o_112_2 (by decide +kernel)
                        refine lv_tableIn (tgt := 158) hx hb d_M_count_112 o1_112 o2_112 (by rw [o_112_2]; rfl) (by decide) ?_
                        refine lv_aload_n hx hb d_M_count_158 rfl (lv_at hl 0 rfl) ?_
                        refine lv_iconst (v := nI 5) hx hb d_M_count_159 (by decide +kernel) ?_
                        have hPc := hP.sub (ws' := [(jm, .inr (3, [.int (nI 0), .long sd, .long tp, .int (nI n), .ref ik, .ref iv, .ref ir, .ref il, .ref iy, .ref ig])), (ik, .inl (dk, 86, .inl K))]) [0, 1] rfl
                        have hKc := hK.sub (tys' := [(dk, .int)]) [0] rfl
                        refine vp_callSi (W.runV (As := [.int (nI 5)]) (rest := []) ⟨hx, hb, hml, hown, hts⟩ (c_M_ofKind l dC dI jm ik iv ir il iy ig n (nI 0) sd tp dk K (nI 5) (by first | assumption | omega)) (cwV 1 hts (g_V big_w m_479 m_481 ms_35 m_4 m_482) rfl rfl rfl (by decide +kernel) ⟨Nat.le_of_ble_eq_true rfl, Nat.le_of_ble_eq_true rfl⟩) (ro_V hPc hKc hN (va_recv hKc hPc (ci := 3) (q0 := 0) rfl rfl)) rfl rfl hl.1 rfl (lv_room (Nat.le_of_ble_eq_true rfl)) d_M_count_160 ⟨Nat.le_of_ble_eq_true rfl, Nat.le_of_ble_eq_true rfl⟩) (fun r_2 er_2 => ?_)
                        have er_2 := er_2.symm
                        subst er_2
                        have hP9 := hP.sub (ws' := [(jm, .inr (3, [.int (nI 0), .long sd, .long tp, .int (nI n), .ref ik, .ref iv, .ref ir, .ref il, .ref iy, .ref ig])), (ik, .inl (dk, 86, .inl K)), (iv, .inl (dv, 86, .inl V)), (ir, .inl (dr, 86, .inl R)), (il, .inl (dl, 43, .inl (bF L))), (iy, .inl (dy, 256, .inl (bF S)))]) [0, 1, 2, 3, 4, 5] rfl
                        have hD9 := hD.sub (ws' := [(jm, .inr (3, [.int (nI 0), .long sd, .long tp, .int (nI n), .ref ik, .ref iv, .ref ir, .ref il, .ref iy, .ref ig])), (ik, .inl (dk, 86, .inl K)), (iv, .inl (dv, 86, .inl V)), (ir, .inl (dr, 86, .inl R)), (il, .inl (dl, 43, .inl (bF L))), (iy, .inl (dy, 256, .inl (bF S)))]) [0, 1, 2, 3, 4, 5] (by decide) rfl
                        have hK9 := hK.sub (tys' := [(dk, .int), (dv, .int), (dr, .int), (dl, .boolean), (dy, .boolean)]) [0, 1, 2, 3, 4] rfl
                        exact W.iret (v := nI (cnt (kP K (nI 5)) n)) hx hb hr (fun t ht hW => ⟨⟨nI (cnt (kP K (nI 5)) n), (), rfl, (by rw [o3]; exact cm_2.symm), by rw [ht]; exact hP9, va_K.moved hW.alike hK9, hD9⟩, hS.F ht⟩) hS.2.2 d_M_count_163
                      · skip
                        by_cases o_112_3 : p0.toInt = 3
                        · skip
                          have o3 : p0 = nI 3 := sw_eq o_112_3 (by decide +kernel)
                          refine lv_tableIn (tgt := 164) hx hb d_M_count_112 o1_112 o2_112 (by rw [o_112_3]; rfl) (by decide) ?_
                          refine lv_iload_n hx hb d_M_count_164 rfl (lv_at hl 2 rfl) ?_
                          have hP9 := hP.sub (ws' := [(jm, .inr (3, [.int (nI 0), .long sd, .long tp, .int (nI n), .ref ik, .ref iv, .ref ir, .ref il, .ref iy, .ref ig])), (ik, .inl (dk, 86, .inl K)), (iv, .inl (dv, 86, .inl V)), (ir, .inl (dr, 86, .inl R)), (il, .inl (dl, 43, .inl (bF L))), (iy, .inl (dy, 256, .inl (bF S)))]) [0, 1, 2, 3, 4, 5] rfl
                          have hD9 := hD.sub (ws' := [(jm, .inr (3, [.int (nI 0), .long sd, .long tp, .int (nI n), .ref ik, .ref iv, .ref ir, .ref il, .ref iy, .ref ig])), (ik, .inl (dk, 86, .inl K)), (iv, .inl (dv, 86, .inl V)), (ir, .inl (dr, 86, .inl R)), (il, .inl (dl, 43, .inl (bF L))), (iy, .inl (dy, 256, .inl (bF S)))]) [0, 1, 2, 3, 4, 5] (by decide) rfl
                          have hK9 := hK.sub (tys' := [(dk, .int), (dv, .int), (dr, .int), (dl, .boolean), (dy, .boolean)]) [0, 1, 2, 3, 4] rfl
                          exact W.iret (v := nI (cnt (cfI n K V R) n)) hx hb hr (fun t ht hW => ⟨⟨nI (cnt (cfI n K V R) n), (), rfl, (by rw [o3]; exact cm_3.symm), by rw [ht]; exact hP9, va_K.moved hW.alike hK9, hD9⟩, hS.F ht⟩) hS.2.2 d_M_count_165
                        · skip
                          have o_112_4 : p0.toInt = 4 := by omega
                          have o3 : p0 = nI 4 := sw_eq o_112_4 (by decide +kernel)
                          refine lv_tableIn (tgt := 166) hx hb d_M_count_112 o1_112 o2_112 (by rw [o_112_4]; rfl) (by decide) ?_
                          refine lv_iload_n hx hb d_M_count_166 rfl (lv_at hl 3 rfl) ?_
                          have hP9 := hP.sub (ws' := [(jm, .inr (3, [.int (nI 0), .long sd, .long tp, .int (nI n), .ref ik, .ref iv, .ref ir, .ref il, .ref iy, .ref ig])), (ik, .inl (dk, 86, .inl K)), (iv, .inl (dv, 86, .inl V)), (ir, .inl (dr, 86, .inl R)), (il, .inl (dl, 43, .inl (bF L))), (iy, .inl (dy, 256, .inl (bF S)))]) [0, 1, 2, 3, 4, 5] rfl
                          have hD9 := hD.sub (ws' := [(jm, .inr (3, [.int (nI 0), .long sd, .long tp, .int (nI n), .ref ik, .ref iv, .ref ir, .ref il, .ref iy, .ref ig])), (ik, .inl (dk, 86, .inl K)), (iv, .inl (dv, 86, .inl V)), (ir, .inl (dr, 86, .inl R)), (il, .inl (dl, 43, .inl (bF L))), (iy, .inl (dy, 256, .inl (bF S)))]) [0, 1, 2, 3, 4, 5] (by decide) rfl
                          have hK9 := hK.sub (tys' := [(dk, .int), (dv, .int), (dr, .int), (dl, .boolean), (dy, .boolean)]) [0, 1, 2, 3, 4] rfl
                          exact W.iret (v := nI (cnt S 256)) hx hb hr (fun t ht hW => ⟨⟨nI (cnt S 256), (), rfl, (by rw [o3]; exact cm_4.symm), by rw [ht]; exact hP9, va_K.moved hW.alike hK9, hD9⟩, hS.F ht⟩) hS.2.2 d_M_count_167
              · skip
                have c_84 := (not_congr (nI_leI (by omega) (by omega))).mp c_84
                refine lv_iload_n hx hb d_M_count_87 rfl (lv_at hl 3 rfl) ?_
                refine lv_aload_n hx hb d_M_count_88 rfl (lv_at hl 0 rfl) ?_
                refine va_get (D := (dC, dI)) (ci := 3) (v := .ref iy) (C := R_M) (T := F_M) (N := 10) hx hb hts (lay_M _) hown hK hP 0 rfl rfl 8 (by decide) (hts _ (List.mem_cons_of_mem _ m_344)) (fun _ h9 => h9) rfl d_M_count_89 ?_
                refine lv_iload hx hb d_M_count_92 (lv_at hl 4 rfl) ?_
                refine va_zald hx hb hK hP 5 4 rfl rfl (vp_in_nI (by omega) (by omega)) d_M_count_94 ?_
                refine lv_topi (fun w_3 ew_3 => ?_)
                have ew_3 : (bI (S i)) = w_3 := (ew_3.trans (by rw [nI_clamp (by omega)]; rfl)).symm
                subst ew_3
                refine lv_if_eq (tgt := 102) hx hb d_M_count_95 (by decide) (fun c_95 => ?_) (fun c_95 => ?_)
                · skip
                  have c_95 := bI_f c_95
                  refine lv_iconst (v := nI 0) hx hb d_M_count_102 (by decide +kernel) ?_
                  refine lv_iadd hx hb d_M_count_103 ?_
                  refine lv_topi (fun w_4 ew_4 => ?_)
                  have ew_4 : (nI (cnt (S) (i + 1))) = w_4 := (ew_4.trans (by first | (rw [cnt_t (P := S) (n := i) c_95]; exact nI_add _ _) | (rw [cnt_f (P := S) (n := i) c_95]; exact nI_add _ _))).symm
                  subst ew_4
                  refine lv_istore_n (lv' := [(3, .int (nI (cnt (S) (i + 1)))), (0, .ref jm), (1, .int p0), (2, .int (nI (cnt (cfI n K V R) n))), (4, .int (nI i))]) hx hb d_M_count_104 rfl hl (by decide) rfl (fun ls hl => ?_)
                  refine lv_iinc (v := nI (i + 1)) (lv' := [(4, .int (nI (i + 1))), (3, .int (nI (cnt (S) (i + 1)))), (0, .ref jm), (1, .int p0), (2, .int (nI (cnt (cfI n K V R) n)))]) hx hb d_M_count_105 hl (k := 4) rfl (nI_1 _) (by decide) rfl (fun ls hl => ?_)
                  refine lv_goto (tgt := 79) hx hb d_M_count_108 (by decide) ?_
                  exact ih_79 (i + 1) (by omega) (by first | assumption | omega) ls (lv_sub (l' := [(0, .ref jm), (1, .int p0), (2, .int (nI (cnt (cfI n K V R) n))), (3, .int (nI (cnt S (i + 1)))), (4, .int (nI (i + 1)))]) hl [2, 3, 4, 1, 0] rfl)
                · skip
                  have c_95 := bI_t c_95
                  refine lv_iconst (v := nI 1) hx hb d_M_count_98 (by decide +kernel) ?_
                  refine lv_goto (tgt := 103) hx hb d_M_count_99 (by decide) ?_
                  refine lv_iadd hx hb d_M_count_103 ?_
                  refine lv_topi (fun w_5 ew_5 => ?_)
                  have ew_5 : (nI (cnt (S) (i + 1))) = w_5 := (ew_5.trans (by first | (rw [cnt_t (P := S) (n := i) c_95]; exact nI_add _ _) | (rw [cnt_f (P := S) (n := i) c_95]; exact nI_add _ _))).symm
                  subst ew_5
                  refine lv_istore_n (lv' := [(3, .int (nI (cnt (S) (i + 1)))), (0, .ref jm), (1, .int p0), (2, .int (nI (cnt (cfI n K V R) n))), (4, .int (nI i))]) hx hb d_M_count_104 rfl hl (by decide) rfl (fun ls hl => ?_)
                  refine lv_iinc (v := nI (i + 1)) (lv' := [(4, .int (nI (i + 1))), (3, .int (nI (cnt (S) (i + 1)))), (0, .ref jm), (1, .int p0), (2, .int (nI (cnt (cfI n K V R) n)))]) hx hb d_M_count_105 hl (k := 4) rfl (nI_1 _) (by decide) rfl (fun ls hl => ?_)
                  refine lv_goto (tgt := 79) hx hb d_M_count_108 (by decide) ?_
                  exact ih_79 (i + 1) (by omega) (by first | assumption | omega) ls (lv_sub (l' := [(0, .ref jm), (1, .int p0), (2, .int (nI (cnt (cfI n K V R) n))), (3, .int (nI (cnt S (i + 1)))), (4, .int (nI (i + 1)))]) hl [2, 3, 4, 1, 0] rfl)
          exact lp_79 ((256 - 0) + 1) 0 (by omega) (by first | assumption | omega) ls (lv_sub (l' := [(0, .ref jm), (1, .int p0), (2, .int (nI (cnt (cfI n K V R) n))), (3, .int (nI (cnt S 0))), (4, .int (nI 0))]) hl [2, 3, 4, 1, 0] rfl)
        · skip
          have c_39 := (not_congr (nI_leI (by omega) (by omega))).mp c_39
          refine lv_iload_n hx hb d_M_count_42 rfl (lv_at hl 2 rfl) ?_
          refine lv_aload_n hx hb d_M_count_43 rfl (lv_at hl 0 rfl) ?_
          refine va_get (D := (dC, dI)) (ci := 3) (v := .ref ik) (C := R_M) (T := F_M) (N := 10) hx hb hts (lay_M _) hown hK hP 0 rfl rfl 4 (by decide) (hts _ (List.mem_cons_of_mem _ m_340)) (fun _ h9 => h9) rfl d_M_count_44 ?_
          refine lv_iload_n hx hb d_M_count_47 rfl (lv_at hl 3 rfl) ?_
          refine va_iald hx hb hK hP 1 0 rfl rfl (vp_in_nI (by omega) (by omega)) d_M_count_48 ?_
          refine lv_topi (fun w_6 ew_6 => ?_)
          rw [nI_clamp (by omega)] at ew_6
          have ew_6 := ew_6.symm
          subst ew_6
          refine lv_iconst (v := nI 5) hx hb d_M_count_49 (by decide +kernel) ?_
          refine lv_icmp_ne (tgt := 65) hx hb d_M_count_50 (by decide) (fun c_50 => ?_) (fun c_50 => ?_)
          · skip
            refine lv_iconst (v := nI 0) hx hb d_M_count_65 (by decide +kernel) ?_
            refine lv_iadd hx hb d_M_count_66 ?_
            refine lv_topi (fun w_7 ew_7 => ?_)
            have ew_7 : (nI (cnt (cfI n K V R) (i + 1))) = w_7 := (ew_7.trans (by first | (rw [cnt_t (P := cfI n K V R) (n := i) (by unfold cfI; rw [decide_eq_true c_50, c_58]; rfl)]; exact nI_add _ _) | (rw [cnt_f (P := cfI n K V R) (n := i) (by unfold cfI; rw [c_58, Bool.and_false])]; exact nI_add _ _) | (rw [cnt_f (P := cfI n K V R) (n := i) (by unfold cfI; rw [decide_eq_false c_50, Bool.false_and])]; exact nI_add _ _))).symm
            subst ew_7
            refine lv_istore_n (lv' := [(2, .int (nI (cnt (cfI n K V R) (i + 1)))), (0, .ref jm), (1, .int p0), (3, .int (nI i))]) hx hb d_M_count_67 rfl hl (by decide) rfl (fun ls hl => ?_)
            refine lv_iinc (v := nI (i + 1)) (lv' := [(3, .int (nI (i + 1))), (2, .int (nI (cnt (cfI n K V R) (i + 1)))), (0, .ref jm), (1, .int p0)]) hx hb d_M_count_68 hl (k := 3) rfl (nI_1 _) (by decide) rfl (fun ls hl => ?_)
            refine lv_goto (tgt := 34) hx hb d_M_count_71 (by decide) ?_
            exact ih_34 (i + 1) (by omega) (by first | assumption | omega) ls (lv_sub (l' := [(0, .ref jm), (1, .int p0), (2, .int (nI (cnt (cfI n K V R) (i + 1)))), (3, .int (nI (i + 1)))]) hl [2, 3, 1, 0] rfl)
          · skip
            refine lv_aload_n hx hb d_M_count_53 rfl (lv_at hl 0 rfl) ?_
            refine lv_iload_n hx hb d_M_count_54 rfl (lv_at hl 3 rfl) ?_
            have hPc := hP.sub (ws' := [(jm, .inr (3, [.int (nI 0), .long sd, .long tp, .int (nI n), .ref ik, .ref iv, .ref ir, .ref il, .ref iy, .ref ig])), (iv, .inl (dv, 86, .inl V)), (ir, .inl (dr, 86, .inl R))]) [0, 2, 3] rfl
            have hKc := hK.sub (tys' := [(dv, .int), (dr, .int)]) [1, 2] rfl
            refine vp_callSi (W.runV (As := [.int (nI i)]) (rest := [.int (nI (cnt (cfI n K V R) i))]) ⟨hx, hb, hml, hown, hts⟩ (c_M_isFit l dC dI jm ik iv ir il iy ig n (nI 0) sd tp dv dr V R i (by first | assumption | omega) (by first | assumption | omega) (by first | assumption | omega)) (cwV 1 hts (g_V big_w m_415 m_417 ms_27 m_4 m_418) rfl rfl rfl (by decide +kernel) ⟨Nat.le_of_ble_eq_true rfl, Nat.le_of_ble_eq_true rfl⟩) (ro_V hPc hKc hN (va_recv hKc hPc (ci := 3) (q0 := 0) rfl rfl)) rfl rfl hl.1 rfl (lv_room (Nat.le_of_ble_eq_true rfl)) d_M_count_55 ⟨Nat.le_of_ble_eq_true rfl, Nat.le_of_ble_eq_true rfl⟩) (fun r_8 er_8 => ?_)
            have er_8 := er_8.symm
            subst er_8
            refine lv_if_eq (tgt := 65) hx hb d_M_count_58 (by decide) (fun c_58 => ?_) (fun c_58 => ?_)
            · skip
              have c_58 := bI_f c_58
              refine lv_iconst (v := nI 0) hx hb d_M_count_65 (by decide +kernel) ?_
              refine lv_iadd hx hb d_M_count_66 ?_
              refine lv_topi (fun w_9 ew_9 => ?_)
              have ew_9 : (nI (cnt (cfI n K V R) (i + 1))) = w_9 := (ew_9.trans (by first | (rw [cnt_t (P := cfI n K V R) (n := i) (by unfold cfI; rw [decide_eq_true c_50, c_58]; rfl)]; exact nI_add _ _) | (rw [cnt_f (P := cfI n K V R) (n := i) (by unfold cfI; rw [c_58, Bool.and_false])]; exact nI_add _ _) | (rw [cnt_f (P := cfI n K V R) (n := i) (by unfold cfI; rw [decide_eq_false c_50, Bool.false_and])]; exact nI_add _ _))).symm
              subst ew_9
              refine lv_istore_n (lv' := [(2, .int (nI (cnt (cfI n K V R) (i + 1)))), (0, .ref jm), (1, .int p0), (3, .int (nI i))]) hx hb d_M_count_67 rfl hl (by decide) rfl (fun ls hl => ?_)
              refine lv_iinc (v := nI (i + 1)) (lv' := [(3, .int (nI (i + 1))), (2, .int (nI (cnt (cfI n K V R) (i + 1)))), (0, .ref jm), (1, .int p0)]) hx hb d_M_count_68 hl (k := 3) rfl (nI_1 _) (by decide) rfl (fun ls hl => ?_)
              refine lv_goto (tgt := 34) hx hb d_M_count_71 (by decide) ?_
              exact ih_34 (i + 1) (by omega) (by first | assumption | omega) ls (lv_sub (l' := [(0, .ref jm), (1, .int p0), (2, .int (nI (cnt (cfI n K V R) (i + 1)))), (3, .int (nI (i + 1)))]) hl [2, 3, 1, 0] rfl)
            · skip
              have c_58 := bI_t c_58
              refine lv_iconst (v := nI 1) hx hb d_M_count_61 (by decide +kernel) ?_
              refine lv_goto (tgt := 66) hx hb d_M_count_62 (by decide) ?_
              refine lv_iadd hx hb d_M_count_66 ?_
              refine lv_topi (fun w_10 ew_10 => ?_)
              have ew_10 : (nI (cnt (cfI n K V R) (i + 1))) = w_10 := (ew_10.trans (by first | (rw [cnt_t (P := cfI n K V R) (n := i) (by unfold cfI; rw [decide_eq_true c_50, c_58]; rfl)]; exact nI_add _ _) | (rw [cnt_f (P := cfI n K V R) (n := i) (by unfold cfI; rw [c_58, Bool.and_false])]; exact nI_add _ _) | (rw [cnt_f (P := cfI n K V R) (n := i) (by unfold cfI; rw [decide_eq_false c_50, Bool.false_and])]; exact nI_add _ _))).symm
              subst ew_10
              refine lv_istore_n (lv' := [(2, .int (nI (cnt (cfI n K V R) (i + 1)))), (0, .ref jm), (1, .int p0), (3, .int (nI i))]) hx hb d_M_count_67 rfl hl (by decide) rfl (fun ls hl => ?_)
              refine lv_iinc (v := nI (i + 1)) (lv' := [(3, .int (nI (i + 1))), (2, .int (nI (cnt (cfI n K V R) (i + 1)))), (0, .ref jm), (1, .int p0)]) hx hb d_M_count_68 hl (k := 3) rfl (nI_1 _) (by decide) rfl (fun ls hl => ?_)
              refine lv_goto (tgt := 34) hx hb d_M_count_71 (by decide) ?_
              exact ih_34 (i + 1) (by omega) (by first | assumption | omega) ls (lv_sub (l' := [(0, .ref jm), (1, .int p0), (2, .int (nI (cnt (cfI n K V R) (i + 1)))), (3, .int (nI (i + 1)))]) hl [2, 3, 1, 0] rfl)
    exact lp_34 ((n - 0) + 1) 0 (by omega) (by first | assumption | omega) ls (lv_sub (l' := [(0, .ref jm), (1, .int p0), (2, .int (nI (cnt (cfI n K V R) 0))), (3, .int (nI 0))]) hl [2, 3, 1, 0] rfl)
  · skip
    refine lv_iload_n hx hb d_M_count_11 rfl (lv_at hl 1 rfl) ?_
    refine lv_bipush (v := nI 17) hx hb d_M_count_12 (by decide +kernel) ?_
    refine lv_icmp_ge (tgt := 28) hx hb d_M_count_14 (by decide) (fun c_14 => ?_) (fun c_14 => ?_)
    · skip
      refine lv_iconst (v := (-1)) hx hb d_M_count_28 (by decide +kernel) ?_
      have hP9 := hP.sub (ws' := [(jm, .inr (3, [.int (nI 0), .long sd, .long tp, .int (nI n), .ref ik, .ref iv, .ref ir, .ref il, .ref iy, .ref ig])), (ik, .inl (dk, 86, .inl K)), (iv, .inl (dv, 86, .inl V)), (ir, .inl (dr, 86, .inl R)), (il, .inl (dl, 43, .inl (bF L))), (iy, .inl (dy, 256, .inl (bF S)))]) [0, 1, 2, 3, 4, 5] rfl
      have hD9 := hD.sub (ws' := [(jm, .inr (3, [.int (nI 0), .long sd, .long tp, .int (nI n), .ref ik, .ref iv, .ref ir, .ref il, .ref iy, .ref ig])), (ik, .inl (dk, 86, .inl K)), (iv, .inl (dv, 86, .inl V)), (ir, .inl (dr, 86, .inl R)), (il, .inl (dl, 43, .inl (bF L))), (iy, .inl (dy, 256, .inl (bF S)))]) [0, 1, 2, 3, 4, 5] (by decide) rfl
      have hK9 := hK.sub (tys' := [(dk, .int), (dv, .int), (dr, .int), (dl, .boolean), (dy, .boolean)]) [0, 1, 2, 3, 4] rfl
      exact W.iret (v := (-1)) hx hb hr (fun t ht hW => ⟨⟨(-1), (), rfl, (by first | exact (cm_k c_8 c_14).symm | exact (cm_n c_8 c_14).symm), by rw [ht]; exact hP9, va_K.moved hW.alike hK9, hD9⟩, hS.F ht⟩) hS.2.2 d_M_count_29
    · skip
      refine lv_aload_n hx hb d_M_count_17 rfl (lv_at hl 0 rfl) ?_
      refine lv_iload_n hx hb d_M_count_18 rfl (lv_at hl 1 rfl) ?_
      refine lv_bipush (v := nI 10) hx hb d_M_count_19 (by decide +kernel) ?_
      refine lv_isub hx hb d_M_count_21 ?_
      have hPc := hP.sub (ws' := [(jm, .inr (3, [.int (nI 0), .long sd, .long tp, .int (nI n), .ref ik, .ref iv, .ref ir, .ref il, .ref iy, .ref ig])), (ik, .inl (dk, 86, .inl K))]) [0, 1] rfl
      have hKc := hK.sub (tys' := [(dk, .int)]) [0] rfl
      refine vp_callSi (W.runV (As := [.int (p0 - (nI 10))]) (rest := []) ⟨hx, hb, hml, hown, hts⟩ (c_M_ofKind l dC dI jm ik iv ir il iy ig n (nI 0) sd tp dk K (p0 - (nI 10)) (by first | assumption | omega)) (cwV 1 hts (g_V big_w m_479 m_481 ms_35 m_4 m_482) rfl rfl rfl (by decide +kernel) ⟨Nat.le_of_ble_eq_true rfl, Nat.le_of_ble_eq_true rfl⟩) (ro_V hPc hKc hN (va_recv hKc hPc (ci := 3) (q0 := 0) rfl rfl)) rfl rfl hl.1 rfl (lv_room (Nat.le_of_ble_eq_true rfl)) d_M_count_22 ⟨Nat.le_of_ble_eq_true rfl, Nat.le_of_ble_eq_true rfl⟩) (fun r_11 er_11 => ?_)
      have er_11 := er_11.symm
      subst er_11
      refine lv_goto (tgt := 29) hx hb d_M_count_25 (by decide) ?_
      have hP9 := hP.sub (ws' := [(jm, .inr (3, [.int (nI 0), .long sd, .long tp, .int (nI n), .ref ik, .ref iv, .ref ir, .ref il, .ref iy, .ref ig])), (ik, .inl (dk, 86, .inl K)), (iv, .inl (dv, 86, .inl V)), (ir, .inl (dr, 86, .inl R)), (il, .inl (dl, 43, .inl (bF L))), (iy, .inl (dy, 256, .inl (bF S)))]) [0, 1, 2, 3, 4, 5] rfl
      have hD9 := hD.sub (ws' := [(jm, .inr (3, [.int (nI 0), .long sd, .long tp, .int (nI n), .ref ik, .ref iv, .ref ir, .ref il, .ref iy, .ref ig])), (ik, .inl (dk, 86, .inl K)), (iv, .inl (dv, 86, .inl V)), (ir, .inl (dr, 86, .inl R)), (il, .inl (dl, 43, .inl (bF L))), (iy, .inl (dy, 256, .inl (bF S)))]) [0, 1, 2, 3, 4, 5] (by decide) rfl
      have hK9 := hK.sub (tys' := [(dk, .int), (dv, .int), (dr, .int), (dl, .boolean), (dy, .boolean)]) [0, 1, 2, 3, 4] rfl
      exact W.iret (v := nI (cnt (kP K (p0 - (nI 10))) n)) hx hb hr (fun t ht hW => ⟨⟨nI (cnt (kP K (p0 - (nI 10))) n), (), rfl, (by first | exact (cm_k c_8 c_14).symm | exact (cm_n c_8 c_14).symm), by rw [ht]; exact hP9, va_K.moved hW.alike hK9, hD9⟩, hS.F ht⟩) hS.2.2 d_M_count_29
