theorem m_24 : (Jvm.Cond.methodLink "PortDrawer$Harbour" (3 : Nat) ({ cls := "java/lang/Object", name := "<init>", desc := "()V" } : Jvm.MethodName)) ∈ tblG := m_t (i := 24) rfl rfl
theorem m_25 : (Jvm.Cond.classLink "PortDrawer$Harbour" (9 : Nat) "PortDrawer$Tape") ∈ tblG := m_t (i := 25) rfl rfl
theorem m_26 : (Jvm.Cond.instantiable "PortDrawer$Tape" (1 : Nat)) ∈ tblG := m_t (i := 26) rfl rfl
theorem m_3 : (Jvm.Cond.initialized "PortDrawer$Tape") ∈ tblG := m_t (i := 3) rfl rfl
theorem m_29 : (Jvm.Cond.code ({ cls := "PortDrawer$Tape", name := "<init>", desc := "()V" } : Jvm.MethodName) prog_3_method_1_code (1 : Nat) (Option.none : Option Jvm.ClassFile.FieldType)) ∈ tblG := m_t (i := 29) rfl rfl
theorem m_28 : (Jvm.Cond.instanceMethod ({ cls := "PortDrawer$Tape", name := "<init>", desc := "()V" } : Jvm.MethodName)) ∈ tblG := m_t (i := 28) rfl rfl
theorem m_35 : (Jvm.Cond.fieldLink "PortDrawer$Harbour" (12 : Nat) "PortDrawer$Harbour" "tape" "LPortDrawer$Tape;") ∈ tblG := m_t (i := 35) rfl rfl
theorem m_55 : (Jvm.Cond.arrayClass Jvm.ClassFile.FieldType.int) ∈ tblG := m_t (i := 55) rfl rfl
theorem m_36 : (Jvm.Cond.fieldLink "PortDrawer$Harbour" (18 : Nat) "PortDrawer$Harbour" "kinds" "[I") ∈ tblG := m_t (i := 36) rfl rfl
theorem m_38 : (Jvm.Cond.fieldLink "PortDrawer$Harbour" (22 : Nat) "PortDrawer$Harbour" "values" "[I") ∈ tblG := m_t (i := 38) rfl rfl
theorem m_40 : (Jvm.Cond.fieldLink "PortDrawer$Harbour" (25 : Nat) "PortDrawer$Harbour" "references" "[I") ∈ tblG := m_t (i := 40) rfl rfl
theorem m_42 : (Jvm.Cond.fieldLink "PortDrawer$Harbour" (28 : Nat) "PortDrawer$Harbour" "parts" "I") ∈ tblG := m_t (i := 42) rfl rfl
theorem m_263 : (Jvm.Cond.code ({ cls := "PortDrawer$Harbour", name := "has", desc := "(I)Z" } : Jvm.MethodName) prog_2_method_6_code (2 : Nat) (Option.some Jvm.ClassFile.FieldType.boolean)) ∈ tblG := m_t (i := 263) rfl rfl
theorem ms_16 : Cond.selects "PortDrawer$Harbour" ⟨"PortDrawer$Harbour", "has", "(I)Z"⟩ ⟨"PortDrawer$Harbour", "has", "(I)Z"⟩ ∈ tblG := m_s (i := 16) rfl rfl
theorem m_276 : (Jvm.Cond.methodLink "PortDrawer$Harbour" (54 : Nat) ({ cls := "PortDrawer$Harbour", name := "has", desc := "(I)Z" } : Jvm.MethodName)) ∈ tblG := m_t (i := 276) rfl rfl
theorem m_262 : (Jvm.Cond.instanceMethod ({ cls := "PortDrawer$Harbour", name := "has", desc := "(I)Z" } : Jvm.MethodName)) ∈ tblG := m_t (i := 262) rfl rfl
theorem m_2 : (Jvm.Cond.initialized "PortDrawer$Harbour") ∈ tblG := m_t (i := 2) rfl rfl
theorem m_275 : (Jvm.Cond.code ({ cls := "PortDrawer$Harbour", name := "isAct", desc := "(I)Z" } : Jvm.MethodName) prog_2_method_7_code (2 : Nat) (Option.some Jvm.ClassFile.FieldType.boolean)) ∈ tblG := m_t (i := 275) rfl rfl
theorem ms_19 : Cond.selects "PortDrawer$Harbour" ⟨"PortDrawer$Harbour", "isAct", "(I)Z"⟩ ⟨"PortDrawer$Harbour", "isAct", "(I)Z"⟩ ∈ tblG := m_s (i := 19) rfl rfl
theorem m_272 : (Jvm.Cond.methodLink "PortDrawer$Harbour" (58 : Nat) ({ cls := "PortDrawer$Harbour", name := "isAct", desc := "(I)Z" } : Jvm.MethodName)) ∈ tblG := m_t (i := 272) rfl rfl
theorem m_274 : (Jvm.Cond.instanceMethod ({ cls := "PortDrawer$Harbour", name := "isAct", desc := "(I)Z" } : Jvm.MethodName)) ∈ tblG := m_t (i := 274) rfl rfl
theorem m_255 : (Jvm.Cond.code ({ cls := "PortDrawer", name := "mayRefer", desc := "(II)Z" } : Jvm.MethodName) prog_1_method_24_code (2 : Nat) (Option.some Jvm.ClassFile.FieldType.boolean)) ∈ tblG := m_t (i := 255) rfl rfl
theorem m_1 : (Jvm.Cond.initialized "PortDrawer") ∈ tblG := m_t (i := 1) rfl rfl
theorem m_254 : (Jvm.Cond.static ({ cls := "PortDrawer", name := "mayRefer", desc := "(II)Z" } : Jvm.MethodName)) ∈ tblG := m_t (i := 254) rfl rfl
theorem d_H_init_0 : decode b_H_init 0 = .ok (.aload_n 0, 1) := by decide +kernel
theorem d_H_init_1 : decode b_H_init 1 = .ok (.invokespecial 3, 3) := by decide +kernel
theorem d_H_init_4 : decode b_H_init 4 = .ok (.aload_n 0, 1) := by decide +kernel
theorem d_H_init_5 : decode b_H_init 5 = .ok (.new 9, 3) := by decide +kernel
theorem d_H_init_8 : decode b_H_init 8 = .ok (.dup, 1) := by decide +kernel
theorem d_H_init_9 : decode b_H_init 9 = .ok (.invokespecial 11, 3) := by decide +kernel
theorem d_H_init_12 : decode b_H_init 12 = .ok (.putfield 12, 3) := by decide +kernel
theorem d_H_init_15 : decode b_H_init 15 = .ok (.aload_n 0, 1) := by decide +kernel
theorem d_H_init_16 : decode b_H_init 16 = .ok (.bipush 43, 2) := by decide +kernel
theorem d_H_init_18 : decode b_H_init 18 = .ok (.newarray .int, 2) := by decide +kernel
theorem d_H_init_20 : decode b_H_init 20 = .ok (.putfield 18, 3) := by decide +kernel
theorem d_H_init_23 : decode b_H_init 23 = .ok (.aload_n 0, 1) := by decide +kernel
theorem d_H_init_24 : decode b_H_init 24 = .ok (.bipush 43, 2) := by decide +kernel
theorem d_H_init_26 : decode b_H_init 26 = .ok (.newarray .int, 2) := by decide +kernel
theorem d_H_init_28 : decode b_H_init 28 = .ok (.putfield 22, 3) := by decide +kernel
theorem d_H_init_31 : decode b_H_init 31 = .ok (.aload_n 0, 1) := by decide +kernel
theorem d_H_init_32 : decode b_H_init 32 = .ok (.bipush 43, 2) := by decide +kernel
theorem d_H_init_34 : decode b_H_init 34 = .ok (.newarray .int, 2) := by decide +kernel
theorem d_H_init_36 : decode b_H_init 36 = .ok (.putfield 25, 3) := by decide +kernel
theorem d_H_init_39 : decode b_H_init 39 = .ok (.aload_n 0, 1) := by decide +kernel
theorem d_H_init_40 : decode b_H_init 40 = .ok (.iconst 0, 1) := by decide +kernel
theorem d_H_init_41 : decode b_H_init 41 = .ok (.putfield 28, 3) := by decide +kernel
theorem d_H_init_44 : decode b_H_init 44 = .ok (.return_, 1) := by decide +kernel
theorem d_H_has_0 : decode b_H_has 0 = .ok (.iload_n 1, 1) := by decide +kernel
theorem d_H_has_1 : decode b_H_has 1 = .ok (.ifCond .lt 15, 3) := by decide +kernel
theorem d_H_has_4 : decode b_H_has 4 = .ok (.iload_n 1, 1) := by decide +kernel
theorem d_H_has_5 : decode b_H_has 5 = .ok (.aload_n 0, 1) := by decide +kernel
theorem d_H_has_6 : decode b_H_has 6 = .ok (.getfield 28, 3) := by decide +kernel
theorem d_H_has_9 : decode b_H_has 9 = .ok (.if_icmp .ge 7, 3) := by decide +kernel
theorem d_H_has_12 : decode b_H_has 12 = .ok (.iconst 1, 1) := by decide +kernel
theorem d_H_has_13 : decode b_H_has 13 = .ok (.goto 4, 3) := by decide +kernel
theorem d_H_has_16 : decode b_H_has 16 = .ok (.iconst 0, 1) := by decide +kernel
theorem d_H_has_17 : decode b_H_has 17 = .ok (.ireturn, 1) := by decide +kernel
theorem d_H_isAct_0 : decode b_H_isAct 0 = .ok (.aload_n 0, 1) := by decide +kernel
theorem d_H_isAct_1 : decode b_H_isAct 1 = .ok (.iload_n 1, 1) := by decide +kernel
theorem d_H_isAct_2 : decode b_H_isAct 2 = .ok (.invokevirtual 54, 3) := by decide +kernel
theorem d_H_isAct_5 : decode b_H_isAct 5 = .ok (.ifCond .eq 17, 3) := by decide +kernel
theorem d_H_isAct_8 : decode b_H_isAct 8 = .ok (.aload_n 0, 1) := by decide +kernel
theorem d_H_isAct_9 : decode b_H_isAct 9 = .ok (.getfield 18, 3) := by decide +kernel
theorem d_H_isAct_12 : decode b_H_isAct 12 = .ok (.iload_n 1, 1) := by decide +kernel
theorem d_H_isAct_13 : decode b_H_isAct 13 = .ok (.iaload, 1) := by decide +kernel
theorem d_H_isAct_14 : decode b_H_isAct 14 = .ok (.iconst 5, 1) := by decide +kernel
theorem d_H_isAct_15 : decode b_H_isAct 15 = .ok (.if_icmp .ne 7, 3) := by decide +kernel
theorem d_H_isAct_18 : decode b_H_isAct 18 = .ok (.iconst 1, 1) := by decide +kernel
theorem d_H_isAct_19 : decode b_H_isAct 19 = .ok (.goto 4, 3) := by decide +kernel
theorem d_H_isAct_22 : decode b_H_isAct 22 = .ok (.iconst 0, 1) := by decide +kernel
theorem d_H_isAct_23 : decode b_H_isAct 23 = .ok (.ireturn, 1) := by decide +kernel
theorem d_H_isFittingAct_0 : decode b_H_isFittingAct 0 = .ok (.aload_n 0, 1) := by decide +kernel
theorem d_H_isFittingAct_1 : decode b_H_isFittingAct 1 = .ok (.iload_n 1, 1) := by decide +kernel
theorem d_H_isFittingAct_2 : decode b_H_isFittingAct 2 = .ok (.invokevirtual 58, 3) := by decide +kernel
theorem d_H_isFittingAct_5 : decode b_H_isFittingAct 5 = .ok (.ifCond .ne 5, 3) := by decide +kernel
theorem d_H_isFittingAct_8 : decode b_H_isFittingAct 8 = .ok (.iconst 0, 1) := by decide +kernel
theorem d_H_isFittingAct_9 : decode b_H_isFittingAct 9 = .ok (.ireturn, 1) := by decide +kernel
theorem d_H_isFittingAct_10 : decode b_H_isFittingAct 10 = .ok (.aload_n 0, 1) := by decide +kernel
theorem d_H_isFittingAct_11 : decode b_H_isFittingAct 11 = .ok (.getfield 25, 3) := by decide +kernel
theorem d_H_isFittingAct_14 : decode b_H_isFittingAct 14 = .ok (.iload_n 1, 1) := by decide +kernel
theorem d_H_isFittingAct_15 : decode b_H_isFittingAct 15 = .ok (.iaload, 1) := by decide +kernel
theorem d_H_isFittingAct_16 : decode b_H_isFittingAct 16 = .ok (.istore_n 2, 1) := by decide +kernel
theorem d_H_isFittingAct_17 : decode b_H_isFittingAct 17 = .ok (.aload_n 0, 1) := by decide +kernel
theorem d_H_isFittingAct_18 : decode b_H_isFittingAct 18 = .ok (.iload_n 2, 1) := by decide +kernel
theorem d_H_isFittingAct_19 : decode b_H_isFittingAct 19 = .ok (.invokevirtual 54, 3) := by decide +kernel
theorem d_H_isFittingAct_22 : decode b_H_isFittingAct 22 = .ok (.ifCond .eq 26, 3) := by decide +kernel
theorem d_H_isFittingAct_25 : decode b_H_isFittingAct 25 = .ok (.aload_n 0, 1) := by decide +kernel
theorem d_H_isFittingAct_26 : decode b_H_isFittingAct 26 = .ok (.getfield 22, 3) := by decide +kernel
theorem d_H_isFittingAct_29 : decode b_H_isFittingAct 29 = .ok (.iload_n 2, 1) := by decide +kernel
theorem d_H_isFittingAct_30 : decode b_H_isFittingAct 30 = .ok (.iaload, 1) := by decide +kernel
theorem d_H_isFittingAct_31 : decode b_H_isFittingAct 31 = .ok (.iconst 2, 1) := by decide +kernel
theorem d_H_isFittingAct_32 : decode b_H_isFittingAct 32 = .ok (.irem, 1) := by decide +kernel
theorem d_H_isFittingAct_33 : decode b_H_isFittingAct 33 = .ok (.aload_n 0, 1) := by decide +kernel
theorem d_H_isFittingAct_34 : decode b_H_isFittingAct 34 = .ok (.getfield 22, 3) := by decide +kernel
theorem d_H_isFittingAct_37 : decode b_H_isFittingAct 37 = .ok (.iload_n 1, 1) := by decide +kernel
theorem d_H_isFittingAct_38 : decode b_H_isFittingAct 38 = .ok (.iaload, 1) := by decide +kernel
theorem d_H_isFittingAct_39 : decode b_H_isFittingAct 39 = .ok (.iconst 2, 1) := by decide +kernel
theorem d_H_isFittingAct_40 : decode b_H_isFittingAct 40 = .ok (.irem, 1) := by decide +kernel
theorem d_H_isFittingAct_41 : decode b_H_isFittingAct 41 = .ok (.if_icmp .ne 7, 3) := by decide +kernel
theorem d_H_isFittingAct_44 : decode b_H_isFittingAct 44 = .ok (.iconst 1, 1) := by decide +kernel
theorem d_H_isFittingAct_45 : decode b_H_isFittingAct 45 = .ok (.goto 4, 3) := by decide +kernel
theorem d_H_isFittingAct_48 : decode b_H_isFittingAct 48 = .ok (.iconst 0, 1) := by decide +kernel
theorem d_H_isFittingAct_49 : decode b_H_isFittingAct 49 = .ok (.ireturn, 1) := by decide +kernel
theorem d_H_ofKindAheadOf_0 : decode b_H_ofKindAheadOf 0 = .ok (.iconst 0, 1) := by decide +kernel
theorem d_H_ofKindAheadOf_1 : decode b_H_ofKindAheadOf 1 = .ok (.istore_n 3, 1) := by decide +kernel
theorem d_H_ofKindAheadOf_2 : decode b_H_ofKindAheadOf 2 = .ok (.iconst 0, 1) := by decide +kernel
theorem d_H_ofKindAheadOf_3 : decode b_H_ofKindAheadOf 3 = .ok (.istore 4, 2) := by decide +kernel
theorem d_H_ofKindAheadOf_5 : decode b_H_ofKindAheadOf 5 = .ok (.iload 4, 2) := by decide +kernel
theorem d_H_ofKindAheadOf_7 : decode b_H_ofKindAheadOf 7 = .ok (.iload_n 2, 1) := by decide +kernel
theorem d_H_ofKindAheadOf_8 : decode b_H_ofKindAheadOf 8 = .ok (.if_icmp .ge 32, 3) := by decide +kernel
theorem d_H_ofKindAheadOf_11 : decode b_H_ofKindAheadOf 11 = .ok (.iload 4, 2) := by decide +kernel
theorem d_H_ofKindAheadOf_13 : decode b_H_ofKindAheadOf 13 = .ok (.aload_n 0, 1) := by decide +kernel
theorem d_H_ofKindAheadOf_14 : decode b_H_ofKindAheadOf 14 = .ok (.getfield 28, 3) := by decide +kernel
theorem d_H_ofKindAheadOf_17 : decode b_H_ofKindAheadOf 17 = .ok (.if_icmp .ge 23, 3) := by decide +kernel
theorem d_H_ofKindAheadOf_20 : decode b_H_ofKindAheadOf 20 = .ok (.aload_n 0, 1) := by decide +kernel
theorem d_H_ofKindAheadOf_21 : decode b_H_ofKindAheadOf 21 = .ok (.getfield 18, 3) := by decide +kernel
theorem d_H_ofKindAheadOf_24 : decode b_H_ofKindAheadOf 24 = .ok (.iload 4, 2) := by decide +kernel
theorem d_H_ofKindAheadOf_26 : decode b_H_ofKindAheadOf 26 = .ok (.iaload, 1) := by decide +kernel
theorem d_H_ofKindAheadOf_27 : decode b_H_ofKindAheadOf 27 = .ok (.iload_n 1, 1) := by decide +kernel
theorem d_H_ofKindAheadOf_28 : decode b_H_ofKindAheadOf 28 = .ok (.if_icmp .ne 6, 3) := by decide +kernel
theorem d_H_ofKindAheadOf_31 : decode b_H_ofKindAheadOf 31 = .ok (.iinc 3 1, 3) := by decide +kernel
theorem d_H_ofKindAheadOf_34 : decode b_H_ofKindAheadOf 34 = .ok (.iinc 4 1, 3) := by decide +kernel
theorem d_H_ofKindAheadOf_37 : decode b_H_ofKindAheadOf 37 = .ok (.goto (-32), 3) := by decide +kernel
theorem d_H_ofKindAheadOf_40 : decode b_H_ofKindAheadOf 40 = .ok (.iload_n 3, 1) := by decide +kernel
theorem d_H_ofKindAheadOf_41 : decode b_H_ofKindAheadOf 41 = .ok (.ireturn, 1) := by decide +kernel
theorem d_H_partsToReferTo_0 : decode b_H_partsToReferTo 0 = .ok (.iconst 0, 1) := by decide +kernel
theorem d_H_partsToReferTo_1 : decode b_H_partsToReferTo 1 = .ok (.istore_n 2, 1) := by decide +kernel
theorem d_H_partsToReferTo_2 : decode b_H_partsToReferTo 2 = .ok (.iconst 0, 1) := by decide +kernel
theorem d_H_partsToReferTo_3 : decode b_H_partsToReferTo 3 = .ok (.istore_n 3, 1) := by decide +kernel
theorem d_H_partsToReferTo_4 : decode b_H_partsToReferTo 4 = .ok (.iload_n 3, 1) := by decide +kernel
theorem d_H_partsToReferTo_5 : decode b_H_partsToReferTo 5 = .ok (.aload_n 0, 1) := by decide +kernel
theorem d_H_partsToReferTo_6 : decode b_H_partsToReferTo 6 = .ok (.getfield 28, 3) := by decide +kernel
theorem d_H_partsToReferTo_9 : decode b_H_partsToReferTo 9 = .ok (.if_icmp .ge 25, 3) := by decide +kernel
theorem d_H_partsToReferTo_12 : decode b_H_partsToReferTo 12 = .ok (.iload_n 1, 1) := by decide +kernel
theorem d_H_partsToReferTo_13 : decode b_H_partsToReferTo 13 = .ok (.aload_n 0, 1) := by decide +kernel
theorem d_H_partsToReferTo_14 : decode b_H_partsToReferTo 14 = .ok (.getfield 18, 3) := by decide +kernel
theorem d_H_partsToReferTo_17 : decode b_H_partsToReferTo 17 = .ok (.iload_n 3, 1) := by decide +kernel
theorem d_H_partsToReferTo_18 : decode b_H_partsToReferTo 18 = .ok (.iaload, 1) := by decide +kernel
theorem d_H_partsToReferTo_19 : decode b_H_partsToReferTo 19 = .ok (.invokestatic 50, 3) := by decide +kernel
theorem d_H_partsToReferTo_22 : decode b_H_partsToReferTo 22 = .ok (.ifCond .eq 6, 3) := by decide +kernel
theorem d_H_partsToReferTo_25 : decode b_H_partsToReferTo 25 = .ok (.iinc 2 1, 3) := by decide +kernel
theorem d_H_partsToReferTo_28 : decode b_H_partsToReferTo 28 = .ok (.iinc 3 1, 3) := by decide +kernel
theorem d_H_partsToReferTo_31 : decode b_H_partsToReferTo 31 = .ok (.goto (-27), 3) := by decide +kernel
theorem d_H_partsToReferTo_34 : decode b_H_partsToReferTo 34 = .ok (.iload_n 2, 1) := by decide +kernel
theorem d_H_partsToReferTo_35 : decode b_H_partsToReferTo 35 = .ok (.ireturn, 1) := by decide +kernel
theorem d_H_isLike_0 : decode b_H_isLike 0 = .ok (.aload_n 1, 1) := by decide +kernel
theorem d_H_isLike_1 : decode b_H_isLike 1 = .ok (.ifnull 14, 3) := by decide +kernel
theorem d_H_isLike_4 : decode b_H_isLike 4 = .ok (.aload_n 1, 1) := by decide +kernel
theorem d_H_isLike_5 : decode b_H_isLike 5 = .ok (.getfield 28, 3) := by decide +kernel
theorem d_H_isLike_8 : decode b_H_isLike 8 = .ok (.aload_n 0, 1) := by decide +kernel
theorem d_H_isLike_9 : decode b_H_isLike 9 = .ok (.getfield 28, 3) := by decide +kernel
theorem d_H_isLike_12 : decode b_H_isLike 12 = .ok (.if_icmp .eq 5, 3) := by decide +kernel
theorem d_H_isLike_15 : decode b_H_isLike 15 = .ok (.iconst 0, 1) := by decide +kernel
theorem d_H_isLike_16 : decode b_H_isLike 16 = .ok (.ireturn, 1) := by decide +kernel
theorem d_H_isLike_17 : decode b_H_isLike 17 = .ok (.iconst 0, 1) := by decide +kernel
theorem d_H_isLike_18 : decode b_H_isLike 18 = .ok (.istore_n 2, 1) := by decide +kernel
theorem d_H_isLike_19 : decode b_H_isLike 19 = .ok (.iload_n 2, 1) := by decide +kernel
theorem d_H_isLike_20 : decode b_H_isLike 20 = .ok (.aload_n 0, 1) := by decide +kernel
theorem d_H_isLike_21 : decode b_H_isLike 21 = .ok (.getfield 28, 3) := by decide +kernel
theorem d_H_isLike_24 : decode b_H_isLike 24 = .ok (.if_icmp .ge 56, 3) := by decide +kernel
theorem d_H_isLike_27 : decode b_H_isLike 27 = .ok (.aload_n 0, 1) := by decide +kernel
theorem d_H_isLike_28 : decode b_H_isLike 28 = .ok (.getfield 18, 3) := by decide +kernel
theorem d_H_isLike_31 : decode b_H_isLike 31 = .ok (.iload_n 2, 1) := by decide +kernel
theorem d_H_isLike_32 : decode b_H_isLike 32 = .ok (.iaload, 1) := by decide +kernel
theorem d_H_isLike_33 : decode b_H_isLike 33 = .ok (.aload_n 1, 1) := by decide +kernel
theorem d_H_isLike_34 : decode b_H_isLike 34 = .ok (.getfield 18, 3) := by decide +kernel
theorem d_H_isLike_37 : decode b_H_isLike 37 = .ok (.iload_n 2, 1) := by decide +kernel
theorem d_H_isLike_38 : decode b_H_isLike 38 = .ok (.iaload, 1) := by decide +kernel
theorem d_H_isLike_39 : decode b_H_isLike 39 = .ok (.if_icmp .ne 33, 3) := by decide +kernel
theorem d_H_isLike_42 : decode b_H_isLike 42 = .ok (.aload_n 0, 1) := by decide +kernel
theorem d_H_isLike_43 : decode b_H_isLike 43 = .ok (.getfield 22, 3) := by decide +kernel
theorem d_H_isLike_46 : decode b_H_isLike 46 = .ok (.iload_n 2, 1) := by decide +kernel
theorem d_H_isLike_47 : decode b_H_isLike 47 = .ok (.iaload, 1) := by decide +kernel
theorem d_H_isLike_48 : decode b_H_isLike 48 = .ok (.aload_n 1, 1) := by decide +kernel
theorem d_H_isLike_49 : decode b_H_isLike 49 = .ok (.getfield 22, 3) := by decide +kernel
theorem d_H_isLike_52 : decode b_H_isLike 52 = .ok (.iload_n 2, 1) := by decide +kernel
theorem d_H_isLike_53 : decode b_H_isLike 53 = .ok (.iaload, 1) := by decide +kernel
theorem d_H_isLike_54 : decode b_H_isLike 54 = .ok (.if_icmp .ne 18, 3) := by decide +kernel
theorem d_H_isLike_57 : decode b_H_isLike 57 = .ok (.aload_n 0, 1) := by decide +kernel
theorem d_H_isLike_58 : decode b_H_isLike 58 = .ok (.getfield 25, 3) := by decide +kernel
theorem d_H_isLike_61 : decode b_H_isLike 61 = .ok (.iload_n 2, 1) := by decide +kernel
theorem d_H_isLike_62 : decode b_H_isLike 62 = .ok (.iaload, 1) := by decide +kernel
theorem d_H_isLike_63 : decode b_H_isLike 63 = .ok (.aload_n 1, 1) := by decide +kernel
theorem d_H_isLike_64 : decode b_H_isLike 64 = .ok (.getfield 25, 3) := by decide +kernel
theorem d_H_isLike_67 : decode b_H_isLike 67 = .ok (.iload_n 2, 1) := by decide +kernel
theorem d_H_isLike_68 : decode b_H_isLike 68 = .ok (.iaload, 1) := by decide +kernel
theorem d_H_isLike_69 : decode b_H_isLike 69 = .ok (.if_icmp .eq 5, 3) := by decide +kernel
theorem d_H_isLike_72 : decode b_H_isLike 72 = .ok (.iconst 0, 1) := by decide +kernel
theorem d_H_isLike_73 : decode b_H_isLike 73 = .ok (.ireturn, 1) := by decide +kernel
theorem d_H_isLike_74 : decode b_H_isLike 74 = .ok (.iinc 2 1, 3) := by decide +kernel
theorem d_H_isLike_77 : decode b_H_isLike 77 = .ok (.goto (-58), 3) := by decide +kernel
theorem d_H_isLike_80 : decode b_H_isLike 80 = .ok (.iconst 1, 1) := by decide +kernel
theorem d_H_isLike_81 : decode b_H_isLike 81 = .ok (.ireturn, 1) := by decide +kernel
set_option maxHeartbeats 4000000 in
set_option maxRecDepth 100000 in
/-- Harbour() -/
theorem c_H_init (l : Launch) (dC : Nat → ClassId) (dI : Nat → Nat → Nat) (jh : Nat) (n0 : Int32)  (sz : Nat) : Met l y_H_init w_H_init ({ frames := 2, cells := 4, slots := 130, locals := 40 }) (wr_P dC dI [.ref jh] [(jh, .inr (1, [.null, .null, .null, .null, .int n0]))] [] sz) (va_Qv (fun (_ : Nat × Nat × Nat × Nat × ClassId × ClassId × ClassId) => True) (fun (u : Nat × Nat × Nat × Nat × ClassId × ClassId × ClassId) => wr_B dC dI (va_A [(jh, .inr (1, [.null, .null, .null, .null, .int n0]))] sz) [(jh, .inr (1, [.ref u.1, .ref u.2.1, .ref u.2.2.1, .ref u.2.2.2.1, .int (nI 0)])), (u.1, .inr (0, [.long 0])), (u.2.1, .inl (u.2.2.2.2.1, 43, .inl (fun _ => 0))), (u.2.2.1, .inl (u.2.2.2.2.2.1, 43, .inl (fun _ => 0))), (u.2.2.2.1, .inl (u.2.2.2.2.2.2, 43, .inl (fun _ => 0)))] [(u.2.2.2.2.1, .int), (u.2.2.2.2.2.1, .int), (u.2.2.2.2.2.2, .int)]) (va_A [(jh, .inr (1, [.null, .null, .null, .null, .int n0]))] sz)) 4 130 (va_A [(jh, .inr (1, [.null, .null, .null, .null, .int n0]))] sz) := by
  refine Met.ofW (cc := b_H_init) (maxL := 1) (ret := (Option.none : Option Jvm.ClassFile.FieldType)) (by decide) rfl ?_
  intro p e s m args below meth c s₁ B0 hml hv0
  obtain ⟨rfl, hsz, hP, hK, hD0, hN⟩ := hv0
  have hx := B0.exec
  have hb := B0.bytes
  have hr := B0.returns
  have hts := atoms_spec (ws := w_H_init) B0.pre
  have hown : s.vm.findClass R_H = some m.cls := findClass_of_methodNamed B0.named
  have hlocks := B0.notSynchronized
  have hin : meth.name = "<init>" := (name_of_methodNamed B0.named B0.method).1
  subst hsz
  have hD := hD0.self (sz := s.heap.size)
  generalize hAe : va_A [(jh, .inr (1, [.null, .null, .null, .null, .int n0]))] s.heap.size = A at hD ⊢
  have hA : ∀ q : Nat, s.heap.size ≤ q → A q := fun q h => by rw [← hAe]; exact Or.inr h
  have hS : va_S A s.heap s.heap [] := va_S.rf
  have hP : va_P (dC, dI) classes [(jh, .inr (1, [.null, .null, .null, .null, .int n0]))] s.heap := hP
  have hl := lv_entry ([.ref jh]) (n := 1) (Nat.le_of_ble_eq_true rfl)
  rw [lg_entry_eq]
  generalize (lg_sl ([.ref jh]) ++ List.replicate (1 - (lg_sl ([.ref jh])).length) Slot.unset).toArray = ls at hl ⊢
  have hl : lv_has ls 1 [(0, .ref jh)] := hl
  refine lv_aload_n hx hb d_H_init_0 rfl (lv_at hl 0 rfl) ?_
  refine W.objInit hx hb hown (hts _ (List.mem_cons_of_mem _ m_24)) (hts _ (List.mem_cons_of_mem _ m_17)) (hts _ (List.mem_cons_of_mem _ m_18)) rfl (by rw [hml]; exact hl.1) rfl d_H_init_1 (Nat.le_of_ble_eq_true rfl) (Nat.le_of_ble_eq_true rfl) ?_
  refine W.eq (g2 := F0 m 4 ls []) rfl ?_
  refine lv_aload_n hx hb d_H_init_4 rfl (lv_at hl 0 rfl) ?_
  refine va_new (ci := 0) (fs := [.long 0]) (C := R_T) (T := F_T) (N := 1) hx hb hts (lay_T _) ft_T tok_T hown (hts _ (List.mem_cons_of_mem _ m_25)) (hts _ (List.mem_cons_of_mem _ m_26)) (hts _ (List.mem_cons_of_mem _ m_3)) hK hP hD hS hA rfl (fun j hj => by rcases (show j = 0 by omega) with rfl <;> rfl) (Nat.le_of_ble_eq_true rfl) (Nat.le_of_ble_eq_true rfl) d_H_init_5 (fun q_1 H hP hD hS => ?_)
  have hP : va_P (dC, dI) classes [(jh, .inr (1, [.null, .null, .null, .null, .int n0])), (q_1, .inr (0, [.long 0]))] H := hP
  have hD : va_D A [(jh, .inr (1, [.null, .null, .null, .null, .int n0])), (q_1, .inr (0, [.long 0]))] := hD
  refine W.cs (cells' := 1) (slots' := 1) rfl rfl ?_
  refine lv_dup hx hb d_H_init_8 rfl ?_
  have hPc := hP.sub (ws' := [(q_1, .inr (0, [.long 0]))]) [1] rfl
  have hKc := hK.sub (tys' := []) [] rfl
  have hDc := hD.sub (ws' := [(q_1, .inr (0, [.long 0]))]) [1] (by decide) rfl
  have hFc := va_free (wc := [(q_1, .inr (0, [.long 0]))]) hD hS hA [1] rfl
  refine va_callv (va_runIN (As := []) (rest := [.ref q_1, .ref jh]) ⟨hx, hb, hml, hown, hts⟩ (c_T_init l dC dI q_1 0 _) ⟨va_cnB 0 hts (g_c big_w m_29) rfl rfl rfl (hN _ (by decide +kernel : (Jvm.Cond.methodLinkNest "PortDrawer$Harbour" (11 : Nat) ({ cls := "PortDrawer$Tape", name := "<init>", desc := "()V" } : Jvm.MethodName) "PortDrawer") ∈ NWl)) (hts _ (List.mem_cons_of_mem _ m_3)) (by decide +kernel) ⟨Nat.le_of_ble_eq_true rfl, Nat.le_of_ble_eq_true rfl⟩, rfl, (hts _ (List.mem_cons_of_mem _ m_28))⟩ (wr_S hPc hKc hDc hN) rfl rfl hl.1 rfl (lv_room (Nat.le_of_ble_eq_true rfl)) d_H_init_9 ⟨Nat.le_of_ble_eq_true rfl, Nat.le_of_ble_eq_true rfl⟩) hS (fun q _ h => hFc q h) hFc (fun u t H1 locs ht hvm hw hB hz1 hk1 hS => ?_)
  obtain ⟨hP1, hK1, hD1⟩ := hB
  rw [ht] at hP1
  obtain ⟨hP, hD⟩ := va_join (wr := [(jh, .inr (1, [.null, .null, .null, .null, .int n0]))]) (w1 := [(q_1, .inr (0, [.long 0]))]) hP hD [1] [0] rfl rfl (by decide) (by decide) hk1 hFc hP1 hD1
  generalize H1 = H at hP hS ⊢
  have hP : va_P (dC, dI) classes [(jh, .inr (1, [.null, .null, .null, .null, .int n0])), (q_1, .inr (0, [.long 0]))] H := hP
  have hD : va_D A [(jh, .inr (1, [.null, .null, .null, .null, .int n0])), (q_1, .inr (0, [.long 0]))] := hD
  refine va_putF (D := (dC, dI)) (ci := 1) (v := .ref q_1) (ty := .object "PortDrawer$Tape") (C := R_H) (T := F_H) (N := 5) hx hb hts (lay_H _) ft_H tok_H nok_H hown hK hP hD hS 0 rfl rfl 0 (by decide) (hts _ (List.mem_cons_of_mem _ m_35)) (fun _ h9 => h9) rfl hin rfl (by decide +kernel) rfl rfl (Nat.le_of_ble_eq_true rfl) d_H_init_12 (fun H locs hP hD hS => ?_)
  have hP : va_P (dC, dI) classes [(jh, .inr (1, [.ref q_1, .null, .null, .null, .int n0])), (q_1, .inr (0, [.long 0]))] H := hP
  have hD : va_D A [(jh, .inr (1, [.ref q_1, .null, .null, .null, .int n0])), (q_1, .inr (0, [.long 0]))] := hD
  refine lv_aload_n hx hb d_H_init_15 rfl (lv_at hl 0 rfl) ?_
  refine lv_bipush (v := nI 43) hx hb d_H_init_16 (by decide +kernel) ?_
  refine va_newa (atype := .int) (ty := .int) (a0 := (43, .inl (fun _ => 0))) hx hb (hts _ (List.mem_cons_of_mem _ m_55)) rfl hK hP hD hS hA (fun _ => rfl) (nI_pos (by omega)) (nI_clamp (by omega)) (by decide) (Nat.le_of_ble_eq_true rfl) (Nat.le_of_ble_eq_true rfl) d_H_init_18 (fun q_3 cA_4 H hK hP hD hS => ?_)
  have hK : va_K (dC, dI) classes [(cA_4, .int)] s := hK
  have hP : va_P (dC, dI) classes [(jh, .inr (1, [.ref q_1, .null, .null, .null, .int n0])), (q_1, .inr (0, [.long 0])), (q_3, .inl (cA_4, 43, .inl (fun _ => 0)))] H := hP
  have hD : va_D A [(jh, .inr (1, [.ref q_1, .null, .null, .null, .int n0])), (q_1, .inr (0, [.long 0])), (q_3, .inl (cA_4, 43, .inl (fun _ => 0)))] := hD
  refine W.cs (cells' := 2) (slots' := 44) rfl rfl ?_
  refine va_putF (D := (dC, dI)) (ci := 1) (v := .ref q_3) (ty := .array .int) (C := R_H) (T := F_H) (N := 5) hx hb hts (lay_H _) ft_H tok_H nok_H hown hK hP hD hS 0 rfl rfl 1 (by decide) (hts _ (List.mem_cons_of_mem _ m_36)) (fun _ h9 => h9) rfl hin rfl (by decide +kernel) rfl rfl (Nat.le_of_ble_eq_true rfl) d_H_init_20 (fun H locs hP hD hS => ?_)
  have hP : va_P (dC, dI) classes [(jh, .inr (1, [.ref q_1, .ref q_3, .null, .null, .int n0])), (q_1, .inr (0, [.long 0])), (q_3, .inl (cA_4, 43, .inl (fun _ => 0)))] H := hP
  have hD : va_D A [(jh, .inr (1, [.ref q_1, .ref q_3, .null, .null, .int n0])), (q_1, .inr (0, [.long 0])), (q_3, .inl (cA_4, 43, .inl (fun _ => 0)))] := hD
  refine lv_aload_n hx hb d_H_init_23 rfl (lv_at hl 0 rfl) ?_
  refine lv_bipush (v := nI 43) hx hb d_H_init_24 (by decide +kernel) ?_
  refine va_newa (atype := .int) (ty := .int) (a0 := (43, .inl (fun _ => 0))) hx hb (hts _ (List.mem_cons_of_mem _ m_55)) rfl hK hP hD hS hA (fun _ => rfl) (nI_pos (by omega)) (nI_clamp (by omega)) (by decide) (Nat.le_of_ble_eq_true rfl) (Nat.le_of_ble_eq_true rfl) d_H_init_26 (fun q_5 cA_6 H hK hP hD hS => ?_)
  have hK : va_K (dC, dI) classes [(cA_4, .int), (cA_6, .int)] s := hK
  have hP : va_P (dC, dI) classes [(jh, .inr (1, [.ref q_1, .ref q_3, .null, .null, .int n0])), (q_1, .inr (0, [.long 0])), (q_3, .inl (cA_4, 43, .inl (fun _ => 0))), (q_5, .inl (cA_6, 43, .inl (fun _ => 0)))] H := hP
  have hD : va_D A [(jh, .inr (1, [.ref q_1, .ref q_3, .null, .null, .int n0])), (q_1, .inr (0, [.long 0])), (q_3, .inl (cA_4, 43, .inl (fun _ => 0))), (q_5, .inl (cA_6, 43, .inl (fun _ => 0)))] := hD
  refine W.cs (cells' := 3) (slots' := 87) rfl rfl ?_
  refine va_putF (D := (dC, dI)) (ci := 1) (v := .ref q_5) (ty := .array .int) (C := R_H) (T := F_H) (N := 5) hx hb hts (lay_H _) ft_H tok_H nok_H hown hK hP hD hS 0 rfl rfl 2 (by decide) (hts _ (List.mem_cons_of_mem _ m_38)) (fun _ h9 => h9) rfl hin rfl (by decide +kernel) rfl rfl (Nat.le_of_ble_eq_true rfl) d_H_init_28 (fun H locs hP hD hS => ?_)
  have hP : va_P (dC, dI) classes [(jh, .inr (1, [.ref q_1, .ref q_3, .ref q_5, .null, .int n0])), (q_1, .inr (0, [.long 0])), (q_3, .inl (cA_4, 43, .inl (fun _ => 0))), (q_5, .inl (cA_6, 43, .inl (fun _ => 0)))] H := hP
  have hD : va_D A [(jh, .inr (1, [.ref q_1, .ref q_3, .ref q_5, .null, .int n0])), (q_1, .inr (0, [.long 0])), (q_3, .inl (cA_4, 43, .inl (fun _ => 0))), (q_5, .inl (cA_6, 43, .inl (fun _ => 0)))] := hD
  refine lv_aload_n hx hb d_H_init_31 rfl (lv_at hl 0 rfl) ?_
  refine lv_bipush (v := nI 43) hx hb d_H_init_32 (by decide +kernel) ?_
  refine va_newa (atype := .int) (ty := .int) (a0 := (43, .inl (fun _ => 0))) hx hb (hts _ (List.mem_cons_of_mem _ m_55)) rfl hK hP hD hS hA (fun _ => rfl) (nI_pos (by omega)) (nI_clamp (by omega)) (by decide) (Nat.le_of_ble_eq_true rfl) (Nat.le_of_ble_eq_true rfl) d_H_init_34 (fun q_7 cA_8 H hK hP hD hS => ?_)
  have hK : va_K (dC, dI) classes [(cA_4, .int), (cA_6, .int), (cA_8, .int)] s := hK
  have hP : va_P (dC, dI) classes [(jh, .inr (1, [.ref q_1, .ref q_3, .ref q_5, .null, .int n0])), (q_1, .inr (0, [.long 0])), (q_3, .inl (cA_4, 43, .inl (fun _ => 0))), (q_5, .inl (cA_6, 43, .inl (fun _ => 0))), (q_7, .inl (cA_8, 43, .inl (fun _ => 0)))] H := hP
  have hD : va_D A [(jh, .inr (1, [.ref q_1, .ref q_3, .ref q_5, .null, .int n0])), (q_1, .inr (0, [.long 0])), (q_3, .inl (cA_4, 43, .inl (fun _ => 0))), (q_5, .inl (cA_6, 43, .inl (fun _ => 0))), (q_7, .inl (cA_8, 43, .inl (fun _ => 0)))] := hD
  refine W.cs (cells' := 4) (slots' := 130) rfl rfl ?_
  refine va_putF (D := (dC, dI)) (ci := 1) (v := .ref q_7) (ty := .array .int) (C := R_H) (T := F_H) (N := 5) hx hb hts (lay_H _) ft_H tok_H nok_H hown hK hP hD hS 0 rfl rfl 3 (by decide) (hts _ (List.mem_cons_of_mem _ m_40)) (fun _ h9 => h9) rfl hin rfl (by decide +kernel) rfl rfl (Nat.le_of_ble_eq_true rfl) d_H_init_36 (fun H locs hP hD hS => ?_)
  have hP : va_P (dC, dI) classes [(jh, .inr (1, [.ref q_1, .ref q_3, .ref q_5, .ref q_7, .int n0])), (q_1, .inr (0, [.long 0])), (q_3, .inl (cA_4, 43, .inl (fun _ => 0))), (q_5, .inl (cA_6, 43, .inl (fun _ => 0))), (q_7, .inl (cA_8, 43, .inl (fun _ => 0)))] H := hP
  have hD : va_D A [(jh, .inr (1, [.ref q_1, .ref q_3, .ref q_5, .ref q_7, .int n0])), (q_1, .inr (0, [.long 0])), (q_3, .inl (cA_4, 43, .inl (fun _ => 0))), (q_5, .inl (cA_6, 43, .inl (fun _ => 0))), (q_7, .inl (cA_8, 43, .inl (fun _ => 0)))] := hD
  refine lv_aload_n hx hb d_H_init_39 rfl (lv_at hl 0 rfl) ?_
  refine lv_iconst (v := nI 0) hx hb d_H_init_40 (by decide +kernel) ?_
  refine va_put (D := (dC, dI)) (ci := 1) (v := .int (nI 0)) (ty := .int) (C := R_H) (T := F_H) (N := 5) hx hb hts (lay_H _) ft_H tok_H nok_H hown hK hP hD hS 0 rfl rfl 4 (by decide) (hts _ (List.mem_cons_of_mem _ m_42)) (fun _ h9 => h9) rfl (by decide +kernel) rfl rfl (Nat.le_of_ble_eq_true rfl) d_H_init_41 (fun H locs hP hD hS => ?_)
  have hP : va_P (dC, dI) classes [(jh, .inr (1, [.ref q_1, .ref q_3, .ref q_5, .ref q_7, .int (nI 0)])), (q_1, .inr (0, [.long 0])), (q_3, .inl (cA_4, 43, .inl (fun _ => 0))), (q_5, .inl (cA_6, 43, .inl (fun _ => 0))), (q_7, .inl (cA_8, 43, .inl (fun _ => 0)))] H := hP
  have hD : va_D A [(jh, .inr (1, [.ref q_1, .ref q_3, .ref q_5, .ref q_7, .int (nI 0)])), (q_1, .inr (0, [.long 0])), (q_3, .inl (cA_4, 43, .inl (fun _ => 0))), (q_5, .inl (cA_6, 43, .inl (fun _ => 0))), (q_7, .inl (cA_8, 43, .inl (fun _ => 0)))] := hD
  have hP9 := hP.sub (ws' := [(jh, .inr (1, [.ref q_1, .ref q_3, .ref q_5, .ref q_7, .int (nI 0)])), (q_1, .inr (0, [.long 0])), (q_3, .inl (cA_4, 43, .inl (fun _ => 0))), (q_5, .inl (cA_6, 43, .inl (fun _ => 0))), (q_7, .inl (cA_8, 43, .inl (fun _ => 0)))]) [0, 1, 2, 3, 4] rfl
  have hD9 := hD.sub (ws' := [(jh, .inr (1, [.ref q_1, .ref q_3, .ref q_5, .ref q_7, .int (nI 0)])), (q_1, .inr (0, [.long 0])), (q_3, .inl (cA_4, 43, .inl (fun _ => 0))), (q_5, .inl (cA_6, 43, .inl (fun _ => 0))), (q_7, .inl (cA_8, 43, .inl (fun _ => 0)))]) [0, 1, 2, 3, 4] (by decide) rfl
  have hK9 := hK.sub (tys' := [(cA_4, .int), (cA_6, .int), (cA_8, .int)]) [0, 1, 2] rfl
  exact W.vret hx hb hr (fun t ht hW => ⟨⟨(q_1, q_3, q_5, q_7, cA_4, cA_6, cA_8), rfl, trivial, by rw [ht]; exact hP9, va_K.moved hW.alike hK9, hD9⟩, hS.F ht⟩) hS.2.2 d_H_init_44
set_option maxHeartbeats 4000000 in
set_option maxRecDepth 100000 in
/-- Harbour.has -/
theorem c_H_has (l : Launch) (dC : Nat → ClassId) (dI : Nat → Nat → Nat) (jh jt jk jv jr n : Nat) (p0 : Int32)  : Met l y_H_has w_H_has ({ frames := 0, cells := 0, slots := 0, locals := 0 }) (ro_P dC dI [.ref jh, .int p0] [(jh, .inr (1, [.ref jt, .ref jk, .ref jv, .ref jr, .int (nI n)]))] []) (vp_Si (fun r => r = bI (hB n p0))) 0 0 (fun _ => False) := by
  refine Met.ofW (cc := b_H_has) (maxL := 2) (ret := (Option.some Jvm.ClassFile.FieldType.boolean)) (by decide) rfl ?_
  intro p e s m args below meth c s₁ B0 hml hv0
  obtain ⟨rfl, hP, hK, hN⟩ := hv0
  have hx := B0.exec
  have hb := B0.bytes
  have hr := B0.returns
  have hts := atoms_spec (ws := w_H_has) B0.pre
  have hown : s.vm.findClass R_H = some m.cls := findClass_of_methodNamed B0.named
  have hlocks := B0.notSynchronized
  have hP : va_P (dC, dI) classes [(jh, .inr (1, [.ref jt, .ref jk, .ref jv, .ref jr, .int (nI n)]))] s.heap := hP
  have hl := lv_entry ([.ref jh, .int p0]) (n := 2) (Nat.le_of_ble_eq_true rfl)
  rw [lg_entry_eq]
  generalize (lg_sl ([.ref jh, .int p0]) ++ List.replicate (2 - (lg_sl ([.ref jh, .int p0])).length) Slot.unset).toArray = ls at hl ⊢
  have hl : lv_has ls 2 [(0, .ref jh), (1, .int p0)] := hl
  refine lv_iload_n hx hb d_H_has_0 rfl (lv_at hl 1 rfl) ?_
  refine lv_if_lt (tgt := 16) hx hb d_H_has_1 (by decide) (fun c_1 => ?_) (fun c_1 => ?_)
  · skip
    refine lv_iconst (v := nI 0) hx hb d_H_has_16 (by decide +kernel) ?_
    exact W.zret (v := nI 0) (ty := .boolean) hx hb hr (by decide +kernel) (fun t ht hW => ⟨nI 0, rfl, (by simp [hB, bI, c_1]), ht⟩) (fun _ h => nomatch h) d_H_has_17
  · skip
    refine lv_iload_n hx hb d_H_has_4 rfl (lv_at hl 1 rfl) ?_
    refine lv_aload_n hx hb d_H_has_5 rfl (lv_at hl 0 rfl) ?_
    refine va_get (D := (dC, dI)) (ci := 1) (v := .int (nI n)) (C := R_H) (T := F_H) (N := 5) hx hb hts (lay_H _) hown hK hP 0 rfl rfl 4 (by decide) (hts _ (List.mem_cons_of_mem _ m_42)) (fun _ h9 => h9) rfl d_H_has_6 ?_
    refine lv_icmp_ge (tgt := 16) hx hb d_H_has_9 (by decide) (fun c_9 => ?_) (fun c_9 => ?_)
    · skip
      refine lv_iconst (v := nI 0) hx hb d_H_has_16 (by decide +kernel) ?_
      exact W.zret (v := nI 0) (ty := .boolean) hx hb hr (by decide +kernel) (fun t ht hW => ⟨nI 0, rfl, (by simp [hB, bI, c_1, c_9]), ht⟩) (fun _ h => nomatch h) d_H_has_17
    · skip
      refine lv_iconst (v := nI 1) hx hb d_H_has_12 (by decide +kernel) ?_
      refine lv_goto (tgt := 17) hx hb d_H_has_13 (by decide) ?_
      exact W.zret (v := nI 1) (ty := .boolean) hx hb hr (by decide +kernel) (fun t ht hW => ⟨nI 1, rfl, (by simp [hB, bI, c_1, c_9]), ht⟩) (fun _ h => nomatch h) d_H_has_17
set_option maxHeartbeats 4000000 in
set_option maxRecDepth 100000 in
/-- Harbour.isAct -/
theorem c_H_isAct (l : Launch) (dC : Nat → ClassId) (dI : Nat → Nat → Nat) (jh jt jk jv jr n : Nat) (ck : ClassId) (K : Nat → Int32) (p0 : Int32) (hn : n ≤ 43) : Met l y_H_isAct w_H_isAct ({ frames := 1, cells := 0, slots := 0, locals := 21 }) (ro_P dC dI [.ref jh, .int p0] [(jh, .inr (1, [.ref jt, .ref jk, .ref jv, .ref jr, .int (nI n)])), (jk, .inl (ck, 43, .inl K))] [(ck, .int)]) (vp_Si (fun r => r = bI (aB n K p0))) 0 0 (fun _ => False) := by
  refine Met.ofW (cc := b_H_isAct) (maxL := 2) (ret := (Option.some Jvm.ClassFile.FieldType.boolean)) (by decide) rfl ?_
  intro p e s m args below meth c s₁ B0 hml hv0
  obtain ⟨rfl, hP, hK, hN⟩ := hv0
  have hx := B0.exec
  have hb := B0.bytes
  have hr := B0.returns
  have hts := atoms_spec (ws := w_H_isAct) B0.pre
  have hown : s.vm.findClass R_H = some m.cls := findClass_of_methodNamed B0.named
  have hlocks := B0.notSynchronized
  have hP : va_P (dC, dI) classes [(jh, .inr (1, [.ref jt, .ref jk, .ref jv, .ref jr, .int (nI n)])), (jk, .inl (ck, 43, .inl K))] s.heap := hP
  have hl := lv_entry ([.ref jh, .int p0]) (n := 2) (Nat.le_of_ble_eq_true rfl)
  rw [lg_entry_eq]
  generalize (lg_sl ([.ref jh, .int p0]) ++ List.replicate (2 - (lg_sl ([.ref jh, .int p0])).length) Slot.unset).toArray = ls at hl ⊢
  have hl : lv_has ls 2 [(0, .ref jh), (1, .int p0)] := hl
  refine lv_aload_n hx hb d_H_isAct_0 rfl (lv_at hl 0 rfl) ?_
  refine lv_iload_n hx hb d_H_isAct_1 rfl (lv_at hl 1 rfl) ?_
  have hPc := hP.sub (ws' := [(jh, .inr (1, [.ref jt, .ref jk, .ref jv, .ref jr, .int (nI n)]))]) [0] rfl
  have hKc := hK.sub (tys' := []) [] rfl
  refine vp_callSi (W.runV (As := [.int p0]) (rest := []) ⟨hx, hb, hml, hown, hts⟩ (c_H_has l dC dI jh jt jk jv jr n p0) (cwV 1 hts (g_V big_w m_276 m_262 ms_16 m_2 m_263) rfl rfl rfl (by decide +kernel) ⟨Nat.le_of_ble_eq_true rfl, Nat.le_of_ble_eq_true rfl⟩) (ro_V hPc hKc hN (va_recv hKc hPc (ci := 1) (q0 := 0) rfl rfl)) rfl rfl hl.1 rfl (lv_room (Nat.le_of_ble_eq_true rfl)) d_H_isAct_2 ⟨Nat.le_of_ble_eq_true rfl, Nat.le_of_ble_eq_true rfl⟩) (fun r_1 er_1 => ?_)
  have er_1 := er_1.symm
  subst er_1
  refine lv_if_eq (tgt := 22) hx hb d_H_isAct_5 (by decide) (fun c_5 => ?_) (fun c_5 => ?_)
  · skip
    have c_5 := bI_f c_5
    refine lv_iconst (v := nI 0) hx hb d_H_isAct_22 (by decide +kernel) ?_
    exact W.zret (v := nI 0) (ty := .boolean) hx hb hr (by decide +kernel) (fun t ht hW => ⟨nI 0, rfl, (by simp [aB, bI, c_5]), ht⟩) (fun _ h => nomatch h) d_H_isAct_23
  · skip
    have c_5 := bI_t c_5
    refine lv_aload_n hx hb d_H_isAct_8 rfl (lv_at hl 0 rfl) ?_
    refine va_get (D := (dC, dI)) (ci := 1) (v := .ref jk) (C := R_H) (T := F_H) (N := 5) hx hb hts (lay_H _) hown hK hP 0 rfl rfl 1 (by decide) (hts _ (List.mem_cons_of_mem _ m_36)) (fun _ h9 => h9) rfl d_H_isAct_9 ?_
    refine lv_iload_n hx hb d_H_isAct_12 rfl (lv_at hl 1 rfl) ?_
    refine va_iald hx hb hK hP 1 0 rfl rfl (hB_in c_5 hn) d_H_isAct_13 ?_
    refine lv_iconst (v := nI 5) hx hb d_H_isAct_14 (by decide +kernel) ?_
    refine lv_icmp_ne (tgt := 22) hx hb d_H_isAct_15 (by decide) (fun c_15 => ?_) (fun c_15 => ?_)
    · skip
      refine lv_iconst (v := nI 0) hx hb d_H_isAct_22 (by decide +kernel) ?_
      exact W.zret (v := nI 0) (ty := .boolean) hx hb hr (by decide +kernel) (fun t ht hW => ⟨nI 0, rfl, (by simp [aB, bI, c_5, c_15]), ht⟩) (fun _ h => nomatch h) d_H_isAct_23
    · skip
      refine lv_iconst (v := nI 1) hx hb d_H_isAct_18 (by decide +kernel) ?_
      refine lv_goto (tgt := 23) hx hb d_H_isAct_19 (by decide) ?_
      exact W.zret (v := nI 1) (ty := .boolean) hx hb hr (by decide +kernel) (fun t ht hW => ⟨nI 1, rfl, (by simp [aB, bI, c_5, c_15]), ht⟩) (fun _ h => nomatch h) d_H_isAct_23
set_option maxHeartbeats 4000000 in
set_option maxRecDepth 100000 in
/-- Harbour.isFittingAct -/
theorem c_H_isFittingAct (l : Launch) (dC : Nat → ClassId) (dI : Nat → Nat → Nat) (jh jt jk jv jr n : Nat) (ck cv cr : ClassId) (K V R : Nat → Int32) (p0 : Int32) (hn : n ≤ 43) : Met l y_H_isFittingAct w_H_isFittingAct ({ frames := 2, cells := 0, slots := 0, locals := 42 }) (ro_P dC dI [.ref jh, .int p0] [(jh, .inr (1, [.ref jt, .ref jk, .ref jv, .ref jr, .int (nI n)])), (jk, .inl (ck, 43, .inl K)), (jv, .inl (cv, 43, .inl V)), (jr, .inl (cr, 43, .inl R))] [(ck, .int), (cv, .int), (cr, .int)]) (vp_Si (fun r => r = bI (fB n K V R p0))) 0 0 (fun _ => False) := by
  refine Met.ofW (cc := b_H_isFittingAct) (maxL := 3) (ret := (Option.some Jvm.ClassFile.FieldType.boolean)) (by decide) rfl ?_
  intro p e s m args below meth c s₁ B0 hml hv0
  obtain ⟨rfl, hP, hK, hN⟩ := hv0
  have hx := B0.exec
  have hb := B0.bytes
  have hr := B0.returns
  have hts := atoms_spec (ws := w_H_isFittingAct) B0.pre
  have hown : s.vm.findClass R_H = some m.cls := findClass_of_methodNamed B0.named
  have hlocks := B0.notSynchronized
  have hP : va_P (dC, dI) classes [(jh, .inr (1, [.ref jt, .ref jk, .ref jv, .ref jr, .int (nI n)])), (jk, .inl (ck, 43, .inl K)), (jv, .inl (cv, 43, .inl V)), (jr, .inl (cr, 43, .inl R))] s.heap := hP
  have hl := lv_entry ([.ref jh, .int p0]) (n := 3) (Nat.le_of_ble_eq_true rfl)
  rw [lg_entry_eq]
  generalize (lg_sl ([.ref jh, .int p0]) ++ List.replicate (3 - (lg_sl ([.ref jh, .int p0])).length) Slot.unset).toArray = ls at hl ⊢
  have hl : lv_has ls 3 [(0, .ref jh), (1, .int p0)] := hl
  refine lv_aload_n hx hb d_H_isFittingAct_0 rfl (lv_at hl 0 rfl) ?_
  refine lv_iload_n hx hb d_H_isFittingAct_1 rfl (lv_at hl 1 rfl) ?_
  have hPc := hP.sub (ws' := [(jh, .inr (1, [.ref jt, .ref jk, .ref jv, .ref jr, .int (nI n)])), (jk, .inl (ck, 43, .inl K))]) [0, 1] rfl
  have hKc := hK.sub (tys' := [(ck, .int)]) [0] rfl
  refine vp_callSi (W.runV (As := [.int p0]) (rest := []) ⟨hx, hb, hml, hown, hts⟩ (c_H_isAct l dC dI jh jt jk jv jr n ck K p0 (by first | assumption | omega)) (cwV 1 hts (g_V big_w m_272 m_274 ms_19 m_2 m_275) rfl rfl rfl (by decide +kernel) ⟨Nat.le_of_ble_eq_true rfl, Nat.le_of_ble_eq_true rfl⟩) (ro_V hPc hKc hN (va_recv hKc hPc (ci := 1) (q0 := 0) rfl rfl)) rfl rfl hl.1 rfl (lv_room (Nat.le_of_ble_eq_true rfl)) d_H_isFittingAct_2 ⟨Nat.le_of_ble_eq_true rfl, Nat.le_of_ble_eq_true rfl⟩) (fun r_1 er_1 => ?_)
  have er_1 := er_1.symm
  subst er_1
  refine lv_if_ne (tgt := 10) hx hb d_H_isFittingAct_5 (by decide) (fun c_5 => ?_) (fun c_5 => ?_)
  · skip
    have c_5 := bI_t c_5
    refine lv_aload_n hx hb d_H_isFittingAct_10 rfl (lv_at hl 0 rfl) ?_
    refine va_get (D := (dC, dI)) (ci := 1) (v := .ref jr) (C := R_H) (T := F_H) (N := 5) hx hb hts (lay_H _) hown hK hP 0 rfl rfl 3 (by decide) (hts _ (List.mem_cons_of_mem _ m_40)) (fun _ h9 => h9) rfl d_H_isFittingAct_11 ?_
    refine lv_iload_n hx hb d_H_isFittingAct_14 rfl (lv_at hl 1 rfl) ?_
    refine va_iald hx hb hK hP 3 2 rfl rfl (hB_in (aB_h c_5) hn) d_H_isFittingAct_15 ?_
    refine lv_istore_n (lv' := [(2, .int (R p0.toNatClampNeg)), (0, .ref jh), (1, .int p0)]) hx hb d_H_isFittingAct_16 rfl hl (by decide) rfl (fun ls hl => ?_)
    refine lv_aload_n hx hb d_H_isFittingAct_17 rfl (lv_at hl 1 rfl) ?_
    refine lv_iload_n hx hb d_H_isFittingAct_18 rfl (lv_at hl 0 rfl) ?_
    have hPc := hP.sub (ws' := [(jh, .inr (1, [.ref jt, .ref jk, .ref jv, .ref jr, .int (nI n)]))]) [0] rfl
    have hKc := hK.sub (tys' := []) [] rfl
    refine vp_callSi (W.runV (As := [.int (R p0.toNatClampNeg)]) (rest := []) ⟨hx, hb, hml, hown, hts⟩ (c_H_has l dC dI jh jt jk jv jr n (R p0.toNatClampNeg)) (cwV 1 hts (g_V big_w m_276 m_262 ms_16 m_2 m_263) rfl rfl rfl (by decide +kernel) ⟨Nat.le_of_ble_eq_true rfl, Nat.le_of_ble_eq_true rfl⟩) (ro_V hPc hKc hN (va_recv hKc hPc (ci := 1) (q0 := 0) rfl rfl)) rfl rfl hl.1 rfl (lv_room (Nat.le_of_ble_eq_true rfl)) d_H_isFittingAct_19 ⟨Nat.le_of_ble_eq_true rfl, Nat.le_of_ble_eq_true rfl⟩) (fun r_2 er_2 => ?_)
    have er_2 := er_2.symm
    subst er_2
    refine lv_if_eq (tgt := 48) hx hb d_H_isFittingAct_22 (by decide) (fun c_22 => ?_) (fun c_22 => ?_)
    · skip
      have c_22 := bI_f c_22
      refine lv_iconst (v := nI 0) hx hb d_H_isFittingAct_48 (by decide +kernel) ?_
      exact W.zret (v := nI 0) (ty := .boolean) hx hb hr (by decide +kernel) (fun t ht hW => ⟨nI 0, rfl, (by simp [fB, bI, c_5, c_22]), ht⟩) (fun _ h => nomatch h) d_H_isFittingAct_49
    · skip
      have c_22 := bI_t c_22
      refine lv_aload_n hx hb d_H_isFittingAct_25 rfl (lv_at hl 1 rfl) ?_
      refine va_get (D := (dC, dI)) (ci := 1) (v := .ref jv) (C := R_H) (T := F_H) (N := 5) hx hb hts (lay_H _) hown hK hP 0 rfl rfl 2 (by decide) (hts _ (List.mem_cons_of_mem _ m_38)) (fun _ h9 => h9) rfl d_H_isFittingAct_26 ?_
      refine lv_iload_n hx hb d_H_isFittingAct_29 rfl (lv_at hl 0 rfl) ?_
      refine va_iald hx hb hK hP 2 1 rfl rfl (hB_in c_22 hn) d_H_isFittingAct_30 ?_
      refine lv_iconst (v := nI 2) hx hb d_H_isFittingAct_31 (by decide +kernel) ?_
      refine lv_irem hx hb d_H_isFittingAct_32 (by decide +kernel) ?_
      refine lv_topi (fun w_3 ew_3 => ?_)
      have ew_3 : (rm2 (V (R p0.toNatClampNeg).toNatClampNeg)) = w_3 := (ew_3.trans (rfl)).symm
      subst ew_3
      refine lv_aload_n hx hb d_H_isFittingAct_33 rfl (lv_at hl 1 rfl) ?_
      refine va_get (D := (dC, dI)) (ci := 1) (v := .ref jv) (C := R_H) (T := F_H) (N := 5) hx hb hts (lay_H _) hown hK hP 0 rfl rfl 2 (by decide) (hts _ (List.mem_cons_of_mem _ m_38)) (fun _ h9 => h9) rfl d_H_isFittingAct_34 ?_
      refine lv_iload_n hx hb d_H_isFittingAct_37 rfl (lv_at hl 2 rfl) ?_
      refine va_iald hx hb hK hP 2 1 rfl rfl (hB_in (aB_h c_5) hn) d_H_isFittingAct_38 ?_
      refine lv_iconst (v := nI 2) hx hb d_H_isFittingAct_39 (by decide +kernel) ?_
      refine lv_irem hx hb d_H_isFittingAct_40 (by decide +kernel) ?_
      refine lv_topi (fun w_4 ew_4 => ?_)
      have ew_4 : (rm2 (V p0.toNatClampNeg)) = w_4 := (ew_4.trans (rfl)).symm
      subst ew_4
      refine lv_icmp_ne (tgt := 48) hx hb d_H_isFittingAct_41 (by decide) (fun c_41 => ?_) (fun c_41 => ?_)
      · skip
        refine lv_iconst (v := nI 0) hx hb d_H_isFittingAct_48 (by decide +kernel) ?_
        exact W.zret (v := nI 0) (ty := .boolean) hx hb hr (by decide +kernel) (fun t ht hW => ⟨nI 0, rfl, (by simp [fB, bI, c_5, c_22, c_41]), ht⟩) (fun _ h => nomatch h) d_H_isFittingAct_49
      · skip
        refine lv_iconst (v := nI 1) hx hb d_H_isFittingAct_44 (by decide +kernel) ?_
        refine lv_goto (tgt := 49) hx hb d_H_isFittingAct_45 (by decide) ?_
        exact W.zret (v := nI 1) (ty := .boolean) hx hb hr (by decide +kernel) (fun t ht hW => ⟨nI 1, rfl, (by simp [fB, bI, c_5, c_22, c_41]), ht⟩) (fun _ h => nomatch h) d_H_isFittingAct_49
  · skip
    have c_5 := bI_f c_5
    refine lv_iconst (v := nI 0) hx hb d_H_isFittingAct_8 (by decide +kernel) ?_
    exact W.zret (v := nI 0) (ty := .boolean) hx hb hr (by decide +kernel) (fun t ht hW => ⟨nI 0, rfl, (by simp [fB, bI, c_5]), ht⟩) (fun _ h => nomatch h) d_H_isFittingAct_9
set_option maxHeartbeats 4000000 in
set_option maxRecDepth 100000 in
/-- Harbour.ofKindAheadOf -/
theorem c_H_ofKindAheadOf (l : Launch) (dC : Nat → ClassId) (dI : Nat → Nat → Nat) (jh jt jk jv jr n : Nat) (ck : ClassId) (K : Nat → Int32) (kd : Int32) (e0 : Nat) (hn : n ≤ 43) (he : e0 ≤ n) : Met l y_H_ofKindAheadOf w_H_ofKindAheadOf ({ frames := 0, cells := 0, slots := 0, locals := 0 }) (ro_P dC dI [.ref jh, .int kd, .int (nI e0)] [(jh, .inr (1, [.ref jt, .ref jk, .ref jv, .ref jr, .int (nI n)])), (jk, .inl (ck, 43, .inl K))] [(ck, .int)]) (vp_Si (fun r => r = nI (cnt (kP K kd) e0))) 0 0 (fun _ => False) := by
  refine Met.ofW (cc := b_H_ofKindAheadOf) (maxL := 5) (ret := (Option.some Jvm.ClassFile.FieldType.int)) (by decide) rfl ?_
  intro p e s m args below meth c s₁ B0 hml hv0
  obtain ⟨rfl, hP, hK, hN⟩ := hv0
  have hx := B0.exec
  have hb := B0.bytes
  have hr := B0.returns
  have hts := atoms_spec (ws := w_H_ofKindAheadOf) B0.pre
  have hown : s.vm.findClass R_H = some m.cls := findClass_of_methodNamed B0.named
  have hlocks := B0.notSynchronized
  have hP : va_P (dC, dI) classes [(jh, .inr (1, [.ref jt, .ref jk, .ref jv, .ref jr, .int (nI n)])), (jk, .inl (ck, 43, .inl K))] s.heap := hP
  have hl := lv_entry ([.ref jh, .int kd, .int (nI e0)]) (n := 5) (Nat.le_of_ble_eq_true rfl)
  rw [lg_entry_eq]
  generalize (lg_sl ([.ref jh, .int kd, .int (nI e0)]) ++ List.replicate (5 - (lg_sl ([.ref jh, .int kd, .int (nI e0)])).length) Slot.unset).toArray = ls at hl ⊢
  have hl : lv_has ls 5 [(0, .ref jh), (1, .int kd), (2, .int (nI e0))] := hl
  refine lv_iconst (v := nI 0) hx hb d_H_ofKindAheadOf_0 (by decide +kernel) ?_
  refine lv_istore_n (lv' := [(3, .int (nI 0)), (0, .ref jh), (1, .int kd), (2, .int (nI e0))]) hx hb d_H_ofKindAheadOf_1 rfl hl (by decide) rfl (fun ls hl => ?_)
  refine lv_iconst (v := nI 0) hx hb d_H_ofKindAheadOf_2 (by decide +kernel) ?_
  refine lv_istore (lv' := [(4, .int (nI 0)), (3, .int (nI 0)), (0, .ref jh), (1, .int kd), (2, .int (nI e0))]) hx hb d_H_ofKindAheadOf_3 hl (by decide) rfl (fun ls hl => ?_)
  have lp_5 : ∀ (k9_5 : Nat), ∀ (i : Nat), e0 - i < k9_5 → (i ≤ e0) → ∀ (ls : Array Slot), lv_has ls 5 [(0, .ref jh), (1, .int kd), (2, .int (nI e0)), (3, .int (nI (cnt (kP K kd) i))), (4, .int (nI i))] → W p l e (headSpec w_H_ofKindAheadOf ({ frames := 0, cells := 0, slots := 0, locals := 0 })).room s m ([.ref jh, .int kd, .int (nI e0)]).toArray below meth c s.heap [] 0 0 (MQ below (vp_Si (fun r => r = nI (cnt (kP K kd) e0))) ([.ref jh, .int kd, .int (nI e0)]).toArray s 0 0 (fun _ => False)) (F0 m 5 ls []) := by
    intro k9_5
    induction k9_5 with
    | zero =>
      intro i hk9
      exact absurd hk9 (Nat.not_lt_zero _)
    | succ k9_5 ih_5 =>
      intro i hk9_5 hi ls hl
      refine lv_iload hx hb d_H_ofKindAheadOf_5 (lv_at hl 4 rfl) ?_
      refine lv_iload_n hx hb d_H_ofKindAheadOf_7 rfl (lv_at hl 2 rfl) ?_
      refine lv_icmp_ge (tgt := 40) hx hb d_H_ofKindAheadOf_8 (by decide) (fun c_8 => ?_) (fun c_8 => ?_)
      · skip
        have c_8 := (nI_leI (by omega) (by omega)).mp c_8
        refine lv_iload_n hx hb d_H_ofKindAheadOf_40 rfl (lv_at hl 3 rfl) ?_
        exact W.iret (v := nI (cnt (kP K kd) i)) hx hb hr (fun t ht hW => ⟨nI (cnt (kP K kd) i), rfl, (by rw [show i = e0 by omega]), ht⟩) (fun _ h => nomatch h) d_H_ofKindAheadOf_41
      · skip
        have c_8 := (not_congr (nI_leI (by omega) (by omega))).mp c_8
        refine lv_iload hx hb d_H_ofKindAheadOf_11 (lv_at hl 4 rfl) ?_
        refine lv_aload_n hx hb d_H_ofKindAheadOf_13 rfl (lv_at hl 0 rfl) ?_
        refine va_get (D := (dC, dI)) (ci := 1) (v := .int (nI n)) (C := R_H) (T := F_H) (N := 5) hx hb hts (lay_H _) hown hK hP 0 rfl rfl 4 (by decide) (hts _ (List.mem_cons_of_mem _ m_42)) (fun _ h9 => h9) rfl d_H_ofKindAheadOf_14 ?_
        refine lv_icmp_ge (tgt := 40) hx hb d_H_ofKindAheadOf_17 (by decide) (fun c_17 => ?_) (fun c_17 => ?_)
        · skip
          have c_17 := (nI_leI (by omega) (by omega)).mp c_17
          exact absurd c_17 (by omega)
        · skip
          have c_17 := (not_congr (nI_leI (by omega) (by omega))).mp c_17
          refine lv_aload_n hx hb d_H_ofKindAheadOf_20 rfl (lv_at hl 0 rfl) ?_
          refine va_get (D := (dC, dI)) (ci := 1) (v := .ref jk) (C := R_H) (T := F_H) (N := 5) hx hb hts (lay_H _) hown hK hP 0 rfl rfl 1 (by decide) (hts _ (List.mem_cons_of_mem _ m_36)) (fun _ h9 => h9) rfl d_H_ofKindAheadOf_21 ?_
          refine lv_iload hx hb d_H_ofKindAheadOf_24 (lv_at hl 4 rfl) ?_
          refine va_iald hx hb hK hP 1 0 rfl rfl (vp_in_nI (by omega) (by omega)) d_H_ofKindAheadOf_26 ?_
          refine lv_topi (fun w_1 ew_1 => ?_)
          rw [nI_clamp (by omega)] at ew_1
          have ew_1 := ew_1.symm
          subst ew_1
          refine lv_iload_n hx hb d_H_ofKindAheadOf_27 rfl (lv_at hl 1 rfl) ?_
          refine lv_icmp_ne (tgt := 34) hx hb d_H_ofKindAheadOf_28 (by decide) (fun c_28 => ?_) (fun c_28 => ?_)
          · skip
            rw [show nI (cnt (kP K kd) i) = nI (cnt (kP K kd) (i + 1)) from (by rw [cnt_f (P := kP K kd) (n := i) (decide_eq_false c_28)])] at hl
            refine lv_iinc (v := nI (i + 1)) (lv' := [(4, .int (nI (i + 1))), (0, .ref jh), (1, .int kd), (2, .int (nI e0)), (3, .int (nI (cnt (kP K kd) (i + 1))))]) hx hb d_H_ofKindAheadOf_34 hl (k := 4) rfl (nI_1 _) (by decide) rfl (fun ls hl => ?_)
            refine lv_goto (tgt := 5) hx hb d_H_ofKindAheadOf_37 (by decide) ?_
            exact ih_5 (i + 1) (by omega) (by first | assumption | omega) ls (lv_sub (l' := [(0, .ref jh), (1, .int kd), (2, .int (nI e0)), (3, .int (nI (cnt (kP K kd) (i + 1)))), (4, .int (nI (i + 1)))]) hl [1, 2, 3, 4, 0] rfl)
          · skip
            refine lv_iinc (v := nI (cnt (kP K kd) (i + 1))) (lv' := [(3, .int (nI (cnt (kP K kd) (i + 1)))), (0, .ref jh), (1, .int kd), (2, .int (nI e0)), (4, .int (nI i))]) hx hb d_H_ofKindAheadOf_31 hl (k := 3) rfl (by rw [cnt_t (P := kP K kd) (n := i) (decide_eq_true c_28)]; exact nI_1 _) (by decide) rfl (fun ls hl => ?_)
            refine lv_iinc (v := nI (i + 1)) (lv' := [(4, .int (nI (i + 1))), (3, .int (nI (cnt (kP K kd) (i + 1)))), (0, .ref jh), (1, .int kd), (2, .int (nI e0))]) hx hb d_H_ofKindAheadOf_34 hl (k := 4) rfl (nI_1 _) (by decide) rfl (fun ls hl => ?_)
            refine lv_goto (tgt := 5) hx hb d_H_ofKindAheadOf_37 (by decide) ?_
            exact ih_5 (i + 1) (by omega) (by first | assumption | omega) ls (lv_sub (l' := [(0, .ref jh), (1, .int kd), (2, .int (nI e0)), (3, .int (nI (cnt (kP K kd) (i + 1)))), (4, .int (nI (i + 1)))]) hl [2, 3, 4, 1, 0] rfl)
  exact lp_5 ((e0 - 0) + 1) 0 (by omega) (by first | assumption | omega) ls (lv_sub (l' := [(0, .ref jh), (1, .int kd), (2, .int (nI e0)), (3, .int (nI (cnt (kP K kd) 0))), (4, .int (nI 0))]) hl [2, 3, 4, 1, 0] rfl)
set_option maxHeartbeats 4000000 in
set_option maxRecDepth 100000 in
/-- Harbour.partsToReferTo -/
theorem c_H_partsToReferTo (l : Launch) (dC : Nat → ClassId) (dI : Nat → Nat → Nat) (jh jt jk jv jr n : Nat) (ck : ClassId) (K : Nat → Int32) (kd : Int32) (hn : n ≤ 43) : Met l y_H_partsToReferTo w_H_partsToReferTo ({ frames := 1, cells := 0, slots := 0, locals := 21 }) (ro_P dC dI [.ref jh, .int kd] [(jh, .inr (1, [.ref jt, .ref jk, .ref jv, .ref jr, .int (nI n)])), (jk, .inl (ck, 43, .inl K))] [(ck, .int)]) (vp_Si (fun r => r = nI (cnt (mP K kd) n))) 0 0 (fun _ => False) := by
  refine Met.ofW (cc := b_H_partsToReferTo) (maxL := 4) (ret := (Option.some Jvm.ClassFile.FieldType.int)) (by decide) rfl ?_
  intro p e s m args below meth c s₁ B0 hml hv0
  obtain ⟨rfl, hP, hK, hN⟩ := hv0
  have hx := B0.exec
  have hb := B0.bytes
  have hr := B0.returns
  have hts := atoms_spec (ws := w_H_partsToReferTo) B0.pre
  have hown : s.vm.findClass R_H = some m.cls := findClass_of_methodNamed B0.named
  have hlocks := B0.notSynchronized
  have hP : va_P (dC, dI) classes [(jh, .inr (1, [.ref jt, .ref jk, .ref jv, .ref jr, .int (nI n)])), (jk, .inl (ck, 43, .inl K))] s.heap := hP
  have hl := lv_entry ([.ref jh, .int kd]) (n := 4) (Nat.le_of_ble_eq_true rfl)
  rw [lg_entry_eq]
  generalize (lg_sl ([.ref jh, .int kd]) ++ List.replicate (4 - (lg_sl ([.ref jh, .int kd])).length) Slot.unset).toArray = ls at hl ⊢
  have hl : lv_has ls 4 [(0, .ref jh), (1, .int kd)] := hl
  refine lv_iconst (v := nI 0) hx hb d_H_partsToReferTo_0 (by decide +kernel) ?_
  refine lv_istore_n (lv' := [(2, .int (nI 0)), (0, .ref jh), (1, .int kd)]) hx hb d_H_partsToReferTo_1 rfl hl (by decide) rfl (fun ls hl => ?_)
  refine lv_iconst (v := nI 0) hx hb d_H_partsToReferTo_2 (by decide +kernel) ?_
  refine lv_istore_n (lv' := [(3, .int (nI 0)), (2, .int (nI 0)), (0, .ref jh), (1, .int kd)]) hx hb d_H_partsToReferTo_3 rfl hl (by decide) rfl (fun ls hl => ?_)
  have lp_4 : ∀ (k9_4 : Nat), ∀ (i : Nat), n - i < k9_4 → (i ≤ n) → ∀ (ls : Array Slot), lv_has ls 4 [(0, .ref jh), (1, .int kd), (2, .int (nI (cnt (mP K kd) i))), (3, .int (nI i))] → W p l e (headSpec w_H_partsToReferTo ({ frames := 1, cells := 0, slots := 0, locals := 21 })).room s m ([.ref jh, .int kd]).toArray below meth c s.heap [] 0 0 (MQ below (vp_Si (fun r => r = nI (cnt (mP K kd) n))) ([.ref jh, .int kd]).toArray s 0 0 (fun _ => False)) (F0 m 4 ls []) := by
    intro k9_4
    induction k9_4 with
    | zero =>
      intro i hk9
      exact absurd hk9 (Nat.not_lt_zero _)
    | succ k9_4 ih_4 =>
      intro i hk9_4 hi ls hl
      refine lv_iload_n hx hb d_H_partsToReferTo_4 rfl (lv_at hl 3 rfl) ?_
      refine lv_aload_n hx hb d_H_partsToReferTo_5 rfl (lv_at hl 0 rfl) ?_
      refine va_get (D := (dC, dI)) (ci := 1) (v := .int (nI n)) (C := R_H) (T := F_H) (N := 5) hx hb hts (lay_H _) hown hK hP 0 rfl rfl 4 (by decide) (hts _ (List.mem_cons_of_mem _ m_42)) (fun _ h9 => h9) rfl d_H_partsToReferTo_6 ?_
      refine lv_icmp_ge (tgt := 34) hx hb d_H_partsToReferTo_9 (by decide) (fun c_9 => ?_) (fun c_9 => ?_)
      · skip
        have c_9 := (nI_leI (by omega) (by omega)).mp c_9
        refine lv_iload_n hx hb d_H_partsToReferTo_34 rfl (lv_at hl 2 rfl) ?_
        exact W.iret (v := nI (cnt (mP K kd) i)) hx hb hr (fun t ht hW => ⟨nI (cnt (mP K kd) i), rfl, (by rw [show i = n by omega]), ht⟩) (fun _ h => nomatch h) d_H_partsToReferTo_35
      · skip
        have c_9 := (not_congr (nI_leI (by omega) (by omega))).mp c_9
        refine lv_iload_n hx hb d_H_partsToReferTo_12 rfl (lv_at hl 1 rfl) ?_
        refine lv_aload_n hx hb d_H_partsToReferTo_13 rfl (lv_at hl 0 rfl) ?_
        refine va_get (D := (dC, dI)) (ci := 1) (v := .ref jk) (C := R_H) (T := F_H) (N := 5) hx hb hts (lay_H _) hown hK hP 0 rfl rfl 1 (by decide) (hts _ (List.mem_cons_of_mem _ m_36)) (fun _ h9 => h9) rfl d_H_partsToReferTo_14 ?_
        refine lv_iload_n hx hb d_H_partsToReferTo_17 rfl (lv_at hl 3 rfl) ?_
        refine va_iald hx hb hK hP 1 0 rfl rfl (vp_in_nI (by omega) (by omega)) d_H_partsToReferTo_18 ?_
        refine lv_topi (fun w_1 ew_1 => ?_)
        rw [nI_clamp (by omega)] at ew_1
        have ew_1 := ew_1.symm
        subst ew_1
        have hPc := hP.sub (ws' := []) [] rfl
        have hKc := hK.sub (tys' := []) [] rfl
        refine vp_callSi (va_Run.run (va_runSN (As := [.int kd, .int (K i)]) (rest := []) ⟨hx, hb, hml, hown, hts⟩ (c_D_mayRefer l dC dI kd (K i)) ⟨va_cnB 2 hts (g_c big_w m_255) rfl rfl rfl (hN _ (by decide +kernel : (Jvm.Cond.methodLinkNest "PortDrawer$Harbour" (50 : Nat) ({ cls := "PortDrawer", name := "mayRefer", desc := "(II)Z" } : Jvm.MethodName) "PortDrawer") ∈ NWl)) (hts _ (List.mem_cons_of_mem _ m_1)) (by decide +kernel) ⟨Nat.le_of_ble_eq_true rfl, Nat.le_of_ble_eq_true rfl⟩, (hts _ (List.mem_cons_of_mem _ m_254)), trivial⟩ (ro_S hPc hKc hN) rfl rfl hl.1 rfl (lv_room (Nat.le_of_ble_eq_true rfl)) d_H_partsToReferTo_19 ⟨Nat.le_of_ble_eq_true rfl, Nat.le_of_ble_eq_true rfl⟩)) (fun r_2 er_2 => ?_)
        have er_2 := er_2.symm
        subst er_2
        refine lv_if_eq (tgt := 28) hx hb d_H_partsToReferTo_22 (by decide) (fun c_22 => ?_) (fun c_22 => ?_)
        · skip
          have c_22 := bI_f c_22
          rw [show nI (cnt (mP K kd) i) = nI (cnt (mP K kd) (i + 1)) from (by rw [cnt_f (P := mP K kd) (n := i) c_22])] at hl
          refine lv_iinc (v := nI (i + 1)) (lv' := [(3, .int (nI (i + 1))), (0, .ref jh), (1, .int kd), (2, .int (nI (cnt (mP K kd) (i + 1))))]) hx hb d_H_partsToReferTo_28 hl (k := 3) rfl (nI_1 _) (by decide) rfl (fun ls hl => ?_)
          refine lv_goto (tgt := 4) hx hb d_H_partsToReferTo_31 (by decide) ?_
          exact ih_4 (i + 1) (by omega) (by first | assumption | omega) ls (lv_sub (l' := [(0, .ref jh), (1, .int kd), (2, .int (nI (cnt (mP K kd) (i + 1)))), (3, .int (nI (i + 1)))]) hl [1, 2, 3, 0] rfl)
        · skip
          have c_22 := bI_t c_22
          refine lv_iinc (v := nI (cnt (mP K kd) (i + 1))) (lv' := [(2, .int (nI (cnt (mP K kd) (i + 1)))), (0, .ref jh), (1, .int kd), (3, .int (nI i))]) hx hb d_H_partsToReferTo_25 hl (k := 2) rfl (by rw [cnt_t (P := mP K kd) (n := i) c_22]; exact nI_1 _) (by decide) rfl (fun ls hl => ?_)
          refine lv_iinc (v := nI (i + 1)) (lv' := [(3, .int (nI (i + 1))), (2, .int (nI (cnt (mP K kd) (i + 1)))), (0, .ref jh), (1, .int kd)]) hx hb d_H_partsToReferTo_28 hl (k := 3) rfl (nI_1 _) (by decide) rfl (fun ls hl => ?_)
          refine lv_goto (tgt := 4) hx hb d_H_partsToReferTo_31 (by decide) ?_
          exact ih_4 (i + 1) (by omega) (by first | assumption | omega) ls (lv_sub (l' := [(0, .ref jh), (1, .int kd), (2, .int (nI (cnt (mP K kd) (i + 1)))), (3, .int (nI (i + 1)))]) hl [2, 3, 1, 0] rfl)
  exact lp_4 ((n - 0) + 1) 0 (by omega) (by first | assumption | omega) ls (lv_sub (l' := [(0, .ref jh), (1, .int kd), (2, .int (nI (cnt (mP K kd) 0))), (3, .int (nI 0))]) hl [2, 3, 1, 0] rfl)
set_option maxHeartbeats 4000000 in
set_option maxRecDepth 100000 in
/-- Harbour.isLike -/
theorem c_H_isLike (l : Launch) (dC : Nat → ClassId) (dI : Nat → Nat → Nat) (jh jt jk jv jr n : Nat) (ck cv cr : ClassId) (K V R : Nat → Int32) (jh2 jt2 jk2 jv2 jr2 n2 : Nat) (ck2 cv2 cr2 : ClassId) (K2 V2 R2 : Nat → Int32) (hn : n ≤ 43) (hn2 : n2 ≤ 43) : Met l y_H_isLike w_H_isLike ({ frames := 0, cells := 0, slots := 0, locals := 0 }) (ro_P dC dI [.ref jh, .ref jh2] [(jh, .inr (1, [.ref jt, .ref jk, .ref jv, .ref jr, .int (nI n)])), (jk, .inl (ck, 43, .inl K)), (jv, .inl (cv, 43, .inl V)), (jr, .inl (cr, 43, .inl R)), (jh2, .inr (1, [.ref jt2, .ref jk2, .ref jv2, .ref jr2, .int (nI n2)])), (jk2, .inl (ck2, 43, .inl K2)), (jv2, .inl (cv2, 43, .inl V2)), (jr2, .inl (cr2, 43, .inl R2))] [(ck, .int), (cv, .int), (cr, .int), (ck2, .int), (cv2, .int), (cr2, .int)]) (vp_Si (fun r => r = bI (lkB n n2 K V R K2 V2 R2))) 0 0 (fun _ => False) := by
  refine Met.ofW (cc := b_H_isLike) (maxL := 3) (ret := (Option.some Jvm.ClassFile.FieldType.boolean)) (by decide) rfl ?_
  intro p e s m args below meth c s₁ B0 hml hv0
  obtain ⟨rfl, hP, hK, hN⟩ := hv0
  have hx := B0.exec
  have hb := B0.bytes
  have hr := B0.returns
  have hts := atoms_spec (ws := w_H_isLike) B0.pre
  have hown : s.vm.findClass R_H = some m.cls := findClass_of_methodNamed B0.named
  have hlocks := B0.notSynchronized
  have hP : va_P (dC, dI) classes [(jh, .inr (1, [.ref jt, .ref jk, .ref jv, .ref jr, .int (nI n)])), (jk, .inl (ck, 43, .inl K)), (jv, .inl (cv, 43, .inl V)), (jr, .inl (cr, 43, .inl R)), (jh2, .inr (1, [.ref jt2, .ref jk2, .ref jv2, .ref jr2, .int (nI n2)])), (jk2, .inl (ck2, 43, .inl K2)), (jv2, .inl (cv2, 43, .inl V2)), (jr2, .inl (cr2, 43, .inl R2))] s.heap := hP
  have hl := lv_entry ([.ref jh, .ref jh2]) (n := 3) (Nat.le_of_ble_eq_true rfl)
  rw [lg_entry_eq]
  generalize (lg_sl ([.ref jh, .ref jh2]) ++ List.replicate (3 - (lg_sl ([.ref jh, .ref jh2])).length) Slot.unset).toArray = ls at hl ⊢
  have hl : lv_has ls 3 [(0, .ref jh), (1, .ref jh2)] := hl
  refine lv_aload_n hx hb d_H_isLike_0 rfl (lv_at hl 1 rfl) ?_
  refine lv_ifnull hx hb d_H_isLike_1 ?_
  refine lv_aload_n hx hb d_H_isLike_4 rfl (lv_at hl 1 rfl) ?_
  refine va_get (D := (dC, dI)) (ci := 1) (v := .int (nI n2)) (C := R_H) (T := F_H) (N := 5) hx hb hts (lay_H _) hown hK hP 4 rfl rfl 4 (by decide) (hts _ (List.mem_cons_of_mem _ m_42)) (fun _ h9 => h9) rfl d_H_isLike_5 ?_
  refine lv_aload_n hx hb d_H_isLike_8 rfl (lv_at hl 0 rfl) ?_
  refine va_get (D := (dC, dI)) (ci := 1) (v := .int (nI n)) (C := R_H) (T := F_H) (N := 5) hx hb hts (lay_H _) hown hK hP 0 rfl rfl 4 (by decide) (hts _ (List.mem_cons_of_mem _ m_42)) (fun _ h9 => h9) rfl d_H_isLike_9 ?_
  refine lv_icmp_eq (tgt := 17) hx hb d_H_isLike_12 (by decide) (fun c_12 => ?_) (fun c_12 => ?_)
  · skip
    have c_12 := (nI_eq (by omega) (by omega)).mp c_12
    refine lv_iconst (v := nI 0) hx hb d_H_isLike_17 (by decide +kernel) ?_
    refine lv_istore_n (lv' := [(2, .int (nI 0)), (0, .ref jh), (1, .ref jh2)]) hx hb d_H_isLike_18 rfl hl (by decide) rfl (fun ls hl => ?_)
    have lp_19 : ∀ (k9_19 : Nat), ∀ (i : Nat), n - i < k9_19 → (i ≤ n) → (∀ a, a < i → (!(eq3 K V R K2 V2 R2 a)) = false) → ∀ (ls : Array Slot), lv_has ls 3 [(0, .ref jh), (1, .ref jh2), (2, .int (nI i))] → W p l e (headSpec w_H_isLike ({ frames := 0, cells := 0, slots := 0, locals := 0 })).room s m ([.ref jh, .ref jh2]).toArray below meth c s.heap [] 0 0 (MQ below (vp_Si (fun r => r = bI (lkB n n2 K V R K2 V2 R2))) ([.ref jh, .ref jh2]).toArray s 0 0 (fun _ => False)) (F0 m 19 ls []) := by
      intro k9_19
      induction k9_19 with
      | zero =>
        intro i hk9
        exact absurd hk9 (Nat.not_lt_zero _)
      | succ k9_19 ih_19 =>
        intro i hk9_19 hi hno ls hl
        refine lv_iload_n hx hb d_H_isLike_19 rfl (lv_at hl 2 rfl) ?_
        refine lv_aload_n hx hb d_H_isLike_20 rfl (lv_at hl 0 rfl) ?_
        refine va_get (D := (dC, dI)) (ci := 1) (v := .int (nI n)) (C := R_H) (T := F_H) (N := 5) hx hb hts (lay_H _) hown hK hP 0 rfl rfl 4 (by decide) (hts _ (List.mem_cons_of_mem _ m_42)) (fun _ h9 => h9) rfl d_H_isLike_21 ?_
        refine lv_icmp_ge (tgt := 80) hx hb d_H_isLike_24 (by decide) (fun c_24 => ?_) (fun c_24 => ?_)
        · skip
          have c_24 := (nI_leI (by omega) (by omega)).mp c_24
          refine lv_iconst (v := nI 1) hx hb d_H_isLike_80 (by decide +kernel) ?_
          exact W.zret (v := nI 1) (ty := .boolean) hx hb hr (by decide +kernel) (fun t ht hW => ⟨nI 1, rfl, (by unfold lkB; rw [decide_eq_true c_12, fst9_none (fun a ha => hno a (by omega))]; rfl), ht⟩) (fun _ h => nomatch h) d_H_isLike_81
        · skip
          have c_24 := (not_congr (nI_leI (by omega) (by omega))).mp c_24
          refine lv_aload_n hx hb d_H_isLike_27 rfl (lv_at hl 0 rfl) ?_
          refine va_get (D := (dC, dI)) (ci := 1) (v := .ref jk) (C := R_H) (T := F_H) (N := 5) hx hb hts (lay_H _) hown hK hP 0 rfl rfl 1 (by decide) (hts _ (List.mem_cons_of_mem _ m_36)) (fun _ h9 => h9) rfl d_H_isLike_28 ?_
          refine lv_iload_n hx hb d_H_isLike_31 rfl (lv_at hl 2 rfl) ?_
          refine va_iald hx hb hK hP 1 0 rfl rfl (vp_in_nI (by omega) (by omega)) d_H_isLike_32 ?_
          refine lv_topi (fun w_1 ew_1 => ?_)
          rw [nI_clamp (by omega)] at ew_1
          have ew_1 := ew_1.symm
          subst ew_1
          refine lv_aload_n hx hb d_H_isLike_33 rfl (lv_at hl 1 rfl) ?_
          refine va_get (D := (dC, dI)) (ci := 1) (v := .ref jk2) (C := R_H) (T := F_H) (N := 5) hx hb hts (lay_H _) hown hK hP 4 rfl rfl 1 (by decide) (hts _ (List.mem_cons_of_mem _ m_36)) (fun _ h9 => h9) rfl d_H_isLike_34 ?_
          refine lv_iload_n hx hb d_H_isLike_37 rfl (lv_at hl 2 rfl) ?_
          refine va_iald hx hb hK hP 5 3 rfl rfl (vp_in_nI (by omega) (by omega)) d_H_isLike_38 ?_
          refine lv_topi (fun w_2 ew_2 => ?_)
          rw [nI_clamp (by omega)] at ew_2
          have ew_2 := ew_2.symm
          subst ew_2
          refine lv_icmp_ne (tgt := 72) hx hb d_H_isLike_39 (by decide) (fun c_39 => ?_) (fun c_39 => ?_)
          · skip
            refine lv_iconst (v := nI 0) hx hb d_H_isLike_72 (by decide +kernel) ?_
            exact W.zret (v := nI 0) (ty := .boolean) hx hb hr (by decide +kernel) (fun t ht hW => ⟨nI 0, rfl, (lkB_no c_12 (i := i) (by omega) (by unfold eq3; first | (rw [decide_eq_false c_69, decide_eq_true c_39, decide_eq_true c_54]; rfl) | (rw [decide_eq_false c_54, decide_eq_true c_39]; rfl) | (rw [decide_eq_false c_39]; rfl))), ht⟩) (fun _ h => nomatch h) d_H_isLike_73
          · skip
            refine lv_aload_n hx hb d_H_isLike_42 rfl (lv_at hl 0 rfl) ?_
            refine va_get (D := (dC, dI)) (ci := 1) (v := .ref jv) (C := R_H) (T := F_H) (N := 5) hx hb hts (lay_H _) hown hK hP 0 rfl rfl 2 (by decide) (hts _ (List.mem_cons_of_mem _ m_38)) (fun _ h9 => h9) rfl d_H_isLike_43 ?_
            refine lv_iload_n hx hb d_H_isLike_46 rfl (lv_at hl 2 rfl) ?_
            refine va_iald hx hb hK hP 2 1 rfl rfl (vp_in_nI (by omega) (by omega)) d_H_isLike_47 ?_
            refine lv_topi (fun w_3 ew_3 => ?_)
            rw [nI_clamp (by omega)] at ew_3
            have ew_3 := ew_3.symm
            subst ew_3
            refine lv_aload_n hx hb d_H_isLike_48 rfl (lv_at hl 1 rfl) ?_
            refine va_get (D := (dC, dI)) (ci := 1) (v := .ref jv2) (C := R_H) (T := F_H) (N := 5) hx hb hts (lay_H _) hown hK hP 4 rfl rfl 2 (by decide) (hts _ (List.mem_cons_of_mem _ m_38)) (fun _ h9 => h9) rfl d_H_isLike_49 ?_
            refine lv_iload_n hx hb d_H_isLike_52 rfl (lv_at hl 2 rfl) ?_
            refine va_iald hx hb hK hP 6 4 rfl rfl (vp_in_nI (by omega) (by omega)) d_H_isLike_53 ?_
            refine lv_topi (fun w_4 ew_4 => ?_)
            rw [nI_clamp (by omega)] at ew_4
            have ew_4 := ew_4.symm
            subst ew_4
            refine lv_icmp_ne (tgt := 72) hx hb d_H_isLike_54 (by decide) (fun c_54 => ?_) (fun c_54 => ?_)
            · skip
              refine lv_iconst (v := nI 0) hx hb d_H_isLike_72 (by decide +kernel) ?_
              exact W.zret (v := nI 0) (ty := .boolean) hx hb hr (by decide +kernel) (fun t ht hW => ⟨nI 0, rfl, (lkB_no c_12 (i := i) (by omega) (by unfold eq3; first | (rw [decide_eq_false c_69, decide_eq_true c_39, decide_eq_true c_54]; rfl) | (rw [decide_eq_false c_54, decide_eq_true c_39]; rfl) | (rw [decide_eq_false c_39]; rfl))), ht⟩) (fun _ h => nomatch h) d_H_isLike_73
            · skip
              refine lv_aload_n hx hb d_H_isLike_57 rfl (lv_at hl 0 rfl) ?_
              refine va_get (D := (dC, dI)) (ci := 1) (v := .ref jr) (C := R_H) (T := F_H) (N := 5) hx hb hts (lay_H _) hown hK hP 0 rfl rfl 3 (by decide) (hts _ (List.mem_cons_of_mem _ m_40)) (fun _ h9 => h9) rfl d_H_isLike_58 ?_
              refine lv_iload_n hx hb d_H_isLike_61 rfl (lv_at hl 2 rfl) ?_
              refine va_iald hx hb hK hP 3 2 rfl rfl (vp_in_nI (by omega) (by omega)) d_H_isLike_62 ?_
              refine lv_topi (fun w_5 ew_5 => ?_)
              rw [nI_clamp (by omega)] at ew_5
              have ew_5 := ew_5.symm
              subst ew_5
              refine lv_aload_n hx hb d_H_isLike_63 rfl (lv_at hl 1 rfl) ?_
              refine va_get (D := (dC, dI)) (ci := 1) (v := .ref jr2) (C := R_H) (T := F_H) (N := 5) hx hb hts (lay_H _) hown hK hP 4 rfl rfl 3 (by decide) (hts _ (List.mem_cons_of_mem _ m_40)) (fun _ h9 => h9) rfl d_H_isLike_64 ?_
              refine lv_iload_n hx hb d_H_isLike_67 rfl (lv_at hl 2 rfl) ?_
              refine va_iald hx hb hK hP 7 5 rfl rfl (vp_in_nI (by omega) (by omega)) d_H_isLike_68 ?_
              refine lv_topi (fun w_6 ew_6 => ?_)
              rw [nI_clamp (by omega)] at ew_6
              have ew_6 := ew_6.symm
              subst ew_6
              refine lv_icmp_eq (tgt := 74) hx hb d_H_isLike_69 (by decide) (fun c_69 => ?_) (fun c_69 => ?_)
              · skip
                refine lv_iinc (v := nI (i + 1)) (lv' := [(2, .int (nI (i + 1))), (0, .ref jh), (1, .ref jh2)]) hx hb d_H_isLike_74 hl (k := 2) rfl (nI_1 _) (by decide) rfl (fun ls hl => ?_)
                refine lv_goto (tgt := 19) hx hb d_H_isLike_77 (by decide) ?_
                exact ih_19 (i + 1) (by omega) (by omega) (lt_s (p := fun a => (!(eq3 K V R K2 V2 R2 a)) = false) hno (by show (!(eq3 K V R K2 V2 R2 i)) = false; unfold eq3; rw [decide_eq_true c_39, decide_eq_true c_54, decide_eq_true c_69]; rfl)) ls (lv_sub (l' := [(0, .ref jh), (1, .ref jh2), (2, .int (nI (i + 1)))]) hl [1, 2, 0] rfl)
              · skip
                refine lv_iconst (v := nI 0) hx hb d_H_isLike_72 (by decide +kernel) ?_
                exact W.zret (v := nI 0) (ty := .boolean) hx hb hr (by decide +kernel) (fun t ht hW => ⟨nI 0, rfl, (lkB_no c_12 (i := i) (by omega) (by unfold eq3; first | (rw [decide_eq_false c_69, decide_eq_true c_39, decide_eq_true c_54]; rfl) | (rw [decide_eq_false c_54, decide_eq_true c_39]; rfl) | (rw [decide_eq_false c_39]; rfl))), ht⟩) (fun _ h => nomatch h) d_H_isLike_73
    exact lp_19 ((n - 0) + 1) 0 (by omega) (by omega) lt_0 ls (lv_sub (l' := [(0, .ref jh), (1, .ref jh2), (2, .int (nI 0))]) hl [1, 2, 0] rfl)
  · skip
    have c_12 := (not_congr (nI_eq (by omega) (by omega))).mp c_12
    refine lv_iconst (v := nI 0) hx hb d_H_isLike_15 (by decide +kernel) ?_
    exact W.zret (v := nI 0) (ty := .boolean) hx hb hr (by decide +kernel) (fun t ht hW => ⟨nI 0, rfl, (by unfold lkB; rw [decide_eq_false (by omega)]; rfl), ht⟩) (fun _ h => nomatch h) d_H_isLike_16
