theorem m_398 : (Jvm.Cond.code ({ cls := "PortDrawerModel", name := "mayRefer", desc := "(II)Z" } : Jvm.MethodName) prog_5_method_7_code (2 : Nat) (Option.some Jvm.ClassFile.FieldType.boolean)) ∈ tblG := m_t (i := 398) rfl rfl
theorem m_396 : (Jvm.Cond.methodLink "PortDrawerModel" (47 : Nat) ({ cls := "PortDrawerModel", name := "mayRefer", desc := "(II)Z" } : Jvm.MethodName)) ∈ tblG := m_t (i := 396) rfl rfl
theorem m_397 : (Jvm.Cond.static ({ cls := "PortDrawerModel", name := "mayRefer", desc := "(II)Z" } : Jvm.MethodName)) ∈ tblG := m_t (i := 397) rfl rfl
theorem m_4 : (Jvm.Cond.initialized "PortDrawerModel") ∈ tblG := m_t (i := 4) rfl rfl
theorem m_389 : (Jvm.Cond.code ({ cls := "PortDrawerModel", name := "number", desc := "(I)I" } : Jvm.MethodName) prog_5_method_6_code (2 : Nat) (Option.some Jvm.ClassFile.FieldType.int)) ∈ tblG := m_t (i := 389) rfl rfl
theorem ms_23 : Cond.selects "PortDrawerModel" ⟨"PortDrawerModel", "number", "(I)I"⟩ ⟨"PortDrawerModel", "number", "(I)I"⟩ ∈ tblG := m_s (i := 23) rfl rfl
theorem m_386 : (Jvm.Cond.methodLink "PortDrawerModel" (51 : Nat) ({ cls := "PortDrawerModel", name := "number", desc := "(I)I" } : Jvm.MethodName)) ∈ tblG := m_t (i := 386) rfl rfl
theorem m_388 : (Jvm.Cond.instanceMethod ({ cls := "PortDrawerModel", name := "number", desc := "(I)I" } : Jvm.MethodName)) ∈ tblG := m_t (i := 388) rfl rfl
theorem m_395 : (Jvm.Cond.code ({ cls := "PortDrawerModel", name := "reference", desc := "(II)I" } : Jvm.MethodName) prog_5_method_8_code (8 : Nat) (Option.some Jvm.ClassFile.FieldType.int)) ∈ tblG := m_t (i := 395) rfl rfl
theorem ms_24 : Cond.selects "PortDrawerModel" ⟨"PortDrawerModel", "reference", "(II)I"⟩ ⟨"PortDrawerModel", "reference", "(II)I"⟩ ∈ tblG := m_s (i := 24) rfl rfl
theorem m_392 : (Jvm.Cond.methodLink "PortDrawerModel" (55 : Nat) ({ cls := "PortDrawerModel", name := "reference", desc := "(II)I" } : Jvm.MethodName)) ∈ tblG := m_t (i := 392) rfl rfl
theorem m_394 : (Jvm.Cond.instanceMethod ({ cls := "PortDrawerModel", name := "reference", desc := "(II)I" } : Jvm.MethodName)) ∈ tblG := m_t (i := 394) rfl rfl
theorem m_345 : (Jvm.Cond.fieldLink "PortDrawerModel" (26 : Nat) "PortDrawerModel" "goes" "[Z") ∈ tblG := m_t (i := 345) rfl rfl
theorem d_M_reference_0 : decode b_M_reference 0 = .ok (.iconst 0, 1) := by decide +kernel
theorem d_M_reference_1 : decode b_M_reference 1 = .ok (.istore_n 3, 1) := by decide +kernel
theorem d_M_reference_2 : decode b_M_reference 2 = .ok (.iload_n 1, 1) := by decide +kernel
theorem d_M_reference_3 : decode b_M_reference 3 = .ok (.istore 4, 2) := by decide +kernel
theorem d_M_reference_5 : decode b_M_reference 5 = .ok (.iload 4, 2) := by decide +kernel
theorem d_M_reference_7 : decode b_M_reference 7 = .ok (.iload_n 2, 1) := by decide +kernel
theorem d_M_reference_8 : decode b_M_reference 8 = .ok (.if_icmp .ge 36, 3) := by decide +kernel
theorem d_M_reference_11 : decode b_M_reference 11 = .ok (.iload_n 3, 1) := by decide +kernel
theorem d_M_reference_12 : decode b_M_reference 12 = .ok (.aload_n 0, 1) := by decide +kernel
theorem d_M_reference_13 : decode b_M_reference 13 = .ok (.getfield 7, 3) := by decide +kernel
theorem d_M_reference_16 : decode b_M_reference 16 = .ok (.iload_n 2, 1) := by decide +kernel
theorem d_M_reference_17 : decode b_M_reference 17 = .ok (.iaload, 1) := by decide +kernel
theorem d_M_reference_18 : decode b_M_reference 18 = .ok (.aload_n 0, 1) := by decide +kernel
theorem d_M_reference_19 : decode b_M_reference 19 = .ok (.getfield 7, 3) := by decide +kernel
theorem d_M_reference_22 : decode b_M_reference 22 = .ok (.iload 4, 2) := by decide +kernel
theorem d_M_reference_24 : decode b_M_reference 24 = .ok (.iaload, 1) := by decide +kernel
theorem d_M_reference_25 : decode b_M_reference 25 = .ok (.invokestatic 47, 3) := by decide +kernel
theorem d_M_reference_28 : decode b_M_reference 28 = .ok (.ifCond .eq 7, 3) := by decide +kernel
theorem d_M_reference_31 : decode b_M_reference 31 = .ok (.iconst 1, 1) := by decide +kernel
theorem d_M_reference_32 : decode b_M_reference 32 = .ok (.goto 4, 3) := by decide +kernel
theorem d_M_reference_35 : decode b_M_reference 35 = .ok (.iconst 0, 1) := by decide +kernel
theorem d_M_reference_36 : decode b_M_reference 36 = .ok (.iadd, 1) := by decide +kernel
theorem d_M_reference_37 : decode b_M_reference 37 = .ok (.istore_n 3, 1) := by decide +kernel
theorem d_M_reference_38 : decode b_M_reference 38 = .ok (.iinc 4 1, 3) := by decide +kernel
theorem d_M_reference_41 : decode b_M_reference 41 = .ok (.goto (-36), 3) := by decide +kernel
theorem d_M_reference_44 : decode b_M_reference 44 = .ok (.iload_n 3, 1) := by decide +kernel
theorem d_M_reference_45 : decode b_M_reference 45 = .ok (.ifCond .le 11, 3) := by decide +kernel
theorem d_M_reference_48 : decode b_M_reference 48 = .ok (.aload_n 0, 1) := by decide +kernel
theorem d_M_reference_49 : decode b_M_reference 49 = .ok (.iload_n 3, 1) := by decide +kernel
theorem d_M_reference_50 : decode b_M_reference 50 = .ok (.invokevirtual 51, 3) := by decide +kernel
theorem d_M_reference_53 : decode b_M_reference 53 = .ok (.goto 4, 3) := by decide +kernel
theorem d_M_reference_56 : decode b_M_reference 56 = .ok (.iconst (-1), 1) := by decide +kernel
theorem d_M_reference_57 : decode b_M_reference 57 = .ok (.istore 4, 2) := by decide +kernel
theorem d_M_reference_59 : decode b_M_reference 59 = .ok (.iconst (-1), 1) := by decide +kernel
theorem d_M_reference_60 : decode b_M_reference 60 = .ok (.istore 5, 2) := by decide +kernel
theorem d_M_reference_62 : decode b_M_reference 62 = .ok (.iload_n 1, 1) := by decide +kernel
theorem d_M_reference_63 : decode b_M_reference 63 = .ok (.istore 6, 2) := by decide +kernel
theorem d_M_reference_65 : decode b_M_reference 65 = .ok (.iload 6, 2) := by decide +kernel
theorem d_M_reference_67 : decode b_M_reference 67 = .ok (.iload_n 2, 1) := by decide +kernel
theorem d_M_reference_68 : decode b_M_reference 68 = .ok (.if_icmp .ge 63, 3) := by decide +kernel
theorem d_M_reference_71 : decode b_M_reference 71 = .ok (.aload_n 0, 1) := by decide +kernel
theorem d_M_reference_72 : decode b_M_reference 72 = .ok (.getfield 7, 3) := by decide +kernel
theorem d_M_reference_75 : decode b_M_reference 75 = .ok (.iload_n 2, 1) := by decide +kernel
theorem d_M_reference_76 : decode b_M_reference 76 = .ok (.iaload, 1) := by decide +kernel
theorem d_M_reference_77 : decode b_M_reference 77 = .ok (.aload_n 0, 1) := by decide +kernel
theorem d_M_reference_78 : decode b_M_reference 78 = .ok (.getfield 7, 3) := by decide +kernel
theorem d_M_reference_81 : decode b_M_reference 81 = .ok (.iload 6, 2) := by decide +kernel
theorem d_M_reference_83 : decode b_M_reference 83 = .ok (.iaload, 1) := by decide +kernel
theorem d_M_reference_84 : decode b_M_reference 84 = .ok (.invokestatic 47, 3) := by decide +kernel
theorem d_M_reference_87 : decode b_M_reference 87 = .ok (.istore 7, 2) := by decide +kernel
theorem d_M_reference_89 : decode b_M_reference 89 = .ok (.iload 7, 2) := by decide +kernel
theorem d_M_reference_91 : decode b_M_reference 91 = .ok (.ifCond .eq 15, 3) := by decide +kernel
theorem d_M_reference_94 : decode b_M_reference 94 = .ok (.iload 4, 2) := by decide +kernel
theorem d_M_reference_96 : decode b_M_reference 96 = .ok (.ifCond .ne 10, 3) := by decide +kernel
theorem d_M_reference_99 : decode b_M_reference 99 = .ok (.iload 6, 2) := by decide +kernel
theorem d_M_reference_101 : decode b_M_reference 101 = .ok (.iload_n 1, 1) := by decide +kernel
theorem d_M_reference_102 : decode b_M_reference 102 = .ok (.isub, 1) := by decide +kernel
theorem d_M_reference_103 : decode b_M_reference 103 = .ok (.goto 5, 3) := by decide +kernel
theorem d_M_reference_106 : decode b_M_reference 106 = .ok (.iload 5, 2) := by decide +kernel
theorem d_M_reference_108 : decode b_M_reference 108 = .ok (.istore 5, 2) := by decide +kernel
theorem d_M_reference_110 : decode b_M_reference 110 = .ok (.iload 4, 2) := by decide +kernel
theorem d_M_reference_112 : decode b_M_reference 112 = .ok (.iload 7, 2) := by decide +kernel
theorem d_M_reference_114 : decode b_M_reference 114 = .ok (.ifCond .eq 7, 3) := by decide +kernel
theorem d_M_reference_117 : decode b_M_reference 117 = .ok (.iconst 1, 1) := by decide +kernel
theorem d_M_reference_118 : decode b_M_reference 118 = .ok (.goto 4, 3) := by decide +kernel
theorem d_M_reference_121 : decode b_M_reference 121 = .ok (.iconst 0, 1) := by decide +kernel
theorem d_M_reference_122 : decode b_M_reference 122 = .ok (.isub, 1) := by decide +kernel
theorem d_M_reference_123 : decode b_M_reference 123 = .ok (.istore 4, 2) := by decide +kernel
theorem d_M_reference_125 : decode b_M_reference 125 = .ok (.iinc 6 1, 3) := by decide +kernel
theorem d_M_reference_128 : decode b_M_reference 128 = .ok (.goto (-63), 3) := by decide +kernel
theorem d_M_reference_131 : decode b_M_reference 131 = .ok (.iload 5, 2) := by decide +kernel
theorem d_M_reference_133 : decode b_M_reference 133 = .ok (.ireturn, 1) := by decide +kernel
theorem d_M_draws_0 : decode b_M_draws 0 = .ok (.aload_n 0, 1) := by decide +kernel
theorem d_M_draws_1 : decode b_M_draws 1 = .ok (.lload_n 1, 1) := by decide +kernel
theorem d_M_draws_2 : decode b_M_draws 2 = .ok (.putfield 40, 3) := by decide +kernel
theorem d_M_draws_5 : decode b_M_draws 5 = .ok (.iconst 0, 1) := by decide +kernel
theorem d_M_draws_6 : decode b_M_draws 6 = .ok (.istore 5, 2) := by decide +kernel
theorem d_M_draws_8 : decode b_M_draws 8 = .ok (.iload 5, 2) := by decide +kernel
theorem d_M_draws_10 : decode b_M_draws 10 = .ok (.iload 4, 2) := by decide +kernel
theorem d_M_draws_12 : decode b_M_draws 12 = .ok (.iconst 3, 1) := by decide +kernel
theorem d_M_draws_13 : decode b_M_draws 13 = .ok (.iadd, 1) := by decide +kernel
theorem d_M_draws_14 : decode b_M_draws 14 = .ok (.if_icmp .ge 66, 3) := by decide +kernel
theorem d_M_draws_17 : decode b_M_draws 17 = .ok (.iload_n 3, 1) := by decide +kernel
theorem d_M_draws_18 : decode b_M_draws 18 = .ok (.iload 5, 2) := by decide +kernel
theorem d_M_draws_20 : decode b_M_draws 20 = .ok (.iadd, 1) := by decide +kernel
theorem d_M_draws_21 : decode b_M_draws 21 = .ok (.istore 6, 2) := by decide +kernel
theorem d_M_draws_23 : decode b_M_draws 23 = .ok (.aload_n 0, 1) := by decide +kernel
theorem d_M_draws_24 : decode b_M_draws 24 = .ok (.getfield 7, 3) := by decide +kernel
theorem d_M_draws_27 : decode b_M_draws 27 = .ok (.iload 6, 2) := by decide +kernel
theorem d_M_draws_29 : decode b_M_draws 29 = .ok (.iload 5, 2) := by decide +kernel
theorem d_M_draws_31 : decode b_M_draws 31 = .ok (.iconst 3, 1) := by decide +kernel
theorem d_M_draws_32 : decode b_M_draws 32 = .ok (.if_icmp .ge 8, 3) := by decide +kernel
theorem d_M_draws_35 : decode b_M_draws 35 = .ok (.iload 5, 2) := by decide +kernel
theorem d_M_draws_37 : decode b_M_draws 37 = .ok (.goto 9, 3) := by decide +kernel
theorem d_M_draws_40 : decode b_M_draws 40 = .ok (.aload_n 0, 1) := by decide +kernel
theorem d_M_draws_41 : decode b_M_draws 41 = .ok (.bipush 7, 2) := by decide +kernel
theorem d_M_draws_43 : decode b_M_draws 43 = .ok (.invokevirtual 51, 3) := by decide +kernel
theorem d_M_draws_46 : decode b_M_draws 46 = .ok (.iastore, 1) := by decide +kernel
theorem d_M_draws_47 : decode b_M_draws 47 = .ok (.aload_n 0, 1) := by decide +kernel
theorem d_M_draws_48 : decode b_M_draws 48 = .ok (.getfield 13, 3) := by decide +kernel
theorem d_M_draws_51 : decode b_M_draws 51 = .ok (.iload 6, 2) := by decide +kernel
theorem d_M_draws_53 : decode b_M_draws 53 = .ok (.aload_n 0, 1) := by decide +kernel
theorem d_M_draws_54 : decode b_M_draws 54 = .ok (.bipush 100, 2) := by decide +kernel
theorem d_M_draws_56 : decode b_M_draws 56 = .ok (.invokevirtual 51, 3) := by decide +kernel
theorem d_M_draws_59 : decode b_M_draws 59 = .ok (.iastore, 1) := by decide +kernel
theorem d_M_draws_60 : decode b_M_draws 60 = .ok (.aload_n 0, 1) := by decide +kernel
theorem d_M_draws_61 : decode b_M_draws 61 = .ok (.getfield 16, 3) := by decide +kernel
theorem d_M_draws_64 : decode b_M_draws 64 = .ok (.iload 6, 2) := by decide +kernel
theorem d_M_draws_66 : decode b_M_draws 66 = .ok (.aload_n 0, 1) := by decide +kernel
theorem d_M_draws_67 : decode b_M_draws 67 = .ok (.iload_n 3, 1) := by decide +kernel
theorem d_M_draws_68 : decode b_M_draws 68 = .ok (.iload 6, 2) := by decide +kernel
theorem d_M_draws_70 : decode b_M_draws 70 = .ok (.invokevirtual 55, 3) := by decide +kernel
theorem d_M_draws_73 : decode b_M_draws 73 = .ok (.iastore, 1) := by decide +kernel
theorem d_M_draws_74 : decode b_M_draws 74 = .ok (.iinc 5 1, 3) := by decide +kernel
theorem d_M_draws_77 : decode b_M_draws 77 = .ok (.goto (-69), 3) := by decide +kernel
theorem d_M_draws_80 : decode b_M_draws 80 = .ok (.return_, 1) := by decide +kernel
theorem d_M_all_0 : decode b_M_all 0 = .ok (.iconst 0, 1) := by decide +kernel
theorem d_M_all_1 : decode b_M_all 1 = .ok (.istore_n 1, 1) := by decide +kernel
theorem d_M_all_2 : decode b_M_all 2 = .ok (.iload_n 1, 1) := by decide +kernel
theorem d_M_all_3 : decode b_M_all 3 = .ok (.bipush 43, 2) := by decide +kernel
theorem d_M_all_5 : decode b_M_all 5 = .ok (.if_icmp .ge 28, 3) := by decide +kernel
theorem d_M_all_8 : decode b_M_all 8 = .ok (.aload_n 0, 1) := by decide +kernel
theorem d_M_all_9 : decode b_M_all 9 = .ok (.getfield 19, 3) := by decide +kernel
theorem d_M_all_12 : decode b_M_all 12 = .ok (.iload_n 1, 1) := by decide +kernel
theorem d_M_all_13 : decode b_M_all 13 = .ok (.iload_n 1, 1) := by decide +kernel
theorem d_M_all_14 : decode b_M_all 14 = .ok (.aload_n 0, 1) := by decide +kernel
theorem d_M_all_15 : decode b_M_all 15 = .ok (.getfield 37, 3) := by decide +kernel
theorem d_M_all_18 : decode b_M_all 18 = .ok (.if_icmp .ge 7, 3) := by decide +kernel
theorem d_M_all_21 : decode b_M_all 21 = .ok (.iconst 1, 1) := by decide +kernel
theorem d_M_all_22 : decode b_M_all 22 = .ok (.goto 4, 3) := by decide +kernel
theorem d_M_all_25 : decode b_M_all 25 = .ok (.iconst 0, 1) := by decide +kernel
theorem d_M_all_26 : decode b_M_all 26 = .ok (.bastore, 1) := by decide +kernel
theorem d_M_all_27 : decode b_M_all 27 = .ok (.iinc 1 1, 3) := by decide +kernel
theorem d_M_all_30 : decode b_M_all 30 = .ok (.goto (-28), 3) := by decide +kernel
theorem d_M_all_33 : decode b_M_all 33 = .ok (.return_, 1) := by decide +kernel
theorem d_M_none_0 : decode b_M_none 0 = .ok (.iconst 0, 1) := by decide +kernel
theorem d_M_none_1 : decode b_M_none 1 = .ok (.istore_n 1, 1) := by decide +kernel
theorem d_M_none_2 : decode b_M_none 2 = .ok (.iload_n 1, 1) := by decide +kernel
theorem d_M_none_3 : decode b_M_none 3 = .ok (.bipush 43, 2) := by decide +kernel
theorem d_M_none_5 : decode b_M_none 5 = .ok (.if_icmp .ge 16, 3) := by decide +kernel
theorem d_M_none_8 : decode b_M_none 8 = .ok (.aload_n 0, 1) := by decide +kernel
theorem d_M_none_9 : decode b_M_none 9 = .ok (.getfield 26, 3) := by decide +kernel
theorem d_M_none_12 : decode b_M_none 12 = .ok (.iload_n 1, 1) := by decide +kernel
theorem d_M_none_13 : decode b_M_none 13 = .ok (.iconst 0, 1) := by decide +kernel
theorem d_M_none_14 : decode b_M_none 14 = .ok (.bastore, 1) := by decide +kernel
theorem d_M_none_15 : decode b_M_none 15 = .ok (.iinc 1 1, 3) := by decide +kernel
theorem d_M_none_18 : decode b_M_none 18 = .ok (.goto (-16), 3) := by decide +kernel
theorem d_M_none_21 : decode b_M_none 21 = .ok (.return_, 1) := by decide +kernel
theorem d_M_leaves_0 : decode b_M_leaves 0 = .ok (.iconst 0, 1) := by decide +kernel
theorem d_M_leaves_1 : decode b_M_leaves 1 = .ok (.istore_n 1, 1) := by decide +kernel
theorem d_M_leaves_2 : decode b_M_leaves 2 = .ok (.iload_n 1, 1) := by decide +kernel
theorem d_M_leaves_3 : decode b_M_leaves 3 = .ok (.aload_n 0, 1) := by decide +kernel
theorem d_M_leaves_4 : decode b_M_leaves 4 = .ok (.getfield 37, 3) := by decide +kernel
theorem d_M_leaves_7 : decode b_M_leaves 7 = .ok (.if_icmp .ge 38, 3) := by decide +kernel
theorem d_M_leaves_10 : decode b_M_leaves 10 = .ok (.aload_n 0, 1) := by decide +kernel
theorem d_M_leaves_11 : decode b_M_leaves 11 = .ok (.getfield 19, 3) := by decide +kernel
theorem d_M_leaves_14 : decode b_M_leaves 14 = .ok (.iload_n 1, 1) := by decide +kernel
theorem d_M_leaves_15 : decode b_M_leaves 15 = .ok (.aload_n 0, 1) := by decide +kernel
theorem d_M_leaves_16 : decode b_M_leaves 16 = .ok (.getfield 19, 3) := by decide +kernel
theorem d_M_leaves_19 : decode b_M_leaves 19 = .ok (.iload_n 1, 1) := by decide +kernel
theorem d_M_leaves_20 : decode b_M_leaves 20 = .ok (.baload, 1) := by decide +kernel
theorem d_M_leaves_21 : decode b_M_leaves 21 = .ok (.ifCond .eq 16, 3) := by decide +kernel
theorem d_M_leaves_24 : decode b_M_leaves 24 = .ok (.aload_n 0, 1) := by decide +kernel
theorem d_M_leaves_25 : decode b_M_leaves 25 = .ok (.getfield 26, 3) := by decide +kernel
theorem d_M_leaves_28 : decode b_M_leaves 28 = .ok (.iload_n 1, 1) := by decide +kernel
theorem d_M_leaves_29 : decode b_M_leaves 29 = .ok (.baload, 1) := by decide +kernel
theorem d_M_leaves_30 : decode b_M_leaves 30 = .ok (.ifCond .ne 7, 3) := by decide +kernel
theorem d_M_leaves_33 : decode b_M_leaves 33 = .ok (.iconst 1, 1) := by decide +kernel
theorem d_M_leaves_34 : decode b_M_leaves 34 = .ok (.goto 4, 3) := by decide +kernel
theorem d_M_leaves_37 : decode b_M_leaves 37 = .ok (.iconst 0, 1) := by decide +kernel
theorem d_M_leaves_38 : decode b_M_leaves 38 = .ok (.bastore, 1) := by decide +kernel
theorem d_M_leaves_39 : decode b_M_leaves 39 = .ok (.iinc 1 1, 3) := by decide +kernel
theorem d_M_leaves_42 : decode b_M_leaves 42 = .ok (.goto (-40), 3) := by decide +kernel
theorem d_M_leaves_45 : decode b_M_leaves 45 = .ok (.return_, 1) := by decide +kernel
set_option maxHeartbeats 4000000 in
set_option maxRecDepth 100000 in
/-- reference: reference -/
theorem c_M_reference (l : Launch) (dC : Nat → ClassId) (dI : Nat → Nat → Nat) (jm ik iv ir il iy ig : Nat) (n : Nat) (th : Int32) (sd tp : Int64) (dk : ClassId) (K : Nat → Int32) (f j : Nat) (kd : Int32) (hf : f + j < 86) (hkd : K (f + j) = kd) (sz : Nat) : Met l y_M_reference w_M_reference ({ frames := 1, cells := 0, slots := 0, locals := 21 }) (wr_P dC dI [.ref jm, .int (nI f), .int (nI (f + j))] [(jm, .inr (3, [.int th, .long sd, .long tp, .int (nI n), .ref ik, .ref iv, .ref ir, .ref il, .ref iy, .ref ig])), (ik, .inl (dk, 86, .inl K))] [(dk, .int)] sz) (va_Qi (fun (r : Int32) (_ : Unit) => r = rfI (shf K f) j kd tp) (fun (u : Unit) => wr_B dC dI (va_A [(jm, .inr (3, [.int th, .long sd, .long tp, .int (nI n), .ref ik, .ref iv, .ref ir, .ref il, .ref iy, .ref ig])), (ik, .inl (dk, 86, .inl K))] sz) [(jm, .inr (3, [.int th, .long sd, .long (rfX (shf K f) j kd tp), .int (nI n), .ref ik, .ref iv, .ref ir, .ref il, .ref iy, .ref ig])), (ik, .inl (dk, 86, .inl K))] [(dk, .int)]) (va_A [(jm, .inr (3, [.int th, .long sd, .long tp, .int (nI n), .ref ik, .ref iv, .ref ir, .ref il, .ref iy, .ref ig])), (ik, .inl (dk, 86, .inl K))] sz)) 0 0 (va_A [(jm, .inr (3, [.int th, .long sd, .long tp, .int (nI n), .ref ik, .ref iv, .ref ir, .ref il, .ref iy, .ref ig])), (ik, .inl (dk, 86, .inl K))] sz) := by
  refine Met.ofW (cc := b_M_reference) (maxL := 8) (ret := (Option.some Jvm.ClassFile.FieldType.int)) (by decide) rfl ?_
  intro p e s m args below meth c s₁ B0 hml hv0
  obtain ⟨rfl, hsz, hP, hK, hD0, hN⟩ := hv0
  have hx := B0.exec
  have hb := B0.bytes
  have hr := B0.returns
  have hts := atoms_spec (ws := w_M_reference) B0.pre
  have hown : s.vm.findClass R_M = some m.cls := findClass_of_methodNamed B0.named
  have hlocks := B0.notSynchronized
  subst hsz
  have hD := hD0.self (sz := s.heap.size)
  generalize hAe : va_A [(jm, .inr (3, [.int th, .long sd, .long tp, .int (nI n), .ref ik, .ref iv, .ref ir, .ref il, .ref iy, .ref ig])), (ik, .inl (dk, 86, .inl K))] s.heap.size = A at hD ⊢
  have hA : ∀ q : Nat, s.heap.size ≤ q → A q := fun q h => by rw [← hAe]; exact Or.inr h
  have hS : va_S A s.heap s.heap [] := va_S.rf
  have hP : va_P (dC, dI) classes [(jm, .inr (3, [.int th, .long sd, .long tp, .int (nI n), .ref ik, .ref iv, .ref ir, .ref il, .ref iy, .ref ig])), (ik, .inl (dk, 86, .inl K))] s.heap := hP
  have hl := lv_entry ([.ref jm, .int (nI f), .int (nI (f + j))]) (n := 8) (Nat.le_of_ble_eq_true rfl)
  rw [lg_entry_eq]
  generalize (lg_sl ([.ref jm, .int (nI f), .int (nI (f + j))]) ++ List.replicate (8 - (lg_sl ([.ref jm, .int (nI f), .int (nI (f + j))])).length) Slot.unset).toArray = ls at hl ⊢
  have hl : lv_has ls 8 [(0, .ref jm), (1, .int (nI f)), (2, .int (nI (f + j)))] := hl
  have hcj := cnt_le (mP (shf K f) kd) j
  refine lv_iconst (v := nI 0) hx hb d_M_reference_0 (by decide +kernel) ?_
  refine lv_istore_n (lv' := [(3, .int (nI 0)), (0, .ref jm), (1, .int (nI f)), (2, .int (nI (f + j)))]) hx hb d_M_reference_1 rfl hl (by decide) rfl (fun ls hl => ?_)
  refine lv_iload_n hx hb d_M_reference_2 rfl (lv_at hl 2 rfl) ?_
  refine lv_istore (lv' := [(4, .int (nI f)), (3, .int (nI 0)), (0, .ref jm), (1, .int (nI f)), (2, .int (nI (f + j)))]) hx hb d_M_reference_3 hl (by decide) rfl (fun ls hl => ?_)
  have lp_5 : ∀ (k9_5 : Nat), ∀ (i : Nat), j - i < k9_5 → (i ≤ j) → ∀ (ls : Array Slot), lv_has ls 8 [(0, .ref jm), (1, .int (nI f)), (2, .int (nI (f + j))), (3, .int (nI (cnt (mP (shf K f) kd) i))), (4, .int (nI (f + i)))] → W p l e (headSpec w_M_reference ({ frames := 1, cells := 0, slots := 0, locals := 21 })).room s m ([.ref jm, .int (nI f), .int (nI (f + j))]).toArray below meth c s.heap [] 0 0 (MQ below (va_Qi (fun (r : Int32) (_ : Unit) => r = rfI (shf K f) j kd tp) (fun (u : Unit) => wr_B dC dI (A) [(jm, .inr (3, [.int th, .long sd, .long (rfX (shf K f) j kd tp), .int (nI n), .ref ik, .ref iv, .ref ir, .ref il, .ref iy, .ref ig])), (ik, .inl (dk, 86, .inl K))] [(dk, .int)]) (A)) ([.ref jm, .int (nI f), .int (nI (f + j))]).toArray s 0 0 A) (F0 m 5 ls []) := by
    intro k9_5
    induction k9_5 with
    | zero =>
      intro i hk9
      exact absurd hk9 (Nat.not_lt_zero _)
    | succ k9_5 ih_5 =>
      intro i hk9_5 hi ls hl
      have hci := cnt_le (mP (shf K f) kd) i
      refine lv_iload hx hb d_M_reference_5 (lv_at hl 4 rfl) ?_
      refine lv_iload_n hx hb d_M_reference_7 rfl (lv_at hl 2 rfl) ?_
      refine lv_icmp_ge (tgt := 44) hx hb d_M_reference_8 (by decide) (fun c_8 => ?_) (fun c_8 => ?_)
      · skip
        have c_8 := (nI_leI (by omega) (by omega)).mp c_8
        rw [show nI (cnt (mP (shf K f) kd) i) = nI (cnt (mP (shf K f) kd) j) from (by rw [show i = j by omega])] at hl
        refine lv_iload_n hx hb d_M_reference_44 rfl (lv_at hl 3 rfl) ?_
        refine lv_if_le (tgt := 56) hx hb d_M_reference_45 (by decide) (fun c_45 => ?_) (fun c_45 => ?_)
        · skip
          have c_45 := (nI_le0 (by omega)).mp c_45
          have e9 : tp = rfX (shf K f) j kd tp := by unfold rfX nbX; rw [if_pos c_45]
          rw [e9] at hP hD
          refine lv_iconst (v := (-1)) hx hb d_M_reference_56 (by decide +kernel) ?_
          refine lv_topi (fun w_1 ew_1 => ?_)
          have ew_1 : (nbI tp (cnt (mP (shf K f) kd) j)) = w_1 := (ew_1.trans (by unfold nbI; rw [if_pos c_45])).symm
          subst ew_1
          have lp_57 : ∀ (H : Heap) (locs : List Loc), va_P (dC, dI) classes [(jm, .inr (3, [.int th, .long sd, .long (rfX (shf K f) j kd tp), .int (nI n), .ref ik, .ref iv, .ref ir, .ref il, .ref iy, .ref ig])), (ik, .inl (dk, 86, .inl K))] H → va_D A [(jm, .inr (3, [.int th, .long sd, .long (rfX (shf K f) j kd tp), .int (nI n), .ref ik, .ref iv, .ref ir, .ref il, .ref iy, .ref ig])), (ik, .inl (dk, 86, .inl K))] → va_S A s.heap H locs → ∀ (ls : Array Slot), lv_has ls 8 [(0, .ref jm), (1, .int (nI f)), (2, .int (nI (f + j)))] → W p l e (headSpec w_M_reference ({ frames := 1, cells := 0, slots := 0, locals := 21 })).room s m ([.ref jm, .int (nI f), .int (nI (f + j))]).toArray below meth c H locs 0 0 (MQ below (va_Qi (fun (r : Int32) (_ : Unit) => r = rfI (shf K f) j kd tp) (fun (u : Unit) => wr_B dC dI (A) [(jm, .inr (3, [.int th, .long sd, .long (rfX (shf K f) j kd tp), .int (nI n), .ref ik, .ref iv, .ref ir, .ref il, .ref iy, .ref ig])), (ik, .inl (dk, 86, .inl K))] [(dk, .int)]) (A)) ([.ref jm, .int (nI f), .int (nI (f + j))]).toArray s 0 0 A) (F0 m 57 ls [.int (nbI tp (cnt (mP (shf K f) kd) j))]) := by
            intro   H locs hP hD hS ls hl
            refine lv_istore (lv' := [(4, .int (nbI tp (cnt (mP (shf K f) kd) j))), (0, .ref jm), (1, .int (nI f)), (2, .int (nI (f + j)))]) hx hb d_M_reference_57 hl (by decide) rfl (fun ls hl => ?_)
            refine lv_iconst (v := (-1)) hx hb d_M_reference_59 (by decide +kernel) ?_
            refine lv_istore (lv' := [(5, .int (-1)), (4, .int (nbI tp (cnt (mP (shf K f) kd) j))), (0, .ref jm), (1, .int (nI f)), (2, .int (nI (f + j)))]) hx hb d_M_reference_60 hl (by decide) rfl (fun ls hl => ?_)
            refine lv_iload_n hx hb d_M_reference_62 rfl (lv_at hl 3 rfl) ?_
            refine lv_istore (lv' := [(6, .int (nI f)), (5, .int (-1)), (4, .int (nbI tp (cnt (mP (shf K f) kd) j))), (0, .ref jm), (1, .int (nI f)), (2, .int (nI (f + j)))]) hx hb d_M_reference_63 hl (by decide) rfl (fun ls hl => ?_)
            rw [show nbI tp (cnt (mP (shf K f) kd) j) = (nbI tp (cnt (mP (shf K f) kd) j)) - (nI (cnt (mP (shf K f) kd) 0)) from (pk_z _).symm] at hl
            have lp_65 : ∀ (k9_65 : Nat), ∀ (i : Nat), j - i < k9_65 → (i ≤ j) → ∀ (ls : Array Slot), lv_has ls 8 [(0, .ref jm), (1, .int (nI f)), (2, .int (nI (f + j))), (4, .int ((nbI tp (cnt (mP (shf K f) kd) j)) - (nI (cnt (mP (shf K f) kd) i)))), (5, .int (oI (fst9 (dQ (mP (shf K f) kd) (nbI tp (cnt (mP (shf K f) kd) j))) i))), (6, .int (nI (f + i)))] → W p l e (headSpec w_M_reference ({ frames := 1, cells := 0, slots := 0, locals := 21 })).room s m ([.ref jm, .int (nI f), .int (nI (f + j))]).toArray below meth c H locs 0 0 (MQ below (va_Qi (fun (r : Int32) (_ : Unit) => r = rfI (shf K f) j kd tp) (fun (u : Unit) => wr_B dC dI (A) [(jm, .inr (3, [.int th, .long sd, .long (rfX (shf K f) j kd tp), .int (nI n), .ref ik, .ref iv, .ref ir, .ref il, .ref iy, .ref ig])), (ik, .inl (dk, 86, .inl K))] [(dk, .int)]) (A)) ([.ref jm, .int (nI f), .int (nI (f + j))]).toArray s 0 0 A) (F0 m 65 ls []) := by
              intro k9_65
              induction k9_65 with
              | zero =>
                intro i hk9
                exact absurd hk9 (Nat.not_lt_zero _)
              | succ k9_65 ih_65 =>
                intro i hk9_65 hi ls hl
                refine lv_iload hx hb d_M_reference_65 (lv_at hl 5 rfl) ?_
                refine lv_iload_n hx hb d_M_reference_67 rfl (lv_at hl 2 rfl) ?_
                refine lv_icmp_ge (tgt := 131) hx hb d_M_reference_68 (by decide) (fun c_68 => ?_) (fun c_68 => ?_)
                · skip
                  have c_68 := (nI_leI (by omega) (by omega)).mp c_68
                  refine lv_iload hx hb d_M_reference_131 (lv_at hl 4 rfl) ?_
                  have hP9 := hP.sub (ws' := [(jm, .inr (3, [.int th, .long sd, .long (rfX (shf K f) j kd tp), .int (nI n), .ref ik, .ref iv, .ref ir, .ref il, .ref iy, .ref ig])), (ik, .inl (dk, 86, .inl K))]) [0, 1] rfl
                  have hD9 := hD.sub (ws' := [(jm, .inr (3, [.int th, .long sd, .long (rfX (shf K f) j kd tp), .int (nI n), .ref ik, .ref iv, .ref ir, .ref il, .ref iy, .ref ig])), (ik, .inl (dk, 86, .inl K))]) [0, 1] (by decide) rfl
                  have hK9 := hK.sub (tys' := [(dk, .int)]) [0] rfl
                  exact W.iret (v := oI (fst9 (dQ (mP (shf K f) kd) (nbI tp (cnt (mP (shf K f) kd) j))) i)) hx hb hr (fun t ht hW => ⟨⟨oI (fst9 (dQ (mP (shf K f) kd) (nbI tp (cnt (mP (shf K f) kd) j))) i), (), rfl, (by rw [show i = j by omega]; rfl), by rw [ht]; exact hP9, va_K.moved hW.alike hK9, hD9⟩, hS.F ht⟩) hS.2.2 d_M_reference_133
                · skip
                  have c_68 := (not_congr (nI_leI (by omega) (by omega))).mp c_68
                  refine lv_aload_n hx hb d_M_reference_71 rfl (lv_at hl 0 rfl) ?_
                  refine va_get (D := (dC, dI)) (ci := 3) (v := .ref ik) (C := R_M) (T := F_M) (N := 10) hx hb hts (lay_M _) hown hK hP 0 rfl rfl 4 (by decide) (hts _ (List.mem_cons_of_mem _ m_340)) (fun _ h9 => h9) rfl d_M_reference_72 ?_
                  refine lv_iload_n hx hb d_M_reference_75 rfl (lv_at hl 2 rfl) ?_
                  refine va_iald hx hb hK hP 1 0 rfl rfl (vp_in_nI (by omega) (by omega)) d_M_reference_76 ?_
                  refine lv_topi (fun w_2 ew_2 => ?_)
                  have ew_2 : kd = w_2 := (ew_2.trans (by rw [nI_clamp (by omega)]; exact hkd)).symm
                  subst ew_2
                  refine lv_aload_n hx hb d_M_reference_77 rfl (lv_at hl 0 rfl) ?_
                  refine va_get (D := (dC, dI)) (ci := 3) (v := .ref ik) (C := R_M) (T := F_M) (N := 10) hx hb hts (lay_M _) hown hK hP 0 rfl rfl 4 (by decide) (hts _ (List.mem_cons_of_mem _ m_340)) (fun _ h9 => h9) rfl d_M_reference_78 ?_
                  refine lv_iload hx hb d_M_reference_81 (lv_at hl 5 rfl) ?_
                  refine va_iald hx hb hK hP 1 0 rfl rfl (vp_in_nI (by omega) (by omega)) d_M_reference_83 ?_
                  refine lv_topi (fun w_3 ew_3 => ?_)
                  rw [nI_clamp (by omega)] at ew_3
                  have ew_3 := ew_3.symm
                  subst ew_3
                  have hPc := hP.sub (ws' := []) [] rfl
                  have hKc := hK.sub (tys' := []) [] rfl
                  refine vp_callSi (W.runS (As := [.int kd, .int (K (f + i))]) (rest := []) ⟨hx, hb, hml, hown, hts⟩ (c_M_mayRefer l dC dI kd (K (f + i))) (va_cwS 2 hts (g_S big_w m_396 m_397 m_4 m_398) rfl rfl rfl (by decide +kernel) ⟨Nat.le_of_ble_eq_true rfl, Nat.le_of_ble_eq_true rfl⟩) (ro_S hPc hKc hN) rfl rfl hl.1 rfl (lv_room (Nat.le_of_ble_eq_true rfl)) d_M_reference_84 ⟨Nat.le_of_ble_eq_true rfl, Nat.le_of_ble_eq_true rfl⟩) (fun r_4 er_4 => ?_)
                  have er_4 := er_4.symm
                  subst er_4
                  refine lv_istore (lv' := [(7, .int (bI (mR kd (K (f + i))))), (0, .ref jm), (1, .int (nI f)), (2, .int (nI (f + j))), (4, .int ((nbI tp (cnt (mP (shf K f) kd) j)) - (nI (cnt (mP (shf K f) kd) i)))), (5, .int (oI (fst9 (dQ (mP (shf K f) kd) (nbI tp (cnt (mP (shf K f) kd) j))) i))), (6, .int (nI (f + i)))]) hx hb d_M_reference_87 hl (by decide) rfl (fun ls hl => ?_)
                  refine lv_iload hx hb d_M_reference_89 (lv_at hl 0 rfl) ?_
                  refine lv_if_eq (tgt := 106) hx hb d_M_reference_91 (by decide) (fun c_91 => ?_) (fun c_91 => ?_)
                  · skip
                    have c_91 := bI_f c_91
                    refine lv_iload hx hb d_M_reference_106 (lv_at hl 5 rfl) ?_
                    have hq9 : (dQ (mP (shf K f) kd) (nbI tp (cnt (mP (shf K f) kd) j))) i = false := by unfold dQ; rw [show (mP (shf K f) kd) i = false from c_91, Bool.false_and]
                    refine lv_topi (fun w_5 ew_5 => ?_)
                    have ew_5 : (oI (fst9 (dQ (mP (shf K f) kd) (nbI tp (cnt (mP (shf K f) kd) j))) (i + 1))) = w_5 := (ew_5.trans (by rw [fst9_st hq9])).symm
                    subst ew_5
                    refine lv_istore (lv' := [(5, .int (oI (fst9 (dQ (mP (shf K f) kd) (nbI tp (cnt (mP (shf K f) kd) j))) (i + 1)))), (7, .int (bI (mR kd (K (f + i))))), (0, .ref jm), (1, .int (nI f)), (2, .int (nI (f + j))), (4, .int ((nbI tp (cnt (mP (shf K f) kd) j)) - (nI (cnt (mP (shf K f) kd) i)))), (6, .int (nI (f + i)))]) hx hb d_M_reference_108 hl (by decide) rfl (fun ls hl => ?_)
                    refine lv_iload hx hb d_M_reference_110 (lv_at hl 5 rfl) ?_
                    refine lv_iload hx hb d_M_reference_112 (lv_at hl 1 rfl) ?_
                    refine lv_if_eq (tgt := 121) hx hb d_M_reference_114 (by decide) (fun c_114 => ?_) (fun c_114 => ?_)
                    · skip
                      have c_114 := bI_f c_114
                      refine lv_iconst (v := nI 0) hx hb d_M_reference_121 (by decide +kernel) ?_
                      refine lv_isub hx hb d_M_reference_122 ?_
                      refine lv_topi (fun w_6 ew_6 => ?_)
                      have ew_6 : ((nbI tp (cnt (mP (shf K f) kd) j)) - (nI (cnt (mP (shf K f) kd) (i + 1)))) = w_6 := (ew_6.trans (by first | (rw [cnt_t (P := mP (shf K f) kd) (n := i) c_114]; exact pk_1 _ _) | (rw [cnt_f (P := mP (shf K f) kd) (n := i) c_114]; exact pk_z _))).symm
                      subst ew_6
                      refine lv_istore (lv' := [(4, .int ((nbI tp (cnt (mP (shf K f) kd) j)) - (nI (cnt (mP (shf K f) kd) (i + 1))))), (5, .int (oI (fst9 (dQ (mP (shf K f) kd) (nbI tp (cnt (mP (shf K f) kd) j))) (i + 1)))), (7, .int (bI (mR kd (K (f + i))))), (0, .ref jm), (1, .int (nI f)), (2, .int (nI (f + j))), (6, .int (nI (f + i)))]) hx hb d_M_reference_123 hl (by decide) rfl (fun ls hl => ?_)
                      refine lv_iinc (v := nI (f + (i + 1))) (lv' := [(6, .int (nI (f + (i + 1)))), (4, .int ((nbI tp (cnt (mP (shf K f) kd) j)) - (nI (cnt (mP (shf K f) kd) (i + 1))))), (5, .int (oI (fst9 (dQ (mP (shf K f) kd) (nbI tp (cnt (mP (shf K f) kd) j))) (i + 1)))), (7, .int (bI (mR kd (K (f + i))))), (0, .ref jm), (1, .int (nI f)), (2, .int (nI (f + j)))]) hx hb d_M_reference_125 hl (k := 6) rfl (nI_1 (f + i)) (by decide) rfl (fun ls hl => ?_)
                      refine lv_goto (tgt := 65) hx hb d_M_reference_128 (by decide) ?_
                      exact ih_65 (i + 1) (by omega) (by omega) ls (lv_sub (l' := [(0, .ref jm), (1, .int (nI f)), (2, .int (nI (f + j))), (4, .int ((nbI tp (cnt (mP (shf K f) kd) j)) - (nI (cnt (mP (shf K f) kd) (i + 1))))), (5, .int (oI (fst9 (dQ (mP (shf K f) kd) (nbI tp (cnt (mP (shf K f) kd) j))) (i + 1)))), (6, .int (nI (f + (i + 1))))]) hl [4, 5, 6, 1, 2, 0] rfl)
                    · skip
                      have c_114 := bI_t c_114
                      exact absurd (c_91.symm.trans c_114) (by decide)
                  · skip
                    have c_91 := bI_t c_91
                    refine lv_iload hx hb d_M_reference_94 (lv_at hl 4 rfl) ?_
                    refine lv_if_ne (tgt := 106) hx hb d_M_reference_96 (by decide) (fun c_96 => ?_) (fun c_96 => ?_)
                    · skip
                      rw [← nI_0] at c_96
                      refine lv_iload hx hb d_M_reference_106 (lv_at hl 5 rfl) ?_
                      have hq9 : (dQ (mP (shf K f) kd) (nbI tp (cnt (mP (shf K f) kd) j))) i = false := by unfold dQ; rw [decide_eq_false (fun z => c_96 (pk_0n.mpr z)), Bool.and_false]
                      refine lv_topi (fun w_7 ew_7 => ?_)
                      have ew_7 : (oI (fst9 (dQ (mP (shf K f) kd) (nbI tp (cnt (mP (shf K f) kd) j))) (i + 1))) = w_7 := (ew_7.trans (by rw [fst9_st hq9])).symm
                      subst ew_7
                      refine lv_istore (lv' := [(5, .int (oI (fst9 (dQ (mP (shf K f) kd) (nbI tp (cnt (mP (shf K f) kd) j))) (i + 1)))), (7, .int (bI (mR kd (K (f + i))))), (0, .ref jm), (1, .int (nI f)), (2, .int (nI (f + j))), (4, .int ((nbI tp (cnt (mP (shf K f) kd) j)) - (nI (cnt (mP (shf K f) kd) i)))), (6, .int (nI (f + i)))]) hx hb d_M_reference_108 hl (by decide) rfl (fun ls hl => ?_)
                      refine lv_iload hx hb d_M_reference_110 (lv_at hl 5 rfl) ?_
                      refine lv_iload hx hb d_M_reference_112 (lv_at hl 1 rfl) ?_
                      refine lv_if_eq (tgt := 121) hx hb d_M_reference_114 (by decide) (fun c_114 => ?_) (fun c_114 => ?_)
                      · skip
                        have c_114 := bI_f c_114
                        exact absurd (c_91.symm.trans c_114) (by decide)
                      · skip
                        have c_114 := bI_t c_114
                        refine lv_iconst (v := nI 1) hx hb d_M_reference_117 (by decide +kernel) ?_
                        refine lv_goto (tgt := 122) hx hb d_M_reference_118 (by decide) ?_
                        refine lv_isub hx hb d_M_reference_122 ?_
                        refine lv_topi (fun w_8 ew_8 => ?_)
                        have ew_8 : ((nbI tp (cnt (mP (shf K f) kd) j)) - (nI (cnt (mP (shf K f) kd) (i + 1)))) = w_8 := (ew_8.trans (by first | (rw [cnt_t (P := mP (shf K f) kd) (n := i) c_114]; exact pk_1 _ _) | (rw [cnt_f (P := mP (shf K f) kd) (n := i) c_114]; exact pk_z _))).symm
                        subst ew_8
                        refine lv_istore (lv' := [(4, .int ((nbI tp (cnt (mP (shf K f) kd) j)) - (nI (cnt (mP (shf K f) kd) (i + 1))))), (5, .int (oI (fst9 (dQ (mP (shf K f) kd) (nbI tp (cnt (mP (shf K f) kd) j))) (i + 1)))), (7, .int (bI (mR kd (K (f + i))))), (0, .ref jm), (1, .int (nI f)), (2, .int (nI (f + j))), (6, .int (nI (f + i)))]) hx hb d_M_reference_123 hl (by decide) rfl (fun ls hl => ?_)
                        refine lv_iinc (v := nI (f + (i + 1))) (lv' := [(6, .int (nI (f + (i + 1)))), (4, .int ((nbI tp (cnt (mP (shf K f) kd) j)) - (nI (cnt (mP (shf K f) kd) (i + 1))))), (5, .int (oI (fst9 (dQ (mP (shf K f) kd) (nbI tp (cnt (mP (shf K f) kd) j))) (i + 1)))), (7, .int (bI (mR kd (K (f + i))))), (0, .ref jm), (1, .int (nI f)), (2, .int (nI (f + j)))]) hx hb d_M_reference_125 hl (k := 6) rfl (nI_1 (f + i)) (by decide) rfl (fun ls hl => ?_)
                        refine lv_goto (tgt := 65) hx hb d_M_reference_128 (by decide) ?_
                        exact ih_65 (i + 1) (by omega) (by omega) ls (lv_sub (l' := [(0, .ref jm), (1, .int (nI f)), (2, .int (nI (f + j))), (4, .int ((nbI tp (cnt (mP (shf K f) kd) j)) - (nI (cnt (mP (shf K f) kd) (i + 1))))), (5, .int (oI (fst9 (dQ (mP (shf K f) kd) (nbI tp (cnt (mP (shf K f) kd) j))) (i + 1)))), (6, .int (nI (f + (i + 1))))]) hl [4, 5, 6, 1, 2, 0] rfl)
                    · skip
                      rw [← nI_0] at c_96
                      refine lv_iload hx hb d_M_reference_99 (lv_at hl 6 rfl) ?_
                      refine lv_iload_n hx hb d_M_reference_101 rfl (lv_at hl 2 rfl) ?_
                      refine lv_isub hx hb d_M_reference_102 ?_
                      refine lv_topi (fun w_9 ew_9 => ?_)
                      have ew_9 : (nI i) = w_9 := (ew_9.trans (rf_sub f i)).symm
                      subst ew_9
                      refine lv_goto (tgt := 108) hx hb d_M_reference_103 (by decide) ?_
                      have hq9 : dQ (mP (shf K f) kd) (nbI tp (cnt (mP (shf K f) kd) j)) i = true := by unfold dQ; rw [show (mP (shf K f) kd) i = true from c_91, decide_eq_true (pk_0n.mp c_96)]; rfl
                      refine lv_topi (fun w_10 ew_10 => ?_)
                      have ew_10 : (oI (fst9 (dQ (mP (shf K f) kd) (nbI tp (cnt (mP (shf K f) kd) j))) (i + 1))) = w_10 := (ew_10.trans (by rw [fst9_up (by omega) hq9]; rfl)).symm
                      subst ew_10
                      refine lv_istore (lv' := [(5, .int (oI (fst9 (dQ (mP (shf K f) kd) (nbI tp (cnt (mP (shf K f) kd) j))) (i + 1)))), (7, .int (bI (mR kd (K (f + i))))), (0, .ref jm), (1, .int (nI f)), (2, .int (nI (f + j))), (4, .int ((nbI tp (cnt (mP (shf K f) kd) j)) - (nI (cnt (mP (shf K f) kd) i)))), (6, .int (nI (f + i)))]) hx hb d_M_reference_108 hl (by decide) rfl (fun ls hl => ?_)
                      refine lv_iload hx hb d_M_reference_110 (lv_at hl 5 rfl) ?_
                      refine lv_iload hx hb d_M_reference_112 (lv_at hl 1 rfl) ?_
                      refine lv_if_eq (tgt := 121) hx hb d_M_reference_114 (by decide) (fun c_114 => ?_) (fun c_114 => ?_)
                      · skip
                        have c_114 := bI_f c_114
                        exact absurd (c_91.symm.trans c_114) (by decide)
                      · skip
                        have c_114 := bI_t c_114
                        refine lv_iconst (v := nI 1) hx hb d_M_reference_117 (by decide +kernel) ?_
                        refine lv_goto (tgt := 122) hx hb d_M_reference_118 (by decide) ?_
                        refine lv_isub hx hb d_M_reference_122 ?_
                        refine lv_topi (fun w_11 ew_11 => ?_)
                        have ew_11 : ((nbI tp (cnt (mP (shf K f) kd) j)) - (nI (cnt (mP (shf K f) kd) (i + 1)))) = w_11 := (ew_11.trans (by first | (rw [cnt_t (P := mP (shf K f) kd) (n := i) c_114]; exact pk_1 _ _) | (rw [cnt_f (P := mP (shf K f) kd) (n := i) c_114]; exact pk_z _))).symm
                        subst ew_11
                        refine lv_istore (lv' := [(4, .int ((nbI tp (cnt (mP (shf K f) kd) j)) - (nI (cnt (mP (shf K f) kd) (i + 1))))), (5, .int (oI (fst9 (dQ (mP (shf K f) kd) (nbI tp (cnt (mP (shf K f) kd) j))) (i + 1)))), (7, .int (bI (mR kd (K (f + i))))), (0, .ref jm), (1, .int (nI f)), (2, .int (nI (f + j))), (6, .int (nI (f + i)))]) hx hb d_M_reference_123 hl (by decide) rfl (fun ls hl => ?_)
                        refine lv_iinc (v := nI (f + (i + 1))) (lv' := [(6, .int (nI (f + (i + 1)))), (4, .int ((nbI tp (cnt (mP (shf K f) kd) j)) - (nI (cnt (mP (shf K f) kd) (i + 1))))), (5, .int (oI (fst9 (dQ (mP (shf K f) kd) (nbI tp (cnt (mP (shf K f) kd) j))) (i + 1)))), (7, .int (bI (mR kd (K (f + i))))), (0, .ref jm), (1, .int (nI f)), (2, .int (nI (f + j)))]) hx hb d_M_reference_125 hl (k := 6) rfl (nI_1 (f + i)) (by decide) rfl (fun ls hl => ?_)
                        refine lv_goto (tgt := 65) hx hb d_M_reference_128 (by decide) ?_
                        exact ih_65 (i + 1) (by omega) (by omega) ls (lv_sub (l' := [(0, .ref jm), (1, .int (nI f)), (2, .int (nI (f + j))), (4, .int ((nbI tp (cnt (mP (shf K f) kd) j)) - (nI (cnt (mP (shf K f) kd) (i + 1))))), (5, .int (oI (fst9 (dQ (mP (shf K f) kd) (nbI tp (cnt (mP (shf K f) kd) j))) (i + 1)))), (6, .int (nI (f + (i + 1))))]) hl [4, 5, 6, 1, 2, 0] rfl)
            exact lp_65 ((j - 0) + 1) 0 (by omega) (by omega) ls (lv_sub (l' := [(0, .ref jm), (1, .int (nI f)), (2, .int (nI (f + j))), (4, .int ((nbI tp (cnt (mP (shf K f) kd) j)) - (nI (cnt (mP (shf K f) kd) 0)))), (5, .int (oI (fst9 (dQ (mP (shf K f) kd) (nbI tp (cnt (mP (shf K f) kd) j))) 0))), (6, .int (nI (f + 0)))]) hl [3, 4, 5, 2, 1, 0] rfl)
          exact lp_57 _ _ (hP.sub (ws' := [(jm, .inr (3, [.int th, .long sd, .long (rfX (shf K f) j kd tp), .int (nI n), .ref ik, .ref iv, .ref ir, .ref il, .ref iy, .ref ig])), (ik, .inl (dk, 86, .inl K))]) [0, 1] rfl) (hD.sub (ws' := [(jm, .inr (3, [.int th, .long sd, .long (rfX (shf K f) j kd tp), .int (nI n), .ref ik, .ref iv, .ref ir, .ref il, .ref iy, .ref ig])), (ik, .inl (dk, 86, .inl K))]) [0, 1] (by decide) rfl) hS ls (lv_sub (l' := [(0, .ref jm), (1, .int (nI f)), (2, .int (nI (f + j)))]) hl [0, 1, 2] rfl)
        · skip
          have c_45 := (not_congr (nI_le0 (by omega))).mp c_45
          refine lv_aload_n hx hb d_M_reference_48 rfl (lv_at hl 0 rfl) ?_
          refine lv_iload_n hx hb d_M_reference_49 rfl (lv_at hl 3 rfl) ?_
          have hPc := hP.sub (ws' := [(jm, .inr (3, [.int th, .long sd, .long tp, .int (nI n), .ref ik, .ref iv, .ref ir, .ref il, .ref iy, .ref ig]))]) [0] rfl
          have hKc := hK.sub (tys' := []) [] rfl
          have hDc := hD.sub (ws' := [(jm, .inr (3, [.int th, .long sd, .long tp, .int (nI n), .ref ik, .ref iv, .ref ir, .ref il, .ref iy, .ref ig]))]) [0] (by decide) rfl
          have hFc := va_free (wc := [(jm, .inr (3, [.int th, .long sd, .long tp, .int (nI n), .ref ik, .ref iv, .ref ir, .ref il, .ref iy, .ref ig]))]) hD hS hA [0] rfl
          refine va_calli (va_runV (As := [.int (nI (cnt (mP (shf K f) kd) j))]) (rest := []) ⟨hx, hb, hml, hown, hts⟩ (c_M_number l dC dI jm ik iv ir il iy ig n th sd tp (cnt (mP (shf K f) kd) j) (by first | assumption | omega) (by first | assumption | omega) _) (cwV 1 hts (g_V big_w m_386 m_388 ms_23 m_4 m_389) rfl rfl rfl (by decide +kernel) ⟨Nat.le_of_ble_eq_true rfl, Nat.le_of_ble_eq_true rfl⟩) (wr_V hPc hKc hDc hN (va_recv hKc hPc (ci := 3) (q0 := 0) rfl rfl)) rfl rfl hl.1 rfl (lv_room (Nat.le_of_ble_eq_true rfl)) d_M_reference_50 ⟨Nat.le_of_ble_eq_true rfl, Nat.le_of_ble_eq_true rfl⟩) hS (fun q _ h => hFc q h) hFc (fun r_12 u t H1 locs ht hvm hw hB hz1 hk1 hS => ?_)
          obtain ⟨hP1, hK1, hD1⟩ := hB
          rw [ht] at hP1
          obtain ⟨hP, hD⟩ := va_join (wr := [(ik, .inl (dk, 86, .inl K))]) (w1 := [(jm, .inr (3, [.int th, .long sd, .long (nbX tp (cnt (mP (shf K f) kd) j)), .int (nI n), .ref ik, .ref iv, .ref ir, .ref il, .ref iy, .ref ig]))]) hP hD [0] [1] rfl rfl (by decide) (by decide) hk1 hFc hP1 hD1
          generalize H1 = H at hP hS ⊢
          have hP : va_P (dC, dI) classes [(ik, .inl (dk, 86, .inl K)), (jm, .inr (3, [.int th, .long sd, .long (nbX tp (cnt (mP (shf K f) kd) j)), .int (nI n), .ref ik, .ref iv, .ref ir, .ref il, .ref iy, .ref ig]))] H := hP
          have hD : va_D A [(ik, .inl (dk, 86, .inl K)), (jm, .inr (3, [.int th, .long sd, .long (nbX tp (cnt (mP (shf K f) kd) j)), .int (nI n), .ref ik, .ref iv, .ref ir, .ref il, .ref iy, .ref ig]))] := hD
          have hw := hw.symm
          subst hw
          refine lv_goto (tgt := 57) hx hb d_M_reference_53 (by decide) ?_
          have lp_57 : ∀ (H : Heap) (locs : List Loc), va_P (dC, dI) classes [(jm, .inr (3, [.int th, .long sd, .long (rfX (shf K f) j kd tp), .int (nI n), .ref ik, .ref iv, .ref ir, .ref il, .ref iy, .ref ig])), (ik, .inl (dk, 86, .inl K))] H → va_D A [(jm, .inr (3, [.int th, .long sd, .long (rfX (shf K f) j kd tp), .int (nI n), .ref ik, .ref iv, .ref ir, .ref il, .ref iy, .ref ig])), (ik, .inl (dk, 86, .inl K))] → va_S A s.heap H locs → ∀ (ls : Array Slot), lv_has ls 8 [(0, .ref jm), (1, .int (nI f)), (2, .int (nI (f + j)))] → W p l e (headSpec w_M_reference ({ frames := 1, cells := 0, slots := 0, locals := 21 })).room s m ([.ref jm, .int (nI f), .int (nI (f + j))]).toArray below meth c H locs 0 0 (MQ below (va_Qi (fun (r : Int32) (_ : Unit) => r = rfI (shf K f) j kd tp) (fun (u : Unit) => wr_B dC dI (A) [(jm, .inr (3, [.int th, .long sd, .long (rfX (shf K f) j kd tp), .int (nI n), .ref ik, .ref iv, .ref ir, .ref il, .ref iy, .ref ig])), (ik, .inl (dk, 86, .inl K))] [(dk, .int)]) (A)) ([.ref jm, .int (nI f), .int (nI (f + j))]).toArray s 0 0 A) (F0 m 57 ls [.int (nbI tp (cnt (mP (shf K f) kd) j))]) := by
            intro   H locs hP hD hS ls hl
            refine lv_istore (lv' := [(4, .int (nbI tp (cnt (mP (shf K f) kd) j))), (0, .ref jm), (1, .int (nI f)), (2, .int (nI (f + j)))]) hx hb d_M_reference_57 hl (by decide) rfl (fun ls hl => ?_)
            refine lv_iconst (v := (-1)) hx hb d_M_reference_59 (by decide +kernel) ?_
            refine lv_istore (lv' := [(5, .int (-1)), (4, .int (nbI tp (cnt (mP (shf K f) kd) j))), (0, .ref jm), (1, .int (nI f)), (2, .int (nI (f + j)))]) hx hb d_M_reference_60 hl (by decide) rfl (fun ls hl => ?_)
            refine lv_iload_n hx hb d_M_reference_62 rfl (lv_at hl 3 rfl) ?_
            refine lv_istore (lv' := [(6, .int (nI f)), (5, .int (-1)), (4, .int (nbI tp (cnt (mP (shf K f) kd) j))), (0, .ref jm), (1, .int (nI f)), (2, .int (nI (f + j)))]) hx hb d_M_reference_63 hl (by decide) rfl (fun ls hl => ?_)
            rw [show nbI tp (cnt (mP (shf K f) kd) j) = (nbI tp (cnt (mP (shf K f) kd) j)) - (nI (cnt (mP (shf K f) kd) 0)) from (pk_z _).symm] at hl
            have lp_65 : ∀ (k9_65 : Nat), ∀ (i : Nat), j - i < k9_65 → (i ≤ j) → ∀ (ls : Array Slot), lv_has ls 8 [(0, .ref jm), (1, .int (nI f)), (2, .int (nI (f + j))), (4, .int ((nbI tp (cnt (mP (shf K f) kd) j)) - (nI (cnt (mP (shf K f) kd) i)))), (5, .int (oI (fst9 (dQ (mP (shf K f) kd) (nbI tp (cnt (mP (shf K f) kd) j))) i))), (6, .int (nI (f + i)))] → W p l e (headSpec w_M_reference ({ frames := 1, cells := 0, slots := 0, locals := 21 })).room s m ([.ref jm, .int (nI f), .int (nI (f + j))]).toArray below meth c H locs 0 0 (MQ below (va_Qi (fun (r : Int32) (_ : Unit) => r = rfI (shf K f) j kd tp) (fun (u : Unit) => wr_B dC dI (A) [(jm, .inr (3, [.int th, .long sd, .long (rfX (shf K f) j kd tp), .int (nI n), .ref ik, .ref iv, .ref ir, .ref il, .ref iy, .ref ig])), (ik, .inl (dk, 86, .inl K))] [(dk, .int)]) (A)) ([.ref jm, .int (nI f), .int (nI (f + j))]).toArray s 0 0 A) (F0 m 65 ls []) := by
              intro k9_65
              induction k9_65 with
              | zero =>
                intro i hk9
                exact absurd hk9 (Nat.not_lt_zero _)
              | succ k9_65 ih_65 =>
                intro i hk9_65 hi ls hl
                refine lv_iload hx hb d_M_reference_65 (lv_at hl 5 rfl) ?_
                refine lv_iload_n hx hb d_M_reference_67 rfl (lv_at hl 2 rfl) ?_
                refine lv_icmp_ge (tgt := 131) hx hb d_M_reference_68 (by decide) (fun c_68 => ?_) (fun c_68 => ?_)
                · skip
                  have c_68 := (nI_leI (by omega) (by omega)).mp c_68
                  refine lv_iload hx hb d_M_reference_131 (lv_at hl 4 rfl) ?_
                  have hP9 := hP.sub (ws' := [(jm, .inr (3, [.int th, .long sd, .long (rfX (shf K f) j kd tp), .int (nI n), .ref ik, .ref iv, .ref ir, .ref il, .ref iy, .ref ig])), (ik, .inl (dk, 86, .inl K))]) [0, 1] rfl
                  have hD9 := hD.sub (ws' := [(jm, .inr (3, [.int th, .long sd, .long (rfX (shf K f) j kd tp), .int (nI n), .ref ik, .ref iv, .ref ir, .ref il, .ref iy, .ref ig])), (ik, .inl (dk, 86, .inl K))]) [0, 1] (by decide) rfl
                  have hK9 := hK.sub (tys' := [(dk, .int)]) [0] rfl
                  exact W.iret (v := oI (fst9 (dQ (mP (shf K f) kd) (nbI tp (cnt (mP (shf K f) kd) j))) i)) hx hb hr (fun t ht hW => ⟨⟨oI (fst9 (dQ (mP (shf K f) kd) (nbI tp (cnt (mP (shf K f) kd) j))) i), (), rfl, (by rw [show i = j by omega]; rfl), by rw [ht]; exact hP9, va_K.moved hW.alike hK9, hD9⟩, hS.F ht⟩) hS.2.2 d_M_reference_133
                · skip
                  have c_68 := (not_congr (nI_leI (by omega) (by omega))).mp c_68
                  refine lv_aload_n hx hb d_M_reference_71 rfl (lv_at hl 0 rfl) ?_
                  refine va_get (D := (dC, dI)) (ci := 3) (v := .ref ik) (C := R_M) (T := F_M) (N := 10) hx hb hts (lay_M _) hown hK hP 0 rfl rfl 4 (by decide) (hts _ (List.mem_cons_of_mem _ m_340)) (fun _ h9 => h9) rfl d_M_reference_72 ?_
                  refine lv_iload_n hx hb d_M_reference_75 rfl (lv_at hl 2 rfl) ?_
                  refine va_iald hx hb hK hP 1 0 rfl rfl (vp_in_nI (by omega) (by omega)) d_M_reference_76 ?_
                  refine lv_topi (fun w_13 ew_13 => ?_)
                  have ew_13 : kd = w_13 := (ew_13.trans (by rw [nI_clamp (by omega)]; exact hkd)).symm
                  subst ew_13
                  refine lv_aload_n hx hb d_M_reference_77 rfl (lv_at hl 0 rfl) ?_
                  refine va_get (D := (dC, dI)) (ci := 3) (v := .ref ik) (C := R_M) (T := F_M) (N := 10) hx hb hts (lay_M _) hown hK hP 0 rfl rfl 4 (by decide) (hts _ (List.mem_cons_of_mem _ m_340)) (fun _ h9 => h9) rfl d_M_reference_78 ?_
                  refine lv_iload hx hb d_M_reference_81 (lv_at hl 5 rfl) ?_
                  refine va_iald hx hb hK hP 1 0 rfl rfl (vp_in_nI (by omega) (by omega)) d_M_reference_83 ?_
                  refine lv_topi (fun w_14 ew_14 => ?_)
                  rw [nI_clamp (by omega)] at ew_14
                  have ew_14 := ew_14.symm
                  subst ew_14
                  have hPc := hP.sub (ws' := []) [] rfl
                  have hKc := hK.sub (tys' := []) [] rfl
                  refine vp_callSi (W.runS (As := [.int kd, .int (K (f + i))]) (rest := []) ⟨hx, hb, hml, hown, hts⟩ (c_M_mayRefer l dC dI kd (K (f + i))) (va_cwS 2 hts (g_S big_w m_396 m_397 m_4 m_398) rfl rfl rfl (by decide +kernel) ⟨Nat.le_of_ble_eq_true rfl, Nat.le_of_ble_eq_true rfl⟩) (ro_S hPc hKc hN) rfl rfl hl.1 rfl (lv_room (Nat.le_of_ble_eq_true rfl)) d_M_reference_84 ⟨Nat.le_of_ble_eq_true rfl, Nat.le_of_ble_eq_true rfl⟩) (fun r_15 er_15 => ?_)
                  have er_15 := er_15.symm
                  subst er_15
                  refine lv_istore (lv' := [(7, .int (bI (mR kd (K (f + i))))), (0, .ref jm), (1, .int (nI f)), (2, .int (nI (f + j))), (4, .int ((nbI tp (cnt (mP (shf K f) kd) j)) - (nI (cnt (mP (shf K f) kd) i)))), (5, .int (oI (fst9 (dQ (mP (shf K f) kd) (nbI tp (cnt (mP (shf K f) kd) j))) i))), (6, .int (nI (f + i)))]) hx hb d_M_reference_87 hl (by decide) rfl (fun ls hl => ?_)
                  refine lv_iload hx hb d_M_reference_89 (lv_at hl 0 rfl) ?_
                  refine lv_if_eq (tgt := 106) hx hb d_M_reference_91 (by decide) (fun c_91 => ?_) (fun c_91 => ?_)
                  · skip
                    have c_91 := bI_f c_91
                    refine lv_iload hx hb d_M_reference_106 (lv_at hl 5 rfl) ?_
                    have hq9 : (dQ (mP (shf K f) kd) (nbI tp (cnt (mP (shf K f) kd) j))) i = false := by unfold dQ; rw [show (mP (shf K f) kd) i = false from c_91, Bool.false_and]
                    refine lv_topi (fun w_16 ew_16 => ?_)
                    have ew_16 : (oI (fst9 (dQ (mP (shf K f) kd) (nbI tp (cnt (mP (shf K f) kd) j))) (i + 1))) = w_16 := (ew_16.trans (by rw [fst9_st hq9])).symm
                    subst ew_16
                    refine lv_istore (lv' := [(5, .int (oI (fst9 (dQ (mP (shf K f) kd) (nbI tp (cnt (mP (shf K f) kd) j))) (i + 1)))), (7, .int (bI (mR kd (K (f + i))))), (0, .ref jm), (1, .int (nI f)), (2, .int (nI (f + j))), (4, .int ((nbI tp (cnt (mP (shf K f) kd) j)) - (nI (cnt (mP (shf K f) kd) i)))), (6, .int (nI (f + i)))]) hx hb d_M_reference_108 hl (by decide) rfl (fun ls hl => ?_)
                    refine lv_iload hx hb d_M_reference_110 (lv_at hl 5 rfl) ?_
                    refine lv_iload hx hb d_M_reference_112 (lv_at hl 1 rfl) ?_
                    refine lv_if_eq (tgt := 121) hx hb d_M_reference_114 (by decide) (fun c_114 => ?_) (fun c_114 => ?_)
                    · skip
                      have c_114 := bI_f c_114
                      refine lv_iconst (v := nI 0) hx hb d_M_reference_121 (by decide +kernel) ?_
                      refine lv_isub hx hb d_M_reference_122 ?_
                      refine lv_topi (fun w_17 ew_17 => ?_)
                      have ew_17 : ((nbI tp (cnt (mP (shf K f) kd) j)) - (nI (cnt (mP (shf K f) kd) (i + 1)))) = w_17 := (ew_17.trans (by first | (rw [cnt_t (P := mP (shf K f) kd) (n := i) c_114]; exact pk_1 _ _) | (rw [cnt_f (P := mP (shf K f) kd) (n := i) c_114]; exact pk_z _))).symm
                      subst ew_17
                      refine lv_istore (lv' := [(4, .int ((nbI tp (cnt (mP (shf K f) kd) j)) - (nI (cnt (mP (shf K f) kd) (i + 1))))), (5, .int (oI (fst9 (dQ (mP (shf K f) kd) (nbI tp (cnt (mP (shf K f) kd) j))) (i + 1)))), (7, .int (bI (mR kd (K (f + i))))), (0, .ref jm), (1, .int (nI f)), (2, .int (nI (f + j))), (6, .int (nI (f + i)))]) hx hb d_M_reference_123 hl (by decide) rfl (fun ls hl => ?_)
                      refine lv_iinc (v := nI (f + (i + 1))) (lv' := [(6, .int (nI (f + (i + 1)))), (4, .int ((nbI tp (cnt (mP (shf K f) kd) j)) - (nI (cnt (mP (shf K f) kd) (i + 1))))), (5, .int (oI (fst9 (dQ (mP (shf K f) kd) (nbI tp (cnt (mP (shf K f) kd) j))) (i + 1)))), (7, .int (bI (mR kd (K (f + i))))), (0, .ref jm), (1, .int (nI f)), (2, .int (nI (f + j)))]) hx hb d_M_reference_125 hl (k := 6) rfl (nI_1 (f + i)) (by decide) rfl (fun ls hl => ?_)
                      refine lv_goto (tgt := 65) hx hb d_M_reference_128 (by decide) ?_
                      exact ih_65 (i + 1) (by omega) (by omega) ls (lv_sub (l' := [(0, .ref jm), (1, .int (nI f)), (2, .int (nI (f + j))), (4, .int ((nbI tp (cnt (mP (shf K f) kd) j)) - (nI (cnt (mP (shf K f) kd) (i + 1))))), (5, .int (oI (fst9 (dQ (mP (shf K f) kd) (nbI tp (cnt (mP (shf K f) kd) j))) (i + 1)))), (6, .int (nI (f + (i + 1))))]) hl [4, 5, 6, 1, 2, 0] rfl)
                    · skip
                      have c_114 := bI_t c_114
                      exact absurd (c_91.symm.trans c_114) (by decide)
                  · skip
                    have c_91 := bI_t c_91
                    refine lv_iload hx hb d_M_reference_94 (lv_at hl 4 rfl) ?_
                    refine lv_if_ne (tgt := 106) hx hb d_M_reference_96 (by decide) (fun c_96 => ?_) (fun c_96 => ?_)
                    · skip
                      rw [← nI_0] at c_96
                      refine lv_iload hx hb d_M_reference_106 (lv_at hl 5 rfl) ?_
                      have hq9 : (dQ (mP (shf K f) kd) (nbI tp (cnt (mP (shf K f) kd) j))) i = false := by unfold dQ; rw [decide_eq_false (fun z => c_96 (pk_0n.mpr z)), Bool.and_false]
                      refine lv_topi (fun w_18 ew_18 => ?_)
                      have ew_18 : (oI (fst9 (dQ (mP (shf K f) kd) (nbI tp (cnt (mP (shf K f) kd) j))) (i + 1))) = w_18 := (ew_18.trans (by rw [fst9_st hq9])).symm
                      subst ew_18
                      refine lv_istore (lv' := [(5, .int (oI (fst9 (dQ (mP (shf K f) kd) (nbI tp (cnt (mP (shf K f) kd) j))) (i + 1)))), (7, .int (bI (mR kd (K (f + i))))), (0, .ref jm), (1, .int (nI f)), (2, .int (nI (f + j))), (4, .int ((nbI tp (cnt (mP (shf K f) kd) j)) - (nI (cnt (mP (shf K f) kd) i)))), (6, .int (nI (f + i)))]) hx hb d_M_reference_108 hl (by decide) rfl (fun ls hl => ?_)
                      refine lv_iload hx hb d_M_reference_110 (lv_at hl 5 rfl) ?_
                      refine lv_iload hx hb d_M_reference_112 (lv_at hl 1 rfl) ?_
                      refine lv_if_eq (tgt := 121) hx hb d_M_reference_114 (by decide) (fun c_114 => ?_) (fun c_114 => ?_)
                      · skip
                        have c_114 := bI_f c_114
                        exact absurd (c_91.symm.trans c_114) (by decide)
                      · skip
                        have c_114 := bI_t c_114
                        refine lv_iconst (v := nI 1) hx hb d_M_reference_117 (by decide +kernel) ?_
                        refine lv_goto (tgt := 122) hx hb d_M_reference_118 (by decide) ?_
                        refine lv_isub hx hb d_M_reference_122 ?_
                        refine lv_topi (fun w_19 ew_19 => ?_)
                        have ew_19 : ((nbI tp (cnt (mP (shf K f) kd) j)) - (nI (cnt (mP (shf K f) kd) (i + 1)))) = w_19 := (ew_19.trans (by first | (rw [cnt_t (P := mP (shf K f) kd) (n := i) c_114]; exact pk_1 _ _) | (rw [cnt_f (P := mP (shf K f) kd) (n := i) c_114]; exact pk_z _))).symm
                        subst ew_19
                        refine lv_istore (lv' := [(4, .int ((nbI tp (cnt (mP (shf K f) kd) j)) - (nI (cnt (mP (shf K f) kd) (i + 1))))), (5, .int (oI (fst9 (dQ (mP (shf K f) kd) (nbI tp (cnt (mP (shf K f) kd) j))) (i + 1)))), (7, .int (bI (mR kd (K (f + i))))), (0, .ref jm), (1, .int (nI f)), (2, .int (nI (f + j))), (6, .int (nI (f + i)))]) hx hb d_M_reference_123 hl (by decide) rfl (fun ls hl => ?_)
                        refine lv_iinc (v := nI (f + (i + 1))) (lv' := [(6, .int (nI (f + (i + 1)))), (4, .int ((nbI tp (cnt (mP (shf K f) kd) j)) - (nI (cnt (mP (shf K f) kd) (i + 1))))), (5, .int (oI (fst9 (dQ (mP (shf K f) kd) (nbI tp (cnt (mP (shf K f) kd) j))) (i + 1)))), (7, .int (bI (mR kd (K (f + i))))), (0, .ref jm), (1, .int (nI f)), (2, .int (nI (f + j)))]) hx hb d_M_reference_125 hl (k := 6) rfl (nI_1 (f + i)) (by decide) rfl (fun ls hl => ?_)
                        refine lv_goto (tgt := 65) hx hb d_M_reference_128 (by decide) ?_
                        exact ih_65 (i + 1) (by omega) (by omega) ls (lv_sub (l' := [(0, .ref jm), (1, .int (nI f)), (2, .int (nI (f + j))), (4, .int ((nbI tp (cnt (mP (shf K f) kd) j)) - (nI (cnt (mP (shf K f) kd) (i + 1))))), (5, .int (oI (fst9 (dQ (mP (shf K f) kd) (nbI tp (cnt (mP (shf K f) kd) j))) (i + 1)))), (6, .int (nI (f + (i + 1))))]) hl [4, 5, 6, 1, 2, 0] rfl)
                    · skip
                      rw [← nI_0] at c_96
                      refine lv_iload hx hb d_M_reference_99 (lv_at hl 6 rfl) ?_
                      refine lv_iload_n hx hb d_M_reference_101 rfl (lv_at hl 2 rfl) ?_
                      refine lv_isub hx hb d_M_reference_102 ?_
                      refine lv_topi (fun w_20 ew_20 => ?_)
                      have ew_20 : (nI i) = w_20 := (ew_20.trans (rf_sub f i)).symm
                      subst ew_20
                      refine lv_goto (tgt := 108) hx hb d_M_reference_103 (by decide) ?_
                      have hq9 : dQ (mP (shf K f) kd) (nbI tp (cnt (mP (shf K f) kd) j)) i = true := by unfold dQ; rw [show (mP (shf K f) kd) i = true from c_91, decide_eq_true (pk_0n.mp c_96)]; rfl
                      refine lv_topi (fun w_21 ew_21 => ?_)
                      have ew_21 : (oI (fst9 (dQ (mP (shf K f) kd) (nbI tp (cnt (mP (shf K f) kd) j))) (i + 1))) = w_21 := (ew_21.trans (by rw [fst9_up (by omega) hq9]; rfl)).symm
                      subst ew_21
                      refine lv_istore (lv' := [(5, .int (oI (fst9 (dQ (mP (shf K f) kd) (nbI tp (cnt (mP (shf K f) kd) j))) (i + 1)))), (7, .int (bI (mR kd (K (f + i))))), (0, .ref jm), (1, .int (nI f)), (2, .int (nI (f + j))), (4, .int ((nbI tp (cnt (mP (shf K f) kd) j)) - (nI (cnt (mP (shf K f) kd) i)))), (6, .int (nI (f + i)))]) hx hb d_M_reference_108 hl (by decide) rfl (fun ls hl => ?_)
                      refine lv_iload hx hb d_M_reference_110 (lv_at hl 5 rfl) ?_
                      refine lv_iload hx hb d_M_reference_112 (lv_at hl 1 rfl) ?_
                      refine lv_if_eq (tgt := 121) hx hb d_M_reference_114 (by decide) (fun c_114 => ?_) (fun c_114 => ?_)
                      · skip
                        have c_114 := bI_f c_114
                        exact absurd (c_91.symm.trans c_114) (by decide)
                      · skip
                        have c_114 := bI_t c_114
                        refine lv_iconst (v := nI 1) hx hb d_M_reference_117 (by decide +kernel) ?_
                        refine lv_goto (tgt := 122) hx hb d_M_reference_118 (by decide) ?_
                        refine lv_isub hx hb d_M_reference_122 ?_
                        refine lv_topi (fun w_22 ew_22 => ?_)
                        have ew_22 : ((nbI tp (cnt (mP (shf K f) kd) j)) - (nI (cnt (mP (shf K f) kd) (i + 1)))) = w_22 := (ew_22.trans (by first | (rw [cnt_t (P := mP (shf K f) kd) (n := i) c_114]; exact pk_1 _ _) | (rw [cnt_f (P := mP (shf K f) kd) (n := i) c_114]; exact pk_z _))).symm
                        subst ew_22
                        refine lv_istore (lv' := [(4, .int ((nbI tp (cnt (mP (shf K f) kd) j)) - (nI (cnt (mP (shf K f) kd) (i + 1))))), (5, .int (oI (fst9 (dQ (mP (shf K f) kd) (nbI tp (cnt (mP (shf K f) kd) j))) (i + 1)))), (7, .int (bI (mR kd (K (f + i))))), (0, .ref jm), (1, .int (nI f)), (2, .int (nI (f + j))), (6, .int (nI (f + i)))]) hx hb d_M_reference_123 hl (by decide) rfl (fun ls hl => ?_)
                        refine lv_iinc (v := nI (f + (i + 1))) (lv' := [(6, .int (nI (f + (i + 1)))), (4, .int ((nbI tp (cnt (mP (shf K f) kd) j)) - (nI (cnt (mP (shf K f) kd) (i + 1))))), (5, .int (oI (fst9 (dQ (mP (shf K f) kd) (nbI tp (cnt (mP (shf K f) kd) j))) (i + 1)))), (7, .int (bI (mR kd (K (f + i))))), (0, .ref jm), (1, .int (nI f)), (2, .int (nI (f + j)))]) hx hb d_M_reference_125 hl (k := 6) rfl (nI_1 (f + i)) (by decide) rfl (fun ls hl => ?_)
                        refine lv_goto (tgt := 65) hx hb d_M_reference_128 (by decide) ?_
                        exact ih_65 (i + 1) (by omega) (by omega) ls (lv_sub (l' := [(0, .ref jm), (1, .int (nI f)), (2, .int (nI (f + j))), (4, .int ((nbI tp (cnt (mP (shf K f) kd) j)) - (nI (cnt (mP (shf K f) kd) (i + 1))))), (5, .int (oI (fst9 (dQ (mP (shf K f) kd) (nbI tp (cnt (mP (shf K f) kd) j))) (i + 1)))), (6, .int (nI (f + (i + 1))))]) hl [4, 5, 6, 1, 2, 0] rfl)
            exact lp_65 ((j - 0) + 1) 0 (by omega) (by omega) ls (lv_sub (l' := [(0, .ref jm), (1, .int (nI f)), (2, .int (nI (f + j))), (4, .int ((nbI tp (cnt (mP (shf K f) kd) j)) - (nI (cnt (mP (shf K f) kd) 0)))), (5, .int (oI (fst9 (dQ (mP (shf K f) kd) (nbI tp (cnt (mP (shf K f) kd) j))) 0))), (6, .int (nI (f + 0)))]) hl [3, 4, 5, 2, 1, 0] rfl)
          exact lp_57 _ _ (hP.sub (ws' := [(jm, .inr (3, [.int th, .long sd, .long (rfX (shf K f) j kd tp), .int (nI n), .ref ik, .ref iv, .ref ir, .ref il, .ref iy, .ref ig])), (ik, .inl (dk, 86, .inl K))]) [1, 0] rfl) (hD.sub (ws' := [(jm, .inr (3, [.int th, .long sd, .long (rfX (shf K f) j kd tp), .int (nI n), .ref ik, .ref iv, .ref ir, .ref il, .ref iy, .ref ig])), (ik, .inl (dk, 86, .inl K))]) [1, 0] (by decide) rfl) hS ls (lv_sub (l' := [(0, .ref jm), (1, .int (nI f)), (2, .int (nI (f + j)))]) hl [0, 1, 2] rfl)
      · skip
        have c_8 := (not_congr (nI_leI (by omega) (by omega))).mp c_8
        refine lv_iload_n hx hb d_M_reference_11 rfl (lv_at hl 3 rfl) ?_
        refine lv_aload_n hx hb d_M_reference_12 rfl (lv_at hl 0 rfl) ?_
        refine va_get (D := (dC, dI)) (ci := 3) (v := .ref ik) (C := R_M) (T := F_M) (N := 10) hx hb hts (lay_M _) hown hK hP 0 rfl rfl 4 (by decide) (hts _ (List.mem_cons_of_mem _ m_340)) (fun _ h9 => h9) rfl d_M_reference_13 ?_
        refine lv_iload_n hx hb d_M_reference_16 rfl (lv_at hl 2 rfl) ?_
        refine va_iald hx hb hK hP 1 0 rfl rfl (vp_in_nI (by omega) (by omega)) d_M_reference_17 ?_
        refine lv_topi (fun w_23 ew_23 => ?_)
        have ew_23 : kd = w_23 := (ew_23.trans (by rw [nI_clamp (by omega)]; exact hkd)).symm
        subst ew_23
        refine lv_aload_n hx hb d_M_reference_18 rfl (lv_at hl 0 rfl) ?_
        refine va_get (D := (dC, dI)) (ci := 3) (v := .ref ik) (C := R_M) (T := F_M) (N := 10) hx hb hts (lay_M _) hown hK hP 0 rfl rfl 4 (by decide) (hts _ (List.mem_cons_of_mem _ m_340)) (fun _ h9 => h9) rfl d_M_reference_19 ?_
        refine lv_iload hx hb d_M_reference_22 (lv_at hl 4 rfl) ?_
        refine va_iald hx hb hK hP 1 0 rfl rfl (vp_in_nI (by omega) (by omega)) d_M_reference_24 ?_
        refine lv_topi (fun w_24 ew_24 => ?_)
        rw [nI_clamp (by omega)] at ew_24
        have ew_24 := ew_24.symm
        subst ew_24
        have hPc := hP.sub (ws' := []) [] rfl
        have hKc := hK.sub (tys' := []) [] rfl
        refine vp_callSi (W.runS (As := [.int kd, .int (K (f + i))]) (rest := [.int (nI (cnt (mP (shf K f) kd) i))]) ⟨hx, hb, hml, hown, hts⟩ (c_M_mayRefer l dC dI kd (K (f + i))) (va_cwS 2 hts (g_S big_w m_396 m_397 m_4 m_398) rfl rfl rfl (by decide +kernel) ⟨Nat.le_of_ble_eq_true rfl, Nat.le_of_ble_eq_true rfl⟩) (ro_S hPc hKc hN) rfl rfl hl.1 rfl (lv_room (Nat.le_of_ble_eq_true rfl)) d_M_reference_25 ⟨Nat.le_of_ble_eq_true rfl, Nat.le_of_ble_eq_true rfl⟩) (fun r_25 er_25 => ?_)
        have er_25 := er_25.symm
        subst er_25
        refine lv_if_eq (tgt := 35) hx hb d_M_reference_28 (by decide) (fun c_28 => ?_) (fun c_28 => ?_)
        · skip
          have c_28 := bI_f c_28
          refine lv_iconst (v := nI 0) hx hb d_M_reference_35 (by decide +kernel) ?_
          refine lv_iadd hx hb d_M_reference_36 ?_
          refine lv_topi (fun w_26 ew_26 => ?_)
          have ew_26 : (nI (cnt (mP (shf K f) kd) (i + 1))) = w_26 := (ew_26.trans (by first | (rw [cnt_t (P := mP (shf K f) kd) (n := i) c_28]; exact nI_add _ _) | (rw [cnt_f (P := mP (shf K f) kd) (n := i) c_28]; exact nI_add _ _))).symm
          subst ew_26
          refine lv_istore_n (lv' := [(3, .int (nI (cnt (mP (shf K f) kd) (i + 1)))), (0, .ref jm), (1, .int (nI f)), (2, .int (nI (f + j))), (4, .int (nI (f + i)))]) hx hb d_M_reference_37 rfl hl (by decide) rfl (fun ls hl => ?_)
          refine lv_iinc (v := nI (f + (i + 1))) (lv' := [(4, .int (nI (f + (i + 1)))), (3, .int (nI (cnt (mP (shf K f) kd) (i + 1)))), (0, .ref jm), (1, .int (nI f)), (2, .int (nI (f + j)))]) hx hb d_M_reference_38 hl (k := 4) rfl (nI_1 (f + i)) (by decide) rfl (fun ls hl => ?_)
          refine lv_goto (tgt := 5) hx hb d_M_reference_41 (by decide) ?_
          exact ih_5 (i + 1) (by omega) (by omega) ls (lv_sub (l' := [(0, .ref jm), (1, .int (nI f)), (2, .int (nI (f + j))), (3, .int (nI (cnt (mP (shf K f) kd) (i + 1)))), (4, .int (nI (f + (i + 1))))]) hl [2, 3, 4, 1, 0] rfl)
        · skip
          have c_28 := bI_t c_28
          refine lv_iconst (v := nI 1) hx hb d_M_reference_31 (by decide +kernel) ?_
          refine lv_goto (tgt := 36) hx hb d_M_reference_32 (by decide) ?_
          refine lv_iadd hx hb d_M_reference_36 ?_
          refine lv_topi (fun w_27 ew_27 => ?_)
          have ew_27 : (nI (cnt (mP (shf K f) kd) (i + 1))) = w_27 := (ew_27.trans (by first | (rw [cnt_t (P := mP (shf K f) kd) (n := i) c_28]; exact nI_add _ _) | (rw [cnt_f (P := mP (shf K f) kd) (n := i) c_28]; exact nI_add _ _))).symm
          subst ew_27
          refine lv_istore_n (lv' := [(3, .int (nI (cnt (mP (shf K f) kd) (i + 1)))), (0, .ref jm), (1, .int (nI f)), (2, .int (nI (f + j))), (4, .int (nI (f + i)))]) hx hb d_M_reference_37 rfl hl (by decide) rfl (fun ls hl => ?_)
          refine lv_iinc (v := nI (f + (i + 1))) (lv' := [(4, .int (nI (f + (i + 1)))), (3, .int (nI (cnt (mP (shf K f) kd) (i + 1)))), (0, .ref jm), (1, .int (nI f)), (2, .int (nI (f + j)))]) hx hb d_M_reference_38 hl (k := 4) rfl (nI_1 (f + i)) (by decide) rfl (fun ls hl => ?_)
          refine lv_goto (tgt := 5) hx hb d_M_reference_41 (by decide) ?_
          exact ih_5 (i + 1) (by omega) (by omega) ls (lv_sub (l' := [(0, .ref jm), (1, .int (nI f)), (2, .int (nI (f + j))), (3, .int (nI (cnt (mP (shf K f) kd) (i + 1)))), (4, .int (nI (f + (i + 1))))]) hl [2, 3, 4, 1, 0] rfl)
  exact lp_5 ((j - 0) + 1) 0 (by omega) (by omega) ls (lv_sub (l' := [(0, .ref jm), (1, .int (nI f)), (2, .int (nI (f + j))), (3, .int (nI (cnt (mP (shf K f) kd) 0))), (4, .int (nI (f + 0)))]) hl [2, 3, 4, 1, 0] rfl)
set_option maxHeartbeats 4000000 in
set_option maxRecDepth 100000 in
/-- reference: draws -/
theorem c_M_draws (l : Launch) (dC : Nat → ClassId) (dI : Nat → Nat → Nat) (jm ik iv ir il iy ig : Nat) (n : Nat) (th : Int32) (sd tp : Int64) (dk dv dr : ClassId) (K V R : Nat → Int32) (s0 : Int64) (f z : Nat) (hf : f ≤ 43) (hz : z ≤ 40) (sz : Nat) : Met l y_M_draws w_M_draws ({ frames := 2, cells := 0, slots := 0, locals := 48 }) (wr_P dC dI [.ref jm, .long s0, .int (nI f), .int (nI z)] [(jm, .inr (3, [.int th, .long sd, .long tp, .int (nI n), .ref ik, .ref iv, .ref ir, .ref il, .ref iy, .ref ig])), (ik, .inl (dk, 86, .inl K)), (iv, .inl (dv, 86, .inl V)), (ir, .inl (dr, 86, .inl R))] [(dk, .int), (dv, .int), (dr, .int)] sz) (va_Qv (fun (_ : Unit) => True) (fun (u : Unit) => wr_B dC dI (va_A [(jm, .inr (3, [.int th, .long sd, .long tp, .int (nI n), .ref ik, .ref iv, .ref ir, .ref il, .ref iy, .ref ig])), (ik, .inl (dk, 86, .inl K)), (iv, .inl (dv, 86, .inl V)), (ir, .inl (dr, 86, .inl R))] sz) [(jm, .inr (3, [.int th, .long sd, .long ((drM f (s0, K, V, R) (z + 3)).1), .int (nI n), .ref ik, .ref iv, .ref ir, .ref il, .ref iy, .ref ig])), (ik, .inl (dk, 86, .inl ((drM f (s0, K, V, R) (z + 3)).2.1))), (iv, .inl (dv, 86, .inl ((drM f (s0, K, V, R) (z + 3)).2.2.1))), (ir, .inl (dr, 86, .inl ((drM f (s0, K, V, R) (z + 3)).2.2.2)))] [(dk, .int), (dv, .int), (dr, .int)]) (va_A [(jm, .inr (3, [.int th, .long sd, .long tp, .int (nI n), .ref ik, .ref iv, .ref ir, .ref il, .ref iy, .ref ig])), (ik, .inl (dk, 86, .inl K)), (iv, .inl (dv, 86, .inl V)), (ir, .inl (dr, 86, .inl R))] sz)) 0 0 (va_A [(jm, .inr (3, [.int th, .long sd, .long tp, .int (nI n), .ref ik, .ref iv, .ref ir, .ref il, .ref iy, .ref ig])), (ik, .inl (dk, 86, .inl K)), (iv, .inl (dv, 86, .inl V)), (ir, .inl (dr, 86, .inl R))] sz) := by
  refine Met.ofW (cc := b_M_draws) (maxL := 7) (ret := (Option.none : Option Jvm.ClassFile.FieldType)) (by decide) rfl ?_
  intro p e s m args below meth c s₁ B0 hml hv0
  obtain ⟨rfl, hsz, hP, hK, hD0, hN⟩ := hv0
  have hx := B0.exec
  have hb := B0.bytes
  have hr := B0.returns
  have hts := atoms_spec (ws := w_M_draws) B0.pre
  have hown : s.vm.findClass R_M = some m.cls := findClass_of_methodNamed B0.named
  have hlocks := B0.notSynchronized
  subst hsz
  have hD := hD0.self (sz := s.heap.size)
  generalize hAe : va_A [(jm, .inr (3, [.int th, .long sd, .long tp, .int (nI n), .ref ik, .ref iv, .ref ir, .ref il, .ref iy, .ref ig])), (ik, .inl (dk, 86, .inl K)), (iv, .inl (dv, 86, .inl V)), (ir, .inl (dr, 86, .inl R))] s.heap.size = A at hD ⊢
  have hA : ∀ q : Nat, s.heap.size ≤ q → A q := fun q h => by rw [← hAe]; exact Or.inr h
  have hS : va_S A s.heap s.heap [] := va_S.rf
  have hP : va_P (dC, dI) classes [(jm, .inr (3, [.int th, .long sd, .long tp, .int (nI n), .ref ik, .ref iv, .ref ir, .ref il, .ref iy, .ref ig])), (ik, .inl (dk, 86, .inl K)), (iv, .inl (dv, 86, .inl V)), (ir, .inl (dr, 86, .inl R))] s.heap := hP
  have hl := lv_entry ([.ref jm, .long s0, .int (nI f), .int (nI z)]) (n := 7) (Nat.le_of_ble_eq_true rfl)
  rw [lg_entry_eq]
  generalize (lg_sl ([.ref jm, .long s0, .int (nI f), .int (nI z)]) ++ List.replicate (7 - (lg_sl ([.ref jm, .long s0, .int (nI f), .int (nI z)])).length) Slot.unset).toArray = ls at hl ⊢
  have hl : lv_has ls 7 [(0, .ref jm), (1, .long s0), (3, .int (nI f)), (4, .int (nI z))] := hl
  refine lv_aload_n hx hb d_M_draws_0 rfl (lv_at hl 0 rfl) ?_
  refine lv_lload_n hx hb d_M_draws_1 rfl (lv_at hl 1 rfl) ?_
  refine va_put (D := (dC, dI)) (ci := 3) (v := .long s0) (ty := .long) (C := R_M) (T := F_M) (N := 10) hx hb hts (lay_M _) ft_M tok_M nok_M hown hK hP hD hS 0 rfl rfl 2 (by decide) (hts _ (List.mem_cons_of_mem _ m_338)) (fun _ h9 => h9) rfl (by decide +kernel) rfl rfl (Nat.le_of_ble_eq_true rfl) d_M_draws_2 (fun H locs hP hD hS => ?_)
  have hP : va_P (dC, dI) classes [(jm, .inr (3, [.int th, .long sd, .long s0, .int (nI n), .ref ik, .ref iv, .ref ir, .ref il, .ref iy, .ref ig])), (ik, .inl (dk, 86, .inl K)), (iv, .inl (dv, 86, .inl V)), (ir, .inl (dr, 86, .inl R))] H := hP
  have hD : va_D A [(jm, .inr (3, [.int th, .long sd, .long s0, .int (nI n), .ref ik, .ref iv, .ref ir, .ref il, .ref iy, .ref ig])), (ik, .inl (dk, 86, .inl K)), (iv, .inl (dv, 86, .inl V)), (ir, .inl (dr, 86, .inl R))] := hD
  refine lv_iconst (v := nI 0) hx hb d_M_draws_5 (by decide +kernel) ?_
  refine lv_istore (lv' := [(5, .int (nI 0)), (0, .ref jm), (1, .long s0), (3, .int (nI f)), (4, .int (nI z))]) hx hb d_M_draws_6 hl (by decide) rfl (fun ls hl => ?_)
  have lp_8 : ∀ (k9_8 : Nat), ∀ (k : Nat), z + 3 - k < k9_8 → (k ≤ z + 3) → ∀ (H : Heap) (locs : List Loc), va_P (dC, dI) classes [(jm, .inr (3, [.int th, .long sd, .long ((drM f (s0, K, V, R) k).1), .int (nI n), .ref ik, .ref iv, .ref ir, .ref il, .ref iy, .ref ig])), (ik, .inl (dk, 86, .inl ((drM f (s0, K, V, R) k).2.1))), (iv, .inl (dv, 86, .inl ((drM f (s0, K, V, R) k).2.2.1))), (ir, .inl (dr, 86, .inl ((drM f (s0, K, V, R) k).2.2.2)))] H → va_D A [(jm, .inr (3, [.int th, .long sd, .long ((drM f (s0, K, V, R) k).1), .int (nI n), .ref ik, .ref iv, .ref ir, .ref il, .ref iy, .ref ig])), (ik, .inl (dk, 86, .inl ((drM f (s0, K, V, R) k).2.1))), (iv, .inl (dv, 86, .inl ((drM f (s0, K, V, R) k).2.2.1))), (ir, .inl (dr, 86, .inl ((drM f (s0, K, V, R) k).2.2.2)))] → va_S A s.heap H locs → ∀ (ls : Array Slot), lv_has ls 7 [(0, .ref jm), (1, .long s0), (3, .int (nI f)), (4, .int (nI z)), (5, .int (nI k))] → W p l e (headSpec w_M_draws ({ frames := 2, cells := 0, slots := 0, locals := 48 })).room s m ([.ref jm, .long s0, .int (nI f), .int (nI z)]).toArray below meth c H locs 0 0 (MQ below (va_Qv (fun (_ : Unit) => True) (fun (u : Unit) => wr_B dC dI (A) [(jm, .inr (3, [.int th, .long sd, .long ((drM f (s0, K, V, R) (z + 3)).1), .int (nI n), .ref ik, .ref iv, .ref ir, .ref il, .ref iy, .ref ig])), (ik, .inl (dk, 86, .inl ((drM f (s0, K, V, R) (z + 3)).2.1))), (iv, .inl (dv, 86, .inl ((drM f (s0, K, V, R) (z + 3)).2.2.1))), (ir, .inl (dr, 86, .inl ((drM f (s0, K, V, R) (z + 3)).2.2.2)))] [(dk, .int), (dv, .int), (dr, .int)]) (A)) ([.ref jm, .long s0, .int (nI f), .int (nI z)]).toArray s 0 0 A) (F0 m 8 ls []) := by
    intro k9_8
    induction k9_8 with
    | zero =>
      intro k hk9
      exact absurd hk9 (Nat.not_lt_zero _)
    | succ k9_8 ih_8 =>
      intro k hk9_8 hk H locs hP hD hS ls hl
      refine lv_iload hx hb d_M_draws_8 (lv_at hl 4 rfl) ?_
      refine lv_iload hx hb d_M_draws_10 (lv_at hl 3 rfl) ?_
      refine lv_iconst (v := nI 3) hx hb d_M_draws_12 (by decide +kernel) ?_
      refine lv_iadd hx hb d_M_draws_13 ?_
      refine lv_topi (fun w_1 ew_1 => ?_)
      have ew_1 : (nI (z + 3)) = w_1 := (ew_1.trans (nI_add _ _)).symm
      subst ew_1
      refine lv_icmp_ge (tgt := 80) hx hb d_M_draws_14 (by decide) (fun c_14 => ?_) (fun c_14 => ?_)
      · skip
        have c_14 := (nI_leI (by omega) (by omega)).mp c_14
        rw [show k = z + 3 by omega] at hP hD
        have hP9 := hP.sub (ws' := [(jm, .inr (3, [.int th, .long sd, .long ((drM f (s0, K, V, R) (z + 3)).1), .int (nI n), .ref ik, .ref iv, .ref ir, .ref il, .ref iy, .ref ig])), (ik, .inl (dk, 86, .inl ((drM f (s0, K, V, R) (z + 3)).2.1))), (iv, .inl (dv, 86, .inl ((drM f (s0, K, V, R) (z + 3)).2.2.1))), (ir, .inl (dr, 86, .inl ((drM f (s0, K, V, R) (z + 3)).2.2.2)))]) [0, 1, 2, 3] rfl
        have hD9 := hD.sub (ws' := [(jm, .inr (3, [.int th, .long sd, .long ((drM f (s0, K, V, R) (z + 3)).1), .int (nI n), .ref ik, .ref iv, .ref ir, .ref il, .ref iy, .ref ig])), (ik, .inl (dk, 86, .inl ((drM f (s0, K, V, R) (z + 3)).2.1))), (iv, .inl (dv, 86, .inl ((drM f (s0, K, V, R) (z + 3)).2.2.1))), (ir, .inl (dr, 86, .inl ((drM f (s0, K, V, R) (z + 3)).2.2.2)))]) [0, 1, 2, 3] (by decide) rfl
        have hK9 := hK.sub (tys' := [(dk, .int), (dv, .int), (dr, .int)]) [0, 1, 2] rfl
        exact W.vret hx hb hr (fun t ht hW => ⟨⟨(), rfl, trivial, by rw [ht]; exact hP9, va_K.moved hW.alike hK9, hD9⟩, hS.F ht⟩) hS.2.2 d_M_draws_80
      · skip
        have c_14 := (not_congr (nI_leI (by omega) (by omega))).mp c_14
        refine lv_iload_n hx hb d_M_draws_17 rfl (lv_at hl 2 rfl) ?_
        refine lv_iload hx hb d_M_draws_18 (lv_at hl 4 rfl) ?_
        refine lv_iadd hx hb d_M_draws_20 ?_
        refine lv_topi (fun w_2 ew_2 => ?_)
        have ew_2 : (nI (f + k)) = w_2 := (ew_2.trans (nI_add _ _)).symm
        subst ew_2
        refine lv_istore (lv' := [(6, .int (nI (f + k))), (0, .ref jm), (1, .long s0), (3, .int (nI f)), (4, .int (nI z)), (5, .int (nI k))]) hx hb d_M_draws_21 hl (by decide) rfl (fun ls hl => ?_)
        refine lv_aload_n hx hb d_M_draws_23 rfl (lv_at hl 1 rfl) ?_
        refine va_get (D := (dC, dI)) (ci := 3) (v := .ref ik) (C := R_M) (T := F_M) (N := 10) hx hb hts (lay_M _) hown hK hP 0 rfl rfl 4 (by decide) (hts _ (List.mem_cons_of_mem _ m_340)) (fun _ h9 => h9) rfl d_M_draws_24 ?_
        refine lv_iload hx hb d_M_draws_27 (lv_at hl 0 rfl) ?_
        refine lv_iload hx hb d_M_draws_29 (lv_at hl 5 rfl) ?_
        refine lv_iconst (v := nI 3) hx hb d_M_draws_31 (by decide +kernel) ?_
        refine lv_icmp_ge (tgt := 40) hx hb d_M_draws_32 (by decide) (fun c_32 => ?_) (fun c_32 => ?_)
        · skip
          have c_32 := (nI_leI (by omega) (by omega)).mp c_32
          refine lv_aload_n hx hb d_M_draws_40 rfl (lv_at hl 1 rfl) ?_
          refine lv_bipush (v := nI 7) hx hb d_M_draws_41 (by decide +kernel) ?_
          have hPc := hP.sub (ws' := [(jm, .inr (3, [.int th, .long sd, .long ((drM f (s0, K, V, R) k).1), .int (nI n), .ref ik, .ref iv, .ref ir, .ref il, .ref iy, .ref ig]))]) [0] rfl
          have hKc := hK.sub (tys' := []) [] rfl
          have hDc := hD.sub (ws' := [(jm, .inr (3, [.int th, .long sd, .long ((drM f (s0, K, V, R) k).1), .int (nI n), .ref ik, .ref iv, .ref ir, .ref il, .ref iy, .ref ig]))]) [0] (by decide) rfl
          have hFc := va_free (wc := [(jm, .inr (3, [.int th, .long sd, .long ((drM f (s0, K, V, R) k).1), .int (nI n), .ref ik, .ref iv, .ref ir, .ref il, .ref iy, .ref ig]))]) hD hS hA [0] rfl
          refine va_calli (va_runV (As := [.int (nI 7)]) (rest := [.int (nI (f + k)), .ref ik]) ⟨hx, hb, hml, hown, hts⟩ (c_M_number l dC dI jm ik iv ir il iy ig n th sd ((drM f (s0, K, V, R) k).1) 7 (by decide) (by decide) _) (cwV 1 hts (g_V big_w m_386 m_388 ms_23 m_4 m_389) rfl rfl rfl (by decide +kernel) ⟨Nat.le_of_ble_eq_true rfl, Nat.le_of_ble_eq_true rfl⟩) (wr_V hPc hKc hDc hN (va_recv hKc hPc (ci := 3) (q0 := 0) rfl rfl)) rfl rfl hl.1 rfl (lv_room (Nat.le_of_ble_eq_true rfl)) d_M_draws_43 ⟨Nat.le_of_ble_eq_true rfl, Nat.le_of_ble_eq_true rfl⟩) hS (fun q _ h => hFc q h) hFc (fun r_3 u t H1 locs ht hvm hw hB hz1 hk1 hS => ?_)
          obtain ⟨hP1, hK1, hD1⟩ := hB
          rw [ht] at hP1
          obtain ⟨hP, hD⟩ := va_join (wr := [(ik, .inl (dk, 86, .inl ((drM f (s0, K, V, R) k).2.1))), (iv, .inl (dv, 86, .inl ((drM f (s0, K, V, R) k).2.2.1))), (ir, .inl (dr, 86, .inl ((drM f (s0, K, V, R) k).2.2.2)))]) (w1 := [(jm, .inr (3, [.int th, .long sd, .long (nbX ((drM f (s0, K, V, R) k).1) 7), .int (nI n), .ref ik, .ref iv, .ref ir, .ref il, .ref iy, .ref ig]))]) hP hD [0] [1, 2, 3] rfl rfl (by decide) (by decide) hk1 hFc hP1 hD1
          generalize H1 = H at hP hS ⊢
          have hP : va_P (dC, dI) classes [(ik, .inl (dk, 86, .inl ((drM f (s0, K, V, R) k).2.1))), (iv, .inl (dv, 86, .inl ((drM f (s0, K, V, R) k).2.2.1))), (ir, .inl (dr, 86, .inl ((drM f (s0, K, V, R) k).2.2.2))), (jm, .inr (3, [.int th, .long sd, .long (nbX ((drM f (s0, K, V, R) k).1) 7), .int (nI n), .ref ik, .ref iv, .ref ir, .ref il, .ref iy, .ref ig]))] H := hP
          have hD : va_D A [(ik, .inl (dk, 86, .inl ((drM f (s0, K, V, R) k).2.1))), (iv, .inl (dv, 86, .inl ((drM f (s0, K, V, R) k).2.2.1))), (ir, .inl (dr, 86, .inl ((drM f (s0, K, V, R) k).2.2.2))), (jm, .inr (3, [.int th, .long sd, .long (nbX ((drM f (s0, K, V, R) k).1) 7), .int (nI n), .ref ik, .ref iv, .ref ir, .ref il, .ref iy, .ref ig]))] := hD
          have hw := hw.symm
          subst hw
          refine lv_topi (fun w_4 ew_4 => ?_)
          have ew_4 : (if k < 3 then nI k else nbI (drM f (s0, K, V, R) k).1 7) = w_4 := (ew_4.trans ((if_neg (by omega)).symm)).symm
          subst ew_4
          rw [show (nbX ((drM f (s0, K, V, R) k).1) 7) = (if k < 3 then (drM f (s0, K, V, R) k).1 else nbX (drM f (s0, K, V, R) k).1 7) from ((if_neg (by omega)).symm)] at hP hD
          refine va_iast hx hb hK hP hD hS 0 0 rfl rfl (vp_in_nI (by omega) (by omega)) d_M_draws_46 (fun H locs hP hD hS => ?_)
          rw [nI_clamp (by omega)] at hP hD
          have hP : va_P (dC, dI) classes [(ik, .inl (dk, 86, .inl (upd ((drM f (s0, K, V, R) k).2.1) (f + k) (if k < 3 then nI k else nbI (drM f (s0, K, V, R) k).1 7)))), (iv, .inl (dv, 86, .inl ((drM f (s0, K, V, R) k).2.2.1))), (ir, .inl (dr, 86, .inl ((drM f (s0, K, V, R) k).2.2.2))), (jm, .inr (3, [.int th, .long sd, .long (if k < 3 then (drM f (s0, K, V, R) k).1 else nbX (drM f (s0, K, V, R) k).1 7), .int (nI n), .ref ik, .ref iv, .ref ir, .ref il, .ref iy, .ref ig]))] H := hP
          have hD : va_D A [(ik, .inl (dk, 86, .inl (upd ((drM f (s0, K, V, R) k).2.1) (f + k) (if k < 3 then nI k else nbI (drM f (s0, K, V, R) k).1 7)))), (iv, .inl (dv, 86, .inl ((drM f (s0, K, V, R) k).2.2.1))), (ir, .inl (dr, 86, .inl ((drM f (s0, K, V, R) k).2.2.2))), (jm, .inr (3, [.int th, .long sd, .long (if k < 3 then (drM f (s0, K, V, R) k).1 else nbX (drM f (s0, K, V, R) k).1 7), .int (nI n), .ref ik, .ref iv, .ref ir, .ref il, .ref iy, .ref ig]))] := hD
          refine lv_aload_n hx hb d_M_draws_47 rfl (lv_at hl 1 rfl) ?_
          refine va_get (D := (dC, dI)) (ci := 3) (v := .ref iv) (C := R_M) (T := F_M) (N := 10) hx hb hts (lay_M _) hown hK hP 3 rfl rfl 5 (by decide) (hts _ (List.mem_cons_of_mem _ m_341)) (fun _ h9 => h9) rfl d_M_draws_48 ?_
          refine lv_iload hx hb d_M_draws_51 (lv_at hl 0 rfl) ?_
          refine lv_aload_n hx hb d_M_draws_53 rfl (lv_at hl 1 rfl) ?_
          refine lv_bipush (v := nI 100) hx hb d_M_draws_54 (by decide +kernel) ?_
          have hPc := hP.sub (ws' := [(jm, .inr (3, [.int th, .long sd, .long (if k < 3 then (drM f (s0, K, V, R) k).1 else nbX (drM f (s0, K, V, R) k).1 7), .int (nI n), .ref ik, .ref iv, .ref ir, .ref il, .ref iy, .ref ig]))]) [3] rfl
          have hKc := hK.sub (tys' := []) [] rfl
          have hDc := hD.sub (ws' := [(jm, .inr (3, [.int th, .long sd, .long (if k < 3 then (drM f (s0, K, V, R) k).1 else nbX (drM f (s0, K, V, R) k).1 7), .int (nI n), .ref ik, .ref iv, .ref ir, .ref il, .ref iy, .ref ig]))]) [3] (by decide) rfl
          have hFc := va_free (wc := [(jm, .inr (3, [.int th, .long sd, .long (if k < 3 then (drM f (s0, K, V, R) k).1 else nbX (drM f (s0, K, V, R) k).1 7), .int (nI n), .ref ik, .ref iv, .ref ir, .ref il, .ref iy, .ref ig]))]) hD hS hA [3] rfl
          refine va_calli (va_runV (As := [.int (nI 100)]) (rest := [.int (nI (f + k)), .ref iv]) ⟨hx, hb, hml, hown, hts⟩ (c_M_number l dC dI jm ik iv ir il iy ig n th sd (if k < 3 then (drM f (s0, K, V, R) k).1 else nbX (drM f (s0, K, V, R) k).1 7) 100 (by decide) (by decide) _) (cwV 1 hts (g_V big_w m_386 m_388 ms_23 m_4 m_389) rfl rfl rfl (by decide +kernel) ⟨Nat.le_of_ble_eq_true rfl, Nat.le_of_ble_eq_true rfl⟩) (wr_V hPc hKc hDc hN (va_recv hKc hPc (ci := 3) (q0 := 0) rfl rfl)) rfl rfl hl.1 rfl (lv_room (Nat.le_of_ble_eq_true rfl)) d_M_draws_56 ⟨Nat.le_of_ble_eq_true rfl, Nat.le_of_ble_eq_true rfl⟩) hS (fun q _ h => hFc q h) hFc (fun r_5 u t H1 locs ht hvm hw hB hz1 hk1 hS => ?_)
          obtain ⟨hP1, hK1, hD1⟩ := hB
          rw [ht] at hP1
          obtain ⟨hP, hD⟩ := va_join (wr := [(ik, .inl (dk, 86, .inl (upd ((drM f (s0, K, V, R) k).2.1) (f + k) (if k < 3 then nI k else nbI (drM f (s0, K, V, R) k).1 7)))), (iv, .inl (dv, 86, .inl ((drM f (s0, K, V, R) k).2.2.1))), (ir, .inl (dr, 86, .inl ((drM f (s0, K, V, R) k).2.2.2)))]) (w1 := [(jm, .inr (3, [.int th, .long sd, .long (nbX (if k < 3 then (drM f (s0, K, V, R) k).1 else nbX (drM f (s0, K, V, R) k).1 7) 100), .int (nI n), .ref ik, .ref iv, .ref ir, .ref il, .ref iy, .ref ig]))]) hP hD [3] [0, 1, 2] rfl rfl (by decide) (by decide) hk1 hFc hP1 hD1
          generalize H1 = H at hP hS ⊢
          have hP : va_P (dC, dI) classes [(ik, .inl (dk, 86, .inl (upd ((drM f (s0, K, V, R) k).2.1) (f + k) (if k < 3 then nI k else nbI (drM f (s0, K, V, R) k).1 7)))), (iv, .inl (dv, 86, .inl ((drM f (s0, K, V, R) k).2.2.1))), (ir, .inl (dr, 86, .inl ((drM f (s0, K, V, R) k).2.2.2))), (jm, .inr (3, [.int th, .long sd, .long (nbX (if k < 3 then (drM f (s0, K, V, R) k).1 else nbX (drM f (s0, K, V, R) k).1 7) 100), .int (nI n), .ref ik, .ref iv, .ref ir, .ref il, .ref iy, .ref ig]))] H := hP
          have hD : va_D A [(ik, .inl (dk, 86, .inl (upd ((drM f (s0, K, V, R) k).2.1) (f + k) (if k < 3 then nI k else nbI (drM f (s0, K, V, R) k).1 7)))), (iv, .inl (dv, 86, .inl ((drM f (s0, K, V, R) k).2.2.1))), (ir, .inl (dr, 86, .inl ((drM f (s0, K, V, R) k).2.2.2))), (jm, .inr (3, [.int th, .long sd, .long (nbX (if k < 3 then (drM f (s0, K, V, R) k).1 else nbX (drM f (s0, K, V, R) k).1 7) 100), .int (nI n), .ref ik, .ref iv, .ref ir, .ref il, .ref iy, .ref ig]))] := hD
          have hw := hw.symm
          subst hw
          refine va_iast hx hb hK hP hD hS 1 1 rfl rfl (vp_in_nI (by omega) (by omega)) d_M_draws_59 (fun H locs hP hD hS => ?_)
          rw [nI_clamp (by omega)] at hP hD
          have hP : va_P (dC, dI) classes [(ik, .inl (dk, 86, .inl (upd ((drM f (s0, K, V, R) k).2.1) (f + k) (if k < 3 then nI k else nbI (drM f (s0, K, V, R) k).1 7)))), (iv, .inl (dv, 86, .inl (upd ((drM f (s0, K, V, R) k).2.2.1) (f + k) (nbI (if k < 3 then (drM f (s0, K, V, R) k).1 else nbX (drM f (s0, K, V, R) k).1 7) 100)))), (ir, .inl (dr, 86, .inl ((drM f (s0, K, V, R) k).2.2.2))), (jm, .inr (3, [.int th, .long sd, .long (nbX (if k < 3 then (drM f (s0, K, V, R) k).1 else nbX (drM f (s0, K, V, R) k).1 7) 100), .int (nI n), .ref ik, .ref iv, .ref ir, .ref il, .ref iy, .ref ig]))] H := hP
          have hD : va_D A [(ik, .inl (dk, 86, .inl (upd ((drM f (s0, K, V, R) k).2.1) (f + k) (if k < 3 then nI k else nbI (drM f (s0, K, V, R) k).1 7)))), (iv, .inl (dv, 86, .inl (upd ((drM f (s0, K, V, R) k).2.2.1) (f + k) (nbI (if k < 3 then (drM f (s0, K, V, R) k).1 else nbX (drM f (s0, K, V, R) k).1 7) 100)))), (ir, .inl (dr, 86, .inl ((drM f (s0, K, V, R) k).2.2.2))), (jm, .inr (3, [.int th, .long sd, .long (nbX (if k < 3 then (drM f (s0, K, V, R) k).1 else nbX (drM f (s0, K, V, R) k).1 7) 100), .int (nI n), .ref ik, .ref iv, .ref ir, .ref il, .ref iy, .ref ig]))] := hD
          refine lv_aload_n hx hb d_M_draws_60 rfl (lv_at hl 1 rfl) ?_
          refine va_get (D := (dC, dI)) (ci := 3) (v := .ref ir) (C := R_M) (T := F_M) (N := 10) hx hb hts (lay_M _) hown hK hP 3 rfl rfl 6 (by decide) (hts _ (List.mem_cons_of_mem _ m_342)) (fun _ h9 => h9) rfl d_M_draws_61 ?_
          refine lv_iload hx hb d_M_draws_64 (lv_at hl 0 rfl) ?_
          refine lv_aload_n hx hb d_M_draws_66 rfl (lv_at hl 1 rfl) ?_
          refine lv_iload_n hx hb d_M_draws_67 rfl (lv_at hl 3 rfl) ?_
          refine lv_iload hx hb d_M_draws_68 (lv_at hl 0 rfl) ?_
          have hPc := hP.sub (ws' := [(jm, .inr (3, [.int th, .long sd, .long (nbX (if k < 3 then (drM f (s0, K, V, R) k).1 else nbX (drM f (s0, K, V, R) k).1 7) 100), .int (nI n), .ref ik, .ref iv, .ref ir, .ref il, .ref iy, .ref ig])), (ik, .inl (dk, 86, .inl (upd ((drM f (s0, K, V, R) k).2.1) (f + k) (if k < 3 then nI k else nbI (drM f (s0, K, V, R) k).1 7))))]) [3, 0] rfl
          have hKc := hK.sub (tys' := [(dk, .int)]) [0] rfl
          have hDc := hD.sub (ws' := [(jm, .inr (3, [.int th, .long sd, .long (nbX (if k < 3 then (drM f (s0, K, V, R) k).1 else nbX (drM f (s0, K, V, R) k).1 7) 100), .int (nI n), .ref ik, .ref iv, .ref ir, .ref il, .ref iy, .ref ig])), (ik, .inl (dk, 86, .inl (upd ((drM f (s0, K, V, R) k).2.1) (f + k) (if k < 3 then nI k else nbI (drM f (s0, K, V, R) k).1 7))))]) [3, 0] (by decide) rfl
          have hFc := va_free (wc := [(jm, .inr (3, [.int th, .long sd, .long (nbX (if k < 3 then (drM f (s0, K, V, R) k).1 else nbX (drM f (s0, K, V, R) k).1 7) 100), .int (nI n), .ref ik, .ref iv, .ref ir, .ref il, .ref iy, .ref ig])), (ik, .inl (dk, 86, .inl (upd ((drM f (s0, K, V, R) k).2.1) (f + k) (if k < 3 then nI k else nbI (drM f (s0, K, V, R) k).1 7))))]) hD hS hA [3, 0] rfl
          refine va_calli (va_runV (As := [.int (nI f), .int (nI (f + k))]) (rest := [.int (nI (f + k)), .ref ir]) ⟨hx, hb, hml, hown, hts⟩ (c_M_reference l dC dI jm ik iv ir il iy ig n th sd (nbX (if k < 3 then (drM f (s0, K, V, R) k).1 else nbX (drM f (s0, K, V, R) k).1 7) 100) dk (upd ((drM f (s0, K, V, R) k).2.1) (f + k) (if k < 3 then nI k else nbI (drM f (s0, K, V, R) k).1 7)) f k (if k < 3 then nI k else nbI (drM f (s0, K, V, R) k).1 7) (by omega) pk_us _) (cwV 2 hts (g_V big_w m_392 m_394 ms_24 m_4 m_395) rfl rfl rfl (by decide +kernel) ⟨Nat.le_of_ble_eq_true rfl, Nat.le_of_ble_eq_true rfl⟩) (wr_V hPc hKc hDc hN (va_recv hKc hPc (ci := 3) (q0 := 0) rfl rfl)) rfl rfl hl.1 rfl (lv_room (Nat.le_of_ble_eq_true rfl)) d_M_draws_70 ⟨Nat.le_of_ble_eq_true rfl, Nat.le_of_ble_eq_true rfl⟩) hS (fun q _ h => hFc q h) hFc (fun r_6 u t H1 locs ht hvm hw hB hz1 hk1 hS => ?_)
          obtain ⟨hP1, hK1, hD1⟩ := hB
          rw [ht] at hP1
          obtain ⟨hP, hD⟩ := va_join (wr := [(iv, .inl (dv, 86, .inl (upd ((drM f (s0, K, V, R) k).2.2.1) (f + k) (nbI (if k < 3 then (drM f (s0, K, V, R) k).1 else nbX (drM f (s0, K, V, R) k).1 7) 100)))), (ir, .inl (dr, 86, .inl ((drM f (s0, K, V, R) k).2.2.2)))]) (w1 := [(jm, .inr (3, [.int th, .long sd, .long (rfX (shf (upd ((drM f (s0, K, V, R) k).2.1) (f + k) (if k < 3 then nI k else nbI (drM f (s0, K, V, R) k).1 7)) f) k (if k < 3 then nI k else nbI (drM f (s0, K, V, R) k).1 7) (nbX (if k < 3 then (drM f (s0, K, V, R) k).1 else nbX (drM f (s0, K, V, R) k).1 7) 100)), .int (nI n), .ref ik, .ref iv, .ref ir, .ref il, .ref iy, .ref ig])), (ik, .inl (dk, 86, .inl (upd ((drM f (s0, K, V, R) k).2.1) (f + k) (if k < 3 then nI k else nbI (drM f (s0, K, V, R) k).1 7))))]) hP hD [3, 0] [1, 2] rfl rfl (by decide) (by decide) hk1 hFc hP1 hD1
          generalize H1 = H at hP hS ⊢
          have hP : va_P (dC, dI) classes [(iv, .inl (dv, 86, .inl (upd ((drM f (s0, K, V, R) k).2.2.1) (f + k) (nbI (if k < 3 then (drM f (s0, K, V, R) k).1 else nbX (drM f (s0, K, V, R) k).1 7) 100)))), (ir, .inl (dr, 86, .inl ((drM f (s0, K, V, R) k).2.2.2))), (jm, .inr (3, [.int th, .long sd, .long (rfX (shf (upd ((drM f (s0, K, V, R) k).2.1) (f + k) (if k < 3 then nI k else nbI (drM f (s0, K, V, R) k).1 7)) f) k (if k < 3 then nI k else nbI (drM f (s0, K, V, R) k).1 7) (nbX (if k < 3 then (drM f (s0, K, V, R) k).1 else nbX (drM f (s0, K, V, R) k).1 7) 100)), .int (nI n), .ref ik, .ref iv, .ref ir, .ref il, .ref iy, .ref ig])), (ik, .inl (dk, 86, .inl (upd ((drM f (s0, K, V, R) k).2.1) (f + k) (if k < 3 then nI k else nbI (drM f (s0, K, V, R) k).1 7))))] H := hP
          have hD : va_D A [(iv, .inl (dv, 86, .inl (upd ((drM f (s0, K, V, R) k).2.2.1) (f + k) (nbI (if k < 3 then (drM f (s0, K, V, R) k).1 else nbX (drM f (s0, K, V, R) k).1 7) 100)))), (ir, .inl (dr, 86, .inl ((drM f (s0, K, V, R) k).2.2.2))), (jm, .inr (3, [.int th, .long sd, .long (rfX (shf (upd ((drM f (s0, K, V, R) k).2.1) (f + k) (if k < 3 then nI k else nbI (drM f (s0, K, V, R) k).1 7)) f) k (if k < 3 then nI k else nbI (drM f (s0, K, V, R) k).1 7) (nbX (if k < 3 then (drM f (s0, K, V, R) k).1 else nbX (drM f (s0, K, V, R) k).1 7) 100)), .int (nI n), .ref ik, .ref iv, .ref ir, .ref il, .ref iy, .ref ig])), (ik, .inl (dk, 86, .inl (upd ((drM f (s0, K, V, R) k).2.1) (f + k) (if k < 3 then nI k else nbI (drM f (s0, K, V, R) k).1 7))))] := hD
          have hw := hw.symm
          subst hw
          refine va_iast hx hb hK hP hD hS 1 2 rfl rfl (vp_in_nI (by omega) (by omega)) d_M_draws_73 (fun H locs hP hD hS => ?_)
          rw [nI_clamp (by omega)] at hP hD
          have hP : va_P (dC, dI) classes [(iv, .inl (dv, 86, .inl (upd ((drM f (s0, K, V, R) k).2.2.1) (f + k) (nbI (if k < 3 then (drM f (s0, K, V, R) k).1 else nbX (drM f (s0, K, V, R) k).1 7) 100)))), (ir, .inl (dr, 86, .inl (upd ((drM f (s0, K, V, R) k).2.2.2) (f + k) (rfI (shf (upd ((drM f (s0, K, V, R) k).2.1) (f + k) (if k < 3 then nI k else nbI (drM f (s0, K, V, R) k).1 7)) f) k (if k < 3 then nI k else nbI (drM f (s0, K, V, R) k).1 7) (nbX (if k < 3 then (drM f (s0, K, V, R) k).1 else nbX (drM f (s0, K, V, R) k).1 7) 100))))), (jm, .inr (3, [.int th, .long sd, .long (rfX (shf (upd ((drM f (s0, K, V, R) k).2.1) (f + k) (if k < 3 then nI k else nbI (drM f (s0, K, V, R) k).1 7)) f) k (if k < 3 then nI k else nbI (drM f (s0, K, V, R) k).1 7) (nbX (if k < 3 then (drM f (s0, K, V, R) k).1 else nbX (drM f (s0, K, V, R) k).1 7) 100)), .int (nI n), .ref ik, .ref iv, .ref ir, .ref il, .ref iy, .ref ig])), (ik, .inl (dk, 86, .inl (upd ((drM f (s0, K, V, R) k).2.1) (f + k) (if k < 3 then nI k else nbI (drM f (s0, K, V, R) k).1 7))))] H := hP
          have hD : va_D A [(iv, .inl (dv, 86, .inl (upd ((drM f (s0, K, V, R) k).2.2.1) (f + k) (nbI (if k < 3 then (drM f (s0, K, V, R) k).1 else nbX (drM f (s0, K, V, R) k).1 7) 100)))), (ir, .inl (dr, 86, .inl (upd ((drM f (s0, K, V, R) k).2.2.2) (f + k) (rfI (shf (upd ((drM f (s0, K, V, R) k).2.1) (f + k) (if k < 3 then nI k else nbI (drM f (s0, K, V, R) k).1 7)) f) k (if k < 3 then nI k else nbI (drM f (s0, K, V, R) k).1 7) (nbX (if k < 3 then (drM f (s0, K, V, R) k).1 else nbX (drM f (s0, K, V, R) k).1 7) 100))))), (jm, .inr (3, [.int th, .long sd, .long (rfX (shf (upd ((drM f (s0, K, V, R) k).2.1) (f + k) (if k < 3 then nI k else nbI (drM f (s0, K, V, R) k).1 7)) f) k (if k < 3 then nI k else nbI (drM f (s0, K, V, R) k).1 7) (nbX (if k < 3 then (drM f (s0, K, V, R) k).1 else nbX (drM f (s0, K, V, R) k).1 7) 100)), .int (nI n), .ref ik, .ref iv, .ref ir, .ref il, .ref iy, .ref ig])), (ik, .inl (dk, 86, .inl (upd ((drM f (s0, K, V, R) k).2.1) (f + k) (if k < 3 then nI k else nbI (drM f (s0, K, V, R) k).1 7))))] := hD
          refine lv_iinc (v := nI (k + 1)) (lv' := [(5, .int (nI (k + 1))), (6, .int (nI (f + k))), (0, .ref jm), (1, .long s0), (3, .int (nI f)), (4, .int (nI z))]) hx hb d_M_draws_74 hl (k := 5) rfl (nI_1 _) (by decide) rfl (fun ls hl => ?_)
          refine lv_goto (tgt := 8) hx hb d_M_draws_77 (by decide) ?_
          exact ih_8 (k + 1) (by omega) (by first | assumption | omega) _ _ (hP.sub (ws' := [(jm, .inr (3, [.int th, .long sd, .long ((drM f (s0, K, V, R) (k + 1)).1), .int (nI n), .ref ik, .ref iv, .ref ir, .ref il, .ref iy, .ref ig])), (ik, .inl (dk, 86, .inl ((drM f (s0, K, V, R) (k + 1)).2.1))), (iv, .inl (dv, 86, .inl ((drM f (s0, K, V, R) (k + 1)).2.2.1))), (ir, .inl (dr, 86, .inl ((drM f (s0, K, V, R) (k + 1)).2.2.2)))]) [2, 3, 0, 1] rfl) (hD.sub (ws' := [(jm, .inr (3, [.int th, .long sd, .long ((drM f (s0, K, V, R) (k + 1)).1), .int (nI n), .ref ik, .ref iv, .ref ir, .ref il, .ref iy, .ref ig])), (ik, .inl (dk, 86, .inl ((drM f (s0, K, V, R) (k + 1)).2.1))), (iv, .inl (dv, 86, .inl ((drM f (s0, K, V, R) (k + 1)).2.2.1))), (ir, .inl (dr, 86, .inl ((drM f (s0, K, V, R) (k + 1)).2.2.2)))]) [2, 3, 0, 1] (by decide) rfl) hS ls (lv_sub (l' := [(0, .ref jm), (1, .long s0), (3, .int (nI f)), (4, .int (nI z)), (5, .int (nI (k + 1)))]) hl [2, 3, 4, 5, 0] rfl)
        · skip
          have c_32 := (not_congr (nI_leI (by omega) (by omega))).mp c_32
          refine lv_iload hx hb d_M_draws_35 (lv_at hl 5 rfl) ?_
          refine lv_goto (tgt := 46) hx hb d_M_draws_37 (by decide) ?_
          refine lv_topi (fun w_7 ew_7 => ?_)
          have ew_7 : (if k < 3 then nI k else nbI (drM f (s0, K, V, R) k).1 7) = w_7 := (ew_7.trans ((if_pos (by omega)).symm)).symm
          subst ew_7
          rw [show ((drM f (s0, K, V, R) k).1) = (if k < 3 then (drM f (s0, K, V, R) k).1 else nbX (drM f (s0, K, V, R) k).1 7) from ((if_pos (by omega)).symm)] at hP hD
          refine va_iast hx hb hK hP hD hS 1 0 rfl rfl (vp_in_nI (by omega) (by omega)) d_M_draws_46 (fun H locs hP hD hS => ?_)
          rw [nI_clamp (by omega)] at hP hD
          have hP : va_P (dC, dI) classes [(jm, .inr (3, [.int th, .long sd, .long (if k < 3 then (drM f (s0, K, V, R) k).1 else nbX (drM f (s0, K, V, R) k).1 7), .int (nI n), .ref ik, .ref iv, .ref ir, .ref il, .ref iy, .ref ig])), (ik, .inl (dk, 86, .inl (upd ((drM f (s0, K, V, R) k).2.1) (f + k) (if k < 3 then nI k else nbI (drM f (s0, K, V, R) k).1 7)))), (iv, .inl (dv, 86, .inl ((drM f (s0, K, V, R) k).2.2.1))), (ir, .inl (dr, 86, .inl ((drM f (s0, K, V, R) k).2.2.2)))] H := hP
          have hD : va_D A [(jm, .inr (3, [.int th, .long sd, .long (if k < 3 then (drM f (s0, K, V, R) k).1 else nbX (drM f (s0, K, V, R) k).1 7), .int (nI n), .ref ik, .ref iv, .ref ir, .ref il, .ref iy, .ref ig])), (ik, .inl (dk, 86, .inl (upd ((drM f (s0, K, V, R) k).2.1) (f + k) (if k < 3 then nI k else nbI (drM f (s0, K, V, R) k).1 7)))), (iv, .inl (dv, 86, .inl ((drM f (s0, K, V, R) k).2.2.1))), (ir, .inl (dr, 86, .inl ((drM f (s0, K, V, R) k).2.2.2)))] := hD
          refine lv_aload_n hx hb d_M_draws_47 rfl (lv_at hl 1 rfl) ?_
          refine va_get (D := (dC, dI)) (ci := 3) (v := .ref iv) (C := R_M) (T := F_M) (N := 10) hx hb hts (lay_M _) hown hK hP 0 rfl rfl 5 (by decide) (hts _ (List.mem_cons_of_mem _ m_341)) (fun _ h9 => h9) rfl d_M_draws_48 ?_
          refine lv_iload hx hb d_M_draws_51 (lv_at hl 0 rfl) ?_
          refine lv_aload_n hx hb d_M_draws_53 rfl (lv_at hl 1 rfl) ?_
          refine lv_bipush (v := nI 100) hx hb d_M_draws_54 (by decide +kernel) ?_
          have hPc := hP.sub (ws' := [(jm, .inr (3, [.int th, .long sd, .long (if k < 3 then (drM f (s0, K, V, R) k).1 else nbX (drM f (s0, K, V, R) k).1 7), .int (nI n), .ref ik, .ref iv, .ref ir, .ref il, .ref iy, .ref ig]))]) [0] rfl
          have hKc := hK.sub (tys' := []) [] rfl
          have hDc := hD.sub (ws' := [(jm, .inr (3, [.int th, .long sd, .long (if k < 3 then (drM f (s0, K, V, R) k).1 else nbX (drM f (s0, K, V, R) k).1 7), .int (nI n), .ref ik, .ref iv, .ref ir, .ref il, .ref iy, .ref ig]))]) [0] (by decide) rfl
          have hFc := va_free (wc := [(jm, .inr (3, [.int th, .long sd, .long (if k < 3 then (drM f (s0, K, V, R) k).1 else nbX (drM f (s0, K, V, R) k).1 7), .int (nI n), .ref ik, .ref iv, .ref ir, .ref il, .ref iy, .ref ig]))]) hD hS hA [0] rfl
          refine va_calli (va_runV (As := [.int (nI 100)]) (rest := [.int (nI (f + k)), .ref iv]) ⟨hx, hb, hml, hown, hts⟩ (c_M_number l dC dI jm ik iv ir il iy ig n th sd (if k < 3 then (drM f (s0, K, V, R) k).1 else nbX (drM f (s0, K, V, R) k).1 7) 100 (by decide) (by decide) _) (cwV 1 hts (g_V big_w m_386 m_388 ms_23 m_4 m_389) rfl rfl rfl (by decide +kernel) ⟨Nat.le_of_ble_eq_true rfl, Nat.le_of_ble_eq_true rfl⟩) (wr_V hPc hKc hDc hN (va_recv hKc hPc (ci := 3) (q0 := 0) rfl rfl)) rfl rfl hl.1 rfl (lv_room (Nat.le_of_ble_eq_true rfl)) d_M_draws_56 ⟨Nat.le_of_ble_eq_true rfl, Nat.le_of_ble_eq_true rfl⟩) hS (fun q _ h => hFc q h) hFc (fun r_8 u t H1 locs ht hvm hw hB hz1 hk1 hS => ?_)
          obtain ⟨hP1, hK1, hD1⟩ := hB
          rw [ht] at hP1
          obtain ⟨hP, hD⟩ := va_join (wr := [(ik, .inl (dk, 86, .inl (upd ((drM f (s0, K, V, R) k).2.1) (f + k) (if k < 3 then nI k else nbI (drM f (s0, K, V, R) k).1 7)))), (iv, .inl (dv, 86, .inl ((drM f (s0, K, V, R) k).2.2.1))), (ir, .inl (dr, 86, .inl ((drM f (s0, K, V, R) k).2.2.2)))]) (w1 := [(jm, .inr (3, [.int th, .long sd, .long (nbX (if k < 3 then (drM f (s0, K, V, R) k).1 else nbX (drM f (s0, K, V, R) k).1 7) 100), .int (nI n), .ref ik, .ref iv, .ref ir, .ref il, .ref iy, .ref ig]))]) hP hD [0] [1, 2, 3] rfl rfl (by decide) (by decide) hk1 hFc hP1 hD1
          generalize H1 = H at hP hS ⊢
          have hP : va_P (dC, dI) classes [(ik, .inl (dk, 86, .inl (upd ((drM f (s0, K, V, R) k).2.1) (f + k) (if k < 3 then nI k else nbI (drM f (s0, K, V, R) k).1 7)))), (iv, .inl (dv, 86, .inl ((drM f (s0, K, V, R) k).2.2.1))), (ir, .inl (dr, 86, .inl ((drM f (s0, K, V, R) k).2.2.2))), (jm, .inr (3, [.int th, .long sd, .long (nbX (if k < 3 then (drM f (s0, K, V, R) k).1 else nbX (drM f (s0, K, V, R) k).1 7) 100), .int (nI n), .ref ik, .ref iv, .ref ir, .ref il, .ref iy, .ref ig]))] H := hP
          have hD : va_D A [(ik, .inl (dk, 86, .inl (upd ((drM f (s0, K, V, R) k).2.1) (f + k) (if k < 3 then nI k else nbI (drM f (s0, K, V, R) k).1 7)))), (iv, .inl (dv, 86, .inl ((drM f (s0, K, V, R) k).2.2.1))), (ir, .inl (dr, 86, .inl ((drM f (s0, K, V, R) k).2.2.2))), (jm, .inr (3, [.int th, .long sd, .long (nbX (if k < 3 then (drM f (s0, K, V, R) k).1 else nbX (drM f (s0, K, V, R) k).1 7) 100), .int (nI n), .ref ik, .ref iv, .ref ir, .ref il, .ref iy, .ref ig]))] := hD
          have hw := hw.symm
          subst hw
          refine va_iast hx hb hK hP hD hS 1 1 rfl rfl (vp_in_nI (by omega) (by omega)) d_M_draws_59 (fun H locs hP hD hS => ?_)
          rw [nI_clamp (by omega)] at hP hD
          have hP : va_P (dC, dI) classes [(ik, .inl (dk, 86, .inl (upd ((drM f (s0, K, V, R) k).2.1) (f + k) (if k < 3 then nI k else nbI (drM f (s0, K, V, R) k).1 7)))), (iv, .inl (dv, 86, .inl (upd ((drM f (s0, K, V, R) k).2.2.1) (f + k) (nbI (if k < 3 then (drM f (s0, K, V, R) k).1 else nbX (drM f (s0, K, V, R) k).1 7) 100)))), (ir, .inl (dr, 86, .inl ((drM f (s0, K, V, R) k).2.2.2))), (jm, .inr (3, [.int th, .long sd, .long (nbX (if k < 3 then (drM f (s0, K, V, R) k).1 else nbX (drM f (s0, K, V, R) k).1 7) 100), .int (nI n), .ref ik, .ref iv, .ref ir, .ref il, .ref iy, .ref ig]))] H := hP
          have hD : va_D A [(ik, .inl (dk, 86, .inl (upd ((drM f (s0, K, V, R) k).2.1) (f + k) (if k < 3 then nI k else nbI (drM f (s0, K, V, R) k).1 7)))), (iv, .inl (dv, 86, .inl (upd ((drM f (s0, K, V, R) k).2.2.1) (f + k) (nbI (if k < 3 then (drM f (s0, K, V, R) k).1 else nbX (drM f (s0, K, V, R) k).1 7) 100)))), (ir, .inl (dr, 86, .inl ((drM f (s0, K, V, R) k).2.2.2))), (jm, .inr (3, [.int th, .long sd, .long (nbX (if k < 3 then (drM f (s0, K, V, R) k).1 else nbX (drM f (s0, K, V, R) k).1 7) 100), .int (nI n), .ref ik, .ref iv, .ref ir, .ref il, .ref iy, .ref ig]))] := hD
          refine lv_aload_n hx hb d_M_draws_60 rfl (lv_at hl 1 rfl) ?_
          refine va_get (D := (dC, dI)) (ci := 3) (v := .ref ir) (C := R_M) (T := F_M) (N := 10) hx hb hts (lay_M _) hown hK hP 3 rfl rfl 6 (by decide) (hts _ (List.mem_cons_of_mem _ m_342)) (fun _ h9 => h9) rfl d_M_draws_61 ?_
          refine lv_iload hx hb d_M_draws_64 (lv_at hl 0 rfl) ?_
          refine lv_aload_n hx hb d_M_draws_66 rfl (lv_at hl 1 rfl) ?_
          refine lv_iload_n hx hb d_M_draws_67 rfl (lv_at hl 3 rfl) ?_
          refine lv_iload hx hb d_M_draws_68 (lv_at hl 0 rfl) ?_
          have hPc := hP.sub (ws' := [(jm, .inr (3, [.int th, .long sd, .long (nbX (if k < 3 then (drM f (s0, K, V, R) k).1 else nbX (drM f (s0, K, V, R) k).1 7) 100), .int (nI n), .ref ik, .ref iv, .ref ir, .ref il, .ref iy, .ref ig])), (ik, .inl (dk, 86, .inl (upd ((drM f (s0, K, V, R) k).2.1) (f + k) (if k < 3 then nI k else nbI (drM f (s0, K, V, R) k).1 7))))]) [3, 0] rfl
          have hKc := hK.sub (tys' := [(dk, .int)]) [0] rfl
          have hDc := hD.sub (ws' := [(jm, .inr (3, [.int th, .long sd, .long (nbX (if k < 3 then (drM f (s0, K, V, R) k).1 else nbX (drM f (s0, K, V, R) k).1 7) 100), .int (nI n), .ref ik, .ref iv, .ref ir, .ref il, .ref iy, .ref ig])), (ik, .inl (dk, 86, .inl (upd ((drM f (s0, K, V, R) k).2.1) (f + k) (if k < 3 then nI k else nbI (drM f (s0, K, V, R) k).1 7))))]) [3, 0] (by decide) rfl
          have hFc := va_free (wc := [(jm, .inr (3, [.int th, .long sd, .long (nbX (if k < 3 then (drM f (s0, K, V, R) k).1 else nbX (drM f (s0, K, V, R) k).1 7) 100), .int (nI n), .ref ik, .ref iv, .ref ir, .ref il, .ref iy, .ref ig])), (ik, .inl (dk, 86, .inl (upd ((drM f (s0, K, V, R) k).2.1) (f + k) (if k < 3 then nI k else nbI (drM f (s0, K, V, R) k).1 7))))]) hD hS hA [3, 0] rfl
          refine va_calli (va_runV (As := [.int (nI f), .int (nI (f + k))]) (rest := [.int (nI (f + k)), .ref ir]) ⟨hx, hb, hml, hown, hts⟩ (c_M_reference l dC dI jm ik iv ir il iy ig n th sd (nbX (if k < 3 then (drM f (s0, K, V, R) k).1 else nbX (drM f (s0, K, V, R) k).1 7) 100) dk (upd ((drM f (s0, K, V, R) k).2.1) (f + k) (if k < 3 then nI k else nbI (drM f (s0, K, V, R) k).1 7)) f k (if k < 3 then nI k else nbI (drM f (s0, K, V, R) k).1 7) (by omega) pk_us _) (cwV 2 hts (g_V big_w m_392 m_394 ms_24 m_4 m_395) rfl rfl rfl (by decide +kernel) ⟨Nat.le_of_ble_eq_true rfl, Nat.le_of_ble_eq_true rfl⟩) (wr_V hPc hKc hDc hN (va_recv hKc hPc (ci := 3) (q0 := 0) rfl rfl)) rfl rfl hl.1 rfl (lv_room (Nat.le_of_ble_eq_true rfl)) d_M_draws_70 ⟨Nat.le_of_ble_eq_true rfl, Nat.le_of_ble_eq_true rfl⟩) hS (fun q _ h => hFc q h) hFc (fun r_9 u t H1 locs ht hvm hw hB hz1 hk1 hS => ?_)
          obtain ⟨hP1, hK1, hD1⟩ := hB
          rw [ht] at hP1
          obtain ⟨hP, hD⟩ := va_join (wr := [(iv, .inl (dv, 86, .inl (upd ((drM f (s0, K, V, R) k).2.2.1) (f + k) (nbI (if k < 3 then (drM f (s0, K, V, R) k).1 else nbX (drM f (s0, K, V, R) k).1 7) 100)))), (ir, .inl (dr, 86, .inl ((drM f (s0, K, V, R) k).2.2.2)))]) (w1 := [(jm, .inr (3, [.int th, .long sd, .long (rfX (shf (upd ((drM f (s0, K, V, R) k).2.1) (f + k) (if k < 3 then nI k else nbI (drM f (s0, K, V, R) k).1 7)) f) k (if k < 3 then nI k else nbI (drM f (s0, K, V, R) k).1 7) (nbX (if k < 3 then (drM f (s0, K, V, R) k).1 else nbX (drM f (s0, K, V, R) k).1 7) 100)), .int (nI n), .ref ik, .ref iv, .ref ir, .ref il, .ref iy, .ref ig])), (ik, .inl (dk, 86, .inl (upd ((drM f (s0, K, V, R) k).2.1) (f + k) (if k < 3 then nI k else nbI (drM f (s0, K, V, R) k).1 7))))]) hP hD [3, 0] [1, 2] rfl rfl (by decide) (by decide) hk1 hFc hP1 hD1
          generalize H1 = H at hP hS ⊢
          have hP : va_P (dC, dI) classes [(iv, .inl (dv, 86, .inl (upd ((drM f (s0, K, V, R) k).2.2.1) (f + k) (nbI (if k < 3 then (drM f (s0, K, V, R) k).1 else nbX (drM f (s0, K, V, R) k).1 7) 100)))), (ir, .inl (dr, 86, .inl ((drM f (s0, K, V, R) k).2.2.2))), (jm, .inr (3, [.int th, .long sd, .long (rfX (shf (upd ((drM f (s0, K, V, R) k).2.1) (f + k) (if k < 3 then nI k else nbI (drM f (s0, K, V, R) k).1 7)) f) k (if k < 3 then nI k else nbI (drM f (s0, K, V, R) k).1 7) (nbX (if k < 3 then (drM f (s0, K, V, R) k).1 else nbX (drM f (s0, K, V, R) k).1 7) 100)), .int (nI n), .ref ik, .ref iv, .ref ir, .ref il, .ref iy, .ref ig])), (ik, .inl (dk, 86, .inl (upd ((drM f (s0, K, V, R) k).2.1) (f + k) (if k < 3 then nI k else nbI (drM f (s0, K, V, R) k).1 7))))] H := hP
          have hD : va_D A [(iv, .inl (dv, 86, .inl (upd ((drM f (s0, K, V, R) k).2.2.1) (f + k) (nbI (if k < 3 then (drM f (s0, K, V, R) k).1 else nbX (drM f (s0, K, V, R) k).1 7) 100)))), (ir, .inl (dr, 86, .inl ((drM f (s0, K, V, R) k).2.2.2))), (jm, .inr (3, [.int th, .long sd, .long (rfX (shf (upd ((drM f (s0, K, V, R) k).2.1) (f + k) (if k < 3 then nI k else nbI (drM f (s0, K, V, R) k).1 7)) f) k (if k < 3 then nI k else nbI (drM f (s0, K, V, R) k).1 7) (nbX (if k < 3 then (drM f (s0, K, V, R) k).1 else nbX (drM f (s0, K, V, R) k).1 7) 100)), .int (nI n), .ref ik, .ref iv, .ref ir, .ref il, .ref iy, .ref ig])), (ik, .inl (dk, 86, .inl (upd ((drM f (s0, K, V, R) k).2.1) (f + k) (if k < 3 then nI k else nbI (drM f (s0, K, V, R) k).1 7))))] := hD
          have hw := hw.symm
          subst hw
          refine va_iast hx hb hK hP hD hS 1 2 rfl rfl (vp_in_nI (by omega) (by omega)) d_M_draws_73 (fun H locs hP hD hS => ?_)
          rw [nI_clamp (by omega)] at hP hD
          have hP : va_P (dC, dI) classes [(iv, .inl (dv, 86, .inl (upd ((drM f (s0, K, V, R) k).2.2.1) (f + k) (nbI (if k < 3 then (drM f (s0, K, V, R) k).1 else nbX (drM f (s0, K, V, R) k).1 7) 100)))), (ir, .inl (dr, 86, .inl (upd ((drM f (s0, K, V, R) k).2.2.2) (f + k) (rfI (shf (upd ((drM f (s0, K, V, R) k).2.1) (f + k) (if k < 3 then nI k else nbI (drM f (s0, K, V, R) k).1 7)) f) k (if k < 3 then nI k else nbI (drM f (s0, K, V, R) k).1 7) (nbX (if k < 3 then (drM f (s0, K, V, R) k).1 else nbX (drM f (s0, K, V, R) k).1 7) 100))))), (jm, .inr (3, [.int th, .long sd, .long (rfX (shf (upd ((drM f (s0, K, V, R) k).2.1) (f + k) (if k < 3 then nI k else nbI (drM f (s0, K, V, R) k).1 7)) f) k (if k < 3 then nI k else nbI (drM f (s0, K, V, R) k).1 7) (nbX (if k < 3 then (drM f (s0, K, V, R) k).1 else nbX (drM f (s0, K, V, R) k).1 7) 100)), .int (nI n), .ref ik, .ref iv, .ref ir, .ref il, .ref iy, .ref ig])), (ik, .inl (dk, 86, .inl (upd ((drM f (s0, K, V, R) k).2.1) (f + k) (if k < 3 then nI k else nbI (drM f (s0, K, V, R) k).1 7))))] H := hP
          have hD : va_D A [(iv, .inl (dv, 86, .inl (upd ((drM f (s0, K, V, R) k).2.2.1) (f + k) (nbI (if k < 3 then (drM f (s0, K, V, R) k).1 else nbX (drM f (s0, K, V, R) k).1 7) 100)))), (ir, .inl (dr, 86, .inl (upd ((drM f (s0, K, V, R) k).2.2.2) (f + k) (rfI (shf (upd ((drM f (s0, K, V, R) k).2.1) (f + k) (if k < 3 then nI k else nbI (drM f (s0, K, V, R) k).1 7)) f) k (if k < 3 then nI k else nbI (drM f (s0, K, V, R) k).1 7) (nbX (if k < 3 then (drM f (s0, K, V, R) k).1 else nbX (drM f (s0, K, V, R) k).1 7) 100))))), (jm, .inr (3, [.int th, .long sd, .long (rfX (shf (upd ((drM f (s0, K, V, R) k).2.1) (f + k) (if k < 3 then nI k else nbI (drM f (s0, K, V, R) k).1 7)) f) k (if k < 3 then nI k else nbI (drM f (s0, K, V, R) k).1 7) (nbX (if k < 3 then (drM f (s0, K, V, R) k).1 else nbX (drM f (s0, K, V, R) k).1 7) 100)), .int (nI n), .ref ik, .ref iv, .ref ir, .ref il, .ref iy, .ref ig])), (ik, .inl (dk, 86, .inl (upd ((drM f (s0, K, V, R) k).2.1) (f + k) (if k < 3 then nI k else nbI (drM f (s0, K, V, R) k).1 7))))] := hD
          refine lv_iinc (v := nI (k + 1)) (lv' := [(5, .int (nI (k + 1))), (6, .int (nI (f + k))), (0, .ref jm), (1, .long s0), (3, .int (nI f)), (4, .int (nI z))]) hx hb d_M_draws_74 hl (k := 5) rfl (nI_1 _) (by decide) rfl (fun ls hl => ?_)
          refine lv_goto (tgt := 8) hx hb d_M_draws_77 (by decide) ?_
          exact ih_8 (k + 1) (by omega) (by first | assumption | omega) _ _ (hP.sub (ws' := [(jm, .inr (3, [.int th, .long sd, .long ((drM f (s0, K, V, R) (k + 1)).1), .int (nI n), .ref ik, .ref iv, .ref ir, .ref il, .ref iy, .ref ig])), (ik, .inl (dk, 86, .inl ((drM f (s0, K, V, R) (k + 1)).2.1))), (iv, .inl (dv, 86, .inl ((drM f (s0, K, V, R) (k + 1)).2.2.1))), (ir, .inl (dr, 86, .inl ((drM f (s0, K, V, R) (k + 1)).2.2.2)))]) [2, 3, 0, 1] rfl) (hD.sub (ws' := [(jm, .inr (3, [.int th, .long sd, .long ((drM f (s0, K, V, R) (k + 1)).1), .int (nI n), .ref ik, .ref iv, .ref ir, .ref il, .ref iy, .ref ig])), (ik, .inl (dk, 86, .inl ((drM f (s0, K, V, R) (k + 1)).2.1))), (iv, .inl (dv, 86, .inl ((drM f (s0, K, V, R) (k + 1)).2.2.1))), (ir, .inl (dr, 86, .inl ((drM f (s0, K, V, R) (k + 1)).2.2.2)))]) [2, 3, 0, 1] (by decide) rfl) hS ls (lv_sub (l' := [(0, .ref jm), (1, .long s0), (3, .int (nI f)), (4, .int (nI z)), (5, .int (nI (k + 1)))]) hl [2, 3, 4, 5, 0] rfl)
  exact lp_8 ((z + 3 - 0) + 1) 0 (by omega) (by first | assumption | omega) _ _ (hP.sub (ws' := [(jm, .inr (3, [.int th, .long sd, .long ((drM f (s0, K, V, R) 0).1), .int (nI n), .ref ik, .ref iv, .ref ir, .ref il, .ref iy, .ref ig])), (ik, .inl (dk, 86, .inl ((drM f (s0, K, V, R) 0).2.1))), (iv, .inl (dv, 86, .inl ((drM f (s0, K, V, R) 0).2.2.1))), (ir, .inl (dr, 86, .inl ((drM f (s0, K, V, R) 0).2.2.2)))]) [0, 1, 2, 3] rfl) (hD.sub (ws' := [(jm, .inr (3, [.int th, .long sd, .long ((drM f (s0, K, V, R) 0).1), .int (nI n), .ref ik, .ref iv, .ref ir, .ref il, .ref iy, .ref ig])), (ik, .inl (dk, 86, .inl ((drM f (s0, K, V, R) 0).2.1))), (iv, .inl (dv, 86, .inl ((drM f (s0, K, V, R) 0).2.2.1))), (ir, .inl (dr, 86, .inl ((drM f (s0, K, V, R) 0).2.2.2)))]) [0, 1, 2, 3] (by decide) rfl) hS ls (lv_sub (l' := [(0, .ref jm), (1, .long s0), (3, .int (nI f)), (4, .int (nI z)), (5, .int (nI 0))]) hl [1, 2, 3, 4, 0] rfl)
set_option maxHeartbeats 4000000 in
set_option maxRecDepth 100000 in
/-- reference: all -/
theorem c_M_all (l : Launch) (dC : Nat → ClassId) (dI : Nat → Nat → Nat) (jm ik iv ir il iy ig : Nat) (n : Nat) (th : Int32) (sd tp : Int64) (dl : ClassId) (L : Nat → Bool) (hn : n ≤ 43) (sz : Nat) : Met l y_M_all w_M_all ({ frames := 0, cells := 0, slots := 0, locals := 0 }) (wr_P dC dI [.ref jm] [(jm, .inr (3, [.int th, .long sd, .long tp, .int (nI n), .ref ik, .ref iv, .ref ir, .ref il, .ref iy, .ref ig])), (il, .inl (dl, 43, .inl (bF L)))] [(dl, .boolean)] sz) (va_Qv (fun (_ : Unit) => True) (fun (u : Unit) => wr_B dC dI (va_A [(jm, .inr (3, [.int th, .long sd, .long tp, .int (nI n), .ref ik, .ref iv, .ref ir, .ref il, .ref iy, .ref ig])), (il, .inl (dl, 43, .inl (bF L)))] sz) [(jm, .inr (3, [.int th, .long sd, .long tp, .int (nI n), .ref ik, .ref iv, .ref ir, .ref il, .ref iy, .ref ig])), (il, .inl (dl, 43, .inl (bF (alF n 43 L))))] [(dl, .boolean)]) (va_A [(jm, .inr (3, [.int th, .long sd, .long tp, .int (nI n), .ref ik, .ref iv, .ref ir, .ref il, .ref iy, .ref ig])), (il, .inl (dl, 43, .inl (bF L)))] sz)) 0 0 (va_A [(jm, .inr (3, [.int th, .long sd, .long tp, .int (nI n), .ref ik, .ref iv, .ref ir, .ref il, .ref iy, .ref ig])), (il, .inl (dl, 43, .inl (bF L)))] sz) := by
  refine Met.ofW (cc := b_M_all) (maxL := 2) (ret := (Option.none : Option Jvm.ClassFile.FieldType)) (by decide) rfl ?_
  intro p e s m args below meth c s₁ B0 hml hv0
  obtain ⟨rfl, hsz, hP, hK, hD0, hN⟩ := hv0
  have hx := B0.exec
  have hb := B0.bytes
  have hr := B0.returns
  have hts := atoms_spec (ws := w_M_all) B0.pre
  have hown : s.vm.findClass R_M = some m.cls := findClass_of_methodNamed B0.named
  have hlocks := B0.notSynchronized
  subst hsz
  have hD := hD0.self (sz := s.heap.size)
  generalize hAe : va_A [(jm, .inr (3, [.int th, .long sd, .long tp, .int (nI n), .ref ik, .ref iv, .ref ir, .ref il, .ref iy, .ref ig])), (il, .inl (dl, 43, .inl (bF L)))] s.heap.size = A at hD ⊢
  have hA : ∀ q : Nat, s.heap.size ≤ q → A q := fun q h => by rw [← hAe]; exact Or.inr h
  have hS : va_S A s.heap s.heap [] := va_S.rf
  have hP : va_P (dC, dI) classes [(jm, .inr (3, [.int th, .long sd, .long tp, .int (nI n), .ref ik, .ref iv, .ref ir, .ref il, .ref iy, .ref ig])), (il, .inl (dl, 43, .inl (bF L)))] s.heap := hP
  have hl := lv_entry ([.ref jm]) (n := 2) (Nat.le_of_ble_eq_true rfl)
  rw [lg_entry_eq]
  generalize (lg_sl ([.ref jm]) ++ List.replicate (2 - (lg_sl ([.ref jm])).length) Slot.unset).toArray = ls at hl ⊢
  have hl : lv_has ls 2 [(0, .ref jm)] := hl
  refine lv_iconst (v := nI 0) hx hb d_M_all_0 (by decide +kernel) ?_
  refine lv_istore_n (lv' := [(1, .int (nI 0)), (0, .ref jm)]) hx hb d_M_all_1 rfl hl (by decide) rfl (fun ls hl => ?_)
  rw [show (bF L) = (bF (alF n 0 L)) from (congrArg bF (alF_0 n L).symm)] at hP hD
  have lp_2 : ∀ (k9_2 : Nat), ∀ (i : Nat), 43 - i < k9_2 → (i ≤ 43) → ∀ (H : Heap) (locs : List Loc), va_P (dC, dI) classes [(jm, .inr (3, [.int th, .long sd, .long tp, .int (nI n), .ref ik, .ref iv, .ref ir, .ref il, .ref iy, .ref ig])), (il, .inl (dl, 43, .inl (bF (alF n i L))))] H → va_D A [(jm, .inr (3, [.int th, .long sd, .long tp, .int (nI n), .ref ik, .ref iv, .ref ir, .ref il, .ref iy, .ref ig])), (il, .inl (dl, 43, .inl (bF (alF n i L))))] → va_S A s.heap H locs → ∀ (ls : Array Slot), lv_has ls 2 [(0, .ref jm), (1, .int (nI i))] → W p l e (headSpec w_M_all ({ frames := 0, cells := 0, slots := 0, locals := 0 })).room s m ([.ref jm]).toArray below meth c H locs 0 0 (MQ below (va_Qv (fun (_ : Unit) => True) (fun (u : Unit) => wr_B dC dI (A) [(jm, .inr (3, [.int th, .long sd, .long tp, .int (nI n), .ref ik, .ref iv, .ref ir, .ref il, .ref iy, .ref ig])), (il, .inl (dl, 43, .inl (bF (alF n 43 L))))] [(dl, .boolean)]) (A)) ([.ref jm]).toArray s 0 0 A) (F0 m 2 ls []) := by
    intro k9_2
    induction k9_2 with
    | zero =>
      intro i hk9
      exact absurd hk9 (Nat.not_lt_zero _)
    | succ k9_2 ih_2 =>
      intro i hk9_2 hi H locs hP hD hS ls hl
      refine lv_iload_n hx hb d_M_all_2 rfl (lv_at hl 1 rfl) ?_
      refine lv_bipush (v := nI 43) hx hb d_M_all_3 (by decide +kernel) ?_
      refine lv_icmp_ge (tgt := 33) hx hb d_M_all_5 (by decide) (fun c_5 => ?_) (fun c_5 => ?_)
      · skip
        have c_5 := (nI_leI (by omega) (by omega)).mp c_5
        rw [show i = 43 by omega] at hP hD
        have hP9 := hP.sub (ws' := [(jm, .inr (3, [.int th, .long sd, .long tp, .int (nI n), .ref ik, .ref iv, .ref ir, .ref il, .ref iy, .ref ig])), (il, .inl (dl, 43, .inl (bF (alF n 43 L))))]) [0, 1] rfl
        have hD9 := hD.sub (ws' := [(jm, .inr (3, [.int th, .long sd, .long tp, .int (nI n), .ref ik, .ref iv, .ref ir, .ref il, .ref iy, .ref ig])), (il, .inl (dl, 43, .inl (bF (alF n 43 L))))]) [0, 1] (by decide) rfl
        have hK9 := hK.sub (tys' := [(dl, .boolean)]) [0] rfl
        exact W.vret hx hb hr (fun t ht hW => ⟨⟨(), rfl, trivial, by rw [ht]; exact hP9, va_K.moved hW.alike hK9, hD9⟩, hS.F ht⟩) hS.2.2 d_M_all_33
      · skip
        have c_5 := (not_congr (nI_leI (by omega) (by omega))).mp c_5
        refine lv_aload_n hx hb d_M_all_8 rfl (lv_at hl 0 rfl) ?_
        refine va_get (D := (dC, dI)) (ci := 3) (v := .ref il) (C := R_M) (T := F_M) (N := 10) hx hb hts (lay_M _) hown hK hP 0 rfl rfl 7 (by decide) (hts _ (List.mem_cons_of_mem _ m_343)) (fun _ h9 => h9) rfl d_M_all_9 ?_
        refine lv_iload_n hx hb d_M_all_12 rfl (lv_at hl 1 rfl) ?_
        refine lv_iload_n hx hb d_M_all_13 rfl (lv_at hl 1 rfl) ?_
        refine lv_aload_n hx hb d_M_all_14 rfl (lv_at hl 0 rfl) ?_
        refine va_get (D := (dC, dI)) (ci := 3) (v := .int (nI n)) (C := R_M) (T := F_M) (N := 10) hx hb hts (lay_M _) hown hK hP 0 rfl rfl 3 (by decide) (hts _ (List.mem_cons_of_mem _ m_339)) (fun _ h9 => h9) rfl d_M_all_15 ?_
        refine lv_icmp_ge (tgt := 25) hx hb d_M_all_18 (by decide) (fun c_18 => ?_) (fun c_18 => ?_)
        · skip
          have c_18 := (nI_leI (by omega) (by omega)).mp c_18
          refine lv_iconst (v := nI 0) hx hb d_M_all_25 (by decide +kernel) ?_
          refine lv_topi (fun w_1 ew_1 => ?_)
          have ew_1 : (bI (decide (i < n))) = w_1 := (ew_1.trans (by rw [decide_eq_false (by omega)]; rfl)).symm
          subst ew_1
          refine va_zast hx hb hK hP hD hS 1 0 rfl rfl (vp_in_nI (by omega) (by omega)) d_M_all_26 (fun H locs hP hD hS => ?_)
          rw [nI_clamp (by omega)] at hP hD
          rw [bI_vp] at hP hD
          have hP : va_P (dC, dI) classes [(jm, .inr (3, [.int th, .long sd, .long tp, .int (nI n), .ref ik, .ref iv, .ref ir, .ref il, .ref iy, .ref ig])), (il, .inl (dl, 43, .inl (upd (bF (alF n i L)) i (bI (decide (i < n))))))] H := hP
          have hD : va_D A [(jm, .inr (3, [.int th, .long sd, .long tp, .int (nI n), .ref ik, .ref iv, .ref ir, .ref il, .ref iy, .ref ig])), (il, .inl (dl, 43, .inl (upd (bF (alF n i L)) i (bI (decide (i < n))))))] := hD
          rw [show (upd (bF (alF n i L)) i (bI (decide (i < n)))) = (bF (alF n (i + 1) L)) from ((bF_up _ _ _).trans (congrArg bF (alF_s n i L rfl)))] at hP hD
          refine lv_iinc (v := nI (i + 1)) (lv' := [(1, .int (nI (i + 1))), (0, .ref jm)]) hx hb d_M_all_27 hl (k := 1) rfl (nI_1 _) (by decide) rfl (fun ls hl => ?_)
          refine lv_goto (tgt := 2) hx hb d_M_all_30 (by decide) ?_
          exact ih_2 (i + 1) (by omega) (by first | assumption | omega) _ _ (hP.sub (ws' := [(jm, .inr (3, [.int th, .long sd, .long tp, .int (nI n), .ref ik, .ref iv, .ref ir, .ref il, .ref iy, .ref ig])), (il, .inl (dl, 43, .inl (bF (alF n (i + 1) L))))]) [0, 1] rfl) (hD.sub (ws' := [(jm, .inr (3, [.int th, .long sd, .long tp, .int (nI n), .ref ik, .ref iv, .ref ir, .ref il, .ref iy, .ref ig])), (il, .inl (dl, 43, .inl (bF (alF n (i + 1) L))))]) [0, 1] (by decide) rfl) hS ls (lv_sub (l' := [(0, .ref jm), (1, .int (nI (i + 1)))]) hl [1, 0] rfl)
        · skip
          have c_18 := (not_congr (nI_leI (by omega) (by omega))).mp c_18
          refine lv_iconst (v := nI 1) hx hb d_M_all_21 (by decide +kernel) ?_
          refine lv_topi (fun w_2 ew_2 => ?_)
          have ew_2 : (bI (decide (i < n))) = w_2 := (ew_2.trans (by rw [decide_eq_true (by omega)]; rfl)).symm
          subst ew_2
          refine lv_goto (tgt := 26) hx hb d_M_all_22 (by decide) ?_
          refine va_zast hx hb hK hP hD hS 1 0 rfl rfl (vp_in_nI (by omega) (by omega)) d_M_all_26 (fun H locs hP hD hS => ?_)
          rw [nI_clamp (by omega)] at hP hD
          rw [bI_vp] at hP hD
          have hP : va_P (dC, dI) classes [(jm, .inr (3, [.int th, .long sd, .long tp, .int (nI n), .ref ik, .ref iv, .ref ir, .ref il, .ref iy, .ref ig])), (il, .inl (dl, 43, .inl (upd (bF (alF n i L)) i (bI (decide (i < n))))))] H := hP
          have hD : va_D A [(jm, .inr (3, [.int th, .long sd, .long tp, .int (nI n), .ref ik, .ref iv, .ref ir, .ref il, .ref iy, .ref ig])), (il, .inl (dl, 43, .inl (upd (bF (alF n i L)) i (bI (decide (i < n))))))] := hD
          rw [show (upd (bF (alF n i L)) i (bI (decide (i < n)))) = (bF (alF n (i + 1) L)) from ((bF_up _ _ _).trans (congrArg bF (alF_s n i L rfl)))] at hP hD
          refine lv_iinc (v := nI (i + 1)) (lv' := [(1, .int (nI (i + 1))), (0, .ref jm)]) hx hb d_M_all_27 hl (k := 1) rfl (nI_1 _) (by decide) rfl (fun ls hl => ?_)
          refine lv_goto (tgt := 2) hx hb d_M_all_30 (by decide) ?_
          exact ih_2 (i + 1) (by omega) (by first | assumption | omega) _ _ (hP.sub (ws' := [(jm, .inr (3, [.int th, .long sd, .long tp, .int (nI n), .ref ik, .ref iv, .ref ir, .ref il, .ref iy, .ref ig])), (il, .inl (dl, 43, .inl (bF (alF n (i + 1) L))))]) [0, 1] rfl) (hD.sub (ws' := [(jm, .inr (3, [.int th, .long sd, .long tp, .int (nI n), .ref ik, .ref iv, .ref ir, .ref il, .ref iy, .ref ig])), (il, .inl (dl, 43, .inl (bF (alF n (i + 1) L))))]) [0, 1] (by decide) rfl) hS ls (lv_sub (l' := [(0, .ref jm), (1, .int (nI (i + 1)))]) hl [1, 0] rfl)
  exact lp_2 ((43 - 0) + 1) 0 (by omega) (by first | assumption | omega) _ _ (hP.sub (ws' := [(jm, .inr (3, [.int th, .long sd, .long tp, .int (nI n), .ref ik, .ref iv, .ref ir, .ref il, .ref iy, .ref ig])), (il, .inl (dl, 43, .inl (bF (alF n 0 L))))]) [0, 1] rfl) (hD.sub (ws' := [(jm, .inr (3, [.int th, .long sd, .long tp, .int (nI n), .ref ik, .ref iv, .ref ir, .ref il, .ref iy, .ref ig])), (il, .inl (dl, 43, .inl (bF (alF n 0 L))))]) [0, 1] (by decide) rfl) hS ls (lv_sub (l' := [(0, .ref jm), (1, .int (nI 0))]) hl [1, 0] rfl)
set_option maxHeartbeats 4000000 in
set_option maxRecDepth 100000 in
/-- reference: none -/
theorem c_M_none (l : Launch) (dC : Nat → ClassId) (dI : Nat → Nat → Nat) (jm ik iv ir il iy ig : Nat) (n : Nat) (th : Int32) (sd tp : Int64) (dg : ClassId) (G : Nat → Bool)  (sz : Nat) : Met l y_M_none w_M_none ({ frames := 0, cells := 0, slots := 0, locals := 0 }) (wr_P dC dI [.ref jm] [(jm, .inr (3, [.int th, .long sd, .long tp, .int (nI n), .ref ik, .ref iv, .ref ir, .ref il, .ref iy, .ref ig])), (ig, .inl (dg, 43, .inl (bF G)))] [(dg, .boolean)] sz) (va_Qv (fun (_ : Unit) => True) (fun (u : Unit) => wr_B dC dI (va_A [(jm, .inr (3, [.int th, .long sd, .long tp, .int (nI n), .ref ik, .ref iv, .ref ir, .ref il, .ref iy, .ref ig])), (ig, .inl (dg, 43, .inl (bF G)))] sz) [(jm, .inr (3, [.int th, .long sd, .long tp, .int (nI n), .ref ik, .ref iv, .ref ir, .ref il, .ref iy, .ref ig])), (ig, .inl (dg, 43, .inl (bF fF)))] [(dg, .boolean)]) (va_A [(jm, .inr (3, [.int th, .long sd, .long tp, .int (nI n), .ref ik, .ref iv, .ref ir, .ref il, .ref iy, .ref ig])), (ig, .inl (dg, 43, .inl (bF G)))] sz)) 0 0 (va_A [(jm, .inr (3, [.int th, .long sd, .long tp, .int (nI n), .ref ik, .ref iv, .ref ir, .ref il, .ref iy, .ref ig])), (ig, .inl (dg, 43, .inl (bF G)))] sz) := by
  refine Met.ofW (cc := b_M_none) (maxL := 2) (ret := (Option.none : Option Jvm.ClassFile.FieldType)) (by decide) rfl ?_
  intro p e s m args below meth c s₁ B0 hml hv0
  obtain ⟨rfl, hsz, hP, hK, hD0, hN⟩ := hv0
  have hx := B0.exec
  have hb := B0.bytes
  have hr := B0.returns
  have hts := atoms_spec (ws := w_M_none) B0.pre
  have hown : s.vm.findClass R_M = some m.cls := findClass_of_methodNamed B0.named
  have hlocks := B0.notSynchronized
  subst hsz
  have hD := hD0.self (sz := s.heap.size)
  generalize hAe : va_A [(jm, .inr (3, [.int th, .long sd, .long tp, .int (nI n), .ref ik, .ref iv, .ref ir, .ref il, .ref iy, .ref ig])), (ig, .inl (dg, 43, .inl (bF G)))] s.heap.size = A at hD ⊢
  have hA : ∀ q : Nat, s.heap.size ≤ q → A q := fun q h => by rw [← hAe]; exact Or.inr h
  have hS : va_S A s.heap s.heap [] := va_S.rf
  have hP : va_P (dC, dI) classes [(jm, .inr (3, [.int th, .long sd, .long tp, .int (nI n), .ref ik, .ref iv, .ref ir, .ref il, .ref iy, .ref ig])), (ig, .inl (dg, 43, .inl (bF G)))] s.heap := hP
  have hl := lv_entry ([.ref jm]) (n := 2) (Nat.le_of_ble_eq_true rfl)
  rw [lg_entry_eq]
  generalize (lg_sl ([.ref jm]) ++ List.replicate (2 - (lg_sl ([.ref jm])).length) Slot.unset).toArray = ls at hl ⊢
  have hl : lv_has ls 2 [(0, .ref jm)] := hl
  refine lv_iconst (v := nI 0) hx hb d_M_none_0 (by decide +kernel) ?_
  refine lv_istore_n (lv' := [(1, .int (nI 0)), (0, .ref jm)]) hx hb d_M_none_1 rfl hl (by decide) rfl (fun ls hl => ?_)
  rw [show (bF G) = (bF (nzF 0 G)) from (congrArg bF (nzF_0 G).symm)] at hP hD
  have lp_2 : ∀ (k9_2 : Nat), ∀ (i : Nat), 43 - i < k9_2 → (i ≤ 43) → ∀ (H : Heap) (locs : List Loc), va_P (dC, dI) classes [(jm, .inr (3, [.int th, .long sd, .long tp, .int (nI n), .ref ik, .ref iv, .ref ir, .ref il, .ref iy, .ref ig])), (ig, .inl (dg, 43, .inl (bF (nzF i G))))] H → va_D A [(jm, .inr (3, [.int th, .long sd, .long tp, .int (nI n), .ref ik, .ref iv, .ref ir, .ref il, .ref iy, .ref ig])), (ig, .inl (dg, 43, .inl (bF (nzF i G))))] → va_S A s.heap H locs → ∀ (ls : Array Slot), lv_has ls 2 [(0, .ref jm), (1, .int (nI i))] → W p l e (headSpec w_M_none ({ frames := 0, cells := 0, slots := 0, locals := 0 })).room s m ([.ref jm]).toArray below meth c H locs 0 0 (MQ below (va_Qv (fun (_ : Unit) => True) (fun (u : Unit) => wr_B dC dI (A) [(jm, .inr (3, [.int th, .long sd, .long tp, .int (nI n), .ref ik, .ref iv, .ref ir, .ref il, .ref iy, .ref ig])), (ig, .inl (dg, 43, .inl (bF fF)))] [(dg, .boolean)]) (A)) ([.ref jm]).toArray s 0 0 A) (F0 m 2 ls []) := by
    intro k9_2
    induction k9_2 with
    | zero =>
      intro i hk9
      exact absurd hk9 (Nat.not_lt_zero _)
    | succ k9_2 ih_2 =>
      intro i hk9_2 hi H locs hP hD hS ls hl
      refine lv_iload_n hx hb d_M_none_2 rfl (lv_at hl 1 rfl) ?_
      refine lv_bipush (v := nI 43) hx hb d_M_none_3 (by decide +kernel) ?_
      refine lv_icmp_ge (tgt := 21) hx hb d_M_none_5 (by decide) (fun c_5 => ?_) (fun c_5 => ?_)
      · skip
        have c_5 := (nI_leI (by omega) (by omega)).mp c_5
        rw [show i = 43 by omega] at hP hD
        have hP := ar_P hP 1 (g := bF fF) rfl (fun j hj => by unfold bF nzF fF; rw [if_pos hj])
        have hD := ar_D hD 1 (e' := .inl (dg, 43, .inl (bF fF))) rfl
        have hP : va_P (dC, dI) classes [(jm, .inr (3, [.int th, .long sd, .long tp, .int (nI n), .ref ik, .ref iv, .ref ir, .ref il, .ref iy, .ref ig])), (ig, .inl (dg, 43, .inl (bF fF)))] H := hP
        have hD : va_D A [(jm, .inr (3, [.int th, .long sd, .long tp, .int (nI n), .ref ik, .ref iv, .ref ir, .ref il, .ref iy, .ref ig])), (ig, .inl (dg, 43, .inl (bF fF)))] := hD
        have hP9 := hP.sub (ws' := [(jm, .inr (3, [.int th, .long sd, .long tp, .int (nI n), .ref ik, .ref iv, .ref ir, .ref il, .ref iy, .ref ig])), (ig, .inl (dg, 43, .inl (bF fF)))]) [0, 1] rfl
        have hD9 := hD.sub (ws' := [(jm, .inr (3, [.int th, .long sd, .long tp, .int (nI n), .ref ik, .ref iv, .ref ir, .ref il, .ref iy, .ref ig])), (ig, .inl (dg, 43, .inl (bF fF)))]) [0, 1] (by decide) rfl
        have hK9 := hK.sub (tys' := [(dg, .boolean)]) [0] rfl
        exact W.vret hx hb hr (fun t ht hW => ⟨⟨(), rfl, trivial, by rw [ht]; exact hP9, va_K.moved hW.alike hK9, hD9⟩, hS.F ht⟩) hS.2.2 d_M_none_21
      · skip
        have c_5 := (not_congr (nI_leI (by omega) (by omega))).mp c_5
        refine lv_aload_n hx hb d_M_none_8 rfl (lv_at hl 0 rfl) ?_
        refine va_get (D := (dC, dI)) (ci := 3) (v := .ref ig) (C := R_M) (T := F_M) (N := 10) hx hb hts (lay_M _) hown hK hP 0 rfl rfl 9 (by decide) (hts _ (List.mem_cons_of_mem _ m_345)) (fun _ h9 => h9) rfl d_M_none_9 ?_
        refine lv_iload_n hx hb d_M_none_12 rfl (lv_at hl 1 rfl) ?_
        refine lv_iconst (v := nI 0) hx hb d_M_none_13 (by decide +kernel) ?_
        refine lv_topi (fun w_1 ew_1 => ?_)
        have ew_1 : (bI false) = w_1 := (ew_1.trans (rfl)).symm
        subst ew_1
        refine va_zast hx hb hK hP hD hS 1 0 rfl rfl (vp_in_nI (by omega) (by omega)) d_M_none_14 (fun H locs hP hD hS => ?_)
        rw [nI_clamp (by omega)] at hP hD
        rw [bI_vp] at hP hD
        have hP : va_P (dC, dI) classes [(jm, .inr (3, [.int th, .long sd, .long tp, .int (nI n), .ref ik, .ref iv, .ref ir, .ref il, .ref iy, .ref ig])), (ig, .inl (dg, 43, .inl (upd (bF (nzF i G)) i (bI false))))] H := hP
        have hD : va_D A [(jm, .inr (3, [.int th, .long sd, .long tp, .int (nI n), .ref ik, .ref iv, .ref ir, .ref il, .ref iy, .ref ig])), (ig, .inl (dg, 43, .inl (upd (bF (nzF i G)) i (bI false))))] := hD
        rw [show (upd (bF (nzF i G)) i (bI false)) = (bF (nzF (i + 1) G)) from ((bF_up _ _ _).trans (congrArg bF (nzF_s i G)))] at hP hD
        refine lv_iinc (v := nI (i + 1)) (lv' := [(1, .int (nI (i + 1))), (0, .ref jm)]) hx hb d_M_none_15 hl (k := 1) rfl (nI_1 _) (by decide) rfl (fun ls hl => ?_)
        refine lv_goto (tgt := 2) hx hb d_M_none_18 (by decide) ?_
        exact ih_2 (i + 1) (by omega) (by first | assumption | omega) _ _ (hP.sub (ws' := [(jm, .inr (3, [.int th, .long sd, .long tp, .int (nI n), .ref ik, .ref iv, .ref ir, .ref il, .ref iy, .ref ig])), (ig, .inl (dg, 43, .inl (bF (nzF (i + 1) G))))]) [0, 1] rfl) (hD.sub (ws' := [(jm, .inr (3, [.int th, .long sd, .long tp, .int (nI n), .ref ik, .ref iv, .ref ir, .ref il, .ref iy, .ref ig])), (ig, .inl (dg, 43, .inl (bF (nzF (i + 1) G))))]) [0, 1] (by decide) rfl) hS ls (lv_sub (l' := [(0, .ref jm), (1, .int (nI (i + 1)))]) hl [1, 0] rfl)
  exact lp_2 ((43 - 0) + 1) 0 (by omega) (by first | assumption | omega) _ _ (hP.sub (ws' := [(jm, .inr (3, [.int th, .long sd, .long tp, .int (nI n), .ref ik, .ref iv, .ref ir, .ref il, .ref iy, .ref ig])), (ig, .inl (dg, 43, .inl (bF (nzF 0 G))))]) [0, 1] rfl) (hD.sub (ws' := [(jm, .inr (3, [.int th, .long sd, .long tp, .int (nI n), .ref ik, .ref iv, .ref ir, .ref il, .ref iy, .ref ig])), (ig, .inl (dg, 43, .inl (bF (nzF 0 G))))]) [0, 1] (by decide) rfl) hS ls (lv_sub (l' := [(0, .ref jm), (1, .int (nI 0))]) hl [1, 0] rfl)
set_option maxHeartbeats 4000000 in
set_option maxRecDepth 100000 in
/-- reference: leaves -/
theorem c_M_leaves (l : Launch) (dC : Nat → ClassId) (dI : Nat → Nat → Nat) (jm ik iv ir il iy ig : Nat) (n : Nat) (th : Int32) (sd tp : Int64) (dl dg : ClassId) (L G : Nat → Bool) (hn : n ≤ 43) (sz : Nat) : Met l y_M_leaves w_M_leaves ({ frames := 0, cells := 0, slots := 0, locals := 0 }) (wr_P dC dI [.ref jm] [(jm, .inr (3, [.int th, .long sd, .long tp, .int (nI n), .ref ik, .ref iv, .ref ir, .ref il, .ref iy, .ref ig])), (il, .inl (dl, 43, .inl (bF L))), (ig, .inl (dg, 43, .inl (bF G)))] [(dl, .boolean), (dg, .boolean)] sz) (va_Qv (fun (_ : Unit) => True) (fun (u : Unit) => wr_B dC dI (va_A [(jm, .inr (3, [.int th, .long sd, .long tp, .int (nI n), .ref ik, .ref iv, .ref ir, .ref il, .ref iy, .ref ig])), (il, .inl (dl, 43, .inl (bF L))), (ig, .inl (dg, 43, .inl (bF G)))] sz) [(jm, .inr (3, [.int th, .long sd, .long tp, .int (nI n), .ref ik, .ref iv, .ref ir, .ref il, .ref iy, .ref ig])), (il, .inl (dl, 43, .inl (bF (lvF n L G)))), (ig, .inl (dg, 43, .inl (bF G)))] [(dl, .boolean), (dg, .boolean)]) (va_A [(jm, .inr (3, [.int th, .long sd, .long tp, .int (nI n), .ref ik, .ref iv, .ref ir, .ref il, .ref iy, .ref ig])), (il, .inl (dl, 43, .inl (bF L))), (ig, .inl (dg, 43, .inl (bF G)))] sz)) 0 0 (va_A [(jm, .inr (3, [.int th, .long sd, .long tp, .int (nI n), .ref ik, .ref iv, .ref ir, .ref il, .ref iy, .ref ig])), (il, .inl (dl, 43, .inl (bF L))), (ig, .inl (dg, 43, .inl (bF G)))] sz) := by
  refine Met.ofW (cc := b_M_leaves) (maxL := 2) (ret := (Option.none : Option Jvm.ClassFile.FieldType)) (by decide) rfl ?_
  intro p e s m args below meth c s₁ B0 hml hv0
  obtain ⟨rfl, hsz, hP, hK, hD0, hN⟩ := hv0
  have hx := B0.exec
  have hb := B0.bytes
  have hr := B0.returns
  have hts := atoms_spec (ws := w_M_leaves) B0.pre
  have hown : s.vm.findClass R_M = some m.cls := findClass_of_methodNamed B0.named
  have hlocks := B0.notSynchronized
  subst hsz
  have hD := hD0.self (sz := s.heap.size)
  generalize hAe : va_A [(jm, .inr (3, [.int th, .long sd, .long tp, .int (nI n), .ref ik, .ref iv, .ref ir, .ref il, .ref iy, .ref ig])), (il, .inl (dl, 43, .inl (bF L))), (ig, .inl (dg, 43, .inl (bF G)))] s.heap.size = A at hD ⊢
  have hA : ∀ q : Nat, s.heap.size ≤ q → A q := fun q h => by rw [← hAe]; exact Or.inr h
  have hS : va_S A s.heap s.heap [] := va_S.rf
  have hP : va_P (dC, dI) classes [(jm, .inr (3, [.int th, .long sd, .long tp, .int (nI n), .ref ik, .ref iv, .ref ir, .ref il, .ref iy, .ref ig])), (il, .inl (dl, 43, .inl (bF L))), (ig, .inl (dg, 43, .inl (bF G)))] s.heap := hP
  have hl := lv_entry ([.ref jm]) (n := 2) (Nat.le_of_ble_eq_true rfl)
  rw [lg_entry_eq]
  generalize (lg_sl ([.ref jm]) ++ List.replicate (2 - (lg_sl ([.ref jm])).length) Slot.unset).toArray = ls at hl ⊢
  have hl : lv_has ls 2 [(0, .ref jm)] := hl
  refine lv_iconst (v := nI 0) hx hb d_M_leaves_0 (by decide +kernel) ?_
  refine lv_istore_n (lv' := [(1, .int (nI 0)), (0, .ref jm)]) hx hb d_M_leaves_1 rfl hl (by decide) rfl (fun ls hl => ?_)
  rw [show (bF L) = (bF (lvF 0 L G)) from (congrArg bF (lvF_0 L G).symm)] at hP hD
  have lp_2 : ∀ (k9_2 : Nat), ∀ (i : Nat), n - i < k9_2 → (i ≤ n) → ∀ (H : Heap) (locs : List Loc), va_P (dC, dI) classes [(jm, .inr (3, [.int th, .long sd, .long tp, .int (nI n), .ref ik, .ref iv, .ref ir, .ref il, .ref iy, .ref ig])), (il, .inl (dl, 43, .inl (bF (lvF i L G)))), (ig, .inl (dg, 43, .inl (bF G)))] H → va_D A [(jm, .inr (3, [.int th, .long sd, .long tp, .int (nI n), .ref ik, .ref iv, .ref ir, .ref il, .ref iy, .ref ig])), (il, .inl (dl, 43, .inl (bF (lvF i L G)))), (ig, .inl (dg, 43, .inl (bF G)))] → va_S A s.heap H locs → ∀ (ls : Array Slot), lv_has ls 2 [(0, .ref jm), (1, .int (nI i))] → W p l e (headSpec w_M_leaves ({ frames := 0, cells := 0, slots := 0, locals := 0 })).room s m ([.ref jm]).toArray below meth c H locs 0 0 (MQ below (va_Qv (fun (_ : Unit) => True) (fun (u : Unit) => wr_B dC dI (A) [(jm, .inr (3, [.int th, .long sd, .long tp, .int (nI n), .ref ik, .ref iv, .ref ir, .ref il, .ref iy, .ref ig])), (il, .inl (dl, 43, .inl (bF (lvF n L G)))), (ig, .inl (dg, 43, .inl (bF G)))] [(dl, .boolean), (dg, .boolean)]) (A)) ([.ref jm]).toArray s 0 0 A) (F0 m 2 ls []) := by
    intro k9_2
    induction k9_2 with
    | zero =>
      intro i hk9
      exact absurd hk9 (Nat.not_lt_zero _)
    | succ k9_2 ih_2 =>
      intro i hk9_2 hi H locs hP hD hS ls hl
      refine lv_iload_n hx hb d_M_leaves_2 rfl (lv_at hl 1 rfl) ?_
      refine lv_aload_n hx hb d_M_leaves_3 rfl (lv_at hl 0 rfl) ?_
      refine va_get (D := (dC, dI)) (ci := 3) (v := .int (nI n)) (C := R_M) (T := F_M) (N := 10) hx hb hts (lay_M _) hown hK hP 0 rfl rfl 3 (by decide) (hts _ (List.mem_cons_of_mem _ m_339)) (fun _ h9 => h9) rfl d_M_leaves_4 ?_
      refine lv_icmp_ge (tgt := 45) hx hb d_M_leaves_7 (by decide) (fun c_7 => ?_) (fun c_7 => ?_)
      · skip
        have c_7 := (nI_leI (by omega) (by omega)).mp c_7
        rw [show i = n by omega] at hP hD
        have hP9 := hP.sub (ws' := [(jm, .inr (3, [.int th, .long sd, .long tp, .int (nI n), .ref ik, .ref iv, .ref ir, .ref il, .ref iy, .ref ig])), (il, .inl (dl, 43, .inl (bF (lvF n L G)))), (ig, .inl (dg, 43, .inl (bF G)))]) [0, 1, 2] rfl
        have hD9 := hD.sub (ws' := [(jm, .inr (3, [.int th, .long sd, .long tp, .int (nI n), .ref ik, .ref iv, .ref ir, .ref il, .ref iy, .ref ig])), (il, .inl (dl, 43, .inl (bF (lvF n L G)))), (ig, .inl (dg, 43, .inl (bF G)))]) [0, 1, 2] (by decide) rfl
        have hK9 := hK.sub (tys' := [(dl, .boolean), (dg, .boolean)]) [0, 1] rfl
        exact W.vret hx hb hr (fun t ht hW => ⟨⟨(), rfl, trivial, by rw [ht]; exact hP9, va_K.moved hW.alike hK9, hD9⟩, hS.F ht⟩) hS.2.2 d_M_leaves_45
      · skip
        have c_7 := (not_congr (nI_leI (by omega) (by omega))).mp c_7
        refine lv_aload_n hx hb d_M_leaves_10 rfl (lv_at hl 0 rfl) ?_
        refine va_get (D := (dC, dI)) (ci := 3) (v := .ref il) (C := R_M) (T := F_M) (N := 10) hx hb hts (lay_M _) hown hK hP 0 rfl rfl 7 (by decide) (hts _ (List.mem_cons_of_mem _ m_343)) (fun _ h9 => h9) rfl d_M_leaves_11 ?_
        refine lv_iload_n hx hb d_M_leaves_14 rfl (lv_at hl 1 rfl) ?_
        refine lv_aload_n hx hb d_M_leaves_15 rfl (lv_at hl 0 rfl) ?_
        refine va_get (D := (dC, dI)) (ci := 3) (v := .ref il) (C := R_M) (T := F_M) (N := 10) hx hb hts (lay_M _) hown hK hP 0 rfl rfl 7 (by decide) (hts _ (List.mem_cons_of_mem _ m_343)) (fun _ h9 => h9) rfl d_M_leaves_16 ?_
        refine lv_iload_n hx hb d_M_leaves_19 rfl (lv_at hl 1 rfl) ?_
        refine va_zald hx hb hK hP 1 0 rfl rfl (vp_in_nI (by omega) (by omega)) d_M_leaves_20 ?_
        refine lv_topi (fun w_1 ew_1 => ?_)
        have ew_1 : (bI (L i)) = w_1 := (ew_1.trans (by rw [nI_clamp (by omega)]; show bI (lvF i L G i) = _; rw [lvF_at])).symm
        subst ew_1
        refine lv_if_eq (tgt := 37) hx hb d_M_leaves_21 (by decide) (fun c_21 => ?_) (fun c_21 => ?_)
        · skip
          have c_21 := bI_f c_21
          refine lv_iconst (v := nI 0) hx hb d_M_leaves_37 (by decide +kernel) ?_
          refine lv_topi (fun w_2 ew_2 => ?_)
          have ew_2 : (bI (L i && !G i)) = w_2 := (ew_2.trans (by first | (rw [c_21]; rfl) | (rw [c_30, c_21]; rfl))).symm
          subst ew_2
          refine va_zast hx hb hK hP hD hS 1 0 rfl rfl (vp_in_nI (by omega) (by omega)) d_M_leaves_38 (fun H locs hP hD hS => ?_)
          rw [nI_clamp (by omega)] at hP hD
          rw [bI_vp] at hP hD
          have hP : va_P (dC, dI) classes [(jm, .inr (3, [.int th, .long sd, .long tp, .int (nI n), .ref ik, .ref iv, .ref ir, .ref il, .ref iy, .ref ig])), (il, .inl (dl, 43, .inl (upd (bF (lvF i L G)) i (bI (L i && !G i))))), (ig, .inl (dg, 43, .inl (bF G)))] H := hP
          have hD : va_D A [(jm, .inr (3, [.int th, .long sd, .long tp, .int (nI n), .ref ik, .ref iv, .ref ir, .ref il, .ref iy, .ref ig])), (il, .inl (dl, 43, .inl (upd (bF (lvF i L G)) i (bI (L i && !G i))))), (ig, .inl (dg, 43, .inl (bF G)))] := hD
          rw [show (upd (bF (lvF i L G)) i (bI (L i && !G i))) = (bF (lvF (i + 1) L G)) from ((bF_up _ _ _).trans (congrArg bF (lvF_s i L G rfl)))] at hP hD
          refine lv_iinc (v := nI (i + 1)) (lv' := [(1, .int (nI (i + 1))), (0, .ref jm)]) hx hb d_M_leaves_39 hl (k := 1) rfl (nI_1 _) (by decide) rfl (fun ls hl => ?_)
          refine lv_goto (tgt := 2) hx hb d_M_leaves_42 (by decide) ?_
          exact ih_2 (i + 1) (by omega) (by first | assumption | omega) _ _ (hP.sub (ws' := [(jm, .inr (3, [.int th, .long sd, .long tp, .int (nI n), .ref ik, .ref iv, .ref ir, .ref il, .ref iy, .ref ig])), (il, .inl (dl, 43, .inl (bF (lvF (i + 1) L G)))), (ig, .inl (dg, 43, .inl (bF G)))]) [0, 1, 2] rfl) (hD.sub (ws' := [(jm, .inr (3, [.int th, .long sd, .long tp, .int (nI n), .ref ik, .ref iv, .ref ir, .ref il, .ref iy, .ref ig])), (il, .inl (dl, 43, .inl (bF (lvF (i + 1) L G)))), (ig, .inl (dg, 43, .inl (bF G)))]) [0, 1, 2] (by decide) rfl) hS ls (lv_sub (l' := [(0, .ref jm), (1, .int (nI (i + 1)))]) hl [1, 0] rfl)
        · skip
          have c_21 := bI_t c_21
          refine lv_aload_n hx hb d_M_leaves_24 rfl (lv_at hl 0 rfl) ?_
          refine va_get (D := (dC, dI)) (ci := 3) (v := .ref ig) (C := R_M) (T := F_M) (N := 10) hx hb hts (lay_M _) hown hK hP 0 rfl rfl 9 (by decide) (hts _ (List.mem_cons_of_mem _ m_345)) (fun _ h9 => h9) rfl d_M_leaves_25 ?_
          refine lv_iload_n hx hb d_M_leaves_28 rfl (lv_at hl 1 rfl) ?_
          refine va_zald hx hb hK hP 2 1 rfl rfl (vp_in_nI (by omega) (by omega)) d_M_leaves_29 ?_
          refine lv_topi (fun w_3 ew_3 => ?_)
          have ew_3 : (bI (G i)) = w_3 := (ew_3.trans (by rw [nI_clamp (by omega)]; rfl)).symm
          subst ew_3
          refine lv_if_ne (tgt := 37) hx hb d_M_leaves_30 (by decide) (fun c_30 => ?_) (fun c_30 => ?_)
          · skip
            have c_30 := bI_t c_30
            refine lv_iconst (v := nI 0) hx hb d_M_leaves_37 (by decide +kernel) ?_
            refine lv_topi (fun w_4 ew_4 => ?_)
            have ew_4 : (bI (L i && !G i)) = w_4 := (ew_4.trans (by first | (rw [c_21]; rfl) | (rw [c_30, c_21]; rfl))).symm
            subst ew_4
            refine va_zast hx hb hK hP hD hS 1 0 rfl rfl (vp_in_nI (by omega) (by omega)) d_M_leaves_38 (fun H locs hP hD hS => ?_)
            rw [nI_clamp (by omega)] at hP hD
            rw [bI_vp] at hP hD
            have hP : va_P (dC, dI) classes [(jm, .inr (3, [.int th, .long sd, .long tp, .int (nI n), .ref ik, .ref iv, .ref ir, .ref il, .ref iy, .ref ig])), (il, .inl (dl, 43, .inl (upd (bF (lvF i L G)) i (bI (L i && !G i))))), (ig, .inl (dg, 43, .inl (bF G)))] H := hP
            have hD : va_D A [(jm, .inr (3, [.int th, .long sd, .long tp, .int (nI n), .ref ik, .ref iv, .ref ir, .ref il, .ref iy, .ref ig])), (il, .inl (dl, 43, .inl (upd (bF (lvF i L G)) i (bI (L i && !G i))))), (ig, .inl (dg, 43, .inl (bF G)))] := hD
            rw [show (upd (bF (lvF i L G)) i (bI (L i && !G i))) = (bF (lvF (i + 1) L G)) from ((bF_up _ _ _).trans (congrArg bF (lvF_s i L G rfl)))] at hP hD
            refine lv_iinc (v := nI (i + 1)) (lv' := [(1, .int (nI (i + 1))), (0, .ref jm)]) hx hb d_M_leaves_39 hl (k := 1) rfl (nI_1 _) (by decide) rfl (fun ls hl => ?_)
            refine lv_goto (tgt := 2) hx hb d_M_leaves_42 (by decide) ?_
            exact ih_2 (i + 1) (by omega) (by first | assumption | omega) _ _ (hP.sub (ws' := [(jm, .inr (3, [.int th, .long sd, .long tp, .int (nI n), .ref ik, .ref iv, .ref ir, .ref il, .ref iy, .ref ig])), (il, .inl (dl, 43, .inl (bF (lvF (i + 1) L G)))), (ig, .inl (dg, 43, .inl (bF G)))]) [0, 1, 2] rfl) (hD.sub (ws' := [(jm, .inr (3, [.int th, .long sd, .long tp, .int (nI n), .ref ik, .ref iv, .ref ir, .ref il, .ref iy, .ref ig])), (il, .inl (dl, 43, .inl (bF (lvF (i + 1) L G)))), (ig, .inl (dg, 43, .inl (bF G)))]) [0, 1, 2] (by decide) rfl) hS ls (lv_sub (l' := [(0, .ref jm), (1, .int (nI (i + 1)))]) hl [1, 0] rfl)
          · skip
            have c_30 := bI_f c_30
            refine lv_iconst (v := nI 1) hx hb d_M_leaves_33 (by decide +kernel) ?_
            refine lv_topi (fun w_5 ew_5 => ?_)
            have ew_5 : (bI (L i && !G i)) = w_5 := (ew_5.trans (by rw [c_21, c_30]; rfl)).symm
            subst ew_5
            refine lv_goto (tgt := 38) hx hb d_M_leaves_34 (by decide) ?_
            refine va_zast hx hb hK hP hD hS 1 0 rfl rfl (vp_in_nI (by omega) (by omega)) d_M_leaves_38 (fun H locs hP hD hS => ?_)
            rw [nI_clamp (by omega)] at hP hD
            rw [bI_vp] at hP hD
            have hP : va_P (dC, dI) classes [(jm, .inr (3, [.int th, .long sd, .long tp, .int (nI n), .ref ik, .ref iv, .ref ir, .ref il, .ref iy, .ref ig])), (il, .inl (dl, 43, .inl (upd (bF (lvF i L G)) i (bI (L i && !G i))))), (ig, .inl (dg, 43, .inl (bF G)))] H := hP
            have hD : va_D A [(jm, .inr (3, [.int th, .long sd, .long tp, .int (nI n), .ref ik, .ref iv, .ref ir, .ref il, .ref iy, .ref ig])), (il, .inl (dl, 43, .inl (upd (bF (lvF i L G)) i (bI (L i && !G i))))), (ig, .inl (dg, 43, .inl (bF G)))] := hD
            rw [show (upd (bF (lvF i L G)) i (bI (L i && !G i))) = (bF (lvF (i + 1) L G)) from ((bF_up _ _ _).trans (congrArg bF (lvF_s i L G rfl)))] at hP hD
            refine lv_iinc (v := nI (i + 1)) (lv' := [(1, .int (nI (i + 1))), (0, .ref jm)]) hx hb d_M_leaves_39 hl (k := 1) rfl (nI_1 _) (by decide) rfl (fun ls hl => ?_)
            refine lv_goto (tgt := 2) hx hb d_M_leaves_42 (by decide) ?_
            exact ih_2 (i + 1) (by omega) (by first | assumption | omega) _ _ (hP.sub (ws' := [(jm, .inr (3, [.int th, .long sd, .long tp, .int (nI n), .ref ik, .ref iv, .ref ir, .ref il, .ref iy, .ref ig])), (il, .inl (dl, 43, .inl (bF (lvF (i + 1) L G)))), (ig, .inl (dg, 43, .inl (bF G)))]) [0, 1, 2] rfl) (hD.sub (ws' := [(jm, .inr (3, [.int th, .long sd, .long tp, .int (nI n), .ref ik, .ref iv, .ref ir, .ref il, .ref iy, .ref ig])), (il, .inl (dl, 43, .inl (bF (lvF (i + 1) L G)))), (ig, .inl (dg, 43, .inl (bF G)))]) [0, 1, 2] (by decide) rfl) hS ls (lv_sub (l' := [(0, .ref jm), (1, .int (nI (i + 1)))]) hl [1, 0] rfl)
  exact lp_2 ((n - 0) + 1) 0 (by omega) (by first | assumption | omega) _ _ (hP.sub (ws' := [(jm, .inr (3, [.int th, .long sd, .long tp, .int (nI n), .ref ik, .ref iv, .ref ir, .ref il, .ref iy, .ref ig])), (il, .inl (dl, 43, .inl (bF (lvF 0 L G)))), (ig, .inl (dg, 43, .inl (bF G)))]) [0, 1, 2] rfl) (hD.sub (ws' := [(jm, .inr (3, [.int th, .long sd, .long tp, .int (nI n), .ref ik, .ref iv, .ref ir, .ref il, .ref iy, .ref ig])), (il, .inl (dl, 43, .inl (bF (lvF 0 L G)))), (ig, .inl (dg, 43, .inl (bF G)))]) [0, 1, 2] (by decide) rfl) hS ls (lv_sub (l' := [(0, .ref jm), (1, .int (nI 0))]) hl [1, 0] rfl)
