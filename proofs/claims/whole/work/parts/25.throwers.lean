theorem m_159 : (Jvm.Cond.code ({ cls := "PortDrawer", name := "isSize", desc := "(I)Z" } : Jvm.MethodName) prog_1_method_23_code (1 : Nat) (Option.some Jvm.ClassFile.FieldType.boolean)) ∈ tblG := m_t (i := 159) rfl rfl
theorem m_157 : (Jvm.Cond.methodLink "PortDrawer" (37 : Nat) ({ cls := "PortDrawer", name := "isSize", desc := "(I)Z" } : Jvm.MethodName)) ∈ tblG := m_t (i := 157) rfl rfl
theorem m_158 : (Jvm.Cond.static ({ cls := "PortDrawer", name := "isSize", desc := "(I)Z" } : Jvm.MethodName)) ∈ tblG := m_t (i := 158) rfl rfl
theorem m_230 : (Jvm.Cond.code ({ cls := "PortDrawer$Harbour", name := "fill", desc := "(JI)V" } : Jvm.MethodName) prog_2_method_2_code (5 : Nat) (Option.none : Option Jvm.ClassFile.FieldType)) ∈ tblG := m_t (i := 230) rfl rfl
theorem ms_9 : Cond.selects "PortDrawer$Harbour" ⟨"PortDrawer$Harbour", "fill", "(JI)V"⟩ ⟨"PortDrawer$Harbour", "fill", "(JI)V"⟩ ∈ tblG := m_s (i := 9) rfl rfl
theorem m_229 : (Jvm.Cond.instanceMethod ({ cls := "PortDrawer$Harbour", name := "fill", desc := "(JI)V" } : Jvm.MethodName)) ∈ tblG := m_t (i := 229) rfl rfl
theorem m_259 : (Jvm.Cond.code ({ cls := "PortDrawer", name := "noteGoingWith", desc := "()V" } : Jvm.MethodName) prog_1_method_20_code (3 : Nat) (Option.none : Option Jvm.ClassFile.FieldType)) ∈ tblG := m_t (i := 259) rfl rfl
theorem ms_15 : Cond.selects "PortDrawer" ⟨"PortDrawer", "noteGoingWith", "()V"⟩ ⟨"PortDrawer", "noteGoingWith", "()V"⟩ ∈ tblG := m_s (i := 15) rfl rfl
theorem m_256 : (Jvm.Cond.methodLink "PortDrawer" (52 : Nat) ({ cls := "PortDrawer", name := "noteGoingWith", desc := "()V" } : Jvm.MethodName)) ∈ tblG := m_t (i := 256) rfl rfl
theorem m_258 : (Jvm.Cond.instanceMethod ({ cls := "PortDrawer", name := "noteGoingWith", desc := "()V" } : Jvm.MethodName)) ∈ tblG := m_t (i := 258) rfl rfl
theorem m_267 : (Jvm.Cond.code ({ cls := "PortDrawer", name := "notePartsOfBits", desc := "()V" } : Jvm.MethodName) prog_1_method_21_code (3 : Nat) (Option.none : Option Jvm.ClassFile.FieldType)) ∈ tblG := m_t (i := 267) rfl rfl
theorem ms_17 : Cond.selects "PortDrawer" ⟨"PortDrawer", "notePartsOfBits", "()V"⟩ ⟨"PortDrawer", "notePartsOfBits", "()V"⟩ ∈ tblG := m_s (i := 17) rfl rfl
theorem m_264 : (Jvm.Cond.methodLink "PortDrawer" (55 : Nat) ({ cls := "PortDrawer", name := "notePartsOfBits", desc := "()V" } : Jvm.MethodName)) ∈ tblG := m_t (i := 264) rfl rfl
theorem m_266 : (Jvm.Cond.instanceMethod ({ cls := "PortDrawer", name := "notePartsOfBits", desc := "()V" } : Jvm.MethodName)) ∈ tblG := m_t (i := 266) rfl rfl
theorem m_160 : (Jvm.Cond.classLink "PortDrawer" (41 : Nat) "java/lang/IllegalArgumentException") ∈ tblG := m_t (i := 160) rfl rfl
theorem m_8 : (Jvm.Cond.initialized "java/lang/IllegalArgumentException") ∈ tblG := m_t (i := 8) rfl rfl
theorem m_285 : (Jvm.Cond.classLink "PortDrawer" (69 : Nat) "java/lang/IndexOutOfBoundsException") ∈ tblG := m_t (i := 285) rfl rfl
theorem m_9 : (Jvm.Cond.initialized "java/lang/IndexOutOfBoundsException") ∈ tblG := m_t (i := 9) rfl rfl
theorem m_329 : (Jvm.Cond.code ({ cls := "PortDrawer$Harbour", name := "isLike", desc := "(LPortDrawer$Harbour;)Z" } : Jvm.MethodName) prog_2_method_10_code (3 : Nat) (Option.some Jvm.ClassFile.FieldType.boolean)) ∈ tblG := m_t (i := 329) rfl rfl
theorem ms_20 : Cond.selects "PortDrawer$Harbour" ⟨"PortDrawer$Harbour", "isLike", "(LPortDrawer$Harbour;)Z"⟩ ⟨"PortDrawer$Harbour", "isLike", "(LPortDrawer$Harbour;)Z"⟩ ∈ tblG := m_s (i := 20) rfl rfl
theorem m_328 : (Jvm.Cond.instanceMethod ({ cls := "PortDrawer$Harbour", name := "isLike", desc := "(LPortDrawer$Harbour;)Z" } : Jvm.MethodName)) ∈ tblG := m_t (i := 328) rfl rfl
theorem d_D_draw_0 : decode b_D_draw 0 = .ok (.iload_n 1, 1) := by decide +kernel
theorem d_D_draw_1 : decode b_D_draw 1 = .ok (.invokestatic 37, 3) := by decide +kernel
theorem d_D_draw_4 : decode b_D_draw 4 = .ok (.ifCond .ne 13, 3) := by decide +kernel
theorem d_D_draw_7 : decode b_D_draw 7 = .ok (.new 41, 3) := by decide +kernel
theorem d_D_draw_10 : decode b_D_draw 10 = .ok (.dup, 1) := by decide +kernel
theorem d_D_draw_11 : decode b_D_draw 11 = .ok (.ldc 43, 2) := by decide +kernel
theorem d_D_draw_13 : decode b_D_draw 13 = .ok (.invokespecial 45, 3) := by decide +kernel
theorem d_D_draw_16 : decode b_D_draw 16 = .ok (.athrow, 1) := by decide +kernel
theorem d_D_draw_17 : decode b_D_draw 17 = .ok (.aload_n 0, 1) := by decide +kernel
theorem d_D_draw_18 : decode b_D_draw 18 = .ok (.getfield 10, 3) := by decide +kernel
theorem d_D_draw_21 : decode b_D_draw 21 = .ok (.aload_n 0, 1) := by decide +kernel
theorem d_D_draw_22 : decode b_D_draw 22 = .ok (.getfield 34, 3) := by decide +kernel
theorem d_D_draw_25 : decode b_D_draw 25 = .ok (.iload_n 1, 1) := by decide +kernel
theorem d_D_draw_26 : decode b_D_draw 26 = .ok (.invokevirtual 48, 3) := by decide +kernel
theorem d_D_draw_29 : decode b_D_draw 29 = .ok (.aload_n 0, 1) := by decide +kernel
theorem d_D_draw_30 : decode b_D_draw 30 = .ok (.invokevirtual 52, 3) := by decide +kernel
theorem d_D_draw_33 : decode b_D_draw 33 = .ok (.aload_n 0, 1) := by decide +kernel
theorem d_D_draw_34 : decode b_D_draw 34 = .ok (.invokevirtual 55, 3) := by decide +kernel
theorem d_D_draw_37 : decode b_D_draw 37 = .ok (.aload_n 0, 1) := by decide +kernel
theorem d_D_draw_38 : decode b_D_draw 38 = .ok (.aload_n 0, 1) := by decide +kernel
theorem d_D_draw_39 : decode b_D_draw 39 = .ok (.invokevirtual 58, 3) := by decide +kernel
theorem d_D_draw_42 : decode b_D_draw 42 = .ok (.putfield 30, 3) := by decide +kernel
theorem d_D_draw_45 : decode b_D_draw 45 = .ok (.aload_n 0, 1) := by decide +kernel
theorem d_D_draw_46 : decode b_D_draw 46 = .ok (.getfield 10, 3) := by decide +kernel
theorem d_D_draw_49 : decode b_D_draw 49 = .ok (.getfield 62, 3) := by decide +kernel
theorem d_D_draw_52 : decode b_D_draw 52 = .ok (.ireturn, 1) := by decide +kernel
theorem d_D_part_0 : decode b_D_part 0 = .ok (.aload_n 0, 1) := by decide +kernel
theorem d_D_part_1 : decode b_D_part 1 = .ok (.getfield 10, 3) := by decide +kernel
theorem d_D_part_4 : decode b_D_part 4 = .ok (.iload_n 1, 1) := by decide +kernel
theorem d_D_part_5 : decode b_D_part 5 = .ok (.invokevirtual 66, 3) := by decide +kernel
theorem d_D_part_8 : decode b_D_part 8 = .ok (.ifCond .ne 13, 3) := by decide +kernel
theorem d_D_part_11 : decode b_D_part 11 = .ok (.new 69, 3) := by decide +kernel
theorem d_D_part_14 : decode b_D_part 14 = .ok (.dup, 1) := by decide +kernel
theorem d_D_part_15 : decode b_D_part 15 = .ok (.ldc 71, 2) := by decide +kernel
theorem d_D_part_17 : decode b_D_part 17 = .ok (.invokespecial 73, 3) := by decide +kernel
theorem d_D_part_20 : decode b_D_part 20 = .ok (.athrow, 1) := by decide +kernel
theorem d_D_part_21 : decode b_D_part 21 = .ok (.iload_n 2, 1) := by decide +kernel
theorem d_D_part_22 : decode b_D_part 22 = .ok (.tableswitch 99 0 4 #[34, 44, 62, 72, 82], 34) := by decide +kernel
theorem d_D_part_56 : decode b_D_part 56 = .ok (.aload_n 0, 1) := by decide +kernel
theorem d_D_part_57 : decode b_D_part 57 = .ok (.getfield 10, 3) := by decide +kernel
theorem d_D_part_60 : decode b_D_part 60 = .ok (.getfield 74, 3) := by decide +kernel
theorem d_D_part_63 : decode b_D_part 63 = .ok (.iload_n 1, 1) := by decide +kernel
theorem d_D_part_64 : decode b_D_part 64 = .ok (.iaload, 1) := by decide +kernel
theorem d_D_part_65 : decode b_D_part 65 = .ok (.ireturn, 1) := by decide +kernel
theorem d_D_part_66 : decode b_D_part 66 = .ok (.aload_n 0, 1) := by decide +kernel
theorem d_D_part_67 : decode b_D_part 67 = .ok (.getfield 10, 3) := by decide +kernel
theorem d_D_part_70 : decode b_D_part 70 = .ok (.aload_n 0, 1) := by decide +kernel
theorem d_D_part_71 : decode b_D_part 71 = .ok (.getfield 10, 3) := by decide +kernel
theorem d_D_part_74 : decode b_D_part 74 = .ok (.getfield 74, 3) := by decide +kernel
theorem d_D_part_77 : decode b_D_part 77 = .ok (.iload_n 1, 1) := by decide +kernel
theorem d_D_part_78 : decode b_D_part 78 = .ok (.iaload, 1) := by decide +kernel
theorem d_D_part_79 : decode b_D_part 79 = .ok (.iload_n 1, 1) := by decide +kernel
theorem d_D_part_80 : decode b_D_part 80 = .ok (.invokevirtual 78, 3) := by decide +kernel
theorem d_D_part_83 : decode b_D_part 83 = .ok (.ireturn, 1) := by decide +kernel
theorem d_D_part_84 : decode b_D_part 84 = .ok (.aload_n 0, 1) := by decide +kernel
theorem d_D_part_85 : decode b_D_part 85 = .ok (.getfield 10, 3) := by decide +kernel
theorem d_D_part_88 : decode b_D_part 88 = .ok (.getfield 82, 3) := by decide +kernel
theorem d_D_part_91 : decode b_D_part 91 = .ok (.iload_n 1, 1) := by decide +kernel
theorem d_D_part_92 : decode b_D_part 92 = .ok (.iaload, 1) := by decide +kernel
theorem d_D_part_93 : decode b_D_part 93 = .ok (.ireturn, 1) := by decide +kernel
theorem d_D_part_94 : decode b_D_part 94 = .ok (.aload_n 0, 1) := by decide +kernel
theorem d_D_part_95 : decode b_D_part 95 = .ok (.getfield 10, 3) := by decide +kernel
theorem d_D_part_98 : decode b_D_part 98 = .ok (.getfield 85, 3) := by decide +kernel
theorem d_D_part_101 : decode b_D_part 101 = .ok (.iload_n 1, 1) := by decide +kernel
theorem d_D_part_102 : decode b_D_part 102 = .ok (.iaload, 1) := by decide +kernel
theorem d_D_part_103 : decode b_D_part 103 = .ok (.ireturn, 1) := by decide +kernel
theorem d_D_part_104 : decode b_D_part 104 = .ok (.aload_n 0, 1) := by decide +kernel
theorem d_D_part_105 : decode b_D_part 105 = .ok (.getfield 30, 3) := by decide +kernel
theorem d_D_part_108 : decode b_D_part 108 = .ok (.iload_n 1, 1) := by decide +kernel
theorem d_D_part_109 : decode b_D_part 109 = .ok (.invokestatic 88, 3) := by decide +kernel
theorem d_D_part_112 : decode b_D_part 112 = .ok (.ifCond .eq 7, 3) := by decide +kernel
theorem d_D_part_115 : decode b_D_part 115 = .ok (.iconst 1, 1) := by decide +kernel
theorem d_D_part_116 : decode b_D_part 116 = .ok (.goto 4, 3) := by decide +kernel
theorem d_D_part_119 : decode b_D_part 119 = .ok (.iconst 0, 1) := by decide +kernel
theorem d_D_part_120 : decode b_D_part 120 = .ok (.ireturn, 1) := by decide +kernel
theorem d_D_part_121 : decode b_D_part 121 = .ok (.new 69, 3) := by decide +kernel
theorem d_D_part_124 : decode b_D_part 124 = .ok (.dup, 1) := by decide +kernel
theorem d_D_part_125 : decode b_D_part 125 = .ok (.ldc 92, 2) := by decide +kernel
theorem d_D_part_127 : decode b_D_part 127 = .ok (.invokespecial 73, 3) := by decide +kernel
theorem d_D_part_130 : decode b_D_part 130 = .ok (.athrow, 1) := by decide +kernel
theorem d_D_fits_0 : decode b_D_fits 0 = .ok (.aload_n 0, 1) := by decide +kernel
theorem d_D_fits_1 : decode b_D_fits 1 = .ok (.getfield 10, 3) := by decide +kernel
theorem d_D_fits_4 : decode b_D_fits 4 = .ok (.iload_n 1, 1) := by decide +kernel
theorem d_D_fits_5 : decode b_D_fits 5 = .ok (.invokevirtual 94, 3) := by decide +kernel
theorem d_D_fits_8 : decode b_D_fits 8 = .ok (.ifCond .ne 13, 3) := by decide +kernel
theorem d_D_fits_11 : decode b_D_fits 11 = .ok (.new 41, 3) := by decide +kernel
theorem d_D_fits_14 : decode b_D_fits 14 = .ok (.dup, 1) := by decide +kernel
theorem d_D_fits_15 : decode b_D_fits 15 = .ok (.ldc 97, 2) := by decide +kernel
theorem d_D_fits_17 : decode b_D_fits 17 = .ok (.invokespecial 45, 3) := by decide +kernel
theorem d_D_fits_20 : decode b_D_fits 20 = .ok (.athrow, 1) := by decide +kernel
theorem d_D_fits_21 : decode b_D_fits 21 = .ok (.aload_n 0, 1) := by decide +kernel
theorem d_D_fits_22 : decode b_D_fits 22 = .ok (.getfield 10, 3) := by decide +kernel
theorem d_D_fits_25 : decode b_D_fits 25 = .ok (.iload_n 1, 1) := by decide +kernel
theorem d_D_fits_26 : decode b_D_fits 26 = .ok (.invokevirtual 99, 3) := by decide +kernel
theorem d_D_fits_29 : decode b_D_fits 29 = .ok (.ireturn, 1) := by decide +kernel
theorem d_D_without_0 : decode b_D_without 0 = .ok (.aload_n 0, 1) := by decide +kernel
theorem d_D_without_1 : decode b_D_without 1 = .ok (.getfield 10, 3) := by decide +kernel
theorem d_D_without_4 : decode b_D_without 4 = .ok (.iload_n 1, 1) := by decide +kernel
theorem d_D_without_5 : decode b_D_without 5 = .ok (.invokevirtual 66, 3) := by decide +kernel
theorem d_D_without_8 : decode b_D_without 8 = .ok (.ifCond .eq 14, 3) := by decide +kernel
theorem d_D_without_11 : decode b_D_without 11 = .ok (.aload_n 0, 1) := by decide +kernel
theorem d_D_without_12 : decode b_D_without 12 = .ok (.getfield 30, 3) := by decide +kernel
theorem d_D_without_15 : decode b_D_without 15 = .ok (.iload_n 1, 1) := by decide +kernel
theorem d_D_without_16 : decode b_D_without 16 = .ok (.invokestatic 88, 3) := by decide +kernel
theorem d_D_without_19 : decode b_D_without 19 = .ok (.ifCond .ne 13, 3) := by decide +kernel
theorem d_D_without_22 : decode b_D_without 22 = .ok (.new 41, 3) := by decide +kernel
theorem d_D_without_25 : decode b_D_without 25 = .ok (.dup, 1) := by decide +kernel
theorem d_D_without_26 : decode b_D_without 26 = .ok (.ldc 123, 2) := by decide +kernel
theorem d_D_without_28 : decode b_D_without 28 = .ok (.invokespecial 45, 3) := by decide +kernel
theorem d_D_without_31 : decode b_D_without 31 = .ok (.athrow, 1) := by decide +kernel
theorem d_D_without_32 : decode b_D_without 32 = .ok (.aload_n 0, 1) := by decide +kernel
theorem d_D_without_33 : decode b_D_without 33 = .ok (.getfield 30, 3) := by decide +kernel
theorem d_D_without_36 : decode b_D_without 36 = .ok (.invokestatic 110, 3) := by decide +kernel
theorem d_D_without_39 : decode b_D_without 39 = .ok (.istore_n 2, 1) := by decide +kernel
theorem d_D_without_40 : decode b_D_without 40 = .ok (.aload_n 0, 1) := by decide +kernel
theorem d_D_without_41 : decode b_D_without 41 = .ok (.aload_n 0, 1) := by decide +kernel
theorem d_D_without_42 : decode b_D_without 42 = .ok (.iload_n 1, 1) := by decide +kernel
theorem d_D_without_43 : decode b_D_without 43 = .ok (.invokevirtual 119, 3) := by decide +kernel
theorem d_D_without_46 : decode b_D_without 46 = .ok (.putfield 30, 3) := by decide +kernel
theorem d_D_without_49 : decode b_D_without 49 = .ok (.iload_n 2, 1) := by decide +kernel
theorem d_D_without_50 : decode b_D_without 50 = .ok (.aload_n 0, 1) := by decide +kernel
theorem d_D_without_51 : decode b_D_without 51 = .ok (.getfield 30, 3) := by decide +kernel
theorem d_D_without_54 : decode b_D_without 54 = .ok (.invokestatic 110, 3) := by decide +kernel
theorem d_D_without_57 : decode b_D_without 57 = .ok (.isub, 1) := by decide +kernel
theorem d_D_without_58 : decode b_D_without 58 = .ok (.ireturn, 1) := by decide +kernel
theorem d_D_same_0 : decode b_D_same 0 = .ok (.iload_n 3, 1) := by decide +kernel
theorem d_D_same_1 : decode b_D_same 1 = .ok (.invokestatic 37, 3) := by decide +kernel
theorem d_D_same_4 : decode b_D_same 4 = .ok (.ifCond .ne 13, 3) := by decide +kernel
theorem d_D_same_7 : decode b_D_same 7 = .ok (.new 41, 3) := by decide +kernel
theorem d_D_same_10 : decode b_D_same 10 = .ok (.dup, 1) := by decide +kernel
theorem d_D_same_11 : decode b_D_same 11 = .ok (.ldc 43, 2) := by decide +kernel
theorem d_D_same_13 : decode b_D_same 13 = .ok (.invokespecial 45, 3) := by decide +kernel
theorem d_D_same_16 : decode b_D_same 16 = .ok (.athrow, 1) := by decide +kernel
theorem d_D_same_17 : decode b_D_same 17 = .ok (.aload_n 0, 1) := by decide +kernel
theorem d_D_same_18 : decode b_D_same 18 = .ok (.getfield 16, 3) := by decide +kernel
theorem d_D_same_21 : decode b_D_same 21 = .ok (.lload_n 1, 1) := by decide +kernel
theorem d_D_same_22 : decode b_D_same 22 = .ok (.iload_n 3, 1) := by decide +kernel
theorem d_D_same_23 : decode b_D_same 23 = .ok (.invokevirtual 48, 3) := by decide +kernel
theorem d_D_same_26 : decode b_D_same 26 = .ok (.aload_n 0, 1) := by decide +kernel
theorem d_D_same_27 : decode b_D_same 27 = .ok (.getfield 10, 3) := by decide +kernel
theorem d_D_same_30 : decode b_D_same 30 = .ok (.aload_n 0, 1) := by decide +kernel
theorem d_D_same_31 : decode b_D_same 31 = .ok (.getfield 16, 3) := by decide +kernel
theorem d_D_same_34 : decode b_D_same 34 = .ok (.invokevirtual 125, 3) := by decide +kernel
theorem d_D_same_37 : decode b_D_same 37 = .ok (.ireturn, 1) := by decide +kernel
set_option maxHeartbeats 4000000 in
set_option maxRecDepth 100000 in
/-- draw, of a size -/
theorem c_D_draw (l : Launch) (dC : Nat → ClassId) (dI : Nat → Nat → Nat) (jd jh jh2 jg jb jy : Nat) (sd w : Int64) (jt jk jv jr n : Nat) (ck cv cr cg cb : ClassId) (x : Int64) (K V R : Nat → Int32) (G B : Nat → Int64) (z : Nat) (hz : z ≤ 40) (sz : Nat) : Met l y_D_draw w_D_draw ({ frames := 5, cells := 0, slots := 0, locals := 113 }) (wr_P dC dI [.ref jd, .int (nI z)] [(jd, .inr (2, [.long sd, .ref jh, .ref jh2, .ref jg, .ref jb, .ref jy, .long w])), (jh, .inr (1, [.ref jt, .ref jk, .ref jv, .ref jr, .int (nI n)])), (jt, .inr (0, [.long x])), (jk, .inl (ck, 43, .inl K)), (jv, .inl (cv, 43, .inl V)), (jr, .inl (cr, 43, .inl R)), (jg, .inl (cg, 43, .inr (.inl G))), (jb, .inl (cb, 8, .inr (.inl B)))] [(ck, .int), (cv, .int), (cr, .int), (cg, .long), (cb, .long)] sz) (va_Qi (fun (r : Int32) (_ : Unit) => r = nI (z + 3)) (fun (u : Unit) => wr_B dC dI (va_A [(jd, .inr (2, [.long sd, .ref jh, .ref jh2, .ref jg, .ref jb, .ref jy, .long w])), (jh, .inr (1, [.ref jt, .ref jk, .ref jv, .ref jr, .int (nI n)])), (jt, .inr (0, [.long x])), (jk, .inl (ck, 43, .inl K)), (jv, .inl (cv, 43, .inl V)), (jr, .inl (cr, 43, .inl R)), (jg, .inl (cg, 43, .inr (.inl G))), (jb, .inl (cb, 8, .inr (.inl B)))] sz) [(jd, .inr (2, [.long sd, .ref jh, .ref jh2, .ref jg, .ref jb, .ref jy, .long (allW (z + 3))])), (jh, .inr (1, [.ref jt, .ref jk, .ref jv, .ref jr, .int (nI (z + 3))])), (jt, .inr (0, [.long ((flS sd K V R z).1)])), (jk, .inl (ck, 43, .inl ((flS sd K V R z).2.1))), (jv, .inl (cv, 43, .inl ((flS sd K V R z).2.2.1))), (jr, .inl (cr, 43, .inl ((flS sd K V R z).2.2.2))), (jg, .inl (cg, 43, .inr (.inl (gwG (z + 3) (flS sd K V R z).2.2.2 G)))), (jb, .inl (cb, 8, .inr (.inl (pbB (z + 3) (flS sd K V R z).2.1 (flS sd K V R z).2.2.1 (flS sd K V R z).2.2.2 B))))] [(ck, .int), (cv, .int), (cr, .int), (cg, .long), (cb, .long)]) (va_A [(jd, .inr (2, [.long sd, .ref jh, .ref jh2, .ref jg, .ref jb, .ref jy, .long w])), (jh, .inr (1, [.ref jt, .ref jk, .ref jv, .ref jr, .int (nI n)])), (jt, .inr (0, [.long x])), (jk, .inl (ck, 43, .inl K)), (jv, .inl (cv, 43, .inl V)), (jr, .inl (cr, 43, .inl R)), (jg, .inl (cg, 43, .inr (.inl G))), (jb, .inl (cb, 8, .inr (.inl B)))] sz)) 0 0 (va_A [(jd, .inr (2, [.long sd, .ref jh, .ref jh2, .ref jg, .ref jb, .ref jy, .long w])), (jh, .inr (1, [.ref jt, .ref jk, .ref jv, .ref jr, .int (nI n)])), (jt, .inr (0, [.long x])), (jk, .inl (ck, 43, .inl K)), (jv, .inl (cv, 43, .inl V)), (jr, .inl (cr, 43, .inl R)), (jg, .inl (cg, 43, .inr (.inl G))), (jb, .inl (cb, 8, .inr (.inl B)))] sz) := by
  refine Met.ofW (cc := b_D_draw) (maxL := 2) (ret := (Option.some Jvm.ClassFile.FieldType.int)) (by decide) rfl ?_
  intro p e s m args below meth c s₁ B0 hml hv0
  obtain ⟨rfl, hsz, hP, hK, hD0, hN⟩ := hv0
  have hx := B0.exec
  have hb := B0.bytes
  have hr := B0.returns
  have hts := atoms_spec (ws := w_D_draw) B0.pre
  have hown : s.vm.findClass R_D = some m.cls := findClass_of_methodNamed B0.named
  have hlocks := B0.notSynchronized
  subst hsz
  have hD := hD0.self (sz := s.heap.size)
  generalize hAe : va_A [(jd, .inr (2, [.long sd, .ref jh, .ref jh2, .ref jg, .ref jb, .ref jy, .long w])), (jh, .inr (1, [.ref jt, .ref jk, .ref jv, .ref jr, .int (nI n)])), (jt, .inr (0, [.long x])), (jk, .inl (ck, 43, .inl K)), (jv, .inl (cv, 43, .inl V)), (jr, .inl (cr, 43, .inl R)), (jg, .inl (cg, 43, .inr (.inl G))), (jb, .inl (cb, 8, .inr (.inl B)))] s.heap.size = A at hD ⊢
  have hA : ∀ q : Nat, s.heap.size ≤ q → A q := fun q h => by rw [← hAe]; exact Or.inr h
  have hS : va_S A s.heap s.heap [] := va_S.rf
  have hP : va_P (dC, dI) classes [(jd, .inr (2, [.long sd, .ref jh, .ref jh2, .ref jg, .ref jb, .ref jy, .long w])), (jh, .inr (1, [.ref jt, .ref jk, .ref jv, .ref jr, .int (nI n)])), (jt, .inr (0, [.long x])), (jk, .inl (ck, 43, .inl K)), (jv, .inl (cv, 43, .inl V)), (jr, .inl (cr, 43, .inl R)), (jg, .inl (cg, 43, .inr (.inl G))), (jb, .inl (cb, 8, .inr (.inl B)))] s.heap := hP
  have hl := lv_entry ([.ref jd, .int (nI z)]) (n := 2) (Nat.le_of_ble_eq_true rfl)
  rw [lg_entry_eq]
  generalize (lg_sl ([.ref jd, .int (nI z)]) ++ List.replicate (2 - (lg_sl ([.ref jd, .int (nI z)])).length) Slot.unset).toArray = ls at hl ⊢
  have hl : lv_has ls 2 [(0, .ref jd), (1, .int (nI z))] := hl
  refine lv_iload_n hx hb d_D_draw_0 rfl (lv_at hl 1 rfl) ?_
  have hPc := hP.sub (ws' := []) [] rfl
  have hKc := hK.sub (tys' := []) [] rfl
  refine vp_callSi (W.runS (As := [.int (nI z)]) (rest := []) ⟨hx, hb, hml, hown, hts⟩ (c_D_isSize l dC dI (nI z)) (va_cwS 1 hts (g_S big_w m_157 m_158 m_1 m_159) rfl rfl rfl (by decide +kernel) ⟨Nat.le_of_ble_eq_true rfl, Nat.le_of_ble_eq_true rfl⟩) (ro_S hPc hKc hN) rfl rfl hl.1 rfl (lv_room (Nat.le_of_ble_eq_true rfl)) d_D_draw_1 ⟨Nat.le_of_ble_eq_true rfl, Nat.le_of_ble_eq_true rfl⟩) (fun r_1 er_1 => ?_)
  have er_1 := er_1.symm
  subst er_1
  refine lv_if_ne (tgt := 17) hx hb d_D_draw_4 (by decide) (fun c_4 => ?_) (fun c_4 => ?_)
  · skip
    have c_4 := bI_t c_4
    refine lv_aload_n hx hb d_D_draw_17 rfl (lv_at hl 0 rfl) ?_
    refine va_get (D := (dC, dI)) (ci := 2) (v := .ref jh) (C := R_D) (T := F_D) (N := 7) hx hb hts (lay_D _) hown hK hP 0 rfl rfl 1 (by decide) (hts _ (List.mem_cons_of_mem _ m_57)) (fun _ h9 => h9) rfl d_D_draw_18 ?_
    refine lv_aload_n hx hb d_D_draw_21 rfl (lv_at hl 0 rfl) ?_
    refine va_get (D := (dC, dI)) (ci := 2) (v := .long sd) (C := R_D) (T := F_D) (N := 7) hx hb hts (lay_D _) hown hK hP 0 rfl rfl 0 (by decide) (hts _ (List.mem_cons_of_mem _ m_56)) (fun _ h9 => h9) rfl d_D_draw_22 ?_
    refine lv_iload_n hx hb d_D_draw_25 rfl (lv_at hl 1 rfl) ?_
    have hPc := hP.sub (ws' := [(jh, .inr (1, [.ref jt, .ref jk, .ref jv, .ref jr, .int (nI n)])), (jt, .inr (0, [.long x])), (jk, .inl (ck, 43, .inl K)), (jv, .inl (cv, 43, .inl V)), (jr, .inl (cr, 43, .inl R))]) [1, 2, 3, 4, 5] rfl
    have hKc := hK.sub (tys' := [(ck, .int), (cv, .int), (cr, .int)]) [0, 1, 2] rfl
    have hDc := hD.sub (ws' := [(jh, .inr (1, [.ref jt, .ref jk, .ref jv, .ref jr, .int (nI n)])), (jt, .inr (0, [.long x])), (jk, .inl (ck, 43, .inl K)), (jv, .inl (cv, 43, .inl V)), (jr, .inl (cr, 43, .inl R))]) [1, 2, 3, 4, 5] (by decide) rfl
    have hFc := va_free (wc := [(jh, .inr (1, [.ref jt, .ref jk, .ref jv, .ref jr, .int (nI n)])), (jt, .inr (0, [.long x])), (jk, .inl (ck, 43, .inl K)), (jv, .inl (cv, 43, .inl V)), (jr, .inl (cr, 43, .inl R))]) hD hS hA [1, 2, 3, 4, 5] rfl
    refine va_callv (va_runVN (As := [.long sd, .int (nI z)]) (rest := []) ⟨hx, hb, hml, hown, hts⟩ (c_H_fill l dC dI jh jt jk jv jr n ck cv cr x K V R sd z (by first | assumption | omega) _) ⟨va_cnB 2 hts (g_c big_w m_230) rfl rfl rfl (hN _ (by decide +kernel : (Jvm.Cond.methodLinkNest "PortDrawer" (48 : Nat) ({ cls := "PortDrawer$Harbour", name := "fill", desc := "(JI)V" } : Jvm.MethodName) "PortDrawer") ∈ NWl)) (hts _ (List.mem_cons_of_mem _ m_2)) (by decide +kernel) ⟨Nat.le_of_ble_eq_true rfl, Nat.le_of_ble_eq_true rfl⟩, (hts _ (List.mem_cons_of_mem _ m_229)), (hts _ (List.mem_cons_of_mem _ ms_9))⟩ (wr_V hPc hKc hDc hN (va_recv hKc hPc (ci := 1) (q0 := 0) rfl rfl)) rfl rfl hl.1 rfl (lv_room (Nat.le_of_ble_eq_true rfl)) d_D_draw_26 ⟨Nat.le_of_ble_eq_true rfl, Nat.le_of_ble_eq_true rfl⟩) hS (fun q _ h => hFc q h) hFc (fun u t H1 locs ht hvm hw hB hz1 hk1 hS => ?_)
    obtain ⟨hP1, hK1, hD1⟩ := hB
    rw [ht] at hP1
    obtain ⟨hP, hD⟩ := va_join (wr := [(jd, .inr (2, [.long sd, .ref jh, .ref jh2, .ref jg, .ref jb, .ref jy, .long w])), (jg, .inl (cg, 43, .inr (.inl G))), (jb, .inl (cb, 8, .inr (.inl B)))]) (w1 := [(jh, .inr (1, [.ref jt, .ref jk, .ref jv, .ref jr, .int (nI (z + 3))])), (jt, .inr (0, [.long ((flS sd K V R z).1)])), (jk, .inl (ck, 43, .inl ((flS sd K V R z).2.1))), (jv, .inl (cv, 43, .inl ((flS sd K V R z).2.2.1))), (jr, .inl (cr, 43, .inl ((flS sd K V R z).2.2.2)))]) hP hD [1, 2, 3, 4, 5] [0, 6, 7] rfl rfl (by decide) (by decide) hk1 hFc hP1 hD1
    generalize H1 = H at hP hS ⊢
    have hP : va_P (dC, dI) classes [(jd, .inr (2, [.long sd, .ref jh, .ref jh2, .ref jg, .ref jb, .ref jy, .long w])), (jg, .inl (cg, 43, .inr (.inl G))), (jb, .inl (cb, 8, .inr (.inl B))), (jh, .inr (1, [.ref jt, .ref jk, .ref jv, .ref jr, .int (nI (z + 3))])), (jt, .inr (0, [.long ((flS sd K V R z).1)])), (jk, .inl (ck, 43, .inl ((flS sd K V R z).2.1))), (jv, .inl (cv, 43, .inl ((flS sd K V R z).2.2.1))), (jr, .inl (cr, 43, .inl ((flS sd K V R z).2.2.2)))] H := hP
    have hD : va_D A [(jd, .inr (2, [.long sd, .ref jh, .ref jh2, .ref jg, .ref jb, .ref jy, .long w])), (jg, .inl (cg, 43, .inr (.inl G))), (jb, .inl (cb, 8, .inr (.inl B))), (jh, .inr (1, [.ref jt, .ref jk, .ref jv, .ref jr, .int (nI (z + 3))])), (jt, .inr (0, [.long ((flS sd K V R z).1)])), (jk, .inl (ck, 43, .inl ((flS sd K V R z).2.1))), (jv, .inl (cv, 43, .inl ((flS sd K V R z).2.2.1))), (jr, .inl (cr, 43, .inl ((flS sd K V R z).2.2.2)))] := hD
    refine lv_aload_n hx hb d_D_draw_29 rfl (lv_at hl 0 rfl) ?_
    have hPc := hP.sub (ws' := [(jd, .inr (2, [.long sd, .ref jh, .ref jh2, .ref jg, .ref jb, .ref jy, .long w])), (jh, .inr (1, [.ref jt, .ref jk, .ref jv, .ref jr, .int (nI (z + 3))])), (jr, .inl (cr, 43, .inl ((flS sd K V R z).2.2.2))), (jg, .inl (cg, 43, .inr (.inl G)))]) [0, 3, 7, 1] rfl
    have hKc := hK.sub (tys' := [(cr, .int), (cg, .long)]) [2, 3] rfl
    have hDc := hD.sub (ws' := [(jd, .inr (2, [.long sd, .ref jh, .ref jh2, .ref jg, .ref jb, .ref jy, .long w])), (jh, .inr (1, [.ref jt, .ref jk, .ref jv, .ref jr, .int (nI (z + 3))])), (jr, .inl (cr, 43, .inl ((flS sd K V R z).2.2.2))), (jg, .inl (cg, 43, .inr (.inl G)))]) [0, 3, 7, 1] (by decide) rfl
    have hFc := va_free (wc := [(jd, .inr (2, [.long sd, .ref jh, .ref jh2, .ref jg, .ref jb, .ref jy, .long w])), (jh, .inr (1, [.ref jt, .ref jk, .ref jv, .ref jr, .int (nI (z + 3))])), (jr, .inl (cr, 43, .inl ((flS sd K V R z).2.2.2))), (jg, .inl (cg, 43, .inr (.inl G)))]) hD hS hA [0, 3, 7, 1] rfl
    refine va_callv (va_runV (As := []) (rest := []) ⟨hx, hb, hml, hown, hts⟩ (c_D_noteGoingWith l dC dI jd jh jh2 jg jb jy sd w jt jk jv jr (z + 3) cr cg ((flS sd K V R z).2.2.2) G (by first | assumption | omega) _) (cwV 0 hts (g_V big_w m_256 m_258 ms_15 m_1 m_259) rfl rfl rfl (by decide +kernel) ⟨Nat.le_of_ble_eq_true rfl, Nat.le_of_ble_eq_true rfl⟩) (wr_V hPc hKc hDc hN (va_recv hKc hPc (ci := 2) (q0 := 0) rfl rfl)) rfl rfl hl.1 rfl (lv_room (Nat.le_of_ble_eq_true rfl)) d_D_draw_30 ⟨Nat.le_of_ble_eq_true rfl, Nat.le_of_ble_eq_true rfl⟩) hS (fun q _ h => hFc q h) hFc (fun u t H1 locs ht hvm hw hB hz1 hk1 hS => ?_)
    obtain ⟨hP1, hK1, hD1⟩ := hB
    rw [ht] at hP1
    obtain ⟨hP, hD⟩ := va_join (wr := [(jb, .inl (cb, 8, .inr (.inl B))), (jt, .inr (0, [.long ((flS sd K V R z).1)])), (jk, .inl (ck, 43, .inl ((flS sd K V R z).2.1))), (jv, .inl (cv, 43, .inl ((flS sd K V R z).2.2.1)))]) (w1 := [(jd, .inr (2, [.long sd, .ref jh, .ref jh2, .ref jg, .ref jb, .ref jy, .long w])), (jh, .inr (1, [.ref jt, .ref jk, .ref jv, .ref jr, .int (nI (z + 3))])), (jr, .inl (cr, 43, .inl ((flS sd K V R z).2.2.2))), (jg, .inl (cg, 43, .inr (.inl (gwG (z + 3) ((flS sd K V R z).2.2.2) G))))]) hP hD [0, 3, 7, 1] [2, 4, 5, 6] rfl rfl (by decide) (by decide) hk1 hFc hP1 hD1
    generalize H1 = H at hP hS ⊢
    have hP : va_P (dC, dI) classes [(jb, .inl (cb, 8, .inr (.inl B))), (jt, .inr (0, [.long ((flS sd K V R z).1)])), (jk, .inl (ck, 43, .inl ((flS sd K V R z).2.1))), (jv, .inl (cv, 43, .inl ((flS sd K V R z).2.2.1))), (jd, .inr (2, [.long sd, .ref jh, .ref jh2, .ref jg, .ref jb, .ref jy, .long w])), (jh, .inr (1, [.ref jt, .ref jk, .ref jv, .ref jr, .int (nI (z + 3))])), (jr, .inl (cr, 43, .inl ((flS sd K V R z).2.2.2))), (jg, .inl (cg, 43, .inr (.inl (gwG (z + 3) ((flS sd K V R z).2.2.2) G))))] H := hP
    have hD : va_D A [(jb, .inl (cb, 8, .inr (.inl B))), (jt, .inr (0, [.long ((flS sd K V R z).1)])), (jk, .inl (ck, 43, .inl ((flS sd K V R z).2.1))), (jv, .inl (cv, 43, .inl ((flS sd K V R z).2.2.1))), (jd, .inr (2, [.long sd, .ref jh, .ref jh2, .ref jg, .ref jb, .ref jy, .long w])), (jh, .inr (1, [.ref jt, .ref jk, .ref jv, .ref jr, .int (nI (z + 3))])), (jr, .inl (cr, 43, .inl ((flS sd K V R z).2.2.2))), (jg, .inl (cg, 43, .inr (.inl (gwG (z + 3) ((flS sd K V R z).2.2.2) G))))] := hD
    refine lv_aload_n hx hb d_D_draw_33 rfl (lv_at hl 0 rfl) ?_
    have hPc := hP.sub (ws' := [(jd, .inr (2, [.long sd, .ref jh, .ref jh2, .ref jg, .ref jb, .ref jy, .long w])), (jh, .inr (1, [.ref jt, .ref jk, .ref jv, .ref jr, .int (nI (z + 3))])), (jk, .inl (ck, 43, .inl ((flS sd K V R z).2.1))), (jv, .inl (cv, 43, .inl ((flS sd K V R z).2.2.1))), (jr, .inl (cr, 43, .inl ((flS sd K V R z).2.2.2))), (jb, .inl (cb, 8, .inr (.inl B)))]) [4, 5, 2, 3, 6, 0] rfl
    have hKc := hK.sub (tys' := [(ck, .int), (cv, .int), (cr, .int), (cb, .long)]) [0, 1, 2, 4] rfl
    have hDc := hD.sub (ws' := [(jd, .inr (2, [.long sd, .ref jh, .ref jh2, .ref jg, .ref jb, .ref jy, .long w])), (jh, .inr (1, [.ref jt, .ref jk, .ref jv, .ref jr, .int (nI (z + 3))])), (jk, .inl (ck, 43, .inl ((flS sd K V R z).2.1))), (jv, .inl (cv, 43, .inl ((flS sd K V R z).2.2.1))), (jr, .inl (cr, 43, .inl ((flS sd K V R z).2.2.2))), (jb, .inl (cb, 8, .inr (.inl B)))]) [4, 5, 2, 3, 6, 0] (by decide) rfl
    have hFc := va_free (wc := [(jd, .inr (2, [.long sd, .ref jh, .ref jh2, .ref jg, .ref jb, .ref jy, .long w])), (jh, .inr (1, [.ref jt, .ref jk, .ref jv, .ref jr, .int (nI (z + 3))])), (jk, .inl (ck, 43, .inl ((flS sd K V R z).2.1))), (jv, .inl (cv, 43, .inl ((flS sd K V R z).2.2.1))), (jr, .inl (cr, 43, .inl ((flS sd K V R z).2.2.2))), (jb, .inl (cb, 8, .inr (.inl B)))]) hD hS hA [4, 5, 2, 3, 6, 0] rfl
    refine va_callv (va_runV (As := []) (rest := []) ⟨hx, hb, hml, hown, hts⟩ (c_D_notePartsOfBits l dC dI jd jh jh2 jg jb jy sd w jt jk jv jr (z + 3) ck cv cr cb ((flS sd K V R z).2.1) ((flS sd K V R z).2.2.1) ((flS sd K V R z).2.2.2) B (by first | assumption | omega) _) (cwV 0 hts (g_V big_w m_264 m_266 ms_17 m_1 m_267) rfl rfl rfl (by decide +kernel) ⟨Nat.le_of_ble_eq_true rfl, Nat.le_of_ble_eq_true rfl⟩) (wr_V hPc hKc hDc hN (va_recv hKc hPc (ci := 2) (q0 := 0) rfl rfl)) rfl rfl hl.1 rfl (lv_room (Nat.le_of_ble_eq_true rfl)) d_D_draw_34 ⟨Nat.le_of_ble_eq_true rfl, Nat.le_of_ble_eq_true rfl⟩) hS (fun q _ h => hFc q h) hFc (fun u t H1 locs ht hvm hw hB hz1 hk1 hS => ?_)
    obtain ⟨hP1, hK1, hD1⟩ := hB
    rw [ht] at hP1
    obtain ⟨hP, hD⟩ := va_join (wr := [(jt, .inr (0, [.long ((flS sd K V R z).1)])), (jg, .inl (cg, 43, .inr (.inl (gwG (z + 3) ((flS sd K V R z).2.2.2) G))))]) (w1 := [(jd, .inr (2, [.long sd, .ref jh, .ref jh2, .ref jg, .ref jb, .ref jy, .long w])), (jh, .inr (1, [.ref jt, .ref jk, .ref jv, .ref jr, .int (nI (z + 3))])), (jk, .inl (ck, 43, .inl ((flS sd K V R z).2.1))), (jv, .inl (cv, 43, .inl ((flS sd K V R z).2.2.1))), (jr, .inl (cr, 43, .inl ((flS sd K V R z).2.2.2))), (jb, .inl (cb, 8, .inr (.inl (pbB (z + 3) ((flS sd K V R z).2.1) ((flS sd K V R z).2.2.1) ((flS sd K V R z).2.2.2) B))))]) hP hD [4, 5, 2, 3, 6, 0] [1, 7] rfl rfl (by decide) (by decide) hk1 hFc hP1 hD1
    generalize H1 = H at hP hS ⊢
    have hP : va_P (dC, dI) classes [(jt, .inr (0, [.long ((flS sd K V R z).1)])), (jg, .inl (cg, 43, .inr (.inl (gwG (z + 3) ((flS sd K V R z).2.2.2) G)))), (jd, .inr (2, [.long sd, .ref jh, .ref jh2, .ref jg, .ref jb, .ref jy, .long w])), (jh, .inr (1, [.ref jt, .ref jk, .ref jv, .ref jr, .int (nI (z + 3))])), (jk, .inl (ck, 43, .inl ((flS sd K V R z).2.1))), (jv, .inl (cv, 43, .inl ((flS sd K V R z).2.2.1))), (jr, .inl (cr, 43, .inl ((flS sd K V R z).2.2.2))), (jb, .inl (cb, 8, .inr (.inl (pbB (z + 3) ((flS sd K V R z).2.1) ((flS sd K V R z).2.2.1) ((flS sd K V R z).2.2.2) B))))] H := hP
    have hD : va_D A [(jt, .inr (0, [.long ((flS sd K V R z).1)])), (jg, .inl (cg, 43, .inr (.inl (gwG (z + 3) ((flS sd K V R z).2.2.2) G)))), (jd, .inr (2, [.long sd, .ref jh, .ref jh2, .ref jg, .ref jb, .ref jy, .long w])), (jh, .inr (1, [.ref jt, .ref jk, .ref jv, .ref jr, .int (nI (z + 3))])), (jk, .inl (ck, 43, .inl ((flS sd K V R z).2.1))), (jv, .inl (cv, 43, .inl ((flS sd K V R z).2.2.1))), (jr, .inl (cr, 43, .inl ((flS sd K V R z).2.2.2))), (jb, .inl (cb, 8, .inr (.inl (pbB (z + 3) ((flS sd K V R z).2.1) ((flS sd K V R z).2.2.1) ((flS sd K V R z).2.2.2) B))))] := hD
    refine lv_aload_n hx hb d_D_draw_37 rfl (lv_at hl 0 rfl) ?_
    refine lv_aload_n hx hb d_D_draw_38 rfl (lv_at hl 0 rfl) ?_
    have hPc := hP.sub (ws' := [(jd, .inr (2, [.long sd, .ref jh, .ref jh2, .ref jg, .ref jb, .ref jy, .long w])), (jh, .inr (1, [.ref jt, .ref jk, .ref jv, .ref jr, .int (nI (z + 3))]))]) [2, 3] rfl
    have hKc := hK.sub (tys' := []) [] rfl
    refine vp_callSl (W.runV (As := []) (rest := [.ref jd]) ⟨hx, hb, hml, hown, hts⟩ (c_D_allParts l dC dI jd jh jh2 jg jb jy sd w jt jk jv jr (z + 3)) (cwV 0 hts (g_V big_w m_100 m_102 ms_2 m_1 m_103) rfl rfl rfl (by decide +kernel) ⟨Nat.le_of_ble_eq_true rfl, Nat.le_of_ble_eq_true rfl⟩) (ro_V hPc hKc hN (va_recv hKc hPc (ci := 2) (q0 := 0) rfl rfl)) rfl rfl hl.1 rfl (lv_room (Nat.le_of_ble_eq_true rfl)) d_D_draw_39 ⟨Nat.le_of_ble_eq_true rfl, Nat.le_of_ble_eq_true rfl⟩) (fun r_5 er_5 => ?_)
    have er_5 := er_5.symm
    subst er_5
    refine va_put (D := (dC, dI)) (ci := 2) (v := .long (allW (z + 3))) (ty := .long) (C := R_D) (T := F_D) (N := 7) hx hb hts (lay_D _) ft_D tok_D nok_D hown hK hP hD hS 2 rfl rfl 6 (by decide) (hts _ (List.mem_cons_of_mem _ m_62)) (fun _ h9 => h9) rfl (by decide +kernel) rfl rfl (Nat.le_of_ble_eq_true rfl) d_D_draw_42 (fun H locs hP hD hS => ?_)
    have hP : va_P (dC, dI) classes [(jt, .inr (0, [.long ((flS sd K V R z).1)])), (jg, .inl (cg, 43, .inr (.inl (gwG (z + 3) ((flS sd K V R z).2.2.2) G)))), (jd, .inr (2, [.long sd, .ref jh, .ref jh2, .ref jg, .ref jb, .ref jy, .long (allW (z + 3))])), (jh, .inr (1, [.ref jt, .ref jk, .ref jv, .ref jr, .int (nI (z + 3))])), (jk, .inl (ck, 43, .inl ((flS sd K V R z).2.1))), (jv, .inl (cv, 43, .inl ((flS sd K V R z).2.2.1))), (jr, .inl (cr, 43, .inl ((flS sd K V R z).2.2.2))), (jb, .inl (cb, 8, .inr (.inl (pbB (z + 3) ((flS sd K V R z).2.1) ((flS sd K V R z).2.2.1) ((flS sd K V R z).2.2.2) B))))] H := hP
    have hD : va_D A [(jt, .inr (0, [.long ((flS sd K V R z).1)])), (jg, .inl (cg, 43, .inr (.inl (gwG (z + 3) ((flS sd K V R z).2.2.2) G)))), (jd, .inr (2, [.long sd, .ref jh, .ref jh2, .ref jg, .ref jb, .ref jy, .long (allW (z + 3))])), (jh, .inr (1, [.ref jt, .ref jk, .ref jv, .ref jr, .int (nI (z + 3))])), (jk, .inl (ck, 43, .inl ((flS sd K V R z).2.1))), (jv, .inl (cv, 43, .inl ((flS sd K V R z).2.2.1))), (jr, .inl (cr, 43, .inl ((flS sd K V R z).2.2.2))), (jb, .inl (cb, 8, .inr (.inl (pbB (z + 3) ((flS sd K V R z).2.1) ((flS sd K V R z).2.2.1) ((flS sd K V R z).2.2.2) B))))] := hD
    refine lv_aload_n hx hb d_D_draw_45 rfl (lv_at hl 0 rfl) ?_
    refine va_get (D := (dC, dI)) (ci := 2) (v := .ref jh) (C := R_D) (T := F_D) (N := 7) hx hb hts (lay_D _) hown hK hP 2 rfl rfl 1 (by decide) (hts _ (List.mem_cons_of_mem _ m_57)) (fun _ h9 => h9) rfl d_D_draw_46 ?_
    refine va_getN (D := (dC, dI)) (ci := 1) (v := .int (nI (z + 3))) (C := R_H) (T := F_H) (N := 5) hx hb hts (lay_H _) hown hK hP 3 rfl rfl 4 (by decide) (hN.use (by decide +kernel : (Jvm.Cond.fieldLinkNest "PortDrawer" (62 : Nat) "PortDrawer$Harbour" "parts" "I" "PortDrawer") ∈ NWl)) (fun _ h9 => h9) rfl d_D_draw_49 ?_
    have hP9 := hP.sub (ws' := [(jd, .inr (2, [.long sd, .ref jh, .ref jh2, .ref jg, .ref jb, .ref jy, .long (allW (z + 3))])), (jh, .inr (1, [.ref jt, .ref jk, .ref jv, .ref jr, .int (nI (z + 3))])), (jt, .inr (0, [.long ((flS sd K V R z).1)])), (jk, .inl (ck, 43, .inl ((flS sd K V R z).2.1))), (jv, .inl (cv, 43, .inl ((flS sd K V R z).2.2.1))), (jr, .inl (cr, 43, .inl ((flS sd K V R z).2.2.2))), (jg, .inl (cg, 43, .inr (.inl (gwG (z + 3) (flS sd K V R z).2.2.2 G)))), (jb, .inl (cb, 8, .inr (.inl (pbB (z + 3) (flS sd K V R z).2.1 (flS sd K V R z).2.2.1 (flS sd K V R z).2.2.2 B))))]) [2, 3, 0, 4, 5, 6, 1, 7] rfl
    have hD9 := hD.sub (ws' := [(jd, .inr (2, [.long sd, .ref jh, .ref jh2, .ref jg, .ref jb, .ref jy, .long (allW (z + 3))])), (jh, .inr (1, [.ref jt, .ref jk, .ref jv, .ref jr, .int (nI (z + 3))])), (jt, .inr (0, [.long ((flS sd K V R z).1)])), (jk, .inl (ck, 43, .inl ((flS sd K V R z).2.1))), (jv, .inl (cv, 43, .inl ((flS sd K V R z).2.2.1))), (jr, .inl (cr, 43, .inl ((flS sd K V R z).2.2.2))), (jg, .inl (cg, 43, .inr (.inl (gwG (z + 3) (flS sd K V R z).2.2.2 G)))), (jb, .inl (cb, 8, .inr (.inl (pbB (z + 3) (flS sd K V R z).2.1 (flS sd K V R z).2.2.1 (flS sd K V R z).2.2.2 B))))]) [2, 3, 0, 4, 5, 6, 1, 7] (by decide) rfl
    have hK9 := hK.sub (tys' := [(ck, .int), (cv, .int), (cr, .int), (cg, .long), (cb, .long)]) [0, 1, 2, 3, 4] rfl
    exact W.iret (v := nI (z + 3)) hx hb hr (fun t ht hW => ⟨⟨nI (z + 3), (), rfl, rfl, by rw [ht]; exact hP9, va_K.moved hW.alike hK9, hD9⟩, hS.F ht⟩) hS.2.2 d_D_draw_52
  · skip
    have c_4 := bI_f c_4
    exact absurd c_4 (by rw [szB_nI hz]; decide)
set_option maxHeartbeats 4000000 in
set_option maxRecDepth 100000 in
/-- draw, of no size -/
theorem c_D_drawx (l : Launch) (hl9 : l.stackTraces = false) (dC : Nat → ClassId) (dI : Nat → Nat → Nat) (jd jh jh2 jg jb jy : Nat) (sd w : Int64) (p0 : Int32) (hex : szB p0 = false) (sa : Nat → Nat) (sz : Nat) : vx_Met l y_D_draw w_D_draw ({ frames := 6, cells := 1, slots := 6, locals := 113 }) (wx_P dC dI [.ref jd, .int p0] [(jd, .inr (2, [.long sd, .ref jh, .ref jh2, .ref jg, .ref jb, .ref jy, .long w]))] [] sa sz) (va_Qi (fun (r : Int32) (_ : Unit) => False) (fun (u : Unit) => wr_B dC dI (va_A [(jd, .inr (2, [.long sd, .ref jh, .ref jh2, .ref jg, .ref jb, .ref jy, .long w]))] sz) [(jd, .inr (2, [.long sd, .ref jh, .ref jh2, .ref jg, .ref jb, .ref jy, .long w]))] []) (va_A [(jd, .inr (2, [.long sd, .ref jh, .ref jh2, .ref jg, .ref jb, .ref jy, .long w]))] sz)) (wx_X dC dI "java/lang/IllegalArgumentException" (va_A [(jd, .inr (2, [.long sd, .ref jh, .ref jh2, .ref jg, .ref jb, .ref jy, .long w]))] sz) [(jd, .inr (2, [.long sd, .ref jh, .ref jh2, .ref jg, .ref jb, .ref jy, .long w]))] []) 1 6 (va_A [(jd, .inr (2, [.long sd, .ref jh, .ref jh2, .ref jg, .ref jb, .ref jy, .long w]))] sz) := by
  refine vx_ofW (cc := b_D_draw) (maxL := 2) (ret := (Option.some Jvm.ClassFile.FieldType.int)) (by decide) rfl ?_
  intro p e s m args below meth c s₁ B0 hml hEx hv0
  obtain ⟨rfl, hsz, hP, hK, hD0, hN, hT, hZ⟩ := hv0
  have hx := B0.exec
  have hb := B0.bytes
  have hr := B0.returns
  have hts := atoms_spec (ws := w_D_draw) B0.pre
  have hown : s.vm.findClass R_D = some m.cls := findClass_of_methodNamed B0.named
  have hlocks := B0.notSynchronized
  subst hsz
  have hD := hD0.self (sz := s.heap.size)
  generalize hAe : va_A [(jd, .inr (2, [.long sd, .ref jh, .ref jh2, .ref jg, .ref jb, .ref jy, .long w]))] s.heap.size = A at hD hZ ⊢
  have hA : ∀ q : Nat, s.heap.size ≤ q → A q := fun q h => by rw [← hAe]; exact Or.inr h
  have hS : va_S A s.heap s.heap [] := va_S.rf
  have hP : va_P (dC, dI) classes [(jd, .inr (2, [.long sd, .ref jh, .ref jh2, .ref jg, .ref jb, .ref jy, .long w]))] s.heap := hP
  have hl := lv_entry ([.ref jd, .int p0]) (n := 2) (Nat.le_of_ble_eq_true rfl)
  rw [lg_entry_eq]
  generalize (lg_sl ([.ref jd, .int p0]) ++ List.replicate (2 - (lg_sl ([.ref jd, .int p0])).length) Slot.unset).toArray = ls at hl ⊢
  have hl : lv_has ls 2 [(0, .ref jd), (1, .int p0)] := hl
  refine lv_iload_n hx hb d_D_draw_0 rfl (lv_at hl 1 rfl) ?_
  have hPc := hP.sub (ws' := []) [] rfl
  have hKc := hK.sub (tys' := []) [] rfl
  refine vp_callSi (W.runS (As := [.int p0]) (rest := []) ⟨hx, hb, hml, hown, hts⟩ (c_D_isSize l dC dI p0) (va_cwS 1 hts (g_S big_w m_157 m_158 m_1 m_159) rfl rfl rfl (by decide +kernel) ⟨Nat.le_of_ble_eq_true rfl, Nat.le_of_ble_eq_true rfl⟩) (ro_S hPc hKc hN) rfl rfl hl.1 rfl (lv_room (Nat.le_of_ble_eq_true rfl)) d_D_draw_1 ⟨Nat.le_of_ble_eq_true rfl, Nat.le_of_ble_eq_true rfl⟩) (fun r_1 er_1 => ?_)
  have er_1 := er_1.symm
  subst er_1
  refine lv_if_ne (tgt := 17) hx hb d_D_draw_4 (by decide) (fun c_4 => ?_) (fun c_4 => ?_)
  · skip
    have c_4 := bI_t c_4
    exact absurd c_4 (by rw [hex]; decide)
  · skip
    have c_4 := bI_f c_4
    have hP9 := hP.sub (ws' := [(jd, .inr (2, [.long sd, .ref jh, .ref jh2, .ref jg, .ref jb, .ref jy, .long w]))]) [0] rfl
    have hD9 := hD.sub (ws' := [(jd, .inr (2, [.long sd, .ref jh, .ref jh2, .ref jg, .ref jb, .ref jy, .long w]))]) [0] (by decide) rfl
    have hK9 := hK.sub (tys' := []) [] rfl
    exact vx_throwS (own := R_D) (cls := "java/lang/IllegalArgumentException") (names := ["java/lang/RuntimeException", "java/lang/Exception"]) hx hb hl9 hown (by decide +kernel) (by decide +kernel) (hts _ (List.mem_cons_of_mem _ m_160)) (hts _ (List.mem_cons_of_mem _ m_8)) (hT (43, "the size is not 0 .. 40") (by decide +kernel)) (hat_ok hts hN (L := vx_atS R_D 45 "java/lang/IllegalArgumentException" ["java/lang/RuntimeException", "java/lang/Exception"]) (by decide +kernel) (by decide +kernel)) (by decide +kernel) hZ.1 hZ.2 hS (hl.1.trans hml.symm) d_D_draw_7 d_D_draw_10 d_D_draw_11 d_D_draw_13 d_D_draw_16 (fun x h => (hEx x h).elim) (Nat.le_of_ble_eq_true rfl) (Nat.le_of_ble_eq_true rfl) (Nat.le_of_ble_eq_true rfl) (Nat.le_of_ble_eq_true rfl) hlocks (fun t ha hsz hk => ⟨(), trivial, ⟨rfl, hP9.kept (fun k q hq => hk q.1 (hP9 k q hq).lt), va_K.moved ha hK9, hD9⟩, Nat.le_trans hS.1 hsz, fun q h1 h2 => (hk q (Nat.lt_of_lt_of_le h1 hS.1)).trans (hS.2.1 q h1 h2)⟩) hS.2.2 (Nat.le_of_ble_eq_true rfl) (Nat.le_of_ble_eq_true rfl)
set_option maxHeartbeats 4000000 in
set_option maxRecDepth 100000 in
/-- part, where there is one -/
theorem c_D_part (l : Launch) (dC : Nat → ClassId) (dI : Nat → Nat → Nat) (jd jh jh2 jg jb jy : Nat) (sd w : Int64) (jt jk jv jr n : Nat) (ck cv cr : ClassId) (K V R : Nat → Int32) (i : Nat) (p1 : Int32) (hn : n ≤ 43) (hi : i < n) (h4 : ¬ (p1.toInt < 0 ∨ 4 < p1.toInt)) : Met l y_D_part w_D_part ({ frames := 1, cells := 0, slots := 0, locals := 24 }) (ro_P dC dI [.ref jd, .int (nI i), .int p1] [(jd, .inr (2, [.long sd, .ref jh, .ref jh2, .ref jg, .ref jb, .ref jy, .long w])), (jh, .inr (1, [.ref jt, .ref jk, .ref jv, .ref jr, .int (nI n)])), (jk, .inl (ck, 43, .inl K)), (jv, .inl (cv, 43, .inl V)), (jr, .inl (cr, 43, .inl R))] [(ck, .int), (cv, .int), (cr, .int)]) (vp_Si (fun r => r = ptI K V R w i p1)) 0 0 (fun _ => False) := by
  refine Met.ofW (cc := b_D_part) (maxL := 3) (ret := (Option.some Jvm.ClassFile.FieldType.int)) (by decide) rfl ?_
  intro p e s m args below meth c s₁ B0 hml hv0
  obtain ⟨rfl, hP, hK, hN⟩ := hv0
  have hx := B0.exec
  have hb := B0.bytes
  have hr := B0.returns
  have hts := atoms_spec (ws := w_D_part) B0.pre
  have hown : s.vm.findClass R_D = some m.cls := findClass_of_methodNamed B0.named
  have hlocks := B0.notSynchronized
  have hP : va_P (dC, dI) classes [(jd, .inr (2, [.long sd, .ref jh, .ref jh2, .ref jg, .ref jb, .ref jy, .long w])), (jh, .inr (1, [.ref jt, .ref jk, .ref jv, .ref jr, .int (nI n)])), (jk, .inl (ck, 43, .inl K)), (jv, .inl (cv, 43, .inl V)), (jr, .inl (cr, 43, .inl R))] s.heap := hP
  have hl := lv_entry ([.ref jd, .int (nI i), .int p1]) (n := 3) (Nat.le_of_ble_eq_true rfl)
  rw [lg_entry_eq]
  generalize (lg_sl ([.ref jd, .int (nI i), .int p1]) ++ List.replicate (3 - (lg_sl ([.ref jd, .int (nI i), .int p1])).length) Slot.unset).toArray = ls at hl ⊢
  have hl : lv_has ls 3 [(0, .ref jd), (1, .int (nI i)), (2, .int p1)] := hl
  refine lv_aload_n hx hb d_D_part_0 rfl (lv_at hl 0 rfl) ?_
  refine va_get (D := (dC, dI)) (ci := 2) (v := .ref jh) (C := R_D) (T := F_D) (N := 7) hx hb hts (lay_D _) hown hK hP 0 rfl rfl 1 (by decide) (hts _ (List.mem_cons_of_mem _ m_57)) (fun _ h9 => h9) rfl d_D_part_1 ?_
  refine lv_iload_n hx hb d_D_part_4 rfl (lv_at hl 1 rfl) ?_
  have hPc := hP.sub (ws' := [(jh, .inr (1, [.ref jt, .ref jk, .ref jv, .ref jr, .int (nI n)]))]) [1] rfl
  have hKc := hK.sub (tys' := []) [] rfl
  refine vp_callSi (va_Run.run (va_runVN (As := [.int (nI i)]) (rest := []) ⟨hx, hb, hml, hown, hts⟩ (c_H_has l dC dI jh jt jk jv jr n (nI i)) ⟨va_cnB 1 hts (g_c big_w m_263) rfl rfl rfl (hN _ (by decide +kernel : (Jvm.Cond.methodLinkNest "PortDrawer" (66 : Nat) ({ cls := "PortDrawer$Harbour", name := "has", desc := "(I)Z" } : Jvm.MethodName) "PortDrawer") ∈ NWl)) (hts _ (List.mem_cons_of_mem _ m_2)) (by decide +kernel) ⟨Nat.le_of_ble_eq_true rfl, Nat.le_of_ble_eq_true rfl⟩, (hts _ (List.mem_cons_of_mem _ m_262)), (hts _ (List.mem_cons_of_mem _ ms_16))⟩ (ro_V hPc hKc hN (va_recv hKc hPc (ci := 1) (q0 := 0) rfl rfl)) rfl rfl hl.1 rfl (lv_room (Nat.le_of_ble_eq_true rfl)) d_D_part_5 ⟨Nat.le_of_ble_eq_true rfl, Nat.le_of_ble_eq_true rfl⟩)) (fun r_1 er_1 => ?_)
  have er_1 := er_1.symm
  subst er_1
  refine lv_if_ne (tgt := 21) hx hb d_D_part_8 (by decide) (fun c_8 => ?_) (fun c_8 => ?_)
  · skip
    have c_8 := bI_t c_8
    refine lv_iload_n hx hb d_D_part_21 rfl (lv_at hl 2 rfl) ?_
    by_cases o_22 : p1.toInt < 0 ∨ 4 < p1.toInt
    · skip
      refine lv_tableOut (tgt := 121) hx hb d_D_part_22 o_22 (by decide) ?_
      exact absurd o_22 h4
    · skip
      have o1_22 : ¬ p1.toInt < 0 := fun h => o_22 (Or.inl h)
      have o2_22 : ¬ 4 < p1.toInt := fun h => o_22 (Or.inr h)
      by_cases o_22_0 : p1.toInt = 0
      · skip
        have o3 : p1 = nI 0 := sw_eq o_22_0 (by decide +kernel)
        refine lv_tableIn (tgt := 56) hx hb d_D_part_22 o1_22 o2_22 (by rw [o_22_0]; rfl) (by decide) ?_
        refine lv_aload_n hx hb d_D_part_56 rfl (lv_at hl 0 rfl) ?_
        refine va_get (D := (dC, dI)) (ci := 2) (v := .ref jh) (C := R_D) (T := F_D) (N := 7) hx hb hts (lay_D _) hown hK hP 0 rfl rfl 1 (by decide) (hts _ (List.mem_cons_of_mem _ m_57)) (fun _ h9 => h9) rfl d_D_part_57 ?_
        refine va_getN (D := (dC, dI)) (ci := 1) (v := .ref jk) (C := R_H) (T := F_H) (N := 5) hx hb hts (lay_H _) hown hK hP 1 rfl rfl 1 (by decide) (hN.use (by decide +kernel : (Jvm.Cond.fieldLinkNest "PortDrawer" (74 : Nat) "PortDrawer$Harbour" "kinds" "[I" "PortDrawer") ∈ NWl)) (fun _ h9 => h9) rfl d_D_part_60 ?_
        refine lv_iload_n hx hb d_D_part_63 rfl (lv_at hl 1 rfl) ?_
        refine va_iald hx hb hK hP 2 0 rfl rfl (vp_in_nI (by omega) (by omega)) d_D_part_64 ?_
        refine lv_topi (fun w_2 ew_2 => ?_)
        rw [nI_clamp (by omega)] at ew_2
        have ew_2 := ew_2.symm
        subst ew_2
        exact W.iret (v := K i) hx hb hr (fun t ht hW => ⟨K i, rfl, (by rw [o3]; exact pt_0.symm), ht⟩) (fun _ h => nomatch h) d_D_part_65
      · skip
        by_cases o_22_1 : p1.toInt = 1
        · skip
          have o3 : p1 = nI 1 := sw_eq o_22_1 (by decide +kernel)
          refine lv_tableIn (tgt := 66) hx hb d_D_part_22 o1_22 o2_22 (by rw [o_22_1]; rfl) (by decide) ?_
          refine lv_aload_n hx hb d_D_part_66 rfl (lv_at hl 0 rfl) ?_
          refine va_get (D := (dC, dI)) (ci := 2) (v := .ref jh) (C := R_D) (T := F_D) (N := 7) hx hb hts (lay_D _) hown hK hP 0 rfl rfl 1 (by decide) (hts _ (List.mem_cons_of_mem _ m_57)) (fun _ h9 => h9) rfl d_D_part_67 ?_
          refine lv_aload_n hx hb d_D_part_70 rfl (lv_at hl 0 rfl) ?_
          refine va_get (D := (dC, dI)) (ci := 2) (v := .ref jh) (C := R_D) (T := F_D) (N := 7) hx hb hts (lay_D _) hown hK hP 0 rfl rfl 1 (by decide) (hts _ (List.mem_cons_of_mem _ m_57)) (fun _ h9 => h9) rfl d_D_part_71 ?_
          refine va_getN (D := (dC, dI)) (ci := 1) (v := .ref jk) (C := R_H) (T := F_H) (N := 5) hx hb hts (lay_H _) hown hK hP 1 rfl rfl 1 (by decide) (hN.use (by decide +kernel : (Jvm.Cond.fieldLinkNest "PortDrawer" (74 : Nat) "PortDrawer$Harbour" "kinds" "[I" "PortDrawer") ∈ NWl)) (fun _ h9 => h9) rfl d_D_part_74 ?_
          refine lv_iload_n hx hb d_D_part_77 rfl (lv_at hl 1 rfl) ?_
          refine va_iald hx hb hK hP 2 0 rfl rfl (vp_in_nI (by omega) (by omega)) d_D_part_78 ?_
          refine lv_topi (fun w_3 ew_3 => ?_)
          rw [nI_clamp (by omega)] at ew_3
          have ew_3 := ew_3.symm
          subst ew_3
          refine lv_iload_n hx hb d_D_part_79 rfl (lv_at hl 1 rfl) ?_
          have hPc := hP.sub (ws' := [(jh, .inr (1, [.ref jt, .ref jk, .ref jv, .ref jr, .int (nI n)])), (jk, .inl (ck, 43, .inl K))]) [1, 2] rfl
          have hKc := hK.sub (tys' := [(ck, .int)]) [0] rfl
          refine vp_callSi (va_Run.run (va_runVN (As := [.int (K i), .int (nI i)]) (rest := []) ⟨hx, hb, hml, hown, hts⟩ (c_H_ofKindAheadOf l dC dI jh jt jk jv jr n ck K (K i) i (by first | assumption | omega) (by first | assumption | omega)) ⟨va_cnB 2 hts (g_c big_w m_137) rfl rfl rfl (hN _ (by decide +kernel : (Jvm.Cond.methodLinkNest "PortDrawer" (78 : Nat) ({ cls := "PortDrawer$Harbour", name := "ofKindAheadOf", desc := "(II)I" } : Jvm.MethodName) "PortDrawer") ∈ NWl)) (hts _ (List.mem_cons_of_mem _ m_2)) (by decide +kernel) ⟨Nat.le_of_ble_eq_true rfl, Nat.le_of_ble_eq_true rfl⟩, (hts _ (List.mem_cons_of_mem _ m_136)), (hts _ (List.mem_cons_of_mem _ ms_5))⟩ (ro_V hPc hKc hN (va_recv hKc hPc (ci := 1) (q0 := 0) rfl rfl)) rfl rfl hl.1 rfl (lv_room (Nat.le_of_ble_eq_true rfl)) d_D_part_80 ⟨Nat.le_of_ble_eq_true rfl, Nat.le_of_ble_eq_true rfl⟩)) (fun r_4 er_4 => ?_)
          have er_4 := er_4.symm
          subst er_4
          exact W.iret (v := nI (cnt (kP K (K i)) i)) hx hb hr (fun t ht hW => ⟨nI (cnt (kP K (K i)) i), rfl, (by rw [o3]; exact pt_1.symm), ht⟩) (fun _ h => nomatch h) d_D_part_83
        · skip
          by_cases o_22_2 : p1.toInt = 2
          · skip
            have o3 : p1 = nI 2 := sw_eq o_22_2 (by decide +kernel)
            refine lv_tableIn (tgt := 84) hx hb d_D_part_22 o1_22 o2_22 (by rw [o_22_2]; rfl) (by decide) ?_
            refine lv_aload_n hx hb d_D_part_84 rfl (lv_at hl 0 rfl) ?_
            refine va_get (D := (dC, dI)) (ci := 2) (v := .ref jh) (C := R_D) (T := F_D) (N := 7) hx hb hts (lay_D _) hown hK hP 0 rfl rfl 1 (by decide) (hts _ (List.mem_cons_of_mem _ m_57)) (fun _ h9 => h9) rfl d_D_part_85 ?_
            refine va_getN (D := (dC, dI)) (ci := 1) (v := .ref jv) (C := R_H) (T := F_H) (N := 5) hx hb hts (lay_H _) hown hK hP 1 rfl rfl 2 (by decide) (hN.use (by decide +kernel : (Jvm.Cond.fieldLinkNest "PortDrawer" (82 : Nat) "PortDrawer$Harbour" "values" "[I" "PortDrawer") ∈ NWl)) (fun _ h9 => h9) rfl d_D_part_88 ?_
            refine lv_iload_n hx hb d_D_part_91 rfl (lv_at hl 1 rfl) ?_
            refine va_iald hx hb hK hP 3 1 rfl rfl (vp_in_nI (by omega) (by omega)) d_D_part_92 ?_
            refine lv_topi (fun w_5 ew_5 => ?_)
            rw [nI_clamp (by omega)] at ew_5
            have ew_5 := ew_5.symm
            subst ew_5
            exact W.iret (v := V i) hx hb hr (fun t ht hW => ⟨V i, rfl, (by rw [o3]; exact pt_2.symm), ht⟩) (fun _ h => nomatch h) d_D_part_93
          · skip
            by_cases o_22_3 : p1.toInt = 3
            · skip
              have o3 : p1 = nI 3 := sw_eq o_22_3 (by decide +kernel)
              refine lv_tableIn (tgt := 94) hx hb d_D_part_22 o1_22 o2_22 (by rw [o_22_3]; rfl) (by decide) ?_
              refine lv_aload_n hx hb d_D_part_94 rfl (lv_at hl 0 rfl) ?_
              refine va_get (D := (dC, dI)) (ci := 2) (v := .ref jh) (C := R_D) (T := F_D) (N := 7) hx hb hts (lay_D _) hown hK hP 0 rfl rfl 1 (by decide) (hts _ (List.mem_cons_of_mem _ m_57)) (fun _ h9 => h9) rfl d_D_part_95 ?_
              refine va_getN (D := (dC, dI)) (ci := 1) (v := .ref jr) (C := R_H) (T := F_H) (N := 5) hx hb hts (lay_H _) hown hK hP 1 rfl rfl 3 (by decide) (hN.use (by decide +kernel : (Jvm.Cond.fieldLinkNest "PortDrawer" (85 : Nat) "PortDrawer$Harbour" "references" "[I" "PortDrawer") ∈ NWl)) (fun _ h9 => h9) rfl d_D_part_98 ?_
              refine lv_iload_n hx hb d_D_part_101 rfl (lv_at hl 1 rfl) ?_
              refine va_iald hx hb hK hP 4 2 rfl rfl (vp_in_nI (by omega) (by omega)) d_D_part_102 ?_
              refine lv_topi (fun w_6 ew_6 => ?_)
              rw [nI_clamp (by omega)] at ew_6
              have ew_6 := ew_6.symm
              subst ew_6
              exact W.iret (v := R i) hx hb hr (fun t ht hW => ⟨R i, rfl, (by rw [o3]; exact pt_3.symm), ht⟩) (fun _ h => nomatch h) d_D_part_103
            · skip
              have o_22_4 : p1.toInt = 4 := by omega
              have o3 : p1 = nI 4 := sw_eq o_22_4 (by decide +kernel)
              refine lv_tableIn (tgt := 104) hx hb d_D_part_22 o1_22 o2_22 (by rw [o_22_4]; rfl) (by decide) ?_
              refine lv_aload_n hx hb d_D_part_104 rfl (lv_at hl 0 rfl) ?_
              refine va_get (D := (dC, dI)) (ci := 2) (v := .long w) (C := R_D) (T := F_D) (N := 7) hx hb hts (lay_D _) hown hK hP 0 rfl rfl 6 (by decide) (hts _ (List.mem_cons_of_mem _ m_62)) (fun _ h9 => h9) rfl d_D_part_105 ?_
              refine lv_iload_n hx hb d_D_part_108 rfl (lv_at hl 1 rfl) ?_
              have hPc := hP.sub (ws' := []) [] rfl
              have hKc := hK.sub (tys' := []) [] rfl
              refine vp_callSi (W.runS (As := [.long w, .int (nI i)]) (rest := []) ⟨hx, hb, hml, hown, hts⟩ (c_D_isIn l dC dI w i (by first | assumption | omega)) (va_cwS 2 hts (g_S big_w m_114 m_115 m_1 m_116) rfl rfl rfl (by decide +kernel) ⟨Nat.le_of_ble_eq_true rfl, Nat.le_of_ble_eq_true rfl⟩) (ro_S hPc hKc hN) rfl rfl hl.1 rfl (lv_room (Nat.le_of_ble_eq_true rfl)) d_D_part_109 ⟨Nat.le_of_ble_eq_true rfl, Nat.le_of_ble_eq_true rfl⟩) (fun r_7 er_7 => ?_)
              have er_7 := er_7.symm
              subst er_7
              refine lv_if_eq (tgt := 119) hx hb d_D_part_112 (by decide) (fun c_112 => ?_) (fun c_112 => ?_)
              · skip
                have c_112 := bI_f c_112
                refine lv_iconst (v := nI 0) hx hb d_D_part_119 (by decide +kernel) ?_
                exact W.iret (v := nI 0) hx hb hr (fun t ht hW => ⟨nI 0, rfl, (by rw [o3, pt_4, c_112]; rfl), ht⟩) (fun _ h => nomatch h) d_D_part_120
              · skip
                have c_112 := bI_t c_112
                refine lv_iconst (v := nI 1) hx hb d_D_part_115 (by decide +kernel) ?_
                refine lv_goto (tgt := 120) hx hb d_D_part_116 (by decide) ?_
                exact W.iret (v := nI 1) hx hb hr (fun t ht hW => ⟨nI 1, rfl, (by rw [o3, pt_4, c_112]; rfl), ht⟩) (fun _ h => nomatch h) d_D_part_120
  · skip
    have c_8 := bI_f c_8
    exact absurd c_8 (by rw [hB_nI hi (by omega)]; decide)
set_option maxHeartbeats 4000000 in
set_option maxRecDepth 100000 in
/-- part, where there is none -/
theorem c_D_partx (l : Launch) (hl9 : l.stackTraces = false) (dC : Nat → ClassId) (dI : Nat → Nat → Nat) (jd jh jh2 jg jb jy : Nat) (sd w : Int64) (jt jk jv jr n : Nat) (p0 p1 : Int32) (hn : n ≤ 43) (hex : hB n p0 = false ∨ (p1.toInt < 0 ∨ 4 < p1.toInt)) (sa : Nat → Nat) (sz : Nat) : vx_Met l y_D_part w_D_part ({ frames := 6, cells := 1, slots := 6, locals := 100 }) (wx_P dC dI [.ref jd, .int p0, .int p1] [(jd, .inr (2, [.long sd, .ref jh, .ref jh2, .ref jg, .ref jb, .ref jy, .long w])), (jh, .inr (1, [.ref jt, .ref jk, .ref jv, .ref jr, .int (nI n)]))] [] sa sz) (va_Qi (fun (r : Int32) (_ : Unit) => False) (fun (u : Unit) => wr_B dC dI (va_A [(jd, .inr (2, [.long sd, .ref jh, .ref jh2, .ref jg, .ref jb, .ref jy, .long w])), (jh, .inr (1, [.ref jt, .ref jk, .ref jv, .ref jr, .int (nI n)]))] sz) [(jd, .inr (2, [.long sd, .ref jh, .ref jh2, .ref jg, .ref jb, .ref jy, .long w])), (jh, .inr (1, [.ref jt, .ref jk, .ref jv, .ref jr, .int (nI n)]))] []) (va_A [(jd, .inr (2, [.long sd, .ref jh, .ref jh2, .ref jg, .ref jb, .ref jy, .long w])), (jh, .inr (1, [.ref jt, .ref jk, .ref jv, .ref jr, .int (nI n)]))] sz)) (wx_X dC dI "java/lang/IndexOutOfBoundsException" (va_A [(jd, .inr (2, [.long sd, .ref jh, .ref jh2, .ref jg, .ref jb, .ref jy, .long w])), (jh, .inr (1, [.ref jt, .ref jk, .ref jv, .ref jr, .int (nI n)]))] sz) [(jd, .inr (2, [.long sd, .ref jh, .ref jh2, .ref jg, .ref jb, .ref jy, .long w])), (jh, .inr (1, [.ref jt, .ref jk, .ref jv, .ref jr, .int (nI n)]))] []) 1 6 (va_A [(jd, .inr (2, [.long sd, .ref jh, .ref jh2, .ref jg, .ref jb, .ref jy, .long w])), (jh, .inr (1, [.ref jt, .ref jk, .ref jv, .ref jr, .int (nI n)]))] sz) := by
  refine vx_ofW (cc := b_D_part) (maxL := 3) (ret := (Option.some Jvm.ClassFile.FieldType.int)) (by decide) rfl ?_
  intro p e s m args below meth c s₁ B0 hml hEx hv0
  obtain ⟨rfl, hsz, hP, hK, hD0, hN, hT, hZ⟩ := hv0
  have hx := B0.exec
  have hb := B0.bytes
  have hr := B0.returns
  have hts := atoms_spec (ws := w_D_part) B0.pre
  have hown : s.vm.findClass R_D = some m.cls := findClass_of_methodNamed B0.named
  have hlocks := B0.notSynchronized
  subst hsz
  have hD := hD0.self (sz := s.heap.size)
  generalize hAe : va_A [(jd, .inr (2, [.long sd, .ref jh, .ref jh2, .ref jg, .ref jb, .ref jy, .long w])), (jh, .inr (1, [.ref jt, .ref jk, .ref jv, .ref jr, .int (nI n)]))] s.heap.size = A at hD hZ ⊢
  have hA : ∀ q : Nat, s.heap.size ≤ q → A q := fun q h => by rw [← hAe]; exact Or.inr h
  have hS : va_S A s.heap s.heap [] := va_S.rf
  have hP : va_P (dC, dI) classes [(jd, .inr (2, [.long sd, .ref jh, .ref jh2, .ref jg, .ref jb, .ref jy, .long w])), (jh, .inr (1, [.ref jt, .ref jk, .ref jv, .ref jr, .int (nI n)]))] s.heap := hP
  have hl := lv_entry ([.ref jd, .int p0, .int p1]) (n := 3) (Nat.le_of_ble_eq_true rfl)
  rw [lg_entry_eq]
  generalize (lg_sl ([.ref jd, .int p0, .int p1]) ++ List.replicate (3 - (lg_sl ([.ref jd, .int p0, .int p1])).length) Slot.unset).toArray = ls at hl ⊢
  have hl : lv_has ls 3 [(0, .ref jd), (1, .int p0), (2, .int p1)] := hl
  refine lv_aload_n hx hb d_D_part_0 rfl (lv_at hl 0 rfl) ?_
  refine va_get (D := (dC, dI)) (ci := 2) (v := .ref jh) (C := R_D) (T := F_D) (N := 7) hx hb hts (lay_D _) hown hK hP 0 rfl rfl 1 (by decide) (hts _ (List.mem_cons_of_mem _ m_57)) (fun _ h9 => h9) rfl d_D_part_1 ?_
  refine lv_iload_n hx hb d_D_part_4 rfl (lv_at hl 1 rfl) ?_
  have hPc := hP.sub (ws' := [(jh, .inr (1, [.ref jt, .ref jk, .ref jv, .ref jr, .int (nI n)]))]) [1] rfl
  have hKc := hK.sub (tys' := []) [] rfl
  refine vp_callSi (va_Run.run (va_runVN (As := [.int p0]) (rest := []) ⟨hx, hb, hml, hown, hts⟩ (c_H_has l dC dI jh jt jk jv jr n p0) ⟨va_cnB 1 hts (g_c big_w m_263) rfl rfl rfl (hN _ (by decide +kernel : (Jvm.Cond.methodLinkNest "PortDrawer" (66 : Nat) ({ cls := "PortDrawer$Harbour", name := "has", desc := "(I)Z" } : Jvm.MethodName) "PortDrawer") ∈ NWl)) (hts _ (List.mem_cons_of_mem _ m_2)) (by decide +kernel) ⟨Nat.le_of_ble_eq_true rfl, Nat.le_of_ble_eq_true rfl⟩, (hts _ (List.mem_cons_of_mem _ m_262)), (hts _ (List.mem_cons_of_mem _ ms_16))⟩ (ro_V hPc hKc hN (va_recv hKc hPc (ci := 1) (q0 := 0) rfl rfl)) rfl rfl hl.1 rfl (lv_room (Nat.le_of_ble_eq_true rfl)) d_D_part_5 ⟨Nat.le_of_ble_eq_true rfl, Nat.le_of_ble_eq_true rfl⟩)) (fun r_1 er_1 => ?_)
  have er_1 := er_1.symm
  subst er_1
  refine lv_if_ne (tgt := 21) hx hb d_D_part_8 (by decide) (fun c_8 => ?_) (fun c_8 => ?_)
  · skip
    have c_8 := bI_t c_8
    refine lv_iload_n hx hb d_D_part_21 rfl (lv_at hl 2 rfl) ?_
    by_cases o_22 : p1.toInt < 0 ∨ 4 < p1.toInt
    · skip
      refine lv_tableOut (tgt := 121) hx hb d_D_part_22 o_22 (by decide) ?_
      have hP9 := hP.sub (ws' := [(jd, .inr (2, [.long sd, .ref jh, .ref jh2, .ref jg, .ref jb, .ref jy, .long w])), (jh, .inr (1, [.ref jt, .ref jk, .ref jv, .ref jr, .int (nI n)]))]) [0, 1] rfl
      have hD9 := hD.sub (ws' := [(jd, .inr (2, [.long sd, .ref jh, .ref jh2, .ref jg, .ref jb, .ref jy, .long w])), (jh, .inr (1, [.ref jt, .ref jk, .ref jv, .ref jr, .int (nI n)]))]) [0, 1] (by decide) rfl
      have hK9 := hK.sub (tys' := []) [] rfl
      exact vx_throwS (own := R_D) (cls := "java/lang/IndexOutOfBoundsException") (names := ["java/lang/RuntimeException", "java/lang/Exception"]) hx hb hl9 hown (by decide +kernel) (by decide +kernel) (hts _ (List.mem_cons_of_mem _ m_285)) (hts _ (List.mem_cons_of_mem _ m_9)) (hT (92, "no such what") (by decide +kernel)) (hat_ok hts hN (L := vx_atS R_D 73 "java/lang/IndexOutOfBoundsException" ["java/lang/RuntimeException", "java/lang/Exception"]) (by decide +kernel) (by decide +kernel)) (by decide +kernel) hZ.1 hZ.2 hS (hl.1.trans hml.symm) d_D_part_121 d_D_part_124 d_D_part_125 d_D_part_127 d_D_part_130 (fun x h => (hEx x h).elim) (Nat.le_of_ble_eq_true rfl) (Nat.le_of_ble_eq_true rfl) (Nat.le_of_ble_eq_true rfl) (Nat.le_of_ble_eq_true rfl) hlocks (fun t ha hsz hk => ⟨(), trivial, ⟨rfl, hP9.kept (fun k q hq => hk q.1 (hP9 k q hq).lt), va_K.moved ha hK9, hD9⟩, Nat.le_trans hS.1 hsz, fun q h1 h2 => (hk q (Nat.lt_of_lt_of_le h1 hS.1)).trans (hS.2.1 q h1 h2)⟩) hS.2.2 (Nat.le_of_ble_eq_true rfl) (Nat.le_of_ble_eq_true rfl)
    · skip
      have o1_22 : ¬ p1.toInt < 0 := fun h => o_22 (Or.inl h)
      have o2_22 : ¬ 4 < p1.toInt := fun h => o_22 (Or.inr h)
      by_cases o_22_0 : p1.toInt = 0
      · skip
        have o3 : p1 = nI 0 := sw_eq o_22_0 (by decide +kernel)
        refine lv_tableIn (tgt := 56) hx hb d_D_part_22 o1_22 o2_22 (by rw [o_22_0]; rfl) (by decide) ?_
        exact absurd (hex.resolve_left (by rw [c_8]; decide)) o_22
      · skip
        by_cases o_22_1 : p1.toInt = 1
        · skip
          have o3 : p1 = nI 1 := sw_eq o_22_1 (by decide +kernel)
          refine lv_tableIn (tgt := 66) hx hb d_D_part_22 o1_22 o2_22 (by rw [o_22_1]; rfl) (by decide) ?_
          exact absurd (hex.resolve_left (by rw [c_8]; decide)) o_22
        · skip
          by_cases o_22_2 : p1.toInt = 2
          · skip
            have o3 : p1 = nI 2 := sw_eq o_22_2 (by decide +kernel)
            refine lv_tableIn (tgt := 84) hx hb d_D_part_22 o1_22 o2_22 (by rw [o_22_2]; rfl) (by decide) ?_
            exact absurd (hex.resolve_left (by rw [c_8]; decide)) o_22
          · skip
            by_cases o_22_3 : p1.toInt = 3
            · skip
              have o3 : p1 = nI 3 := sw_eq o_22_3 (by decide +kernel)
              refine lv_tableIn (tgt := 94) hx hb d_D_part_22 o1_22 o2_22 (by rw [o_22_3]; rfl) (by decide) ?_
              exact absurd (hex.resolve_left (by rw [c_8]; decide)) o_22
            · skip
              have o_22_4 : p1.toInt = 4 := by omega
              have o3 : p1 = nI 4 := sw_eq o_22_4 (by decide +kernel)
              refine lv_tableIn (tgt := 104) hx hb d_D_part_22 o1_22 o2_22 (by rw [o_22_4]; rfl) (by decide) ?_
              exact absurd (hex.resolve_left (by rw [c_8]; decide)) o_22
  · skip
    have c_8 := bI_f c_8
    have hP9 := hP.sub (ws' := [(jd, .inr (2, [.long sd, .ref jh, .ref jh2, .ref jg, .ref jb, .ref jy, .long w])), (jh, .inr (1, [.ref jt, .ref jk, .ref jv, .ref jr, .int (nI n)]))]) [0, 1] rfl
    have hD9 := hD.sub (ws' := [(jd, .inr (2, [.long sd, .ref jh, .ref jh2, .ref jg, .ref jb, .ref jy, .long w])), (jh, .inr (1, [.ref jt, .ref jk, .ref jv, .ref jr, .int (nI n)]))]) [0, 1] (by decide) rfl
    have hK9 := hK.sub (tys' := []) [] rfl
    exact vx_throwS (own := R_D) (cls := "java/lang/IndexOutOfBoundsException") (names := ["java/lang/RuntimeException", "java/lang/Exception"]) hx hb hl9 hown (by decide +kernel) (by decide +kernel) (hts _ (List.mem_cons_of_mem _ m_285)) (hts _ (List.mem_cons_of_mem _ m_9)) (hT (71, "no such part") (by decide +kernel)) (hat_ok hts hN (L := vx_atS R_D 73 "java/lang/IndexOutOfBoundsException" ["java/lang/RuntimeException", "java/lang/Exception"]) (by decide +kernel) (by decide +kernel)) (by decide +kernel) hZ.1 hZ.2 hS (hl.1.trans hml.symm) d_D_part_11 d_D_part_14 d_D_part_15 d_D_part_17 d_D_part_20 (fun x h => (hEx x h).elim) (Nat.le_of_ble_eq_true rfl) (Nat.le_of_ble_eq_true rfl) (Nat.le_of_ble_eq_true rfl) (Nat.le_of_ble_eq_true rfl) hlocks (fun t ha hsz hk => ⟨(), trivial, ⟨rfl, hP9.kept (fun k q hq => hk q.1 (hP9 k q hq).lt), va_K.moved ha hK9, hD9⟩, Nat.le_trans hS.1 hsz, fun q h1 h2 => (hk q (Nat.lt_of_lt_of_le h1 hS.1)).trans (hS.2.1 q h1 h2)⟩) hS.2.2 (Nat.le_of_ble_eq_true rfl) (Nat.le_of_ble_eq_true rfl)
set_option maxHeartbeats 4000000 in
set_option maxRecDepth 100000 in
/-- fits, of an act -/
theorem c_D_fits (l : Launch) (dC : Nat → ClassId) (dI : Nat → Nat → Nat) (jd jh jh2 jg jb jy : Nat) (sd w : Int64) (jt jk jv jr n : Nat) (ck cv cr : ClassId) (K V R : Nat → Int32) (p0 : Int32) (hn : n ≤ 43) (ha : aB n K p0 = true) : Met l y_D_fits w_D_fits ({ frames := 3, cells := 0, slots := 0, locals := 64 }) (ro_P dC dI [.ref jd, .int p0] [(jd, .inr (2, [.long sd, .ref jh, .ref jh2, .ref jg, .ref jb, .ref jy, .long w])), (jh, .inr (1, [.ref jt, .ref jk, .ref jv, .ref jr, .int (nI n)])), (jk, .inl (ck, 43, .inl K)), (jv, .inl (cv, 43, .inl V)), (jr, .inl (cr, 43, .inl R))] [(ck, .int), (cv, .int), (cr, .int)]) (vp_Si (fun r => r = bI (fB n K V R p0))) 0 0 (fun _ => False) := by
  refine Met.ofW (cc := b_D_fits) (maxL := 2) (ret := (Option.some Jvm.ClassFile.FieldType.boolean)) (by decide) rfl ?_
  intro p e s m args below meth c s₁ B0 hml hv0
  obtain ⟨rfl, hP, hK, hN⟩ := hv0
  have hx := B0.exec
  have hb := B0.bytes
  have hr := B0.returns
  have hts := atoms_spec (ws := w_D_fits) B0.pre
  have hown : s.vm.findClass R_D = some m.cls := findClass_of_methodNamed B0.named
  have hlocks := B0.notSynchronized
  have hP : va_P (dC, dI) classes [(jd, .inr (2, [.long sd, .ref jh, .ref jh2, .ref jg, .ref jb, .ref jy, .long w])), (jh, .inr (1, [.ref jt, .ref jk, .ref jv, .ref jr, .int (nI n)])), (jk, .inl (ck, 43, .inl K)), (jv, .inl (cv, 43, .inl V)), (jr, .inl (cr, 43, .inl R))] s.heap := hP
  have hl := lv_entry ([.ref jd, .int p0]) (n := 2) (Nat.le_of_ble_eq_true rfl)
  rw [lg_entry_eq]
  generalize (lg_sl ([.ref jd, .int p0]) ++ List.replicate (2 - (lg_sl ([.ref jd, .int p0])).length) Slot.unset).toArray = ls at hl ⊢
  have hl : lv_has ls 2 [(0, .ref jd), (1, .int p0)] := hl
  refine lv_aload_n hx hb d_D_fits_0 rfl (lv_at hl 0 rfl) ?_
  refine va_get (D := (dC, dI)) (ci := 2) (v := .ref jh) (C := R_D) (T := F_D) (N := 7) hx hb hts (lay_D _) hown hK hP 0 rfl rfl 1 (by decide) (hts _ (List.mem_cons_of_mem _ m_57)) (fun _ h9 => h9) rfl d_D_fits_1 ?_
  refine lv_iload_n hx hb d_D_fits_4 rfl (lv_at hl 1 rfl) ?_
  have hPc := hP.sub (ws' := [(jh, .inr (1, [.ref jt, .ref jk, .ref jv, .ref jr, .int (nI n)])), (jk, .inl (ck, 43, .inl K))]) [1, 2] rfl
  have hKc := hK.sub (tys' := [(ck, .int)]) [0] rfl
  refine vp_callSi (va_Run.run (va_runVN (As := [.int p0]) (rest := []) ⟨hx, hb, hml, hown, hts⟩ (c_H_isAct l dC dI jh jt jk jv jr n ck K p0 (by first | assumption | omega)) ⟨va_cnB 1 hts (g_c big_w m_275) rfl rfl rfl (hN _ (by decide +kernel : (Jvm.Cond.methodLinkNest "PortDrawer" (94 : Nat) ({ cls := "PortDrawer$Harbour", name := "isAct", desc := "(I)Z" } : Jvm.MethodName) "PortDrawer") ∈ NWl)) (hts _ (List.mem_cons_of_mem _ m_2)) (by decide +kernel) ⟨Nat.le_of_ble_eq_true rfl, Nat.le_of_ble_eq_true rfl⟩, (hts _ (List.mem_cons_of_mem _ m_274)), (hts _ (List.mem_cons_of_mem _ ms_19))⟩ (ro_V hPc hKc hN (va_recv hKc hPc (ci := 1) (q0 := 0) rfl rfl)) rfl rfl hl.1 rfl (lv_room (Nat.le_of_ble_eq_true rfl)) d_D_fits_5 ⟨Nat.le_of_ble_eq_true rfl, Nat.le_of_ble_eq_true rfl⟩)) (fun r_1 er_1 => ?_)
  have er_1 := er_1.symm
  subst er_1
  refine lv_if_ne (tgt := 21) hx hb d_D_fits_8 (by decide) (fun c_8 => ?_) (fun c_8 => ?_)
  · skip
    have c_8 := bI_t c_8
    refine lv_aload_n hx hb d_D_fits_21 rfl (lv_at hl 0 rfl) ?_
    refine va_get (D := (dC, dI)) (ci := 2) (v := .ref jh) (C := R_D) (T := F_D) (N := 7) hx hb hts (lay_D _) hown hK hP 0 rfl rfl 1 (by decide) (hts _ (List.mem_cons_of_mem _ m_57)) (fun _ h9 => h9) rfl d_D_fits_22 ?_
    refine lv_iload_n hx hb d_D_fits_25 rfl (lv_at hl 1 rfl) ?_
    have hPc := hP.sub (ws' := [(jh, .inr (1, [.ref jt, .ref jk, .ref jv, .ref jr, .int (nI n)])), (jk, .inl (ck, 43, .inl K)), (jv, .inl (cv, 43, .inl V)), (jr, .inl (cr, 43, .inl R))]) [1, 2, 3, 4] rfl
    have hKc := hK.sub (tys' := [(ck, .int), (cv, .int), (cr, .int)]) [0, 1, 2] rfl
    refine vp_callSi (va_Run.run (va_runVN (As := [.int p0]) (rest := []) ⟨hx, hb, hml, hown, hts⟩ (c_H_isFittingAct l dC dI jh jt jk jv jr n ck cv cr K V R p0 (by first | assumption | omega)) ⟨va_cnB 1 hts (g_c big_w m_271) rfl rfl rfl (hN _ (by decide +kernel : (Jvm.Cond.methodLinkNest "PortDrawer" (99 : Nat) ({ cls := "PortDrawer$Harbour", name := "isFittingAct", desc := "(I)Z" } : Jvm.MethodName) "PortDrawer") ∈ NWl)) (hts _ (List.mem_cons_of_mem _ m_2)) (by decide +kernel) ⟨Nat.le_of_ble_eq_true rfl, Nat.le_of_ble_eq_true rfl⟩, (hts _ (List.mem_cons_of_mem _ m_270)), (hts _ (List.mem_cons_of_mem _ ms_18))⟩ (ro_V hPc hKc hN (va_recv hKc hPc (ci := 1) (q0 := 0) rfl rfl)) rfl rfl hl.1 rfl (lv_room (Nat.le_of_ble_eq_true rfl)) d_D_fits_26 ⟨Nat.le_of_ble_eq_true rfl, Nat.le_of_ble_eq_true rfl⟩)) (fun r_2 er_2 => ?_)
    have er_2 := er_2.symm
    subst er_2
    exact W.zret (v := bI (fB n K V R p0)) (ty := .boolean) hx hb hr (bI_nar _) (fun t ht hW => ⟨bI (fB n K V R p0), rfl, rfl, ht⟩) (fun _ h => nomatch h) d_D_fits_29
  · skip
    have c_8 := bI_f c_8
    exact absurd c_8 (by rw [ha]; decide)
set_option maxHeartbeats 4000000 in
set_option maxRecDepth 100000 in
/-- fits, of no act -/
theorem c_D_fitsx (l : Launch) (hl9 : l.stackTraces = false) (dC : Nat → ClassId) (dI : Nat → Nat → Nat) (jd jh jh2 jg jb jy : Nat) (sd w : Int64) (jt jk jv jr n : Nat) (ck : ClassId) (K : Nat → Int32) (p0 : Int32) (hn : n ≤ 43) (hex : aB n K p0 = false) (sa : Nat → Nat) (sz : Nat) : vx_Met l y_D_fits w_D_fits ({ frames := 6, cells := 1, slots := 6, locals := 100 }) (wx_P dC dI [.ref jd, .int p0] [(jd, .inr (2, [.long sd, .ref jh, .ref jh2, .ref jg, .ref jb, .ref jy, .long w])), (jh, .inr (1, [.ref jt, .ref jk, .ref jv, .ref jr, .int (nI n)])), (jk, .inl (ck, 43, .inl K))] [(ck, .int)] sa sz) (va_Qi (fun (r : Int32) (_ : Unit) => False) (fun (u : Unit) => wr_B dC dI (va_A [(jd, .inr (2, [.long sd, .ref jh, .ref jh2, .ref jg, .ref jb, .ref jy, .long w])), (jh, .inr (1, [.ref jt, .ref jk, .ref jv, .ref jr, .int (nI n)])), (jk, .inl (ck, 43, .inl K))] sz) [(jd, .inr (2, [.long sd, .ref jh, .ref jh2, .ref jg, .ref jb, .ref jy, .long w])), (jh, .inr (1, [.ref jt, .ref jk, .ref jv, .ref jr, .int (nI n)])), (jk, .inl (ck, 43, .inl K))] [(ck, .int)]) (va_A [(jd, .inr (2, [.long sd, .ref jh, .ref jh2, .ref jg, .ref jb, .ref jy, .long w])), (jh, .inr (1, [.ref jt, .ref jk, .ref jv, .ref jr, .int (nI n)])), (jk, .inl (ck, 43, .inl K))] sz)) (wx_X dC dI "java/lang/IllegalArgumentException" (va_A [(jd, .inr (2, [.long sd, .ref jh, .ref jh2, .ref jg, .ref jb, .ref jy, .long w])), (jh, .inr (1, [.ref jt, .ref jk, .ref jv, .ref jr, .int (nI n)])), (jk, .inl (ck, 43, .inl K))] sz) [(jd, .inr (2, [.long sd, .ref jh, .ref jh2, .ref jg, .ref jb, .ref jy, .long w])), (jh, .inr (1, [.ref jt, .ref jk, .ref jv, .ref jr, .int (nI n)])), (jk, .inl (ck, 43, .inl K))] [(ck, .int)]) 1 6 (va_A [(jd, .inr (2, [.long sd, .ref jh, .ref jh2, .ref jg, .ref jb, .ref jy, .long w])), (jh, .inr (1, [.ref jt, .ref jk, .ref jv, .ref jr, .int (nI n)])), (jk, .inl (ck, 43, .inl K))] sz) := by
  refine vx_ofW (cc := b_D_fits) (maxL := 2) (ret := (Option.some Jvm.ClassFile.FieldType.boolean)) (by decide) rfl ?_
  intro p e s m args below meth c s₁ B0 hml hEx hv0
  obtain ⟨rfl, hsz, hP, hK, hD0, hN, hT, hZ⟩ := hv0
  have hx := B0.exec
  have hb := B0.bytes
  have hr := B0.returns
  have hts := atoms_spec (ws := w_D_fits) B0.pre
  have hown : s.vm.findClass R_D = some m.cls := findClass_of_methodNamed B0.named
  have hlocks := B0.notSynchronized
  subst hsz
  have hD := hD0.self (sz := s.heap.size)
  generalize hAe : va_A [(jd, .inr (2, [.long sd, .ref jh, .ref jh2, .ref jg, .ref jb, .ref jy, .long w])), (jh, .inr (1, [.ref jt, .ref jk, .ref jv, .ref jr, .int (nI n)])), (jk, .inl (ck, 43, .inl K))] s.heap.size = A at hD hZ ⊢
  have hA : ∀ q : Nat, s.heap.size ≤ q → A q := fun q h => by rw [← hAe]; exact Or.inr h
  have hS : va_S A s.heap s.heap [] := va_S.rf
  have hP : va_P (dC, dI) classes [(jd, .inr (2, [.long sd, .ref jh, .ref jh2, .ref jg, .ref jb, .ref jy, .long w])), (jh, .inr (1, [.ref jt, .ref jk, .ref jv, .ref jr, .int (nI n)])), (jk, .inl (ck, 43, .inl K))] s.heap := hP
  have hl := lv_entry ([.ref jd, .int p0]) (n := 2) (Nat.le_of_ble_eq_true rfl)
  rw [lg_entry_eq]
  generalize (lg_sl ([.ref jd, .int p0]) ++ List.replicate (2 - (lg_sl ([.ref jd, .int p0])).length) Slot.unset).toArray = ls at hl ⊢
  have hl : lv_has ls 2 [(0, .ref jd), (1, .int p0)] := hl
  refine lv_aload_n hx hb d_D_fits_0 rfl (lv_at hl 0 rfl) ?_
  refine va_get (D := (dC, dI)) (ci := 2) (v := .ref jh) (C := R_D) (T := F_D) (N := 7) hx hb hts (lay_D _) hown hK hP 0 rfl rfl 1 (by decide) (hts _ (List.mem_cons_of_mem _ m_57)) (fun _ h9 => h9) rfl d_D_fits_1 ?_
  refine lv_iload_n hx hb d_D_fits_4 rfl (lv_at hl 1 rfl) ?_
  have hPc := hP.sub (ws' := [(jh, .inr (1, [.ref jt, .ref jk, .ref jv, .ref jr, .int (nI n)])), (jk, .inl (ck, 43, .inl K))]) [1, 2] rfl
  have hKc := hK.sub (tys' := [(ck, .int)]) [0] rfl
  refine vp_callSi (va_Run.run (va_runVN (As := [.int p0]) (rest := []) ⟨hx, hb, hml, hown, hts⟩ (c_H_isAct l dC dI jh jt jk jv jr n ck K p0 (by first | assumption | omega)) ⟨va_cnB 1 hts (g_c big_w m_275) rfl rfl rfl (hN _ (by decide +kernel : (Jvm.Cond.methodLinkNest "PortDrawer" (94 : Nat) ({ cls := "PortDrawer$Harbour", name := "isAct", desc := "(I)Z" } : Jvm.MethodName) "PortDrawer") ∈ NWl)) (hts _ (List.mem_cons_of_mem _ m_2)) (by decide +kernel) ⟨Nat.le_of_ble_eq_true rfl, Nat.le_of_ble_eq_true rfl⟩, (hts _ (List.mem_cons_of_mem _ m_274)), (hts _ (List.mem_cons_of_mem _ ms_19))⟩ (ro_V hPc hKc hN (va_recv hKc hPc (ci := 1) (q0 := 0) rfl rfl)) rfl rfl hl.1 rfl (lv_room (Nat.le_of_ble_eq_true rfl)) d_D_fits_5 ⟨Nat.le_of_ble_eq_true rfl, Nat.le_of_ble_eq_true rfl⟩)) (fun r_1 er_1 => ?_)
  have er_1 := er_1.symm
  subst er_1
  refine lv_if_ne (tgt := 21) hx hb d_D_fits_8 (by decide) (fun c_8 => ?_) (fun c_8 => ?_)
  · skip
    have c_8 := bI_t c_8
    exact absurd c_8 (by rw [hex]; decide)
  · skip
    have c_8 := bI_f c_8
    have hP9 := hP.sub (ws' := [(jd, .inr (2, [.long sd, .ref jh, .ref jh2, .ref jg, .ref jb, .ref jy, .long w])), (jh, .inr (1, [.ref jt, .ref jk, .ref jv, .ref jr, .int (nI n)])), (jk, .inl (ck, 43, .inl K))]) [0, 1, 2] rfl
    have hD9 := hD.sub (ws' := [(jd, .inr (2, [.long sd, .ref jh, .ref jh2, .ref jg, .ref jb, .ref jy, .long w])), (jh, .inr (1, [.ref jt, .ref jk, .ref jv, .ref jr, .int (nI n)])), (jk, .inl (ck, 43, .inl K))]) [0, 1, 2] (by decide) rfl
    have hK9 := hK.sub (tys' := [(ck, .int)]) [0] rfl
    exact vx_throwS (own := R_D) (cls := "java/lang/IllegalArgumentException") (names := ["java/lang/RuntimeException", "java/lang/Exception"]) hx hb hl9 hown (by decide +kernel) (by decide +kernel) (hts _ (List.mem_cons_of_mem _ m_160)) (hts _ (List.mem_cons_of_mem _ m_8)) (hT (97, "no such act") (by decide +kernel)) (hat_ok hts hN (L := vx_atS R_D 45 "java/lang/IllegalArgumentException" ["java/lang/RuntimeException", "java/lang/Exception"]) (by decide +kernel) (by decide +kernel)) (by decide +kernel) hZ.1 hZ.2 hS (hl.1.trans hml.symm) d_D_fits_11 d_D_fits_14 d_D_fits_15 d_D_fits_17 d_D_fits_20 (fun x h => (hEx x h).elim) (Nat.le_of_ble_eq_true rfl) (Nat.le_of_ble_eq_true rfl) (Nat.le_of_ble_eq_true rfl) (Nat.le_of_ble_eq_true rfl) hlocks (fun t ha hsz hk => ⟨(), trivial, ⟨rfl, hP9.kept (fun k q hq => hk q.1 (hP9 k q hq).lt), va_K.moved ha hK9, hD9⟩, Nat.le_trans hS.1 hsz, fun q h1 h2 => (hk q (Nat.lt_of_lt_of_le h1 hS.1)).trans (hS.2.1 q h1 h2)⟩) hS.2.2 (Nat.le_of_ble_eq_true rfl) (Nat.le_of_ble_eq_true rfl)
set_option maxHeartbeats 4000000 in
set_option maxRecDepth 100000 in
/-- without, of a part that is left -/
theorem c_D_without (l : Launch) (dC : Nat → ClassId) (dI : Nat → Nat → Nat) (jd jh jh2 jg jb jy : Nat) (sd w : Int64) (jt jk jv jr n : Nat) (cg : ClassId) (G : Nat → Int64) (i : Nat) (hn : n ≤ 43) (hi : i < n) (hw9 : wbit w i = true) (sz : Nat) : Met l y_D_without w_D_without ({ frames := 1, cells := 0, slots := 0, locals := 22 }) (wr_P dC dI [.ref jd, .int (nI i)] [(jd, .inr (2, [.long sd, .ref jh, .ref jh2, .ref jg, .ref jb, .ref jy, .long w])), (jh, .inr (1, [.ref jt, .ref jk, .ref jv, .ref jr, .int (nI n)])), (jg, .inl (cg, 43, .inr (.inl G)))] [(cg, .long)] sz) (va_Qi (fun (r : Int32) (_ : Unit) => r = (nI (cnt (wbit w) 64)) - (nI (cnt (wbit (noW w (G i))) 64))) (fun (u : Unit) => wr_B dC dI (va_A [(jd, .inr (2, [.long sd, .ref jh, .ref jh2, .ref jg, .ref jb, .ref jy, .long w])), (jh, .inr (1, [.ref jt, .ref jk, .ref jv, .ref jr, .int (nI n)])), (jg, .inl (cg, 43, .inr (.inl G)))] sz) [(jd, .inr (2, [.long sd, .ref jh, .ref jh2, .ref jg, .ref jb, .ref jy, .long (noW w (G i))])), (jh, .inr (1, [.ref jt, .ref jk, .ref jv, .ref jr, .int (nI n)])), (jg, .inl (cg, 43, .inr (.inl G)))] [(cg, .long)]) (va_A [(jd, .inr (2, [.long sd, .ref jh, .ref jh2, .ref jg, .ref jb, .ref jy, .long w])), (jh, .inr (1, [.ref jt, .ref jk, .ref jv, .ref jr, .int (nI n)])), (jg, .inl (cg, 43, .inr (.inl G)))] sz)) 0 0 (va_A [(jd, .inr (2, [.long sd, .ref jh, .ref jh2, .ref jg, .ref jb, .ref jy, .long w])), (jh, .inr (1, [.ref jt, .ref jk, .ref jv, .ref jr, .int (nI n)])), (jg, .inl (cg, 43, .inr (.inl G)))] sz) := by
  refine Met.ofW (cc := b_D_without) (maxL := 3) (ret := (Option.some Jvm.ClassFile.FieldType.int)) (by decide) rfl ?_
  intro p e s m args below meth c s₁ B0 hml hv0
  obtain ⟨rfl, hsz, hP, hK, hD0, hN⟩ := hv0
  have hx := B0.exec
  have hb := B0.bytes
  have hr := B0.returns
  have hts := atoms_spec (ws := w_D_without) B0.pre
  have hown : s.vm.findClass R_D = some m.cls := findClass_of_methodNamed B0.named
  have hlocks := B0.notSynchronized
  subst hsz
  have hD := hD0.self (sz := s.heap.size)
  generalize hAe : va_A [(jd, .inr (2, [.long sd, .ref jh, .ref jh2, .ref jg, .ref jb, .ref jy, .long w])), (jh, .inr (1, [.ref jt, .ref jk, .ref jv, .ref jr, .int (nI n)])), (jg, .inl (cg, 43, .inr (.inl G)))] s.heap.size = A at hD ⊢
  have hA : ∀ q : Nat, s.heap.size ≤ q → A q := fun q h => by rw [← hAe]; exact Or.inr h
  have hS : va_S A s.heap s.heap [] := va_S.rf
  have hP : va_P (dC, dI) classes [(jd, .inr (2, [.long sd, .ref jh, .ref jh2, .ref jg, .ref jb, .ref jy, .long w])), (jh, .inr (1, [.ref jt, .ref jk, .ref jv, .ref jr, .int (nI n)])), (jg, .inl (cg, 43, .inr (.inl G)))] s.heap := hP
  have hl := lv_entry ([.ref jd, .int (nI i)]) (n := 3) (Nat.le_of_ble_eq_true rfl)
  rw [lg_entry_eq]
  generalize (lg_sl ([.ref jd, .int (nI i)]) ++ List.replicate (3 - (lg_sl ([.ref jd, .int (nI i)])).length) Slot.unset).toArray = ls at hl ⊢
  have hl : lv_has ls 3 [(0, .ref jd), (1, .int (nI i))] := hl
  refine lv_aload_n hx hb d_D_without_0 rfl (lv_at hl 0 rfl) ?_
  refine va_get (D := (dC, dI)) (ci := 2) (v := .ref jh) (C := R_D) (T := F_D) (N := 7) hx hb hts (lay_D _) hown hK hP 0 rfl rfl 1 (by decide) (hts _ (List.mem_cons_of_mem _ m_57)) (fun _ h9 => h9) rfl d_D_without_1 ?_
  refine lv_iload_n hx hb d_D_without_4 rfl (lv_at hl 1 rfl) ?_
  have hPc := hP.sub (ws' := [(jh, .inr (1, [.ref jt, .ref jk, .ref jv, .ref jr, .int (nI n)]))]) [1] rfl
  have hKc := hK.sub (tys' := []) [] rfl
  refine vp_callSi (va_Run.run (va_runVN (As := [.int (nI i)]) (rest := []) ⟨hx, hb, hml, hown, hts⟩ (c_H_has l dC dI jh jt jk jv jr n (nI i)) ⟨va_cnB 1 hts (g_c big_w m_263) rfl rfl rfl (hN _ (by decide +kernel : (Jvm.Cond.methodLinkNest "PortDrawer" (66 : Nat) ({ cls := "PortDrawer$Harbour", name := "has", desc := "(I)Z" } : Jvm.MethodName) "PortDrawer") ∈ NWl)) (hts _ (List.mem_cons_of_mem _ m_2)) (by decide +kernel) ⟨Nat.le_of_ble_eq_true rfl, Nat.le_of_ble_eq_true rfl⟩, (hts _ (List.mem_cons_of_mem _ m_262)), (hts _ (List.mem_cons_of_mem _ ms_16))⟩ (ro_V hPc hKc hN (va_recv hKc hPc (ci := 1) (q0 := 0) rfl rfl)) rfl rfl hl.1 rfl (lv_room (Nat.le_of_ble_eq_true rfl)) d_D_without_5 ⟨Nat.le_of_ble_eq_true rfl, Nat.le_of_ble_eq_true rfl⟩)) (fun r_1 er_1 => ?_)
  have er_1 := er_1.symm
  subst er_1
  refine lv_if_eq (tgt := 22) hx hb d_D_without_8 (by decide) (fun c_8 => ?_) (fun c_8 => ?_)
  · skip
    have c_8 := bI_f c_8
    exact absurd c_8 (by rw [hB_nI hi (by omega)]; decide)
  · skip
    have c_8 := bI_t c_8
    refine lv_aload_n hx hb d_D_without_11 rfl (lv_at hl 0 rfl) ?_
    refine va_get (D := (dC, dI)) (ci := 2) (v := .long w) (C := R_D) (T := F_D) (N := 7) hx hb hts (lay_D _) hown hK hP 0 rfl rfl 6 (by decide) (hts _ (List.mem_cons_of_mem _ m_62)) (fun _ h9 => h9) rfl d_D_without_12 ?_
    refine lv_iload_n hx hb d_D_without_15 rfl (lv_at hl 1 rfl) ?_
    have hPc := hP.sub (ws' := []) [] rfl
    have hKc := hK.sub (tys' := []) [] rfl
    refine vp_callSi (W.runS (As := [.long w, .int (nI i)]) (rest := []) ⟨hx, hb, hml, hown, hts⟩ (c_D_isIn l dC dI w i (by first | assumption | omega)) (va_cwS 2 hts (g_S big_w m_114 m_115 m_1 m_116) rfl rfl rfl (by decide +kernel) ⟨Nat.le_of_ble_eq_true rfl, Nat.le_of_ble_eq_true rfl⟩) (ro_S hPc hKc hN) rfl rfl hl.1 rfl (lv_room (Nat.le_of_ble_eq_true rfl)) d_D_without_16 ⟨Nat.le_of_ble_eq_true rfl, Nat.le_of_ble_eq_true rfl⟩) (fun r_2 er_2 => ?_)
    have er_2 := er_2.symm
    subst er_2
    refine lv_if_ne (tgt := 32) hx hb d_D_without_19 (by decide) (fun c_19 => ?_) (fun c_19 => ?_)
    · skip
      have c_19 := bI_t c_19
      refine lv_aload_n hx hb d_D_without_32 rfl (lv_at hl 0 rfl) ?_
      refine va_get (D := (dC, dI)) (ci := 2) (v := .long w) (C := R_D) (T := F_D) (N := 7) hx hb hts (lay_D _) hown hK hP 0 rfl rfl 6 (by decide) (hts _ (List.mem_cons_of_mem _ m_62)) (fun _ h9 => h9) rfl d_D_without_33 ?_
      have hPc := hP.sub (ws' := []) [] rfl
      have hKc := hK.sub (tys' := []) [] rfl
      refine vp_callSi (W.runS (As := [.long w]) (rest := []) ⟨hx, hb, hml, hown, hts⟩ (c_J_bitCount l dC dI w) (va_cwS 1 hts (g_S big_w m_104 m_105 m_10 m_106) rfl rfl rfl (by decide +kernel) ⟨Nat.le_of_ble_eq_true rfl, Nat.le_of_ble_eq_true rfl⟩) (ro_S hPc hKc hN) rfl rfl hl.1 rfl (lv_room (Nat.le_of_ble_eq_true rfl)) d_D_without_36 ⟨Nat.le_of_ble_eq_true rfl, Nat.le_of_ble_eq_true rfl⟩) (fun r_3 er_3 => ?_)
      have er_3 := er_3.symm
      subst er_3
      refine lv_istore_n (lv' := [(2, .int (nI (cnt (wbit w) 64))), (0, .ref jd), (1, .int (nI i))]) hx hb d_D_without_39 rfl hl (by decide) rfl (fun ls hl => ?_)
      refine lv_aload_n hx hb d_D_without_40 rfl (lv_at hl 1 rfl) ?_
      refine lv_aload_n hx hb d_D_without_41 rfl (lv_at hl 1 rfl) ?_
      refine lv_iload_n hx hb d_D_without_42 rfl (lv_at hl 2 rfl) ?_
      have hPc := hP.sub (ws' := [(jd, .inr (2, [.long sd, .ref jh, .ref jh2, .ref jg, .ref jb, .ref jy, .long w])), (jg, .inl (cg, 43, .inr (.inl G)))]) [0, 2] rfl
      have hKc := hK.sub (tys' := [(cg, .long)]) [0] rfl
      refine vp_callSl (W.runV (As := [.int (nI i)]) (rest := [.ref jd]) ⟨hx, hb, hml, hown, hts⟩ (c_D_leftWithout l dC dI jd jh jh2 jg jb jy sd w cg G i (by first | assumption | omega)) (cwV 1 hts (g_V big_w m_117 m_119 ms_4 m_1 m_120) rfl rfl rfl (by decide +kernel) ⟨Nat.le_of_ble_eq_true rfl, Nat.le_of_ble_eq_true rfl⟩) (ro_V hPc hKc hN (va_recv hKc hPc (ci := 2) (q0 := 0) rfl rfl)) rfl rfl hl.1 rfl (lv_room (Nat.le_of_ble_eq_true rfl)) d_D_without_43 ⟨Nat.le_of_ble_eq_true rfl, Nat.le_of_ble_eq_true rfl⟩) (fun r_4 er_4 => ?_)
      have er_4 := er_4.symm
      subst er_4
      refine va_put (D := (dC, dI)) (ci := 2) (v := .long (noW w (G i))) (ty := .long) (C := R_D) (T := F_D) (N := 7) hx hb hts (lay_D _) ft_D tok_D nok_D hown hK hP hD hS 0 rfl rfl 6 (by decide) (hts _ (List.mem_cons_of_mem _ m_62)) (fun _ h9 => h9) rfl (by decide +kernel) rfl rfl (Nat.le_of_ble_eq_true rfl) d_D_without_46 (fun H locs hP hD hS => ?_)
      have hP : va_P (dC, dI) classes [(jd, .inr (2, [.long sd, .ref jh, .ref jh2, .ref jg, .ref jb, .ref jy, .long (noW w (G i))])), (jh, .inr (1, [.ref jt, .ref jk, .ref jv, .ref jr, .int (nI n)])), (jg, .inl (cg, 43, .inr (.inl G)))] H := hP
      have hD : va_D A [(jd, .inr (2, [.long sd, .ref jh, .ref jh2, .ref jg, .ref jb, .ref jy, .long (noW w (G i))])), (jh, .inr (1, [.ref jt, .ref jk, .ref jv, .ref jr, .int (nI n)])), (jg, .inl (cg, 43, .inr (.inl G)))] := hD
      refine lv_iload_n hx hb d_D_without_49 rfl (lv_at hl 0 rfl) ?_
      refine lv_aload_n hx hb d_D_without_50 rfl (lv_at hl 1 rfl) ?_
      refine va_get (D := (dC, dI)) (ci := 2) (v := .long (noW w (G i))) (C := R_D) (T := F_D) (N := 7) hx hb hts (lay_D _) hown hK hP 0 rfl rfl 6 (by decide) (hts _ (List.mem_cons_of_mem _ m_62)) (fun _ h9 => h9) rfl d_D_without_51 ?_
      have hPc := hP.sub (ws' := []) [] rfl
      have hKc := hK.sub (tys' := []) [] rfl
      refine vp_callSi (W.runS (As := [.long (noW w (G i))]) (rest := [.int (nI (cnt (wbit w) 64))]) ⟨hx, hb, hml, hown, hts⟩ (c_J_bitCount l dC dI (noW w (G i))) (va_cwS 1 hts (g_S big_w m_104 m_105 m_10 m_106) rfl rfl rfl (by decide +kernel) ⟨Nat.le_of_ble_eq_true rfl, Nat.le_of_ble_eq_true rfl⟩) (ro_S hPc hKc hN) rfl rfl hl.1 rfl (lv_room (Nat.le_of_ble_eq_true rfl)) d_D_without_54 ⟨Nat.le_of_ble_eq_true rfl, Nat.le_of_ble_eq_true rfl⟩) (fun r_5 er_5 => ?_)
      have er_5 := er_5.symm
      subst er_5
      refine lv_isub hx hb d_D_without_57 ?_
      have hP9 := hP.sub (ws' := [(jd, .inr (2, [.long sd, .ref jh, .ref jh2, .ref jg, .ref jb, .ref jy, .long (noW w (G i))])), (jh, .inr (1, [.ref jt, .ref jk, .ref jv, .ref jr, .int (nI n)])), (jg, .inl (cg, 43, .inr (.inl G)))]) [0, 1, 2] rfl
      have hD9 := hD.sub (ws' := [(jd, .inr (2, [.long sd, .ref jh, .ref jh2, .ref jg, .ref jb, .ref jy, .long (noW w (G i))])), (jh, .inr (1, [.ref jt, .ref jk, .ref jv, .ref jr, .int (nI n)])), (jg, .inl (cg, 43, .inr (.inl G)))]) [0, 1, 2] (by decide) rfl
      have hK9 := hK.sub (tys' := [(cg, .long)]) [0] rfl
      exact W.iret (v := (nI (cnt (wbit w) 64)) - (nI (cnt (wbit (noW w (G i))) 64))) hx hb hr (fun t ht hW => ⟨⟨(nI (cnt (wbit w) 64)) - (nI (cnt (wbit (noW w (G i))) 64)), (), rfl, rfl, by rw [ht]; exact hP9, va_K.moved hW.alike hK9, hD9⟩, hS.F ht⟩) hS.2.2 d_D_without_58
    · skip
      have c_19 := bI_f c_19
      exact absurd c_19 (by rw [hw9]; decide)
set_option maxHeartbeats 4000000 in
set_option maxRecDepth 100000 in
/-- without, of another -/
theorem c_D_withoutx (l : Launch) (hl9 : l.stackTraces = false) (dC : Nat → ClassId) (dI : Nat → Nat → Nat) (jd jh jh2 jg jb jy : Nat) (sd w : Int64) (jt jk jv jr n : Nat) (p0 : Int32) (hn : n ≤ 43) (hex : hB n p0 = false ∨ wbit w p0.toNatClampNeg = false) (sa : Nat → Nat) (sz : Nat) : vx_Met l y_D_without w_D_without ({ frames := 6, cells := 1, slots := 6, locals := 100 }) (wx_P dC dI [.ref jd, .int p0] [(jd, .inr (2, [.long sd, .ref jh, .ref jh2, .ref jg, .ref jb, .ref jy, .long w])), (jh, .inr (1, [.ref jt, .ref jk, .ref jv, .ref jr, .int (nI n)]))] [] sa sz) (va_Qi (fun (r : Int32) (_ : Unit) => False) (fun (u : Unit) => wr_B dC dI (va_A [(jd, .inr (2, [.long sd, .ref jh, .ref jh2, .ref jg, .ref jb, .ref jy, .long w])), (jh, .inr (1, [.ref jt, .ref jk, .ref jv, .ref jr, .int (nI n)]))] sz) [(jd, .inr (2, [.long sd, .ref jh, .ref jh2, .ref jg, .ref jb, .ref jy, .long w])), (jh, .inr (1, [.ref jt, .ref jk, .ref jv, .ref jr, .int (nI n)]))] []) (va_A [(jd, .inr (2, [.long sd, .ref jh, .ref jh2, .ref jg, .ref jb, .ref jy, .long w])), (jh, .inr (1, [.ref jt, .ref jk, .ref jv, .ref jr, .int (nI n)]))] sz)) (wx_X dC dI "java/lang/IllegalArgumentException" (va_A [(jd, .inr (2, [.long sd, .ref jh, .ref jh2, .ref jg, .ref jb, .ref jy, .long w])), (jh, .inr (1, [.ref jt, .ref jk, .ref jv, .ref jr, .int (nI n)]))] sz) [(jd, .inr (2, [.long sd, .ref jh, .ref jh2, .ref jg, .ref jb, .ref jy, .long w])), (jh, .inr (1, [.ref jt, .ref jk, .ref jv, .ref jr, .int (nI n)]))] []) 1 6 (va_A [(jd, .inr (2, [.long sd, .ref jh, .ref jh2, .ref jg, .ref jb, .ref jy, .long w])), (jh, .inr (1, [.ref jt, .ref jk, .ref jv, .ref jr, .int (nI n)]))] sz) := by
  refine vx_ofW (cc := b_D_without) (maxL := 3) (ret := (Option.some Jvm.ClassFile.FieldType.int)) (by decide) rfl ?_
  intro p e s m args below meth c s₁ B0 hml hEx hv0
  obtain ⟨rfl, hsz, hP, hK, hD0, hN, hT, hZ⟩ := hv0
  have hx := B0.exec
  have hb := B0.bytes
  have hr := B0.returns
  have hts := atoms_spec (ws := w_D_without) B0.pre
  have hown : s.vm.findClass R_D = some m.cls := findClass_of_methodNamed B0.named
  have hlocks := B0.notSynchronized
  subst hsz
  have hD := hD0.self (sz := s.heap.size)
  generalize hAe : va_A [(jd, .inr (2, [.long sd, .ref jh, .ref jh2, .ref jg, .ref jb, .ref jy, .long w])), (jh, .inr (1, [.ref jt, .ref jk, .ref jv, .ref jr, .int (nI n)]))] s.heap.size = A at hD hZ ⊢
  have hA : ∀ q : Nat, s.heap.size ≤ q → A q := fun q h => by rw [← hAe]; exact Or.inr h
  have hS : va_S A s.heap s.heap [] := va_S.rf
  have hP : va_P (dC, dI) classes [(jd, .inr (2, [.long sd, .ref jh, .ref jh2, .ref jg, .ref jb, .ref jy, .long w])), (jh, .inr (1, [.ref jt, .ref jk, .ref jv, .ref jr, .int (nI n)]))] s.heap := hP
  have hl := lv_entry ([.ref jd, .int p0]) (n := 3) (Nat.le_of_ble_eq_true rfl)
  rw [lg_entry_eq]
  generalize (lg_sl ([.ref jd, .int p0]) ++ List.replicate (3 - (lg_sl ([.ref jd, .int p0])).length) Slot.unset).toArray = ls at hl ⊢
  have hl : lv_has ls 3 [(0, .ref jd), (1, .int p0)] := hl
  refine lv_aload_n hx hb d_D_without_0 rfl (lv_at hl 0 rfl) ?_
  refine va_get (D := (dC, dI)) (ci := 2) (v := .ref jh) (C := R_D) (T := F_D) (N := 7) hx hb hts (lay_D _) hown hK hP 0 rfl rfl 1 (by decide) (hts _ (List.mem_cons_of_mem _ m_57)) (fun _ h9 => h9) rfl d_D_without_1 ?_
  refine lv_iload_n hx hb d_D_without_4 rfl (lv_at hl 1 rfl) ?_
  have hPc := hP.sub (ws' := [(jh, .inr (1, [.ref jt, .ref jk, .ref jv, .ref jr, .int (nI n)]))]) [1] rfl
  have hKc := hK.sub (tys' := []) [] rfl
  refine vp_callSi (va_Run.run (va_runVN (As := [.int p0]) (rest := []) ⟨hx, hb, hml, hown, hts⟩ (c_H_has l dC dI jh jt jk jv jr n p0) ⟨va_cnB 1 hts (g_c big_w m_263) rfl rfl rfl (hN _ (by decide +kernel : (Jvm.Cond.methodLinkNest "PortDrawer" (66 : Nat) ({ cls := "PortDrawer$Harbour", name := "has", desc := "(I)Z" } : Jvm.MethodName) "PortDrawer") ∈ NWl)) (hts _ (List.mem_cons_of_mem _ m_2)) (by decide +kernel) ⟨Nat.le_of_ble_eq_true rfl, Nat.le_of_ble_eq_true rfl⟩, (hts _ (List.mem_cons_of_mem _ m_262)), (hts _ (List.mem_cons_of_mem _ ms_16))⟩ (ro_V hPc hKc hN (va_recv hKc hPc (ci := 1) (q0 := 0) rfl rfl)) rfl rfl hl.1 rfl (lv_room (Nat.le_of_ble_eq_true rfl)) d_D_without_5 ⟨Nat.le_of_ble_eq_true rfl, Nat.le_of_ble_eq_true rfl⟩)) (fun r_1 er_1 => ?_)
  have er_1 := er_1.symm
  subst er_1
  refine lv_if_eq (tgt := 22) hx hb d_D_without_8 (by decide) (fun c_8 => ?_) (fun c_8 => ?_)
  · skip
    have c_8 := bI_f c_8
    have hP9 := hP.sub (ws' := [(jd, .inr (2, [.long sd, .ref jh, .ref jh2, .ref jg, .ref jb, .ref jy, .long w])), (jh, .inr (1, [.ref jt, .ref jk, .ref jv, .ref jr, .int (nI n)]))]) [0, 1] rfl
    have hD9 := hD.sub (ws' := [(jd, .inr (2, [.long sd, .ref jh, .ref jh2, .ref jg, .ref jb, .ref jy, .long w])), (jh, .inr (1, [.ref jt, .ref jk, .ref jv, .ref jr, .int (nI n)]))]) [0, 1] (by decide) rfl
    have hK9 := hK.sub (tys' := []) [] rfl
    exact vx_throwS (own := R_D) (cls := "java/lang/IllegalArgumentException") (names := ["java/lang/RuntimeException", "java/lang/Exception"]) hx hb hl9 hown (by decide +kernel) (by decide +kernel) (hts _ (List.mem_cons_of_mem _ m_160)) (hts _ (List.mem_cons_of_mem _ m_8)) (hT (123, "no such part is left") (by decide +kernel)) (hat_ok hts hN (L := vx_atS R_D 45 "java/lang/IllegalArgumentException" ["java/lang/RuntimeException", "java/lang/Exception"]) (by decide +kernel) (by decide +kernel)) (by decide +kernel) hZ.1 hZ.2 hS (hl.1.trans hml.symm) d_D_without_22 d_D_without_25 d_D_without_26 d_D_without_28 d_D_without_31 (fun x h => (hEx x h).elim) (Nat.le_of_ble_eq_true rfl) (Nat.le_of_ble_eq_true rfl) (Nat.le_of_ble_eq_true rfl) (Nat.le_of_ble_eq_true rfl) hlocks (fun t ha hsz hk => ⟨(), trivial, ⟨rfl, hP9.kept (fun k q hq => hk q.1 (hP9 k q hq).lt), va_K.moved ha hK9, hD9⟩, Nat.le_trans hS.1 hsz, fun q h1 h2 => (hk q (Nat.lt_of_lt_of_le h1 hS.1)).trans (hS.2.1 q h1 h2)⟩) hS.2.2 (Nat.le_of_ble_eq_true rfl) (Nat.le_of_ble_eq_true rfl)
  · skip
    have c_8 := bI_t c_8
    obtain ⟨i, hi, e9⟩ := hB_of c_8 (by omega)
    rw [show p0 = nI i from (e9)] at hl
    refine lv_aload_n hx hb d_D_without_11 rfl (lv_at hl 0 rfl) ?_
    refine va_get (D := (dC, dI)) (ci := 2) (v := .long w) (C := R_D) (T := F_D) (N := 7) hx hb hts (lay_D _) hown hK hP 0 rfl rfl 6 (by decide) (hts _ (List.mem_cons_of_mem _ m_62)) (fun _ h9 => h9) rfl d_D_without_12 ?_
    refine lv_iload_n hx hb d_D_without_15 rfl (lv_at hl 1 rfl) ?_
    have hPc := hP.sub (ws' := []) [] rfl
    have hKc := hK.sub (tys' := []) [] rfl
    refine vp_callSi (W.runS (As := [.long w, .int (nI i)]) (rest := []) ⟨hx, hb, hml, hown, hts⟩ (c_D_isIn l dC dI w i (by first | assumption | omega)) (va_cwS 2 hts (g_S big_w m_114 m_115 m_1 m_116) rfl rfl rfl (by decide +kernel) ⟨Nat.le_of_ble_eq_true rfl, Nat.le_of_ble_eq_true rfl⟩) (ro_S hPc hKc hN) rfl rfl hl.1 rfl (lv_room (Nat.le_of_ble_eq_true rfl)) d_D_without_16 ⟨Nat.le_of_ble_eq_true rfl, Nat.le_of_ble_eq_true rfl⟩) (fun r_2 er_2 => ?_)
    have er_2 := er_2.symm
    subst er_2
    refine lv_if_ne (tgt := 32) hx hb d_D_without_19 (by decide) (fun c_19 => ?_) (fun c_19 => ?_)
    · skip
      have c_19 := bI_t c_19
      exact absurd c_19 (by rw [c_8, e9, nI_clamp (by omega)] at hex; rw [hex.resolve_left (by decide)]; decide)
    · skip
      have c_19 := bI_f c_19
      have hP9 := hP.sub (ws' := [(jd, .inr (2, [.long sd, .ref jh, .ref jh2, .ref jg, .ref jb, .ref jy, .long w])), (jh, .inr (1, [.ref jt, .ref jk, .ref jv, .ref jr, .int (nI n)]))]) [0, 1] rfl
      have hD9 := hD.sub (ws' := [(jd, .inr (2, [.long sd, .ref jh, .ref jh2, .ref jg, .ref jb, .ref jy, .long w])), (jh, .inr (1, [.ref jt, .ref jk, .ref jv, .ref jr, .int (nI n)]))]) [0, 1] (by decide) rfl
      have hK9 := hK.sub (tys' := []) [] rfl
      exact vx_throwS (own := R_D) (cls := "java/lang/IllegalArgumentException") (names := ["java/lang/RuntimeException", "java/lang/Exception"]) hx hb hl9 hown (by decide +kernel) (by decide +kernel) (hts _ (List.mem_cons_of_mem _ m_160)) (hts _ (List.mem_cons_of_mem _ m_8)) (hT (123, "no such part is left") (by decide +kernel)) (hat_ok hts hN (L := vx_atS R_D 45 "java/lang/IllegalArgumentException" ["java/lang/RuntimeException", "java/lang/Exception"]) (by decide +kernel) (by decide +kernel)) (by decide +kernel) hZ.1 hZ.2 hS (hl.1.trans hml.symm) d_D_without_22 d_D_without_25 d_D_without_26 d_D_without_28 d_D_without_31 (fun x h => (hEx x h).elim) (Nat.le_of_ble_eq_true rfl) (Nat.le_of_ble_eq_true rfl) (Nat.le_of_ble_eq_true rfl) (Nat.le_of_ble_eq_true rfl) hlocks (fun t ha hsz hk => ⟨(), trivial, ⟨rfl, hP9.kept (fun k q hq => hk q.1 (hP9 k q hq).lt), va_K.moved ha hK9, hD9⟩, Nat.le_trans hS.1 hsz, fun q h1 h2 => (hk q (Nat.lt_of_lt_of_le h1 hS.1)).trans (hS.2.1 q h1 h2)⟩) hS.2.2 (Nat.le_of_ble_eq_true rfl) (Nat.le_of_ble_eq_true rfl)
set_option maxHeartbeats 4000000 in
set_option maxRecDepth 100000 in
/-- same, of a size -/
theorem c_D_same (l : Launch) (dC : Nat → ClassId) (dI : Nat → Nat → Nat) (jd jh jh2 jg jb jy : Nat) (sd w : Int64) (jt jk jv jr n : Nat) (ck cv cr : ClassId) (K V R : Nat → Int32) (jt2 jk2 jv2 jr2 n2 : Nat) (ck2 cv2 cr2 : ClassId) (x2 : Int64) (K2 V2 R2 : Nat → Int32) (ot : Int64) (z : Nat) (hn : n ≤ 43) (hz : z ≤ 40) (sz : Nat) : Met l y_D_same w_D_same ({ frames := 5, cells := 0, slots := 0, locals := 113 }) (wr_P dC dI [.ref jd, .long ot, .int (nI z)] [(jd, .inr (2, [.long sd, .ref jh, .ref jh2, .ref jg, .ref jb, .ref jy, .long w])), (jh, .inr (1, [.ref jt, .ref jk, .ref jv, .ref jr, .int (nI n)])), (jk, .inl (ck, 43, .inl K)), (jv, .inl (cv, 43, .inl V)), (jr, .inl (cr, 43, .inl R)), (jh2, .inr (1, [.ref jt2, .ref jk2, .ref jv2, .ref jr2, .int (nI n2)])), (jt2, .inr (0, [.long x2])), (jk2, .inl (ck2, 43, .inl K2)), (jv2, .inl (cv2, 43, .inl V2)), (jr2, .inl (cr2, 43, .inl R2))] [(ck, .int), (cv, .int), (cr, .int), (ck2, .int), (cv2, .int), (cr2, .int)] sz) (va_Qi (fun (r : Int32) (_ : Unit) => r = bI (lkB n (z + 3) K V R (flS ot K2 V2 R2 z).2.1 (flS ot K2 V2 R2 z).2.2.1 (flS ot K2 V2 R2 z).2.2.2)) (fun (u : Unit) => wr_B dC dI (va_A [(jd, .inr (2, [.long sd, .ref jh, .ref jh2, .ref jg, .ref jb, .ref jy, .long w])), (jh, .inr (1, [.ref jt, .ref jk, .ref jv, .ref jr, .int (nI n)])), (jk, .inl (ck, 43, .inl K)), (jv, .inl (cv, 43, .inl V)), (jr, .inl (cr, 43, .inl R)), (jh2, .inr (1, [.ref jt2, .ref jk2, .ref jv2, .ref jr2, .int (nI n2)])), (jt2, .inr (0, [.long x2])), (jk2, .inl (ck2, 43, .inl K2)), (jv2, .inl (cv2, 43, .inl V2)), (jr2, .inl (cr2, 43, .inl R2))] sz) [(jd, .inr (2, [.long sd, .ref jh, .ref jh2, .ref jg, .ref jb, .ref jy, .long w])), (jh, .inr (1, [.ref jt, .ref jk, .ref jv, .ref jr, .int (nI n)])), (jk, .inl (ck, 43, .inl K)), (jv, .inl (cv, 43, .inl V)), (jr, .inl (cr, 43, .inl R)), (jh2, .inr (1, [.ref jt2, .ref jk2, .ref jv2, .ref jr2, .int (nI (z + 3))])), (jt2, .inr (0, [.long ((flS ot K2 V2 R2 z).1)])), (jk2, .inl (ck2, 43, .inl ((flS ot K2 V2 R2 z).2.1))), (jv2, .inl (cv2, 43, .inl ((flS ot K2 V2 R2 z).2.2.1))), (jr2, .inl (cr2, 43, .inl ((flS ot K2 V2 R2 z).2.2.2)))] [(ck, .int), (cv, .int), (cr, .int), (ck2, .int), (cv2, .int), (cr2, .int)]) (va_A [(jd, .inr (2, [.long sd, .ref jh, .ref jh2, .ref jg, .ref jb, .ref jy, .long w])), (jh, .inr (1, [.ref jt, .ref jk, .ref jv, .ref jr, .int (nI n)])), (jk, .inl (ck, 43, .inl K)), (jv, .inl (cv, 43, .inl V)), (jr, .inl (cr, 43, .inl R)), (jh2, .inr (1, [.ref jt2, .ref jk2, .ref jv2, .ref jr2, .int (nI n2)])), (jt2, .inr (0, [.long x2])), (jk2, .inl (ck2, 43, .inl K2)), (jv2, .inl (cv2, 43, .inl V2)), (jr2, .inl (cr2, 43, .inl R2))] sz)) 0 0 (va_A [(jd, .inr (2, [.long sd, .ref jh, .ref jh2, .ref jg, .ref jb, .ref jy, .long w])), (jh, .inr (1, [.ref jt, .ref jk, .ref jv, .ref jr, .int (nI n)])), (jk, .inl (ck, 43, .inl K)), (jv, .inl (cv, 43, .inl V)), (jr, .inl (cr, 43, .inl R)), (jh2, .inr (1, [.ref jt2, .ref jk2, .ref jv2, .ref jr2, .int (nI n2)])), (jt2, .inr (0, [.long x2])), (jk2, .inl (ck2, 43, .inl K2)), (jv2, .inl (cv2, 43, .inl V2)), (jr2, .inl (cr2, 43, .inl R2))] sz) := by
  refine Met.ofW (cc := b_D_same) (maxL := 4) (ret := (Option.some Jvm.ClassFile.FieldType.boolean)) (by decide) rfl ?_
  intro p e s m args below meth c s₁ B0 hml hv0
  obtain ⟨rfl, hsz, hP, hK, hD0, hN⟩ := hv0
  have hx := B0.exec
  have hb := B0.bytes
  have hr := B0.returns
  have hts := atoms_spec (ws := w_D_same) B0.pre
  have hown : s.vm.findClass R_D = some m.cls := findClass_of_methodNamed B0.named
  have hlocks := B0.notSynchronized
  subst hsz
  have hD := hD0.self (sz := s.heap.size)
  generalize hAe : va_A [(jd, .inr (2, [.long sd, .ref jh, .ref jh2, .ref jg, .ref jb, .ref jy, .long w])), (jh, .inr (1, [.ref jt, .ref jk, .ref jv, .ref jr, .int (nI n)])), (jk, .inl (ck, 43, .inl K)), (jv, .inl (cv, 43, .inl V)), (jr, .inl (cr, 43, .inl R)), (jh2, .inr (1, [.ref jt2, .ref jk2, .ref jv2, .ref jr2, .int (nI n2)])), (jt2, .inr (0, [.long x2])), (jk2, .inl (ck2, 43, .inl K2)), (jv2, .inl (cv2, 43, .inl V2)), (jr2, .inl (cr2, 43, .inl R2))] s.heap.size = A at hD ⊢
  have hA : ∀ q : Nat, s.heap.size ≤ q → A q := fun q h => by rw [← hAe]; exact Or.inr h
  have hS : va_S A s.heap s.heap [] := va_S.rf
  have hP : va_P (dC, dI) classes [(jd, .inr (2, [.long sd, .ref jh, .ref jh2, .ref jg, .ref jb, .ref jy, .long w])), (jh, .inr (1, [.ref jt, .ref jk, .ref jv, .ref jr, .int (nI n)])), (jk, .inl (ck, 43, .inl K)), (jv, .inl (cv, 43, .inl V)), (jr, .inl (cr, 43, .inl R)), (jh2, .inr (1, [.ref jt2, .ref jk2, .ref jv2, .ref jr2, .int (nI n2)])), (jt2, .inr (0, [.long x2])), (jk2, .inl (ck2, 43, .inl K2)), (jv2, .inl (cv2, 43, .inl V2)), (jr2, .inl (cr2, 43, .inl R2))] s.heap := hP
  have hl := lv_entry ([.ref jd, .long ot, .int (nI z)]) (n := 4) (Nat.le_of_ble_eq_true rfl)
  rw [lg_entry_eq]
  generalize (lg_sl ([.ref jd, .long ot, .int (nI z)]) ++ List.replicate (4 - (lg_sl ([.ref jd, .long ot, .int (nI z)])).length) Slot.unset).toArray = ls at hl ⊢
  have hl : lv_has ls 4 [(0, .ref jd), (1, .long ot), (3, .int (nI z))] := hl
  refine lv_iload_n hx hb d_D_same_0 rfl (lv_at hl 2 rfl) ?_
  have hPc := hP.sub (ws' := []) [] rfl
  have hKc := hK.sub (tys' := []) [] rfl
  refine vp_callSi (W.runS (As := [.int (nI z)]) (rest := []) ⟨hx, hb, hml, hown, hts⟩ (c_D_isSize l dC dI (nI z)) (va_cwS 1 hts (g_S big_w m_157 m_158 m_1 m_159) rfl rfl rfl (by decide +kernel) ⟨Nat.le_of_ble_eq_true rfl, Nat.le_of_ble_eq_true rfl⟩) (ro_S hPc hKc hN) rfl rfl hl.1 rfl (lv_room (Nat.le_of_ble_eq_true rfl)) d_D_same_1 ⟨Nat.le_of_ble_eq_true rfl, Nat.le_of_ble_eq_true rfl⟩) (fun r_1 er_1 => ?_)
  have er_1 := er_1.symm
  subst er_1
  refine lv_if_ne (tgt := 17) hx hb d_D_same_4 (by decide) (fun c_4 => ?_) (fun c_4 => ?_)
  · skip
    have c_4 := bI_t c_4
    refine lv_aload_n hx hb d_D_same_17 rfl (lv_at hl 0 rfl) ?_
    refine va_get (D := (dC, dI)) (ci := 2) (v := .ref jh2) (C := R_D) (T := F_D) (N := 7) hx hb hts (lay_D _) hown hK hP 0 rfl rfl 2 (by decide) (hts _ (List.mem_cons_of_mem _ m_58)) (fun _ h9 => h9) rfl d_D_same_18 ?_
    refine lv_lload_n hx hb d_D_same_21 rfl (lv_at hl 1 rfl) ?_
    refine lv_iload_n hx hb d_D_same_22 rfl (lv_at hl 2 rfl) ?_
    have hPc := hP.sub (ws' := [(jh2, .inr (1, [.ref jt2, .ref jk2, .ref jv2, .ref jr2, .int (nI n2)])), (jt2, .inr (0, [.long x2])), (jk2, .inl (ck2, 43, .inl K2)), (jv2, .inl (cv2, 43, .inl V2)), (jr2, .inl (cr2, 43, .inl R2))]) [5, 6, 7, 8, 9] rfl
    have hKc := hK.sub (tys' := [(ck2, .int), (cv2, .int), (cr2, .int)]) [3, 4, 5] rfl
    have hDc := hD.sub (ws' := [(jh2, .inr (1, [.ref jt2, .ref jk2, .ref jv2, .ref jr2, .int (nI n2)])), (jt2, .inr (0, [.long x2])), (jk2, .inl (ck2, 43, .inl K2)), (jv2, .inl (cv2, 43, .inl V2)), (jr2, .inl (cr2, 43, .inl R2))]) [5, 6, 7, 8, 9] (by decide) rfl
    have hFc := va_free (wc := [(jh2, .inr (1, [.ref jt2, .ref jk2, .ref jv2, .ref jr2, .int (nI n2)])), (jt2, .inr (0, [.long x2])), (jk2, .inl (ck2, 43, .inl K2)), (jv2, .inl (cv2, 43, .inl V2)), (jr2, .inl (cr2, 43, .inl R2))]) hD hS hA [5, 6, 7, 8, 9] rfl
    refine va_callv (va_runVN (As := [.long ot, .int (nI z)]) (rest := []) ⟨hx, hb, hml, hown, hts⟩ (c_H_fill l dC dI jh2 jt2 jk2 jv2 jr2 n2 ck2 cv2 cr2 x2 K2 V2 R2 ot z (by first | assumption | omega) _) ⟨va_cnB 2 hts (g_c big_w m_230) rfl rfl rfl (hN _ (by decide +kernel : (Jvm.Cond.methodLinkNest "PortDrawer" (48 : Nat) ({ cls := "PortDrawer$Harbour", name := "fill", desc := "(JI)V" } : Jvm.MethodName) "PortDrawer") ∈ NWl)) (hts _ (List.mem_cons_of_mem _ m_2)) (by decide +kernel) ⟨Nat.le_of_ble_eq_true rfl, Nat.le_of_ble_eq_true rfl⟩, (hts _ (List.mem_cons_of_mem _ m_229)), (hts _ (List.mem_cons_of_mem _ ms_9))⟩ (wr_V hPc hKc hDc hN (va_recv hKc hPc (ci := 1) (q0 := 0) rfl rfl)) rfl rfl hl.1 rfl (lv_room (Nat.le_of_ble_eq_true rfl)) d_D_same_23 ⟨Nat.le_of_ble_eq_true rfl, Nat.le_of_ble_eq_true rfl⟩) hS (fun q _ h => hFc q h) hFc (fun u t H1 locs ht hvm hw hB hz1 hk1 hS => ?_)
    obtain ⟨hP1, hK1, hD1⟩ := hB
    rw [ht] at hP1
    obtain ⟨hP, hD⟩ := va_join (wr := [(jd, .inr (2, [.long sd, .ref jh, .ref jh2, .ref jg, .ref jb, .ref jy, .long w])), (jh, .inr (1, [.ref jt, .ref jk, .ref jv, .ref jr, .int (nI n)])), (jk, .inl (ck, 43, .inl K)), (jv, .inl (cv, 43, .inl V)), (jr, .inl (cr, 43, .inl R))]) (w1 := [(jh2, .inr (1, [.ref jt2, .ref jk2, .ref jv2, .ref jr2, .int (nI (z + 3))])), (jt2, .inr (0, [.long ((flS ot K2 V2 R2 z).1)])), (jk2, .inl (ck2, 43, .inl ((flS ot K2 V2 R2 z).2.1))), (jv2, .inl (cv2, 43, .inl ((flS ot K2 V2 R2 z).2.2.1))), (jr2, .inl (cr2, 43, .inl ((flS ot K2 V2 R2 z).2.2.2)))]) hP hD [5, 6, 7, 8, 9] [0, 1, 2, 3, 4] rfl rfl (by decide) (by decide) hk1 hFc hP1 hD1
    generalize H1 = H at hP hS ⊢
    have hP : va_P (dC, dI) classes [(jd, .inr (2, [.long sd, .ref jh, .ref jh2, .ref jg, .ref jb, .ref jy, .long w])), (jh, .inr (1, [.ref jt, .ref jk, .ref jv, .ref jr, .int (nI n)])), (jk, .inl (ck, 43, .inl K)), (jv, .inl (cv, 43, .inl V)), (jr, .inl (cr, 43, .inl R)), (jh2, .inr (1, [.ref jt2, .ref jk2, .ref jv2, .ref jr2, .int (nI (z + 3))])), (jt2, .inr (0, [.long ((flS ot K2 V2 R2 z).1)])), (jk2, .inl (ck2, 43, .inl ((flS ot K2 V2 R2 z).2.1))), (jv2, .inl (cv2, 43, .inl ((flS ot K2 V2 R2 z).2.2.1))), (jr2, .inl (cr2, 43, .inl ((flS ot K2 V2 R2 z).2.2.2)))] H := hP
    have hD : va_D A [(jd, .inr (2, [.long sd, .ref jh, .ref jh2, .ref jg, .ref jb, .ref jy, .long w])), (jh, .inr (1, [.ref jt, .ref jk, .ref jv, .ref jr, .int (nI n)])), (jk, .inl (ck, 43, .inl K)), (jv, .inl (cv, 43, .inl V)), (jr, .inl (cr, 43, .inl R)), (jh2, .inr (1, [.ref jt2, .ref jk2, .ref jv2, .ref jr2, .int (nI (z + 3))])), (jt2, .inr (0, [.long ((flS ot K2 V2 R2 z).1)])), (jk2, .inl (ck2, 43, .inl ((flS ot K2 V2 R2 z).2.1))), (jv2, .inl (cv2, 43, .inl ((flS ot K2 V2 R2 z).2.2.1))), (jr2, .inl (cr2, 43, .inl ((flS ot K2 V2 R2 z).2.2.2)))] := hD
    refine lv_aload_n hx hb d_D_same_26 rfl (lv_at hl 0 rfl) ?_
    refine va_get (D := (dC, dI)) (ci := 2) (v := .ref jh) (C := R_D) (T := F_D) (N := 7) hx hb hts (lay_D _) hown hK hP 0 rfl rfl 1 (by decide) (hts _ (List.mem_cons_of_mem _ m_57)) (fun _ h9 => h9) rfl d_D_same_27 ?_
    refine lv_aload_n hx hb d_D_same_30 rfl (lv_at hl 0 rfl) ?_
    refine va_get (D := (dC, dI)) (ci := 2) (v := .ref jh2) (C := R_D) (T := F_D) (N := 7) hx hb hts (lay_D _) hown hK hP 0 rfl rfl 2 (by decide) (hts _ (List.mem_cons_of_mem _ m_58)) (fun _ h9 => h9) rfl d_D_same_31 ?_
    have hPc := hP.sub (ws' := [(jh, .inr (1, [.ref jt, .ref jk, .ref jv, .ref jr, .int (nI n)])), (jk, .inl (ck, 43, .inl K)), (jv, .inl (cv, 43, .inl V)), (jr, .inl (cr, 43, .inl R)), (jh2, .inr (1, [.ref jt2, .ref jk2, .ref jv2, .ref jr2, .int (nI (z + 3))])), (jk2, .inl (ck2, 43, .inl ((flS ot K2 V2 R2 z).2.1))), (jv2, .inl (cv2, 43, .inl ((flS ot K2 V2 R2 z).2.2.1))), (jr2, .inl (cr2, 43, .inl ((flS ot K2 V2 R2 z).2.2.2)))]) [1, 2, 3, 4, 5, 7, 8, 9] rfl
    have hKc := hK.sub (tys' := [(ck, .int), (cv, .int), (cr, .int), (ck2, .int), (cv2, .int), (cr2, .int)]) [0, 1, 2, 3, 4, 5] rfl
    refine vp_callSi (va_Run.run (va_runVN (As := [.ref jh2]) (rest := []) ⟨hx, hb, hml, hown, hts⟩ (c_H_isLike l dC dI jh jt jk jv jr n ck cv cr K V R jh2 jt2 jk2 jv2 jr2 (z + 3) ck2 cv2 cr2 ((flS ot K2 V2 R2 z).2.1) ((flS ot K2 V2 R2 z).2.2.1) ((flS ot K2 V2 R2 z).2.2.2) (by first | assumption | omega) (by first | assumption | omega)) ⟨va_cnB 1 hts (g_c big_w m_329) rfl rfl rfl (hN _ (by decide +kernel : (Jvm.Cond.methodLinkNest "PortDrawer" (125 : Nat) ({ cls := "PortDrawer$Harbour", name := "isLike", desc := "(LPortDrawer$Harbour;)Z" } : Jvm.MethodName) "PortDrawer") ∈ NWl)) (hts _ (List.mem_cons_of_mem _ m_2)) (by decide +kernel) ⟨Nat.le_of_ble_eq_true rfl, Nat.le_of_ble_eq_true rfl⟩, (hts _ (List.mem_cons_of_mem _ m_328)), (hts _ (List.mem_cons_of_mem _ ms_20))⟩ (ro_V hPc hKc hN (va_recv hKc hPc (ci := 1) (q0 := 0) rfl rfl)) rfl rfl hl.1 rfl (lv_room (Nat.le_of_ble_eq_true rfl)) d_D_same_34 ⟨Nat.le_of_ble_eq_true rfl, Nat.le_of_ble_eq_true rfl⟩)) (fun r_3 er_3 => ?_)
    have er_3 := er_3.symm
    subst er_3
    have hP9 := hP.sub (ws' := [(jd, .inr (2, [.long sd, .ref jh, .ref jh2, .ref jg, .ref jb, .ref jy, .long w])), (jh, .inr (1, [.ref jt, .ref jk, .ref jv, .ref jr, .int (nI n)])), (jk, .inl (ck, 43, .inl K)), (jv, .inl (cv, 43, .inl V)), (jr, .inl (cr, 43, .inl R)), (jh2, .inr (1, [.ref jt2, .ref jk2, .ref jv2, .ref jr2, .int (nI (z + 3))])), (jt2, .inr (0, [.long ((flS ot K2 V2 R2 z).1)])), (jk2, .inl (ck2, 43, .inl ((flS ot K2 V2 R2 z).2.1))), (jv2, .inl (cv2, 43, .inl ((flS ot K2 V2 R2 z).2.2.1))), (jr2, .inl (cr2, 43, .inl ((flS ot K2 V2 R2 z).2.2.2)))]) [0, 1, 2, 3, 4, 5, 6, 7, 8, 9] rfl
    have hD9 := hD.sub (ws' := [(jd, .inr (2, [.long sd, .ref jh, .ref jh2, .ref jg, .ref jb, .ref jy, .long w])), (jh, .inr (1, [.ref jt, .ref jk, .ref jv, .ref jr, .int (nI n)])), (jk, .inl (ck, 43, .inl K)), (jv, .inl (cv, 43, .inl V)), (jr, .inl (cr, 43, .inl R)), (jh2, .inr (1, [.ref jt2, .ref jk2, .ref jv2, .ref jr2, .int (nI (z + 3))])), (jt2, .inr (0, [.long ((flS ot K2 V2 R2 z).1)])), (jk2, .inl (ck2, 43, .inl ((flS ot K2 V2 R2 z).2.1))), (jv2, .inl (cv2, 43, .inl ((flS ot K2 V2 R2 z).2.2.1))), (jr2, .inl (cr2, 43, .inl ((flS ot K2 V2 R2 z).2.2.2)))]) [0, 1, 2, 3, 4, 5, 6, 7, 8, 9] (by decide) rfl
    have hK9 := hK.sub (tys' := [(ck, .int), (cv, .int), (cr, .int), (ck2, .int), (cv2, .int), (cr2, .int)]) [0, 1, 2, 3, 4, 5] rfl
    exact W.zret (v := bI (lkB n (z + 3) K V R ((flS ot K2 V2 R2 z).2.1) ((flS ot K2 V2 R2 z).2.2.1) ((flS ot K2 V2 R2 z).2.2.2))) (ty := .boolean) hx hb hr (bI_nar _) (fun t ht hW => ⟨⟨bI (lkB n (z + 3) K V R ((flS ot K2 V2 R2 z).2.1) ((flS ot K2 V2 R2 z).2.2.1) ((flS ot K2 V2 R2 z).2.2.2)), (), rfl, rfl, by rw [ht]; exact hP9, va_K.moved hW.alike hK9, hD9⟩, hS.F ht⟩) hS.2.2 d_D_same_37
  · skip
    have c_4 := bI_f c_4
    exact absurd c_4 (by rw [szB_nI hz]; decide)
set_option maxHeartbeats 4000000 in
set_option maxRecDepth 100000 in
/-- same, of no size -/
theorem c_D_samex (l : Launch) (hl9 : l.stackTraces = false) (dC : Nat → ClassId) (dI : Nat → Nat → Nat) (jd jh jh2 jg jb jy : Nat) (sd w : Int64) (ot : Int64) (p0 : Int32) (hex : szB p0 = false) (sa : Nat → Nat) (sz : Nat) : vx_Met l y_D_same w_D_same ({ frames := 6, cells := 1, slots := 6, locals := 113 }) (wx_P dC dI [.ref jd, .long ot, .int p0] [(jd, .inr (2, [.long sd, .ref jh, .ref jh2, .ref jg, .ref jb, .ref jy, .long w]))] [] sa sz) (va_Qi (fun (r : Int32) (_ : Unit) => False) (fun (u : Unit) => wr_B dC dI (va_A [(jd, .inr (2, [.long sd, .ref jh, .ref jh2, .ref jg, .ref jb, .ref jy, .long w]))] sz) [(jd, .inr (2, [.long sd, .ref jh, .ref jh2, .ref jg, .ref jb, .ref jy, .long w]))] []) (va_A [(jd, .inr (2, [.long sd, .ref jh, .ref jh2, .ref jg, .ref jb, .ref jy, .long w]))] sz)) (wx_X dC dI "java/lang/IllegalArgumentException" (va_A [(jd, .inr (2, [.long sd, .ref jh, .ref jh2, .ref jg, .ref jb, .ref jy, .long w]))] sz) [(jd, .inr (2, [.long sd, .ref jh, .ref jh2, .ref jg, .ref jb, .ref jy, .long w]))] []) 1 6 (va_A [(jd, .inr (2, [.long sd, .ref jh, .ref jh2, .ref jg, .ref jb, .ref jy, .long w]))] sz) := by
  refine vx_ofW (cc := b_D_same) (maxL := 4) (ret := (Option.some Jvm.ClassFile.FieldType.boolean)) (by decide) rfl ?_
  intro p e s m args below meth c s₁ B0 hml hEx hv0
  obtain ⟨rfl, hsz, hP, hK, hD0, hN, hT, hZ⟩ := hv0
  have hx := B0.exec
  have hb := B0.bytes
  have hr := B0.returns
  have hts := atoms_spec (ws := w_D_same) B0.pre
  have hown : s.vm.findClass R_D = some m.cls := findClass_of_methodNamed B0.named
  have hlocks := B0.notSynchronized
  subst hsz
  have hD := hD0.self (sz := s.heap.size)
  generalize hAe : va_A [(jd, .inr (2, [.long sd, .ref jh, .ref jh2, .ref jg, .ref jb, .ref jy, .long w]))] s.heap.size = A at hD hZ ⊢
  have hA : ∀ q : Nat, s.heap.size ≤ q → A q := fun q h => by rw [← hAe]; exact Or.inr h
  have hS : va_S A s.heap s.heap [] := va_S.rf
  have hP : va_P (dC, dI) classes [(jd, .inr (2, [.long sd, .ref jh, .ref jh2, .ref jg, .ref jb, .ref jy, .long w]))] s.heap := hP
  have hl := lv_entry ([.ref jd, .long ot, .int p0]) (n := 4) (Nat.le_of_ble_eq_true rfl)
  rw [lg_entry_eq]
  generalize (lg_sl ([.ref jd, .long ot, .int p0]) ++ List.replicate (4 - (lg_sl ([.ref jd, .long ot, .int p0])).length) Slot.unset).toArray = ls at hl ⊢
  have hl : lv_has ls 4 [(0, .ref jd), (1, .long ot), (3, .int p0)] := hl
  refine lv_iload_n hx hb d_D_same_0 rfl (lv_at hl 2 rfl) ?_
  have hPc := hP.sub (ws' := []) [] rfl
  have hKc := hK.sub (tys' := []) [] rfl
  refine vp_callSi (W.runS (As := [.int p0]) (rest := []) ⟨hx, hb, hml, hown, hts⟩ (c_D_isSize l dC dI p0) (va_cwS 1 hts (g_S big_w m_157 m_158 m_1 m_159) rfl rfl rfl (by decide +kernel) ⟨Nat.le_of_ble_eq_true rfl, Nat.le_of_ble_eq_true rfl⟩) (ro_S hPc hKc hN) rfl rfl hl.1 rfl (lv_room (Nat.le_of_ble_eq_true rfl)) d_D_same_1 ⟨Nat.le_of_ble_eq_true rfl, Nat.le_of_ble_eq_true rfl⟩) (fun r_1 er_1 => ?_)
  have er_1 := er_1.symm
  subst er_1
  refine lv_if_ne (tgt := 17) hx hb d_D_same_4 (by decide) (fun c_4 => ?_) (fun c_4 => ?_)
  · skip
    have c_4 := bI_t c_4
    exact absurd c_4 (by rw [hex]; decide)
  · skip
    have c_4 := bI_f c_4
    have hP9 := hP.sub (ws' := [(jd, .inr (2, [.long sd, .ref jh, .ref jh2, .ref jg, .ref jb, .ref jy, .long w]))]) [0] rfl
    have hD9 := hD.sub (ws' := [(jd, .inr (2, [.long sd, .ref jh, .ref jh2, .ref jg, .ref jb, .ref jy, .long w]))]) [0] (by decide) rfl
    have hK9 := hK.sub (tys' := []) [] rfl
    exact vx_throwS (own := R_D) (cls := "java/lang/IllegalArgumentException") (names := ["java/lang/RuntimeException", "java/lang/Exception"]) hx hb hl9 hown (by decide +kernel) (by decide +kernel) (hts _ (List.mem_cons_of_mem _ m_160)) (hts _ (List.mem_cons_of_mem _ m_8)) (hT (43, "the size is not 0 .. 40") (by decide +kernel)) (hat_ok hts hN (L := vx_atS R_D 45 "java/lang/IllegalArgumentException" ["java/lang/RuntimeException", "java/lang/Exception"]) (by decide +kernel) (by decide +kernel)) (by decide +kernel) hZ.1 hZ.2 hS (hl.1.trans hml.symm) d_D_same_7 d_D_same_10 d_D_same_11 d_D_same_13 d_D_same_16 (fun x h => (hEx x h).elim) (Nat.le_of_ble_eq_true rfl) (Nat.le_of_ble_eq_true rfl) (Nat.le_of_ble_eq_true rfl) (Nat.le_of_ble_eq_true rfl) hlocks (fun t ha hsz hk => ⟨(), trivial, ⟨rfl, hP9.kept (fun k q hq => hk q.1 (hP9 k q hq).lt), va_K.moved ha hK9, hD9⟩, Nat.le_trans hS.1 hsz, fun q h1 h2 => (hk q (Nat.lt_of_lt_of_le h1 hS.1)).trans (hS.2.1 q h1 h2)⟩) hS.2.2 (Nat.le_of_ble_eq_true rfl) (Nat.le_of_ble_eq_true rfl)
