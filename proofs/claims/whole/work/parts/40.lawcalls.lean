theorem m_156 : (Jvm.Cond.code ({ cls := "PortDrawer", name := "draw", desc := "(I)I" } : Jvm.MethodName) prog_1_method_2_code (2 : Nat) (Option.some Jvm.ClassFile.FieldType.int)) ∈ tblG := m_t (i := 156) rfl rfl
theorem m_155 : (Jvm.Cond.selects "PortDrawer" ({ cls := "PortDrawer", name := "draw", desc := "(I)I" } : Jvm.MethodName) ({ cls := "PortDrawer", name := "draw", desc := "(I)I" } : Jvm.MethodName)) ∈ tblG := m_t (i := 155) rfl rfl
theorem m_153 : (Jvm.Cond.methodLink "PortDrawerLaw" (7 : Nat) ({ cls := "PortDrawer", name := "draw", desc := "(I)I" } : Jvm.MethodName)) ∈ tblG := m_t (i := 153) rfl rfl
theorem m_154 : (Jvm.Cond.instanceMethod ({ cls := "PortDrawer", name := "draw", desc := "(I)I" } : Jvm.MethodName)) ∈ tblG := m_t (i := 154) rfl rfl
theorem m_152 : (Jvm.Cond.classLink "PortDrawerLaw" (13 : Nat) "java/lang/IllegalArgumentException") ∈ tblG := m_t (i := 152) rfl rfl
theorem m_284 : (Jvm.Cond.code ({ cls := "PortDrawer", name := "part", desc := "(II)I" } : Jvm.MethodName) prog_1_method_3_code (3 : Nat) (Option.some Jvm.ClassFile.FieldType.int)) ∈ tblG := m_t (i := 284) rfl rfl
theorem m_283 : (Jvm.Cond.selects "PortDrawer" ({ cls := "PortDrawer", name := "part", desc := "(II)I" } : Jvm.MethodName) ({ cls := "PortDrawer", name := "part", desc := "(II)I" } : Jvm.MethodName)) ∈ tblG := m_t (i := 283) rfl rfl
theorem m_281 : (Jvm.Cond.methodLink "PortDrawerLaw" (15 : Nat) ({ cls := "PortDrawer", name := "part", desc := "(II)I" } : Jvm.MethodName)) ∈ tblG := m_t (i := 281) rfl rfl
theorem m_282 : (Jvm.Cond.instanceMethod ({ cls := "PortDrawer", name := "part", desc := "(II)I" } : Jvm.MethodName)) ∈ tblG := m_t (i := 282) rfl rfl
theorem m_280 : (Jvm.Cond.classLink "PortDrawerLaw" (19 : Nat) "java/lang/IndexOutOfBoundsException") ∈ tblG := m_t (i := 280) rfl rfl
theorem m_308 : (Jvm.Cond.code ({ cls := "PortDrawer", name := "fits", desc := "(I)Z" } : Jvm.MethodName) prog_1_method_4_code (2 : Nat) (Option.some Jvm.ClassFile.FieldType.boolean)) ∈ tblG := m_t (i := 308) rfl rfl
theorem m_307 : (Jvm.Cond.selects "PortDrawer" ({ cls := "PortDrawer", name := "fits", desc := "(I)Z" } : Jvm.MethodName) ({ cls := "PortDrawer", name := "fits", desc := "(I)Z" } : Jvm.MethodName)) ∈ tblG := m_t (i := 307) rfl rfl
theorem m_305 : (Jvm.Cond.methodLink "PortDrawerLaw" (21 : Nat) ({ cls := "PortDrawer", name := "fits", desc := "(I)Z" } : Jvm.MethodName)) ∈ tblG := m_t (i := 305) rfl rfl
theorem m_306 : (Jvm.Cond.instanceMethod ({ cls := "PortDrawer", name := "fits", desc := "(I)Z" } : Jvm.MethodName)) ∈ tblG := m_t (i := 306) rfl rfl
theorem m_317 : (Jvm.Cond.code ({ cls := "PortDrawer", name := "without", desc := "(I)I" } : Jvm.MethodName) prog_1_method_10_code (3 : Nat) (Option.some Jvm.ClassFile.FieldType.int)) ∈ tblG := m_t (i := 317) rfl rfl
theorem m_316 : (Jvm.Cond.selects "PortDrawer" ({ cls := "PortDrawer", name := "without", desc := "(I)I" } : Jvm.MethodName) ({ cls := "PortDrawer", name := "without", desc := "(I)I" } : Jvm.MethodName)) ∈ tblG := m_t (i := 316) rfl rfl
theorem m_314 : (Jvm.Cond.methodLink "PortDrawerLaw" (25 : Nat) ({ cls := "PortDrawer", name := "without", desc := "(I)I" } : Jvm.MethodName)) ∈ tblG := m_t (i := 314) rfl rfl
theorem m_315 : (Jvm.Cond.instanceMethod ({ cls := "PortDrawer", name := "without", desc := "(I)I" } : Jvm.MethodName)) ∈ tblG := m_t (i := 315) rfl rfl
theorem m_325 : (Jvm.Cond.code ({ cls := "PortDrawer", name := "same", desc := "(JI)Z" } : Jvm.MethodName) prog_1_method_11_code (4 : Nat) (Option.some Jvm.ClassFile.FieldType.boolean)) ∈ tblG := m_t (i := 325) rfl rfl
theorem m_324 : (Jvm.Cond.selects "PortDrawer" ({ cls := "PortDrawer", name := "same", desc := "(JI)Z" } : Jvm.MethodName) ({ cls := "PortDrawer", name := "same", desc := "(JI)Z" } : Jvm.MethodName)) ∈ tblG := m_t (i := 324) rfl rfl
theorem m_322 : (Jvm.Cond.methodLink "PortDrawerLaw" (28 : Nat) ({ cls := "PortDrawer", name := "same", desc := "(JI)Z" } : Jvm.MethodName)) ∈ tblG := m_t (i := 322) rfl rfl
theorem m_323 : (Jvm.Cond.instanceMethod ({ cls := "PortDrawer", name := "same", desc := "(JI)Z" } : Jvm.MethodName)) ∈ tblG := m_t (i := 323) rfl rfl
theorem d_L_draw_0 : decode b_L_draw 0 = .ok (.aload_n 2, 1) := by decide +kernel
theorem d_L_draw_1 : decode b_L_draw 1 = .ok (.iconst 0, 1) := by decide +kernel
theorem d_L_draw_2 : decode b_L_draw 2 = .ok (.aload_n 0, 1) := by decide +kernel
theorem d_L_draw_3 : decode b_L_draw 3 = .ok (.iload_n 1, 1) := by decide +kernel
theorem d_L_draw_4 : decode b_L_draw 4 = .ok (.invokevirtual 7, 3) := by decide +kernel
theorem d_L_draw_7 : decode b_L_draw 7 = .ok (.i2l, 1) := by decide +kernel
theorem d_L_draw_8 : decode b_L_draw 8 = .ok (.lastore, 1) := by decide +kernel
theorem d_L_draw_9 : decode b_L_draw 9 = .ok (.goto 6, 3) := by decide +kernel
theorem d_L_draw_12 : decode b_L_draw 12 = .ok (.astore_n 3, 1) := by decide +kernel
theorem d_L_draw_13 : decode b_L_draw 13 = .ok (.iconst 1, 1) := by decide +kernel
theorem d_L_draw_14 : decode b_L_draw 14 = .ok (.ireturn, 1) := by decide +kernel
theorem d_L_draw_15 : decode b_L_draw 15 = .ok (.iconst 0, 1) := by decide +kernel
theorem d_L_draw_16 : decode b_L_draw 16 = .ok (.ireturn, 1) := by decide +kernel
theorem d_L_part_0 : decode b_L_part 0 = .ok (.aload_n 3, 1) := by decide +kernel
theorem d_L_part_1 : decode b_L_part 1 = .ok (.iconst 0, 1) := by decide +kernel
theorem d_L_part_2 : decode b_L_part 2 = .ok (.aload_n 0, 1) := by decide +kernel
theorem d_L_part_3 : decode b_L_part 3 = .ok (.iload_n 1, 1) := by decide +kernel
theorem d_L_part_4 : decode b_L_part 4 = .ok (.iload_n 2, 1) := by decide +kernel
theorem d_L_part_5 : decode b_L_part 5 = .ok (.invokevirtual 15, 3) := by decide +kernel
theorem d_L_part_8 : decode b_L_part 8 = .ok (.i2l, 1) := by decide +kernel
theorem d_L_part_9 : decode b_L_part 9 = .ok (.lastore, 1) := by decide +kernel
theorem d_L_part_10 : decode b_L_part 10 = .ok (.goto 7, 3) := by decide +kernel
theorem d_L_part_13 : decode b_L_part 13 = .ok (.astore 4, 2) := by decide +kernel
theorem d_L_part_15 : decode b_L_part 15 = .ok (.iconst 1, 1) := by decide +kernel
theorem d_L_part_16 : decode b_L_part 16 = .ok (.ireturn, 1) := by decide +kernel
theorem d_L_part_17 : decode b_L_part 17 = .ok (.iconst 0, 1) := by decide +kernel
theorem d_L_part_18 : decode b_L_part 18 = .ok (.ireturn, 1) := by decide +kernel
theorem d_L_fits_0 : decode b_L_fits 0 = .ok (.aload_n 2, 1) := by decide +kernel
theorem d_L_fits_1 : decode b_L_fits 1 = .ok (.iconst 0, 1) := by decide +kernel
theorem d_L_fits_2 : decode b_L_fits 2 = .ok (.aload_n 0, 1) := by decide +kernel
theorem d_L_fits_3 : decode b_L_fits 3 = .ok (.iload_n 1, 1) := by decide +kernel
theorem d_L_fits_4 : decode b_L_fits 4 = .ok (.invokevirtual 21, 3) := by decide +kernel
theorem d_L_fits_7 : decode b_L_fits 7 = .ok (.ifCond .eq 7, 3) := by decide +kernel
theorem d_L_fits_10 : decode b_L_fits 10 = .ok (.lconst 1, 1) := by decide +kernel
theorem d_L_fits_11 : decode b_L_fits 11 = .ok (.goto 4, 3) := by decide +kernel
theorem d_L_fits_14 : decode b_L_fits 14 = .ok (.lconst 0, 1) := by decide +kernel
theorem d_L_fits_15 : decode b_L_fits 15 = .ok (.lastore, 1) := by decide +kernel
theorem d_L_fits_16 : decode b_L_fits 16 = .ok (.goto 6, 3) := by decide +kernel
theorem d_L_fits_19 : decode b_L_fits 19 = .ok (.astore_n 3, 1) := by decide +kernel
theorem d_L_fits_20 : decode b_L_fits 20 = .ok (.iconst 1, 1) := by decide +kernel
theorem d_L_fits_21 : decode b_L_fits 21 = .ok (.ireturn, 1) := by decide +kernel
theorem d_L_fits_22 : decode b_L_fits 22 = .ok (.iconst 0, 1) := by decide +kernel
theorem d_L_fits_23 : decode b_L_fits 23 = .ok (.ireturn, 1) := by decide +kernel
theorem d_L_without_0 : decode b_L_without 0 = .ok (.aload_n 2, 1) := by decide +kernel
theorem d_L_without_1 : decode b_L_without 1 = .ok (.iconst 0, 1) := by decide +kernel
theorem d_L_without_2 : decode b_L_without 2 = .ok (.aload_n 0, 1) := by decide +kernel
theorem d_L_without_3 : decode b_L_without 3 = .ok (.iload_n 1, 1) := by decide +kernel
theorem d_L_without_4 : decode b_L_without 4 = .ok (.invokevirtual 25, 3) := by decide +kernel
theorem d_L_without_7 : decode b_L_without 7 = .ok (.i2l, 1) := by decide +kernel
theorem d_L_without_8 : decode b_L_without 8 = .ok (.lastore, 1) := by decide +kernel
theorem d_L_without_9 : decode b_L_without 9 = .ok (.goto 6, 3) := by decide +kernel
theorem d_L_without_12 : decode b_L_without 12 = .ok (.astore_n 3, 1) := by decide +kernel
theorem d_L_without_13 : decode b_L_without 13 = .ok (.iconst 1, 1) := by decide +kernel
theorem d_L_without_14 : decode b_L_without 14 = .ok (.ireturn, 1) := by decide +kernel
theorem d_L_without_15 : decode b_L_without 15 = .ok (.iconst 0, 1) := by decide +kernel
theorem d_L_without_16 : decode b_L_without 16 = .ok (.ireturn, 1) := by decide +kernel
theorem d_L_same_0 : decode b_L_same 0 = .ok (.aload 4, 2) := by decide +kernel
theorem d_L_same_2 : decode b_L_same 2 = .ok (.iconst 0, 1) := by decide +kernel
theorem d_L_same_3 : decode b_L_same 3 = .ok (.aload_n 0, 1) := by decide +kernel
theorem d_L_same_4 : decode b_L_same 4 = .ok (.lload_n 1, 1) := by decide +kernel
theorem d_L_same_5 : decode b_L_same 5 = .ok (.iload_n 3, 1) := by decide +kernel
theorem d_L_same_6 : decode b_L_same 6 = .ok (.invokevirtual 28, 3) := by decide +kernel
theorem d_L_same_9 : decode b_L_same 9 = .ok (.ifCond .eq 7, 3) := by decide +kernel
theorem d_L_same_12 : decode b_L_same 12 = .ok (.lconst 1, 1) := by decide +kernel
theorem d_L_same_13 : decode b_L_same 13 = .ok (.goto 4, 3) := by decide +kernel
theorem d_L_same_16 : decode b_L_same 16 = .ok (.lconst 0, 1) := by decide +kernel
theorem d_L_same_17 : decode b_L_same 17 = .ok (.lastore, 1) := by decide +kernel
theorem d_L_same_18 : decode b_L_same 18 = .ok (.goto 7, 3) := by decide +kernel
theorem d_L_same_21 : decode b_L_same 21 = .ok (.astore 5, 2) := by decide +kernel
theorem d_L_same_23 : decode b_L_same 23 = .ok (.iconst 1, 1) := by decide +kernel
theorem d_L_same_24 : decode b_L_same 24 = .ok (.ireturn, 1) := by decide +kernel
theorem d_L_same_25 : decode b_L_same 25 = .ok (.iconst 0, 1) := by decide +kernel
theorem d_L_same_26 : decode b_L_same 26 = .ok (.ireturn, 1) := by decide +kernel
set_option maxHeartbeats 4000000 in
set_option maxRecDepth 100000 in
/-- the law: draw, answered -/
theorem c_L_draw (l : Launch) (dC : Nat → ClassId) (dI : Nat → Nat → Nat) (jd jh jh2 jg jb jy : Nat) (sd w : Int64) (jt jk jv jr n : Nat) (ck cv cr cg cb : ClassId) (x : Int64) (K V R : Nat → Int32) (G B : Nat → Int64) (z : Nat) (jo : Nat) (co : ClassId) (O : Nat → Int64) (hz : z ≤ 40) (sz : Nat) : Met l y_L_draw w_L_draw ({ frames := 6, cells := 0, slots := 0, locals := 134 }) (wr_P dC dI [.ref jd, .int (nI z), .ref jo] [(jd, .inr (2, [.long sd, .ref jh, .ref jh2, .ref jg, .ref jb, .ref jy, .long w])), (jh, .inr (1, [.ref jt, .ref jk, .ref jv, .ref jr, .int (nI n)])), (jt, .inr (0, [.long x])), (jk, .inl (ck, 43, .inl K)), (jv, .inl (cv, 43, .inl V)), (jr, .inl (cr, 43, .inl R)), (jg, .inl (cg, 43, .inr (.inl G))), (jb, .inl (cb, 8, .inr (.inl B))), (jo, .inl (co, 1, .inr (.inl O)))] [(ck, .int), (cv, .int), (cr, .int), (cg, .long), (cb, .long), (co, .long)] sz) (va_Qi (fun (r : Int32) (_ : Unit) => r = nI 0) (fun (u : Unit) => wr_B dC dI (va_A [(jd, .inr (2, [.long sd, .ref jh, .ref jh2, .ref jg, .ref jb, .ref jy, .long w])), (jh, .inr (1, [.ref jt, .ref jk, .ref jv, .ref jr, .int (nI n)])), (jt, .inr (0, [.long x])), (jk, .inl (ck, 43, .inl K)), (jv, .inl (cv, 43, .inl V)), (jr, .inl (cr, 43, .inl R)), (jg, .inl (cg, 43, .inr (.inl G))), (jb, .inl (cb, 8, .inr (.inl B))), (jo, .inl (co, 1, .inr (.inl O)))] sz) [(jd, .inr (2, [.long sd, .ref jh, .ref jh2, .ref jg, .ref jb, .ref jy, .long (allW (z + 3))])), (jh, .inr (1, [.ref jt, .ref jk, .ref jv, .ref jr, .int (nI (z + 3))])), (jt, .inr (0, [.long ((flS sd K V R z).1)])), (jk, .inl (ck, 43, .inl ((flS sd K V R z).2.1))), (jv, .inl (cv, 43, .inl ((flS sd K V R z).2.2.1))), (jr, .inl (cr, 43, .inl ((flS sd K V R z).2.2.2))), (jg, .inl (cg, 43, .inr (.inl (gwG (z + 3) (flS sd K V R z).2.2.2 G)))), (jb, .inl (cb, 8, .inr (.inl (pbB (z + 3) (flS sd K V R z).2.1 (flS sd K V R z).2.2.1 (flS sd K V R z).2.2.2 B)))), (jo, .inl (co, 1, .inr (.inl (vp_updL O 0 ((nI (z + 3)).toInt64)))))] [(ck, .int), (cv, .int), (cr, .int), (cg, .long), (cb, .long), (co, .long)]) (va_A [(jd, .inr (2, [.long sd, .ref jh, .ref jh2, .ref jg, .ref jb, .ref jy, .long w])), (jh, .inr (1, [.ref jt, .ref jk, .ref jv, .ref jr, .int (nI n)])), (jt, .inr (0, [.long x])), (jk, .inl (ck, 43, .inl K)), (jv, .inl (cv, 43, .inl V)), (jr, .inl (cr, 43, .inl R)), (jg, .inl (cg, 43, .inr (.inl G))), (jb, .inl (cb, 8, .inr (.inl B))), (jo, .inl (co, 1, .inr (.inl O)))] sz)) 0 0 (va_A [(jd, .inr (2, [.long sd, .ref jh, .ref jh2, .ref jg, .ref jb, .ref jy, .long w])), (jh, .inr (1, [.ref jt, .ref jk, .ref jv, .ref jr, .int (nI n)])), (jt, .inr (0, [.long x])), (jk, .inl (ck, 43, .inl K)), (jv, .inl (cv, 43, .inl V)), (jr, .inl (cr, 43, .inl R)), (jg, .inl (cg, 43, .inr (.inl G))), (jb, .inl (cb, 8, .inr (.inl B))), (jo, .inl (co, 1, .inr (.inl O)))] sz) := by
  refine va_MetW (cc := b_L_draw) (maxL := 4) (ret := (Option.some Jvm.ClassFile.FieldType.int)) (by decide) rfl ?_
  intro p e s m args below meth c s₁ B0 hml hv0
  obtain ⟨rfl, hsz, hP, hK, hD0, hN⟩ := hv0
  have hx := B0.exec
  have hb := B0.bytes
  have hr := B0.returns
  have hts := atoms_spec (ws := w_L_draw) B0.pre
  have hown : s.vm.findClass R_L = some m.cls := findClass_of_methodNamed B0.named
  have hlocks := B0.notSynchronized
  subst hsz
  have hD := hD0.self (sz := s.heap.size)
  generalize hAe : va_A [(jd, .inr (2, [.long sd, .ref jh, .ref jh2, .ref jg, .ref jb, .ref jy, .long w])), (jh, .inr (1, [.ref jt, .ref jk, .ref jv, .ref jr, .int (nI n)])), (jt, .inr (0, [.long x])), (jk, .inl (ck, 43, .inl K)), (jv, .inl (cv, 43, .inl V)), (jr, .inl (cr, 43, .inl R)), (jg, .inl (cg, 43, .inr (.inl G))), (jb, .inl (cb, 8, .inr (.inl B))), (jo, .inl (co, 1, .inr (.inl O)))] s.heap.size = A at hD ⊢
  have hA : ∀ q : Nat, s.heap.size ≤ q → A q := fun q h => by rw [← hAe]; exact Or.inr h
  have hS : va_S A s.heap s.heap [] := va_S.rf
  have hP : va_P (dC, dI) classes [(jd, .inr (2, [.long sd, .ref jh, .ref jh2, .ref jg, .ref jb, .ref jy, .long w])), (jh, .inr (1, [.ref jt, .ref jk, .ref jv, .ref jr, .int (nI n)])), (jt, .inr (0, [.long x])), (jk, .inl (ck, 43, .inl K)), (jv, .inl (cv, 43, .inl V)), (jr, .inl (cr, 43, .inl R)), (jg, .inl (cg, 43, .inr (.inl G))), (jb, .inl (cb, 8, .inr (.inl B))), (jo, .inl (co, 1, .inr (.inl O)))] s.heap := hP
  have hl := lv_entry ([.ref jd, .int (nI z), .ref jo]) (n := 4) (Nat.le_of_ble_eq_true rfl)
  rw [lg_entry_eq]
  generalize (lg_sl ([.ref jd, .int (nI z), .ref jo]) ++ List.replicate (4 - (lg_sl ([.ref jd, .int (nI z), .ref jo])).length) Slot.unset).toArray = ls at hl ⊢
  have hl : lv_has ls 4 [(0, .ref jd), (1, .int (nI z)), (2, .ref jo)] := hl
  have hTab : c.exceptionTable.toList = tableOf [((0 : Nat), (9 : Nat), (12 : Nat), (13 : Nat))] := vx_table (x := y_L_draw) B0 (hts (.codeWith y_L_draw b_L_draw 4 (Option.some Jvm.ClassFile.FieldType.int) [((0 : Nat), (9 : Nat), (12 : Nat), (13 : Nat))]) List.mem_cons_self)
  refine lv_aload_n hx hb d_L_draw_0 rfl (lv_at hl 2 rfl) ?_
  refine lv_iconst (v := nI 0) hx hb d_L_draw_1 (by decide +kernel) ?_
  refine lv_aload_n hx hb d_L_draw_2 rfl (lv_at hl 0 rfl) ?_
  refine lv_iload_n hx hb d_L_draw_3 rfl (lv_at hl 1 rfl) ?_
  have hPc := hP.sub (ws' := [(jd, .inr (2, [.long sd, .ref jh, .ref jh2, .ref jg, .ref jb, .ref jy, .long w])), (jh, .inr (1, [.ref jt, .ref jk, .ref jv, .ref jr, .int (nI n)])), (jt, .inr (0, [.long x])), (jk, .inl (ck, 43, .inl K)), (jv, .inl (cv, 43, .inl V)), (jr, .inl (cr, 43, .inl R)), (jg, .inl (cg, 43, .inr (.inl G))), (jb, .inl (cb, 8, .inr (.inl B)))]) [0, 1, 2, 3, 4, 5, 6, 7] rfl
  have hKc := hK.sub (tys' := [(ck, .int), (cv, .int), (cr, .int), (cg, .long), (cb, .long)]) [0, 1, 2, 3, 4] rfl
  have hDc := hD.sub (ws' := [(jd, .inr (2, [.long sd, .ref jh, .ref jh2, .ref jg, .ref jb, .ref jy, .long w])), (jh, .inr (1, [.ref jt, .ref jk, .ref jv, .ref jr, .int (nI n)])), (jt, .inr (0, [.long x])), (jk, .inl (ck, 43, .inl K)), (jv, .inl (cv, 43, .inl V)), (jr, .inl (cr, 43, .inl R)), (jg, .inl (cg, 43, .inr (.inl G))), (jb, .inl (cb, 8, .inr (.inl B)))]) [0, 1, 2, 3, 4, 5, 6, 7] (by decide) rfl
  have hFc := va_free (wc := [(jd, .inr (2, [.long sd, .ref jh, .ref jh2, .ref jg, .ref jb, .ref jy, .long w])), (jh, .inr (1, [.ref jt, .ref jk, .ref jv, .ref jr, .int (nI n)])), (jt, .inr (0, [.long x])), (jk, .inl (ck, 43, .inl K)), (jv, .inl (cv, 43, .inl V)), (jr, .inl (cr, 43, .inl R)), (jg, .inl (cg, 43, .inr (.inl G))), (jb, .inl (cb, 8, .inr (.inl B)))]) hD hS hA [0, 1, 2, 3, 4, 5, 6, 7] rfl
  refine va_calli (va_runV (As := [.int (nI z)]) (rest := [.int (nI 0), .ref jo]) ⟨hx, hb, hml, hown, hts⟩ (c_D_draw l dC dI jd jh jh2 jg jb jy sd w jt jk jv jr n ck cv cr cg cb x K V R G B z hz _) (cwV 1 hts (g_V big_w m_153 m_154 m_155 m_1 m_156) rfl rfl rfl (by decide +kernel) ⟨Nat.le_of_ble_eq_true rfl, Nat.le_of_ble_eq_true rfl⟩) (wr_V hPc hKc hDc hN (va_recv hKc hPc (ci := 2) (q0 := 0) rfl rfl)) rfl rfl hl.1 rfl (lv_room (Nat.le_of_ble_eq_true rfl)) d_L_draw_4 ⟨Nat.le_of_ble_eq_true rfl, Nat.le_of_ble_eq_true rfl⟩) hS (fun q _ h => hFc q h) hFc (fun r_1 u t H1 locs ht hvm hw hB hz1 hk1 hS => ?_)
  obtain ⟨hP1, hK1, hD1⟩ := hB
  rw [ht] at hP1
  obtain ⟨hP, hD⟩ := va_join (wr := [(jo, .inl (co, 1, .inr (.inl O)))]) (w1 := [(jd, .inr (2, [.long sd, .ref jh, .ref jh2, .ref jg, .ref jb, .ref jy, .long (allW (z + 3))])), (jh, .inr (1, [.ref jt, .ref jk, .ref jv, .ref jr, .int (nI (z + 3))])), (jt, .inr (0, [.long ((flS sd K V R z).1)])), (jk, .inl (ck, 43, .inl ((flS sd K V R z).2.1))), (jv, .inl (cv, 43, .inl ((flS sd K V R z).2.2.1))), (jr, .inl (cr, 43, .inl ((flS sd K V R z).2.2.2))), (jg, .inl (cg, 43, .inr (.inl (gwG (z + 3) (flS sd K V R z).2.2.2 G)))), (jb, .inl (cb, 8, .inr (.inl (pbB (z + 3) (flS sd K V R z).2.1 (flS sd K V R z).2.2.1 (flS sd K V R z).2.2.2 B))))]) hP hD [0, 1, 2, 3, 4, 5, 6, 7] [8] rfl rfl (by decide) (by decide) hk1 hFc hP1 hD1
  generalize H1 = H at hP hS ⊢
  have hP : va_P (dC, dI) classes [(jo, .inl (co, 1, .inr (.inl O))), (jd, .inr (2, [.long sd, .ref jh, .ref jh2, .ref jg, .ref jb, .ref jy, .long (allW (z + 3))])), (jh, .inr (1, [.ref jt, .ref jk, .ref jv, .ref jr, .int (nI (z + 3))])), (jt, .inr (0, [.long ((flS sd K V R z).1)])), (jk, .inl (ck, 43, .inl ((flS sd K V R z).2.1))), (jv, .inl (cv, 43, .inl ((flS sd K V R z).2.2.1))), (jr, .inl (cr, 43, .inl ((flS sd K V R z).2.2.2))), (jg, .inl (cg, 43, .inr (.inl (gwG (z + 3) (flS sd K V R z).2.2.2 G)))), (jb, .inl (cb, 8, .inr (.inl (pbB (z + 3) (flS sd K V R z).2.1 (flS sd K V R z).2.2.1 (flS sd K V R z).2.2.2 B))))] H := hP
  have hD : va_D A [(jo, .inl (co, 1, .inr (.inl O))), (jd, .inr (2, [.long sd, .ref jh, .ref jh2, .ref jg, .ref jb, .ref jy, .long (allW (z + 3))])), (jh, .inr (1, [.ref jt, .ref jk, .ref jv, .ref jr, .int (nI (z + 3))])), (jt, .inr (0, [.long ((flS sd K V R z).1)])), (jk, .inl (ck, 43, .inl ((flS sd K V R z).2.1))), (jv, .inl (cv, 43, .inl ((flS sd K V R z).2.2.1))), (jr, .inl (cr, 43, .inl ((flS sd K V R z).2.2.2))), (jg, .inl (cg, 43, .inr (.inl (gwG (z + 3) (flS sd K V R z).2.2.2 G)))), (jb, .inl (cb, 8, .inr (.inl (pbB (z + 3) (flS sd K V R z).2.1 (flS sd K V R z).2.2.1 (flS sd K V R z).2.2.2 B))))] := hD
  have hw := hw.symm
  subst hw
  refine lv_i2l hx hb d_L_draw_7 rfl ?_
  refine va_last hx hb hK hP hD hS 0 5 rfl rfl (vp_in_nI (by omega) (by omega)) d_L_draw_8 (fun H locs hP hD hS => ?_)
  rw [nI_clamp (by omega)] at hP hD
  have hP : va_P (dC, dI) classes [(jo, .inl (co, 1, .inr (.inl (vp_updL O 0 ((nI (z + 3)).toInt64))))), (jd, .inr (2, [.long sd, .ref jh, .ref jh2, .ref jg, .ref jb, .ref jy, .long (allW (z + 3))])), (jh, .inr (1, [.ref jt, .ref jk, .ref jv, .ref jr, .int (nI (z + 3))])), (jt, .inr (0, [.long ((flS sd K V R z).1)])), (jk, .inl (ck, 43, .inl ((flS sd K V R z).2.1))), (jv, .inl (cv, 43, .inl ((flS sd K V R z).2.2.1))), (jr, .inl (cr, 43, .inl ((flS sd K V R z).2.2.2))), (jg, .inl (cg, 43, .inr (.inl (gwG (z + 3) (flS sd K V R z).2.2.2 G)))), (jb, .inl (cb, 8, .inr (.inl (pbB (z + 3) (flS sd K V R z).2.1 (flS sd K V R z).2.2.1 (flS sd K V R z).2.2.2 B))))] H := hP
  have hD : va_D A [(jo, .inl (co, 1, .inr (.inl (vp_updL O 0 ((nI (z + 3)).toInt64))))), (jd, .inr (2, [.long sd, .ref jh, .ref jh2, .ref jg, .ref jb, .ref jy, .long (allW (z + 3))])), (jh, .inr (1, [.ref jt, .ref jk, .ref jv, .ref jr, .int (nI (z + 3))])), (jt, .inr (0, [.long ((flS sd K V R z).1)])), (jk, .inl (ck, 43, .inl ((flS sd K V R z).2.1))), (jv, .inl (cv, 43, .inl ((flS sd K V R z).2.2.1))), (jr, .inl (cr, 43, .inl ((flS sd K V R z).2.2.2))), (jg, .inl (cg, 43, .inr (.inl (gwG (z + 3) (flS sd K V R z).2.2.2 G)))), (jb, .inl (cb, 8, .inr (.inl (pbB (z + 3) (flS sd K V R z).2.1 (flS sd K V R z).2.2.1 (flS sd K V R z).2.2.2 B))))] := hD
  refine lv_goto (tgt := 15) hx hb d_L_draw_9 (by decide) ?_
  refine lv_iconst (v := nI 0) hx hb d_L_draw_15 (by decide +kernel) ?_
  have hP9 := hP.sub (ws' := [(jd, .inr (2, [.long sd, .ref jh, .ref jh2, .ref jg, .ref jb, .ref jy, .long (allW (z + 3))])), (jh, .inr (1, [.ref jt, .ref jk, .ref jv, .ref jr, .int (nI (z + 3))])), (jt, .inr (0, [.long ((flS sd K V R z).1)])), (jk, .inl (ck, 43, .inl ((flS sd K V R z).2.1))), (jv, .inl (cv, 43, .inl ((flS sd K V R z).2.2.1))), (jr, .inl (cr, 43, .inl ((flS sd K V R z).2.2.2))), (jg, .inl (cg, 43, .inr (.inl (gwG (z + 3) (flS sd K V R z).2.2.2 G)))), (jb, .inl (cb, 8, .inr (.inl (pbB (z + 3) (flS sd K V R z).2.1 (flS sd K V R z).2.2.1 (flS sd K V R z).2.2.2 B)))), (jo, .inl (co, 1, .inr (.inl (vp_updL O 0 ((nI (z + 3)).toInt64)))))]) [1, 2, 3, 4, 5, 6, 7, 8, 0] rfl
  have hD9 := hD.sub (ws' := [(jd, .inr (2, [.long sd, .ref jh, .ref jh2, .ref jg, .ref jb, .ref jy, .long (allW (z + 3))])), (jh, .inr (1, [.ref jt, .ref jk, .ref jv, .ref jr, .int (nI (z + 3))])), (jt, .inr (0, [.long ((flS sd K V R z).1)])), (jk, .inl (ck, 43, .inl ((flS sd K V R z).2.1))), (jv, .inl (cv, 43, .inl ((flS sd K V R z).2.2.1))), (jr, .inl (cr, 43, .inl ((flS sd K V R z).2.2.2))), (jg, .inl (cg, 43, .inr (.inl (gwG (z + 3) (flS sd K V R z).2.2.2 G)))), (jb, .inl (cb, 8, .inr (.inl (pbB (z + 3) (flS sd K V R z).2.1 (flS sd K V R z).2.2.1 (flS sd K V R z).2.2.2 B)))), (jo, .inl (co, 1, .inr (.inl (vp_updL O 0 ((nI (z + 3)).toInt64)))))]) [1, 2, 3, 4, 5, 6, 7, 8, 0] (by decide) rfl
  have hK9 := hK.sub (tys' := [(ck, .int), (cv, .int), (cr, .int), (cg, .long), (cb, .long), (co, .long)]) [0, 1, 2, 3, 4, 5] rfl
  exact W.iret (v := nI 0) hx hb hr (fun t ht hW => ⟨⟨nI 0, (), rfl, rfl, by rw [ht]; exact hP9, va_K.moved hW.alike hK9, hD9⟩, hS.F ht⟩) hS.2.2 d_L_draw_16
set_option maxHeartbeats 4000000 in
set_option maxRecDepth 100000 in
/-- the law: draw, refused -/
theorem c_L_drawx (l : Launch) (hl9 : l.stackTraces = false) (dC : Nat → ClassId) (dI : Nat → Nat → Nat) (jd jh jh2 jg jb jy : Nat) (sd w : Int64) (p0 : Int32) (jo : Nat) (co : ClassId) (O : Nat → Int64) (hex : szB p0 = false) (sa : Nat → Nat) (sz : Nat) : Met l y_L_draw w_L_draw ({ frames := 7, cells := 1, slots := 6, locals := 134 }) (wx_P dC dI [.ref jd, .int p0, .ref jo] [(jd, .inr (2, [.long sd, .ref jh, .ref jh2, .ref jg, .ref jb, .ref jy, .long w])), (jo, .inl (co, 1, .inr (.inl O)))] [(co, .long)] sa sz) (va_Qi (fun (r : Int32) (_ : Unit) => r = nI 1) (fun (u : Unit) => wr_B dC dI (va_A [(jd, .inr (2, [.long sd, .ref jh, .ref jh2, .ref jg, .ref jb, .ref jy, .long w])), (jo, .inl (co, 1, .inr (.inl O)))] sz) [(jd, .inr (2, [.long sd, .ref jh, .ref jh2, .ref jg, .ref jb, .ref jy, .long w])), (jo, .inl (co, 1, .inr (.inl O)))] [(co, .long)]) (va_A [(jd, .inr (2, [.long sd, .ref jh, .ref jh2, .ref jg, .ref jb, .ref jy, .long w])), (jo, .inl (co, 1, .inr (.inl O)))] sz)) 1 6 (va_A [(jd, .inr (2, [.long sd, .ref jh, .ref jh2, .ref jg, .ref jb, .ref jy, .long w])), (jo, .inl (co, 1, .inr (.inl O)))] sz) := by
  refine va_MetW (cc := b_L_draw) (maxL := 4) (ret := (Option.some Jvm.ClassFile.FieldType.int)) (by decide) rfl ?_
  intro p e s m args below meth c s₁ B0 hml hv0
  obtain ⟨rfl, hsz, hP, hK, hD0, hN, hT, hZ⟩ := hv0
  have hx := B0.exec
  have hb := B0.bytes
  have hr := B0.returns
  have hts := atoms_spec (ws := w_L_draw) B0.pre
  have hown : s.vm.findClass R_L = some m.cls := findClass_of_methodNamed B0.named
  have hlocks := B0.notSynchronized
  subst hsz
  have hD := hD0.self (sz := s.heap.size)
  generalize hAe : va_A [(jd, .inr (2, [.long sd, .ref jh, .ref jh2, .ref jg, .ref jb, .ref jy, .long w])), (jo, .inl (co, 1, .inr (.inl O)))] s.heap.size = A at hD hZ ⊢
  have hA : ∀ q : Nat, s.heap.size ≤ q → A q := fun q h => by rw [← hAe]; exact Or.inr h
  have hS : va_S A s.heap s.heap [] := va_S.rf
  have hP : va_P (dC, dI) classes [(jd, .inr (2, [.long sd, .ref jh, .ref jh2, .ref jg, .ref jb, .ref jy, .long w])), (jo, .inl (co, 1, .inr (.inl O)))] s.heap := hP
  have hl := lv_entry ([.ref jd, .int p0, .ref jo]) (n := 4) (Nat.le_of_ble_eq_true rfl)
  rw [lg_entry_eq]
  generalize (lg_sl ([.ref jd, .int p0, .ref jo]) ++ List.replicate (4 - (lg_sl ([.ref jd, .int p0, .ref jo])).length) Slot.unset).toArray = ls at hl ⊢
  have hl : lv_has ls 4 [(0, .ref jd), (1, .int p0), (2, .ref jo)] := hl
  have hTab : c.exceptionTable.toList = tableOf [((0 : Nat), (9 : Nat), (12 : Nat), (13 : Nat))] := vx_table (x := y_L_draw) B0 (hts (.codeWith y_L_draw b_L_draw 4 (Option.some Jvm.ClassFile.FieldType.int) [((0 : Nat), (9 : Nat), (12 : Nat), (13 : Nat))]) List.mem_cons_self)
  refine lv_aload_n hx hb d_L_draw_0 rfl (lv_at hl 2 rfl) ?_
  refine lv_iconst (v := nI 0) hx hb d_L_draw_1 (by decide +kernel) ?_
  refine lv_aload_n hx hb d_L_draw_2 rfl (lv_at hl 0 rfl) ?_
  refine lv_iload_n hx hb d_L_draw_3 rfl (lv_at hl 1 rfl) ?_
  have hPc := hP.sub (ws' := [(jd, .inr (2, [.long sd, .ref jh, .ref jh2, .ref jg, .ref jb, .ref jy, .long w]))]) [0] rfl
  have hKc := hK.sub (tys' := []) [] rfl
  have hDc := hD.sub (ws' := [(jd, .inr (2, [.long sd, .ref jh, .ref jh2, .ref jg, .ref jb, .ref jy, .long w]))]) [0] (by decide) rfl
  have hFc := va_free (wc := [(jd, .inr (2, [.long sd, .ref jh, .ref jh2, .ref jg, .ref jb, .ref jy, .long w]))]) hD hS hA [0] rfl
  refine vx_calli (vx_runV (As := [.int p0]) (rest := [.int (nI 0), .ref jo]) ⟨hx, hb, hml, hown, hts⟩ (c_D_drawx l hl9 dC dI jd jh jh2 jg jb jy sd w p0 hex sa _) (cwV 1 hts (g_V big_w m_153 m_154 m_155 m_1 m_156) rfl rfl rfl (by decide +kernel) ⟨Nat.le_of_ble_eq_true rfl, Nat.le_of_ble_eq_true rfl⟩) (wx_V hPc hKc hDc hN hT hZ hS hFc (va_recv hKc hPc (ci := 2) (q0 := 0) rfl rfl)) rfl rfl hl.1 rfl (lv_room (Nat.le_of_ble_eq_true rfl)) d_L_draw_4 ⟨Nat.le_of_ble_eq_true rfl, Nat.le_of_ble_eq_true rfl⟩) hS (fun q _ h => hFc q h) hFc (fun q _ h => hFc q h) (fun E ce q9 u t H1 locs ht hvm hw hB hz1 hk1 hS hce hcv hcl => ?_) (fun r_1 u t H1 locs ht hvm hw hB hz1 hk1 hS => ?_)
  · skip
    obtain ⟨rfl, hP1, hK1, hD1⟩ := hB
    rw [ht] at hP1
    obtain ⟨hP, hD⟩ := va_join (wr := [(jo, .inl (co, 1, .inr (.inl O)))]) (w1 := [(jd, .inr (2, [.long sd, .ref jh, .ref jh2, .ref jg, .ref jb, .ref jy, .long w]))]) hP hD [0] [1] rfl rfl (by decide) (by decide) hk1 hFc hP1 hD1
    generalize H1 = H at hP hS hce ⊢
    have hP : va_P (dC, dI) classes [(jo, .inl (co, 1, .inr (.inl O))), (jd, .inr (2, [.long sd, .ref jh, .ref jh2, .ref jg, .ref jb, .ref jy, .long w]))] H := hP
    have hD : va_D A [(jo, .inl (co, 1, .inr (.inl O))), (jd, .inr (2, [.long sd, .ref jh, .ref jh2, .ref jg, .ref jb, .ref jy, .long w]))] := hD
    refine vx_catch hown [] ⟨0, 9, 12, 13⟩ [] hTab (fun z h => nomatch h) (by decide) (by decide) (hts _ (List.mem_cons_of_mem _ m_152)) (hN.use (by decide +kernel : (Jvm.Cond.castable "java/lang/IllegalArgumentException" "java/lang/IllegalArgumentException") ∈ NWl)) hce hcv hcl ?_
    refine W.cs (cells' := 1) (slots' := 6) rfl rfl ?_
    refine lv_astore_n (lv' := [(3, .ref q9), (0, .ref jd), (1, .int p0), (2, .ref jo)]) hx hb d_L_draw_12 rfl hl (by decide) rfl (fun ls hl => ?_)
    refine lv_iconst (v := nI 1) hx hb d_L_draw_13 (by decide +kernel) ?_
    have hP9 := hP.sub (ws' := [(jd, .inr (2, [.long sd, .ref jh, .ref jh2, .ref jg, .ref jb, .ref jy, .long w])), (jo, .inl (co, 1, .inr (.inl O)))]) [1, 0] rfl
    have hD9 := hD.sub (ws' := [(jd, .inr (2, [.long sd, .ref jh, .ref jh2, .ref jg, .ref jb, .ref jy, .long w])), (jo, .inl (co, 1, .inr (.inl O)))]) [1, 0] (by decide) rfl
    have hK9 := hK.sub (tys' := [(co, .long)]) [0] rfl
    exact W.iret (v := nI 1) hx hb hr (fun t ht hW => ⟨⟨nI 1, (), rfl, rfl, by rw [ht]; exact hP9, va_K.moved hW.alike hK9, hD9⟩, hS.F ht⟩) hS.2.2 d_L_draw_14
  · skip
    obtain ⟨hP1, hK1, hD1⟩ := hB
    rw [ht] at hP1
    obtain ⟨hP, hD⟩ := va_join (wr := [(jo, .inl (co, 1, .inr (.inl O)))]) (w1 := [(jd, .inr (2, [.long sd, .ref jh, .ref jh2, .ref jg, .ref jb, .ref jy, .long w]))]) hP hD [0] [1] rfl rfl (by decide) (by decide) hk1 hFc hP1 hD1
    generalize H1 = H at hP hS ⊢
    have hP : va_P (dC, dI) classes [(jo, .inl (co, 1, .inr (.inl O))), (jd, .inr (2, [.long sd, .ref jh, .ref jh2, .ref jg, .ref jb, .ref jy, .long w]))] H := hP
    have hD : va_D A [(jo, .inl (co, 1, .inr (.inl O))), (jd, .inr (2, [.long sd, .ref jh, .ref jh2, .ref jg, .ref jb, .ref jy, .long w]))] := hD
    exact hw.elim
set_option maxHeartbeats 4000000 in
set_option maxRecDepth 100000 in
/-- the law: part, answered -/
theorem c_L_part (l : Launch) (dC : Nat → ClassId) (dI : Nat → Nat → Nat) (jd jh jh2 jg jb jy : Nat) (sd w : Int64) (jt jk jv jr n : Nat) (ck cv cr : ClassId) (K V R : Nat → Int32) (i : Nat) (p1 : Int32) (jo : Nat) (co : ClassId) (O : Nat → Int64) (hn : n ≤ 43) (hi : i < n) (h4 : ¬ (p1.toInt < 0 ∨ 4 < p1.toInt)) (sz : Nat) : Met l y_L_part w_L_part ({ frames := 2, cells := 0, slots := 0, locals := 46 }) (wr_P dC dI [.ref jd, .int (nI i), .int p1, .ref jo] [(jd, .inr (2, [.long sd, .ref jh, .ref jh2, .ref jg, .ref jb, .ref jy, .long w])), (jh, .inr (1, [.ref jt, .ref jk, .ref jv, .ref jr, .int (nI n)])), (jk, .inl (ck, 43, .inl K)), (jv, .inl (cv, 43, .inl V)), (jr, .inl (cr, 43, .inl R)), (jo, .inl (co, 1, .inr (.inl O)))] [(ck, .int), (cv, .int), (cr, .int), (co, .long)] sz) (va_Qi (fun (r : Int32) (_ : Unit) => r = nI 0) (fun (u : Unit) => wr_B dC dI (va_A [(jd, .inr (2, [.long sd, .ref jh, .ref jh2, .ref jg, .ref jb, .ref jy, .long w])), (jh, .inr (1, [.ref jt, .ref jk, .ref jv, .ref jr, .int (nI n)])), (jk, .inl (ck, 43, .inl K)), (jv, .inl (cv, 43, .inl V)), (jr, .inl (cr, 43, .inl R)), (jo, .inl (co, 1, .inr (.inl O)))] sz) [(jd, .inr (2, [.long sd, .ref jh, .ref jh2, .ref jg, .ref jb, .ref jy, .long w])), (jh, .inr (1, [.ref jt, .ref jk, .ref jv, .ref jr, .int (nI n)])), (jk, .inl (ck, 43, .inl K)), (jv, .inl (cv, 43, .inl V)), (jr, .inl (cr, 43, .inl R)), (jo, .inl (co, 1, .inr (.inl (vp_updL O 0 ((ptI K V R w i p1).toInt64)))))] [(ck, .int), (cv, .int), (cr, .int), (co, .long)]) (va_A [(jd, .inr (2, [.long sd, .ref jh, .ref jh2, .ref jg, .ref jb, .ref jy, .long w])), (jh, .inr (1, [.ref jt, .ref jk, .ref jv, .ref jr, .int (nI n)])), (jk, .inl (ck, 43, .inl K)), (jv, .inl (cv, 43, .inl V)), (jr, .inl (cr, 43, .inl R)), (jo, .inl (co, 1, .inr (.inl O)))] sz)) 0 0 (va_A [(jd, .inr (2, [.long sd, .ref jh, .ref jh2, .ref jg, .ref jb, .ref jy, .long w])), (jh, .inr (1, [.ref jt, .ref jk, .ref jv, .ref jr, .int (nI n)])), (jk, .inl (ck, 43, .inl K)), (jv, .inl (cv, 43, .inl V)), (jr, .inl (cr, 43, .inl R)), (jo, .inl (co, 1, .inr (.inl O)))] sz) := by
  refine va_MetW (cc := b_L_part) (maxL := 5) (ret := (Option.some Jvm.ClassFile.FieldType.int)) (by decide) rfl ?_
  intro p e s m args below meth c s₁ B0 hml hv0
  obtain ⟨rfl, hsz, hP, hK, hD0, hN⟩ := hv0
  have hx := B0.exec
  have hb := B0.bytes
  have hr := B0.returns
  have hts := atoms_spec (ws := w_L_part) B0.pre
  have hown : s.vm.findClass R_L = some m.cls := findClass_of_methodNamed B0.named
  have hlocks := B0.notSynchronized
  subst hsz
  have hD := hD0.self (sz := s.heap.size)
  generalize hAe : va_A [(jd, .inr (2, [.long sd, .ref jh, .ref jh2, .ref jg, .ref jb, .ref jy, .long w])), (jh, .inr (1, [.ref jt, .ref jk, .ref jv, .ref jr, .int (nI n)])), (jk, .inl (ck, 43, .inl K)), (jv, .inl (cv, 43, .inl V)), (jr, .inl (cr, 43, .inl R)), (jo, .inl (co, 1, .inr (.inl O)))] s.heap.size = A at hD ⊢
  have hA : ∀ q : Nat, s.heap.size ≤ q → A q := fun q h => by rw [← hAe]; exact Or.inr h
  have hS : va_S A s.heap s.heap [] := va_S.rf
  have hP : va_P (dC, dI) classes [(jd, .inr (2, [.long sd, .ref jh, .ref jh2, .ref jg, .ref jb, .ref jy, .long w])), (jh, .inr (1, [.ref jt, .ref jk, .ref jv, .ref jr, .int (nI n)])), (jk, .inl (ck, 43, .inl K)), (jv, .inl (cv, 43, .inl V)), (jr, .inl (cr, 43, .inl R)), (jo, .inl (co, 1, .inr (.inl O)))] s.heap := hP
  have hl := lv_entry ([.ref jd, .int (nI i), .int p1, .ref jo]) (n := 5) (Nat.le_of_ble_eq_true rfl)
  rw [lg_entry_eq]
  generalize (lg_sl ([.ref jd, .int (nI i), .int p1, .ref jo]) ++ List.replicate (5 - (lg_sl ([.ref jd, .int (nI i), .int p1, .ref jo])).length) Slot.unset).toArray = ls at hl ⊢
  have hl : lv_has ls 5 [(0, .ref jd), (1, .int (nI i)), (2, .int p1), (3, .ref jo)] := hl
  have hTab : c.exceptionTable.toList = tableOf [((0 : Nat), (10 : Nat), (13 : Nat), (19 : Nat))] := vx_table (x := y_L_part) B0 (hts (.codeWith y_L_part b_L_part 5 (Option.some Jvm.ClassFile.FieldType.int) [((0 : Nat), (10 : Nat), (13 : Nat), (19 : Nat))]) List.mem_cons_self)
  refine lv_aload_n hx hb d_L_part_0 rfl (lv_at hl 3 rfl) ?_
  refine lv_iconst (v := nI 0) hx hb d_L_part_1 (by decide +kernel) ?_
  refine lv_aload_n hx hb d_L_part_2 rfl (lv_at hl 0 rfl) ?_
  refine lv_iload_n hx hb d_L_part_3 rfl (lv_at hl 1 rfl) ?_
  refine lv_iload_n hx hb d_L_part_4 rfl (lv_at hl 2 rfl) ?_
  have hPc := hP.sub (ws' := [(jd, .inr (2, [.long sd, .ref jh, .ref jh2, .ref jg, .ref jb, .ref jy, .long w])), (jh, .inr (1, [.ref jt, .ref jk, .ref jv, .ref jr, .int (nI n)])), (jk, .inl (ck, 43, .inl K)), (jv, .inl (cv, 43, .inl V)), (jr, .inl (cr, 43, .inl R))]) [0, 1, 2, 3, 4] rfl
  have hKc := hK.sub (tys' := [(ck, .int), (cv, .int), (cr, .int)]) [0, 1, 2] rfl
  refine vp_callSi (W.runV (As := [.int (nI i), .int p1]) (rest := [.int (nI 0), .ref jo]) ⟨hx, hb, hml, hown, hts⟩ (c_D_part l dC dI jd jh jh2 jg jb jy sd w jt jk jv jr n ck cv cr K V R i p1 hn hi h4) (cwV 2 hts (g_V big_w m_281 m_282 m_283 m_1 m_284) rfl rfl rfl (by decide +kernel) ⟨Nat.le_of_ble_eq_true rfl, Nat.le_of_ble_eq_true rfl⟩) (ro_V hPc hKc hN (va_recv hKc hPc (ci := 2) (q0 := 0) rfl rfl)) rfl rfl hl.1 rfl (lv_room (Nat.le_of_ble_eq_true rfl)) d_L_part_5 ⟨Nat.le_of_ble_eq_true rfl, Nat.le_of_ble_eq_true rfl⟩) (fun r_1 er_1 => ?_)
  have er_1 := er_1.symm
  subst er_1
  refine lv_i2l hx hb d_L_part_8 rfl ?_
  refine va_last hx hb hK hP hD hS 5 3 rfl rfl (vp_in_nI (by omega) (by omega)) d_L_part_9 (fun H locs hP hD hS => ?_)
  rw [nI_clamp (by omega)] at hP hD
  have hP : va_P (dC, dI) classes [(jd, .inr (2, [.long sd, .ref jh, .ref jh2, .ref jg, .ref jb, .ref jy, .long w])), (jh, .inr (1, [.ref jt, .ref jk, .ref jv, .ref jr, .int (nI n)])), (jk, .inl (ck, 43, .inl K)), (jv, .inl (cv, 43, .inl V)), (jr, .inl (cr, 43, .inl R)), (jo, .inl (co, 1, .inr (.inl (vp_updL O 0 ((ptI K V R w i p1).toInt64)))))] H := hP
  have hD : va_D A [(jd, .inr (2, [.long sd, .ref jh, .ref jh2, .ref jg, .ref jb, .ref jy, .long w])), (jh, .inr (1, [.ref jt, .ref jk, .ref jv, .ref jr, .int (nI n)])), (jk, .inl (ck, 43, .inl K)), (jv, .inl (cv, 43, .inl V)), (jr, .inl (cr, 43, .inl R)), (jo, .inl (co, 1, .inr (.inl (vp_updL O 0 ((ptI K V R w i p1).toInt64)))))] := hD
  refine lv_goto (tgt := 17) hx hb d_L_part_10 (by decide) ?_
  refine lv_iconst (v := nI 0) hx hb d_L_part_17 (by decide +kernel) ?_
  have hP9 := hP.sub (ws' := [(jd, .inr (2, [.long sd, .ref jh, .ref jh2, .ref jg, .ref jb, .ref jy, .long w])), (jh, .inr (1, [.ref jt, .ref jk, .ref jv, .ref jr, .int (nI n)])), (jk, .inl (ck, 43, .inl K)), (jv, .inl (cv, 43, .inl V)), (jr, .inl (cr, 43, .inl R)), (jo, .inl (co, 1, .inr (.inl (vp_updL O 0 ((ptI K V R w i p1).toInt64)))))]) [0, 1, 2, 3, 4, 5] rfl
  have hD9 := hD.sub (ws' := [(jd, .inr (2, [.long sd, .ref jh, .ref jh2, .ref jg, .ref jb, .ref jy, .long w])), (jh, .inr (1, [.ref jt, .ref jk, .ref jv, .ref jr, .int (nI n)])), (jk, .inl (ck, 43, .inl K)), (jv, .inl (cv, 43, .inl V)), (jr, .inl (cr, 43, .inl R)), (jo, .inl (co, 1, .inr (.inl (vp_updL O 0 ((ptI K V R w i p1).toInt64)))))]) [0, 1, 2, 3, 4, 5] (by decide) rfl
  have hK9 := hK.sub (tys' := [(ck, .int), (cv, .int), (cr, .int), (co, .long)]) [0, 1, 2, 3] rfl
  exact W.iret (v := nI 0) hx hb hr (fun t ht hW => ⟨⟨nI 0, (), rfl, rfl, by rw [ht]; exact hP9, va_K.moved hW.alike hK9, hD9⟩, hS.F ht⟩) hS.2.2 d_L_part_18
set_option maxHeartbeats 4000000 in
set_option maxRecDepth 100000 in
/-- the law: part, refused -/
theorem c_L_partx (l : Launch) (hl9 : l.stackTraces = false) (dC : Nat → ClassId) (dI : Nat → Nat → Nat) (jd jh jh2 jg jb jy : Nat) (sd w : Int64) (jt jk jv jr n : Nat) (p0 p1 : Int32) (jo : Nat) (co : ClassId) (O : Nat → Int64) (hn : n ≤ 43) (hex : hB n p0 = false ∨ (p1.toInt < 0 ∨ 4 < p1.toInt)) (sa : Nat → Nat) (sz : Nat) : Met l y_L_part w_L_part ({ frames := 7, cells := 1, slots := 6, locals := 122 }) (wx_P dC dI [.ref jd, .int p0, .int p1, .ref jo] [(jd, .inr (2, [.long sd, .ref jh, .ref jh2, .ref jg, .ref jb, .ref jy, .long w])), (jh, .inr (1, [.ref jt, .ref jk, .ref jv, .ref jr, .int (nI n)])), (jo, .inl (co, 1, .inr (.inl O)))] [(co, .long)] sa sz) (va_Qi (fun (r : Int32) (_ : Unit) => r = nI 1) (fun (u : Unit) => wr_B dC dI (va_A [(jd, .inr (2, [.long sd, .ref jh, .ref jh2, .ref jg, .ref jb, .ref jy, .long w])), (jh, .inr (1, [.ref jt, .ref jk, .ref jv, .ref jr, .int (nI n)])), (jo, .inl (co, 1, .inr (.inl O)))] sz) [(jd, .inr (2, [.long sd, .ref jh, .ref jh2, .ref jg, .ref jb, .ref jy, .long w])), (jh, .inr (1, [.ref jt, .ref jk, .ref jv, .ref jr, .int (nI n)])), (jo, .inl (co, 1, .inr (.inl O)))] [(co, .long)]) (va_A [(jd, .inr (2, [.long sd, .ref jh, .ref jh2, .ref jg, .ref jb, .ref jy, .long w])), (jh, .inr (1, [.ref jt, .ref jk, .ref jv, .ref jr, .int (nI n)])), (jo, .inl (co, 1, .inr (.inl O)))] sz)) 1 6 (va_A [(jd, .inr (2, [.long sd, .ref jh, .ref jh2, .ref jg, .ref jb, .ref jy, .long w])), (jh, .inr (1, [.ref jt, .ref jk, .ref jv, .ref jr, .int (nI n)])), (jo, .inl (co, 1, .inr (.inl O)))] sz) := by
  refine va_MetW (cc := b_L_part) (maxL := 5) (ret := (Option.some Jvm.ClassFile.FieldType.int)) (by decide) rfl ?_
  intro p e s m args below meth c s₁ B0 hml hv0
  obtain ⟨rfl, hsz, hP, hK, hD0, hN, hT, hZ⟩ := hv0
  have hx := B0.exec
  have hb := B0.bytes
  have hr := B0.returns
  have hts := atoms_spec (ws := w_L_part) B0.pre
  have hown : s.vm.findClass R_L = some m.cls := findClass_of_methodNamed B0.named
  have hlocks := B0.notSynchronized
  subst hsz
  have hD := hD0.self (sz := s.heap.size)
  generalize hAe : va_A [(jd, .inr (2, [.long sd, .ref jh, .ref jh2, .ref jg, .ref jb, .ref jy, .long w])), (jh, .inr (1, [.ref jt, .ref jk, .ref jv, .ref jr, .int (nI n)])), (jo, .inl (co, 1, .inr (.inl O)))] s.heap.size = A at hD hZ ⊢
  have hA : ∀ q : Nat, s.heap.size ≤ q → A q := fun q h => by rw [← hAe]; exact Or.inr h
  have hS : va_S A s.heap s.heap [] := va_S.rf
  have hP : va_P (dC, dI) classes [(jd, .inr (2, [.long sd, .ref jh, .ref jh2, .ref jg, .ref jb, .ref jy, .long w])), (jh, .inr (1, [.ref jt, .ref jk, .ref jv, .ref jr, .int (nI n)])), (jo, .inl (co, 1, .inr (.inl O)))] s.heap := hP
  have hl := lv_entry ([.ref jd, .int p0, .int p1, .ref jo]) (n := 5) (Nat.le_of_ble_eq_true rfl)
  rw [lg_entry_eq]
  generalize (lg_sl ([.ref jd, .int p0, .int p1, .ref jo]) ++ List.replicate (5 - (lg_sl ([.ref jd, .int p0, .int p1, .ref jo])).length) Slot.unset).toArray = ls at hl ⊢
  have hl : lv_has ls 5 [(0, .ref jd), (1, .int p0), (2, .int p1), (3, .ref jo)] := hl
  have hTab : c.exceptionTable.toList = tableOf [((0 : Nat), (10 : Nat), (13 : Nat), (19 : Nat))] := vx_table (x := y_L_part) B0 (hts (.codeWith y_L_part b_L_part 5 (Option.some Jvm.ClassFile.FieldType.int) [((0 : Nat), (10 : Nat), (13 : Nat), (19 : Nat))]) List.mem_cons_self)
  refine lv_aload_n hx hb d_L_part_0 rfl (lv_at hl 3 rfl) ?_
  refine lv_iconst (v := nI 0) hx hb d_L_part_1 (by decide +kernel) ?_
  refine lv_aload_n hx hb d_L_part_2 rfl (lv_at hl 0 rfl) ?_
  refine lv_iload_n hx hb d_L_part_3 rfl (lv_at hl 1 rfl) ?_
  refine lv_iload_n hx hb d_L_part_4 rfl (lv_at hl 2 rfl) ?_
  have hPc := hP.sub (ws' := [(jd, .inr (2, [.long sd, .ref jh, .ref jh2, .ref jg, .ref jb, .ref jy, .long w])), (jh, .inr (1, [.ref jt, .ref jk, .ref jv, .ref jr, .int (nI n)]))]) [0, 1] rfl
  have hKc := hK.sub (tys' := []) [] rfl
  have hDc := hD.sub (ws' := [(jd, .inr (2, [.long sd, .ref jh, .ref jh2, .ref jg, .ref jb, .ref jy, .long w])), (jh, .inr (1, [.ref jt, .ref jk, .ref jv, .ref jr, .int (nI n)]))]) [0, 1] (by decide) rfl
  have hFc := va_free (wc := [(jd, .inr (2, [.long sd, .ref jh, .ref jh2, .ref jg, .ref jb, .ref jy, .long w])), (jh, .inr (1, [.ref jt, .ref jk, .ref jv, .ref jr, .int (nI n)]))]) hD hS hA [0, 1] rfl
  refine vx_calli (vx_runV (As := [.int p0, .int p1]) (rest := [.int (nI 0), .ref jo]) ⟨hx, hb, hml, hown, hts⟩ (c_D_partx l hl9 dC dI jd jh jh2 jg jb jy sd w jt jk jv jr n p0 p1 hn hex sa _) (cwV 2 hts (g_V big_w m_281 m_282 m_283 m_1 m_284) rfl rfl rfl (by decide +kernel) ⟨Nat.le_of_ble_eq_true rfl, Nat.le_of_ble_eq_true rfl⟩) (wx_V hPc hKc hDc hN hT hZ hS hFc (va_recv hKc hPc (ci := 2) (q0 := 0) rfl rfl)) rfl rfl hl.1 rfl (lv_room (Nat.le_of_ble_eq_true rfl)) d_L_part_5 ⟨Nat.le_of_ble_eq_true rfl, Nat.le_of_ble_eq_true rfl⟩) hS (fun q _ h => hFc q h) hFc (fun q _ h => hFc q h) (fun E ce q9 u t H1 locs ht hvm hw hB hz1 hk1 hS hce hcv hcl => ?_) (fun r_1 u t H1 locs ht hvm hw hB hz1 hk1 hS => ?_)
  · skip
    obtain ⟨rfl, hP1, hK1, hD1⟩ := hB
    rw [ht] at hP1
    obtain ⟨hP, hD⟩ := va_join (wr := [(jo, .inl (co, 1, .inr (.inl O)))]) (w1 := [(jd, .inr (2, [.long sd, .ref jh, .ref jh2, .ref jg, .ref jb, .ref jy, .long w])), (jh, .inr (1, [.ref jt, .ref jk, .ref jv, .ref jr, .int (nI n)]))]) hP hD [0, 1] [2] rfl rfl (by decide) (by decide) hk1 hFc hP1 hD1
    generalize H1 = H at hP hS hce ⊢
    have hP : va_P (dC, dI) classes [(jo, .inl (co, 1, .inr (.inl O))), (jd, .inr (2, [.long sd, .ref jh, .ref jh2, .ref jg, .ref jb, .ref jy, .long w])), (jh, .inr (1, [.ref jt, .ref jk, .ref jv, .ref jr, .int (nI n)]))] H := hP
    have hD : va_D A [(jo, .inl (co, 1, .inr (.inl O))), (jd, .inr (2, [.long sd, .ref jh, .ref jh2, .ref jg, .ref jb, .ref jy, .long w])), (jh, .inr (1, [.ref jt, .ref jk, .ref jv, .ref jr, .int (nI n)]))] := hD
    refine vx_catch hown [] ⟨0, 10, 13, 19⟩ [] hTab (fun z h => nomatch h) (by decide) (by decide) (hts _ (List.mem_cons_of_mem _ m_280)) (hN.use (by decide +kernel : (Jvm.Cond.castable "java/lang/IndexOutOfBoundsException" "java/lang/IndexOutOfBoundsException") ∈ NWl)) hce hcv hcl ?_
    refine W.cs (cells' := 1) (slots' := 6) rfl rfl ?_
    refine lv_astore (lv' := [(4, .ref q9), (0, .ref jd), (1, .int p0), (2, .int p1), (3, .ref jo)]) hx hb d_L_part_13 hl (by decide) rfl (fun ls hl => ?_)
    refine lv_iconst (v := nI 1) hx hb d_L_part_15 (by decide +kernel) ?_
    have hP9 := hP.sub (ws' := [(jd, .inr (2, [.long sd, .ref jh, .ref jh2, .ref jg, .ref jb, .ref jy, .long w])), (jh, .inr (1, [.ref jt, .ref jk, .ref jv, .ref jr, .int (nI n)])), (jo, .inl (co, 1, .inr (.inl O)))]) [1, 2, 0] rfl
    have hD9 := hD.sub (ws' := [(jd, .inr (2, [.long sd, .ref jh, .ref jh2, .ref jg, .ref jb, .ref jy, .long w])), (jh, .inr (1, [.ref jt, .ref jk, .ref jv, .ref jr, .int (nI n)])), (jo, .inl (co, 1, .inr (.inl O)))]) [1, 2, 0] (by decide) rfl
    have hK9 := hK.sub (tys' := [(co, .long)]) [0] rfl
    exact W.iret (v := nI 1) hx hb hr (fun t ht hW => ⟨⟨nI 1, (), rfl, rfl, by rw [ht]; exact hP9, va_K.moved hW.alike hK9, hD9⟩, hS.F ht⟩) hS.2.2 d_L_part_16
  · skip
    obtain ⟨hP1, hK1, hD1⟩ := hB
    rw [ht] at hP1
    obtain ⟨hP, hD⟩ := va_join (wr := [(jo, .inl (co, 1, .inr (.inl O)))]) (w1 := [(jd, .inr (2, [.long sd, .ref jh, .ref jh2, .ref jg, .ref jb, .ref jy, .long w])), (jh, .inr (1, [.ref jt, .ref jk, .ref jv, .ref jr, .int (nI n)]))]) hP hD [0, 1] [2] rfl rfl (by decide) (by decide) hk1 hFc hP1 hD1
    generalize H1 = H at hP hS ⊢
    have hP : va_P (dC, dI) classes [(jo, .inl (co, 1, .inr (.inl O))), (jd, .inr (2, [.long sd, .ref jh, .ref jh2, .ref jg, .ref jb, .ref jy, .long w])), (jh, .inr (1, [.ref jt, .ref jk, .ref jv, .ref jr, .int (nI n)]))] H := hP
    have hD : va_D A [(jo, .inl (co, 1, .inr (.inl O))), (jd, .inr (2, [.long sd, .ref jh, .ref jh2, .ref jg, .ref jb, .ref jy, .long w])), (jh, .inr (1, [.ref jt, .ref jk, .ref jv, .ref jr, .int (nI n)]))] := hD
    exact hw.elim
set_option maxHeartbeats 4000000 in
set_option maxRecDepth 100000 in
/-- the law: fits, answered -/
theorem c_L_fits (l : Launch) (dC : Nat → ClassId) (dI : Nat → Nat → Nat) (jd jh jh2 jg jb jy : Nat) (sd w : Int64) (jt jk jv jr n : Nat) (ck cv cr : ClassId) (K V R : Nat → Int32) (p0 : Int32) (jo : Nat) (co : ClassId) (O : Nat → Int64) (hn : n ≤ 43) (ha : aB n K p0 = true) (sz : Nat) : Met l y_L_fits w_L_fits ({ frames := 4, cells := 0, slots := 0, locals := 85 }) (wr_P dC dI [.ref jd, .int p0, .ref jo] [(jd, .inr (2, [.long sd, .ref jh, .ref jh2, .ref jg, .ref jb, .ref jy, .long w])), (jh, .inr (1, [.ref jt, .ref jk, .ref jv, .ref jr, .int (nI n)])), (jk, .inl (ck, 43, .inl K)), (jv, .inl (cv, 43, .inl V)), (jr, .inl (cr, 43, .inl R)), (jo, .inl (co, 1, .inr (.inl O)))] [(ck, .int), (cv, .int), (cr, .int), (co, .long)] sz) (va_Qi (fun (r : Int32) (_ : Unit) => r = nI 0) (fun (u : Unit) => wr_B dC dI (va_A [(jd, .inr (2, [.long sd, .ref jh, .ref jh2, .ref jg, .ref jb, .ref jy, .long w])), (jh, .inr (1, [.ref jt, .ref jk, .ref jv, .ref jr, .int (nI n)])), (jk, .inl (ck, 43, .inl K)), (jv, .inl (cv, 43, .inl V)), (jr, .inl (cr, 43, .inl R)), (jo, .inl (co, 1, .inr (.inl O)))] sz) [(jd, .inr (2, [.long sd, .ref jh, .ref jh2, .ref jg, .ref jb, .ref jy, .long w])), (jh, .inr (1, [.ref jt, .ref jk, .ref jv, .ref jr, .int (nI n)])), (jk, .inl (ck, 43, .inl K)), (jv, .inl (cv, 43, .inl V)), (jr, .inl (cr, 43, .inl R)), (jo, .inl (co, 1, .inr (.inl (vp_updL O 0 (bL (fB n K V R p0))))))] [(ck, .int), (cv, .int), (cr, .int), (co, .long)]) (va_A [(jd, .inr (2, [.long sd, .ref jh, .ref jh2, .ref jg, .ref jb, .ref jy, .long w])), (jh, .inr (1, [.ref jt, .ref jk, .ref jv, .ref jr, .int (nI n)])), (jk, .inl (ck, 43, .inl K)), (jv, .inl (cv, 43, .inl V)), (jr, .inl (cr, 43, .inl R)), (jo, .inl (co, 1, .inr (.inl O)))] sz)) 0 0 (va_A [(jd, .inr (2, [.long sd, .ref jh, .ref jh2, .ref jg, .ref jb, .ref jy, .long w])), (jh, .inr (1, [.ref jt, .ref jk, .ref jv, .ref jr, .int (nI n)])), (jk, .inl (ck, 43, .inl K)), (jv, .inl (cv, 43, .inl V)), (jr, .inl (cr, 43, .inl R)), (jo, .inl (co, 1, .inr (.inl O)))] sz) := by
  refine va_MetW (cc := b_L_fits) (maxL := 4) (ret := (Option.some Jvm.ClassFile.FieldType.int)) (by decide) rfl ?_
  intro p e s m args below meth c s₁ B0 hml hv0
  obtain ⟨rfl, hsz, hP, hK, hD0, hN⟩ := hv0
  have hx := B0.exec
  have hb := B0.bytes
  have hr := B0.returns
  have hts := atoms_spec (ws := w_L_fits) B0.pre
  have hown : s.vm.findClass R_L = some m.cls := findClass_of_methodNamed B0.named
  have hlocks := B0.notSynchronized
  subst hsz
  have hD := hD0.self (sz := s.heap.size)
  generalize hAe : va_A [(jd, .inr (2, [.long sd, .ref jh, .ref jh2, .ref jg, .ref jb, .ref jy, .long w])), (jh, .inr (1, [.ref jt, .ref jk, .ref jv, .ref jr, .int (nI n)])), (jk, .inl (ck, 43, .inl K)), (jv, .inl (cv, 43, .inl V)), (jr, .inl (cr, 43, .inl R)), (jo, .inl (co, 1, .inr (.inl O)))] s.heap.size = A at hD ⊢
  have hA : ∀ q : Nat, s.heap.size ≤ q → A q := fun q h => by rw [← hAe]; exact Or.inr h
  have hS : va_S A s.heap s.heap [] := va_S.rf
  have hP : va_P (dC, dI) classes [(jd, .inr (2, [.long sd, .ref jh, .ref jh2, .ref jg, .ref jb, .ref jy, .long w])), (jh, .inr (1, [.ref jt, .ref jk, .ref jv, .ref jr, .int (nI n)])), (jk, .inl (ck, 43, .inl K)), (jv, .inl (cv, 43, .inl V)), (jr, .inl (cr, 43, .inl R)), (jo, .inl (co, 1, .inr (.inl O)))] s.heap := hP
  have hl := lv_entry ([.ref jd, .int p0, .ref jo]) (n := 4) (Nat.le_of_ble_eq_true rfl)
  rw [lg_entry_eq]
  generalize (lg_sl ([.ref jd, .int p0, .ref jo]) ++ List.replicate (4 - (lg_sl ([.ref jd, .int p0, .ref jo])).length) Slot.unset).toArray = ls at hl ⊢
  have hl : lv_has ls 4 [(0, .ref jd), (1, .int p0), (2, .ref jo)] := hl
  have hTab : c.exceptionTable.toList = tableOf [((0 : Nat), (16 : Nat), (19 : Nat), (13 : Nat))] := vx_table (x := y_L_fits) B0 (hts (.codeWith y_L_fits b_L_fits 4 (Option.some Jvm.ClassFile.FieldType.int) [((0 : Nat), (16 : Nat), (19 : Nat), (13 : Nat))]) List.mem_cons_self)
  refine lv_aload_n hx hb d_L_fits_0 rfl (lv_at hl 2 rfl) ?_
  refine lv_iconst (v := nI 0) hx hb d_L_fits_1 (by decide +kernel) ?_
  refine lv_aload_n hx hb d_L_fits_2 rfl (lv_at hl 0 rfl) ?_
  refine lv_iload_n hx hb d_L_fits_3 rfl (lv_at hl 1 rfl) ?_
  have hPc := hP.sub (ws' := [(jd, .inr (2, [.long sd, .ref jh, .ref jh2, .ref jg, .ref jb, .ref jy, .long w])), (jh, .inr (1, [.ref jt, .ref jk, .ref jv, .ref jr, .int (nI n)])), (jk, .inl (ck, 43, .inl K)), (jv, .inl (cv, 43, .inl V)), (jr, .inl (cr, 43, .inl R))]) [0, 1, 2, 3, 4] rfl
  have hKc := hK.sub (tys' := [(ck, .int), (cv, .int), (cr, .int)]) [0, 1, 2] rfl
  refine vp_callSi (W.runV (As := [.int p0]) (rest := [.int (nI 0), .ref jo]) ⟨hx, hb, hml, hown, hts⟩ (c_D_fits l dC dI jd jh jh2 jg jb jy sd w jt jk jv jr n ck cv cr K V R p0 hn ha) (cwV 1 hts (g_V big_w m_305 m_306 m_307 m_1 m_308) rfl rfl rfl (by decide +kernel) ⟨Nat.le_of_ble_eq_true rfl, Nat.le_of_ble_eq_true rfl⟩) (ro_V hPc hKc hN (va_recv hKc hPc (ci := 2) (q0 := 0) rfl rfl)) rfl rfl hl.1 rfl (lv_room (Nat.le_of_ble_eq_true rfl)) d_L_fits_4 ⟨Nat.le_of_ble_eq_true rfl, Nat.le_of_ble_eq_true rfl⟩) (fun r_1 er_1 => ?_)
  have er_1 := er_1.symm
  subst er_1
  refine lv_if_eq (tgt := 14) hx hb d_L_fits_7 (by decide) (fun c_7 => ?_) (fun c_7 => ?_)
  · skip
    have c_7 := bI_f c_7
    refine lv_lconst (v := 0) hx hb d_L_fits_14 (by decide +kernel) ?_
    refine lv_topl (fun w_2 ew_2 => ?_)
    have ew_2 : (bL (fB n K V R p0)) = w_2 := (ew_2.trans (by rw [c_7]; rfl)).symm
    subst ew_2
    refine va_last hx hb hK hP hD hS 5 3 rfl rfl (vp_in_nI (by omega) (by omega)) d_L_fits_15 (fun H locs hP hD hS => ?_)
    rw [nI_clamp (by omega)] at hP hD
    have hP : va_P (dC, dI) classes [(jd, .inr (2, [.long sd, .ref jh, .ref jh2, .ref jg, .ref jb, .ref jy, .long w])), (jh, .inr (1, [.ref jt, .ref jk, .ref jv, .ref jr, .int (nI n)])), (jk, .inl (ck, 43, .inl K)), (jv, .inl (cv, 43, .inl V)), (jr, .inl (cr, 43, .inl R)), (jo, .inl (co, 1, .inr (.inl (vp_updL O 0 (bL (fB n K V R p0))))))] H := hP
    have hD : va_D A [(jd, .inr (2, [.long sd, .ref jh, .ref jh2, .ref jg, .ref jb, .ref jy, .long w])), (jh, .inr (1, [.ref jt, .ref jk, .ref jv, .ref jr, .int (nI n)])), (jk, .inl (ck, 43, .inl K)), (jv, .inl (cv, 43, .inl V)), (jr, .inl (cr, 43, .inl R)), (jo, .inl (co, 1, .inr (.inl (vp_updL O 0 (bL (fB n K V R p0))))))] := hD
    refine lv_goto (tgt := 22) hx hb d_L_fits_16 (by decide) ?_
    refine lv_iconst (v := nI 0) hx hb d_L_fits_22 (by decide +kernel) ?_
    have hP9 := hP.sub (ws' := [(jd, .inr (2, [.long sd, .ref jh, .ref jh2, .ref jg, .ref jb, .ref jy, .long w])), (jh, .inr (1, [.ref jt, .ref jk, .ref jv, .ref jr, .int (nI n)])), (jk, .inl (ck, 43, .inl K)), (jv, .inl (cv, 43, .inl V)), (jr, .inl (cr, 43, .inl R)), (jo, .inl (co, 1, .inr (.inl (vp_updL O 0 (bL (fB n K V R p0))))))]) [0, 1, 2, 3, 4, 5] rfl
    have hD9 := hD.sub (ws' := [(jd, .inr (2, [.long sd, .ref jh, .ref jh2, .ref jg, .ref jb, .ref jy, .long w])), (jh, .inr (1, [.ref jt, .ref jk, .ref jv, .ref jr, .int (nI n)])), (jk, .inl (ck, 43, .inl K)), (jv, .inl (cv, 43, .inl V)), (jr, .inl (cr, 43, .inl R)), (jo, .inl (co, 1, .inr (.inl (vp_updL O 0 (bL (fB n K V R p0))))))]) [0, 1, 2, 3, 4, 5] (by decide) rfl
    have hK9 := hK.sub (tys' := [(ck, .int), (cv, .int), (cr, .int), (co, .long)]) [0, 1, 2, 3] rfl
    exact W.iret (v := nI 0) hx hb hr (fun t ht hW => ⟨⟨nI 0, (), rfl, rfl, by rw [ht]; exact hP9, va_K.moved hW.alike hK9, hD9⟩, hS.F ht⟩) hS.2.2 d_L_fits_23
  · skip
    have c_7 := bI_t c_7
    refine lv_lconst (v := 1) hx hb d_L_fits_10 (by decide +kernel) ?_
    refine lv_topl (fun w_3 ew_3 => ?_)
    have ew_3 : (bL (fB n K V R p0)) = w_3 := (ew_3.trans (by rw [c_7]; rfl)).symm
    subst ew_3
    refine lv_goto (tgt := 15) hx hb d_L_fits_11 (by decide) ?_
    refine va_last hx hb hK hP hD hS 5 3 rfl rfl (vp_in_nI (by omega) (by omega)) d_L_fits_15 (fun H locs hP hD hS => ?_)
    rw [nI_clamp (by omega)] at hP hD
    have hP : va_P (dC, dI) classes [(jd, .inr (2, [.long sd, .ref jh, .ref jh2, .ref jg, .ref jb, .ref jy, .long w])), (jh, .inr (1, [.ref jt, .ref jk, .ref jv, .ref jr, .int (nI n)])), (jk, .inl (ck, 43, .inl K)), (jv, .inl (cv, 43, .inl V)), (jr, .inl (cr, 43, .inl R)), (jo, .inl (co, 1, .inr (.inl (vp_updL O 0 (bL (fB n K V R p0))))))] H := hP
    have hD : va_D A [(jd, .inr (2, [.long sd, .ref jh, .ref jh2, .ref jg, .ref jb, .ref jy, .long w])), (jh, .inr (1, [.ref jt, .ref jk, .ref jv, .ref jr, .int (nI n)])), (jk, .inl (ck, 43, .inl K)), (jv, .inl (cv, 43, .inl V)), (jr, .inl (cr, 43, .inl R)), (jo, .inl (co, 1, .inr (.inl (vp_updL O 0 (bL (fB n K V R p0))))))] := hD
    refine lv_goto (tgt := 22) hx hb d_L_fits_16 (by decide) ?_
    refine lv_iconst (v := nI 0) hx hb d_L_fits_22 (by decide +kernel) ?_
    have hP9 := hP.sub (ws' := [(jd, .inr (2, [.long sd, .ref jh, .ref jh2, .ref jg, .ref jb, .ref jy, .long w])), (jh, .inr (1, [.ref jt, .ref jk, .ref jv, .ref jr, .int (nI n)])), (jk, .inl (ck, 43, .inl K)), (jv, .inl (cv, 43, .inl V)), (jr, .inl (cr, 43, .inl R)), (jo, .inl (co, 1, .inr (.inl (vp_updL O 0 (bL (fB n K V R p0))))))]) [0, 1, 2, 3, 4, 5] rfl
    have hD9 := hD.sub (ws' := [(jd, .inr (2, [.long sd, .ref jh, .ref jh2, .ref jg, .ref jb, .ref jy, .long w])), (jh, .inr (1, [.ref jt, .ref jk, .ref jv, .ref jr, .int (nI n)])), (jk, .inl (ck, 43, .inl K)), (jv, .inl (cv, 43, .inl V)), (jr, .inl (cr, 43, .inl R)), (jo, .inl (co, 1, .inr (.inl (vp_updL O 0 (bL (fB n K V R p0))))))]) [0, 1, 2, 3, 4, 5] (by decide) rfl
    have hK9 := hK.sub (tys' := [(ck, .int), (cv, .int), (cr, .int), (co, .long)]) [0, 1, 2, 3] rfl
    exact W.iret (v := nI 0) hx hb hr (fun t ht hW => ⟨⟨nI 0, (), rfl, rfl, by rw [ht]; exact hP9, va_K.moved hW.alike hK9, hD9⟩, hS.F ht⟩) hS.2.2 d_L_fits_23
set_option maxHeartbeats 4000000 in
set_option maxRecDepth 100000 in
/-- the law: fits, refused -/
theorem c_L_fitsx (l : Launch) (hl9 : l.stackTraces = false) (dC : Nat → ClassId) (dI : Nat → Nat → Nat) (jd jh jh2 jg jb jy : Nat) (sd w : Int64) (jt jk jv jr n : Nat) (ck : ClassId) (K : Nat → Int32) (p0 : Int32) (jo : Nat) (co : ClassId) (O : Nat → Int64) (hn : n ≤ 43) (hex : aB n K p0 = false) (sa : Nat → Nat) (sz : Nat) : Met l y_L_fits w_L_fits ({ frames := 7, cells := 1, slots := 6, locals := 121 }) (wx_P dC dI [.ref jd, .int p0, .ref jo] [(jd, .inr (2, [.long sd, .ref jh, .ref jh2, .ref jg, .ref jb, .ref jy, .long w])), (jh, .inr (1, [.ref jt, .ref jk, .ref jv, .ref jr, .int (nI n)])), (jk, .inl (ck, 43, .inl K)), (jo, .inl (co, 1, .inr (.inl O)))] [(ck, .int), (co, .long)] sa sz) (va_Qi (fun (r : Int32) (_ : Unit) => r = nI 1) (fun (u : Unit) => wr_B dC dI (va_A [(jd, .inr (2, [.long sd, .ref jh, .ref jh2, .ref jg, .ref jb, .ref jy, .long w])), (jh, .inr (1, [.ref jt, .ref jk, .ref jv, .ref jr, .int (nI n)])), (jk, .inl (ck, 43, .inl K)), (jo, .inl (co, 1, .inr (.inl O)))] sz) [(jd, .inr (2, [.long sd, .ref jh, .ref jh2, .ref jg, .ref jb, .ref jy, .long w])), (jh, .inr (1, [.ref jt, .ref jk, .ref jv, .ref jr, .int (nI n)])), (jk, .inl (ck, 43, .inl K)), (jo, .inl (co, 1, .inr (.inl O)))] [(ck, .int), (co, .long)]) (va_A [(jd, .inr (2, [.long sd, .ref jh, .ref jh2, .ref jg, .ref jb, .ref jy, .long w])), (jh, .inr (1, [.ref jt, .ref jk, .ref jv, .ref jr, .int (nI n)])), (jk, .inl (ck, 43, .inl K)), (jo, .inl (co, 1, .inr (.inl O)))] sz)) 1 6 (va_A [(jd, .inr (2, [.long sd, .ref jh, .ref jh2, .ref jg, .ref jb, .ref jy, .long w])), (jh, .inr (1, [.ref jt, .ref jk, .ref jv, .ref jr, .int (nI n)])), (jk, .inl (ck, 43, .inl K)), (jo, .inl (co, 1, .inr (.inl O)))] sz) := by
  refine va_MetW (cc := b_L_fits) (maxL := 4) (ret := (Option.some Jvm.ClassFile.FieldType.int)) (by decide) rfl ?_
  intro p e s m args below meth c s₁ B0 hml hv0
  obtain ⟨rfl, hsz, hP, hK, hD0, hN, hT, hZ⟩ := hv0
  have hx := B0.exec
  have hb := B0.bytes
  have hr := B0.returns
  have hts := atoms_spec (ws := w_L_fits) B0.pre
  have hown : s.vm.findClass R_L = some m.cls := findClass_of_methodNamed B0.named
  have hlocks := B0.notSynchronized
  subst hsz
  have hD := hD0.self (sz := s.heap.size)
  generalize hAe : va_A [(jd, .inr (2, [.long sd, .ref jh, .ref jh2, .ref jg, .ref jb, .ref jy, .long w])), (jh, .inr (1, [.ref jt, .ref jk, .ref jv, .ref jr, .int (nI n)])), (jk, .inl (ck, 43, .inl K)), (jo, .inl (co, 1, .inr (.inl O)))] s.heap.size = A at hD hZ ⊢
  have hA : ∀ q : Nat, s.heap.size ≤ q → A q := fun q h => by rw [← hAe]; exact Or.inr h
  have hS : va_S A s.heap s.heap [] := va_S.rf
  have hP : va_P (dC, dI) classes [(jd, .inr (2, [.long sd, .ref jh, .ref jh2, .ref jg, .ref jb, .ref jy, .long w])), (jh, .inr (1, [.ref jt, .ref jk, .ref jv, .ref jr, .int (nI n)])), (jk, .inl (ck, 43, .inl K)), (jo, .inl (co, 1, .inr (.inl O)))] s.heap := hP
  have hl := lv_entry ([.ref jd, .int p0, .ref jo]) (n := 4) (Nat.le_of_ble_eq_true rfl)
  rw [lg_entry_eq]
  generalize (lg_sl ([.ref jd, .int p0, .ref jo]) ++ List.replicate (4 - (lg_sl ([.ref jd, .int p0, .ref jo])).length) Slot.unset).toArray = ls at hl ⊢
  have hl : lv_has ls 4 [(0, .ref jd), (1, .int p0), (2, .ref jo)] := hl
  have hTab : c.exceptionTable.toList = tableOf [((0 : Nat), (16 : Nat), (19 : Nat), (13 : Nat))] := vx_table (x := y_L_fits) B0 (hts (.codeWith y_L_fits b_L_fits 4 (Option.some Jvm.ClassFile.FieldType.int) [((0 : Nat), (16 : Nat), (19 : Nat), (13 : Nat))]) List.mem_cons_self)
  refine lv_aload_n hx hb d_L_fits_0 rfl (lv_at hl 2 rfl) ?_
  refine lv_iconst (v := nI 0) hx hb d_L_fits_1 (by decide +kernel) ?_
  refine lv_aload_n hx hb d_L_fits_2 rfl (lv_at hl 0 rfl) ?_
  refine lv_iload_n hx hb d_L_fits_3 rfl (lv_at hl 1 rfl) ?_
  have hPc := hP.sub (ws' := [(jd, .inr (2, [.long sd, .ref jh, .ref jh2, .ref jg, .ref jb, .ref jy, .long w])), (jh, .inr (1, [.ref jt, .ref jk, .ref jv, .ref jr, .int (nI n)])), (jk, .inl (ck, 43, .inl K))]) [0, 1, 2] rfl
  have hKc := hK.sub (tys' := [(ck, .int)]) [0] rfl
  have hDc := hD.sub (ws' := [(jd, .inr (2, [.long sd, .ref jh, .ref jh2, .ref jg, .ref jb, .ref jy, .long w])), (jh, .inr (1, [.ref jt, .ref jk, .ref jv, .ref jr, .int (nI n)])), (jk, .inl (ck, 43, .inl K))]) [0, 1, 2] (by decide) rfl
  have hFc := va_free (wc := [(jd, .inr (2, [.long sd, .ref jh, .ref jh2, .ref jg, .ref jb, .ref jy, .long w])), (jh, .inr (1, [.ref jt, .ref jk, .ref jv, .ref jr, .int (nI n)])), (jk, .inl (ck, 43, .inl K))]) hD hS hA [0, 1, 2] rfl
  refine vx_calli (vx_runV (As := [.int p0]) (rest := [.int (nI 0), .ref jo]) ⟨hx, hb, hml, hown, hts⟩ (c_D_fitsx l hl9 dC dI jd jh jh2 jg jb jy sd w jt jk jv jr n ck K p0 hn hex sa _) (cwV 1 hts (g_V big_w m_305 m_306 m_307 m_1 m_308) rfl rfl rfl (by decide +kernel) ⟨Nat.le_of_ble_eq_true rfl, Nat.le_of_ble_eq_true rfl⟩) (wx_V hPc hKc hDc hN hT hZ hS hFc (va_recv hKc hPc (ci := 2) (q0 := 0) rfl rfl)) rfl rfl hl.1 rfl (lv_room (Nat.le_of_ble_eq_true rfl)) d_L_fits_4 ⟨Nat.le_of_ble_eq_true rfl, Nat.le_of_ble_eq_true rfl⟩) hS (fun q _ h => hFc q h) hFc (fun q _ h => hFc q h) (fun E ce q9 u t H1 locs ht hvm hw hB hz1 hk1 hS hce hcv hcl => ?_) (fun r_1 u t H1 locs ht hvm hw hB hz1 hk1 hS => ?_)
  · skip
    obtain ⟨rfl, hP1, hK1, hD1⟩ := hB
    rw [ht] at hP1
    obtain ⟨hP, hD⟩ := va_join (wr := [(jo, .inl (co, 1, .inr (.inl O)))]) (w1 := [(jd, .inr (2, [.long sd, .ref jh, .ref jh2, .ref jg, .ref jb, .ref jy, .long w])), (jh, .inr (1, [.ref jt, .ref jk, .ref jv, .ref jr, .int (nI n)])), (jk, .inl (ck, 43, .inl K))]) hP hD [0, 1, 2] [3] rfl rfl (by decide) (by decide) hk1 hFc hP1 hD1
    generalize H1 = H at hP hS hce ⊢
    have hP : va_P (dC, dI) classes [(jo, .inl (co, 1, .inr (.inl O))), (jd, .inr (2, [.long sd, .ref jh, .ref jh2, .ref jg, .ref jb, .ref jy, .long w])), (jh, .inr (1, [.ref jt, .ref jk, .ref jv, .ref jr, .int (nI n)])), (jk, .inl (ck, 43, .inl K))] H := hP
    have hD : va_D A [(jo, .inl (co, 1, .inr (.inl O))), (jd, .inr (2, [.long sd, .ref jh, .ref jh2, .ref jg, .ref jb, .ref jy, .long w])), (jh, .inr (1, [.ref jt, .ref jk, .ref jv, .ref jr, .int (nI n)])), (jk, .inl (ck, 43, .inl K))] := hD
    refine vx_catch hown [] ⟨0, 16, 19, 13⟩ [] hTab (fun z h => nomatch h) (by decide) (by decide) (hts _ (List.mem_cons_of_mem _ m_152)) (hN.use (by decide +kernel : (Jvm.Cond.castable "java/lang/IllegalArgumentException" "java/lang/IllegalArgumentException") ∈ NWl)) hce hcv hcl ?_
    refine W.cs (cells' := 1) (slots' := 6) rfl rfl ?_
    refine lv_astore_n (lv' := [(3, .ref q9), (0, .ref jd), (1, .int p0), (2, .ref jo)]) hx hb d_L_fits_19 rfl hl (by decide) rfl (fun ls hl => ?_)
    refine lv_iconst (v := nI 1) hx hb d_L_fits_20 (by decide +kernel) ?_
    have hP9 := hP.sub (ws' := [(jd, .inr (2, [.long sd, .ref jh, .ref jh2, .ref jg, .ref jb, .ref jy, .long w])), (jh, .inr (1, [.ref jt, .ref jk, .ref jv, .ref jr, .int (nI n)])), (jk, .inl (ck, 43, .inl K)), (jo, .inl (co, 1, .inr (.inl O)))]) [1, 2, 3, 0] rfl
    have hD9 := hD.sub (ws' := [(jd, .inr (2, [.long sd, .ref jh, .ref jh2, .ref jg, .ref jb, .ref jy, .long w])), (jh, .inr (1, [.ref jt, .ref jk, .ref jv, .ref jr, .int (nI n)])), (jk, .inl (ck, 43, .inl K)), (jo, .inl (co, 1, .inr (.inl O)))]) [1, 2, 3, 0] (by decide) rfl
    have hK9 := hK.sub (tys' := [(ck, .int), (co, .long)]) [0, 1] rfl
    exact W.iret (v := nI 1) hx hb hr (fun t ht hW => ⟨⟨nI 1, (), rfl, rfl, by rw [ht]; exact hP9, va_K.moved hW.alike hK9, hD9⟩, hS.F ht⟩) hS.2.2 d_L_fits_21
  · skip
    obtain ⟨hP1, hK1, hD1⟩ := hB
    rw [ht] at hP1
    obtain ⟨hP, hD⟩ := va_join (wr := [(jo, .inl (co, 1, .inr (.inl O)))]) (w1 := [(jd, .inr (2, [.long sd, .ref jh, .ref jh2, .ref jg, .ref jb, .ref jy, .long w])), (jh, .inr (1, [.ref jt, .ref jk, .ref jv, .ref jr, .int (nI n)])), (jk, .inl (ck, 43, .inl K))]) hP hD [0, 1, 2] [3] rfl rfl (by decide) (by decide) hk1 hFc hP1 hD1
    generalize H1 = H at hP hS ⊢
    have hP : va_P (dC, dI) classes [(jo, .inl (co, 1, .inr (.inl O))), (jd, .inr (2, [.long sd, .ref jh, .ref jh2, .ref jg, .ref jb, .ref jy, .long w])), (jh, .inr (1, [.ref jt, .ref jk, .ref jv, .ref jr, .int (nI n)])), (jk, .inl (ck, 43, .inl K))] H := hP
    have hD : va_D A [(jo, .inl (co, 1, .inr (.inl O))), (jd, .inr (2, [.long sd, .ref jh, .ref jh2, .ref jg, .ref jb, .ref jy, .long w])), (jh, .inr (1, [.ref jt, .ref jk, .ref jv, .ref jr, .int (nI n)])), (jk, .inl (ck, 43, .inl K))] := hD
    exact hw.elim
set_option maxHeartbeats 4000000 in
set_option maxRecDepth 100000 in
/-- the law: without, answered -/
theorem c_L_without (l : Launch) (dC : Nat → ClassId) (dI : Nat → Nat → Nat) (jd jh jh2 jg jb jy : Nat) (sd w : Int64) (jt jk jv jr n : Nat) (cg : ClassId) (G : Nat → Int64) (i : Nat) (jo : Nat) (co : ClassId) (O : Nat → Int64) (hn : n ≤ 43) (hi : i < n) (hw9 : wbit w i = true) (sz : Nat) : Met l y_L_without w_L_without ({ frames := 2, cells := 0, slots := 0, locals := 44 }) (wr_P dC dI [.ref jd, .int (nI i), .ref jo] [(jd, .inr (2, [.long sd, .ref jh, .ref jh2, .ref jg, .ref jb, .ref jy, .long w])), (jh, .inr (1, [.ref jt, .ref jk, .ref jv, .ref jr, .int (nI n)])), (jg, .inl (cg, 43, .inr (.inl G))), (jo, .inl (co, 1, .inr (.inl O)))] [(cg, .long), (co, .long)] sz) (va_Qi (fun (r : Int32) (_ : Unit) => r = nI 0) (fun (u : Unit) => wr_B dC dI (va_A [(jd, .inr (2, [.long sd, .ref jh, .ref jh2, .ref jg, .ref jb, .ref jy, .long w])), (jh, .inr (1, [.ref jt, .ref jk, .ref jv, .ref jr, .int (nI n)])), (jg, .inl (cg, 43, .inr (.inl G))), (jo, .inl (co, 1, .inr (.inl O)))] sz) [(jd, .inr (2, [.long sd, .ref jh, .ref jh2, .ref jg, .ref jb, .ref jy, .long (noW w (G i))])), (jh, .inr (1, [.ref jt, .ref jk, .ref jv, .ref jr, .int (nI n)])), (jg, .inl (cg, 43, .inr (.inl G))), (jo, .inl (co, 1, .inr (.inl (vp_updL O 0 (((nI (cnt (wbit w) 64)) - (nI (cnt (wbit (noW w (G i))) 64))).toInt64)))))] [(cg, .long), (co, .long)]) (va_A [(jd, .inr (2, [.long sd, .ref jh, .ref jh2, .ref jg, .ref jb, .ref jy, .long w])), (jh, .inr (1, [.ref jt, .ref jk, .ref jv, .ref jr, .int (nI n)])), (jg, .inl (cg, 43, .inr (.inl G))), (jo, .inl (co, 1, .inr (.inl O)))] sz)) 0 0 (va_A [(jd, .inr (2, [.long sd, .ref jh, .ref jh2, .ref jg, .ref jb, .ref jy, .long w])), (jh, .inr (1, [.ref jt, .ref jk, .ref jv, .ref jr, .int (nI n)])), (jg, .inl (cg, 43, .inr (.inl G))), (jo, .inl (co, 1, .inr (.inl O)))] sz) := by
  refine va_MetW (cc := b_L_without) (maxL := 4) (ret := (Option.some Jvm.ClassFile.FieldType.int)) (by decide) rfl ?_
  intro p e s m args below meth c s₁ B0 hml hv0
  obtain ⟨rfl, hsz, hP, hK, hD0, hN⟩ := hv0
  have hx := B0.exec
  have hb := B0.bytes
  have hr := B0.returns
  have hts := atoms_spec (ws := w_L_without) B0.pre
  have hown : s.vm.findClass R_L = some m.cls := findClass_of_methodNamed B0.named
  have hlocks := B0.notSynchronized
  subst hsz
  have hD := hD0.self (sz := s.heap.size)
  generalize hAe : va_A [(jd, .inr (2, [.long sd, .ref jh, .ref jh2, .ref jg, .ref jb, .ref jy, .long w])), (jh, .inr (1, [.ref jt, .ref jk, .ref jv, .ref jr, .int (nI n)])), (jg, .inl (cg, 43, .inr (.inl G))), (jo, .inl (co, 1, .inr (.inl O)))] s.heap.size = A at hD ⊢
  have hA : ∀ q : Nat, s.heap.size ≤ q → A q := fun q h => by rw [← hAe]; exact Or.inr h
  have hS : va_S A s.heap s.heap [] := va_S.rf
  have hP : va_P (dC, dI) classes [(jd, .inr (2, [.long sd, .ref jh, .ref jh2, .ref jg, .ref jb, .ref jy, .long w])), (jh, .inr (1, [.ref jt, .ref jk, .ref jv, .ref jr, .int (nI n)])), (jg, .inl (cg, 43, .inr (.inl G))), (jo, .inl (co, 1, .inr (.inl O)))] s.heap := hP
  have hl := lv_entry ([.ref jd, .int (nI i), .ref jo]) (n := 4) (Nat.le_of_ble_eq_true rfl)
  rw [lg_entry_eq]
  generalize (lg_sl ([.ref jd, .int (nI i), .ref jo]) ++ List.replicate (4 - (lg_sl ([.ref jd, .int (nI i), .ref jo])).length) Slot.unset).toArray = ls at hl ⊢
  have hl : lv_has ls 4 [(0, .ref jd), (1, .int (nI i)), (2, .ref jo)] := hl
  have hTab : c.exceptionTable.toList = tableOf [((0 : Nat), (9 : Nat), (12 : Nat), (13 : Nat))] := vx_table (x := y_L_without) B0 (hts (.codeWith y_L_without b_L_without 4 (Option.some Jvm.ClassFile.FieldType.int) [((0 : Nat), (9 : Nat), (12 : Nat), (13 : Nat))]) List.mem_cons_self)
  refine lv_aload_n hx hb d_L_without_0 rfl (lv_at hl 2 rfl) ?_
  refine lv_iconst (v := nI 0) hx hb d_L_without_1 (by decide +kernel) ?_
  refine lv_aload_n hx hb d_L_without_2 rfl (lv_at hl 0 rfl) ?_
  refine lv_iload_n hx hb d_L_without_3 rfl (lv_at hl 1 rfl) ?_
  have hPc := hP.sub (ws' := [(jd, .inr (2, [.long sd, .ref jh, .ref jh2, .ref jg, .ref jb, .ref jy, .long w])), (jh, .inr (1, [.ref jt, .ref jk, .ref jv, .ref jr, .int (nI n)])), (jg, .inl (cg, 43, .inr (.inl G)))]) [0, 1, 2] rfl
  have hKc := hK.sub (tys' := [(cg, .long)]) [0] rfl
  have hDc := hD.sub (ws' := [(jd, .inr (2, [.long sd, .ref jh, .ref jh2, .ref jg, .ref jb, .ref jy, .long w])), (jh, .inr (1, [.ref jt, .ref jk, .ref jv, .ref jr, .int (nI n)])), (jg, .inl (cg, 43, .inr (.inl G)))]) [0, 1, 2] (by decide) rfl
  have hFc := va_free (wc := [(jd, .inr (2, [.long sd, .ref jh, .ref jh2, .ref jg, .ref jb, .ref jy, .long w])), (jh, .inr (1, [.ref jt, .ref jk, .ref jv, .ref jr, .int (nI n)])), (jg, .inl (cg, 43, .inr (.inl G)))]) hD hS hA [0, 1, 2] rfl
  refine va_calli (va_runV (As := [.int (nI i)]) (rest := [.int (nI 0), .ref jo]) ⟨hx, hb, hml, hown, hts⟩ (c_D_without l dC dI jd jh jh2 jg jb jy sd w jt jk jv jr n cg G i hn hi hw9 _) (cwV 1 hts (g_V big_w m_314 m_315 m_316 m_1 m_317) rfl rfl rfl (by decide +kernel) ⟨Nat.le_of_ble_eq_true rfl, Nat.le_of_ble_eq_true rfl⟩) (wr_V hPc hKc hDc hN (va_recv hKc hPc (ci := 2) (q0 := 0) rfl rfl)) rfl rfl hl.1 rfl (lv_room (Nat.le_of_ble_eq_true rfl)) d_L_without_4 ⟨Nat.le_of_ble_eq_true rfl, Nat.le_of_ble_eq_true rfl⟩) hS (fun q _ h => hFc q h) hFc (fun r_1 u t H1 locs ht hvm hw hB hz1 hk1 hS => ?_)
  obtain ⟨hP1, hK1, hD1⟩ := hB
  rw [ht] at hP1
  obtain ⟨hP, hD⟩ := va_join (wr := [(jo, .inl (co, 1, .inr (.inl O)))]) (w1 := [(jd, .inr (2, [.long sd, .ref jh, .ref jh2, .ref jg, .ref jb, .ref jy, .long (noW w (G i))])), (jh, .inr (1, [.ref jt, .ref jk, .ref jv, .ref jr, .int (nI n)])), (jg, .inl (cg, 43, .inr (.inl G)))]) hP hD [0, 1, 2] [3] rfl rfl (by decide) (by decide) hk1 hFc hP1 hD1
  generalize H1 = H at hP hS ⊢
  have hP : va_P (dC, dI) classes [(jo, .inl (co, 1, .inr (.inl O))), (jd, .inr (2, [.long sd, .ref jh, .ref jh2, .ref jg, .ref jb, .ref jy, .long (noW w (G i))])), (jh, .inr (1, [.ref jt, .ref jk, .ref jv, .ref jr, .int (nI n)])), (jg, .inl (cg, 43, .inr (.inl G)))] H := hP
  have hD : va_D A [(jo, .inl (co, 1, .inr (.inl O))), (jd, .inr (2, [.long sd, .ref jh, .ref jh2, .ref jg, .ref jb, .ref jy, .long (noW w (G i))])), (jh, .inr (1, [.ref jt, .ref jk, .ref jv, .ref jr, .int (nI n)])), (jg, .inl (cg, 43, .inr (.inl G)))] := hD
  have hw := hw.symm
  subst hw
  refine lv_i2l hx hb d_L_without_7 rfl ?_
  refine va_last hx hb hK hP hD hS 0 1 rfl rfl (vp_in_nI (by omega) (by omega)) d_L_without_8 (fun H locs hP hD hS => ?_)
  rw [nI_clamp (by omega)] at hP hD
  have hP : va_P (dC, dI) classes [(jo, .inl (co, 1, .inr (.inl (vp_updL O 0 (((nI (cnt (wbit w) 64)) - (nI (cnt (wbit (noW w (G i))) 64))).toInt64))))), (jd, .inr (2, [.long sd, .ref jh, .ref jh2, .ref jg, .ref jb, .ref jy, .long (noW w (G i))])), (jh, .inr (1, [.ref jt, .ref jk, .ref jv, .ref jr, .int (nI n)])), (jg, .inl (cg, 43, .inr (.inl G)))] H := hP
  have hD : va_D A [(jo, .inl (co, 1, .inr (.inl (vp_updL O 0 (((nI (cnt (wbit w) 64)) - (nI (cnt (wbit (noW w (G i))) 64))).toInt64))))), (jd, .inr (2, [.long sd, .ref jh, .ref jh2, .ref jg, .ref jb, .ref jy, .long (noW w (G i))])), (jh, .inr (1, [.ref jt, .ref jk, .ref jv, .ref jr, .int (nI n)])), (jg, .inl (cg, 43, .inr (.inl G)))] := hD
  refine lv_goto (tgt := 15) hx hb d_L_without_9 (by decide) ?_
  refine lv_iconst (v := nI 0) hx hb d_L_without_15 (by decide +kernel) ?_
  have hP9 := hP.sub (ws' := [(jd, .inr (2, [.long sd, .ref jh, .ref jh2, .ref jg, .ref jb, .ref jy, .long (noW w (G i))])), (jh, .inr (1, [.ref jt, .ref jk, .ref jv, .ref jr, .int (nI n)])), (jg, .inl (cg, 43, .inr (.inl G))), (jo, .inl (co, 1, .inr (.inl (vp_updL O 0 (((nI (cnt (wbit w) 64)) - (nI (cnt (wbit (noW w (G i))) 64))).toInt64)))))]) [1, 2, 3, 0] rfl
  have hD9 := hD.sub (ws' := [(jd, .inr (2, [.long sd, .ref jh, .ref jh2, .ref jg, .ref jb, .ref jy, .long (noW w (G i))])), (jh, .inr (1, [.ref jt, .ref jk, .ref jv, .ref jr, .int (nI n)])), (jg, .inl (cg, 43, .inr (.inl G))), (jo, .inl (co, 1, .inr (.inl (vp_updL O 0 (((nI (cnt (wbit w) 64)) - (nI (cnt (wbit (noW w (G i))) 64))).toInt64)))))]) [1, 2, 3, 0] (by decide) rfl
  have hK9 := hK.sub (tys' := [(cg, .long), (co, .long)]) [0, 1] rfl
  exact W.iret (v := nI 0) hx hb hr (fun t ht hW => ⟨⟨nI 0, (), rfl, rfl, by rw [ht]; exact hP9, va_K.moved hW.alike hK9, hD9⟩, hS.F ht⟩) hS.2.2 d_L_without_16
set_option maxHeartbeats 4000000 in
set_option maxRecDepth 100000 in
/-- the law: without, refused -/
theorem c_L_withoutx (l : Launch) (hl9 : l.stackTraces = false) (dC : Nat → ClassId) (dI : Nat → Nat → Nat) (jd jh jh2 jg jb jy : Nat) (sd w : Int64) (jt jk jv jr n : Nat) (p0 : Int32) (jo : Nat) (co : ClassId) (O : Nat → Int64) (hn : n ≤ 43) (hex : hB n p0 = false ∨ wbit w p0.toNatClampNeg = false) (sa : Nat → Nat) (sz : Nat) : Met l y_L_without w_L_without ({ frames := 7, cells := 1, slots := 6, locals := 122 }) (wx_P dC dI [.ref jd, .int p0, .ref jo] [(jd, .inr (2, [.long sd, .ref jh, .ref jh2, .ref jg, .ref jb, .ref jy, .long w])), (jh, .inr (1, [.ref jt, .ref jk, .ref jv, .ref jr, .int (nI n)])), (jo, .inl (co, 1, .inr (.inl O)))] [(co, .long)] sa sz) (va_Qi (fun (r : Int32) (_ : Unit) => r = nI 1) (fun (u : Unit) => wr_B dC dI (va_A [(jd, .inr (2, [.long sd, .ref jh, .ref jh2, .ref jg, .ref jb, .ref jy, .long w])), (jh, .inr (1, [.ref jt, .ref jk, .ref jv, .ref jr, .int (nI n)])), (jo, .inl (co, 1, .inr (.inl O)))] sz) [(jd, .inr (2, [.long sd, .ref jh, .ref jh2, .ref jg, .ref jb, .ref jy, .long w])), (jh, .inr (1, [.ref jt, .ref jk, .ref jv, .ref jr, .int (nI n)])), (jo, .inl (co, 1, .inr (.inl O)))] [(co, .long)]) (va_A [(jd, .inr (2, [.long sd, .ref jh, .ref jh2, .ref jg, .ref jb, .ref jy, .long w])), (jh, .inr (1, [.ref jt, .ref jk, .ref jv, .ref jr, .int (nI n)])), (jo, .inl (co, 1, .inr (.inl O)))] sz)) 1 6 (va_A [(jd, .inr (2, [.long sd, .ref jh, .ref jh2, .ref jg, .ref jb, .ref jy, .long w])), (jh, .inr (1, [.ref jt, .ref jk, .ref jv, .ref jr, .int (nI n)])), (jo, .inl (co, 1, .inr (.inl O)))] sz) := by
  refine va_MetW (cc := b_L_without) (maxL := 4) (ret := (Option.some Jvm.ClassFile.FieldType.int)) (by decide) rfl ?_
  intro p e s m args below meth c s₁ B0 hml hv0
  obtain ⟨rfl, hsz, hP, hK, hD0, hN, hT, hZ⟩ := hv0
  have hx := B0.exec
  have hb := B0.bytes
  have hr := B0.returns
  have hts := atoms_spec (ws := w_L_without) B0.pre
  have hown : s.vm.findClass R_L = some m.cls := findClass_of_methodNamed B0.named
  have hlocks := B0.notSynchronized
  subst hsz
  have hD := hD0.self (sz := s.heap.size)
  generalize hAe : va_A [(jd, .inr (2, [.long sd, .ref jh, .ref jh2, .ref jg, .ref jb, .ref jy, .long w])), (jh, .inr (1, [.ref jt, .ref jk, .ref jv, .ref jr, .int (nI n)])), (jo, .inl (co, 1, .inr (.inl O)))] s.heap.size = A at hD hZ ⊢
  have hA : ∀ q : Nat, s.heap.size ≤ q → A q := fun q h => by rw [← hAe]; exact Or.inr h
  have hS : va_S A s.heap s.heap [] := va_S.rf
  have hP : va_P (dC, dI) classes [(jd, .inr (2, [.long sd, .ref jh, .ref jh2, .ref jg, .ref jb, .ref jy, .long w])), (jh, .inr (1, [.ref jt, .ref jk, .ref jv, .ref jr, .int (nI n)])), (jo, .inl (co, 1, .inr (.inl O)))] s.heap := hP
  have hl := lv_entry ([.ref jd, .int p0, .ref jo]) (n := 4) (Nat.le_of_ble_eq_true rfl)
  rw [lg_entry_eq]
  generalize (lg_sl ([.ref jd, .int p0, .ref jo]) ++ List.replicate (4 - (lg_sl ([.ref jd, .int p0, .ref jo])).length) Slot.unset).toArray = ls at hl ⊢
  have hl : lv_has ls 4 [(0, .ref jd), (1, .int p0), (2, .ref jo)] := hl
  have hTab : c.exceptionTable.toList = tableOf [((0 : Nat), (9 : Nat), (12 : Nat), (13 : Nat))] := vx_table (x := y_L_without) B0 (hts (.codeWith y_L_without b_L_without 4 (Option.some Jvm.ClassFile.FieldType.int) [((0 : Nat), (9 : Nat), (12 : Nat), (13 : Nat))]) List.mem_cons_self)
  refine lv_aload_n hx hb d_L_without_0 rfl (lv_at hl 2 rfl) ?_
  refine lv_iconst (v := nI 0) hx hb d_L_without_1 (by decide +kernel) ?_
  refine lv_aload_n hx hb d_L_without_2 rfl (lv_at hl 0 rfl) ?_
  refine lv_iload_n hx hb d_L_without_3 rfl (lv_at hl 1 rfl) ?_
  have hPc := hP.sub (ws' := [(jd, .inr (2, [.long sd, .ref jh, .ref jh2, .ref jg, .ref jb, .ref jy, .long w])), (jh, .inr (1, [.ref jt, .ref jk, .ref jv, .ref jr, .int (nI n)]))]) [0, 1] rfl
  have hKc := hK.sub (tys' := []) [] rfl
  have hDc := hD.sub (ws' := [(jd, .inr (2, [.long sd, .ref jh, .ref jh2, .ref jg, .ref jb, .ref jy, .long w])), (jh, .inr (1, [.ref jt, .ref jk, .ref jv, .ref jr, .int (nI n)]))]) [0, 1] (by decide) rfl
  have hFc := va_free (wc := [(jd, .inr (2, [.long sd, .ref jh, .ref jh2, .ref jg, .ref jb, .ref jy, .long w])), (jh, .inr (1, [.ref jt, .ref jk, .ref jv, .ref jr, .int (nI n)]))]) hD hS hA [0, 1] rfl
  refine vx_calli (vx_runV (As := [.int p0]) (rest := [.int (nI 0), .ref jo]) ⟨hx, hb, hml, hown, hts⟩ (c_D_withoutx l hl9 dC dI jd jh jh2 jg jb jy sd w jt jk jv jr n p0 hn hex sa _) (cwV 1 hts (g_V big_w m_314 m_315 m_316 m_1 m_317) rfl rfl rfl (by decide +kernel) ⟨Nat.le_of_ble_eq_true rfl, Nat.le_of_ble_eq_true rfl⟩) (wx_V hPc hKc hDc hN hT hZ hS hFc (va_recv hKc hPc (ci := 2) (q0 := 0) rfl rfl)) rfl rfl hl.1 rfl (lv_room (Nat.le_of_ble_eq_true rfl)) d_L_without_4 ⟨Nat.le_of_ble_eq_true rfl, Nat.le_of_ble_eq_true rfl⟩) hS (fun q _ h => hFc q h) hFc (fun q _ h => hFc q h) (fun E ce q9 u t H1 locs ht hvm hw hB hz1 hk1 hS hce hcv hcl => ?_) (fun r_1 u t H1 locs ht hvm hw hB hz1 hk1 hS => ?_)
  · skip
    obtain ⟨rfl, hP1, hK1, hD1⟩ := hB
    rw [ht] at hP1
    obtain ⟨hP, hD⟩ := va_join (wr := [(jo, .inl (co, 1, .inr (.inl O)))]) (w1 := [(jd, .inr (2, [.long sd, .ref jh, .ref jh2, .ref jg, .ref jb, .ref jy, .long w])), (jh, .inr (1, [.ref jt, .ref jk, .ref jv, .ref jr, .int (nI n)]))]) hP hD [0, 1] [2] rfl rfl (by decide) (by decide) hk1 hFc hP1 hD1
    generalize H1 = H at hP hS hce ⊢
    have hP : va_P (dC, dI) classes [(jo, .inl (co, 1, .inr (.inl O))), (jd, .inr (2, [.long sd, .ref jh, .ref jh2, .ref jg, .ref jb, .ref jy, .long w])), (jh, .inr (1, [.ref jt, .ref jk, .ref jv, .ref jr, .int (nI n)]))] H := hP
    have hD : va_D A [(jo, .inl (co, 1, .inr (.inl O))), (jd, .inr (2, [.long sd, .ref jh, .ref jh2, .ref jg, .ref jb, .ref jy, .long w])), (jh, .inr (1, [.ref jt, .ref jk, .ref jv, .ref jr, .int (nI n)]))] := hD
    refine vx_catch hown [] ⟨0, 9, 12, 13⟩ [] hTab (fun z h => nomatch h) (by decide) (by decide) (hts _ (List.mem_cons_of_mem _ m_152)) (hN.use (by decide +kernel : (Jvm.Cond.castable "java/lang/IllegalArgumentException" "java/lang/IllegalArgumentException") ∈ NWl)) hce hcv hcl ?_
    refine W.cs (cells' := 1) (slots' := 6) rfl rfl ?_
    refine lv_astore_n (lv' := [(3, .ref q9), (0, .ref jd), (1, .int p0), (2, .ref jo)]) hx hb d_L_without_12 rfl hl (by decide) rfl (fun ls hl => ?_)
    refine lv_iconst (v := nI 1) hx hb d_L_without_13 (by decide +kernel) ?_
    have hP9 := hP.sub (ws' := [(jd, .inr (2, [.long sd, .ref jh, .ref jh2, .ref jg, .ref jb, .ref jy, .long w])), (jh, .inr (1, [.ref jt, .ref jk, .ref jv, .ref jr, .int (nI n)])), (jo, .inl (co, 1, .inr (.inl O)))]) [1, 2, 0] rfl
    have hD9 := hD.sub (ws' := [(jd, .inr (2, [.long sd, .ref jh, .ref jh2, .ref jg, .ref jb, .ref jy, .long w])), (jh, .inr (1, [.ref jt, .ref jk, .ref jv, .ref jr, .int (nI n)])), (jo, .inl (co, 1, .inr (.inl O)))]) [1, 2, 0] (by decide) rfl
    have hK9 := hK.sub (tys' := [(co, .long)]) [0] rfl
    exact W.iret (v := nI 1) hx hb hr (fun t ht hW => ⟨⟨nI 1, (), rfl, rfl, by rw [ht]; exact hP9, va_K.moved hW.alike hK9, hD9⟩, hS.F ht⟩) hS.2.2 d_L_without_14
  · skip
    obtain ⟨hP1, hK1, hD1⟩ := hB
    rw [ht] at hP1
    obtain ⟨hP, hD⟩ := va_join (wr := [(jo, .inl (co, 1, .inr (.inl O)))]) (w1 := [(jd, .inr (2, [.long sd, .ref jh, .ref jh2, .ref jg, .ref jb, .ref jy, .long w])), (jh, .inr (1, [.ref jt, .ref jk, .ref jv, .ref jr, .int (nI n)]))]) hP hD [0, 1] [2] rfl rfl (by decide) (by decide) hk1 hFc hP1 hD1
    generalize H1 = H at hP hS ⊢
    have hP : va_P (dC, dI) classes [(jo, .inl (co, 1, .inr (.inl O))), (jd, .inr (2, [.long sd, .ref jh, .ref jh2, .ref jg, .ref jb, .ref jy, .long w])), (jh, .inr (1, [.ref jt, .ref jk, .ref jv, .ref jr, .int (nI n)]))] H := hP
    have hD : va_D A [(jo, .inl (co, 1, .inr (.inl O))), (jd, .inr (2, [.long sd, .ref jh, .ref jh2, .ref jg, .ref jb, .ref jy, .long w])), (jh, .inr (1, [.ref jt, .ref jk, .ref jv, .ref jr, .int (nI n)]))] := hD
    exact hw.elim
set_option maxHeartbeats 4000000 in
set_option maxRecDepth 100000 in
/-- the law: same, answered -/
theorem c_L_same (l : Launch) (dC : Nat → ClassId) (dI : Nat → Nat → Nat) (jd jh jh2 jg jb jy : Nat) (sd w : Int64) (jt jk jv jr n : Nat) (ck cv cr : ClassId) (K V R : Nat → Int32) (jt2 jk2 jv2 jr2 n2 : Nat) (ck2 cv2 cr2 : ClassId) (x2 : Int64) (K2 V2 R2 : Nat → Int32) (ot : Int64) (z : Nat) (jo : Nat) (co : ClassId) (O : Nat → Int64) (hn : n ≤ 43) (hz : z ≤ 40) (sz : Nat) : Met l y_L_same w_L_same ({ frames := 6, cells := 0, slots := 0, locals := 136 }) (wr_P dC dI [.ref jd, .long ot, .int (nI z), .ref jo] [(jd, .inr (2, [.long sd, .ref jh, .ref jh2, .ref jg, .ref jb, .ref jy, .long w])), (jh, .inr (1, [.ref jt, .ref jk, .ref jv, .ref jr, .int (nI n)])), (jk, .inl (ck, 43, .inl K)), (jv, .inl (cv, 43, .inl V)), (jr, .inl (cr, 43, .inl R)), (jh2, .inr (1, [.ref jt2, .ref jk2, .ref jv2, .ref jr2, .int (nI n2)])), (jt2, .inr (0, [.long x2])), (jk2, .inl (ck2, 43, .inl K2)), (jv2, .inl (cv2, 43, .inl V2)), (jr2, .inl (cr2, 43, .inl R2)), (jo, .inl (co, 1, .inr (.inl O)))] [(ck, .int), (cv, .int), (cr, .int), (ck2, .int), (cv2, .int), (cr2, .int), (co, .long)] sz) (va_Qi (fun (r : Int32) (_ : Unit) => r = nI 0) (fun (u : Unit) => wr_B dC dI (va_A [(jd, .inr (2, [.long sd, .ref jh, .ref jh2, .ref jg, .ref jb, .ref jy, .long w])), (jh, .inr (1, [.ref jt, .ref jk, .ref jv, .ref jr, .int (nI n)])), (jk, .inl (ck, 43, .inl K)), (jv, .inl (cv, 43, .inl V)), (jr, .inl (cr, 43, .inl R)), (jh2, .inr (1, [.ref jt2, .ref jk2, .ref jv2, .ref jr2, .int (nI n2)])), (jt2, .inr (0, [.long x2])), (jk2, .inl (ck2, 43, .inl K2)), (jv2, .inl (cv2, 43, .inl V2)), (jr2, .inl (cr2, 43, .inl R2)), (jo, .inl (co, 1, .inr (.inl O)))] sz) [(jd, .inr (2, [.long sd, .ref jh, .ref jh2, .ref jg, .ref jb, .ref jy, .long w])), (jh, .inr (1, [.ref jt, .ref jk, .ref jv, .ref jr, .int (nI n)])), (jk, .inl (ck, 43, .inl K)), (jv, .inl (cv, 43, .inl V)), (jr, .inl (cr, 43, .inl R)), (jh2, .inr (1, [.ref jt2, .ref jk2, .ref jv2, .ref jr2, .int (nI (z + 3))])), (jt2, .inr (0, [.long ((flS ot K2 V2 R2 z).1)])), (jk2, .inl (ck2, 43, .inl ((flS ot K2 V2 R2 z).2.1))), (jv2, .inl (cv2, 43, .inl ((flS ot K2 V2 R2 z).2.2.1))), (jr2, .inl (cr2, 43, .inl ((flS ot K2 V2 R2 z).2.2.2))), (jo, .inl (co, 1, .inr (.inl (vp_updL O 0 (bL (lkB n (z + 3) K V R (flS ot K2 V2 R2 z).2.1 (flS ot K2 V2 R2 z).2.2.1 (flS ot K2 V2 R2 z).2.2.2))))))] [(ck, .int), (cv, .int), (cr, .int), (ck2, .int), (cv2, .int), (cr2, .int), (co, .long)]) (va_A [(jd, .inr (2, [.long sd, .ref jh, .ref jh2, .ref jg, .ref jb, .ref jy, .long w])), (jh, .inr (1, [.ref jt, .ref jk, .ref jv, .ref jr, .int (nI n)])), (jk, .inl (ck, 43, .inl K)), (jv, .inl (cv, 43, .inl V)), (jr, .inl (cr, 43, .inl R)), (jh2, .inr (1, [.ref jt2, .ref jk2, .ref jv2, .ref jr2, .int (nI n2)])), (jt2, .inr (0, [.long x2])), (jk2, .inl (ck2, 43, .inl K2)), (jv2, .inl (cv2, 43, .inl V2)), (jr2, .inl (cr2, 43, .inl R2)), (jo, .inl (co, 1, .inr (.inl O)))] sz)) 0 0 (va_A [(jd, .inr (2, [.long sd, .ref jh, .ref jh2, .ref jg, .ref jb, .ref jy, .long w])), (jh, .inr (1, [.ref jt, .ref jk, .ref jv, .ref jr, .int (nI n)])), (jk, .inl (ck, 43, .inl K)), (jv, .inl (cv, 43, .inl V)), (jr, .inl (cr, 43, .inl R)), (jh2, .inr (1, [.ref jt2, .ref jk2, .ref jv2, .ref jr2, .int (nI n2)])), (jt2, .inr (0, [.long x2])), (jk2, .inl (ck2, 43, .inl K2)), (jv2, .inl (cv2, 43, .inl V2)), (jr2, .inl (cr2, 43, .inl R2)), (jo, .inl (co, 1, .inr (.inl O)))] sz) := by
  refine va_MetW (cc := b_L_same) (maxL := 6) (ret := (Option.some Jvm.ClassFile.FieldType.int)) (by decide) rfl ?_
  intro p e s m args below meth c s₁ B0 hml hv0
  obtain ⟨rfl, hsz, hP, hK, hD0, hN⟩ := hv0
  have hx := B0.exec
  have hb := B0.bytes
  have hr := B0.returns
  have hts := atoms_spec (ws := w_L_same) B0.pre
  have hown : s.vm.findClass R_L = some m.cls := findClass_of_methodNamed B0.named
  have hlocks := B0.notSynchronized
  subst hsz
  have hD := hD0.self (sz := s.heap.size)
  generalize hAe : va_A [(jd, .inr (2, [.long sd, .ref jh, .ref jh2, .ref jg, .ref jb, .ref jy, .long w])), (jh, .inr (1, [.ref jt, .ref jk, .ref jv, .ref jr, .int (nI n)])), (jk, .inl (ck, 43, .inl K)), (jv, .inl (cv, 43, .inl V)), (jr, .inl (cr, 43, .inl R)), (jh2, .inr (1, [.ref jt2, .ref jk2, .ref jv2, .ref jr2, .int (nI n2)])), (jt2, .inr (0, [.long x2])), (jk2, .inl (ck2, 43, .inl K2)), (jv2, .inl (cv2, 43, .inl V2)), (jr2, .inl (cr2, 43, .inl R2)), (jo, .inl (co, 1, .inr (.inl O)))] s.heap.size = A at hD ⊢
  have hA : ∀ q : Nat, s.heap.size ≤ q → A q := fun q h => by rw [← hAe]; exact Or.inr h
  have hS : va_S A s.heap s.heap [] := va_S.rf
  have hP : va_P (dC, dI) classes [(jd, .inr (2, [.long sd, .ref jh, .ref jh2, .ref jg, .ref jb, .ref jy, .long w])), (jh, .inr (1, [.ref jt, .ref jk, .ref jv, .ref jr, .int (nI n)])), (jk, .inl (ck, 43, .inl K)), (jv, .inl (cv, 43, .inl V)), (jr, .inl (cr, 43, .inl R)), (jh2, .inr (1, [.ref jt2, .ref jk2, .ref jv2, .ref jr2, .int (nI n2)])), (jt2, .inr (0, [.long x2])), (jk2, .inl (ck2, 43, .inl K2)), (jv2, .inl (cv2, 43, .inl V2)), (jr2, .inl (cr2, 43, .inl R2)), (jo, .inl (co, 1, .inr (.inl O)))] s.heap := hP
  have hl := lv_entry ([.ref jd, .long ot, .int (nI z), .ref jo]) (n := 6) (Nat.le_of_ble_eq_true rfl)
  rw [lg_entry_eq]
  generalize (lg_sl ([.ref jd, .long ot, .int (nI z), .ref jo]) ++ List.replicate (6 - (lg_sl ([.ref jd, .long ot, .int (nI z), .ref jo])).length) Slot.unset).toArray = ls at hl ⊢
  have hl : lv_has ls 6 [(0, .ref jd), (1, .long ot), (3, .int (nI z)), (4, .ref jo)] := hl
  have hTab : c.exceptionTable.toList = tableOf [((0 : Nat), (18 : Nat), (21 : Nat), (13 : Nat))] := vx_table (x := y_L_same) B0 (hts (.codeWith y_L_same b_L_same 6 (Option.some Jvm.ClassFile.FieldType.int) [((0 : Nat), (18 : Nat), (21 : Nat), (13 : Nat))]) List.mem_cons_self)
  refine lv_aload hx hb d_L_same_0 (lv_at hl 3 rfl) ?_
  refine lv_iconst (v := nI 0) hx hb d_L_same_2 (by decide +kernel) ?_
  refine lv_aload_n hx hb d_L_same_3 rfl (lv_at hl 0 rfl) ?_
  refine lv_lload_n hx hb d_L_same_4 rfl (lv_at hl 1 rfl) ?_
  refine lv_iload_n hx hb d_L_same_5 rfl (lv_at hl 2 rfl) ?_
  have hPc := hP.sub (ws' := [(jd, .inr (2, [.long sd, .ref jh, .ref jh2, .ref jg, .ref jb, .ref jy, .long w])), (jh, .inr (1, [.ref jt, .ref jk, .ref jv, .ref jr, .int (nI n)])), (jk, .inl (ck, 43, .inl K)), (jv, .inl (cv, 43, .inl V)), (jr, .inl (cr, 43, .inl R)), (jh2, .inr (1, [.ref jt2, .ref jk2, .ref jv2, .ref jr2, .int (nI n2)])), (jt2, .inr (0, [.long x2])), (jk2, .inl (ck2, 43, .inl K2)), (jv2, .inl (cv2, 43, .inl V2)), (jr2, .inl (cr2, 43, .inl R2))]) [0, 1, 2, 3, 4, 5, 6, 7, 8, 9] rfl
  have hKc := hK.sub (tys' := [(ck, .int), (cv, .int), (cr, .int), (ck2, .int), (cv2, .int), (cr2, .int)]) [0, 1, 2, 3, 4, 5] rfl
  have hDc := hD.sub (ws' := [(jd, .inr (2, [.long sd, .ref jh, .ref jh2, .ref jg, .ref jb, .ref jy, .long w])), (jh, .inr (1, [.ref jt, .ref jk, .ref jv, .ref jr, .int (nI n)])), (jk, .inl (ck, 43, .inl K)), (jv, .inl (cv, 43, .inl V)), (jr, .inl (cr, 43, .inl R)), (jh2, .inr (1, [.ref jt2, .ref jk2, .ref jv2, .ref jr2, .int (nI n2)])), (jt2, .inr (0, [.long x2])), (jk2, .inl (ck2, 43, .inl K2)), (jv2, .inl (cv2, 43, .inl V2)), (jr2, .inl (cr2, 43, .inl R2))]) [0, 1, 2, 3, 4, 5, 6, 7, 8, 9] (by decide) rfl
  have hFc := va_free (wc := [(jd, .inr (2, [.long sd, .ref jh, .ref jh2, .ref jg, .ref jb, .ref jy, .long w])), (jh, .inr (1, [.ref jt, .ref jk, .ref jv, .ref jr, .int (nI n)])), (jk, .inl (ck, 43, .inl K)), (jv, .inl (cv, 43, .inl V)), (jr, .inl (cr, 43, .inl R)), (jh2, .inr (1, [.ref jt2, .ref jk2, .ref jv2, .ref jr2, .int (nI n2)])), (jt2, .inr (0, [.long x2])), (jk2, .inl (ck2, 43, .inl K2)), (jv2, .inl (cv2, 43, .inl V2)), (jr2, .inl (cr2, 43, .inl R2))]) hD hS hA [0, 1, 2, 3, 4, 5, 6, 7, 8, 9] rfl
  refine va_calli (va_runV (As := [.long ot, .int (nI z)]) (rest := [.int (nI 0), .ref jo]) ⟨hx, hb, hml, hown, hts⟩ (c_D_same l dC dI jd jh jh2 jg jb jy sd w jt jk jv jr n ck cv cr K V R jt2 jk2 jv2 jr2 n2 ck2 cv2 cr2 x2 K2 V2 R2 ot z hn hz _) (cwV 2 hts (g_V big_w m_322 m_323 m_324 m_1 m_325) rfl rfl rfl (by decide +kernel) ⟨Nat.le_of_ble_eq_true rfl, Nat.le_of_ble_eq_true rfl⟩) (wr_V hPc hKc hDc hN (va_recv hKc hPc (ci := 2) (q0 := 0) rfl rfl)) rfl rfl hl.1 rfl (lv_room (Nat.le_of_ble_eq_true rfl)) d_L_same_6 ⟨Nat.le_of_ble_eq_true rfl, Nat.le_of_ble_eq_true rfl⟩) hS (fun q _ h => hFc q h) hFc (fun r_1 u t H1 locs ht hvm hw hB hz1 hk1 hS => ?_)
  obtain ⟨hP1, hK1, hD1⟩ := hB
  rw [ht] at hP1
  obtain ⟨hP, hD⟩ := va_join (wr := [(jo, .inl (co, 1, .inr (.inl O)))]) (w1 := [(jd, .inr (2, [.long sd, .ref jh, .ref jh2, .ref jg, .ref jb, .ref jy, .long w])), (jh, .inr (1, [.ref jt, .ref jk, .ref jv, .ref jr, .int (nI n)])), (jk, .inl (ck, 43, .inl K)), (jv, .inl (cv, 43, .inl V)), (jr, .inl (cr, 43, .inl R)), (jh2, .inr (1, [.ref jt2, .ref jk2, .ref jv2, .ref jr2, .int (nI (z + 3))])), (jt2, .inr (0, [.long ((flS ot K2 V2 R2 z).1)])), (jk2, .inl (ck2, 43, .inl ((flS ot K2 V2 R2 z).2.1))), (jv2, .inl (cv2, 43, .inl ((flS ot K2 V2 R2 z).2.2.1))), (jr2, .inl (cr2, 43, .inl ((flS ot K2 V2 R2 z).2.2.2)))]) hP hD [0, 1, 2, 3, 4, 5, 6, 7, 8, 9] [10] rfl rfl (by decide) (by decide) hk1 hFc hP1 hD1
  generalize H1 = H at hP hS ⊢
  have hP : va_P (dC, dI) classes [(jo, .inl (co, 1, .inr (.inl O))), (jd, .inr (2, [.long sd, .ref jh, .ref jh2, .ref jg, .ref jb, .ref jy, .long w])), (jh, .inr (1, [.ref jt, .ref jk, .ref jv, .ref jr, .int (nI n)])), (jk, .inl (ck, 43, .inl K)), (jv, .inl (cv, 43, .inl V)), (jr, .inl (cr, 43, .inl R)), (jh2, .inr (1, [.ref jt2, .ref jk2, .ref jv2, .ref jr2, .int (nI (z + 3))])), (jt2, .inr (0, [.long ((flS ot K2 V2 R2 z).1)])), (jk2, .inl (ck2, 43, .inl ((flS ot K2 V2 R2 z).2.1))), (jv2, .inl (cv2, 43, .inl ((flS ot K2 V2 R2 z).2.2.1))), (jr2, .inl (cr2, 43, .inl ((flS ot K2 V2 R2 z).2.2.2)))] H := hP
  have hD : va_D A [(jo, .inl (co, 1, .inr (.inl O))), (jd, .inr (2, [.long sd, .ref jh, .ref jh2, .ref jg, .ref jb, .ref jy, .long w])), (jh, .inr (1, [.ref jt, .ref jk, .ref jv, .ref jr, .int (nI n)])), (jk, .inl (ck, 43, .inl K)), (jv, .inl (cv, 43, .inl V)), (jr, .inl (cr, 43, .inl R)), (jh2, .inr (1, [.ref jt2, .ref jk2, .ref jv2, .ref jr2, .int (nI (z + 3))])), (jt2, .inr (0, [.long ((flS ot K2 V2 R2 z).1)])), (jk2, .inl (ck2, 43, .inl ((flS ot K2 V2 R2 z).2.1))), (jv2, .inl (cv2, 43, .inl ((flS ot K2 V2 R2 z).2.2.1))), (jr2, .inl (cr2, 43, .inl ((flS ot K2 V2 R2 z).2.2.2)))] := hD
  have hw := hw.symm
  subst hw
  refine lv_if_eq (tgt := 16) hx hb d_L_same_9 (by decide) (fun c_9 => ?_) (fun c_9 => ?_)
  · skip
    have c_9 := bI_f c_9
    refine lv_lconst (v := 0) hx hb d_L_same_16 (by decide +kernel) ?_
    refine lv_topl (fun w_2 ew_2 => ?_)
    have ew_2 : (bL (lkB n (z + 3) K V R (flS ot K2 V2 R2 z).2.1 (flS ot K2 V2 R2 z).2.2.1 (flS ot K2 V2 R2 z).2.2.2)) = w_2 := (ew_2.trans (by rw [c_9]; rfl)).symm
    subst ew_2
    refine va_last hx hb hK hP hD hS 0 6 rfl rfl (vp_in_nI (by omega) (by omega)) d_L_same_17 (fun H locs hP hD hS => ?_)
    rw [nI_clamp (by omega)] at hP hD
    have hP : va_P (dC, dI) classes [(jo, .inl (co, 1, .inr (.inl (vp_updL O 0 (bL (lkB n (z + 3) K V R (flS ot K2 V2 R2 z).2.1 (flS ot K2 V2 R2 z).2.2.1 (flS ot K2 V2 R2 z).2.2.2)))))), (jd, .inr (2, [.long sd, .ref jh, .ref jh2, .ref jg, .ref jb, .ref jy, .long w])), (jh, .inr (1, [.ref jt, .ref jk, .ref jv, .ref jr, .int (nI n)])), (jk, .inl (ck, 43, .inl K)), (jv, .inl (cv, 43, .inl V)), (jr, .inl (cr, 43, .inl R)), (jh2, .inr (1, [.ref jt2, .ref jk2, .ref jv2, .ref jr2, .int (nI (z + 3))])), (jt2, .inr (0, [.long ((flS ot K2 V2 R2 z).1)])), (jk2, .inl (ck2, 43, .inl ((flS ot K2 V2 R2 z).2.1))), (jv2, .inl (cv2, 43, .inl ((flS ot K2 V2 R2 z).2.2.1))), (jr2, .inl (cr2, 43, .inl ((flS ot K2 V2 R2 z).2.2.2)))] H := hP
    have hD : va_D A [(jo, .inl (co, 1, .inr (.inl (vp_updL O 0 (bL (lkB n (z + 3) K V R (flS ot K2 V2 R2 z).2.1 (flS ot K2 V2 R2 z).2.2.1 (flS ot K2 V2 R2 z).2.2.2)))))), (jd, .inr (2, [.long sd, .ref jh, .ref jh2, .ref jg, .ref jb, .ref jy, .long w])), (jh, .inr (1, [.ref jt, .ref jk, .ref jv, .ref jr, .int (nI n)])), (jk, .inl (ck, 43, .inl K)), (jv, .inl (cv, 43, .inl V)), (jr, .inl (cr, 43, .inl R)), (jh2, .inr (1, [.ref jt2, .ref jk2, .ref jv2, .ref jr2, .int (nI (z + 3))])), (jt2, .inr (0, [.long ((flS ot K2 V2 R2 z).1)])), (jk2, .inl (ck2, 43, .inl ((flS ot K2 V2 R2 z).2.1))), (jv2, .inl (cv2, 43, .inl ((flS ot K2 V2 R2 z).2.2.1))), (jr2, .inl (cr2, 43, .inl ((flS ot K2 V2 R2 z).2.2.2)))] := hD
    refine lv_goto (tgt := 25) hx hb d_L_same_18 (by decide) ?_
    refine lv_iconst (v := nI 0) hx hb d_L_same_25 (by decide +kernel) ?_
    have hP9 := hP.sub (ws' := [(jd, .inr (2, [.long sd, .ref jh, .ref jh2, .ref jg, .ref jb, .ref jy, .long w])), (jh, .inr (1, [.ref jt, .ref jk, .ref jv, .ref jr, .int (nI n)])), (jk, .inl (ck, 43, .inl K)), (jv, .inl (cv, 43, .inl V)), (jr, .inl (cr, 43, .inl R)), (jh2, .inr (1, [.ref jt2, .ref jk2, .ref jv2, .ref jr2, .int (nI (z + 3))])), (jt2, .inr (0, [.long ((flS ot K2 V2 R2 z).1)])), (jk2, .inl (ck2, 43, .inl ((flS ot K2 V2 R2 z).2.1))), (jv2, .inl (cv2, 43, .inl ((flS ot K2 V2 R2 z).2.2.1))), (jr2, .inl (cr2, 43, .inl ((flS ot K2 V2 R2 z).2.2.2))), (jo, .inl (co, 1, .inr (.inl (vp_updL O 0 (bL (lkB n (z + 3) K V R (flS ot K2 V2 R2 z).2.1 (flS ot K2 V2 R2 z).2.2.1 (flS ot K2 V2 R2 z).2.2.2))))))]) [1, 2, 3, 4, 5, 6, 7, 8, 9, 10, 0] rfl
    have hD9 := hD.sub (ws' := [(jd, .inr (2, [.long sd, .ref jh, .ref jh2, .ref jg, .ref jb, .ref jy, .long w])), (jh, .inr (1, [.ref jt, .ref jk, .ref jv, .ref jr, .int (nI n)])), (jk, .inl (ck, 43, .inl K)), (jv, .inl (cv, 43, .inl V)), (jr, .inl (cr, 43, .inl R)), (jh2, .inr (1, [.ref jt2, .ref jk2, .ref jv2, .ref jr2, .int (nI (z + 3))])), (jt2, .inr (0, [.long ((flS ot K2 V2 R2 z).1)])), (jk2, .inl (ck2, 43, .inl ((flS ot K2 V2 R2 z).2.1))), (jv2, .inl (cv2, 43, .inl ((flS ot K2 V2 R2 z).2.2.1))), (jr2, .inl (cr2, 43, .inl ((flS ot K2 V2 R2 z).2.2.2))), (jo, .inl (co, 1, .inr (.inl (vp_updL O 0 (bL (lkB n (z + 3) K V R (flS ot K2 V2 R2 z).2.1 (flS ot K2 V2 R2 z).2.2.1 (flS ot K2 V2 R2 z).2.2.2))))))]) [1, 2, 3, 4, 5, 6, 7, 8, 9, 10, 0] (by decide) rfl
    have hK9 := hK.sub (tys' := [(ck, .int), (cv, .int), (cr, .int), (ck2, .int), (cv2, .int), (cr2, .int), (co, .long)]) [0, 1, 2, 3, 4, 5, 6] rfl
    exact W.iret (v := nI 0) hx hb hr (fun t ht hW => ⟨⟨nI 0, (), rfl, rfl, by rw [ht]; exact hP9, va_K.moved hW.alike hK9, hD9⟩, hS.F ht⟩) hS.2.2 d_L_same_26
  · skip
    have c_9 := bI_t c_9
    refine lv_lconst (v := 1) hx hb d_L_same_12 (by decide +kernel) ?_
    refine lv_topl (fun w_3 ew_3 => ?_)
    have ew_3 : (bL (lkB n (z + 3) K V R (flS ot K2 V2 R2 z).2.1 (flS ot K2 V2 R2 z).2.2.1 (flS ot K2 V2 R2 z).2.2.2)) = w_3 := (ew_3.trans (by rw [c_9]; rfl)).symm
    subst ew_3
    refine lv_goto (tgt := 17) hx hb d_L_same_13 (by decide) ?_
    refine va_last hx hb hK hP hD hS 0 6 rfl rfl (vp_in_nI (by omega) (by omega)) d_L_same_17 (fun H locs hP hD hS => ?_)
    rw [nI_clamp (by omega)] at hP hD
    have hP : va_P (dC, dI) classes [(jo, .inl (co, 1, .inr (.inl (vp_updL O 0 (bL (lkB n (z + 3) K V R (flS ot K2 V2 R2 z).2.1 (flS ot K2 V2 R2 z).2.2.1 (flS ot K2 V2 R2 z).2.2.2)))))), (jd, .inr (2, [.long sd, .ref jh, .ref jh2, .ref jg, .ref jb, .ref jy, .long w])), (jh, .inr (1, [.ref jt, .ref jk, .ref jv, .ref jr, .int (nI n)])), (jk, .inl (ck, 43, .inl K)), (jv, .inl (cv, 43, .inl V)), (jr, .inl (cr, 43, .inl R)), (jh2, .inr (1, [.ref jt2, .ref jk2, .ref jv2, .ref jr2, .int (nI (z + 3))])), (jt2, .inr (0, [.long ((flS ot K2 V2 R2 z).1)])), (jk2, .inl (ck2, 43, .inl ((flS ot K2 V2 R2 z).2.1))), (jv2, .inl (cv2, 43, .inl ((flS ot K2 V2 R2 z).2.2.1))), (jr2, .inl (cr2, 43, .inl ((flS ot K2 V2 R2 z).2.2.2)))] H := hP
    have hD : va_D A [(jo, .inl (co, 1, .inr (.inl (vp_updL O 0 (bL (lkB n (z + 3) K V R (flS ot K2 V2 R2 z).2.1 (flS ot K2 V2 R2 z).2.2.1 (flS ot K2 V2 R2 z).2.2.2)))))), (jd, .inr (2, [.long sd, .ref jh, .ref jh2, .ref jg, .ref jb, .ref jy, .long w])), (jh, .inr (1, [.ref jt, .ref jk, .ref jv, .ref jr, .int (nI n)])), (jk, .inl (ck, 43, .inl K)), (jv, .inl (cv, 43, .inl V)), (jr, .inl (cr, 43, .inl R)), (jh2, .inr (1, [.ref jt2, .ref jk2, .ref jv2, .ref jr2, .int (nI (z + 3))])), (jt2, .inr (0, [.long ((flS ot K2 V2 R2 z).1)])), (jk2, .inl (ck2, 43, .inl ((flS ot K2 V2 R2 z).2.1))), (jv2, .inl (cv2, 43, .inl ((flS ot K2 V2 R2 z).2.2.1))), (jr2, .inl (cr2, 43, .inl ((flS ot K2 V2 R2 z).2.2.2)))] := hD
    refine lv_goto (tgt := 25) hx hb d_L_same_18 (by decide) ?_
    refine lv_iconst (v := nI 0) hx hb d_L_same_25 (by decide +kernel) ?_
    have hP9 := hP.sub (ws' := [(jd, .inr (2, [.long sd, .ref jh, .ref jh2, .ref jg, .ref jb, .ref jy, .long w])), (jh, .inr (1, [.ref jt, .ref jk, .ref jv, .ref jr, .int (nI n)])), (jk, .inl (ck, 43, .inl K)), (jv, .inl (cv, 43, .inl V)), (jr, .inl (cr, 43, .inl R)), (jh2, .inr (1, [.ref jt2, .ref jk2, .ref jv2, .ref jr2, .int (nI (z + 3))])), (jt2, .inr (0, [.long ((flS ot K2 V2 R2 z).1)])), (jk2, .inl (ck2, 43, .inl ((flS ot K2 V2 R2 z).2.1))), (jv2, .inl (cv2, 43, .inl ((flS ot K2 V2 R2 z).2.2.1))), (jr2, .inl (cr2, 43, .inl ((flS ot K2 V2 R2 z).2.2.2))), (jo, .inl (co, 1, .inr (.inl (vp_updL O 0 (bL (lkB n (z + 3) K V R (flS ot K2 V2 R2 z).2.1 (flS ot K2 V2 R2 z).2.2.1 (flS ot K2 V2 R2 z).2.2.2))))))]) [1, 2, 3, 4, 5, 6, 7, 8, 9, 10, 0] rfl
    have hD9 := hD.sub (ws' := [(jd, .inr (2, [.long sd, .ref jh, .ref jh2, .ref jg, .ref jb, .ref jy, .long w])), (jh, .inr (1, [.ref jt, .ref jk, .ref jv, .ref jr, .int (nI n)])), (jk, .inl (ck, 43, .inl K)), (jv, .inl (cv, 43, .inl V)), (jr, .inl (cr, 43, .inl R)), (jh2, .inr (1, [.ref jt2, .ref jk2, .ref jv2, .ref jr2, .int (nI (z + 3))])), (jt2, .inr (0, [.long ((flS ot K2 V2 R2 z).1)])), (jk2, .inl (ck2, 43, .inl ((flS ot K2 V2 R2 z).2.1))), (jv2, .inl (cv2, 43, .inl ((flS ot K2 V2 R2 z).2.2.1))), (jr2, .inl (cr2, 43, .inl ((flS ot K2 V2 R2 z).2.2.2))), (jo, .inl (co, 1, .inr (.inl (vp_updL O 0 (bL (lkB n (z + 3) K V R (flS ot K2 V2 R2 z).2.1 (flS ot K2 V2 R2 z).2.2.1 (flS ot K2 V2 R2 z).2.2.2))))))]) [1, 2, 3, 4, 5, 6, 7, 8, 9, 10, 0] (by decide) rfl
    have hK9 := hK.sub (tys' := [(ck, .int), (cv, .int), (cr, .int), (ck2, .int), (cv2, .int), (cr2, .int), (co, .long)]) [0, 1, 2, 3, 4, 5, 6] rfl
    exact W.iret (v := nI 0) hx hb hr (fun t ht hW => ⟨⟨nI 0, (), rfl, rfl, by rw [ht]; exact hP9, va_K.moved hW.alike hK9, hD9⟩, hS.F ht⟩) hS.2.2 d_L_same_26
set_option maxHeartbeats 4000000 in
set_option maxRecDepth 100000 in
/-- the law: same, refused -/
theorem c_L_samex (l : Launch) (hl9 : l.stackTraces = false) (dC : Nat → ClassId) (dI : Nat → Nat → Nat) (jd jh jh2 jg jb jy : Nat) (sd w : Int64) (ot : Int64) (p0 : Int32) (jo : Nat) (co : ClassId) (O : Nat → Int64) (hex : szB p0 = false) (sa : Nat → Nat) (sz : Nat) : Met l y_L_same w_L_same ({ frames := 7, cells := 1, slots := 6, locals := 136 }) (wx_P dC dI [.ref jd, .long ot, .int p0, .ref jo] [(jd, .inr (2, [.long sd, .ref jh, .ref jh2, .ref jg, .ref jb, .ref jy, .long w])), (jo, .inl (co, 1, .inr (.inl O)))] [(co, .long)] sa sz) (va_Qi (fun (r : Int32) (_ : Unit) => r = nI 1) (fun (u : Unit) => wr_B dC dI (va_A [(jd, .inr (2, [.long sd, .ref jh, .ref jh2, .ref jg, .ref jb, .ref jy, .long w])), (jo, .inl (co, 1, .inr (.inl O)))] sz) [(jd, .inr (2, [.long sd, .ref jh, .ref jh2, .ref jg, .ref jb, .ref jy, .long w])), (jo, .inl (co, 1, .inr (.inl O)))] [(co, .long)]) (va_A [(jd, .inr (2, [.long sd, .ref jh, .ref jh2, .ref jg, .ref jb, .ref jy, .long w])), (jo, .inl (co, 1, .inr (.inl O)))] sz)) 1 6 (va_A [(jd, .inr (2, [.long sd, .ref jh, .ref jh2, .ref jg, .ref jb, .ref jy, .long w])), (jo, .inl (co, 1, .inr (.inl O)))] sz) := by
  refine va_MetW (cc := b_L_same) (maxL := 6) (ret := (Option.some Jvm.ClassFile.FieldType.int)) (by decide) rfl ?_
  intro p e s m args below meth c s₁ B0 hml hv0
  obtain ⟨rfl, hsz, hP, hK, hD0, hN, hT, hZ⟩ := hv0
  have hx := B0.exec
  have hb := B0.bytes
  have hr := B0.returns
  have hts := atoms_spec (ws := w_L_same) B0.pre
  have hown : s.vm.findClass R_L = some m.cls := findClass_of_methodNamed B0.named
  have hlocks := B0.notSynchronized
  subst hsz
  have hD := hD0.self (sz := s.heap.size)
  generalize hAe : va_A [(jd, .inr (2, [.long sd, .ref jh, .ref jh2, .ref jg, .ref jb, .ref jy, .long w])), (jo, .inl (co, 1, .inr (.inl O)))] s.heap.size = A at hD hZ ⊢
  have hA : ∀ q : Nat, s.heap.size ≤ q → A q := fun q h => by rw [← hAe]; exact Or.inr h
  have hS : va_S A s.heap s.heap [] := va_S.rf
  have hP : va_P (dC, dI) classes [(jd, .inr (2, [.long sd, .ref jh, .ref jh2, .ref jg, .ref jb, .ref jy, .long w])), (jo, .inl (co, 1, .inr (.inl O)))] s.heap := hP
  have hl := lv_entry ([.ref jd, .long ot, .int p0, .ref jo]) (n := 6) (Nat.le_of_ble_eq_true rfl)
  rw [lg_entry_eq]
  generalize (lg_sl ([.ref jd, .long ot, .int p0, .ref jo]) ++ List.replicate (6 - (lg_sl ([.ref jd, .long ot, .int p0, .ref jo])).length) Slot.unset).toArray = ls at hl ⊢
  have hl : lv_has ls 6 [(0, .ref jd), (1, .long ot), (3, .int p0), (4, .ref jo)] := hl
  have hTab : c.exceptionTable.toList = tableOf [((0 : Nat), (18 : Nat), (21 : Nat), (13 : Nat))] := vx_table (x := y_L_same) B0 (hts (.codeWith y_L_same b_L_same 6 (Option.some Jvm.ClassFile.FieldType.int) [((0 : Nat), (18 : Nat), (21 : Nat), (13 : Nat))]) List.mem_cons_self)
  refine lv_aload hx hb d_L_same_0 (lv_at hl 3 rfl) ?_
  refine lv_iconst (v := nI 0) hx hb d_L_same_2 (by decide +kernel) ?_
  refine lv_aload_n hx hb d_L_same_3 rfl (lv_at hl 0 rfl) ?_
  refine lv_lload_n hx hb d_L_same_4 rfl (lv_at hl 1 rfl) ?_
  refine lv_iload_n hx hb d_L_same_5 rfl (lv_at hl 2 rfl) ?_
  have hPc := hP.sub (ws' := [(jd, .inr (2, [.long sd, .ref jh, .ref jh2, .ref jg, .ref jb, .ref jy, .long w]))]) [0] rfl
  have hKc := hK.sub (tys' := []) [] rfl
  have hDc := hD.sub (ws' := [(jd, .inr (2, [.long sd, .ref jh, .ref jh2, .ref jg, .ref jb, .ref jy, .long w]))]) [0] (by decide) rfl
  have hFc := va_free (wc := [(jd, .inr (2, [.long sd, .ref jh, .ref jh2, .ref jg, .ref jb, .ref jy, .long w]))]) hD hS hA [0] rfl
  refine vx_calli (vx_runV (As := [.long ot, .int p0]) (rest := [.int (nI 0), .ref jo]) ⟨hx, hb, hml, hown, hts⟩ (c_D_samex l hl9 dC dI jd jh jh2 jg jb jy sd w ot p0 hex sa _) (cwV 2 hts (g_V big_w m_322 m_323 m_324 m_1 m_325) rfl rfl rfl (by decide +kernel) ⟨Nat.le_of_ble_eq_true rfl, Nat.le_of_ble_eq_true rfl⟩) (wx_V hPc hKc hDc hN hT hZ hS hFc (va_recv hKc hPc (ci := 2) (q0 := 0) rfl rfl)) rfl rfl hl.1 rfl (lv_room (Nat.le_of_ble_eq_true rfl)) d_L_same_6 ⟨Nat.le_of_ble_eq_true rfl, Nat.le_of_ble_eq_true rfl⟩) hS (fun q _ h => hFc q h) hFc (fun q _ h => hFc q h) (fun E ce q9 u t H1 locs ht hvm hw hB hz1 hk1 hS hce hcv hcl => ?_) (fun r_1 u t H1 locs ht hvm hw hB hz1 hk1 hS => ?_)
  · skip
    obtain ⟨rfl, hP1, hK1, hD1⟩ := hB
    rw [ht] at hP1
    obtain ⟨hP, hD⟩ := va_join (wr := [(jo, .inl (co, 1, .inr (.inl O)))]) (w1 := [(jd, .inr (2, [.long sd, .ref jh, .ref jh2, .ref jg, .ref jb, .ref jy, .long w]))]) hP hD [0] [1] rfl rfl (by decide) (by decide) hk1 hFc hP1 hD1
    generalize H1 = H at hP hS hce ⊢
    have hP : va_P (dC, dI) classes [(jo, .inl (co, 1, .inr (.inl O))), (jd, .inr (2, [.long sd, .ref jh, .ref jh2, .ref jg, .ref jb, .ref jy, .long w]))] H := hP
    have hD : va_D A [(jo, .inl (co, 1, .inr (.inl O))), (jd, .inr (2, [.long sd, .ref jh, .ref jh2, .ref jg, .ref jb, .ref jy, .long w]))] := hD
    refine vx_catch hown [] ⟨0, 18, 21, 13⟩ [] hTab (fun z h => nomatch h) (by decide) (by decide) (hts _ (List.mem_cons_of_mem _ m_152)) (hN.use (by decide +kernel : (Jvm.Cond.castable "java/lang/IllegalArgumentException" "java/lang/IllegalArgumentException") ∈ NWl)) hce hcv hcl ?_
    refine W.cs (cells' := 1) (slots' := 6) rfl rfl ?_
    refine lv_astore (lv' := [(5, .ref q9), (0, .ref jd), (1, .long ot), (3, .int p0), (4, .ref jo)]) hx hb d_L_same_21 hl (by decide) rfl (fun ls hl => ?_)
    refine lv_iconst (v := nI 1) hx hb d_L_same_23 (by decide +kernel) ?_
    have hP9 := hP.sub (ws' := [(jd, .inr (2, [.long sd, .ref jh, .ref jh2, .ref jg, .ref jb, .ref jy, .long w])), (jo, .inl (co, 1, .inr (.inl O)))]) [1, 0] rfl
    have hD9 := hD.sub (ws' := [(jd, .inr (2, [.long sd, .ref jh, .ref jh2, .ref jg, .ref jb, .ref jy, .long w])), (jo, .inl (co, 1, .inr (.inl O)))]) [1, 0] (by decide) rfl
    have hK9 := hK.sub (tys' := [(co, .long)]) [0] rfl
    exact W.iret (v := nI 1) hx hb hr (fun t ht hW => ⟨⟨nI 1, (), rfl, rfl, by rw [ht]; exact hP9, va_K.moved hW.alike hK9, hD9⟩, hS.F ht⟩) hS.2.2 d_L_same_24
  · skip
    obtain ⟨hP1, hK1, hD1⟩ := hB
    rw [ht] at hP1
    obtain ⟨hP, hD⟩ := va_join (wr := [(jo, .inl (co, 1, .inr (.inl O)))]) (w1 := [(jd, .inr (2, [.long sd, .ref jh, .ref jh2, .ref jg, .ref jb, .ref jy, .long w]))]) hP hD [0] [1] rfl rfl (by decide) (by decide) hk1 hFc hP1 hD1
    generalize H1 = H at hP hS ⊢
    have hP : va_P (dC, dI) classes [(jo, .inl (co, 1, .inr (.inl O))), (jd, .inr (2, [.long sd, .ref jh, .ref jh2, .ref jg, .ref jb, .ref jy, .long w]))] H := hP
    have hD : va_D A [(jo, .inl (co, 1, .inr (.inl O))), (jd, .inr (2, [.long sd, .ref jh, .ref jh2, .ref jg, .ref jb, .ref jy, .long w]))] := hD
    exact hw.elim
