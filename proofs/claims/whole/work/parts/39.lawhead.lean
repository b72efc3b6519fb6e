/-! THE CLAIM OUT OF ONE WALK OF THE LAW'S BODY. Your part is whole_start (and what it stands on); all else here is the same for every law, but numbers. -/
def R_law : String := "PortDrawerLaw"
def lw_P (b : Addr) (xs : List Int32) (args : Array Value) (s : State) : Prop := args = #[.ref b] ∧ s.IntsAt b xs ∧ xs.length ≤ 2049 ∧ (Jvm.Cond.and given_1 narrow_1).before args s = true
def lw_Q (_ : Array Value) (s : State) (o : Outcome) (t : State) : Prop := o = .returned (some (.int 1)) ∧ Framed s o t [] 1052 9423
def lw_Z (below : List Frame) (a : Array Value) (s : State) : State → Prop := fun t => ∃ o, t.status = .running ∧ Ended t below o ∧ lw_Q a s o t
/-- the law's own end, with 1 on the stack, nothing written that was there before, its room as the claim has it -/
theorem lw_ret {p : Program} {l : Launch} {e : Env} {s : State} {m : MethodId} {below : List Frame} {meth : Method} {c : Code} {b : Nat} (hx : p.tables.exec = Jvm.exec) (hb : c.code = code) (hr : meth.sig.returnType = ret) (hlocks : meth.locks = false) {pc : Nat} {H : Heap} {ls : Array Slot} (hdg : decode code pc = .ok (.ireturn, 1)) : W p l e room_1 s m #[Value.ref b] below meth c H [] 1052 9423 (lw_Z below #[Value.ref b] s) (F0 m pc ls [.int 1]) := by
  intro T hT X
  obtain ⟨fs, hret, hrun, hended, hW, hframe⟩ := X.leave (v := some (.int 1)) (hlocks := hlocks) (fun h => by rw [hr] at h; cases h)
  have hmeth' : T.vm.method? m = some meth := X.method'
  refine ⟨T.setFrames fs, ?_, .returned (some (.int 1)), hrun, hended, rfl, ⟨_, rfl⟩, hW, hframe⟩
  jvm_step X.here [X.here.top, hx, hb, hdg, hmeth', hr, ret, narrow_b1]
  (try refine ⟨rfl, ?_⟩); (try refine ⟨rfl, ?_⟩)
  first | (intro acts; rw [hret _ acts rfl rfl rfl]) | rw [hret _ _ rfl rfl rfl]
  exact Steps.refl _
/-- what holds at the law's entry: the machine, the code, the tables' words (any of lw_tbl by 'hts w (by decide +kernel)'), the script of L ints xs at the cell b, what the Statement gives of the start (any of its parts by flat_of_before) -/
def lw_At (p : Program) (s : State) (m : MethodId) (meth : Method) (c : Code) (b L : Nat) (xs : Nat → Int32) : Prop :=
  p.tables.exec = Jvm.exec ∧ c.code = code ∧ meth.sig.returnType = ret ∧ c.maxLocals = 7 ∧ s.vm.findClass R_law = some m.cls ∧ (∀ w ∈ lw_tbl, w.before #[Value.ref b] s = true) ∧ va_X b L xs s s.heap ∧ b < s.heap.size ∧ meth.locks = false ∧ (Jvm.Cond.and given_1 narrow_1).before #[Value.ref b] s = true
theorem m_151 : (Jvm.Cond.codeWith ({ cls := "PortDrawerLaw", name := "draw", desc := "(LPortDrawer;I[J)I" } : Jvm.MethodName) method_3_code (4 : Nat) (Option.some Jvm.ClassFile.FieldType.int) [((0 : Nat), (9 : Nat), (12 : Nat), (13 : Nat))]) ∈ tblG := m_t (i := 151) rfl rfl
theorem m_149 : (Jvm.Cond.methodLink "PortDrawerLaw" (44 : Nat) ({ cls := "PortDrawerLaw", name := "draw", desc := "(LPortDrawer;I[J)I" } : Jvm.MethodName)) ∈ tblG := m_t (i := 149) rfl rfl
theorem m_150 : (Jvm.Cond.static ({ cls := "PortDrawerLaw", name := "draw", desc := "(LPortDrawer;I[J)I" } : Jvm.MethodName)) ∈ tblG := m_t (i := 150) rfl rfl
theorem m_0 : (Jvm.Cond.initialized "PortDrawerLaw") ∈ tblG := m_t (i := 0) rfl rfl
theorem m_374 : (Jvm.Cond.code ({ cls := "PortDrawerModel", name := "draw", desc := "(I)I" } : Jvm.MethodName) prog_5_method_10_code (2 : Nat) (Option.some Jvm.ClassFile.FieldType.int)) ∈ tblG := m_t (i := 374) rfl rfl
theorem m_373 : (Jvm.Cond.selects "PortDrawerModel" ({ cls := "PortDrawerModel", name := "draw", desc := "(I)I" } : Jvm.MethodName) ({ cls := "PortDrawerModel", name := "draw", desc := "(I)I" } : Jvm.MethodName)) ∈ tblG := m_t (i := 373) rfl rfl
theorem m_371 : (Jvm.Cond.methodLink "PortDrawerLaw" (47 : Nat) ({ cls := "PortDrawerModel", name := "draw", desc := "(I)I" } : Jvm.MethodName)) ∈ tblG := m_t (i := 371) rfl rfl
theorem m_372 : (Jvm.Cond.instanceMethod ({ cls := "PortDrawerModel", name := "draw", desc := "(I)I" } : Jvm.MethodName)) ∈ tblG := m_t (i := 372) rfl rfl
theorem m_370 : (Jvm.Cond.code ({ cls := "PortDrawerModel", name := "thrown", desc := "()I" } : Jvm.MethodName) prog_5_method_2_code (1 : Nat) (Option.some Jvm.ClassFile.FieldType.int)) ∈ tblG := m_t (i := 370) rfl rfl
theorem m_369 : (Jvm.Cond.selects "PortDrawerModel" ({ cls := "PortDrawerModel", name := "thrown", desc := "()I" } : Jvm.MethodName) ({ cls := "PortDrawerModel", name := "thrown", desc := "()I" } : Jvm.MethodName)) ∈ tblG := m_t (i := 369) rfl rfl
theorem m_367 : (Jvm.Cond.methodLink "PortDrawerLaw" (48 : Nat) ({ cls := "PortDrawerModel", name := "thrown", desc := "()I" } : Jvm.MethodName)) ∈ tblG := m_t (i := 367) rfl rfl
theorem m_368 : (Jvm.Cond.instanceMethod ({ cls := "PortDrawerModel", name := "thrown", desc := "()I" } : Jvm.MethodName)) ∈ tblG := m_t (i := 368) rfl rfl
theorem m_279 : (Jvm.Cond.codeWith ({ cls := "PortDrawerLaw", name := "part", desc := "(LPortDrawer;II[J)I" } : Jvm.MethodName) method_4_code (5 : Nat) (Option.some Jvm.ClassFile.FieldType.int) [((0 : Nat), (10 : Nat), (13 : Nat), (19 : Nat))]) ∈ tblG := m_t (i := 279) rfl rfl
theorem m_277 : (Jvm.Cond.methodLink "PortDrawerLaw" (52 : Nat) ({ cls := "PortDrawerLaw", name := "part", desc := "(LPortDrawer;II[J)I" } : Jvm.MethodName)) ∈ tblG := m_t (i := 277) rfl rfl
theorem m_278 : (Jvm.Cond.static ({ cls := "PortDrawerLaw", name := "part", desc := "(LPortDrawer;II[J)I" } : Jvm.MethodName)) ∈ tblG := m_t (i := 278) rfl rfl
theorem m_474 : (Jvm.Cond.code ({ cls := "PortDrawerModel", name := "part", desc := "(II)I" } : Jvm.MethodName) prog_5_method_28_code (5 : Nat) (Option.some Jvm.ClassFile.FieldType.int)) ∈ tblG := m_t (i := 474) rfl rfl
theorem m_473 : (Jvm.Cond.selects "PortDrawerModel" ({ cls := "PortDrawerModel", name := "part", desc := "(II)I" } : Jvm.MethodName) ({ cls := "PortDrawerModel", name := "part", desc := "(II)I" } : Jvm.MethodName)) ∈ tblG := m_t (i := 473) rfl rfl
theorem m_471 : (Jvm.Cond.methodLink "PortDrawerLaw" (55 : Nat) ({ cls := "PortDrawerModel", name := "part", desc := "(II)I" } : Jvm.MethodName)) ∈ tblG := m_t (i := 471) rfl rfl
theorem m_472 : (Jvm.Cond.instanceMethod ({ cls := "PortDrawerModel", name := "part", desc := "(II)I" } : Jvm.MethodName)) ∈ tblG := m_t (i := 472) rfl rfl
theorem m_304 : (Jvm.Cond.codeWith ({ cls := "PortDrawerLaw", name := "fits", desc := "(LPortDrawer;I[J)I" } : Jvm.MethodName) method_5_code (4 : Nat) (Option.some Jvm.ClassFile.FieldType.int) [((0 : Nat), (16 : Nat), (19 : Nat), (13 : Nat))]) ∈ tblG := m_t (i := 304) rfl rfl
theorem m_302 : (Jvm.Cond.methodLink "PortDrawerLaw" (56 : Nat) ({ cls := "PortDrawerLaw", name := "fits", desc := "(LPortDrawer;I[J)I" } : Jvm.MethodName)) ∈ tblG := m_t (i := 302) rfl rfl
theorem m_303 : (Jvm.Cond.static ({ cls := "PortDrawerLaw", name := "fits", desc := "(LPortDrawer;I[J)I" } : Jvm.MethodName)) ∈ tblG := m_t (i := 303) rfl rfl
theorem m_410 : (Jvm.Cond.code ({ cls := "PortDrawerModel", name := "fits", desc := "(I)Z" } : Jvm.MethodName) prog_5_method_14_code (2 : Nat) (Option.some Jvm.ClassFile.FieldType.boolean)) ∈ tblG := m_t (i := 410) rfl rfl
theorem m_409 : (Jvm.Cond.selects "PortDrawerModel" ({ cls := "PortDrawerModel", name := "fits", desc := "(I)Z" } : Jvm.MethodName) ({ cls := "PortDrawerModel", name := "fits", desc := "(I)Z" } : Jvm.MethodName)) ∈ tblG := m_t (i := 409) rfl rfl
theorem m_407 : (Jvm.Cond.methodLink "PortDrawerLaw" (58 : Nat) ({ cls := "PortDrawerModel", name := "fits", desc := "(I)Z" } : Jvm.MethodName)) ∈ tblG := m_t (i := 407) rfl rfl
theorem m_408 : (Jvm.Cond.instanceMethod ({ cls := "PortDrawerModel", name := "fits", desc := "(I)Z" } : Jvm.MethodName)) ∈ tblG := m_t (i := 408) rfl rfl
theorem m_83 : (Jvm.Cond.code ({ cls := "PortDrawer", name := "verdict", desc := "(IZ)Z" } : Jvm.MethodName) prog_1_method_5_code (3 : Nat) (Option.some Jvm.ClassFile.FieldType.boolean)) ∈ tblG := m_t (i := 83) rfl rfl
theorem m_82 : (Jvm.Cond.selects "PortDrawer" ({ cls := "PortDrawer", name := "verdict", desc := "(IZ)Z" } : Jvm.MethodName) ({ cls := "PortDrawer", name := "verdict", desc := "(IZ)Z" } : Jvm.MethodName)) ∈ tblG := m_t (i := 82) rfl rfl
theorem m_80 : (Jvm.Cond.methodLink "PortDrawerLaw" (59 : Nat) ({ cls := "PortDrawer", name := "verdict", desc := "(IZ)Z" } : Jvm.MethodName)) ∈ tblG := m_t (i := 80) rfl rfl
theorem m_81 : (Jvm.Cond.instanceMethod ({ cls := "PortDrawer", name := "verdict", desc := "(IZ)Z" } : Jvm.MethodName)) ∈ tblG := m_t (i := 81) rfl rfl
theorem m_422 : (Jvm.Cond.code ({ cls := "PortDrawerModel", name := "verdict", desc := "(IZ)Z" } : Jvm.MethodName) prog_5_method_15_code (3 : Nat) (Option.some Jvm.ClassFile.FieldType.boolean)) ∈ tblG := m_t (i := 422) rfl rfl
theorem m_421 : (Jvm.Cond.selects "PortDrawerModel" ({ cls := "PortDrawerModel", name := "verdict", desc := "(IZ)Z" } : Jvm.MethodName) ({ cls := "PortDrawerModel", name := "verdict", desc := "(IZ)Z" } : Jvm.MethodName)) ∈ tblG := m_t (i := 421) rfl rfl
theorem m_419 : (Jvm.Cond.methodLink "PortDrawerLaw" (63 : Nat) ({ cls := "PortDrawerModel", name := "verdict", desc := "(IZ)Z" } : Jvm.MethodName)) ∈ tblG := m_t (i := 419) rfl rfl
theorem m_420 : (Jvm.Cond.instanceMethod ({ cls := "PortDrawerModel", name := "verdict", desc := "(IZ)Z" } : Jvm.MethodName)) ∈ tblG := m_t (i := 420) rfl rfl
theorem m_87 : (Jvm.Cond.code ({ cls := "PortDrawer", name := "now", desc := "()I" } : Jvm.MethodName) prog_1_method_6_code (1 : Nat) (Option.some Jvm.ClassFile.FieldType.int)) ∈ tblG := m_t (i := 87) rfl rfl
theorem m_86 : (Jvm.Cond.selects "PortDrawer" ({ cls := "PortDrawer", name := "now", desc := "()I" } : Jvm.MethodName) ({ cls := "PortDrawer", name := "now", desc := "()I" } : Jvm.MethodName)) ∈ tblG := m_t (i := 86) rfl rfl
theorem m_84 : (Jvm.Cond.methodLink "PortDrawerLaw" (64 : Nat) ({ cls := "PortDrawer", name := "now", desc := "()I" } : Jvm.MethodName)) ∈ tblG := m_t (i := 84) rfl rfl
theorem m_85 : (Jvm.Cond.instanceMethod ({ cls := "PortDrawer", name := "now", desc := "()I" } : Jvm.MethodName)) ∈ tblG := m_t (i := 85) rfl rfl
theorem m_426 : (Jvm.Cond.code ({ cls := "PortDrawerModel", name := "now", desc := "()I" } : Jvm.MethodName) prog_5_method_20_code (1 : Nat) (Option.some Jvm.ClassFile.FieldType.int)) ∈ tblG := m_t (i := 426) rfl rfl
theorem m_425 : (Jvm.Cond.selects "PortDrawerModel" ({ cls := "PortDrawerModel", name := "now", desc := "()I" } : Jvm.MethodName) ({ cls := "PortDrawerModel", name := "now", desc := "()I" } : Jvm.MethodName)) ∈ tblG := m_t (i := 425) rfl rfl
theorem m_423 : (Jvm.Cond.methodLink "PortDrawerLaw" (67 : Nat) ({ cls := "PortDrawerModel", name := "now", desc := "()I" } : Jvm.MethodName)) ∈ tblG := m_t (i := 423) rfl rfl
theorem m_424 : (Jvm.Cond.instanceMethod ({ cls := "PortDrawerModel", name := "now", desc := "()I" } : Jvm.MethodName)) ∈ tblG := m_t (i := 424) rfl rfl
theorem m_95 : (Jvm.Cond.code ({ cls := "PortDrawer", name := "shorter", desc := "()I" } : Jvm.MethodName) prog_1_method_7_code (3 : Nat) (Option.some Jvm.ClassFile.FieldType.int)) ∈ tblG := m_t (i := 95) rfl rfl
theorem m_94 : (Jvm.Cond.selects "PortDrawer" ({ cls := "PortDrawer", name := "shorter", desc := "()I" } : Jvm.MethodName) ({ cls := "PortDrawer", name := "shorter", desc := "()I" } : Jvm.MethodName)) ∈ tblG := m_t (i := 94) rfl rfl
theorem m_92 : (Jvm.Cond.methodLink "PortDrawerLaw" (68 : Nat) ({ cls := "PortDrawer", name := "shorter", desc := "()I" } : Jvm.MethodName)) ∈ tblG := m_t (i := 92) rfl rfl
theorem m_93 : (Jvm.Cond.instanceMethod ({ cls := "PortDrawer", name := "shorter", desc := "()I" } : Jvm.MethodName)) ∈ tblG := m_t (i := 93) rfl rfl
theorem m_438 : (Jvm.Cond.code ({ cls := "PortDrawerModel", name := "shorter", desc := "()I" } : Jvm.MethodName) prog_5_method_24_code (1 : Nat) (Option.some Jvm.ClassFile.FieldType.int)) ∈ tblG := m_t (i := 438) rfl rfl
theorem m_437 : (Jvm.Cond.selects "PortDrawerModel" ({ cls := "PortDrawerModel", name := "shorter", desc := "()I" } : Jvm.MethodName) ({ cls := "PortDrawerModel", name := "shorter", desc := "()I" } : Jvm.MethodName)) ∈ tblG := m_t (i := 437) rfl rfl
theorem m_435 : (Jvm.Cond.methodLink "PortDrawerLaw" (71 : Nat) ({ cls := "PortDrawerModel", name := "shorter", desc := "()I" } : Jvm.MethodName)) ∈ tblG := m_t (i := 435) rfl rfl
theorem m_436 : (Jvm.Cond.instanceMethod ({ cls := "PortDrawerModel", name := "shorter", desc := "()I" } : Jvm.MethodName)) ∈ tblG := m_t (i := 436) rfl rfl
theorem m_125 : (Jvm.Cond.code ({ cls := "PortDrawer", name := "left", desc := "(I)I" } : Jvm.MethodName) prog_1_method_8_code (4 : Nat) (Option.some Jvm.ClassFile.FieldType.int)) ∈ tblG := m_t (i := 125) rfl rfl
theorem m_124 : (Jvm.Cond.selects "PortDrawer" ({ cls := "PortDrawer", name := "left", desc := "(I)I" } : Jvm.MethodName) ({ cls := "PortDrawer", name := "left", desc := "(I)I" } : Jvm.MethodName)) ∈ tblG := m_t (i := 124) rfl rfl
theorem m_122 : (Jvm.Cond.methodLink "PortDrawerLaw" (72 : Nat) ({ cls := "PortDrawer", name := "left", desc := "(I)I" } : Jvm.MethodName)) ∈ tblG := m_t (i := 122) rfl rfl
theorem m_123 : (Jvm.Cond.instanceMethod ({ cls := "PortDrawer", name := "left", desc := "(I)I" } : Jvm.MethodName)) ∈ tblG := m_t (i := 123) rfl rfl
theorem m_462 : (Jvm.Cond.code ({ cls := "PortDrawerModel", name := "left", desc := "(I)I" } : Jvm.MethodName) prog_5_method_25_code (4 : Nat) (Option.some Jvm.ClassFile.FieldType.int)) ∈ tblG := m_t (i := 462) rfl rfl
theorem m_461 : (Jvm.Cond.selects "PortDrawerModel" ({ cls := "PortDrawerModel", name := "left", desc := "(I)I" } : Jvm.MethodName) ({ cls := "PortDrawerModel", name := "left", desc := "(I)I" } : Jvm.MethodName)) ∈ tblG := m_t (i := 461) rfl rfl
theorem m_459 : (Jvm.Cond.methodLink "PortDrawerLaw" (75 : Nat) ({ cls := "PortDrawerModel", name := "left", desc := "(I)I" } : Jvm.MethodName)) ∈ tblG := m_t (i := 459) rfl rfl
theorem m_460 : (Jvm.Cond.instanceMethod ({ cls := "PortDrawerModel", name := "left", desc := "(I)I" } : Jvm.MethodName)) ∈ tblG := m_t (i := 460) rfl rfl
theorem m_129 : (Jvm.Cond.code ({ cls := "PortDrawer", name := "minimal", desc := "()Z" } : Jvm.MethodName) prog_1_method_9_code (1 : Nat) (Option.some Jvm.ClassFile.FieldType.boolean)) ∈ tblG := m_t (i := 129) rfl rfl
theorem m_128 : (Jvm.Cond.selects "PortDrawer" ({ cls := "PortDrawer", name := "minimal", desc := "()Z" } : Jvm.MethodName) ({ cls := "PortDrawer", name := "minimal", desc := "()Z" } : Jvm.MethodName)) ∈ tblG := m_t (i := 128) rfl rfl
theorem m_126 : (Jvm.Cond.methodLink "PortDrawerLaw" (76 : Nat) ({ cls := "PortDrawer", name := "minimal", desc := "()Z" } : Jvm.MethodName)) ∈ tblG := m_t (i := 126) rfl rfl
theorem m_127 : (Jvm.Cond.instanceMethod ({ cls := "PortDrawer", name := "minimal", desc := "()Z" } : Jvm.MethodName)) ∈ tblG := m_t (i := 127) rfl rfl
theorem m_466 : (Jvm.Cond.code ({ cls := "PortDrawerModel", name := "minimal", desc := "()Z" } : Jvm.MethodName) prog_5_method_26_code (1 : Nat) (Option.some Jvm.ClassFile.FieldType.boolean)) ∈ tblG := m_t (i := 466) rfl rfl
theorem m_465 : (Jvm.Cond.selects "PortDrawerModel" ({ cls := "PortDrawerModel", name := "minimal", desc := "()Z" } : Jvm.MethodName) ({ cls := "PortDrawerModel", name := "minimal", desc := "()Z" } : Jvm.MethodName)) ∈ tblG := m_t (i := 465) rfl rfl
theorem m_463 : (Jvm.Cond.methodLink "PortDrawerLaw" (80 : Nat) ({ cls := "PortDrawerModel", name := "minimal", desc := "()Z" } : Jvm.MethodName)) ∈ tblG := m_t (i := 463) rfl rfl
theorem m_464 : (Jvm.Cond.instanceMethod ({ cls := "PortDrawerModel", name := "minimal", desc := "()Z" } : Jvm.MethodName)) ∈ tblG := m_t (i := 464) rfl rfl
theorem m_313 : (Jvm.Cond.codeWith ({ cls := "PortDrawerLaw", name := "without", desc := "(LPortDrawer;I[J)I" } : Jvm.MethodName) method_6_code (4 : Nat) (Option.some Jvm.ClassFile.FieldType.int) [((0 : Nat), (9 : Nat), (12 : Nat), (13 : Nat))]) ∈ tblG := m_t (i := 313) rfl rfl
theorem m_311 : (Jvm.Cond.methodLink "PortDrawerLaw" (81 : Nat) ({ cls := "PortDrawerLaw", name := "without", desc := "(LPortDrawer;I[J)I" } : Jvm.MethodName)) ∈ tblG := m_t (i := 311) rfl rfl
theorem m_312 : (Jvm.Cond.static ({ cls := "PortDrawerLaw", name := "without", desc := "(LPortDrawer;I[J)I" } : Jvm.MethodName)) ∈ tblG := m_t (i := 312) rfl rfl
theorem m_470 : (Jvm.Cond.code ({ cls := "PortDrawerModel", name := "without", desc := "(I)I" } : Jvm.MethodName) prog_5_method_27_code (3 : Nat) (Option.some Jvm.ClassFile.FieldType.int)) ∈ tblG := m_t (i := 470) rfl rfl
theorem m_469 : (Jvm.Cond.selects "PortDrawerModel" ({ cls := "PortDrawerModel", name := "without", desc := "(I)I" } : Jvm.MethodName) ({ cls := "PortDrawerModel", name := "without", desc := "(I)I" } : Jvm.MethodName)) ∈ tblG := m_t (i := 469) rfl rfl
theorem m_467 : (Jvm.Cond.methodLink "PortDrawerLaw" (83 : Nat) ({ cls := "PortDrawerModel", name := "without", desc := "(I)I" } : Jvm.MethodName)) ∈ tblG := m_t (i := 467) rfl rfl
theorem m_468 : (Jvm.Cond.instanceMethod ({ cls := "PortDrawerModel", name := "without", desc := "(I)I" } : Jvm.MethodName)) ∈ tblG := m_t (i := 468) rfl rfl
theorem m_483 : (Jvm.Cond.constantLong "PortDrawerLaw" (84 : Nat) (4294967295 : Int64)) ∈ tblG := m_t (i := 483) rfl rfl
theorem m_321 : (Jvm.Cond.codeWith ({ cls := "PortDrawerLaw", name := "same", desc := "(LPortDrawer;JI[J)I" } : Jvm.MethodName) method_7_code (6 : Nat) (Option.some Jvm.ClassFile.FieldType.int) [((0 : Nat), (18 : Nat), (21 : Nat), (13 : Nat))]) ∈ tblG := m_t (i := 321) rfl rfl
theorem m_319 : (Jvm.Cond.methodLink "PortDrawerLaw" (86 : Nat) ({ cls := "PortDrawerLaw", name := "same", desc := "(LPortDrawer;JI[J)I" } : Jvm.MethodName)) ∈ tblG := m_t (i := 319) rfl rfl
theorem m_320 : (Jvm.Cond.static ({ cls := "PortDrawerLaw", name := "same", desc := "(LPortDrawer;JI[J)I" } : Jvm.MethodName)) ∈ tblG := m_t (i := 320) rfl rfl
theorem m_406 : (Jvm.Cond.code ({ cls := "PortDrawerModel", name := "same", desc := "(JI)Z" } : Jvm.MethodName) prog_5_method_12_code (6 : Nat) (Option.some Jvm.ClassFile.FieldType.boolean)) ∈ tblG := m_t (i := 406) rfl rfl
theorem m_405 : (Jvm.Cond.selects "PortDrawerModel" ({ cls := "PortDrawerModel", name := "same", desc := "(JI)Z" } : Jvm.MethodName) ({ cls := "PortDrawerModel", name := "same", desc := "(JI)Z" } : Jvm.MethodName)) ∈ tblG := m_t (i := 405) rfl rfl
theorem m_403 : (Jvm.Cond.methodLink "PortDrawerLaw" (89 : Nat) ({ cls := "PortDrawerModel", name := "same", desc := "(JI)Z" } : Jvm.MethodName)) ∈ tblG := m_t (i := 403) rfl rfl
theorem m_404 : (Jvm.Cond.instanceMethod ({ cls := "PortDrawerModel", name := "same", desc := "(JI)Z" } : Jvm.MethodName)) ∈ tblG := m_t (i := 404) rfl rfl
theorem m_133 : (Jvm.Cond.code ({ cls := "PortDrawer", name := "count", desc := "(I)I" } : Jvm.MethodName) prog_1_method_12_code (2 : Nat) (Option.some Jvm.ClassFile.FieldType.int)) ∈ tblG := m_t (i := 133) rfl rfl
theorem m_132 : (Jvm.Cond.selects "PortDrawer" ({ cls := "PortDrawer", name := "count", desc := "(I)I" } : Jvm.MethodName) ({ cls := "PortDrawer", name := "count", desc := "(I)I" } : Jvm.MethodName)) ∈ tblG := m_t (i := 132) rfl rfl
theorem m_130 : (Jvm.Cond.methodLink "PortDrawerLaw" (90 : Nat) ({ cls := "PortDrawer", name := "count", desc := "(I)I" } : Jvm.MethodName)) ∈ tblG := m_t (i := 130) rfl rfl
theorem m_131 : (Jvm.Cond.instanceMethod ({ cls := "PortDrawer", name := "count", desc := "(I)I" } : Jvm.MethodName)) ∈ tblG := m_t (i := 131) rfl rfl
theorem m_478 : (Jvm.Cond.code ({ cls := "PortDrawerModel", name := "count", desc := "(I)I" } : Jvm.MethodName) prog_5_method_30_code (5 : Nat) (Option.some Jvm.ClassFile.FieldType.int)) ∈ tblG := m_t (i := 478) rfl rfl
theorem m_477 : (Jvm.Cond.selects "PortDrawerModel" ({ cls := "PortDrawerModel", name := "count", desc := "(I)I" } : Jvm.MethodName) ({ cls := "PortDrawerModel", name := "count", desc := "(I)I" } : Jvm.MethodName)) ∈ tblG := m_t (i := 477) rfl rfl
theorem m_475 : (Jvm.Cond.methodLink "PortDrawerLaw" (93 : Nat) ({ cls := "PortDrawerModel", name := "count", desc := "(I)I" } : Jvm.MethodName)) ∈ tblG := m_t (i := 475) rfl rfl
theorem m_476 : (Jvm.Cond.instanceMethod ({ cls := "PortDrawerModel", name := "count", desc := "(I)I" } : Jvm.MethodName)) ∈ tblG := m_t (i := 476) rfl rfl
theorem m_12 : (Jvm.Cond.instantiable "PortDrawer" (7 : Nat)) ∈ tblG := m_t (i := 12) rfl rfl
theorem m_331 : (Jvm.Cond.instantiable "PortDrawerModel" (10 : Nat)) ∈ tblG := m_t (i := 331) rfl rfl
theorem m_11 : (Jvm.Cond.classLink "PortDrawerLaw" (8 : Nat) "PortDrawer") ∈ tblG := m_t (i := 11) rfl rfl
theorem m_148 : (Jvm.Cond.code ({ cls := "PortDrawerLaw", name := "cell", desc := "([II)I" } : Jvm.MethodName) method_2_code (2 : Nat) (Option.some Jvm.ClassFile.FieldType.int)) ∈ tblG := m_t (i := 148) rfl rfl
theorem m_146 : (Jvm.Cond.methodLink "PortDrawerLaw" (32 : Nat) ({ cls := "PortDrawerLaw", name := "cell", desc := "([II)I" } : Jvm.MethodName)) ∈ tblG := m_t (i := 146) rfl rfl
theorem m_147 : (Jvm.Cond.static ({ cls := "PortDrawerLaw", name := "cell", desc := "([II)I" } : Jvm.MethodName)) ∈ tblG := m_t (i := 147) rfl rfl
theorem m_15 : (Jvm.Cond.code ({ cls := "PortDrawer", name := "<init>", desc := "(J)V" } : Jvm.MethodName) prog_1_method_1_code (3 : Nat) (Option.none : Option Jvm.ClassFile.FieldType)) ∈ tblG := m_t (i := 15) rfl rfl
theorem m_13 : (Jvm.Cond.methodLink "PortDrawerLaw" (38 : Nat) ({ cls := "PortDrawer", name := "<init>", desc := "(J)V" } : Jvm.MethodName)) ∈ tblG := m_t (i := 13) rfl rfl
theorem m_14 : (Jvm.Cond.instanceMethod ({ cls := "PortDrawer", name := "<init>", desc := "(J)V" } : Jvm.MethodName)) ∈ tblG := m_t (i := 14) rfl rfl
theorem m_330 : (Jvm.Cond.classLink "PortDrawerLaw" (41 : Nat) "PortDrawerModel") ∈ tblG := m_t (i := 330) rfl rfl
theorem m_334 : (Jvm.Cond.code ({ cls := "PortDrawerModel", name := "<init>", desc := "(J)V" } : Jvm.MethodName) prog_5_method_1_code (3 : Nat) (Option.none : Option Jvm.ClassFile.FieldType)) ∈ tblG := m_t (i := 334) rfl rfl
theorem m_332 : (Jvm.Cond.methodLink "PortDrawerLaw" (43 : Nat) ({ cls := "PortDrawerModel", name := "<init>", desc := "(J)V" } : Jvm.MethodName)) ∈ tblG := m_t (i := 332) rfl rfl
theorem m_333 : (Jvm.Cond.instanceMethod ({ cls := "PortDrawerModel", name := "<init>", desc := "(J)V" } : Jvm.MethodName)) ∈ tblG := m_t (i := 333) rfl rfl
theorem d_L_law_0 : decode b_L_law 0 = .ok (.new 8, 3) := by decide +kernel
theorem d_L_law_3 : decode b_L_law 3 = .ok (.dup, 1) := by decide +kernel
theorem d_L_law_4 : decode b_L_law 4 = .ok (.aload_n 0, 1) := by decide +kernel
theorem d_L_law_5 : decode b_L_law 5 = .ok (.iconst 0, 1) := by decide +kernel
theorem d_L_law_6 : decode b_L_law 6 = .ok (.invokestatic 32, 3) := by decide +kernel
theorem d_L_law_9 : decode b_L_law 9 = .ok (.i2l, 1) := by decide +kernel
theorem d_L_law_10 : decode b_L_law 10 = .ok (.invokespecial 38, 3) := by decide +kernel
theorem d_L_law_13 : decode b_L_law 13 = .ok (.astore_n 1, 1) := by decide +kernel
theorem d_L_law_14 : decode b_L_law 14 = .ok (.new 41, 3) := by decide +kernel
theorem d_L_law_17 : decode b_L_law 17 = .ok (.dup, 1) := by decide +kernel
theorem d_L_law_18 : decode b_L_law 18 = .ok (.aload_n 0, 1) := by decide +kernel
theorem d_L_law_19 : decode b_L_law 19 = .ok (.iconst 0, 1) := by decide +kernel
theorem d_L_law_20 : decode b_L_law 20 = .ok (.invokestatic 32, 3) := by decide +kernel
theorem d_L_law_23 : decode b_L_law 23 = .ok (.i2l, 1) := by decide +kernel
theorem d_L_law_24 : decode b_L_law 24 = .ok (.invokespecial 43, 3) := by decide +kernel
theorem d_L_law_27 : decode b_L_law 27 = .ok (.astore_n 2, 1) := by decide +kernel
theorem d_L_law_28 : decode b_L_law 28 = .ok (.iconst 1, 1) := by decide +kernel
theorem d_L_law_29 : decode b_L_law 29 = .ok (.newarray .long, 2) := by decide +kernel
theorem d_L_law_31 : decode b_L_law 31 = .ok (.astore_n 3, 1) := by decide +kernel
theorem d_L_law_32 : decode b_L_law 32 = .ok (.iconst 1, 1) := by decide +kernel
theorem d_L_law_33 : decode b_L_law 33 = .ok (.istore 4, 2) := by decide +kernel
theorem d_L_law_35 : decode b_L_law 35 = .ok (.iload 4, 2) := by decide +kernel
theorem d_L_law_37 : decode b_L_law 37 = .ok (.aload_n 0, 1) := by decide +kernel
theorem d_L_law_38 : decode b_L_law 38 = .ok (.arraylength, 1) := by decide +kernel
theorem d_L_law_39 : decode b_L_law 39 = .ok (.iconst 4, 1) := by decide +kernel
theorem d_L_law_40 : decode b_L_law 40 = .ok (.isub, 1) := by decide +kernel
theorem d_L_law_41 : decode b_L_law 41 = .ok (.if_icmp .gt 565, 3) := by decide +kernel
theorem d_L_law_44 : decode b_L_law 44 = .ok (.aload_n 0, 1) := by decide +kernel
theorem d_L_law_45 : decode b_L_law 45 = .ok (.iload 4, 2) := by decide +kernel
theorem d_L_law_47 : decode b_L_law 47 = .ok (.iaload, 1) := by decide +kernel
theorem d_L_law_48 : decode b_L_law 48 = .ok (.bipush 15, 2) := by decide +kernel
theorem d_L_law_50 : decode b_L_law 50 = .ok (.iand, 1) := by decide +kernel
theorem d_L_law_51 : decode b_L_law 51 = .ok (.tableswitch 549 0 10 #[57, 113, 181, 244, 297, 310, 323, 348, 361, 417, 524], 57) := by decide +kernel
theorem d_L_law_108 : decode b_L_law 108 = .ok (.aload_n 1, 1) := by decide +kernel
theorem d_L_law_109 : decode b_L_law 109 = .ok (.aload_n 0, 1) := by decide +kernel
theorem d_L_law_110 : decode b_L_law 110 = .ok (.iload 4, 2) := by decide +kernel
theorem d_L_law_112 : decode b_L_law 112 = .ok (.iconst 1, 1) := by decide +kernel
theorem d_L_law_113 : decode b_L_law 113 = .ok (.iadd, 1) := by decide +kernel
theorem d_L_law_114 : decode b_L_law 114 = .ok (.iaload, 1) := by decide +kernel
theorem d_L_law_115 : decode b_L_law 115 = .ok (.aload_n 3, 1) := by decide +kernel
theorem d_L_law_116 : decode b_L_law 116 = .ok (.invokestatic 44, 3) := by decide +kernel
theorem d_L_law_119 : decode b_L_law 119 = .ok (.istore 5, 2) := by decide +kernel
theorem d_L_law_121 : decode b_L_law 121 = .ok (.aload_n 2, 1) := by decide +kernel
theorem d_L_law_122 : decode b_L_law 122 = .ok (.aload_n 0, 1) := by decide +kernel
theorem d_L_law_123 : decode b_L_law 123 = .ok (.iload 4, 2) := by decide +kernel
theorem d_L_law_125 : decode b_L_law 125 = .ok (.iconst 1, 1) := by decide +kernel
theorem d_L_law_126 : decode b_L_law 126 = .ok (.iadd, 1) := by decide +kernel
theorem d_L_law_127 : decode b_L_law 127 = .ok (.iaload, 1) := by decide +kernel
theorem d_L_law_128 : decode b_L_law 128 = .ok (.invokevirtual 47, 3) := by decide +kernel
theorem d_L_law_131 : decode b_L_law 131 = .ok (.istore 6, 2) := by decide +kernel
theorem d_L_law_133 : decode b_L_law 133 = .ok (.aload_n 2, 1) := by decide +kernel
theorem d_L_law_134 : decode b_L_law 134 = .ok (.invokevirtual 48, 3) := by decide +kernel
theorem d_L_law_137 : decode b_L_law 137 = .ok (.iload 5, 2) := by decide +kernel
theorem d_L_law_139 : decode b_L_law 139 = .ok (.if_icmp .eq 5, 3) := by decide +kernel
theorem d_L_law_144 : decode b_L_law 144 = .ok (.iload 5, 2) := by decide +kernel
theorem d_L_law_146 : decode b_L_law 146 = .ok (.ifCond .ne 15, 3) := by decide +kernel
theorem d_L_law_149 : decode b_L_law 149 = .ok (.aload_n 3, 1) := by decide +kernel
theorem d_L_law_150 : decode b_L_law 150 = .ok (.iconst 0, 1) := by decide +kernel
theorem d_L_law_151 : decode b_L_law 151 = .ok (.laload, 1) := by decide +kernel
theorem d_L_law_152 : decode b_L_law 152 = .ok (.iload 6, 2) := by decide +kernel
theorem d_L_law_154 : decode b_L_law 154 = .ok (.i2l, 1) := by decide +kernel
theorem d_L_law_155 : decode b_L_law 155 = .ok (.lcmp, 1) := by decide +kernel
theorem d_L_law_156 : decode b_L_law 156 = .ok (.ifCond .eq 5, 3) := by decide +kernel
theorem d_L_law_161 : decode b_L_law 161 = .ok (.goto 439, 3) := by decide +kernel
theorem d_L_law_164 : decode b_L_law 164 = .ok (.aload_n 1, 1) := by decide +kernel
theorem d_L_law_165 : decode b_L_law 165 = .ok (.aload_n 0, 1) := by decide +kernel
theorem d_L_law_166 : decode b_L_law 166 = .ok (.iload 4, 2) := by decide +kernel
theorem d_L_law_168 : decode b_L_law 168 = .ok (.iconst 1, 1) := by decide +kernel
theorem d_L_law_169 : decode b_L_law 169 = .ok (.iadd, 1) := by decide +kernel
theorem d_L_law_170 : decode b_L_law 170 = .ok (.iaload, 1) := by decide +kernel
theorem d_L_law_171 : decode b_L_law 171 = .ok (.aload_n 0, 1) := by decide +kernel
theorem d_L_law_172 : decode b_L_law 172 = .ok (.iload 4, 2) := by decide +kernel
theorem d_L_law_174 : decode b_L_law 174 = .ok (.iconst 2, 1) := by decide +kernel
theorem d_L_law_175 : decode b_L_law 175 = .ok (.iadd, 1) := by decide +kernel
theorem d_L_law_176 : decode b_L_law 176 = .ok (.iaload, 1) := by decide +kernel
theorem d_L_law_177 : decode b_L_law 177 = .ok (.aload_n 3, 1) := by decide +kernel
theorem d_L_law_178 : decode b_L_law 178 = .ok (.invokestatic 52, 3) := by decide +kernel
theorem d_L_law_181 : decode b_L_law 181 = .ok (.istore 5, 2) := by decide +kernel
theorem d_L_law_183 : decode b_L_law 183 = .ok (.aload_n 2, 1) := by decide +kernel
theorem d_L_law_184 : decode b_L_law 184 = .ok (.aload_n 0, 1) := by decide +kernel
theorem d_L_law_185 : decode b_L_law 185 = .ok (.iload 4, 2) := by decide +kernel
theorem d_L_law_187 : decode b_L_law 187 = .ok (.iconst 1, 1) := by decide +kernel
theorem d_L_law_188 : decode b_L_law 188 = .ok (.iadd, 1) := by decide +kernel
theorem d_L_law_189 : decode b_L_law 189 = .ok (.iaload, 1) := by decide +kernel
theorem d_L_law_190 : decode b_L_law 190 = .ok (.aload_n 0, 1) := by decide +kernel
theorem d_L_law_191 : decode b_L_law 191 = .ok (.iload 4, 2) := by decide +kernel
theorem d_L_law_193 : decode b_L_law 193 = .ok (.iconst 2, 1) := by decide +kernel
theorem d_L_law_194 : decode b_L_law 194 = .ok (.iadd, 1) := by decide +kernel
theorem d_L_law_195 : decode b_L_law 195 = .ok (.iaload, 1) := by decide +kernel
theorem d_L_law_196 : decode b_L_law 196 = .ok (.invokevirtual 55, 3) := by decide +kernel
theorem d_L_law_199 : decode b_L_law 199 = .ok (.istore 6, 2) := by decide +kernel
theorem d_L_law_201 : decode b_L_law 201 = .ok (.aload_n 2, 1) := by decide +kernel
theorem d_L_law_202 : decode b_L_law 202 = .ok (.invokevirtual 48, 3) := by decide +kernel
theorem d_L_law_205 : decode b_L_law 205 = .ok (.iload 5, 2) := by decide +kernel
theorem d_L_law_207 : decode b_L_law 207 = .ok (.if_icmp .eq 5, 3) := by decide +kernel
theorem d_L_law_212 : decode b_L_law 212 = .ok (.iload 5, 2) := by decide +kernel
theorem d_L_law_214 : decode b_L_law 214 = .ok (.ifCond .ne 15, 3) := by decide +kernel
theorem d_L_law_217 : decode b_L_law 217 = .ok (.aload_n 3, 1) := by decide +kernel
theorem d_L_law_218 : decode b_L_law 218 = .ok (.iconst 0, 1) := by decide +kernel
theorem d_L_law_219 : decode b_L_law 219 = .ok (.laload, 1) := by decide +kernel
theorem d_L_law_220 : decode b_L_law 220 = .ok (.iload 6, 2) := by decide +kernel
theorem d_L_law_222 : decode b_L_law 222 = .ok (.i2l, 1) := by decide +kernel
theorem d_L_law_223 : decode b_L_law 223 = .ok (.lcmp, 1) := by decide +kernel
theorem d_L_law_224 : decode b_L_law 224 = .ok (.ifCond .eq 5, 3) := by decide +kernel
theorem d_L_law_229 : decode b_L_law 229 = .ok (.goto 371, 3) := by decide +kernel
theorem d_L_law_232 : decode b_L_law 232 = .ok (.aload_n 1, 1) := by decide +kernel
theorem d_L_law_233 : decode b_L_law 233 = .ok (.aload_n 0, 1) := by decide +kernel
theorem d_L_law_234 : decode b_L_law 234 = .ok (.iload 4, 2) := by decide +kernel
theorem d_L_law_236 : decode b_L_law 236 = .ok (.iconst 1, 1) := by decide +kernel
theorem d_L_law_237 : decode b_L_law 237 = .ok (.iadd, 1) := by decide +kernel
theorem d_L_law_238 : decode b_L_law 238 = .ok (.iaload, 1) := by decide +kernel
theorem d_L_law_239 : decode b_L_law 239 = .ok (.aload_n 3, 1) := by decide +kernel
theorem d_L_law_240 : decode b_L_law 240 = .ok (.invokestatic 56, 3) := by decide +kernel
theorem d_L_law_243 : decode b_L_law 243 = .ok (.istore 5, 2) := by decide +kernel
theorem d_L_law_245 : decode b_L_law 245 = .ok (.aload_n 2, 1) := by decide +kernel
theorem d_L_law_246 : decode b_L_law 246 = .ok (.aload_n 0, 1) := by decide +kernel
theorem d_L_law_247 : decode b_L_law 247 = .ok (.iload 4, 2) := by decide +kernel
theorem d_L_law_249 : decode b_L_law 249 = .ok (.iconst 1, 1) := by decide +kernel
theorem d_L_law_250 : decode b_L_law 250 = .ok (.iadd, 1) := by decide +kernel
theorem d_L_law_251 : decode b_L_law 251 = .ok (.iaload, 1) := by decide +kernel
theorem d_L_law_252 : decode b_L_law 252 = .ok (.invokevirtual 58, 3) := by decide +kernel
theorem d_L_law_255 : decode b_L_law 255 = .ok (.istore 6, 2) := by decide +kernel
theorem d_L_law_257 : decode b_L_law 257 = .ok (.aload_n 2, 1) := by decide +kernel
theorem d_L_law_258 : decode b_L_law 258 = .ok (.invokevirtual 48, 3) := by decide +kernel
theorem d_L_law_261 : decode b_L_law 261 = .ok (.iload 5, 2) := by decide +kernel
theorem d_L_law_263 : decode b_L_law 263 = .ok (.if_icmp .eq 5, 3) := by decide +kernel
theorem d_L_law_268 : decode b_L_law 268 = .ok (.iload 5, 2) := by decide +kernel
theorem d_L_law_270 : decode b_L_law 270 = .ok (.ifCond .ne 22, 3) := by decide +kernel
theorem d_L_law_273 : decode b_L_law 273 = .ok (.aload_n 3, 1) := by decide +kernel
theorem d_L_law_274 : decode b_L_law 274 = .ok (.iconst 0, 1) := by decide +kernel
theorem d_L_law_275 : decode b_L_law 275 = .ok (.laload, 1) := by decide +kernel
theorem d_L_law_276 : decode b_L_law 276 = .ok (.iload 6, 2) := by decide +kernel
theorem d_L_law_278 : decode b_L_law 278 = .ok (.ifCond .eq 7, 3) := by decide +kernel
theorem d_L_law_281 : decode b_L_law 281 = .ok (.lconst 1, 1) := by decide +kernel
theorem d_L_law_282 : decode b_L_law 282 = .ok (.goto 4, 3) := by decide +kernel
theorem d_L_law_285 : decode b_L_law 285 = .ok (.lconst 0, 1) := by decide +kernel
theorem d_L_law_286 : decode b_L_law 286 = .ok (.lcmp, 1) := by decide +kernel
theorem d_L_law_287 : decode b_L_law 287 = .ok (.ifCond .eq 5, 3) := by decide +kernel
theorem d_L_law_292 : decode b_L_law 292 = .ok (.goto 308, 3) := by decide +kernel
theorem d_L_law_295 : decode b_L_law 295 = .ok (.aload_n 1, 1) := by decide +kernel
theorem d_L_law_296 : decode b_L_law 296 = .ok (.aload_n 0, 1) := by decide +kernel
theorem d_L_law_297 : decode b_L_law 297 = .ok (.iload 4, 2) := by decide +kernel
theorem d_L_law_299 : decode b_L_law 299 = .ok (.iconst 1, 1) := by decide +kernel
theorem d_L_law_300 : decode b_L_law 300 = .ok (.iadd, 1) := by decide +kernel
theorem d_L_law_301 : decode b_L_law 301 = .ok (.iaload, 1) := by decide +kernel
theorem d_L_law_302 : decode b_L_law 302 = .ok (.aload_n 0, 1) := by decide +kernel
theorem d_L_law_303 : decode b_L_law 303 = .ok (.iload 4, 2) := by decide +kernel
theorem d_L_law_305 : decode b_L_law 305 = .ok (.iconst 2, 1) := by decide +kernel
theorem d_L_law_306 : decode b_L_law 306 = .ok (.iadd, 1) := by decide +kernel
theorem d_L_law_307 : decode b_L_law 307 = .ok (.iaload, 1) := by decide +kernel
theorem d_L_law_308 : decode b_L_law 308 = .ok (.ifCond .eq 7, 3) := by decide +kernel
theorem d_L_law_311 : decode b_L_law 311 = .ok (.iconst 1, 1) := by decide +kernel
theorem d_L_law_312 : decode b_L_law 312 = .ok (.goto 4, 3) := by decide +kernel
theorem d_L_law_315 : decode b_L_law 315 = .ok (.iconst 0, 1) := by decide +kernel
theorem d_L_law_316 : decode b_L_law 316 = .ok (.invokevirtual 59, 3) := by decide +kernel
theorem d_L_law_319 : decode b_L_law 319 = .ok (.aload_n 2, 1) := by decide +kernel
theorem d_L_law_320 : decode b_L_law 320 = .ok (.aload_n 0, 1) := by decide +kernel
theorem d_L_law_321 : decode b_L_law 321 = .ok (.iload 4, 2) := by decide +kernel
theorem d_L_law_323 : decode b_L_law 323 = .ok (.iconst 1, 1) := by decide +kernel
theorem d_L_law_324 : decode b_L_law 324 = .ok (.iadd, 1) := by decide +kernel
theorem d_L_law_325 : decode b_L_law 325 = .ok (.iaload, 1) := by decide +kernel
theorem d_L_law_326 : decode b_L_law 326 = .ok (.aload_n 0, 1) := by decide +kernel
theorem d_L_law_327 : decode b_L_law 327 = .ok (.iload 4, 2) := by decide +kernel
theorem d_L_law_329 : decode b_L_law 329 = .ok (.iconst 2, 1) := by decide +kernel
theorem d_L_law_330 : decode b_L_law 330 = .ok (.iadd, 1) := by decide +kernel
theorem d_L_law_331 : decode b_L_law 331 = .ok (.iaload, 1) := by decide +kernel
theorem d_L_law_332 : decode b_L_law 332 = .ok (.ifCond .eq 7, 3) := by decide +kernel
theorem d_L_law_335 : decode b_L_law 335 = .ok (.iconst 1, 1) := by decide +kernel
theorem d_L_law_336 : decode b_L_law 336 = .ok (.goto 4, 3) := by decide +kernel
theorem d_L_law_339 : decode b_L_law 339 = .ok (.iconst 0, 1) := by decide +kernel
theorem d_L_law_340 : decode b_L_law 340 = .ok (.invokevirtual 63, 3) := by decide +kernel
theorem d_L_law_343 : decode b_L_law 343 = .ok (.if_icmp .eq 257, 3) := by decide +kernel
theorem d_L_law_348 : decode b_L_law 348 = .ok (.aload_n 1, 1) := by decide +kernel
theorem d_L_law_349 : decode b_L_law 349 = .ok (.invokevirtual 64, 3) := by decide +kernel
theorem d_L_law_352 : decode b_L_law 352 = .ok (.aload_n 2, 1) := by decide +kernel
theorem d_L_law_353 : decode b_L_law 353 = .ok (.invokevirtual 67, 3) := by decide +kernel
theorem d_L_law_356 : decode b_L_law 356 = .ok (.if_icmp .eq 244, 3) := by decide +kernel
theorem d_L_law_361 : decode b_L_law 361 = .ok (.aload_n 1, 1) := by decide +kernel
theorem d_L_law_362 : decode b_L_law 362 = .ok (.invokevirtual 68, 3) := by decide +kernel
theorem d_L_law_365 : decode b_L_law 365 = .ok (.aload_n 2, 1) := by decide +kernel
theorem d_L_law_366 : decode b_L_law 366 = .ok (.invokevirtual 71, 3) := by decide +kernel
theorem d_L_law_369 : decode b_L_law 369 = .ok (.if_icmp .eq 231, 3) := by decide +kernel
theorem d_L_law_374 : decode b_L_law 374 = .ok (.aload_n 1, 1) := by decide +kernel
theorem d_L_law_375 : decode b_L_law 375 = .ok (.aload_n 0, 1) := by decide +kernel
theorem d_L_law_376 : decode b_L_law 376 = .ok (.iload 4, 2) := by decide +kernel
theorem d_L_law_378 : decode b_L_law 378 = .ok (.iconst 1, 1) := by decide +kernel
theorem d_L_law_379 : decode b_L_law 379 = .ok (.iadd, 1) := by decide +kernel
theorem d_L_law_380 : decode b_L_law 380 = .ok (.iaload, 1) := by decide +kernel
theorem d_L_law_381 : decode b_L_law 381 = .ok (.invokevirtual 72, 3) := by decide +kernel
theorem d_L_law_384 : decode b_L_law 384 = .ok (.aload_n 2, 1) := by decide +kernel
theorem d_L_law_385 : decode b_L_law 385 = .ok (.aload_n 0, 1) := by decide +kernel
theorem d_L_law_386 : decode b_L_law 386 = .ok (.iload 4, 2) := by decide +kernel
theorem d_L_law_388 : decode b_L_law 388 = .ok (.iconst 1, 1) := by decide +kernel
theorem d_L_law_389 : decode b_L_law 389 = .ok (.iadd, 1) := by decide +kernel
theorem d_L_law_390 : decode b_L_law 390 = .ok (.iaload, 1) := by decide +kernel
theorem d_L_law_391 : decode b_L_law 391 = .ok (.invokevirtual 75, 3) := by decide +kernel
theorem d_L_law_394 : decode b_L_law 394 = .ok (.if_icmp .eq 206, 3) := by decide +kernel
theorem d_L_law_399 : decode b_L_law 399 = .ok (.aload_n 1, 1) := by decide +kernel
theorem d_L_law_400 : decode b_L_law 400 = .ok (.invokevirtual 76, 3) := by decide +kernel
theorem d_L_law_403 : decode b_L_law 403 = .ok (.aload_n 2, 1) := by decide +kernel
theorem d_L_law_404 : decode b_L_law 404 = .ok (.invokevirtual 80, 3) := by decide +kernel
theorem d_L_law_407 : decode b_L_law 407 = .ok (.if_icmp .eq 193, 3) := by decide +kernel
theorem d_L_law_412 : decode b_L_law 412 = .ok (.aload_n 1, 1) := by decide +kernel
theorem d_L_law_413 : decode b_L_law 413 = .ok (.aload_n 0, 1) := by decide +kernel
theorem d_L_law_414 : decode b_L_law 414 = .ok (.iload 4, 2) := by decide +kernel
theorem d_L_law_416 : decode b_L_law 416 = .ok (.iconst 1, 1) := by decide +kernel
theorem d_L_law_417 : decode b_L_law 417 = .ok (.iadd, 1) := by decide +kernel
theorem d_L_law_418 : decode b_L_law 418 = .ok (.iaload, 1) := by decide +kernel
theorem d_L_law_419 : decode b_L_law 419 = .ok (.aload_n 3, 1) := by decide +kernel
theorem d_L_law_420 : decode b_L_law 420 = .ok (.invokestatic 81, 3) := by decide +kernel
theorem d_L_law_423 : decode b_L_law 423 = .ok (.istore 5, 2) := by decide +kernel
theorem d_L_law_425 : decode b_L_law 425 = .ok (.aload_n 2, 1) := by decide +kernel
theorem d_L_law_426 : decode b_L_law 426 = .ok (.aload_n 0, 1) := by decide +kernel
theorem d_L_law_427 : decode b_L_law 427 = .ok (.iload 4, 2) := by decide +kernel
theorem d_L_law_429 : decode b_L_law 429 = .ok (.iconst 1, 1) := by decide +kernel
theorem d_L_law_430 : decode b_L_law 430 = .ok (.iadd, 1) := by decide +kernel
theorem d_L_law_431 : decode b_L_law 431 = .ok (.iaload, 1) := by decide +kernel
theorem d_L_law_432 : decode b_L_law 432 = .ok (.invokevirtual 83, 3) := by decide +kernel
theorem d_L_law_435 : decode b_L_law 435 = .ok (.istore 6, 2) := by decide +kernel
theorem d_L_law_437 : decode b_L_law 437 = .ok (.aload_n 2, 1) := by decide +kernel
theorem d_L_law_438 : decode b_L_law 438 = .ok (.invokevirtual 48, 3) := by decide +kernel
theorem d_L_law_441 : decode b_L_law 441 = .ok (.iload 5, 2) := by decide +kernel
theorem d_L_law_443 : decode b_L_law 443 = .ok (.if_icmp .eq 5, 3) := by decide +kernel
theorem d_L_law_448 : decode b_L_law 448 = .ok (.iload 5, 2) := by decide +kernel
theorem d_L_law_450 : decode b_L_law 450 = .ok (.ifCond .ne 15, 3) := by decide +kernel
theorem d_L_law_453 : decode b_L_law 453 = .ok (.aload_n 3, 1) := by decide +kernel
theorem d_L_law_454 : decode b_L_law 454 = .ok (.iconst 0, 1) := by decide +kernel
theorem d_L_law_455 : decode b_L_law 455 = .ok (.laload, 1) := by decide +kernel
theorem d_L_law_456 : decode b_L_law 456 = .ok (.iload 6, 2) := by decide +kernel
theorem d_L_law_458 : decode b_L_law 458 = .ok (.i2l, 1) := by decide +kernel
theorem d_L_law_459 : decode b_L_law 459 = .ok (.lcmp, 1) := by decide +kernel
theorem d_L_law_460 : decode b_L_law 460 = .ok (.ifCond .eq 5, 3) := by decide +kernel
theorem d_L_law_465 : decode b_L_law 465 = .ok (.goto 135, 3) := by decide +kernel
theorem d_L_law_468 : decode b_L_law 468 = .ok (.aload_n 1, 1) := by decide +kernel
theorem d_L_law_469 : decode b_L_law 469 = .ok (.aload_n 0, 1) := by decide +kernel
theorem d_L_law_470 : decode b_L_law 470 = .ok (.iload 4, 2) := by decide +kernel
theorem d_L_law_472 : decode b_L_law 472 = .ok (.iconst 1, 1) := by decide +kernel
theorem d_L_law_473 : decode b_L_law 473 = .ok (.iadd, 1) := by decide +kernel
theorem d_L_law_474 : decode b_L_law 474 = .ok (.iaload, 1) := by decide +kernel
theorem d_L_law_475 : decode b_L_law 475 = .ok (.i2l, 1) := by decide +kernel
theorem d_L_law_476 : decode b_L_law 476 = .ok (.bipush 32, 2) := by decide +kernel
theorem d_L_law_478 : decode b_L_law 478 = .ok (.lshl, 1) := by decide +kernel
theorem d_L_law_479 : decode b_L_law 479 = .ok (.aload_n 0, 1) := by decide +kernel
theorem d_L_law_480 : decode b_L_law 480 = .ok (.iload 4, 2) := by decide +kernel
theorem d_L_law_482 : decode b_L_law 482 = .ok (.iconst 2, 1) := by decide +kernel
theorem d_L_law_483 : decode b_L_law 483 = .ok (.iadd, 1) := by decide +kernel
theorem d_L_law_484 : decode b_L_law 484 = .ok (.iaload, 1) := by decide +kernel
theorem d_L_law_485 : decode b_L_law 485 = .ok (.i2l, 1) := by decide +kernel
theorem d_L_law_486 : decode b_L_law 486 = .ok (.ldc2_w 84, 3) := by decide +kernel
theorem d_L_law_489 : decode b_L_law 489 = .ok (.land, 1) := by decide +kernel
theorem d_L_law_490 : decode b_L_law 490 = .ok (.lor, 1) := by decide +kernel
theorem d_L_law_491 : decode b_L_law 491 = .ok (.aload_n 0, 1) := by decide +kernel
theorem d_L_law_492 : decode b_L_law 492 = .ok (.iload 4, 2) := by decide +kernel
theorem d_L_law_494 : decode b_L_law 494 = .ok (.iconst 3, 1) := by decide +kernel
theorem d_L_law_495 : decode b_L_law 495 = .ok (.iadd, 1) := by decide +kernel
theorem d_L_law_496 : decode b_L_law 496 = .ok (.iaload, 1) := by decide +kernel
theorem d_L_law_497 : decode b_L_law 497 = .ok (.aload_n 3, 1) := by decide +kernel
theorem d_L_law_498 : decode b_L_law 498 = .ok (.invokestatic 86, 3) := by decide +kernel
theorem d_L_law_501 : decode b_L_law 501 = .ok (.istore 5, 2) := by decide +kernel
theorem d_L_law_503 : decode b_L_law 503 = .ok (.aload_n 2, 1) := by decide +kernel
theorem d_L_law_504 : decode b_L_law 504 = .ok (.aload_n 0, 1) := by decide +kernel
theorem d_L_law_505 : decode b_L_law 505 = .ok (.iload 4, 2) := by decide +kernel
theorem d_L_law_507 : decode b_L_law 507 = .ok (.iconst 1, 1) := by decide +kernel
theorem d_L_law_508 : decode b_L_law 508 = .ok (.iadd, 1) := by decide +kernel
theorem d_L_law_509 : decode b_L_law 509 = .ok (.iaload, 1) := by decide +kernel
theorem d_L_law_510 : decode b_L_law 510 = .ok (.i2l, 1) := by decide +kernel
theorem d_L_law_511 : decode b_L_law 511 = .ok (.bipush 32, 2) := by decide +kernel
theorem d_L_law_513 : decode b_L_law 513 = .ok (.lshl, 1) := by decide +kernel
theorem d_L_law_514 : decode b_L_law 514 = .ok (.aload_n 0, 1) := by decide +kernel
theorem d_L_law_515 : decode b_L_law 515 = .ok (.iload 4, 2) := by decide +kernel
theorem d_L_law_517 : decode b_L_law 517 = .ok (.iconst 2, 1) := by decide +kernel
theorem d_L_law_518 : decode b_L_law 518 = .ok (.iadd, 1) := by decide +kernel
theorem d_L_law_519 : decode b_L_law 519 = .ok (.iaload, 1) := by decide +kernel
theorem d_L_law_520 : decode b_L_law 520 = .ok (.i2l, 1) := by decide +kernel
theorem d_L_law_521 : decode b_L_law 521 = .ok (.ldc2_w 84, 3) := by decide +kernel
theorem d_L_law_524 : decode b_L_law 524 = .ok (.land, 1) := by decide +kernel
theorem d_L_law_525 : decode b_L_law 525 = .ok (.lor, 1) := by decide +kernel
theorem d_L_law_526 : decode b_L_law 526 = .ok (.aload_n 0, 1) := by decide +kernel
theorem d_L_law_527 : decode b_L_law 527 = .ok (.iload 4, 2) := by decide +kernel
theorem d_L_law_529 : decode b_L_law 529 = .ok (.iconst 3, 1) := by decide +kernel
theorem d_L_law_530 : decode b_L_law 530 = .ok (.iadd, 1) := by decide +kernel
theorem d_L_law_531 : decode b_L_law 531 = .ok (.iaload, 1) := by decide +kernel
theorem d_L_law_532 : decode b_L_law 532 = .ok (.invokevirtual 89, 3) := by decide +kernel
theorem d_L_law_535 : decode b_L_law 535 = .ok (.istore 6, 2) := by decide +kernel
theorem d_L_law_537 : decode b_L_law 537 = .ok (.aload_n 2, 1) := by decide +kernel
theorem d_L_law_538 : decode b_L_law 538 = .ok (.invokevirtual 48, 3) := by decide +kernel
theorem d_L_law_541 : decode b_L_law 541 = .ok (.iload 5, 2) := by decide +kernel
theorem d_L_law_543 : decode b_L_law 543 = .ok (.if_icmp .eq 5, 3) := by decide +kernel
theorem d_L_law_548 : decode b_L_law 548 = .ok (.iload 5, 2) := by decide +kernel
theorem d_L_law_550 : decode b_L_law 550 = .ok (.ifCond .ne 22, 3) := by decide +kernel
theorem d_L_law_553 : decode b_L_law 553 = .ok (.aload_n 3, 1) := by decide +kernel
theorem d_L_law_554 : decode b_L_law 554 = .ok (.iconst 0, 1) := by decide +kernel
theorem d_L_law_555 : decode b_L_law 555 = .ok (.laload, 1) := by decide +kernel
theorem d_L_law_556 : decode b_L_law 556 = .ok (.iload 6, 2) := by decide +kernel
theorem d_L_law_558 : decode b_L_law 558 = .ok (.ifCond .eq 7, 3) := by decide +kernel
theorem d_L_law_561 : decode b_L_law 561 = .ok (.lconst 1, 1) := by decide +kernel
theorem d_L_law_562 : decode b_L_law 562 = .ok (.goto 4, 3) := by decide +kernel
theorem d_L_law_565 : decode b_L_law 565 = .ok (.lconst 0, 1) := by decide +kernel
theorem d_L_law_566 : decode b_L_law 566 = .ok (.lcmp, 1) := by decide +kernel
theorem d_L_law_567 : decode b_L_law 567 = .ok (.ifCond .eq 5, 3) := by decide +kernel
theorem d_L_law_572 : decode b_L_law 572 = .ok (.goto 28, 3) := by decide +kernel
theorem d_L_law_575 : decode b_L_law 575 = .ok (.aload_n 1, 1) := by decide +kernel
theorem d_L_law_576 : decode b_L_law 576 = .ok (.aload_n 0, 1) := by decide +kernel
theorem d_L_law_577 : decode b_L_law 577 = .ok (.iload 4, 2) := by decide +kernel
theorem d_L_law_579 : decode b_L_law 579 = .ok (.iconst 1, 1) := by decide +kernel
theorem d_L_law_580 : decode b_L_law 580 = .ok (.iadd, 1) := by decide +kernel
theorem d_L_law_581 : decode b_L_law 581 = .ok (.iaload, 1) := by decide +kernel
theorem d_L_law_582 : decode b_L_law 582 = .ok (.invokevirtual 90, 3) := by decide +kernel
theorem d_L_law_585 : decode b_L_law 585 = .ok (.aload_n 2, 1) := by decide +kernel
theorem d_L_law_586 : decode b_L_law 586 = .ok (.aload_n 0, 1) := by decide +kernel
theorem d_L_law_587 : decode b_L_law 587 = .ok (.iload 4, 2) := by decide +kernel
theorem d_L_law_589 : decode b_L_law 589 = .ok (.iconst 1, 1) := by decide +kernel
theorem d_L_law_590 : decode b_L_law 590 = .ok (.iadd, 1) := by decide +kernel
theorem d_L_law_591 : decode b_L_law 591 = .ok (.iaload, 1) := by decide +kernel
theorem d_L_law_592 : decode b_L_law 592 = .ok (.invokevirtual 93, 3) := by decide +kernel
theorem d_L_law_595 : decode b_L_law 595 = .ok (.if_icmp .eq 5, 3) := by decide +kernel
theorem d_L_law_600 : decode b_L_law 600 = .ok (.iinc 4 4, 3) := by decide +kernel
theorem d_L_law_603 : decode b_L_law 603 = .ok (.goto (-568), 3) := by decide +kernel
theorem d_L_law_606 : decode b_L_law 606 = .ok (.iconst 1, 1) := by decide +kernel
theorem d_L_law_607 : decode b_L_law 607 = .ok (.ireturn, 1) := by decide +kernel
theorem d_L_cell_0 : decode b_L_cell 0 = .ok (.iload_n 1, 1) := by decide +kernel
theorem d_L_cell_1 : decode b_L_cell 1 = .ok (.aload_n 0, 1) := by decide +kernel
theorem d_L_cell_2 : decode b_L_cell 2 = .ok (.arraylength, 1) := by decide +kernel
theorem d_L_cell_3 : decode b_L_cell 3 = .ok (.if_icmp .ge 9, 3) := by decide +kernel
theorem d_L_cell_6 : decode b_L_cell 6 = .ok (.aload_n 0, 1) := by decide +kernel
theorem d_L_cell_7 : decode b_L_cell 7 = .ok (.iload_n 1, 1) := by decide +kernel
theorem d_L_cell_8 : decode b_L_cell 8 = .ok (.iaload, 1) := by decide +kernel
theorem d_L_cell_9 : decode b_L_cell 9 = .ok (.goto 4, 3) := by decide +kernel
theorem d_L_cell_12 : decode b_L_cell 12 = .ok (.iconst 0, 1) := by decide +kernel
theorem d_L_cell_13 : decode b_L_cell 13 = .ok (.ireturn, 1) := by decide +kernel
def cel (L : Nat) (xs : Nat → Int32) : Int32 := if 0 < L then xs 0 else nI 0
abbrev cx_P (b L : Nat) (xs : Nat → Int32) : Array Value → State → Prop := va_Pc [.ref b, .int (nI 0)] (fun U => va_X b L xs U U.heap ∧ b < U.heap.size)
theorem cx_S {b L : Nat} {xs : Nat → Int32} {s : State} {H : Heap} {locs : List Loc} {A : Nat → Prop} (hX : va_X b L xs s s.heap) (hbl : b < s.heap.size) (hbA : ¬ A b) (hS : va_S A s.heap H locs) : PreS s H (cx_P b L xs) [.ref b, .int (nI 0)] := by
  refine ⟨fun a U g mk q => ?_, fun U hU hW => ⟨rfl, ?_, ?_⟩⟩
  · obtain ⟨q0, q1, q2⟩ := q
    exact ⟨q0, va_X.moved (u := U) (U := U.calling g mk a) (Vm.Alike.refl U.vm) q1, q2⟩
  · rw [hU]
    obtain ⟨scr, h1, h2, h3, h4, h5⟩ := hX
    exact va_X.moved hW.alike ⟨scr, (hS.2.1 b hbl hbA).trans h1, h2, h3, h4, h5⟩
  · rw [hU]
    exact Nat.lt_of_lt_of_le hbl hS.1
set_option maxHeartbeats 4000000 in
set_option maxRecDepth 100000 in
/-- the law: cell(script, 0) -/
theorem c_L_cell (l : Launch) (b L : Nat) (xs : Nat → Int32) (hL : L ≤ 2049) : Met l y_L_cell w_L_cell ({ frames := 0, cells := 0, slots := 0, locals := 0 }) (cx_P b L xs) (vp_Si (fun r => r = cel L xs)) 0 0 (fun _ => False) := by
  refine Met.ofW (cc := b_L_cell) (maxL := 2) (ret := (some .int)) (by decide) rfl ?_
  intro p e s m args below meth c s₁ B0 hml hv0
  obtain ⟨rfl, hX, hbl⟩ := hv0
  have hx := B0.exec
  have hb := B0.bytes
  have hr := B0.returns
  have hlocks := B0.notSynchronized
  have hS : va_S (fun _ : Nat => False) s.heap s.heap [] := va_S.rf
  have hbA : ¬ (fun _ : Nat => False) b := id
  have hl := lv_entry ([.ref b, .int (nI 0)]) (n := 2) (Nat.le_of_ble_eq_true rfl)
  rw [lg_entry_eq]
  generalize (lg_sl ([.ref b, .int (nI 0)]) ++ List.replicate (2 - (lg_sl ([.ref b, .int (nI 0)])).length) Slot.unset).toArray = ls at hl ⊢
  have hl : lv_has ls 2 [(0, .ref b), (1, .int (nI 0))] := hl
  refine lv_iload_n hx hb d_L_cell_0 rfl (lv_at hl 1 rfl) ?_
  refine lv_aload_n hx hb d_L_cell_1 rfl (lv_at hl 0 rfl) ?_
  refine va_slen hx hb hX hbl hbA hS d_L_cell_2 ?_
  refine lv_icmp_ge (tgt := 12) hx hb d_L_cell_3 (by decide) (fun c_3 => ?_) (fun c_3 => ?_)
  · have c_3 : L ≤ 0 := (nI_leI (a := L) (b := 0) (by omega) (by decide)).mp c_3
    refine lv_iconst (v := nI 0) hx hb d_L_cell_12 (by decide +kernel) ?_
    exact W.iret (v := nI 0) hx hb hr (fun t ht hW => ⟨nI 0, rfl, (if_neg (by omega)).symm, ht⟩) (fun _ h => nomatch h) d_L_cell_13
  · have c_3 : ¬ L ≤ 0 := fun h => c_3 ((nI_leI (a := L) (b := 0) (by omega) (by decide)).mpr h)
    refine lv_aload_n hx hb d_L_cell_6 rfl (lv_at hl 0 rfl) ?_
    refine lv_iload_n hx hb d_L_cell_7 rfl (lv_at hl 1 rfl) ?_
    refine va_sld hx hb hX hbl hbA hS (vp_in_nI (by omega) (by omega)) d_L_cell_8 ?_
    refine lv_topi (fun w ew => ?_)
    rw [nI_clamp (by decide)] at ew
    have ew := ew.symm
    subst ew
    refine lv_goto (tgt := 13) hx hb d_L_cell_9 (by decide) ?_
    exact W.iret (v := xs 0) hx hb hr (fun t ht hW => ⟨xs 0, rfl, (if_pos (by omega)).symm, ht⟩) (fun _ h => nomatch h) d_L_cell_13
