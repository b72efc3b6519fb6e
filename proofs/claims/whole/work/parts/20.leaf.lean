theorem m_107 : (Jvm.Cond.constantLong "java/lang/Long" (314 : Nat) (6148914691236517205 : Int64)) ∈ tblG := m_t (i := 107) rfl rfl
theorem m_108 : (Jvm.Cond.constantLong "java/lang/Long" (316 : Nat) (3689348814741910323 : Int64)) ∈ tblG := m_t (i := 108) rfl rfl
theorem m_109 : (Jvm.Cond.constantLong "java/lang/Long" (318 : Nat) (1085102592571150095 : Int64)) ∈ tblG := m_t (i := 109) rfl rfl
theorem m_30 : (Jvm.Cond.methodLink "PortDrawer$Tape" (3 : Nat) ({ cls := "java/lang/Object", name := "<init>", desc := "()V" } : Jvm.MethodName)) ∈ tblG := m_t (i := 30) rfl rfl
theorem m_17 : (Jvm.Cond.instanceMethod ({ cls := "java/lang/Object", name := "<init>", desc := "()V" } : Jvm.MethodName)) ∈ tblG := m_t (i := 17) rfl rfl
theorem m_18 : (Jvm.Cond.code ({ cls := "java/lang/Object", name := "<init>", desc := "()V" } : Jvm.MethodName) object_method_1_code (1 : Nat) (Option.none : Option Jvm.ClassFile.FieldType)) ∈ tblG := m_t (i := 18) rfl rfl
theorem m_31 : (Jvm.Cond.fieldLink "PortDrawer$Tape" (9 : Nat) "PortDrawer$Tape" "x" "J") ∈ tblG := m_t (i := 31) rfl rfl
theorem m_243 : (Jvm.Cond.constantLong "PortDrawer$Tape" (15 : Nat) (6364136223846793005 : Int64)) ∈ tblG := m_t (i := 243) rfl rfl
theorem m_244 : (Jvm.Cond.constantLong "PortDrawer$Tape" (17 : Nat) (1442695040888963407 : Int64)) ∈ tblG := m_t (i := 244) rfl rfl
theorem d_J_bitCount_0 : decode b_J_bitCount 0 = .ok (.lload_n 0, 1) := by decide +kernel
theorem d_J_bitCount_1 : decode b_J_bitCount 1 = .ok (.lload_n 0, 1) := by decide +kernel
theorem d_J_bitCount_2 : decode b_J_bitCount 2 = .ok (.iconst 1, 1) := by decide +kernel
theorem d_J_bitCount_3 : decode b_J_bitCount 3 = .ok (.lushr, 1) := by decide +kernel
theorem d_J_bitCount_4 : decode b_J_bitCount 4 = .ok (.ldc2_w 314, 3) := by decide +kernel
theorem d_J_bitCount_7 : decode b_J_bitCount 7 = .ok (.land, 1) := by decide +kernel
theorem d_J_bitCount_8 : decode b_J_bitCount 8 = .ok (.lsub, 1) := by decide +kernel
theorem d_J_bitCount_9 : decode b_J_bitCount 9 = .ok (.lstore_n 0, 1) := by decide +kernel
theorem d_J_bitCount_10 : decode b_J_bitCount 10 = .ok (.lload_n 0, 1) := by decide +kernel
theorem d_J_bitCount_11 : decode b_J_bitCount 11 = .ok (.ldc2_w 316, 3) := by decide +kernel
theorem d_J_bitCount_14 : decode b_J_bitCount 14 = .ok (.land, 1) := by decide +kernel
theorem d_J_bitCount_15 : decode b_J_bitCount 15 = .ok (.lload_n 0, 1) := by decide +kernel
theorem d_J_bitCount_16 : decode b_J_bitCount 16 = .ok (.iconst 2, 1) := by decide +kernel
theorem d_J_bitCount_17 : decode b_J_bitCount 17 = .ok (.lushr, 1) := by decide +kernel
theorem d_J_bitCount_18 : decode b_J_bitCount 18 = .ok (.ldc2_w 316, 3) := by decide +kernel
theorem d_J_bitCount_21 : decode b_J_bitCount 21 = .ok (.land, 1) := by decide +kernel
theorem d_J_bitCount_22 : decode b_J_bitCount 22 = .ok (.ladd, 1) := by decide +kernel
theorem d_J_bitCount_23 : decode b_J_bitCount 23 = .ok (.lstore_n 0, 1) := by decide +kernel
theorem d_J_bitCount_24 : decode b_J_bitCount 24 = .ok (.lload_n 0, 1) := by decide +kernel
theorem d_J_bitCount_25 : decode b_J_bitCount 25 = .ok (.lload_n 0, 1) := by decide +kernel
theorem d_J_bitCount_26 : decode b_J_bitCount 26 = .ok (.iconst 4, 1) := by decide +kernel
theorem d_J_bitCount_27 : decode b_J_bitCount 27 = .ok (.lushr, 1) := by decide +kernel
theorem d_J_bitCount_28 : decode b_J_bitCount 28 = .ok (.ladd, 1) := by decide +kernel
theorem d_J_bitCount_29 : decode b_J_bitCount 29 = .ok (.ldc2_w 318, 3) := by decide +kernel
theorem d_J_bitCount_32 : decode b_J_bitCount 32 = .ok (.land, 1) := by decide +kernel
theorem d_J_bitCount_33 : decode b_J_bitCount 33 = .ok (.lstore_n 0, 1) := by decide +kernel
theorem d_J_bitCount_34 : decode b_J_bitCount 34 = .ok (.lload_n 0, 1) := by decide +kernel
theorem d_J_bitCount_35 : decode b_J_bitCount 35 = .ok (.lload_n 0, 1) := by decide +kernel
theorem d_J_bitCount_36 : decode b_J_bitCount 36 = .ok (.bipush 8, 2) := by decide +kernel
theorem d_J_bitCount_38 : decode b_J_bitCount 38 = .ok (.lushr, 1) := by decide +kernel
theorem d_J_bitCount_39 : decode b_J_bitCount 39 = .ok (.ladd, 1) := by decide +kernel
theorem d_J_bitCount_40 : decode b_J_bitCount 40 = .ok (.lstore_n 0, 1) := by decide +kernel
theorem d_J_bitCount_41 : decode b_J_bitCount 41 = .ok (.lload_n 0, 1) := by decide +kernel
theorem d_J_bitCount_42 : decode b_J_bitCount 42 = .ok (.lload_n 0, 1) := by decide +kernel
theorem d_J_bitCount_43 : decode b_J_bitCount 43 = .ok (.bipush 16, 2) := by decide +kernel
theorem d_J_bitCount_45 : decode b_J_bitCount 45 = .ok (.lushr, 1) := by decide +kernel
theorem d_J_bitCount_46 : decode b_J_bitCount 46 = .ok (.ladd, 1) := by decide +kernel
theorem d_J_bitCount_47 : decode b_J_bitCount 47 = .ok (.lstore_n 0, 1) := by decide +kernel
theorem d_J_bitCount_48 : decode b_J_bitCount 48 = .ok (.lload_n 0, 1) := by decide +kernel
theorem d_J_bitCount_49 : decode b_J_bitCount 49 = .ok (.lload_n 0, 1) := by decide +kernel
theorem d_J_bitCount_50 : decode b_J_bitCount 50 = .ok (.bipush 32, 2) := by decide +kernel
theorem d_J_bitCount_52 : decode b_J_bitCount 52 = .ok (.lushr, 1) := by decide +kernel
theorem d_J_bitCount_53 : decode b_J_bitCount 53 = .ok (.ladd, 1) := by decide +kernel
theorem d_J_bitCount_54 : decode b_J_bitCount 54 = .ok (.lstore_n 0, 1) := by decide +kernel
theorem d_J_bitCount_55 : decode b_J_bitCount 55 = .ok (.lload_n 0, 1) := by decide +kernel
theorem d_J_bitCount_56 : decode b_J_bitCount 56 = .ok (.l2i, 1) := by decide +kernel
theorem d_J_bitCount_57 : decode b_J_bitCount 57 = .ok (.bipush 127, 2) := by decide +kernel
theorem d_J_bitCount_59 : decode b_J_bitCount 59 = .ok (.iand, 1) := by decide +kernel
theorem d_J_bitCount_60 : decode b_J_bitCount 60 = .ok (.ireturn, 1) := by decide +kernel
theorem d_T_init_0 : decode b_T_init 0 = .ok (.aload_n 0, 1) := by decide +kernel
theorem d_T_init_1 : decode b_T_init 1 = .ok (.invokespecial 3, 3) := by decide +kernel
theorem d_T_init_4 : decode b_T_init 4 = .ok (.aload_n 0, 1) := by decide +kernel
theorem d_T_init_5 : decode b_T_init 5 = .ok (.lconst 0, 1) := by decide +kernel
theorem d_T_init_6 : decode b_T_init 6 = .ok (.putfield 9, 3) := by decide +kernel
theorem d_T_init_9 : decode b_T_init 9 = .ok (.return_, 1) := by decide +kernel
theorem d_T_rewind_0 : decode b_T_rewind 0 = .ok (.aload_n 0, 1) := by decide +kernel
theorem d_T_rewind_1 : decode b_T_rewind 1 = .ok (.lload_n 1, 1) := by decide +kernel
theorem d_T_rewind_2 : decode b_T_rewind 2 = .ok (.putfield 9, 3) := by decide +kernel
theorem d_T_rewind_5 : decode b_T_rewind 5 = .ok (.return_, 1) := by decide +kernel
theorem d_T_numberBelow_0 : decode b_T_numberBelow 0 = .ok (.iload_n 1, 1) := by decide +kernel
theorem d_T_numberBelow_1 : decode b_T_numberBelow 1 = .ok (.iconst 1, 1) := by decide +kernel
theorem d_T_numberBelow_2 : decode b_T_numberBelow 2 = .ok (.if_icmp .ge 5, 3) := by decide +kernel
theorem d_T_numberBelow_5 : decode b_T_numberBelow 5 = .ok (.iconst (-1), 1) := by decide +kernel
theorem d_T_numberBelow_6 : decode b_T_numberBelow 6 = .ok (.ireturn, 1) := by decide +kernel
theorem d_T_numberBelow_7 : decode b_T_numberBelow 7 = .ok (.aload_n 0, 1) := by decide +kernel
theorem d_T_numberBelow_8 : decode b_T_numberBelow 8 = .ok (.aload_n 0, 1) := by decide +kernel
theorem d_T_numberBelow_9 : decode b_T_numberBelow 9 = .ok (.getfield 9, 3) := by decide +kernel
theorem d_T_numberBelow_12 : decode b_T_numberBelow 12 = .ok (.ldc2_w 15, 3) := by decide +kernel
theorem d_T_numberBelow_15 : decode b_T_numberBelow 15 = .ok (.lmul, 1) := by decide +kernel
theorem d_T_numberBelow_16 : decode b_T_numberBelow 16 = .ok (.ldc2_w 17, 3) := by decide +kernel
theorem d_T_numberBelow_19 : decode b_T_numberBelow 19 = .ok (.ladd, 1) := by decide +kernel
theorem d_T_numberBelow_20 : decode b_T_numberBelow 20 = .ok (.putfield 9, 3) := by decide +kernel
theorem d_T_numberBelow_23 : decode b_T_numberBelow 23 = .ok (.aload_n 0, 1) := by decide +kernel
theorem d_T_numberBelow_24 : decode b_T_numberBelow 24 = .ok (.getfield 9, 3) := by decide +kernel
theorem d_T_numberBelow_27 : decode b_T_numberBelow 27 = .ok (.bipush 33, 2) := by decide +kernel
theorem d_T_numberBelow_29 : decode b_T_numberBelow 29 = .ok (.lushr, 1) := by decide +kernel
theorem d_T_numberBelow_30 : decode b_T_numberBelow 30 = .ok (.l2i, 1) := by decide +kernel
theorem d_T_numberBelow_31 : decode b_T_numberBelow 31 = .ok (.iload_n 1, 1) := by decide +kernel
theorem d_T_numberBelow_32 : decode b_T_numberBelow 32 = .ok (.irem, 1) := by decide +kernel
theorem d_T_numberBelow_33 : decode b_T_numberBelow 33 = .ok (.ireturn, 1) := by decide +kernel
theorem d_D_mayRefer_0 : decode b_D_mayRefer 0 = .ok (.iload_n 0, 1) := by decide +kernel
theorem d_D_mayRefer_1 : decode b_D_mayRefer 1 = .ok (.tableswitch 97 1 6 #[39, 97, 39, 49, 60, 81], 39) := by decide +kernel
theorem d_D_mayRefer_40 : decode b_D_mayRefer 40 = .ok (.iload_n 1, 1) := by decide +kernel
theorem d_D_mayRefer_41 : decode b_D_mayRefer 41 = .ok (.ifCond .ne 7, 3) := by decide +kernel
theorem d_D_mayRefer_44 : decode b_D_mayRefer 44 = .ok (.iconst 1, 1) := by decide +kernel
theorem d_D_mayRefer_45 : decode b_D_mayRefer 45 = .ok (.goto 4, 3) := by decide +kernel
theorem d_D_mayRefer_48 : decode b_D_mayRefer 48 = .ok (.iconst 0, 1) := by decide +kernel
theorem d_D_mayRefer_49 : decode b_D_mayRefer 49 = .ok (.ireturn, 1) := by decide +kernel
theorem d_D_mayRefer_50 : decode b_D_mayRefer 50 = .ok (.iload_n 1, 1) := by decide +kernel
theorem d_D_mayRefer_51 : decode b_D_mayRefer 51 = .ok (.iconst 2, 1) := by decide +kernel
theorem d_D_mayRefer_52 : decode b_D_mayRefer 52 = .ok (.if_icmp .ne 7, 3) := by decide +kernel
theorem d_D_mayRefer_55 : decode b_D_mayRefer 55 = .ok (.iconst 1, 1) := by decide +kernel
theorem d_D_mayRefer_56 : decode b_D_mayRefer 56 = .ok (.goto 4, 3) := by decide +kernel
theorem d_D_mayRefer_59 : decode b_D_mayRefer 59 = .ok (.iconst 0, 1) := by decide +kernel
theorem d_D_mayRefer_60 : decode b_D_mayRefer 60 = .ok (.ireturn, 1) := by decide +kernel
theorem d_D_mayRefer_61 : decode b_D_mayRefer 61 = .ok (.iload_n 1, 1) := by decide +kernel
theorem d_D_mayRefer_62 : decode b_D_mayRefer 62 = .ok (.iconst 1, 1) := by decide +kernel
theorem d_D_mayRefer_63 : decode b_D_mayRefer 63 = .ok (.if_icmp .eq 13, 3) := by decide +kernel
theorem d_D_mayRefer_66 : decode b_D_mayRefer 66 = .ok (.iload_n 1, 1) := by decide +kernel
theorem d_D_mayRefer_67 : decode b_D_mayRefer 67 = .ok (.iconst 3, 1) := by decide +kernel
theorem d_D_mayRefer_68 : decode b_D_mayRefer 68 = .ok (.if_icmp .eq 8, 3) := by decide +kernel
theorem d_D_mayRefer_71 : decode b_D_mayRefer 71 = .ok (.iload_n 1, 1) := by decide +kernel
theorem d_D_mayRefer_72 : decode b_D_mayRefer 72 = .ok (.iconst 4, 1) := by decide +kernel
theorem d_D_mayRefer_73 : decode b_D_mayRefer 73 = .ok (.if_icmp .ne 7, 3) := by decide +kernel
theorem d_D_mayRefer_76 : decode b_D_mayRefer 76 = .ok (.iconst 1, 1) := by decide +kernel
theorem d_D_mayRefer_77 : decode b_D_mayRefer 77 = .ok (.goto 4, 3) := by decide +kernel
theorem d_D_mayRefer_80 : decode b_D_mayRefer 80 = .ok (.iconst 0, 1) := by decide +kernel
theorem d_D_mayRefer_81 : decode b_D_mayRefer 81 = .ok (.ireturn, 1) := by decide +kernel
theorem d_D_mayRefer_82 : decode b_D_mayRefer 82 = .ok (.iload_n 1, 1) := by decide +kernel
theorem d_D_mayRefer_83 : decode b_D_mayRefer 83 = .ok (.iconst 4, 1) := by decide +kernel
theorem d_D_mayRefer_84 : decode b_D_mayRefer 84 = .ok (.if_icmp .eq 8, 3) := by decide +kernel
theorem d_D_mayRefer_87 : decode b_D_mayRefer 87 = .ok (.iload_n 1, 1) := by decide +kernel
theorem d_D_mayRefer_88 : decode b_D_mayRefer 88 = .ok (.iconst 5, 1) := by decide +kernel
theorem d_D_mayRefer_89 : decode b_D_mayRefer 89 = .ok (.if_icmp .ne 7, 3) := by decide +kernel
theorem d_D_mayRefer_92 : decode b_D_mayRefer 92 = .ok (.iconst 1, 1) := by decide +kernel
theorem d_D_mayRefer_93 : decode b_D_mayRefer 93 = .ok (.goto 4, 3) := by decide +kernel
theorem d_D_mayRefer_96 : decode b_D_mayRefer 96 = .ok (.iconst 0, 1) := by decide +kernel
theorem d_D_mayRefer_97 : decode b_D_mayRefer 97 = .ok (.ireturn, 1) := by decide +kernel
theorem d_D_mayRefer_98 : decode b_D_mayRefer 98 = .ok (.iconst 0, 1) := by decide +kernel
theorem d_D_mayRefer_99 : decode b_D_mayRefer 99 = .ok (.ireturn, 1) := by decide +kernel
theorem d_D_isIn_0 : decode b_D_isIn 0 = .ok (.lload_n 0, 1) := by decide +kernel
theorem d_D_isIn_1 : decode b_D_isIn 1 = .ok (.iload_n 2, 1) := by decide +kernel
theorem d_D_isIn_2 : decode b_D_isIn 2 = .ok (.lushr, 1) := by decide +kernel
theorem d_D_isIn_3 : decode b_D_isIn 3 = .ok (.lconst 1, 1) := by decide +kernel
theorem d_D_isIn_4 : decode b_D_isIn 4 = .ok (.land, 1) := by decide +kernel
theorem d_D_isIn_5 : decode b_D_isIn 5 = .ok (.lconst 0, 1) := by decide +kernel
theorem d_D_isIn_6 : decode b_D_isIn 6 = .ok (.lcmp, 1) := by decide +kernel
theorem d_D_isIn_7 : decode b_D_isIn 7 = .ok (.ifCond .eq 7, 3) := by decide +kernel
theorem d_D_isIn_10 : decode b_D_isIn 10 = .ok (.iconst 1, 1) := by decide +kernel
theorem d_D_isIn_11 : decode b_D_isIn 11 = .ok (.goto 4, 3) := by decide +kernel
theorem d_D_isIn_14 : decode b_D_isIn 14 = .ok (.iconst 0, 1) := by decide +kernel
theorem d_D_isIn_15 : decode b_D_isIn 15 = .ok (.ireturn, 1) := by decide +kernel
theorem d_D_isSize_0 : decode b_D_isSize 0 = .ok (.iload_n 0, 1) := by decide +kernel
theorem d_D_isSize_1 : decode b_D_isSize 1 = .ok (.ifCond .lt 13, 3) := by decide +kernel
theorem d_D_isSize_4 : decode b_D_isSize 4 = .ok (.iload_n 0, 1) := by decide +kernel
theorem d_D_isSize_5 : decode b_D_isSize 5 = .ok (.bipush 40, 2) := by decide +kernel
theorem d_D_isSize_7 : decode b_D_isSize 7 = .ok (.if_icmp .gt 7, 3) := by decide +kernel
theorem d_D_isSize_10 : decode b_D_isSize 10 = .ok (.iconst 1, 1) := by decide +kernel
theorem d_D_isSize_11 : decode b_D_isSize 11 = .ok (.goto 4, 3) := by decide +kernel
theorem d_D_isSize_14 : decode b_D_isSize 14 = .ok (.iconst 0, 1) := by decide +kernel
theorem d_D_isSize_15 : decode b_D_isSize 15 = .ok (.ireturn, 1) := by decide +kernel
set_option maxHeartbeats 4000000 in
set_option maxRecDepth 100000 in
/-- Long.bitCount: how many bits -/
theorem c_J_bitCount (l : Launch) (dC : Nat → ClassId) (dI : Nat → Nat → Nat) (x : Int64)  : Met l y_J_bitCount w_J_bitCount ({ frames := 0, cells := 0, slots := 0, locals := 0 }) (ro_P dC dI [.long x] [] []) (vp_Si (fun r => r = nI (cnt (wbit x) 64))) 0 0 (fun _ => False) := by
  refine Met.ofW (cc := b_J_bitCount) (maxL := 2) (ret := (Option.some Jvm.ClassFile.FieldType.int)) (by decide) rfl ?_
  intro p e s m args below meth c s₁ B0 hml hv0
  obtain ⟨rfl, hP, hK, hN⟩ := hv0
  have hx := B0.exec
  have hb := B0.bytes
  have hr := B0.returns
  have hts := atoms_spec (ws := w_J_bitCount) B0.pre
  have hown : s.vm.findClass R_J = some m.cls := findClass_of_methodNamed B0.named
  have hlocks := B0.notSynchronized
  have hP : va_P (dC, dI) classes [] s.heap := hP
  have hl := lv_entry ([.long x]) (n := 2) (Nat.le_of_ble_eq_true rfl)
  rw [lg_entry_eq]
  generalize (lg_sl ([.long x]) ++ List.replicate (2 - (lg_sl ([.long x])).length) Slot.unset).toArray = ls at hl ⊢
  have hl : lv_has ls 2 [(0, .long x)] := hl
  refine lv_lload_n hx hb d_J_bitCount_0 rfl (lv_at hl 0 rfl) ?_
  refine lv_lload_n hx hb d_J_bitCount_1 rfl (lv_at hl 0 rfl) ?_
  refine lv_iconst (v := nI 1) hx hb d_J_bitCount_2 (by decide +kernel) ?_
  refine lv_lushr hx hb d_J_bitCount_3 rfl ?_
  refine lv_ldc2 (v := 6148914691236517205) hx hb hown (hts _ (List.mem_cons_of_mem _ m_107)) d_J_bitCount_4 ?_
  refine lv_land hx hb d_J_bitCount_7 ?_
  refine lv_lsub hx hb d_J_bitCount_8 ?_
  refine lv_topl (fun w_1 ew_1 => ?_)
  have ew_1 : (bc1 x) = w_1 := (ew_1.trans (rfl)).symm
  subst ew_1
  refine lv_lstore_n (lv' := [(0, .long (bc1 x))]) hx hb d_J_bitCount_9 rfl hl (by decide) rfl (fun ls hl => ?_)
  refine lv_lload_n hx hb d_J_bitCount_10 rfl (lv_at hl 0 rfl) ?_
  refine lv_ldc2 (v := 3689348814741910323) hx hb hown (hts _ (List.mem_cons_of_mem _ m_108)) d_J_bitCount_11 ?_
  refine lv_land hx hb d_J_bitCount_14 ?_
  refine lv_lload_n hx hb d_J_bitCount_15 rfl (lv_at hl 0 rfl) ?_
  refine lv_iconst (v := nI 2) hx hb d_J_bitCount_16 (by decide +kernel) ?_
  refine lv_lushr hx hb d_J_bitCount_17 rfl ?_
  refine lv_ldc2 (v := 3689348814741910323) hx hb hown (hts _ (List.mem_cons_of_mem _ m_108)) d_J_bitCount_18 ?_
  refine lv_land hx hb d_J_bitCount_21 ?_
  refine lv_ladd hx hb d_J_bitCount_22 ?_
  refine lv_topl (fun w_2 ew_2 => ?_)
  have ew_2 : (bc2 (bc1 x)) = w_2 := (ew_2.trans (rfl)).symm
  subst ew_2
  refine lv_lstore_n (lv' := [(0, .long (bc2 (bc1 x)))]) hx hb d_J_bitCount_23 rfl hl (by decide) rfl (fun ls hl => ?_)
  refine lv_lload_n hx hb d_J_bitCount_24 rfl (lv_at hl 0 rfl) ?_
  refine lv_lload_n hx hb d_J_bitCount_25 rfl (lv_at hl 0 rfl) ?_
  refine lv_iconst (v := nI 4) hx hb d_J_bitCount_26 (by decide +kernel) ?_
  refine lv_lushr hx hb d_J_bitCount_27 rfl ?_
  refine lv_ladd hx hb d_J_bitCount_28 ?_
  refine lv_ldc2 (v := 1085102592571150095) hx hb hown (hts _ (List.mem_cons_of_mem _ m_109)) d_J_bitCount_29 ?_
  refine lv_land hx hb d_J_bitCount_32 ?_
  refine lv_topl (fun w_3 ew_3 => ?_)
  have ew_3 : (bc3 (bc2 (bc1 x))) = w_3 := (ew_3.trans (rfl)).symm
  subst ew_3
  refine lv_lstore_n (lv' := [(0, .long (bc3 (bc2 (bc1 x))))]) hx hb d_J_bitCount_33 rfl hl (by decide) rfl (fun ls hl => ?_)
  refine lv_lload_n hx hb d_J_bitCount_34 rfl (lv_at hl 0 rfl) ?_
  refine lv_lload_n hx hb d_J_bitCount_35 rfl (lv_at hl 0 rfl) ?_
  refine lv_bipush (v := nI 8) hx hb d_J_bitCount_36 (by decide +kernel) ?_
  refine lv_lushr hx hb d_J_bitCount_38 rfl ?_
  refine lv_ladd hx hb d_J_bitCount_39 ?_
  refine lv_topl (fun w_4 ew_4 => ?_)
  have ew_4 : (bcS 8 (bc3 (bc2 (bc1 x)))) = w_4 := (ew_4.trans (rfl)).symm
  subst ew_4
  refine lv_lstore_n (lv' := [(0, .long (bcS 8 (bc3 (bc2 (bc1 x)))))]) hx hb d_J_bitCount_40 rfl hl (by decide) rfl (fun ls hl => ?_)
  refine lv_lload_n hx hb d_J_bitCount_41 rfl (lv_at hl 0 rfl) ?_
  refine lv_lload_n hx hb d_J_bitCount_42 rfl (lv_at hl 0 rfl) ?_
  refine lv_bipush (v := nI 16) hx hb d_J_bitCount_43 (by decide +kernel) ?_
  refine lv_lushr hx hb d_J_bitCount_45 rfl ?_
  refine lv_ladd hx hb d_J_bitCount_46 ?_
  refine lv_topl (fun w_5 ew_5 => ?_)
  have ew_5 : (bcS 16 (bcS 8 (bc3 (bc2 (bc1 x))))) = w_5 := (ew_5.trans (rfl)).symm
  subst ew_5
  refine lv_lstore_n (lv' := [(0, .long (bcS 16 (bcS 8 (bc3 (bc2 (bc1 x))))))]) hx hb d_J_bitCount_47 rfl hl (by decide) rfl (fun ls hl => ?_)
  refine lv_lload_n hx hb d_J_bitCount_48 rfl (lv_at hl 0 rfl) ?_
  refine lv_lload_n hx hb d_J_bitCount_49 rfl (lv_at hl 0 rfl) ?_
  refine lv_bipush (v := nI 32) hx hb d_J_bitCount_50 (by decide +kernel) ?_
  refine lv_lushr hx hb d_J_bitCount_52 rfl ?_
  refine lv_ladd hx hb d_J_bitCount_53 ?_
  refine lv_topl (fun w_6 ew_6 => ?_)
  have ew_6 : (bcS 32 (bcS 16 (bcS 8 (bc3 (bc2 (bc1 x)))))) = w_6 := (ew_6.trans (rfl)).symm
  subst ew_6
  refine lv_lstore_n (lv' := [(0, .long (bcS 32 (bcS 16 (bcS 8 (bc3 (bc2 (bc1 x)))))))]) hx hb d_J_bitCount_54 rfl hl (by decide) rfl (fun ls hl => ?_)
  refine lv_lload_n hx hb d_J_bitCount_55 rfl (lv_at hl 0 rfl) ?_
  refine lv_l2i hx hb d_J_bitCount_56 rfl ?_
  refine lv_bipush (v := nI 127) hx hb d_J_bitCount_57 (by decide +kernel) ?_
  refine lv_iand hx hb d_J_bitCount_59 ?_
  exact W.iret (v := ((bcS 32 (bcS 16 (bcS 8 (bc3 (bc2 (bc1 x)))))).toInt32) &&& (nI 127)) hx hb hr (fun t ht hW => ⟨((bcS 32 (bcS 16 (bcS 8 (bc3 (bc2 (bc1 x)))))).toInt32) &&& (nI 127), rfl, (bits9 x), ht⟩) (fun _ h => nomatch h) d_J_bitCount_60
set_option maxHeartbeats 4000000 in
set_option maxRecDepth 100000 in
/-- Tape() -/
theorem c_T_init (l : Launch) (dC : Nat → ClassId) (dI : Nat → Nat → Nat) (jt : Nat) (x : Int64)  (sz : Nat) : Met l y_T_init w_T_init ({ frames := 1, cells := 0, slots := 0, locals := 20 }) (wr_P dC dI [.ref jt] [(jt, .inr (0, [.long x]))] [] sz) (va_Qv (fun (_ : Unit) => True) (fun (u : Unit) => wr_B dC dI (va_A [(jt, .inr (0, [.long x]))] sz) [(jt, .inr (0, [.long 0]))] []) (va_A [(jt, .inr (0, [.long x]))] sz)) 0 0 (va_A [(jt, .inr (0, [.long x]))] sz) := by
  refine Met.ofW (cc := b_T_init) (maxL := 1) (ret := (Option.none : Option Jvm.ClassFile.FieldType)) (by decide) rfl ?_
  intro p e s m args below meth c s₁ B0 hml hv0
  obtain ⟨rfl, hsz, hP, hK, hD0, hN⟩ := hv0
  have hx := B0.exec
  have hb := B0.bytes
  have hr := B0.returns
  have hts := atoms_spec (ws := w_T_init) B0.pre
  have hown : s.vm.findClass R_T = some m.cls := findClass_of_methodNamed B0.named
  have hlocks := B0.notSynchronized
  have hin : meth.name = "<init>" := (name_of_methodNamed B0.named B0.method).1
  subst hsz
  have hD := hD0.self (sz := s.heap.size)
  generalize hAe : va_A [(jt, .inr (0, [.long x]))] s.heap.size = A at hD ⊢
  have hA : ∀ q : Nat, s.heap.size ≤ q → A q := fun q h => by rw [← hAe]; exact Or.inr h
  have hS : va_S A s.heap s.heap [] := va_S.rf
  have hP : va_P (dC, dI) classes [(jt, .inr (0, [.long x]))] s.heap := hP
  have hl := lv_entry ([.ref jt]) (n := 1) (Nat.le_of_ble_eq_true rfl)
  rw [lg_entry_eq]
  generalize (lg_sl ([.ref jt]) ++ List.replicate (1 - (lg_sl ([.ref jt])).length) Slot.unset).toArray = ls at hl ⊢
  have hl : lv_has ls 1 [(0, .ref jt)] := hl
  refine lv_aload_n hx hb d_T_init_0 rfl (lv_at hl 0 rfl) ?_
  refine W.objInit hx hb hown (hts _ (List.mem_cons_of_mem _ m_30)) (hts _ (List.mem_cons_of_mem _ m_17)) (hts _ (List.mem_cons_of_mem _ m_18)) rfl (by rw [hml]; exact hl.1) rfl d_T_init_1 (Nat.le_of_ble_eq_true rfl) (Nat.le_of_ble_eq_true rfl) ?_
  refine W.eq (g2 := F0 m 4 ls []) rfl ?_
  refine lv_aload_n hx hb d_T_init_4 rfl (lv_at hl 0 rfl) ?_
  refine lv_lconst (v := 0) hx hb d_T_init_5 (by decide +kernel) ?_
  refine va_put (D := (dC, dI)) (ci := 0) (v := .long 0) (ty := .long) (C := R_T) (T := F_T) (N := 1) hx hb hts (lay_T _) ft_T tok_T nok_T hown hK hP hD hS 0 rfl rfl 0 (by decide) (hts _ (List.mem_cons_of_mem _ m_31)) (fun _ h9 => h9) rfl (by decide +kernel) rfl rfl (Nat.le_of_ble_eq_true rfl) d_T_init_6 (fun H locs hP hD hS => ?_)
  have hP : va_P (dC, dI) classes [(jt, .inr (0, [.long 0]))] H := hP
  have hD : va_D A [(jt, .inr (0, [.long 0]))] := hD
  have hP9 := hP.sub (ws' := [(jt, .inr (0, [.long 0]))]) [0] rfl
  have hD9 := hD.sub (ws' := [(jt, .inr (0, [.long 0]))]) [0] (by decide) rfl
  have hK9 := hK.sub (tys' := []) [] rfl
  exact W.vret hx hb hr (fun t ht hW => ⟨⟨(), rfl, trivial, by rw [ht]; exact hP9, va_K.moved hW.alike hK9, hD9⟩, hS.F ht⟩) hS.2.2 d_T_init_9
set_option maxHeartbeats 4000000 in
set_option maxRecDepth 100000 in
/-- Tape.rewind -/
theorem c_T_rewind (l : Launch) (dC : Nat → ClassId) (dI : Nat → Nat → Nat) (jt : Nat) (x sd : Int64)  (sz : Nat) : Met l y_T_rewind w_T_rewind ({ frames := 0, cells := 0, slots := 0, locals := 0 }) (wr_P dC dI [.ref jt, .long sd] [(jt, .inr (0, [.long x]))] [] sz) (va_Qv (fun (_ : Unit) => True) (fun (u : Unit) => wr_B dC dI (va_A [(jt, .inr (0, [.long x]))] sz) [(jt, .inr (0, [.long sd]))] []) (va_A [(jt, .inr (0, [.long x]))] sz)) 0 0 (va_A [(jt, .inr (0, [.long x]))] sz) := by
  refine Met.ofW (cc := b_T_rewind) (maxL := 3) (ret := (Option.none : Option Jvm.ClassFile.FieldType)) (by decide) rfl ?_
  intro p e s m args below meth c s₁ B0 hml hv0
  obtain ⟨rfl, hsz, hP, hK, hD0, hN⟩ := hv0
  have hx := B0.exec
  have hb := B0.bytes
  have hr := B0.returns
  have hts := atoms_spec (ws := w_T_rewind) B0.pre
  have hown : s.vm.findClass R_T = some m.cls := findClass_of_methodNamed B0.named
  have hlocks := B0.notSynchronized
  subst hsz
  have hD := hD0.self (sz := s.heap.size)
  generalize hAe : va_A [(jt, .inr (0, [.long x]))] s.heap.size = A at hD ⊢
  have hA : ∀ q : Nat, s.heap.size ≤ q → A q := fun q h => by rw [← hAe]; exact Or.inr h
  have hS : va_S A s.heap s.heap [] := va_S.rf
  have hP : va_P (dC, dI) classes [(jt, .inr (0, [.long x]))] s.heap := hP
  have hl := lv_entry ([.ref jt, .long sd]) (n := 3) (Nat.le_of_ble_eq_true rfl)
  rw [lg_entry_eq]
  generalize (lg_sl ([.ref jt, .long sd]) ++ List.replicate (3 - (lg_sl ([.ref jt, .long sd])).length) Slot.unset).toArray = ls at hl ⊢
  have hl : lv_has ls 3 [(0, .ref jt), (1, .long sd)] := hl
  refine lv_aload_n hx hb d_T_rewind_0 rfl (lv_at hl 0 rfl) ?_
  refine lv_lload_n hx hb d_T_rewind_1 rfl (lv_at hl 1 rfl) ?_
  refine va_put (D := (dC, dI)) (ci := 0) (v := .long sd) (ty := .long) (C := R_T) (T := F_T) (N := 1) hx hb hts (lay_T _) ft_T tok_T nok_T hown hK hP hD hS 0 rfl rfl 0 (by decide) (hts _ (List.mem_cons_of_mem _ m_31)) (fun _ h9 => h9) rfl (by decide +kernel) rfl rfl (Nat.le_of_ble_eq_true rfl) d_T_rewind_2 (fun H locs hP hD hS => ?_)
  have hP : va_P (dC, dI) classes [(jt, .inr (0, [.long sd]))] H := hP
  have hD : va_D A [(jt, .inr (0, [.long sd]))] := hD
  have hP9 := hP.sub (ws' := [(jt, .inr (0, [.long sd]))]) [0] rfl
  have hD9 := hD.sub (ws' := [(jt, .inr (0, [.long sd]))]) [0] (by decide) rfl
  have hK9 := hK.sub (tys' := []) [] rfl
  exact W.vret hx hb hr (fun t ht hW => ⟨⟨(), rfl, trivial, by rw [ht]; exact hP9, va_K.moved hW.alike hK9, hD9⟩, hS.F ht⟩) hS.2.2 d_T_rewind_5
set_option maxHeartbeats 4000000 in
set_option maxRecDepth 100000 in
/-- Tape.numberBelow -/
theorem c_T_numberBelow (l : Launch) (dC : Nat → ClassId) (dI : Nat → Nat → Nat) (jt : Nat) (x : Int64) (q : Nat) (hq : q < 2 ^ 31) (sz : Nat) : Met l y_T_numberBelow w_T_numberBelow ({ frames := 0, cells := 0, slots := 0, locals := 0 }) (wr_P dC dI [.ref jt, .int (nI q)] [(jt, .inr (0, [.long x]))] [] sz) (va_Qi (fun (r : Int32) (_ : Unit) => r = nbI x q) (fun (u : Unit) => wr_B dC dI (va_A [(jt, .inr (0, [.long x]))] sz) [(jt, .inr (0, [.long (nbX x q)]))] []) (va_A [(jt, .inr (0, [.long x]))] sz)) 0 0 (va_A [(jt, .inr (0, [.long x]))] sz) := by
  refine Met.ofW (cc := b_T_numberBelow) (maxL := 2) (ret := (Option.some Jvm.ClassFile.FieldType.int)) (by decide) rfl ?_
  intro p e s m args below meth c s₁ B0 hml hv0
  obtain ⟨rfl, hsz, hP, hK, hD0, hN⟩ := hv0
  have hx := B0.exec
  have hb := B0.bytes
  have hr := B0.returns
  have hts := atoms_spec (ws := w_T_numberBelow) B0.pre
  have hown : s.vm.findClass R_T = some m.cls := findClass_of_methodNamed B0.named
  have hlocks := B0.notSynchronized
  subst hsz
  have hD := hD0.self (sz := s.heap.size)
  generalize hAe : va_A [(jt, .inr (0, [.long x]))] s.heap.size = A at hD ⊢
  have hA : ∀ q : Nat, s.heap.size ≤ q → A q := fun q h => by rw [← hAe]; exact Or.inr h
  have hS : va_S A s.heap s.heap [] := va_S.rf
  have hP : va_P (dC, dI) classes [(jt, .inr (0, [.long x]))] s.heap := hP
  have hl := lv_entry ([.ref jt, .int (nI q)]) (n := 2) (Nat.le_of_ble_eq_true rfl)
  rw [lg_entry_eq]
  generalize (lg_sl ([.ref jt, .int (nI q)]) ++ List.replicate (2 - (lg_sl ([.ref jt, .int (nI q)])).length) Slot.unset).toArray = ls at hl ⊢
  have hl : lv_has ls 2 [(0, .ref jt), (1, .int (nI q))] := hl
  refine lv_iload_n hx hb d_T_numberBelow_0 rfl (lv_at hl 1 rfl) ?_
  refine lv_iconst (v := nI 1) hx hb d_T_numberBelow_1 (by decide +kernel) ?_
  refine lv_icmp_ge (tgt := 7) hx hb d_T_numberBelow_2 (by decide) (fun c_2 => ?_) (fun c_2 => ?_)
  · skip
    have c_2 := (nI_leI (by omega) (by omega)).mp c_2
    refine lv_aload_n hx hb d_T_numberBelow_7 rfl (lv_at hl 0 rfl) ?_
    refine lv_aload_n hx hb d_T_numberBelow_8 rfl (lv_at hl 0 rfl) ?_
    refine va_get (D := (dC, dI)) (ci := 0) (v := .long x) (C := R_T) (T := F_T) (N := 1) hx hb hts (lay_T _) hown hK hP 0 rfl rfl 0 (by decide) (hts _ (List.mem_cons_of_mem _ m_31)) (fun _ h9 => h9) rfl d_T_numberBelow_9 ?_
    refine lv_ldc2 (v := 6364136223846793005) hx hb hown (hts _ (List.mem_cons_of_mem _ m_243)) d_T_numberBelow_12 ?_
    refine lv_lmul hx hb d_T_numberBelow_15 ?_
    refine lv_ldc2 (v := 1442695040888963407) hx hb hown (hts _ (List.mem_cons_of_mem _ m_244)) d_T_numberBelow_16 ?_
    refine lv_ladd hx hb d_T_numberBelow_19 ?_
    refine lv_topl (fun w_1 ew_1 => ?_)
    have ew_1 : (nbX x q) = w_1 := (ew_1.trans (by unfold nbX; rw [if_neg (by omega)]; rfl)).symm
    subst ew_1
    refine va_put (D := (dC, dI)) (ci := 0) (v := .long (nbX x q)) (ty := .long) (C := R_T) (T := F_T) (N := 1) hx hb hts (lay_T _) ft_T tok_T nok_T hown hK hP hD hS 0 rfl rfl 0 (by decide) (hts _ (List.mem_cons_of_mem _ m_31)) (fun _ h9 => h9) rfl (by decide +kernel) rfl rfl (Nat.le_of_ble_eq_true rfl) d_T_numberBelow_20 (fun H locs hP hD hS => ?_)
    have hP : va_P (dC, dI) classes [(jt, .inr (0, [.long (nbX x q)]))] H := hP
    have hD : va_D A [(jt, .inr (0, [.long (nbX x q)]))] := hD
    refine lv_aload_n hx hb d_T_numberBelow_23 rfl (lv_at hl 0 rfl) ?_
    refine va_get (D := (dC, dI)) (ci := 0) (v := .long (nbX x q)) (C := R_T) (T := F_T) (N := 1) hx hb hts (lay_T _) hown hK hP 0 rfl rfl 0 (by decide) (hts _ (List.mem_cons_of_mem _ m_31)) (fun _ h9 => h9) rfl d_T_numberBelow_24 ?_
    refine lv_bipush (v := nI 33) hx hb d_T_numberBelow_27 (by decide +kernel) ?_
    refine lv_lushr hx hb d_T_numberBelow_29 rfl ?_
    refine lv_l2i hx hb d_T_numberBelow_30 rfl ?_
    refine lv_topi (fun w_2 ew_2 => ?_)
    have ew_2 : (nI (hi9 (nbX x q))) = w_2 := (ew_2.trans (hi9_sh _)).symm
    subst ew_2
    refine lv_iload_n hx hb d_T_numberBelow_31 rfl (lv_at hl 1 rfl) ?_
    refine lv_irem hx hb d_T_numberBelow_32 (nI_ne0 (by omega) (by omega)) ?_
    refine lv_topi (fun w_3 ew_3 => ?_)
    have ew_3 : (nbI x q) = w_3 := (ew_3.trans (by rw [nb_rem _ (by omega) (by omega)]; unfold nbI nbX; rw [if_neg (by omega), if_neg (by omega)])).symm
    subst ew_3
    have hP9 := hP.sub (ws' := [(jt, .inr (0, [.long (nbX x q)]))]) [0] rfl
    have hD9 := hD.sub (ws' := [(jt, .inr (0, [.long (nbX x q)]))]) [0] (by decide) rfl
    have hK9 := hK.sub (tys' := []) [] rfl
    exact W.iret (v := nbI x q) hx hb hr (fun t ht hW => ⟨⟨nbI x q, (), rfl, rfl, by rw [ht]; exact hP9, va_K.moved hW.alike hK9, hD9⟩, hS.F ht⟩) hS.2.2 d_T_numberBelow_33
  · skip
    have c_2 := (not_congr (nI_leI (by omega) (by omega))).mp c_2
    refine lv_iconst (v := (-1)) hx hb d_T_numberBelow_5 (by decide +kernel) ?_
    have e9 : x = nbX x q := by unfold nbX; rw [if_pos (by omega)]
    rw [e9] at hP hD
    have hP9 := hP.sub (ws' := [(jt, .inr (0, [.long (nbX x q)]))]) [0] rfl
    have hD9 := hD.sub (ws' := [(jt, .inr (0, [.long (nbX x q)]))]) [0] (by decide) rfl
    have hK9 := hK.sub (tys' := []) [] rfl
    exact W.iret (v := (-1)) hx hb hr (fun t ht hW => ⟨⟨(-1), (), rfl, (by unfold nbI; rw [if_pos (by omega)]), by rw [ht]; exact hP9, va_K.moved hW.alike hK9, hD9⟩, hS.F ht⟩) hS.2.2 d_T_numberBelow_6
set_option maxHeartbeats 4000000 in
set_option maxRecDepth 100000 in
/-- mayRefer -/
theorem c_D_mayRefer (l : Launch) (dC : Nat → ClassId) (dI : Nat → Nat → Nat) (kd tk : Int32)  : Met l y_D_mayRefer w_D_mayRefer ({ frames := 0, cells := 0, slots := 0, locals := 0 }) (ro_P dC dI [.int kd, .int tk] [] []) (vp_Si (fun r => r = bI (mR kd tk))) 0 0 (fun _ => False) := by
  refine Met.ofW (cc := b_D_mayRefer) (maxL := 2) (ret := (Option.some Jvm.ClassFile.FieldType.boolean)) (by decide) rfl ?_
  intro p e s m args below meth c s₁ B0 hml hv0
  obtain ⟨rfl, hP, hK, hN⟩ := hv0
  have hx := B0.exec
  have hb := B0.bytes
  have hr := B0.returns
  have hts := atoms_spec (ws := w_D_mayRefer) B0.pre
  have hown : s.vm.findClass R_D = some m.cls := findClass_of_methodNamed B0.named
  have hlocks := B0.notSynchronized
  have hP : va_P (dC, dI) classes [] s.heap := hP
  have hl := lv_entry ([.int kd, .int tk]) (n := 2) (Nat.le_of_ble_eq_true rfl)
  rw [lg_entry_eq]
  generalize (lg_sl ([.int kd, .int tk]) ++ List.replicate (2 - (lg_sl ([.int kd, .int tk])).length) Slot.unset).toArray = ls at hl ⊢
  have hl : lv_has ls 2 [(0, .int kd), (1, .int tk)] := hl
  refine lv_iload_n hx hb d_D_mayRefer_0 rfl (lv_at hl 0 rfl) ?_
  by_cases o_1 : kd.toInt < 1 ∨ 6 < kd.toInt
  · skip
    refine lv_tableOut (tgt := 98) hx hb d_D_mayRefer_1 o_1 (by decide) ?_
    have e_m : mR kd tk = false := mR_o o_1
    refine lv_iconst (v := nI 0) hx hb d_D_mayRefer_98 (by decide +kernel) ?_
    exact W.zret (v := nI 0) (ty := .boolean) hx hb hr (by decide +kernel) (fun t ht hW => ⟨nI 0, rfl, (by rw [e_m]; simp [bI]), ht⟩) (fun _ h => nomatch h) d_D_mayRefer_99
  · skip
    have o1_1 : ¬ kd.toInt < 1 := fun h => o_1 (Or.inl h)
    have o2_1 : ¬ 6 < kd.toInt := fun h => o_1 (Or.inr h)
    by_cases o_1_1 : kd.toInt = 1
    · skip
      have o3 : kd = nI 1 := sw_eq o_1_1 (by decide +kernel)
      refine lv_tableIn (tgt := 40) hx hb d_D_mayRefer_1 o1_1 o2_1 (by rw [o_1_1]; rfl) (by decide) ?_
      have e_m : mR kd tk = decide (tk = nI 0) := by rw [o3]; exact mR_1 tk
      refine lv_iload_n hx hb d_D_mayRefer_40 rfl (lv_at hl 1 rfl) ?_
      refine lv_if_ne (tgt := 48) hx hb d_D_mayRefer_41 (by decide) (fun c_41 => ?_) (fun c_41 => ?_)
      · skip
        rw [← nI_0] at c_41
        refine lv_iconst (v := nI 0) hx hb d_D_mayRefer_48 (by decide +kernel) ?_
        exact W.zret (v := nI 0) (ty := .boolean) hx hb hr (by decide +kernel) (fun t ht hW => ⟨nI 0, rfl, (by rw [e_m]; simp [bI, c_41]), ht⟩) (fun _ h => nomatch h) d_D_mayRefer_49
      · skip
        rw [← nI_0] at c_41
        refine lv_iconst (v := nI 1) hx hb d_D_mayRefer_44 (by decide +kernel) ?_
        refine lv_goto (tgt := 49) hx hb d_D_mayRefer_45 (by decide) ?_
        exact W.zret (v := nI 1) (ty := .boolean) hx hb hr (by decide +kernel) (fun t ht hW => ⟨nI 1, rfl, (by rw [e_m]; simp [bI, c_41]), ht⟩) (fun _ h => nomatch h) d_D_mayRefer_49
    · skip
      by_cases o_1_2 : kd.toInt = 2
      · skip
        have o3 : kd = nI 2 := sw_eq o_1_2 (by decide +kernel)
        refine lv_tableIn (tgt := 98) hx hb d_D_mayRefer_1 o1_1 o2_1 (by rw [o_1_2]; rfl) (by decide) ?_
        have e_m : mR kd tk = false := by rw [o3]; exact mR_2 tk
        refine lv_iconst (v := nI 0) hx hb d_D_mayRefer_98 (by decide +kernel) ?_
        exact W.zret (v := nI 0) (ty := .boolean) hx hb hr (by decide +kernel) (fun t ht hW => ⟨nI 0, rfl, (by rw [e_m]; simp [bI]), ht⟩) (fun _ h => nomatch h) d_D_mayRefer_99
      · skip
        by_cases o_1_3 : kd.toInt = 3
        · skip
          have o3 : kd = nI 3 := sw_eq o_1_3 (by decide +kernel)
          refine lv_tableIn (tgt := 40) hx hb d_D_mayRefer_1 o1_1 o2_1 (by rw [o_1_3]; rfl) (by decide) ?_
          have e_m : mR kd tk = decide (tk = nI 0) := by rw [o3]; exact mR_3 tk
          refine lv_iload_n hx hb d_D_mayRefer_40 rfl (lv_at hl 1 rfl) ?_
          refine lv_if_ne (tgt := 48) hx hb d_D_mayRefer_41 (by decide) (fun c_41 => ?_) (fun c_41 => ?_)
          · skip
            rw [← nI_0] at c_41
            refine lv_iconst (v := nI 0) hx hb d_D_mayRefer_48 (by decide +kernel) ?_
            exact W.zret (v := nI 0) (ty := .boolean) hx hb hr (by decide +kernel) (fun t ht hW => ⟨nI 0, rfl, (by rw [e_m]; simp [bI, c_41]), ht⟩) (fun _ h => nomatch h) d_D_mayRefer_49
          · skip
            rw [← nI_0] at c_41
            refine lv_iconst (v := nI 1) hx hb d_D_mayRefer_44 (by decide +kernel) ?_
            refine lv_goto (tgt := 49) hx hb d_D_mayRefer_45 (by decide) ?_
            exact W.zret (v := nI 1) (ty := .boolean) hx hb hr (by decide +kernel) (fun t ht hW => ⟨nI 1, rfl, (by rw [e_m]; simp [bI, c_41]), ht⟩) (fun _ h => nomatch h) d_D_mayRefer_49
        · skip
          by_cases o_1_4 : kd.toInt = 4
          · skip
            have o3 : kd = nI 4 := sw_eq o_1_4 (by decide +kernel)
            refine lv_tableIn (tgt := 50) hx hb d_D_mayRefer_1 o1_1 o2_1 (by rw [o_1_4]; rfl) (by decide) ?_
            have e_m : mR kd tk = decide (tk = nI 2) := by rw [o3]; exact mR_4 tk
            refine lv_iload_n hx hb d_D_mayRefer_50 rfl (lv_at hl 1 rfl) ?_
            refine lv_iconst (v := nI 2) hx hb d_D_mayRefer_51 (by decide +kernel) ?_
            refine lv_icmp_ne (tgt := 59) hx hb d_D_mayRefer_52 (by decide) (fun c_52 => ?_) (fun c_52 => ?_)
            · skip
              refine lv_iconst (v := nI 0) hx hb d_D_mayRefer_59 (by decide +kernel) ?_
              exact W.zret (v := nI 0) (ty := .boolean) hx hb hr (by decide +kernel) (fun t ht hW => ⟨nI 0, rfl, (by rw [e_m]; simp [bI, c_52]), ht⟩) (fun _ h => nomatch h) d_D_mayRefer_60
            · skip
              refine lv_iconst (v := nI 1) hx hb d_D_mayRefer_55 (by decide +kernel) ?_
              refine lv_goto (tgt := 60) hx hb d_D_mayRefer_56 (by decide) ?_
              exact W.zret (v := nI 1) (ty := .boolean) hx hb hr (by decide +kernel) (fun t ht hW => ⟨nI 1, rfl, (by rw [e_m]; simp [bI, c_52]), ht⟩) (fun _ h => nomatch h) d_D_mayRefer_60
          · skip
            by_cases o_1_5 : kd.toInt = 5
            · skip
              have o3 : kd = nI 5 := sw_eq o_1_5 (by decide +kernel)
              refine lv_tableIn (tgt := 61) hx hb d_D_mayRefer_1 o1_1 o2_1 (by rw [o_1_5]; rfl) (by decide) ?_
              have e_m : mR kd tk = (decide (tk = nI 1) || decide (tk = nI 3) || decide (tk = nI 4)) := by rw [o3]; exact mR_5 tk
              refine lv_iload_n hx hb d_D_mayRefer_61 rfl (lv_at hl 1 rfl) ?_
              refine lv_iconst (v := nI 1) hx hb d_D_mayRefer_62 (by decide +kernel) ?_
              refine lv_icmp_eq (tgt := 76) hx hb d_D_mayRefer_63 (by decide) (fun c_63 => ?_) (fun c_63 => ?_)
              · skip
                refine lv_iconst (v := nI 1) hx hb d_D_mayRefer_76 (by decide +kernel) ?_
                refine lv_goto (tgt := 81) hx hb d_D_mayRefer_77 (by decide) ?_
                exact W.zret (v := nI 1) (ty := .boolean) hx hb hr (by decide +kernel) (fun t ht hW => ⟨nI 1, rfl, (by rw [e_m]; simp [bI, c_63]), ht⟩) (fun _ h => nomatch h) d_D_mayRefer_81
              · skip
                refine lv_iload_n hx hb d_D_mayRefer_66 rfl (lv_at hl 1 rfl) ?_
                refine lv_iconst (v := nI 3) hx hb d_D_mayRefer_67 (by decide +kernel) ?_
                refine lv_icmp_eq (tgt := 76) hx hb d_D_mayRefer_68 (by decide) (fun c_68 => ?_) (fun c_68 => ?_)
                · skip
                  refine lv_iconst (v := nI 1) hx hb d_D_mayRefer_76 (by decide +kernel) ?_
                  refine lv_goto (tgt := 81) hx hb d_D_mayRefer_77 (by decide) ?_
                  exact W.zret (v := nI 1) (ty := .boolean) hx hb hr (by decide +kernel) (fun t ht hW => ⟨nI 1, rfl, (by rw [e_m]; simp [bI, c_63, c_68]), ht⟩) (fun _ h => nomatch h) d_D_mayRefer_81
                · skip
                  refine lv_iload_n hx hb d_D_mayRefer_71 rfl (lv_at hl 1 rfl) ?_
                  refine lv_iconst (v := nI 4) hx hb d_D_mayRefer_72 (by decide +kernel) ?_
                  refine lv_icmp_ne (tgt := 80) hx hb d_D_mayRefer_73 (by decide) (fun c_73 => ?_) (fun c_73 => ?_)
                  · skip
                    refine lv_iconst (v := nI 0) hx hb d_D_mayRefer_80 (by decide +kernel) ?_
                    exact W.zret (v := nI 0) (ty := .boolean) hx hb hr (by decide +kernel) (fun t ht hW => ⟨nI 0, rfl, (by rw [e_m]; simp [bI, c_63, c_68, c_73]), ht⟩) (fun _ h => nomatch h) d_D_mayRefer_81
                  · skip
                    refine lv_iconst (v := nI 1) hx hb d_D_mayRefer_76 (by decide +kernel) ?_
                    refine lv_goto (tgt := 81) hx hb d_D_mayRefer_77 (by decide) ?_
                    exact W.zret (v := nI 1) (ty := .boolean) hx hb hr (by decide +kernel) (fun t ht hW => ⟨nI 1, rfl, (by rw [e_m]; simp [bI, c_63, c_68, c_73]), ht⟩) (fun _ h => nomatch h) d_D_mayRefer_81
            · skip
              have o_1_6 : kd.toInt = 6 := by omega
              have o3 : kd = nI 6 := sw_eq o_1_6 (by decide +kernel)
              refine lv_tableIn (tgt := 82) hx hb d_D_mayRefer_1 o1_1 o2_1 (by rw [o_1_6]; rfl) (by decide) ?_
              have e_m : mR kd tk = (decide (tk = nI 4) || decide (tk = nI 5)) := by rw [o3]; exact mR_6 tk
              refine lv_iload_n hx hb d_D_mayRefer_82 rfl (lv_at hl 1 rfl) ?_
              refine lv_iconst (v := nI 4) hx hb d_D_mayRefer_83 (by decide +kernel) ?_
              refine lv_icmp_eq (tgt := 92) hx hb d_D_mayRefer_84 (by decide) (fun c_84 => ?_) (fun c_84 => ?_)
              · skip
                refine lv_iconst (v := nI 1) hx hb d_D_mayRefer_92 (by decide +kernel) ?_
                refine lv_goto (tgt := 97) hx hb d_D_mayRefer_93 (by decide) ?_
                exact W.zret (v := nI 1) (ty := .boolean) hx hb hr (by decide +kernel) (fun t ht hW => ⟨nI 1, rfl, (by rw [e_m]; simp [bI, c_84]), ht⟩) (fun _ h => nomatch h) d_D_mayRefer_97
              · skip
                refine lv_iload_n hx hb d_D_mayRefer_87 rfl (lv_at hl 1 rfl) ?_
                refine lv_iconst (v := nI 5) hx hb d_D_mayRefer_88 (by decide +kernel) ?_
                refine lv_icmp_ne (tgt := 96) hx hb d_D_mayRefer_89 (by decide) (fun c_89 => ?_) (fun c_89 => ?_)
                · skip
                  refine lv_iconst (v := nI 0) hx hb d_D_mayRefer_96 (by decide +kernel) ?_
                  exact W.zret (v := nI 0) (ty := .boolean) hx hb hr (by decide +kernel) (fun t ht hW => ⟨nI 0, rfl, (by rw [e_m]; simp [bI, c_84, c_89]), ht⟩) (fun _ h => nomatch h) d_D_mayRefer_97
                · skip
                  refine lv_iconst (v := nI 1) hx hb d_D_mayRefer_92 (by decide +kernel) ?_
                  refine lv_goto (tgt := 97) hx hb d_D_mayRefer_93 (by decide) ?_
                  exact W.zret (v := nI 1) (ty := .boolean) hx hb hr (by decide +kernel) (fun t ht hW => ⟨nI 1, rfl, (by rw [e_m]; simp [bI, c_84, c_89]), ht⟩) (fun _ h => nomatch h) d_D_mayRefer_97
set_option maxHeartbeats 4000000 in
set_option maxRecDepth 100000 in
/-- isIn -/
theorem c_D_isIn (l : Launch) (dC : Nat → ClassId) (dI : Nat → Nat → Nat) (w : Int64) (i0 : Nat) (hi0 : i0 < 64) : Met l y_D_isIn w_D_isIn ({ frames := 0, cells := 0, slots := 0, locals := 0 }) (ro_P dC dI [.long w, .int (nI i0)] [] []) (vp_Si (fun r => r = bI (wbit w i0))) 0 0 (fun _ => False) := by
  refine Met.ofW (cc := b_D_isIn) (maxL := 3) (ret := (Option.some Jvm.ClassFile.FieldType.boolean)) (by decide) rfl ?_
  intro p e s m args below meth c s₁ B0 hml hv0
  obtain ⟨rfl, hP, hK, hN⟩ := hv0
  have hx := B0.exec
  have hb := B0.bytes
  have hr := B0.returns
  have hts := atoms_spec (ws := w_D_isIn) B0.pre
  have hown : s.vm.findClass R_D = some m.cls := findClass_of_methodNamed B0.named
  have hlocks := B0.notSynchronized
  have hP : va_P (dC, dI) classes [] s.heap := hP
  have hl := lv_entry ([.long w, .int (nI i0)]) (n := 3) (Nat.le_of_ble_eq_true rfl)
  rw [lg_entry_eq]
  generalize (lg_sl ([.long w, .int (nI i0)]) ++ List.replicate (3 - (lg_sl ([.long w, .int (nI i0)])).length) Slot.unset).toArray = ls at hl ⊢
  have hl : lv_has ls 3 [(0, .long w), (2, .int (nI i0))] := hl
  refine lv_lload_n hx hb d_D_isIn_0 rfl (lv_at hl 0 rfl) ?_
  refine lv_iload_n hx hb d_D_isIn_1 rfl (lv_at hl 1 rfl) ?_
  refine lv_lushr hx hb d_D_isIn_2 rfl ?_
  refine lv_lconst (v := 1) hx hb d_D_isIn_3 (by decide +kernel) ?_
  refine lv_land hx hb d_D_isIn_4 ?_
  refine lv_lconst (v := 0) hx hb d_D_isIn_5 (by decide +kernel) ?_
  refine W.lcmp hx hb d_D_isIn_6 ?_
  refine lv_if_eq (tgt := 14) hx hb d_D_isIn_7 (by decide) (fun c_7 => ?_) (fun c_7 => ?_)
  · skip
    have c_7 := lc_eq.mp c_7
    refine lv_iconst (v := nI 0) hx hb d_D_isIn_14 (by decide +kernel) ?_
    exact W.zret (v := nI 0) (ty := .boolean) hx hb hr (by decide +kernel) (fun t ht hW => ⟨nI 0, rfl, (by first | (rw [(wbit_tst w hi0).mp c_7]; rfl) | (rw [ts_nf (fun jh => c_7 ((wbit_tst w hi0).mpr jh))]; rfl)), ht⟩) (fun _ h => nomatch h) d_D_isIn_15
  · skip
    have c_7 := (not_congr lc_eq).mp c_7
    refine lv_iconst (v := nI 1) hx hb d_D_isIn_10 (by decide +kernel) ?_
    refine lv_goto (tgt := 15) hx hb d_D_isIn_11 (by decide) ?_
    exact W.zret (v := nI 1) (ty := .boolean) hx hb hr (by decide +kernel) (fun t ht hW => ⟨nI 1, rfl, (by first | (rw [(wbit_tst w hi0).mp c_7]; rfl) | (rw [ts_nf (fun jh => c_7 ((wbit_tst w hi0).mpr jh))]; rfl)), ht⟩) (fun _ h => nomatch h) d_D_isIn_15
set_option maxHeartbeats 4000000 in
set_option maxRecDepth 100000 in
/-- isSize -/
theorem c_D_isSize (l : Launch) (dC : Nat → ClassId) (dI : Nat → Nat → Nat) (p0 : Int32)  : Met l y_D_isSize w_D_isSize ({ frames := 0, cells := 0, slots := 0, locals := 0 }) (ro_P dC dI [.int p0] [] []) (vp_Si (fun r => r = bI (szB p0))) 0 0 (fun _ => False) := by
  refine Met.ofW (cc := b_D_isSize) (maxL := 1) (ret := (Option.some Jvm.ClassFile.FieldType.boolean)) (by decide) rfl ?_
  intro p e s m args below meth c s₁ B0 hml hv0
  obtain ⟨rfl, hP, hK, hN⟩ := hv0
  have hx := B0.exec
  have hb := B0.bytes
  have hr := B0.returns
  have hts := atoms_spec (ws := w_D_isSize) B0.pre
  have hown : s.vm.findClass R_D = some m.cls := findClass_of_methodNamed B0.named
  have hlocks := B0.notSynchronized
  have hP : va_P (dC, dI) classes [] s.heap := hP
  have hl := lv_entry ([.int p0]) (n := 1) (Nat.le_of_ble_eq_true rfl)
  rw [lg_entry_eq]
  generalize (lg_sl ([.int p0]) ++ List.replicate (1 - (lg_sl ([.int p0])).length) Slot.unset).toArray = ls at hl ⊢
  have hl : lv_has ls 1 [(0, .int p0)] := hl
  refine lv_iload_n hx hb d_D_isSize_0 rfl (lv_at hl 0 rfl) ?_
  refine lv_if_lt (tgt := 14) hx hb d_D_isSize_1 (by decide) (fun c_1 => ?_) (fun c_1 => ?_)
  · skip
    refine lv_iconst (v := nI 0) hx hb d_D_isSize_14 (by decide +kernel) ?_
    exact W.zret (v := nI 0) (ty := .boolean) hx hb hr (by decide +kernel) (fun t ht hW => ⟨nI 0, rfl, (by simp [szB, bI, c_1]), ht⟩) (fun _ h => nomatch h) d_D_isSize_15
  · skip
    refine lv_iload_n hx hb d_D_isSize_4 rfl (lv_at hl 0 rfl) ?_
    refine lv_bipush (v := nI 40) hx hb d_D_isSize_5 (by decide +kernel) ?_
    refine lv_icmp_gt (tgt := 14) hx hb d_D_isSize_7 (by decide) (fun c_7 => ?_) (fun c_7 => ?_)
    · skip
      refine lv_iconst (v := nI 0) hx hb d_D_isSize_14 (by decide +kernel) ?_
      exact W.zret (v := nI 0) (ty := .boolean) hx hb hr (by decide +kernel) (fun t ht hW => ⟨nI 0, rfl, (by simp [szB, bI, c_1, c_7]), ht⟩) (fun _ h => nomatch h) d_D_isSize_15
    · skip
      refine lv_iconst (v := nI 1) hx hb d_D_isSize_10 (by decide +kernel) ?_
      refine lv_goto (tgt := 15) hx hb d_D_isSize_11 (by decide) ?_
      exact W.zret (v := nI 1) (ty := .boolean) hx hb hr (by decide +kernel) (fun t ht hW => ⟨nI 1, rfl, (by simp [szB, bI, c_1, c_7]), ht⟩) (fun _ h => nomatch h) d_D_isSize_15
