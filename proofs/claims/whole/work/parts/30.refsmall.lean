theorem m_336 : (Jvm.Cond.fieldLink "PortDrawerModel" (33 : Nat) "PortDrawerModel" "thrown" "I") ∈ tblG := m_t (i := 336) rfl rfl
theorem m_339 : (Jvm.Cond.fieldLink "PortDrawerModel" (37 : Nat) "PortDrawerModel" "parts" "I") ∈ tblG := m_t (i := 339) rfl rfl
theorem m_338 : (Jvm.Cond.fieldLink "PortDrawerModel" (40 : Nat) "PortDrawerModel" "tape" "J") ∈ tblG := m_t (i := 338) rfl rfl
theorem m_390 : (Jvm.Cond.constantLong "PortDrawerModel" (43 : Nat) (6364136223846793005 : Int64)) ∈ tblG := m_t (i := 390) rfl rfl
theorem m_391 : (Jvm.Cond.constantLong "PortDrawerModel" (45 : Nat) (1442695040888963407 : Int64)) ∈ tblG := m_t (i := 391) rfl rfl
theorem m_342 : (Jvm.Cond.fieldLink "PortDrawerModel" (16 : Nat) "PortDrawerModel" "refers" "[I") ∈ tblG := m_t (i := 342) rfl rfl
theorem m_341 : (Jvm.Cond.fieldLink "PortDrawerModel" (13 : Nat) "PortDrawerModel" "value" "[I") ∈ tblG := m_t (i := 341) rfl rfl
theorem m_340 : (Jvm.Cond.fieldLink "PortDrawerModel" (7 : Nat) "PortDrawerModel" "kind" "[I") ∈ tblG := m_t (i := 340) rfl rfl
theorem m_343 : (Jvm.Cond.fieldLink "PortDrawerModel" (19 : Nat) "PortDrawerModel" "isLeft" "[Z") ∈ tblG := m_t (i := 343) rfl rfl
theorem d_M_thrown_0 : decode b_M_thrown 0 = .ok (.aload_n 0, 1) := by decide +kernel
theorem d_M_thrown_1 : decode b_M_thrown 1 = .ok (.getfield 33, 3) := by decide +kernel
theorem d_M_thrown_4 : decode b_M_thrown 4 = .ok (.ireturn, 1) := by decide +kernel
theorem d_M_refuse_0 : decode b_M_refuse 0 = .ok (.aload_n 0, 1) := by decide +kernel
theorem d_M_refuse_1 : decode b_M_refuse 1 = .ok (.iload_n 1, 1) := by decide +kernel
theorem d_M_refuse_2 : decode b_M_refuse 2 = .ok (.putfield 33, 3) := by decide +kernel
theorem d_M_refuse_5 : decode b_M_refuse 5 = .ok (.iconst 0, 1) := by decide +kernel
theorem d_M_refuse_6 : decode b_M_refuse 6 = .ok (.ireturn, 1) := by decide +kernel
theorem d_M_in__0 : decode b_M_in_ 0 = .ok (.iload_n 0, 1) := by decide +kernel
theorem d_M_in__1 : decode b_M_in_ 1 = .ok (.iload_n 1, 1) := by decide +kernel
theorem d_M_in__2 : decode b_M_in_ 2 = .ok (.if_icmp .lt 12, 3) := by decide +kernel
theorem d_M_in__5 : decode b_M_in_ 5 = .ok (.iload_n 0, 1) := by decide +kernel
theorem d_M_in__6 : decode b_M_in_ 6 = .ok (.iload_n 2, 1) := by decide +kernel
theorem d_M_in__7 : decode b_M_in_ 7 = .ok (.if_icmp .gt 7, 3) := by decide +kernel
theorem d_M_in__10 : decode b_M_in_ 10 = .ok (.iconst 1, 1) := by decide +kernel
theorem d_M_in__11 : decode b_M_in_ 11 = .ok (.goto 4, 3) := by decide +kernel
theorem d_M_in__14 : decode b_M_in_ 14 = .ok (.iconst 0, 1) := by decide +kernel
theorem d_M_in__15 : decode b_M_in_ 15 = .ok (.ireturn, 1) := by decide +kernel
theorem d_M_isPart_0 : decode b_M_isPart 0 = .ok (.iload_n 1, 1) := by decide +kernel
theorem d_M_isPart_1 : decode b_M_isPart 1 = .ok (.ifCond .lt 15, 3) := by decide +kernel
theorem d_M_isPart_4 : decode b_M_isPart 4 = .ok (.iload_n 1, 1) := by decide +kernel
theorem d_M_isPart_5 : decode b_M_isPart 5 = .ok (.aload_n 0, 1) := by decide +kernel
theorem d_M_isPart_6 : decode b_M_isPart 6 = .ok (.getfield 37, 3) := by decide +kernel
theorem d_M_isPart_9 : decode b_M_isPart 9 = .ok (.if_icmp .ge 7, 3) := by decide +kernel
theorem d_M_isPart_12 : decode b_M_isPart 12 = .ok (.iconst 1, 1) := by decide +kernel
theorem d_M_isPart_13 : decode b_M_isPart 13 = .ok (.goto 4, 3) := by decide +kernel
theorem d_M_isPart_16 : decode b_M_isPart 16 = .ok (.iconst 0, 1) := by decide +kernel
theorem d_M_isPart_17 : decode b_M_isPart 17 = .ok (.ireturn, 1) := by decide +kernel
theorem d_M_number_0 : decode b_M_number 0 = .ok (.aload_n 0, 1) := by decide +kernel
theorem d_M_number_1 : decode b_M_number 1 = .ok (.aload_n 0, 1) := by decide +kernel
theorem d_M_number_2 : decode b_M_number 2 = .ok (.getfield 40, 3) := by decide +kernel
theorem d_M_number_5 : decode b_M_number 5 = .ok (.ldc2_w 43, 3) := by decide +kernel
theorem d_M_number_8 : decode b_M_number 8 = .ok (.lmul, 1) := by decide +kernel
theorem d_M_number_9 : decode b_M_number 9 = .ok (.ldc2_w 45, 3) := by decide +kernel
theorem d_M_number_12 : decode b_M_number 12 = .ok (.ladd, 1) := by decide +kernel
theorem d_M_number_13 : decode b_M_number 13 = .ok (.putfield 40, 3) := by decide +kernel
theorem d_M_number_16 : decode b_M_number 16 = .ok (.aload_n 0, 1) := by decide +kernel
theorem d_M_number_17 : decode b_M_number 17 = .ok (.getfield 40, 3) := by decide +kernel
theorem d_M_number_20 : decode b_M_number 20 = .ok (.bipush 33, 2) := by decide +kernel
theorem d_M_number_22 : decode b_M_number 22 = .ok (.lushr, 1) := by decide +kernel
theorem d_M_number_23 : decode b_M_number 23 = .ok (.iload_n 1, 1) := by decide +kernel
theorem d_M_number_24 : decode b_M_number 24 = .ok (.i2l, 1) := by decide +kernel
theorem d_M_number_25 : decode b_M_number 25 = .ok (.lrem, 1) := by decide +kernel
theorem d_M_number_26 : decode b_M_number 26 = .ok (.l2i, 1) := by decide +kernel
theorem d_M_number_27 : decode b_M_number 27 = .ok (.ireturn, 1) := by decide +kernel
theorem d_M_mayRefer_0 : decode b_M_mayRefer 0 = .ok (.iload_n 0, 1) := by decide +kernel
theorem d_M_mayRefer_1 : decode b_M_mayRefer 1 = .ok (.tableswitch 97 1 6 #[39, 97, 39, 49, 60, 81], 39) := by decide +kernel
theorem d_M_mayRefer_40 : decode b_M_mayRefer 40 = .ok (.iload_n 1, 1) := by decide +kernel
theorem d_M_mayRefer_41 : decode b_M_mayRefer 41 = .ok (.ifCond .ne 7, 3) := by decide +kernel
theorem d_M_mayRefer_44 : decode b_M_mayRefer 44 = .ok (.iconst 1, 1) := by decide +kernel
theorem d_M_mayRefer_45 : decode b_M_mayRefer 45 = .ok (.goto 4, 3) := by decide +kernel
theorem d_M_mayRefer_48 : decode b_M_mayRefer 48 = .ok (.iconst 0, 1) := by decide +kernel
theorem d_M_mayRefer_49 : decode b_M_mayRefer 49 = .ok (.ireturn, 1) := by decide +kernel
theorem d_M_mayRefer_50 : decode b_M_mayRefer 50 = .ok (.iload_n 1, 1) := by decide +kernel
theorem d_M_mayRefer_51 : decode b_M_mayRefer 51 = .ok (.iconst 2, 1) := by decide +kernel
theorem d_M_mayRefer_52 : decode b_M_mayRefer 52 = .ok (.if_icmp .ne 7, 3) := by decide +kernel
theorem d_M_mayRefer_55 : decode b_M_mayRefer 55 = .ok (.iconst 1, 1) := by decide +kernel
theorem d_M_mayRefer_56 : decode b_M_mayRefer 56 = .ok (.goto 4, 3) := by decide +kernel
theorem d_M_mayRefer_59 : decode b_M_mayRefer 59 = .ok (.iconst 0, 1) := by decide +kernel
theorem d_M_mayRefer_60 : decode b_M_mayRefer 60 = .ok (.ireturn, 1) := by decide +kernel
theorem d_M_mayRefer_61 : decode b_M_mayRefer 61 = .ok (.iload_n 1, 1) := by decide +kernel
theorem d_M_mayRefer_62 : decode b_M_mayRefer 62 = .ok (.iconst 1, 1) := by decide +kernel
theorem d_M_mayRefer_63 : decode b_M_mayRefer 63 = .ok (.if_icmp .eq 13, 3) := by decide +kernel
theorem d_M_mayRefer_66 : decode b_M_mayRefer 66 = .ok (.iload_n 1, 1) := by decide +kernel
theorem d_M_mayRefer_67 : decode b_M_mayRefer 67 = .ok (.iconst 3, 1) := by decide +kernel
theorem d_M_mayRefer_68 : decode b_M_mayRefer 68 = .ok (.if_icmp .eq 8, 3) := by decide +kernel
theorem d_M_mayRefer_71 : decode b_M_mayRefer 71 = .ok (.iload_n 1, 1) := by decide +kernel
theorem d_M_mayRefer_72 : decode b_M_mayRefer 72 = .ok (.iconst 4, 1) := by decide +kernel
theorem d_M_mayRefer_73 : decode b_M_mayRefer 73 = .ok (.if_icmp .ne 7, 3) := by decide +kernel
theorem d_M_mayRefer_76 : decode b_M_mayRefer 76 = .ok (.iconst 1, 1) := by decide +kernel
theorem d_M_mayRefer_77 : decode b_M_mayRefer 77 = .ok (.goto 4, 3) := by decide +kernel
theorem d_M_mayRefer_80 : decode b_M_mayRefer 80 = .ok (.iconst 0, 1) := by decide +kernel
theorem d_M_mayRefer_81 : decode b_M_mayRefer 81 = .ok (.ireturn, 1) := by decide +kernel
theorem d_M_mayRefer_82 : decode b_M_mayRefer 82 = .ok (.iload_n 1, 1) := by decide +kernel
theorem d_M_mayRefer_83 : decode b_M_mayRefer 83 = .ok (.iconst 4, 1) := by decide +kernel
theorem d_M_mayRefer_84 : decode b_M_mayRefer 84 = .ok (.if_icmp .eq 8, 3) := by decide +kernel
theorem d_M_mayRefer_87 : decode b_M_mayRefer 87 = .ok (.iload_n 1, 1) := by decide +kernel
theorem d_M_mayRefer_88 : decode b_M_mayRefer 88 = .ok (.iconst 5, 1) := by decide +kernel
theorem d_M_mayRefer_89 : decode b_M_mayRefer 89 = .ok (.if_icmp .ne 7, 3) := by decide +kernel
theorem d_M_mayRefer_92 : decode b_M_mayRefer 92 = .ok (.iconst 1, 1) := by decide +kernel
theorem d_M_mayRefer_93 : decode b_M_mayRefer 93 = .ok (.goto 4, 3) := by decide +kernel
theorem d_M_mayRefer_96 : decode b_M_mayRefer 96 = .ok (.iconst 0, 1) := by decide +kernel
theorem d_M_mayRefer_97 : decode b_M_mayRefer 97 = .ok (.ireturn, 1) := by decide +kernel
theorem d_M_mayRefer_98 : decode b_M_mayRefer 98 = .ok (.iconst 0, 1) := by decide +kernel
theorem d_M_mayRefer_99 : decode b_M_mayRefer 99 = .ok (.ireturn, 1) := by decide +kernel
theorem d_M_isFit_0 : decode b_M_isFit 0 = .ok (.aload_n 0, 1) := by decide +kernel
theorem d_M_isFit_1 : decode b_M_isFit 1 = .ok (.getfield 16, 3) := by decide +kernel
theorem d_M_isFit_4 : decode b_M_isFit 4 = .ok (.iload_n 1, 1) := by decide +kernel
theorem d_M_isFit_5 : decode b_M_isFit 5 = .ok (.iaload, 1) := by decide +kernel
theorem d_M_isFit_6 : decode b_M_isFit 6 = .ok (.iconst (-1), 1) := by decide +kernel
theorem d_M_isFit_7 : decode b_M_isFit 7 = .ok (.if_icmp .eq 31, 3) := by decide +kernel
theorem d_M_isFit_10 : decode b_M_isFit 10 = .ok (.aload_n 0, 1) := by decide +kernel
theorem d_M_isFit_11 : decode b_M_isFit 11 = .ok (.getfield 13, 3) := by decide +kernel
theorem d_M_isFit_14 : decode b_M_isFit 14 = .ok (.aload_n 0, 1) := by decide +kernel
theorem d_M_isFit_15 : decode b_M_isFit 15 = .ok (.getfield 16, 3) := by decide +kernel
theorem d_M_isFit_18 : decode b_M_isFit 18 = .ok (.iload_n 1, 1) := by decide +kernel
theorem d_M_isFit_19 : decode b_M_isFit 19 = .ok (.iaload, 1) := by decide +kernel
theorem d_M_isFit_20 : decode b_M_isFit 20 = .ok (.iaload, 1) := by decide +kernel
theorem d_M_isFit_21 : decode b_M_isFit 21 = .ok (.iconst 2, 1) := by decide +kernel
theorem d_M_isFit_22 : decode b_M_isFit 22 = .ok (.irem, 1) := by decide +kernel
theorem d_M_isFit_23 : decode b_M_isFit 23 = .ok (.aload_n 0, 1) := by decide +kernel
theorem d_M_isFit_24 : decode b_M_isFit 24 = .ok (.getfield 13, 3) := by decide +kernel
theorem d_M_isFit_27 : decode b_M_isFit 27 = .ok (.iload_n 1, 1) := by decide +kernel
theorem d_M_isFit_28 : decode b_M_isFit 28 = .ok (.iaload, 1) := by decide +kernel
theorem d_M_isFit_29 : decode b_M_isFit 29 = .ok (.iconst 2, 1) := by decide +kernel
theorem d_M_isFit_30 : decode b_M_isFit 30 = .ok (.irem, 1) := by decide +kernel
theorem d_M_isFit_31 : decode b_M_isFit 31 = .ok (.if_icmp .ne 7, 3) := by decide +kernel
theorem d_M_isFit_34 : decode b_M_isFit 34 = .ok (.iconst 1, 1) := by decide +kernel
theorem d_M_isFit_35 : decode b_M_isFit 35 = .ok (.goto 4, 3) := by decide +kernel
theorem d_M_isFit_38 : decode b_M_isFit 38 = .ok (.iconst 0, 1) := by decide +kernel
theorem d_M_isFit_39 : decode b_M_isFit 39 = .ok (.ireturn, 1) := by decide +kernel
theorem d_M_ofKind_0 : decode b_M_ofKind 0 = .ok (.iconst 0, 1) := by decide +kernel
theorem d_M_ofKind_1 : decode b_M_ofKind 1 = .ok (.istore_n 2, 1) := by decide +kernel
theorem d_M_ofKind_2 : decode b_M_ofKind 2 = .ok (.iconst 0, 1) := by decide +kernel
theorem d_M_ofKind_3 : decode b_M_ofKind 3 = .ok (.istore_n 3, 1) := by decide +kernel
theorem d_M_ofKind_4 : decode b_M_ofKind 4 = .ok (.iload_n 3, 1) := by decide +kernel
theorem d_M_ofKind_5 : decode b_M_ofKind 5 = .ok (.aload_n 0, 1) := by decide +kernel
theorem d_M_ofKind_6 : decode b_M_ofKind 6 = .ok (.getfield 37, 3) := by decide +kernel
theorem d_M_ofKind_9 : decode b_M_ofKind 9 = .ok (.if_icmp .ge 27, 3) := by decide +kernel
theorem d_M_ofKind_12 : decode b_M_ofKind 12 = .ok (.iload_n 2, 1) := by decide +kernel
theorem d_M_ofKind_13 : decode b_M_ofKind 13 = .ok (.aload_n 0, 1) := by decide +kernel
theorem d_M_ofKind_14 : decode b_M_ofKind 14 = .ok (.getfield 7, 3) := by decide +kernel
theorem d_M_ofKind_17 : decode b_M_ofKind 17 = .ok (.iload_n 3, 1) := by decide +kernel
theorem d_M_ofKind_18 : decode b_M_ofKind 18 = .ok (.iaload, 1) := by decide +kernel
theorem d_M_ofKind_19 : decode b_M_ofKind 19 = .ok (.iload_n 1, 1) := by decide +kernel
theorem d_M_ofKind_20 : decode b_M_ofKind 20 = .ok (.if_icmp .ne 7, 3) := by decide +kernel
theorem d_M_ofKind_23 : decode b_M_ofKind 23 = .ok (.iconst 1, 1) := by decide +kernel
theorem d_M_ofKind_24 : decode b_M_ofKind 24 = .ok (.goto 4, 3) := by decide +kernel
theorem d_M_ofKind_27 : decode b_M_ofKind 27 = .ok (.iconst 0, 1) := by decide +kernel
theorem d_M_ofKind_28 : decode b_M_ofKind 28 = .ok (.iadd, 1) := by decide +kernel
theorem d_M_ofKind_29 : decode b_M_ofKind 29 = .ok (.istore_n 2, 1) := by decide +kernel
theorem d_M_ofKind_30 : decode b_M_ofKind 30 = .ok (.iinc 3 1, 3) := by decide +kernel
theorem d_M_ofKind_33 : decode b_M_ofKind 33 = .ok (.goto (-29), 3) := by decide +kernel
theorem d_M_ofKind_36 : decode b_M_ofKind 36 = .ok (.iload_n 2, 1) := by decide +kernel
theorem d_M_ofKind_37 : decode b_M_ofKind 37 = .ok (.ireturn, 1) := by decide +kernel
theorem d_M_many_0 : decode b_M_many 0 = .ok (.iconst 0, 1) := by decide +kernel
theorem d_M_many_1 : decode b_M_many 1 = .ok (.istore_n 1, 1) := by decide +kernel
theorem d_M_many_2 : decode b_M_many 2 = .ok (.iconst 0, 1) := by decide +kernel
theorem d_M_many_3 : decode b_M_many 3 = .ok (.istore_n 2, 1) := by decide +kernel
theorem d_M_many_4 : decode b_M_many 4 = .ok (.iload_n 2, 1) := by decide +kernel
theorem d_M_many_5 : decode b_M_many 5 = .ok (.aload_n 0, 1) := by decide +kernel
theorem d_M_many_6 : decode b_M_many 6 = .ok (.getfield 37, 3) := by decide +kernel
theorem d_M_many_9 : decode b_M_many 9 = .ok (.if_icmp .ge 26, 3) := by decide +kernel
theorem d_M_many_12 : decode b_M_many 12 = .ok (.iload_n 1, 1) := by decide +kernel
theorem d_M_many_13 : decode b_M_many 13 = .ok (.aload_n 0, 1) := by decide +kernel
theorem d_M_many_14 : decode b_M_many 14 = .ok (.getfield 19, 3) := by decide +kernel
theorem d_M_many_17 : decode b_M_many 17 = .ok (.iload_n 2, 1) := by decide +kernel
theorem d_M_many_18 : decode b_M_many 18 = .ok (.baload, 1) := by decide +kernel
theorem d_M_many_19 : decode b_M_many 19 = .ok (.ifCond .eq 7, 3) := by decide +kernel
theorem d_M_many_22 : decode b_M_many 22 = .ok (.iconst 1, 1) := by decide +kernel
theorem d_M_many_23 : decode b_M_many 23 = .ok (.goto 4, 3) := by decide +kernel
theorem d_M_many_26 : decode b_M_many 26 = .ok (.iconst 0, 1) := by decide +kernel
theorem d_M_many_27 : decode b_M_many 27 = .ok (.iadd, 1) := by decide +kernel
theorem d_M_many_28 : decode b_M_many 28 = .ok (.istore_n 1, 1) := by decide +kernel
theorem d_M_many_29 : decode b_M_many 29 = .ok (.iinc 2 1, 3) := by decide +kernel
theorem d_M_many_32 : decode b_M_many 32 = .ok (.goto (-28), 3) := by decide +kernel
theorem d_M_many_35 : decode b_M_many 35 = .ok (.iload_n 1, 1) := by decide +kernel
theorem d_M_many_36 : decode b_M_many 36 = .ok (.ireturn, 1) := by decide +kernel
set_option maxHeartbeats 4000000 in
set_option maxRecDepth 100000 in
/-- reference: thrown -/
theorem c_M_thrown (l : Launch) (dC : Nat → ClassId) (dI : Nat → Nat → Nat) (jm ik iv ir il iy ig : Nat) (n : Nat) (th : Int32) (sd tp : Int64)   : Met l y_M_thrown w_M_thrown ({ frames := 0, cells := 0, slots := 0, locals := 0 }) (ro_P dC dI [.ref jm] [(jm, .inr (3, [.int th, .long sd, .long tp, .int (nI n), .ref ik, .ref iv, .ref ir, .ref il, .ref iy, .ref ig]))] []) (vp_Si (fun r => r = th)) 0 0 (fun _ => False) := by
  refine Met.ofW (cc := b_M_thrown) (maxL := 1) (ret := (Option.some Jvm.ClassFile.FieldType.int)) (by decide) rfl ?_
  intro p e s m args below meth c s₁ B0 hml hv0
  obtain ⟨rfl, hP, hK, hN⟩ := hv0
  have hx := B0.exec
  have hb := B0.bytes
  have hr := B0.returns
  have hts := atoms_spec (ws := w_M_thrown) B0.pre
  have hown : s.vm.findClass R_M = some m.cls := findClass_of_methodNamed B0.named
  have hlocks := B0.notSynchronized
  have hP : va_P (dC, dI) classes [(jm, .inr (3, [.int th, .long sd, .long tp, .int (nI n), .ref ik, .ref iv, .ref ir, .ref il, .ref iy, .ref ig]))] s.heap := hP
  have hl := lv_entry ([.ref jm]) (n := 1) (Nat.le_of_ble_eq_true rfl)
  rw [lg_entry_eq]
  generalize (lg_sl ([.ref jm]) ++ List.replicate (1 - (lg_sl ([.ref jm])).length) Slot.unset).toArray = ls at hl ⊢
  have hl : lv_has ls 1 [(0, .ref jm)] := hl
  refine lv_aload_n hx hb d_M_thrown_0 rfl (lv_at hl 0 rfl) ?_
  refine va_get (D := (dC, dI)) (ci := 3) (v := .int th) (C := R_M) (T := F_M) (N := 10) hx hb hts (lay_M _) hown hK hP 0 rfl rfl 0 (by decide) (hts _ (List.mem_cons_of_mem _ m_336)) (fun _ h9 => h9) rfl d_M_thrown_1 ?_
  exact W.iret (v := th) hx hb hr (fun t ht hW => ⟨th, rfl, rfl, ht⟩) (fun _ h => nomatch h) d_M_thrown_4
set_option maxHeartbeats 4000000 in
set_option maxRecDepth 100000 in
/-- reference: refuse -/
theorem c_M_refuse (l : Launch) (dC : Nat → ClassId) (dI : Nat → Nat → Nat) (jm ik iv ir il iy ig : Nat) (n : Nat) (th : Int32) (sd tp : Int64) (p0 : Int32)  (sz : Nat) : Met l y_M_refuse w_M_refuse ({ frames := 0, cells := 0, slots := 0, locals := 0 }) (wr_P dC dI [.ref jm, .int p0] [(jm, .inr (3, [.int th, .long sd, .long tp, .int (nI n), .ref ik, .ref iv, .ref ir, .ref il, .ref iy, .ref ig]))] [] sz) (va_Qi (fun (r : Int32) (_ : Unit) => r = nI 0) (fun (u : Unit) => wr_B dC dI (va_A [(jm, .inr (3, [.int th, .long sd, .long tp, .int (nI n), .ref ik, .ref iv, .ref ir, .ref il, .ref iy, .ref ig]))] sz) [(jm, .inr (3, [.int p0, .long sd, .long tp, .int (nI n), .ref ik, .ref iv, .ref ir, .ref il, .ref iy, .ref ig]))] []) (va_A [(jm, .inr (3, [.int th, .long sd, .long tp, .int (nI n), .ref ik, .ref iv, .ref ir, .ref il, .ref iy, .ref ig]))] sz)) 0 0 (va_A [(jm, .inr (3, [.int th, .long sd, .long tp, .int (nI n), .ref ik, .ref iv, .ref ir, .ref il, .ref iy, .ref ig]))] sz) := by
  refine Met.ofW (cc := b_M_refuse) (maxL := 2) (ret := (Option.some Jvm.ClassFile.FieldType.int)) (by decide) rfl ?_
  intro p e s m args below meth c s₁ B0 hml hv0
  obtain ⟨rfl, hsz, hP, hK, hD0, hN⟩ := hv0
  have hx := B0.exec
  have hb := B0.bytes
  have hr := B0.returns
  have hts := atoms_spec (ws := w_M_refuse) B0.pre
  have hown : s.vm.findClass R_M = some m.cls := findClass_of_methodNamed B0.named
  have hlocks := B0.notSynchronized
  subst hsz
  have hD := hD0.self (sz := s.heap.size)
  generalize hAe : va_A [(jm, .inr (3, [.int th, .long sd, .long tp, .int (nI n), .ref ik, .ref iv, .ref ir, .ref il, .ref iy, .ref ig]))] s.heap.size = A at hD ⊢
  have hA : ∀ q : Nat, s.heap.size ≤ q → A q := fun q h => by rw [← hAe]; exact Or.inr h
  have hS : va_S A s.heap s.heap [] := va_S.rf
  have hP : va_P (dC, dI) classes [(jm, .inr (3, [.int th, .long sd, .long tp, .int (nI n), .ref ik, .ref iv, .ref ir, .ref il, .ref iy, .ref ig]))] s.heap := hP
  have hl := lv_entry ([.ref jm, .int p0]) (n := 2) (Nat.le_of_ble_eq_true rfl)
  rw [lg_entry_eq]
  generalize (lg_sl ([.ref jm, .int p0]) ++ List.replicate (2 - (lg_sl ([.ref jm, .int p0])).length) Slot.unset).toArray = ls at hl ⊢
  have hl : lv_has ls 2 [(0, .ref jm), (1, .int p0)] := hl
  refine lv_aload_n hx hb d_M_refuse_0 rfl (lv_at hl 0 rfl) ?_
  refine lv_iload_n hx hb d_M_refuse_1 rfl (lv_at hl 1 rfl) ?_
  refine va_put (D := (dC, dI)) (ci := 3) (v := .int p0) (ty := .int) (C := R_M) (T := F_M) (N := 10) hx hb hts (lay_M _) ft_M tok_M nok_M hown hK hP hD hS 0 rfl rfl 0 (by decide) (hts _ (List.mem_cons_of_mem _ m_336)) (fun _ h9 => h9) rfl (by decide +kernel) rfl rfl (Nat.le_of_ble_eq_true rfl) d_M_refuse_2 (fun H locs hP hD hS => ?_)
  have hP : va_P (dC, dI) classes [(jm, .inr (3, [.int p0, .long sd, .long tp, .int (nI n), .ref ik, .ref iv, .ref ir, .ref il, .ref iy, .ref ig]))] H := hP
  have hD : va_D A [(jm, .inr (3, [.int p0, .long sd, .long tp, .int (nI n), .ref ik, .ref iv, .ref ir, .ref il, .ref iy, .ref ig]))] := hD
  refine lv_iconst (v := nI 0) hx hb d_M_refuse_5 (by decide +kernel) ?_
  have hP9 := hP.sub (ws' := [(jm, .inr (3, [.int p0, .long sd, .long tp, .int (nI n), .ref ik, .ref iv, .ref ir, .ref il, .ref iy, .ref ig]))]) [0] rfl
  have hD9 := hD.sub (ws' := [(jm, .inr (3, [.int p0, .long sd, .long tp, .int (nI n), .ref ik, .ref iv, .ref ir, .ref il, .ref iy, .ref ig]))]) [0] (by decide) rfl
  have hK9 := hK.sub (tys' := []) [] rfl
  exact W.iret (v := nI 0) hx hb hr (fun t ht hW => ⟨⟨nI 0, (), rfl, rfl, by rw [ht]; exact hP9, va_K.moved hW.alike hK9, hD9⟩, hS.F ht⟩) hS.2.2 d_M_refuse_6
set_option maxHeartbeats 4000000 in
set_option maxRecDepth 100000 in
/-- reference: in -/
theorem c_M_in_ (l : Launch) (dC : Nat → ClassId) (dI : Nat → Nat → Nat) (v0 a0 b0 : Int32)  : Met l y_M_in_ w_M_in_ ({ frames := 0, cells := 0, slots := 0, locals := 0 }) (ro_P dC dI [.int v0, .int a0, .int b0] [] []) (vp_Si (fun r => r = bI (inB v0 a0 b0))) 0 0 (fun _ => False) := by
  refine Met.ofW (cc := b_M_in_) (maxL := 3) (ret := (Option.some Jvm.ClassFile.FieldType.boolean)) (by decide) rfl ?_
  intro p e s m args below meth c s₁ B0 hml hv0
  obtain ⟨rfl, hP, hK, hN⟩ := hv0
  have hx := B0.exec
  have hb := B0.bytes
  have hr := B0.returns
  have hts := atoms_spec (ws := w_M_in_) B0.pre
  have hown : s.vm.findClass R_M = some m.cls := findClass_of_methodNamed B0.named
  have hlocks := B0.notSynchronized
  have hP : va_P (dC, dI) classes [] s.heap := hP
  have hl := lv_entry ([.int v0, .int a0, .int b0]) (n := 3) (Nat.le_of_ble_eq_true rfl)
  rw [lg_entry_eq]
  generalize (lg_sl ([.int v0, .int a0, .int b0]) ++ List.replicate (3 - (lg_sl ([.int v0, .int a0, .int b0])).length) Slot.unset).toArray = ls at hl ⊢
  have hl : lv_has ls 3 [(0, .int v0), (1, .int a0), (2, .int b0)] := hl
  refine lv_iload_n hx hb d_M_in__0 rfl (lv_at hl 0 rfl) ?_
  refine lv_iload_n hx hb d_M_in__1 rfl (lv_at hl 1 rfl) ?_
  refine lv_icmp_lt (tgt := 14) hx hb d_M_in__2 (by decide) (fun c_2 => ?_) (fun c_2 => ?_)
  · skip
    refine lv_iconst (v := nI 0) hx hb d_M_in__14 (by decide +kernel) ?_
    exact W.zret (v := nI 0) (ty := .boolean) hx hb hr (by decide +kernel) (fun t ht hW => ⟨nI 0, rfl, (by simp [inB, bI, c_2]), ht⟩) (fun _ h => nomatch h) d_M_in__15
  · skip
    refine lv_iload_n hx hb d_M_in__5 rfl (lv_at hl 0 rfl) ?_
    refine lv_iload_n hx hb d_M_in__6 rfl (lv_at hl 2 rfl) ?_
    refine lv_icmp_gt (tgt := 14) hx hb d_M_in__7 (by decide) (fun c_7 => ?_) (fun c_7 => ?_)
    · skip
      refine lv_iconst (v := nI 0) hx hb d_M_in__14 (by decide +kernel) ?_
      exact W.zret (v := nI 0) (ty := .boolean) hx hb hr (by decide +kernel) (fun t ht hW => ⟨nI 0, rfl, (by simp [inB, bI, c_2, c_7]), ht⟩) (fun _ h => nomatch h) d_M_in__15
    · skip
      refine lv_iconst (v := nI 1) hx hb d_M_in__10 (by decide +kernel) ?_
      refine lv_goto (tgt := 15) hx hb d_M_in__11 (by decide) ?_
      exact W.zret (v := nI 1) (ty := .boolean) hx hb hr (by decide +kernel) (fun t ht hW => ⟨nI 1, rfl, (by simp [inB, bI, c_2, c_7]), ht⟩) (fun _ h => nomatch h) d_M_in__15
set_option maxHeartbeats 4000000 in
set_option maxRecDepth 100000 in
/-- reference: isPart -/
theorem c_M_isPart (l : Launch) (dC : Nat → ClassId) (dI : Nat → Nat → Nat) (jm ik iv ir il iy ig : Nat) (n : Nat) (th : Int32) (sd tp : Int64) (p0 : Int32)  : Met l y_M_isPart w_M_isPart ({ frames := 0, cells := 0, slots := 0, locals := 0 }) (ro_P dC dI [.ref jm, .int p0] [(jm, .inr (3, [.int th, .long sd, .long tp, .int (nI n), .ref ik, .ref iv, .ref ir, .ref il, .ref iy, .ref ig]))] []) (vp_Si (fun r => r = bI (hB n p0))) 0 0 (fun _ => False) := by
  refine Met.ofW (cc := b_M_isPart) (maxL := 2) (ret := (Option.some Jvm.ClassFile.FieldType.boolean)) (by decide) rfl ?_
  intro p e s m args below meth c s₁ B0 hml hv0
  obtain ⟨rfl, hP, hK, hN⟩ := hv0
  have hx := B0.exec
  have hb := B0.bytes
  have hr := B0.returns
  have hts := atoms_spec (ws := w_M_isPart) B0.pre
  have hown : s.vm.findClass R_M = some m.cls := findClass_of_methodNamed B0.named
  have hlocks := B0.notSynchronized
  have hP : va_P (dC, dI) classes [(jm, .inr (3, [.int th, .long sd, .long tp, .int (nI n), .ref ik, .ref iv, .ref ir, .ref il, .ref iy, .ref ig]))] s.heap := hP
  have hl := lv_entry ([.ref jm, .int p0]) (n := 2) (Nat.le_of_ble_eq_true rfl)
  rw [lg_entry_eq]
  generalize (lg_sl ([.ref jm, .int p0]) ++ List.replicate (2 - (lg_sl ([.ref jm, .int p0])).length) Slot.unset).toArray = ls at hl ⊢
  have hl : lv_has ls 2 [(0, .ref jm), (1, .int p0)] := hl
  refine lv_iload_n hx hb d_M_isPart_0 rfl (lv_at hl 1 rfl) ?_
  refine lv_if_lt (tgt := 16) hx hb d_M_isPart_1 (by decide) (fun c_1 => ?_) (fun c_1 => ?_)
  · skip
    refine lv_iconst (v := nI 0) hx hb d_M_isPart_16 (by decide +kernel) ?_
    exact W.zret (v := nI 0) (ty := .boolean) hx hb hr (by decide +kernel) (fun t ht hW => ⟨nI 0, rfl, (by simp [hB, bI, c_1]), ht⟩) (fun _ h => nomatch h) d_M_isPart_17
  · skip
    refine lv_iload_n hx hb d_M_isPart_4 rfl (lv_at hl 1 rfl) ?_
    refine lv_aload_n hx hb d_M_isPart_5 rfl (lv_at hl 0 rfl) ?_
    refine va_get (D := (dC, dI)) (ci := 3) (v := .int (nI n)) (C := R_M) (T := F_M) (N := 10) hx hb hts (lay_M _) hown hK hP 0 rfl rfl 3 (by decide) (hts _ (List.mem_cons_of_mem _ m_339)) (fun _ h9 => h9) rfl d_M_isPart_6 ?_
    refine lv_icmp_ge (tgt := 16) hx hb d_M_isPart_9 (by decide) (fun c_9 => ?_) (fun c_9 => ?_)
    · skip
      refine lv_iconst (v := nI 0) hx hb d_M_isPart_16 (by decide +kernel) ?_
      exact W.zret (v := nI 0) (ty := .boolean) hx hb hr (by decide +kernel) (fun t ht hW => ⟨nI 0, rfl, (by simp [hB, bI, c_1, c_9]), ht⟩) (fun _ h => nomatch h) d_M_isPart_17
    · skip
      refine lv_iconst (v := nI 1) hx hb d_M_isPart_12 (by decide +kernel) ?_
      refine lv_goto (tgt := 17) hx hb d_M_isPart_13 (by decide) ?_
      exact W.zret (v := nI 1) (ty := .boolean) hx hb hr (by decide +kernel) (fun t ht hW => ⟨nI 1, rfl, (by simp [hB, bI, c_1, c_9]), ht⟩) (fun _ h => nomatch h) d_M_isPart_17
set_option maxHeartbeats 4000000 in
set_option maxRecDepth 100000 in
/-- reference: number -/
theorem c_M_number (l : Launch) (dC : Nat → ClassId) (dI : Nat → Nat → Nat) (jm ik iv ir il iy ig : Nat) (n : Nat) (th : Int32) (sd tp : Int64) (q : Nat) (h0 : 0 < q) (hq : q < 2 ^ 31) (sz : Nat) : Met l y_M_number w_M_number ({ frames := 0, cells := 0, slots := 0, locals := 0 }) (wr_P dC dI [.ref jm, .int (nI q)] [(jm, .inr (3, [.int th, .long sd, .long tp, .int (nI n), .ref ik, .ref iv, .ref ir, .ref il, .ref iy, .ref ig]))] [] sz) (va_Qi (fun (r : Int32) (_ : Unit) => r = nbI tp q) (fun (u : Unit) => wr_B dC dI (va_A [(jm, .inr (3, [.int th, .long sd, .long tp, .int (nI n), .ref ik, .ref iv, .ref ir, .ref il, .ref iy, .ref ig]))] sz) [(jm, .inr (3, [.int th, .long sd, .long (nbX tp q), .int (nI n), .ref ik, .ref iv, .ref ir, .ref il, .ref iy, .ref ig]))] []) (va_A [(jm, .inr (3, [.int th, .long sd, .long tp, .int (nI n), .ref ik, .ref iv, .ref ir, .ref il, .ref iy, .ref ig]))] sz)) 0 0 (va_A [(jm, .inr (3, [.int th, .long sd, .long tp, .int (nI n), .ref ik, .ref iv, .ref ir, .ref il, .ref iy, .ref ig]))] sz) := by
  refine Met.ofW (cc := b_M_number) (maxL := 2) (ret := (Option.some Jvm.ClassFile.FieldType.int)) (by decide) rfl ?_
  intro p e s m args below meth c s₁ B0 hml hv0
  obtain ⟨rfl, hsz, hP, hK, hD0, hN⟩ := hv0
  have hx := B0.exec
  have hb := B0.bytes
  have hr := B0.returns
  have hts := atoms_spec (ws := w_M_number) B0.pre
  have hown : s.vm.findClass R_M = some m.cls := findClass_of_methodNamed B0.named
  have hlocks := B0.notSynchronized
  subst hsz
  have hD := hD0.self (sz := s.heap.size)
  generalize hAe : va_A [(jm, .inr (3, [.int th, .long sd, .long tp, .int (nI n), .ref ik, .ref iv, .ref ir, .ref il, .ref iy, .ref ig]))] s.heap.size = A at hD ⊢
  have hA : ∀ q : Nat, s.heap.size ≤ q → A q := fun q h => by rw [← hAe]; exact Or.inr h
  have hS : va_S A s.heap s.heap [] := va_S.rf
  have hP : va_P (dC, dI) classes [(jm, .inr (3, [.int th, .long sd, .long tp, .int (nI n), .ref ik, .ref iv, .ref ir, .ref il, .ref iy, .ref ig]))] s.heap := hP
  have hl := lv_entry ([.ref jm, .int (nI q)]) (n := 2) (Nat.le_of_ble_eq_true rfl)
  rw [lg_entry_eq]
  generalize (lg_sl ([.ref jm, .int (nI q)]) ++ List.replicate (2 - (lg_sl ([.ref jm, .int (nI q)])).length) Slot.unset).toArray = ls at hl ⊢
  have hl : lv_has ls 2 [(0, .ref jm), (1, .int (nI q))] := hl
  refine lv_aload_n hx hb d_M_number_0 rfl (lv_at hl 0 rfl) ?_
  refine lv_aload_n hx hb d_M_number_1 rfl (lv_at hl 0 rfl) ?_
  refine va_get (D := (dC, dI)) (ci := 3) (v := .long tp) (C := R_M) (T := F_M) (N := 10) hx hb hts (lay_M _) hown hK hP 0 rfl rfl 2 (by decide) (hts _ (List.mem_cons_of_mem _ m_338)) (fun _ h9 => h9) rfl d_M_number_2 ?_
  refine lv_ldc2 (v := 6364136223846793005) hx hb hown (hts _ (List.mem_cons_of_mem _ m_390)) d_M_number_5 ?_
  refine lv_lmul hx hb d_M_number_8 ?_
  refine lv_ldc2 (v := 1442695040888963407) hx hb hown (hts _ (List.mem_cons_of_mem _ m_391)) d_M_number_9 ?_
  refine lv_ladd hx hb d_M_number_12 ?_
  refine lv_topl (fun w_1 ew_1 => ?_)
  have ew_1 : (nbX tp q) = w_1 := (ew_1.trans (by unfold nbX; rw [if_neg (by omega)]; rfl)).symm
  subst ew_1
  refine va_put (D := (dC, dI)) (ci := 3) (v := .long (nbX tp q)) (ty := .long) (C := R_M) (T := F_M) (N := 10) hx hb hts (lay_M _) ft_M tok_M nok_M hown hK hP hD hS 0 rfl rfl 2 (by decide) (hts _ (List.mem_cons_of_mem _ m_338)) (fun _ h9 => h9) rfl (by decide +kernel) rfl rfl (Nat.le_of_ble_eq_true rfl) d_M_number_13 (fun H locs hP hD hS => ?_)
  have hP : va_P (dC, dI) classes [(jm, .inr (3, [.int th, .long sd, .long (nbX tp q), .int (nI n), .ref ik, .ref iv, .ref ir, .ref il, .ref iy, .ref ig]))] H := hP
  have hD : va_D A [(jm, .inr (3, [.int th, .long sd, .long (nbX tp q), .int (nI n), .ref ik, .ref iv, .ref ir, .ref il, .ref iy, .ref ig]))] := hD
  refine lv_aload_n hx hb d_M_number_16 rfl (lv_at hl 0 rfl) ?_
  refine va_get (D := (dC, dI)) (ci := 3) (v := .long (nbX tp q)) (C := R_M) (T := F_M) (N := 10) hx hb hts (lay_M _) hown hK hP 0 rfl rfl 2 (by decide) (hts _ (List.mem_cons_of_mem _ m_338)) (fun _ h9 => h9) rfl d_M_number_17 ?_
  refine lv_bipush (v := nI 33) hx hb d_M_number_20 (by decide +kernel) ?_
  refine lv_lushr hx hb d_M_number_22 rfl ?_
  refine lv_topl (fun w_2 ew_2 => ?_)
  have ew_2 : (lN (hi9 (nbX tp q))) = w_2 := (ew_2.trans (hi9_shl _)).symm
  subst ew_2
  refine lv_iload_n hx hb d_M_number_23 rfl (lv_at hl 1 rfl) ?_
  refine lv_i2l hx hb d_M_number_24 rfl ?_
  refine lv_topl (fun w_3 ew_3 => ?_)
  have ew_3 : (lN q) = w_3 := (ew_3.trans (nI_l hq)).symm
  subst ew_3
  refine lv_lrem hx hb d_M_number_25 (lN_nz h0 hq) ?_
  refine lv_l2i hx hb d_M_number_26 rfl ?_
  refine lv_topi (fun w_4 ew_4 => ?_)
  have ew_4 : (nbI tp q) = w_4 := (ew_4.trans (by rw [nb_lrem _ h0 hq]; unfold nbI nbX; rw [if_neg (by omega), if_neg (by omega)])).symm
  subst ew_4
  have hP9 := hP.sub (ws' := [(jm, .inr (3, [.int th, .long sd, .long (nbX tp q), .int (nI n), .ref ik, .ref iv, .ref ir, .ref il, .ref iy, .ref ig]))]) [0] rfl
  have hD9 := hD.sub (ws' := [(jm, .inr (3, [.int th, .long sd, .long (nbX tp q), .int (nI n), .ref ik, .ref iv, .ref ir, .ref il, .ref iy, .ref ig]))]) [0] (by decide) rfl
  have hK9 := hK.sub (tys' := []) [] rfl
  exact W.iret (v := nbI tp q) hx hb hr (fun t ht hW => ⟨⟨nbI tp q, (), rfl, rfl, by rw [ht]; exact hP9, va_K.moved hW.alike hK9, hD9⟩, hS.F ht⟩) hS.2.2 d_M_number_27
set_option maxHeartbeats 4000000 in
set_option maxRecDepth 100000 in
/-- reference: mayRefer -/
theorem c_M_mayRefer (l : Launch) (dC : Nat → ClassId) (dI : Nat → Nat → Nat) (kd tk : Int32)  : Met l y_M_mayRefer w_M_mayRefer ({ frames := 0, cells := 0, slots := 0, locals := 0 }) (ro_P dC dI [.int kd, .int tk] [] []) (vp_Si (fun r => r = bI (mR kd tk))) 0 0 (fun _ => False) := by
  refine Met.ofW (cc := b_M_mayRefer) (maxL := 2) (ret := (Option.some Jvm.ClassFile.FieldType.boolean)) (by decide) rfl ?_
  intro p e s m args below meth c s₁ B0 hml hv0
  obtain ⟨rfl, hP, hK, hN⟩ := hv0
  have hx := B0.exec
  have hb := B0.bytes
  have hr := B0.returns
  have hts := atoms_spec (ws := w_M_mayRefer) B0.pre
  have hown : s.vm.findClass R_M = some m.cls := findClass_of_methodNamed B0.named
  have hlocks := B0.notSynchronized
  have hP : va_P (dC, dI) classes [] s.heap := hP
  have hl := lv_entry ([.int kd, .int tk]) (n := 2) (Nat.le_of_ble_eq_true rfl)
  rw [lg_entry_eq]
  generalize (lg_sl ([.int kd, .int tk]) ++ List.replicate (2 - (lg_sl ([.int kd, .int tk])).length) Slot.unset).toArray = ls at hl ⊢
  have hl : lv_has ls 2 [(0, .int kd), (1, .int tk)] := hl
  refine lv_iload_n hx hb d_M_mayRefer_0 rfl (lv_at hl 0 rfl) ?_
  by_cases o_1 : kd.toInt < 1 ∨ 6 < kd.toInt
  · skip
    refine lv_tableOut (tgt := 98) hx hb d_M_mayRefer_1 o_1 (by decide) ?_
    have e_m : mR kd tk = false := mR_o o_1
    refine lv_iconst (v := nI 0) hx hb d_M_mayRefer_98 (by decide +kernel) ?_
    exact W.zret (v := nI 0) (ty := .boolean) hx hb hr (by decide +kernel) (fun t ht hW => ⟨nI 0, rfl, (by rw [e_m]; simp [bI]), ht⟩) (fun _ h => nomatch h) d_M_mayRefer_99
  · skip
    have o1_1 : ¬ kd.toInt < 1 := fun h => o_1 (Or.inl h)
    have o2_1 : ¬ 6 < kd.toInt := fun h => o_1 (Or.inr h)
    by_cases o_1_1 : kd.toInt = 1
    · skip
      have o3 : kd = nI 1 := sw_eq o_1_1 (by decide +kernel)
      refine lv_tableIn (tgt := 40) hx hb d_M_mayRefer_1 o1_1 o2_1 (by rw [o_1_1]; rfl) (by decide) ?_
      have e_m : mR kd tk = decide (tk = nI 0) := by rw [o3]; exact mR_1 tk
      refine lv_iload_n hx hb d_M_mayRefer_40 rfl (lv_at hl 1 rfl) ?_
      refine lv_if_ne (tgt := 48) hx hb d_M_mayRefer_41 (by decide) (fun c_41 => ?_) (fun c_41 => ?_)
      · skip
        rw [← nI_0] at c_41
        refine lv_iconst (v := nI 0) hx hb d_M_mayRefer_48 (by decide +kernel) ?_
        exact W.zret (v := nI 0) (ty := .boolean) hx hb hr (by decide +kernel) (fun t ht hW => ⟨nI 0, rfl, (by rw [e_m]; simp [bI, c_41]), ht⟩) (fun _ h => nomatch h) d_M_mayRefer_49
      · skip
        rw [← nI_0] at c_41
        refine lv_iconst (v := nI 1) hx hb d_M_mayRefer_44 (by decide +kernel) ?_
        refine lv_goto (tgt := 49) hx hb d_M_mayRefer_45 (by decide) ?_
        exact W.zret (v := nI 1) (ty := .boolean) hx hb hr (by decide +kernel) (fun t ht hW => ⟨nI 1, rfl, (by rw [e_m]; simp [bI, c_41]), ht⟩) (fun _ h => nomatch h) d_M_mayRefer_49
    · skip
      by_cases o_1_2 : kd.toInt = 2
      · skip
        have o3 : kd = nI 2 := sw_eq o_1_2 (by decide +kernel)
        refine lv_tableIn (tgt := 98) hx hb d_M_mayRefer_1 o1_1 o2_1 (by rw [o_1_2]; rfl) (by decide) ?_
        have e_m : mR kd tk = false := by rw [o3]; exact mR_2 tk
        refine lv_iconst (v := nI 0) hx hb d_M_mayRefer_98 (by decide +kernel) ?_
        exact W.zret (v := nI 0) (ty := .boolean) hx hb hr (by decide +kernel) (fun t ht hW => ⟨nI 0, rfl, (by rw [e_m]; simp [bI]), ht⟩) (fun _ h => nomatch h) d_M_mayRefer_99
      · skip
        by_cases o_1_3 : kd.toInt = 3
        · skip
          have o3 : kd = nI 3 := sw_eq o_1_3 (by decide +kernel)
          refine lv_tableIn (tgt := 40) hx hb d_M_mayRefer_1 o1_1 o2_1 (by rw [o_1_3]; rfl) (by decide) ?_
          have e_m : mR kd tk = decide (tk = nI 0) := by rw [o3]; exact mR_3 tk
          refine lv_iload_n hx hb d_M_mayRefer_40 rfl (lv_at hl 1 rfl) ?_
          refine lv_if_ne (tgt := 48) hx hb d_M_mayRefer_41 (by decide) (fun c_41 => ?_) (fun c_41 => ?_)
          · skip
            rw [← nI_0] at c_41
            refine lv_iconst (v := nI 0) hx hb d_M_mayRefer_48 (by decide +kernel) ?_
            exact W.zret (v := nI 0) (ty := .boolean) hx hb hr (by decide +kernel) (fun t ht hW => ⟨nI 0, rfl, (by rw [e_m]; simp [bI, c_41]), ht⟩) (fun _ h => nomatch h) d_M_mayRefer_49
          · skip
            rw [← nI_0] at c_41
            refine lv_iconst (v := nI 1) hx hb d_M_mayRefer_44 (by decide +kernel) ?_
            refine lv_goto (tgt := 49) hx hb d_M_mayRefer_45 (by decide) ?_
            exact W.zret (v := nI 1) (ty := .boolean) hx hb hr (by decide +kernel) (fun t ht hW => ⟨nI 1, rfl, (by rw [e_m]; simp [bI, c_41]), ht⟩) (fun _ h => nomatch h) d_M_mayRefer_49
        · skip
          by_cases o_1_4 : kd.toInt = 4
          · skip
            have o3 : kd = nI 4 := sw_eq o_1_4 (by decide +kernel)
            refine lv_tableIn (tgt := 50) hx hb d_M_mayRefer_1 o1_1 o2_1 (by rw [o_1_4]; rfl) (by decide) ?_
            have e_m : mR kd tk = decide (tk = nI 2) := by rw [o3]; exact mR_4 tk
            refine lv_iload_n hx hb d_M_mayRefer_50 rfl (lv_at hl 1 rfl) ?_
            refine lv_iconst (v := nI 2) hx hb d_M_mayRefer_51 (by decide +kernel) ?_
            refine lv_icmp_ne (tgt := 59) hx hb d_M_mayRefer_52 (by decide) (fun c_52 => ?_) (fun c_52 => ?_)
            · skip
              refine lv_iconst (v := nI 0) hx hb d_M_mayRefer_59 (by decide +kernel) ?_
              exact W.zret (v := nI 0) (ty := .boolean) hx hb hr (by decide +kernel) (fun t ht hW => ⟨nI 0, rfl, (by rw [e_m]; simp [bI, c_52]), ht⟩) (fun _ h => nomatch h) d_M_mayRefer_60
            · skip
              refine lv_iconst (v := nI 1) hx hb d_M_mayRefer_55 (by decide +kernel) ?_
              refine lv_goto (tgt := 60) hx hb d_M_mayRefer_56 (by decide) ?_
              exact W.zret (v := nI 1) (ty := .boolean) hx hb hr (by decide +kernel) (fun t ht hW => ⟨nI 1, rfl, (by rw [e_m]; simp [bI, c_52]), ht⟩) (fun _ h => nomatch h) d_M_mayRefer_60
          · skip
            by_cases o_1_5 : kd.toInt = 5
            · skip
              have o3 : kd = nI 5 := sw_eq o_1_5 (by decide +kernel)
              refine lv_tableIn (tgt := 61) hx hb d_M_mayRefer_1 o1_1 o2_1 (by rw [o_1_5]; rfl) (by decide) ?_
              have e_m : mR kd tk = (decide (tk = nI 1) || decide (tk = nI 3) || decide (tk = nI 4)) := by rw [o3]; exact mR_5 tk
              refine lv_iload_n hx hb d_M_mayRefer_61 rfl (lv_at hl 1 rfl) ?_
              refine lv_iconst (v := nI 1) hx hb d_M_mayRefer_62 (by decide +kernel) ?_
              refine lv_icmp_eq (tgt := 76) hx hb d_M_mayRefer_63 (by decide) (fun c_63 => ?_) (fun c_63 => ?_)
              · skip
                refine lv_iconst (v := nI 1) hx hb d_M_mayRefer_76 (by decide +kernel) ?_
                refine lv_goto (tgt := 81) hx hb d_M_mayRefer_77 (by decide) ?_
                exact W.zret (v := nI 1) (ty := .boolean) hx hb hr (by decide +kernel) (fun t ht hW => ⟨nI 1, rfl, (by rw [e_m]; simp [bI, c_63]), ht⟩) (fun _ h => nomatch h) d_M_mayRefer_81
              · skip
                refine lv_iload_n hx hb d_M_mayRefer_66 rfl (lv_at hl 1 rfl) ?_
                refine lv_iconst (v := nI 3) hx hb d_M_mayRefer_67 (by decide +kernel) ?_
                refine lv_icmp_eq (tgt := 76) hx hb d_M_mayRefer_68 (by decide) (fun c_68 => ?_) (fun c_68 => ?_)
                · skip
                  refine lv_iconst (v := nI 1) hx hb d_M_mayRefer_76 (by decide +kernel) ?_
                  refine lv_goto (tgt := 81) hx hb d_M_mayRefer_77 (by decide) ?_
                  exact W.zret (v := nI 1) (ty := .boolean) hx hb hr (by decide +kernel) (fun t ht hW => ⟨nI 1, rfl, (by rw [e_m]; simp [bI, c_63, c_68]), ht⟩) (fun _ h => nomatch h) d_M_mayRefer_81
                · skip
                  refine lv_iload_n hx hb d_M_mayRefer_71 rfl (lv_at hl 1 rfl) ?_
                  refine lv_iconst (v := nI 4) hx hb d_M_mayRefer_72 (by decide +kernel) ?_
                  refine lv_icmp_ne (tgt := 80) hx hb d_M_mayRefer_73 (by decide) (fun c_73 => ?_) (fun c_73 => ?_)
                  · skip
                    refine lv_iconst (v := nI 0) hx hb d_M_mayRefer_80 (by decide +kernel) ?_
                    exact W.zret (v := nI 0) (ty := .boolean) hx hb hr (by decide +kernel) (fun t ht hW => ⟨nI 0, rfl, (by rw [e_m]; simp [bI, c_63, c_68, c_73]), ht⟩) (fun _ h => nomatch h) d_M_mayRefer_81
                  · skip
                    refine lv_iconst (v := nI 1) hx hb d_M_mayRefer_76 (by decide +kernel) ?_
                    refine lv_goto (tgt := 81) hx hb d_M_mayRefer_77 (by decide) ?_
                    exact W.zret (v := nI 1) (ty := .boolean) hx hb hr (by decide +kernel) (fun t ht hW => ⟨nI 1, rfl, (by rw [e_m]; simp [bI, c_63, c_68, c_73]), ht⟩) (fun _ h => nomatch h) d_M_mayRefer_81
            · skip
              have o_1_6 : kd.toInt = 6 := by omega
              have o3 : kd = nI 6 := sw_eq o_1_6 (by decide +kernel)
              refine lv_tableIn (tgt := 82) hx hb d_M_mayRefer_1 o1_1 o2_1 (by rw [o_1_6]; rfl) (by decide) ?_
              have e_m : mR kd tk = (decide (tk = nI 4) || decide (tk = nI 5)) := by rw [o3]; exact mR_6 tk
              refine lv_iload_n hx hb d_M_mayRefer_82 rfl (lv_at hl 1 rfl) ?_
              refine lv_iconst (v := nI 4) hx hb d_M_mayRefer_83 (by decide +kernel) ?_
              refine lv_icmp_eq (tgt := 92) hx hb d_M_mayRefer_84 (by decide) (fun c_84 => ?_) (fun c_84 => ?_)
              · skip
                refine lv_iconst (v := nI 1) hx hb d_M_mayRefer_92 (by decide +kernel) ?_
                refine lv_goto (tgt := 97) hx hb d_M_mayRefer_93 (by decide) ?_
                exact W.zret (v := nI 1) (ty := .boolean) hx hb hr (by decide +kernel) (fun t ht hW => ⟨nI 1, rfl, (by rw [e_m]; simp [bI, c_84]), ht⟩) (fun _ h => nomatch h) d_M_mayRefer_97
              · skip
                refine lv_iload_n hx hb d_M_mayRefer_87 rfl (lv_at hl 1 rfl) ?_
                refine lv_iconst (v := nI 5) hx hb d_M_mayRefer_88 (by decide +kernel) ?_
                refine lv_icmp_ne (tgt := 96) hx hb d_M_mayRefer_89 (by decide) (fun c_89 => ?_) (fun c_89 => ?_)
                · skip
                  refine lv_iconst (v := nI 0) hx hb d_M_mayRefer_96 (by decide +kernel) ?_
                  exact W.zret (v := nI 0) (ty := .boolean) hx hb hr (by decide +kernel) (fun t ht hW => ⟨nI 0, rfl, (by rw [e_m]; simp [bI, c_84, c_89]), ht⟩) (fun _ h => nomatch h) d_M_mayRefer_97
                · skip
                  refine lv_iconst (v := nI 1) hx hb d_M_mayRefer_92 (by decide +kernel) ?_
                  refine lv_goto (tgt := 97) hx hb d_M_mayRefer_93 (by decide) ?_
                  exact W.zret (v := nI 1) (ty := .boolean) hx hb hr (by decide +kernel) (fun t ht hW => ⟨nI 1, rfl, (by rw [e_m]; simp [bI, c_84, c_89]), ht⟩) (fun _ h => nomatch h) d_M_mayRefer_97
set_option maxHeartbeats 4000000 in
set_option maxRecDepth 100000 in
/-- reference: isFit -/
theorem c_M_isFit (l : Launch) (dC : Nat → ClassId) (dI : Nat → Nat → Nat) (jm ik iv ir il iy ig : Nat) (n : Nat) (th : Int32) (sd tp : Int64) (dv dr : ClassId) (V R : Nat → Int32) (i : Nat) (hn : n ≤ 43) (hR : rfK n R) (hi : i < n) : Met l y_M_isFit w_M_isFit ({ frames := 0, cells := 0, slots := 0, locals := 0 }) (ro_P dC dI [.ref jm, .int (nI i)] [(jm, .inr (3, [.int th, .long sd, .long tp, .int (nI n), .ref ik, .ref iv, .ref ir, .ref il, .ref iy, .ref ig])), (iv, .inl (dv, 86, .inl V)), (ir, .inl (dr, 86, .inl R))] [(dv, .int), (dr, .int)]) (vp_Si (fun r => r = bI (ft9 V R i))) 0 0 (fun _ => False) := by
  refine Met.ofW (cc := b_M_isFit) (maxL := 2) (ret := (Option.some Jvm.ClassFile.FieldType.boolean)) (by decide) rfl ?_
  intro p e s m args below meth c s₁ B0 hml hv0
  obtain ⟨rfl, hP, hK, hN⟩ := hv0
  have hx := B0.exec
  have hb := B0.bytes
  have hr := B0.returns
  have hts := atoms_spec (ws := w_M_isFit) B0.pre
  have hown : s.vm.findClass R_M = some m.cls := findClass_of_methodNamed B0.named
  have hlocks := B0.notSynchronized
  have hP : va_P (dC, dI) classes [(jm, .inr (3, [.int th, .long sd, .long tp, .int (nI n), .ref ik, .ref iv, .ref ir, .ref il, .ref iy, .ref ig])), (iv, .inl (dv, 86, .inl V)), (ir, .inl (dr, 86, .inl R))] s.heap := hP
  have hl := lv_entry ([.ref jm, .int (nI i)]) (n := 2) (Nat.le_of_ble_eq_true rfl)
  rw [lg_entry_eq]
  generalize (lg_sl ([.ref jm, .int (nI i)]) ++ List.replicate (2 - (lg_sl ([.ref jm, .int (nI i)])).length) Slot.unset).toArray = ls at hl ⊢
  have hl : lv_has ls 2 [(0, .ref jm), (1, .int (nI i))] := hl
  refine lv_aload_n hx hb d_M_isFit_0 rfl (lv_at hl 0 rfl) ?_
  refine va_get (D := (dC, dI)) (ci := 3) (v := .ref ir) (C := R_M) (T := F_M) (N := 10) hx hb hts (lay_M _) hown hK hP 0 rfl rfl 6 (by decide) (hts _ (List.mem_cons_of_mem _ m_342)) (fun _ h9 => h9) rfl d_M_isFit_1 ?_
  refine lv_iload_n hx hb d_M_isFit_4 rfl (lv_at hl 1 rfl) ?_
  refine va_iald hx hb hK hP 2 1 rfl rfl (vp_in_nI (by omega) (by omega)) d_M_isFit_5 ?_
  refine lv_topi (fun w_1 ew_1 => ?_)
  rw [nI_clamp (by omega)] at ew_1
  have ew_1 := ew_1.symm
  subst ew_1
  refine lv_iconst (v := (-1)) hx hb d_M_isFit_6 (by decide +kernel) ?_
  refine lv_icmp_eq (tgt := 38) hx hb d_M_isFit_7 (by decide) (fun c_7 => ?_) (fun c_7 => ?_)
  · skip
    refine lv_iconst (v := nI 0) hx hb d_M_isFit_38 (by decide +kernel) ?_
    exact W.zret (v := nI 0) (ty := .boolean) hx hb hr (by decide +kernel) (fun t ht hW => ⟨nI 0, rfl, (by simp [ft9, bI, c_7]), ht⟩) (fun _ h => nomatch h) d_M_isFit_39
  · skip
    refine lv_aload_n hx hb d_M_isFit_10 rfl (lv_at hl 0 rfl) ?_
    refine va_get (D := (dC, dI)) (ci := 3) (v := .ref iv) (C := R_M) (T := F_M) (N := 10) hx hb hts (lay_M _) hown hK hP 0 rfl rfl 5 (by decide) (hts _ (List.mem_cons_of_mem _ m_341)) (fun _ h9 => h9) rfl d_M_isFit_11 ?_
    refine lv_aload_n hx hb d_M_isFit_14 rfl (lv_at hl 0 rfl) ?_
    refine va_get (D := (dC, dI)) (ci := 3) (v := .ref ir) (C := R_M) (T := F_M) (N := 10) hx hb hts (lay_M _) hown hK hP 0 rfl rfl 6 (by decide) (hts _ (List.mem_cons_of_mem _ m_342)) (fun _ h9 => h9) rfl d_M_isFit_15 ?_
    refine lv_iload_n hx hb d_M_isFit_18 rfl (lv_at hl 1 rfl) ?_
    refine va_iald hx hb hK hP 2 1 rfl rfl (vp_in_nI (by omega) (by omega)) d_M_isFit_19 ?_
    refine lv_topi (fun w_2 ew_2 => ?_)
    rw [nI_clamp (by omega)] at ew_2
    have ew_2 := ew_2.symm
    subst ew_2
    refine va_iald hx hb hK hP 1 0 rfl rfl (rfK_in hR hi (by omega) (by decide) c_7) d_M_isFit_20 ?_
    refine lv_iconst (v := nI 2) hx hb d_M_isFit_21 (by decide +kernel) ?_
    refine lv_irem hx hb d_M_isFit_22 (by decide +kernel) ?_
    refine lv_topi (fun w_3 ew_3 => ?_)
    have ew_3 : (rm2 (V (R i).toNatClampNeg)) = w_3 := (ew_3.trans (rfl)).symm
    subst ew_3
    refine lv_aload_n hx hb d_M_isFit_23 rfl (lv_at hl 0 rfl) ?_
    refine va_get (D := (dC, dI)) (ci := 3) (v := .ref iv) (C := R_M) (T := F_M) (N := 10) hx hb hts (lay_M _) hown hK hP 0 rfl rfl 5 (by decide) (hts _ (List.mem_cons_of_mem _ m_341)) (fun _ h9 => h9) rfl d_M_isFit_24 ?_
    refine lv_iload_n hx hb d_M_isFit_27 rfl (lv_at hl 1 rfl) ?_
    refine va_iald hx hb hK hP 1 0 rfl rfl (vp_in_nI (by omega) (by omega)) d_M_isFit_28 ?_
    refine lv_topi (fun w_4 ew_4 => ?_)
    rw [nI_clamp (by omega)] at ew_4
    have ew_4 := ew_4.symm
    subst ew_4
    refine lv_iconst (v := nI 2) hx hb d_M_isFit_29 (by decide +kernel) ?_
    refine lv_irem hx hb d_M_isFit_30 (by decide +kernel) ?_
    refine lv_topi (fun w_5 ew_5 => ?_)
    have ew_5 : (rm2 (V i)) = w_5 := (ew_5.trans (rfl)).symm
    subst ew_5
    refine lv_icmp_ne (tgt := 38) hx hb d_M_isFit_31 (by decide) (fun c_31 => ?_) (fun c_31 => ?_)
    · skip
      refine lv_iconst (v := nI 0) hx hb d_M_isFit_38 (by decide +kernel) ?_
      exact W.zret (v := nI 0) (ty := .boolean) hx hb hr (by decide +kernel) (fun t ht hW => ⟨nI 0, rfl, (by simp [ft9, bI, c_7, c_31]), ht⟩) (fun _ h => nomatch h) d_M_isFit_39
    · skip
      refine lv_iconst (v := nI 1) hx hb d_M_isFit_34 (by decide +kernel) ?_
      refine lv_goto (tgt := 39) hx hb d_M_isFit_35 (by decide) ?_
      exact W.zret (v := nI 1) (ty := .boolean) hx hb hr (by decide +kernel) (fun t ht hW => ⟨nI 1, rfl, (by simp [ft9, bI, c_7, c_31]), ht⟩) (fun _ h => nomatch h) d_M_isFit_39
set_option maxHeartbeats 4000000 in
set_option maxRecDepth 100000 in
/-- reference: ofKind -/
theorem c_M_ofKind (l : Launch) (dC : Nat → ClassId) (dI : Nat → Nat → Nat) (jm ik iv ir il iy ig : Nat) (n : Nat) (th : Int32) (sd tp : Int64) (dk : ClassId) (K : Nat → Int32) (kd : Int32) (hn : n ≤ 43) : Met l y_M_ofKind w_M_ofKind ({ frames := 0, cells := 0, slots := 0, locals := 0 }) (ro_P dC dI [.ref jm, .int kd] [(jm, .inr (3, [.int th, .long sd, .long tp, .int (nI n), .ref ik, .ref iv, .ref ir, .ref il, .ref iy, .ref ig])), (ik, .inl (dk, 86, .inl K))] [(dk, .int)]) (vp_Si (fun r => r = nI (cnt (kP K kd) n))) 0 0 (fun _ => False) := by
  refine Met.ofW (cc := b_M_ofKind) (maxL := 4) (ret := (Option.some Jvm.ClassFile.FieldType.int)) (by decide) rfl ?_
  intro p e s m args below meth c s₁ B0 hml hv0
  obtain ⟨rfl, hP, hK, hN⟩ := hv0
  have hx := B0.exec
  have hb := B0.bytes
  have hr := B0.returns
  have hts := atoms_spec (ws := w_M_ofKind) B0.pre
  have hown : s.vm.findClass R_M = some m.cls := findClass_of_methodNamed B0.named
  have hlocks := B0.notSynchronized
  have hP : va_P (dC, dI) classes [(jm, .inr (3, [.int th, .long sd, .long tp, .int (nI n), .ref ik, .ref iv, .ref ir, .ref il, .ref iy, .ref ig])), (ik, .inl (dk, 86, .inl K))] s.heap := hP
  have hl := lv_entry ([.ref jm, .int kd]) (n := 4) (Nat.le_of_ble_eq_true rfl)
  rw [lg_entry_eq]
  generalize (lg_sl ([.ref jm, .int kd]) ++ List.replicate (4 - (lg_sl ([.ref jm, .int kd])).length) Slot.unset).toArray = ls at hl ⊢
  have hl : lv_has ls 4 [(0, .ref jm), (1, .int kd)] := hl
  refine lv_iconst (v := nI 0) hx hb d_M_ofKind_0 (by decide +kernel) ?_
  refine lv_istore_n (lv' := [(2, .int (nI 0)), (0, .ref jm), (1, .int kd)]) hx hb d_M_ofKind_1 rfl hl (by decide) rfl (fun ls hl => ?_)
  refine lv_iconst (v := nI 0) hx hb d_M_ofKind_2 (by decide +kernel) ?_
  refine lv_istore_n (lv' := [(3, .int (nI 0)), (2, .int (nI 0)), (0, .ref jm), (1, .int kd)]) hx hb d_M_ofKind_3 rfl hl (by decide) rfl (fun ls hl => ?_)
  have lp_4 : ∀ (k9_4 : Nat), ∀ (i : Nat), n - i < k9_4 → (i ≤ n) → ∀ (ls : Array Slot), lv_has ls 4 [(0, .ref jm), (1, .int kd), (2, .int (nI (cnt (kP K kd) i))), (3, .int (nI i))] → W p l e (headSpec w_M_ofKind ({ frames := 0, cells := 0, slots := 0, locals := 0 })).room s m ([.ref jm, .int kd]).toArray below meth c s.heap [] 0 0 (MQ below (vp_Si (fun r => r = nI (cnt (kP K kd) n))) ([.ref jm, .int kd]).toArray s 0 0 (fun _ => False)) (F0 m 4 ls []) := by
    intro k9_4
    induction k9_4 with
    | zero =>
      intro i hk9
      exact absurd hk9 (Nat.not_lt_zero _)
    | succ k9_4 ih_4 =>
      intro i hk9_4 hi ls hl
      refine lv_iload_n hx hb d_M_ofKind_4 rfl (lv_at hl 3 rfl) ?_
      refine lv_aload_n hx hb d_M_ofKind_5 rfl (lv_at hl 0 rfl) ?_
      refine va_get (D := (dC, dI)) (ci := 3) (v := .int (nI n)) (C := R_M) (T := F_M) (N := 10) hx hb hts (lay_M _) hown hK hP 0 rfl rfl 3 (by decide) (hts _ (List.mem_cons_of_mem _ m_339)) (fun _ h9 => h9) rfl d_M_ofKind_6 ?_
      refine lv_icmp_ge (tgt := 36) hx hb d_M_ofKind_9 (by decide) (fun c_9 => ?_) (fun c_9 => ?_)
      · skip
        have c_9 := (nI_leI (by omega) (by omega)).mp c_9
        refine lv_iload_n hx hb d_M_ofKind_36 rfl (lv_at hl 2 rfl) ?_
        exact W.iret (v := nI (cnt (kP K kd) i)) hx hb hr (fun t ht hW => ⟨nI (cnt (kP K kd) i), rfl, (by rw [show i = n by omega]), ht⟩) (fun _ h => nomatch h) d_M_ofKind_37
      · skip
        have c_9 := (not_congr (nI_leI (by omega) (by omega))).mp c_9
        refine lv_iload_n hx hb d_M_ofKind_12 rfl (lv_at hl 2 rfl) ?_
        refine lv_aload_n hx hb d_M_ofKind_13 rfl (lv_at hl 0 rfl) ?_
        refine va_get (D := (dC, dI)) (ci := 3) (v := .ref ik) (C := R_M) (T := F_M) (N := 10) hx hb hts (lay_M _) hown hK hP 0 rfl rfl 4 (by decide) (hts _ (List.mem_cons_of_mem _ m_340)) (fun _ h9 => h9) rfl d_M_ofKind_14 ?_
        refine lv_iload_n hx hb d_M_ofKind_17 rfl (lv_at hl 3 rfl) ?_
        refine va_iald hx hb hK hP 1 0 rfl rfl (vp_in_nI (by omega) (by omega)) d_M_ofKind_18 ?_
        refine lv_topi (fun w_1 ew_1 => ?_)
        rw [nI_clamp (by omega)] at ew_1
        have ew_1 := ew_1.symm
        subst ew_1
        refine lv_iload_n hx hb d_M_ofKind_19 rfl (lv_at hl 1 rfl) ?_
        refine lv_icmp_ne (tgt := 27) hx hb d_M_ofKind_20 (by decide) (fun c_20 => ?_) (fun c_20 => ?_)
        · skip
          refine lv_iconst (v := nI 0) hx hb d_M_ofKind_27 (by decide +kernel) ?_
          refine lv_iadd hx hb d_M_ofKind_28 ?_
          refine lv_topi (fun w_2 ew_2 => ?_)
          have ew_2 : (nI (cnt (kP K kd) (i + 1))) = w_2 := (ew_2.trans (by first | (rw [cnt_t (P := kP K kd) (n := i) (decide_eq_true c_20)]; exact nI_add _ _) | (rw [cnt_f (P := kP K kd) (n := i) (decide_eq_false c_20)]; exact nI_add _ _))).symm
          subst ew_2
          refine lv_istore_n (lv' := [(2, .int (nI (cnt (kP K kd) (i + 1)))), (0, .ref jm), (1, .int kd), (3, .int (nI i))]) hx hb d_M_ofKind_29 rfl hl (by decide) rfl (fun ls hl => ?_)
          refine lv_iinc (v := nI (i + 1)) (lv' := [(3, .int (nI (i + 1))), (2, .int (nI (cnt (kP K kd) (i + 1)))), (0, .ref jm), (1, .int kd)]) hx hb d_M_ofKind_30 hl (k := 3) rfl (nI_1 _) (by decide) rfl (fun ls hl => ?_)
          refine lv_goto (tgt := 4) hx hb d_M_ofKind_33 (by decide) ?_
          exact ih_4 (i + 1) (by omega) (by first | assumption | omega) ls (lv_sub (l' := [(0, .ref jm), (1, .int kd), (2, .int (nI (cnt (kP K kd) (i + 1)))), (3, .int (nI (i + 1)))]) hl [2, 3, 1, 0] rfl)
        · skip
          refine lv_iconst (v := nI 1) hx hb d_M_ofKind_23 (by decide +kernel) ?_
          refine lv_goto (tgt := 28) hx hb d_M_ofKind_24 (by decide) ?_
          refine lv_iadd hx hb d_M_ofKind_28 ?_
          refine lv_topi (fun w_3 ew_3 => ?_)
          have ew_3 : (nI (cnt (kP K kd) (i + 1))) = w_3 := (ew_3.trans (by first | (rw [cnt_t (P := kP K kd) (n := i) (decide_eq_true c_20)]; exact nI_add _ _) | (rw [cnt_f (P := kP K kd) (n := i) (decide_eq_false c_20)]; exact nI_add _ _))).symm
          subst ew_3
          refine lv_istore_n (lv' := [(2, .int (nI (cnt (kP K kd) (i + 1)))), (0, .ref jm), (1, .int kd), (3, .int (nI i))]) hx hb d_M_ofKind_29 rfl hl (by decide) rfl (fun ls hl => ?_)
          refine lv_iinc (v := nI (i + 1)) (lv' := [(3, .int (nI (i + 1))), (2, .int (nI (cnt (kP K kd) (i + 1)))), (0, .ref jm), (1, .int kd)]) hx hb d_M_ofKind_30 hl (k := 3) rfl (nI_1 _) (by decide) rfl (fun ls hl => ?_)
          refine lv_goto (tgt := 4) hx hb d_M_ofKind_33 (by decide) ?_
          exact ih_4 (i + 1) (by omega) (by first | assumption | omega) ls (lv_sub (l' := [(0, .ref jm), (1, .int kd), (2, .int (nI (cnt (kP K kd) (i + 1)))), (3, .int (nI (i + 1)))]) hl [2, 3, 1, 0] rfl)
  exact lp_4 ((n - 0) + 1) 0 (by omega) (by first | assumption | omega) ls (lv_sub (l' := [(0, .ref jm), (1, .int kd), (2, .int (nI (cnt (kP K kd) 0))), (3, .int (nI 0))]) hl [2, 3, 1, 0] rfl)
set_option maxHeartbeats 4000000 in
set_option maxRecDepth 100000 in
/-- reference: many -/
theorem c_M_many (l : Launch) (dC : Nat → ClassId) (dI : Nat → Nat → Nat) (jm ik iv ir il iy ig : Nat) (n : Nat) (th : Int32) (sd tp : Int64) (dl : ClassId) (L : Nat → Bool) (hn : n ≤ 43) : Met l y_M_many w_M_many ({ frames := 0, cells := 0, slots := 0, locals := 0 }) (ro_P dC dI [.ref jm] [(jm, .inr (3, [.int th, .long sd, .long tp, .int (nI n), .ref ik, .ref iv, .ref ir, .ref il, .ref iy, .ref ig])), (il, .inl (dl, 43, .inl (bF L)))] [(dl, .boolean)]) (vp_Si (fun r => r = nI (cnt L n))) 0 0 (fun _ => False) := by
  refine Met.ofW (cc := b_M_many) (maxL := 3) (ret := (Option.some Jvm.ClassFile.FieldType.int)) (by decide) rfl ?_
  intro p e s m args below meth c s₁ B0 hml hv0
  obtain ⟨rfl, hP, hK, hN⟩ := hv0
  have hx := B0.exec
  have hb := B0.bytes
  have hr := B0.returns
  have hts := atoms_spec (ws := w_M_many) B0.pre
  have hown : s.vm.findClass R_M = some m.cls := findClass_of_methodNamed B0.named
  have hlocks := B0.notSynchronized
  have hP : va_P (dC, dI) classes [(jm, .inr (3, [.int th, .long sd, .long tp, .int (nI n), .ref ik, .ref iv, .ref ir, .ref il, .ref iy, .ref ig])), (il, .inl (dl, 43, .inl (bF L)))] s.heap := hP
  have hl := lv_entry ([.ref jm]) (n := 3) (Nat.le_of_ble_eq_true rfl)
  rw [lg_entry_eq]
  generalize (lg_sl ([.ref jm]) ++ List.replicate (3 - (lg_sl ([.ref jm])).length) Slot.unset).toArray = ls at hl ⊢
  have hl : lv_has ls 3 [(0, .ref jm)] := hl
  refine lv_iconst (v := nI 0) hx hb d_M_many_0 (by decide +kernel) ?_
  refine lv_istore_n (lv' := [(1, .int (nI 0)), (0, .ref jm)]) hx hb d_M_many_1 rfl hl (by decide) rfl (fun ls hl => ?_)
  refine lv_iconst (v := nI 0) hx hb d_M_many_2 (by decide +kernel) ?_
  refine lv_istore_n (lv' := [(2, .int (nI 0)), (1, .int (nI 0)), (0, .ref jm)]) hx hb d_M_many_3 rfl hl (by decide) rfl (fun ls hl => ?_)
  have lp_4 : ∀ (k9_4 : Nat), ∀ (i : Nat), n - i < k9_4 → (i ≤ n) → ∀ (ls : Array Slot), lv_has ls 3 [(0, .ref jm), (1, .int (nI (cnt L i))), (2, .int (nI i))] → W p l e (headSpec w_M_many ({ frames := 0, cells := 0, slots := 0, locals := 0 })).room s m ([.ref jm]).toArray below meth c s.heap [] 0 0 (MQ below (vp_Si (fun r => r = nI (cnt L n))) ([.ref jm]).toArray s 0 0 (fun _ => False)) (F0 m 4 ls []) := by
    intro k9_4
    induction k9_4 with
    | zero =>
      intro i hk9
      exact absurd hk9 (Nat.not_lt_zero _)
    | succ k9_4 ih_4 =>
      intro i hk9_4 hi ls hl
      refine lv_iload_n hx hb d_M_many_4 rfl (lv_at hl 2 rfl) ?_
      refine lv_aload_n hx hb d_M_many_5 rfl (lv_at hl 0 rfl) ?_
      refine va_get (D := (dC, dI)) (ci := 3) (v := .int (nI n)) (C := R_M) (T := F_M) (N := 10) hx hb hts (lay_M _) hown hK hP 0 rfl rfl 3 (by decide) (hts _ (List.mem_cons_of_mem _ m_339)) (fun _ h9 => h9) rfl d_M_many_6 ?_
      refine lv_icmp_ge (tgt := 35) hx hb d_M_many_9 (by decide) (fun c_9 => ?_) (fun c_9 => ?_)
      · skip
        have c_9 := (nI_leI (by omega) (by omega)).mp c_9
        refine lv_iload_n hx hb d_M_many_35 rfl (lv_at hl 1 rfl) ?_
        exact W.iret (v := nI (cnt L i)) hx hb hr (fun t ht hW => ⟨nI (cnt L i), rfl, (by rw [show i = n by omega]), ht⟩) (fun _ h => nomatch h) d_M_many_36
      · skip
        have c_9 := (not_congr (nI_leI (by omega) (by omega))).mp c_9
        refine lv_iload_n hx hb d_M_many_12 rfl (lv_at hl 1 rfl) ?_
        refine lv_aload_n hx hb d_M_many_13 rfl (lv_at hl 0 rfl) ?_
        refine va_get (D := (dC, dI)) (ci := 3) (v := .ref il) (C := R_M) (T := F_M) (N := 10) hx hb hts (lay_M _) hown hK hP 0 rfl rfl 7 (by decide) (hts _ (List.mem_cons_of_mem _ m_343)) (fun _ h9 => h9) rfl d_M_many_14 ?_
        refine lv_iload_n hx hb d_M_many_17 rfl (lv_at hl 2 rfl) ?_
        refine va_zald hx hb hK hP 1 0 rfl rfl (vp_in_nI (by omega) (by omega)) d_M_many_18 ?_
        refine lv_topi (fun w_1 ew_1 => ?_)
        have ew_1 : (bI (L i)) = w_1 := (ew_1.trans (by rw [nI_clamp (by omega)]; rfl)).symm
        subst ew_1
        refine lv_if_eq (tgt := 26) hx hb d_M_many_19 (by decide) (fun c_19 => ?_) (fun c_19 => ?_)
        · skip
          have c_19 := bI_f c_19
          refine lv_iconst (v := nI 0) hx hb d_M_many_26 (by decide +kernel) ?_
          refine lv_iadd hx hb d_M_many_27 ?_
          refine lv_topi (fun w_2 ew_2 => ?_)
          have ew_2 : (nI (cnt (L) (i + 1))) = w_2 := (ew_2.trans (by first | (rw [cnt_t (P := L) (n := i) c_19]; exact nI_add _ _) | (rw [cnt_f (P := L) (n := i) c_19]; exact nI_add _ _))).symm
          subst ew_2
          refine lv_istore_n (lv' := [(1, .int (nI (cnt (L) (i + 1)))), (0, .ref jm), (2, .int (nI i))]) hx hb d_M_many_28 rfl hl (by decide) rfl (fun ls hl => ?_)
          refine lv_iinc (v := nI (i + 1)) (lv' := [(2, .int (nI (i + 1))), (1, .int (nI (cnt (L) (i + 1)))), (0, .ref jm)]) hx hb d_M_many_29 hl (k := 2) rfl (nI_1 _) (by decide) rfl (fun ls hl => ?_)
          refine lv_goto (tgt := 4) hx hb d_M_many_32 (by decide) ?_
          exact ih_4 (i + 1) (by omega) (by first | assumption | omega) ls (lv_sub (l' := [(0, .ref jm), (1, .int (nI (cnt L (i + 1)))), (2, .int (nI (i + 1)))]) hl [2, 1, 0] rfl)
        · skip
          have c_19 := bI_t c_19
          refine lv_iconst (v := nI 1) hx hb d_M_many_22 (by decide +kernel) ?_
          refine lv_goto (tgt := 27) hx hb d_M_many_23 (by decide) ?_
          refine lv_iadd hx hb d_M_many_27 ?_
          refine lv_topi (fun w_3 ew_3 => ?_)
          have ew_3 : (nI (cnt (L) (i + 1))) = w_3 := (ew_3.trans (by first | (rw [cnt_t (P := L) (n := i) c_19]; exact nI_add _ _) | (rw [cnt_f (P := L) (n := i) c_19]; exact nI_add _ _))).symm
          subst ew_3
          refine lv_istore_n (lv' := [(1, .int (nI (cnt (L) (i + 1)))), (0, .ref jm), (2, .int (nI i))]) hx hb d_M_many_28 rfl hl (by decide) rfl (fun ls hl => ?_)
          refine lv_iinc (v := nI (i + 1)) (lv' := [(2, .int (nI (i + 1))), (1, .int (nI (cnt (L) (i + 1)))), (0, .ref jm)]) hx hb d_M_many_29 hl (k := 2) rfl (nI_1 _) (by decide) rfl (fun ls hl => ?_)
          refine lv_goto (tgt := 4) hx hb d_M_many_32 (by decide) ?_
          exact ih_4 (i + 1) (by omega) (by first | assumption | omega) ls (lv_sub (l' := [(0, .ref jm), (1, .int (nI (cnt L (i + 1)))), (2, .int (nI (i + 1)))]) hl [2, 1, 0] rfl)
  exact lp_4 ((n - 0) + 1) 0 (by omega) (by first | assumption | omega) ls (lv_sub (l' := [(0, .ref jm), (1, .int (nI (cnt L 0))), (2, .int (nI 0))]) hl [2, 1, 0] rfl)
