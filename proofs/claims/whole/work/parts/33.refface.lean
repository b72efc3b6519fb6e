theorem m_442 : (Jvm.Cond.code ({ cls := "PortDrawerModel", name := "first", desc := "()I" } : Jvm.MethodName) prog_5_method_22_code (2 : Nat) (Option.some Jvm.ClassFile.FieldType.int)) ∈ tblG := m_t (i := 442) rfl rfl
theorem ms_30 : Cond.selects "PortDrawerModel" ⟨"PortDrawerModel", "first", "()I"⟩ ⟨"PortDrawerModel", "first", "()I"⟩ ∈ tblG := m_s (i := 30) rfl rfl
theorem m_439 : (Jvm.Cond.methodLink "PortDrawerModel" (96 : Nat) ({ cls := "PortDrawerModel", name := "first", desc := "()I" } : Jvm.MethodName)) ∈ tblG := m_t (i := 439) rfl rfl
theorem m_441 : (Jvm.Cond.instanceMethod ({ cls := "PortDrawerModel", name := "first", desc := "()I" } : Jvm.MethodName)) ∈ tblG := m_t (i := 441) rfl rfl
theorem m_458 : (Jvm.Cond.code ({ cls := "PortDrawerModel", name := "leaves", desc := "()V" } : Jvm.MethodName) prog_5_method_23_code (2 : Nat) (Option.none : Option Jvm.ClassFile.FieldType)) ∈ tblG := m_t (i := 458) rfl rfl
theorem ms_34 : Cond.selects "PortDrawerModel" ⟨"PortDrawerModel", "leaves", "()V"⟩ ⟨"PortDrawerModel", "leaves", "()V"⟩ ∈ tblG := m_s (i := 34) rfl rfl
theorem m_455 : (Jvm.Cond.methodLink "PortDrawerModel" (99 : Nat) ({ cls := "PortDrawerModel", name := "leaves", desc := "()V" } : Jvm.MethodName)) ∈ tblG := m_t (i := 455) rfl rfl
theorem m_457 : (Jvm.Cond.instanceMethod ({ cls := "PortDrawerModel", name := "leaves", desc := "()V" } : Jvm.MethodName)) ∈ tblG := m_t (i := 457) rfl rfl
theorem m_402 : (Jvm.Cond.code ({ cls := "PortDrawerModel", name := "all", desc := "()V" } : Jvm.MethodName) prog_5_method_11_code (2 : Nat) (Option.none : Option Jvm.ClassFile.FieldType)) ∈ tblG := m_t (i := 402) rfl rfl
theorem ms_25 : Cond.selects "PortDrawerModel" ⟨"PortDrawerModel", "all", "()V"⟩ ⟨"PortDrawerModel", "all", "()V"⟩ ∈ tblG := m_s (i := 25) rfl rfl
theorem m_399 : (Jvm.Cond.methodLink "PortDrawerModel" (70 : Nat) ({ cls := "PortDrawerModel", name := "all", desc := "()V" } : Jvm.MethodName)) ∈ tblG := m_t (i := 399) rfl rfl
theorem m_401 : (Jvm.Cond.instanceMethod ({ cls := "PortDrawerModel", name := "all", desc := "()V" } : Jvm.MethodName)) ∈ tblG := m_t (i := 401) rfl rfl
theorem m_377 : (Jvm.Cond.code ({ cls := "PortDrawerModel", name := "in", desc := "(III)Z" } : Jvm.MethodName) prog_5_method_4_code (3 : Nat) (Option.some Jvm.ClassFile.FieldType.boolean)) ∈ tblG := m_t (i := 377) rfl rfl
theorem m_375 : (Jvm.Cond.methodLink "PortDrawerModel" (59 : Nat) ({ cls := "PortDrawerModel", name := "in", desc := "(III)Z" } : Jvm.MethodName)) ∈ tblG := m_t (i := 375) rfl rfl
theorem m_376 : (Jvm.Cond.static ({ cls := "PortDrawerModel", name := "in", desc := "(III)Z" } : Jvm.MethodName)) ∈ tblG := m_t (i := 376) rfl rfl
theorem d_M_now_0 : decode b_M_now 0 = .ok (.aload_n 0, 1) := by decide +kernel
theorem d_M_now_1 : decode b_M_now 1 = .ok (.iconst 0, 1) := by decide +kernel
theorem d_M_now_2 : decode b_M_now 2 = .ok (.putfield 33, 3) := by decide +kernel
theorem d_M_now_5 : decode b_M_now 5 = .ok (.aload_n 0, 1) := by decide +kernel
theorem d_M_now_6 : decode b_M_now 6 = .ok (.invokevirtual 80, 3) := by decide +kernel
theorem d_M_now_9 : decode b_M_now 9 = .ok (.aload_n 0, 1) := by decide +kernel
theorem d_M_now_10 : decode b_M_now 10 = .ok (.invokevirtual 83, 3) := by decide +kernel
theorem d_M_now_13 : decode b_M_now 13 = .ok (.ireturn, 1) := by decide +kernel
theorem d_M_shorter_0 : decode b_M_shorter 0 = .ok (.aload_n 0, 1) := by decide +kernel
theorem d_M_shorter_1 : decode b_M_shorter 1 = .ok (.iconst 0, 1) := by decide +kernel
theorem d_M_shorter_2 : decode b_M_shorter 2 = .ok (.putfield 33, 3) := by decide +kernel
theorem d_M_shorter_5 : decode b_M_shorter 5 = .ok (.aload_n 0, 1) := by decide +kernel
theorem d_M_shorter_6 : decode b_M_shorter 6 = .ok (.invokevirtual 80, 3) := by decide +kernel
theorem d_M_shorter_9 : decode b_M_shorter 9 = .ok (.aload_n 0, 1) := by decide +kernel
theorem d_M_shorter_10 : decode b_M_shorter 10 = .ok (.getfield 23, 3) := by decide +kernel
theorem d_M_shorter_13 : decode b_M_shorter 13 = .ok (.aload_n 0, 1) := by decide +kernel
theorem d_M_shorter_14 : decode b_M_shorter 14 = .ok (.invokevirtual 83, 3) := by decide +kernel
theorem d_M_shorter_17 : decode b_M_shorter 17 = .ok (.baload, 1) := by decide +kernel
theorem d_M_shorter_18 : decode b_M_shorter 18 = .ok (.ifCond .ne 12, 3) := by decide +kernel
theorem d_M_shorter_21 : decode b_M_shorter 21 = .ok (.aload_n 0, 1) := by decide +kernel
theorem d_M_shorter_22 : decode b_M_shorter 22 = .ok (.invokevirtual 70, 3) := by decide +kernel
theorem d_M_shorter_25 : decode b_M_shorter 25 = .ok (.aload_n 0, 1) := by decide +kernel
theorem d_M_shorter_26 : decode b_M_shorter 26 = .ok (.getfield 37, 3) := by decide +kernel
theorem d_M_shorter_29 : decode b_M_shorter 29 = .ok (.ireturn, 1) := by decide +kernel
theorem d_M_shorter_30 : decode b_M_shorter 30 = .ok (.aload_n 0, 1) := by decide +kernel
theorem d_M_shorter_31 : decode b_M_shorter 31 = .ok (.invokevirtual 96, 3) := by decide +kernel
theorem d_M_shorter_34 : decode b_M_shorter 34 = .ok (.ifCond .lt 10, 3) := by decide +kernel
theorem d_M_shorter_37 : decode b_M_shorter 37 = .ok (.aload_n 0, 1) := by decide +kernel
theorem d_M_shorter_38 : decode b_M_shorter 38 = .ok (.invokevirtual 99, 3) := by decide +kernel
theorem d_M_shorter_41 : decode b_M_shorter 41 = .ok (.goto (-11), 3) := by decide +kernel
theorem d_M_shorter_44 : decode b_M_shorter 44 = .ok (.aload_n 0, 1) := by decide +kernel
theorem d_M_shorter_45 : decode b_M_shorter 45 = .ok (.invokevirtual 90, 3) := by decide +kernel
theorem d_M_shorter_48 : decode b_M_shorter 48 = .ok (.ireturn, 1) := by decide +kernel
theorem d_M_left_0 : decode b_M_left 0 = .ok (.aload_n 0, 1) := by decide +kernel
theorem d_M_left_1 : decode b_M_left 1 = .ok (.iconst 0, 1) := by decide +kernel
theorem d_M_left_2 : decode b_M_left 2 = .ok (.putfield 33, 3) := by decide +kernel
theorem d_M_left_5 : decode b_M_left 5 = .ok (.iload_n 1, 1) := by decide +kernel
theorem d_M_left_6 : decode b_M_left 6 = .ok (.istore_n 2, 1) := by decide +kernel
theorem d_M_left_7 : decode b_M_left 7 = .ok (.iconst 0, 1) := by decide +kernel
theorem d_M_left_8 : decode b_M_left 8 = .ok (.istore_n 3, 1) := by decide +kernel
theorem d_M_left_9 : decode b_M_left 9 = .ok (.iload_n 3, 1) := by decide +kernel
theorem d_M_left_10 : decode b_M_left 10 = .ok (.aload_n 0, 1) := by decide +kernel
theorem d_M_left_11 : decode b_M_left 11 = .ok (.getfield 37, 3) := by decide +kernel
theorem d_M_left_14 : decode b_M_left 14 = .ok (.if_icmp .ge 41, 3) := by decide +kernel
theorem d_M_left_17 : decode b_M_left 17 = .ok (.aload_n 0, 1) := by decide +kernel
theorem d_M_left_18 : decode b_M_left 18 = .ok (.getfield 19, 3) := by decide +kernel
theorem d_M_left_21 : decode b_M_left 21 = .ok (.iload_n 3, 1) := by decide +kernel
theorem d_M_left_22 : decode b_M_left 22 = .ok (.baload, 1) := by decide +kernel
theorem d_M_left_23 : decode b_M_left 23 = .ok (.ifCond .eq 9, 3) := by decide +kernel
theorem d_M_left_26 : decode b_M_left 26 = .ok (.iload_n 2, 1) := by decide +kernel
theorem d_M_left_27 : decode b_M_left 27 = .ok (.ifCond .ne 5, 3) := by decide +kernel
theorem d_M_left_30 : decode b_M_left 30 = .ok (.iload_n 3, 1) := by decide +kernel
theorem d_M_left_31 : decode b_M_left 31 = .ok (.ireturn, 1) := by decide +kernel
theorem d_M_left_32 : decode b_M_left 32 = .ok (.iload_n 2, 1) := by decide +kernel
theorem d_M_left_33 : decode b_M_left 33 = .ok (.aload_n 0, 1) := by decide +kernel
theorem d_M_left_34 : decode b_M_left 34 = .ok (.getfield 19, 3) := by decide +kernel
theorem d_M_left_37 : decode b_M_left 37 = .ok (.iload_n 3, 1) := by decide +kernel
theorem d_M_left_38 : decode b_M_left 38 = .ok (.baload, 1) := by decide +kernel
theorem d_M_left_39 : decode b_M_left 39 = .ok (.ifCond .eq 7, 3) := by decide +kernel
theorem d_M_left_42 : decode b_M_left 42 = .ok (.iconst 1, 1) := by decide +kernel
theorem d_M_left_43 : decode b_M_left 43 = .ok (.goto 4, 3) := by decide +kernel
theorem d_M_left_46 : decode b_M_left 46 = .ok (.iconst 0, 1) := by decide +kernel
theorem d_M_left_47 : decode b_M_left 47 = .ok (.isub, 1) := by decide +kernel
theorem d_M_left_48 : decode b_M_left 48 = .ok (.istore_n 2, 1) := by decide +kernel
theorem d_M_left_49 : decode b_M_left 49 = .ok (.iinc 3 1, 3) := by decide +kernel
theorem d_M_left_52 : decode b_M_left 52 = .ok (.goto (-43), 3) := by decide +kernel
theorem d_M_left_55 : decode b_M_left 55 = .ok (.iconst (-1), 1) := by decide +kernel
theorem d_M_left_56 : decode b_M_left 56 = .ok (.ireturn, 1) := by decide +kernel
theorem d_M_minimal_0 : decode b_M_minimal 0 = .ok (.aload_n 0, 1) := by decide +kernel
theorem d_M_minimal_1 : decode b_M_minimal 1 = .ok (.iconst 0, 1) := by decide +kernel
theorem d_M_minimal_2 : decode b_M_minimal 2 = .ok (.putfield 33, 3) := by decide +kernel
theorem d_M_minimal_5 : decode b_M_minimal 5 = .ok (.aload_n 0, 1) := by decide +kernel
theorem d_M_minimal_6 : decode b_M_minimal 6 = .ok (.invokevirtual 80, 3) := by decide +kernel
theorem d_M_minimal_9 : decode b_M_minimal 9 = .ok (.aload_n 0, 1) := by decide +kernel
theorem d_M_minimal_10 : decode b_M_minimal 10 = .ok (.invokevirtual 90, 3) := by decide +kernel
theorem d_M_minimal_13 : decode b_M_minimal 13 = .ok (.ifCond .le 26, 3) := by decide +kernel
theorem d_M_minimal_16 : decode b_M_minimal 16 = .ok (.aload_n 0, 1) := by decide +kernel
theorem d_M_minimal_17 : decode b_M_minimal 17 = .ok (.getfield 23, 3) := by decide +kernel
theorem d_M_minimal_20 : decode b_M_minimal 20 = .ok (.aload_n 0, 1) := by decide +kernel
theorem d_M_minimal_21 : decode b_M_minimal 21 = .ok (.invokevirtual 83, 3) := by decide +kernel
theorem d_M_minimal_24 : decode b_M_minimal 24 = .ok (.baload, 1) := by decide +kernel
theorem d_M_minimal_25 : decode b_M_minimal 25 = .ok (.ifCond .eq 14, 3) := by decide +kernel
theorem d_M_minimal_28 : decode b_M_minimal 28 = .ok (.aload_n 0, 1) := by decide +kernel
theorem d_M_minimal_29 : decode b_M_minimal 29 = .ok (.invokevirtual 96, 3) := by decide +kernel
theorem d_M_minimal_32 : decode b_M_minimal 32 = .ok (.ifCond .ge 7, 3) := by decide +kernel
theorem d_M_minimal_35 : decode b_M_minimal 35 = .ok (.iconst 1, 1) := by decide +kernel
theorem d_M_minimal_36 : decode b_M_minimal 36 = .ok (.goto 4, 3) := by decide +kernel
theorem d_M_minimal_39 : decode b_M_minimal 39 = .ok (.iconst 0, 1) := by decide +kernel
theorem d_M_minimal_40 : decode b_M_minimal 40 = .ok (.ireturn, 1) := by decide +kernel
theorem d_M_verdict_0 : decode b_M_verdict 0 = .ok (.aload_n 0, 1) := by decide +kernel
theorem d_M_verdict_1 : decode b_M_verdict 1 = .ok (.iconst 0, 1) := by decide +kernel
theorem d_M_verdict_2 : decode b_M_verdict 2 = .ok (.putfield 33, 3) := by decide +kernel
theorem d_M_verdict_5 : decode b_M_verdict 5 = .ok (.iload_n 1, 1) := by decide +kernel
theorem d_M_verdict_6 : decode b_M_verdict 6 = .ok (.iconst 0, 1) := by decide +kernel
theorem d_M_verdict_7 : decode b_M_verdict 7 = .ok (.sipush 255, 3) := by decide +kernel
theorem d_M_verdict_10 : decode b_M_verdict 10 = .ok (.invokestatic 59, 3) := by decide +kernel
theorem d_M_verdict_13 : decode b_M_verdict 13 = .ok (.ifCond .eq 13, 3) := by decide +kernel
theorem d_M_verdict_16 : decode b_M_verdict 16 = .ok (.aload_n 0, 1) := by decide +kernel
theorem d_M_verdict_17 : decode b_M_verdict 17 = .ok (.getfield 23, 3) := by decide +kernel
theorem d_M_verdict_20 : decode b_M_verdict 20 = .ok (.iload_n 1, 1) := by decide +kernel
theorem d_M_verdict_21 : decode b_M_verdict 21 = .ok (.baload, 1) := by decide +kernel
theorem d_M_verdict_22 : decode b_M_verdict 22 = .ok (.iload_n 2, 1) := by decide +kernel
theorem d_M_verdict_23 : decode b_M_verdict 23 = .ok (.if_icmp .ne 5, 3) := by decide +kernel
theorem d_M_verdict_26 : decode b_M_verdict 26 = .ok (.iconst 0, 1) := by decide +kernel
theorem d_M_verdict_27 : decode b_M_verdict 27 = .ok (.ireturn, 1) := by decide +kernel
theorem d_M_verdict_28 : decode b_M_verdict 28 = .ok (.aload_n 0, 1) := by decide +kernel
theorem d_M_verdict_29 : decode b_M_verdict 29 = .ok (.getfield 23, 3) := by decide +kernel
theorem d_M_verdict_32 : decode b_M_verdict 32 = .ok (.iload_n 1, 1) := by decide +kernel
theorem d_M_verdict_33 : decode b_M_verdict 33 = .ok (.iload_n 2, 1) := by decide +kernel
theorem d_M_verdict_34 : decode b_M_verdict 34 = .ok (.bastore, 1) := by decide +kernel
theorem d_M_verdict_35 : decode b_M_verdict 35 = .ok (.iconst 1, 1) := by decide +kernel
theorem d_M_verdict_36 : decode b_M_verdict 36 = .ok (.ireturn, 1) := by decide +kernel
set_option maxHeartbeats 4000000 in
set_option maxRecDepth 100000 in
/-- reference: now -/
theorem c_M_now (l : Launch) (dC : Nat → ClassId) (dI : Nat → Nat → Nat) (jm ik iv ir il iy ig : Nat) (n : Nat) (th : Int32) (sd tp : Int64) (dk dv dr dl dg : ClassId) (K V R : Nat → Int32) (L G : Nat → Bool)  (hn : n ≤ 43) (hR : rfK n R) (sz : Nat) : Met l y_M_now w_M_now ({ frames := 2, cells := 0, slots := 0, locals := 43 }) (wr_P dC dI [.ref jm] [(jm, .inr (3, [.int th, .long sd, .long tp, .int (nI n), .ref ik, .ref iv, .ref ir, .ref il, .ref iy, .ref ig])), (ik, .inl (dk, 86, .inl K)), (iv, .inl (dv, 86, .inl V)), (ir, .inl (dr, 86, .inl R)), (il, .inl (dl, 43, .inl (bF L))), (ig, .inl (dg, 43, .inl (bF G)))] [(dk, .int), (dv, .int), (dr, .int), (dl, .boolean), (dg, .boolean)] sz) (va_Qi (fun (r : Int32) (_ : Unit) => r = jdL K V R L fF n) (fun (u : Unit) => wr_B dC dI (va_A [(jm, .inr (3, [.int th, .long sd, .long tp, .int (nI n), .ref ik, .ref iv, .ref ir, .ref il, .ref iy, .ref ig])), (ik, .inl (dk, 86, .inl K)), (iv, .inl (dv, 86, .inl V)), (ir, .inl (dr, 86, .inl R)), (il, .inl (dl, 43, .inl (bF L))), (ig, .inl (dg, 43, .inl (bF G)))] sz) [(jm, .inr (3, [.int (nI 0), .long sd, .long tp, .int (nI n), .ref ik, .ref iv, .ref ir, .ref il, .ref iy, .ref ig])), (ik, .inl (dk, 86, .inl K)), (iv, .inl (dv, 86, .inl V)), (ir, .inl (dr, 86, .inl R)), (il, .inl (dl, 43, .inl (bF L))), (ig, .inl (dg, 43, .inl (bF fF)))] [(dk, .int), (dv, .int), (dr, .int), (dl, .boolean), (dg, .boolean)]) (va_A [(jm, .inr (3, [.int th, .long sd, .long tp, .int (nI n), .ref ik, .ref iv, .ref ir, .ref il, .ref iy, .ref ig])), (ik, .inl (dk, 86, .inl K)), (iv, .inl (dv, 86, .inl V)), (ir, .inl (dr, 86, .inl R)), (il, .inl (dl, 43, .inl (bF L))), (ig, .inl (dg, 43, .inl (bF G)))] sz)) 0 0 (va_A [(jm, .inr (3, [.int th, .long sd, .long tp, .int (nI n), .ref ik, .ref iv, .ref ir, .ref il, .ref iy, .ref ig])), (ik, .inl (dk, 86, .inl K)), (iv, .inl (dv, 86, .inl V)), (ir, .inl (dr, 86, .inl R)), (il, .inl (dl, 43, .inl (bF L))), (ig, .inl (dg, 43, .inl (bF G)))] sz) := by
  refine Met.ofW (cc := b_M_now) (maxL := 1) (ret := (Option.some Jvm.ClassFile.FieldType.int)) (by decide) rfl ?_
  intro p e s m args below meth c s₁ B0 hml hv0
  obtain ⟨rfl, hsz, hP, hK, hD0, hN⟩ := hv0
  have hx := B0.exec
  have hb := B0.bytes
  have hr := B0.returns
  have hts := atoms_spec (ws := w_M_now) B0.pre
  have hown : s.vm.findClass R_M = some m.cls := findClass_of_methodNamed B0.named
  have hlocks := B0.notSynchronized
  subst hsz
  have hD := hD0.self (sz := s.heap.size)
  generalize hAe : va_A [(jm, .inr (3, [.int th, .long sd, .long tp, .int (nI n), .ref ik, .ref iv, .ref ir, .ref il, .ref iy, .ref ig])), (ik, .inl (dk, 86, .inl K)), (iv, .inl (dv, 86, .inl V)), (ir, .inl (dr, 86, .inl R)), (il, .inl (dl, 43, .inl (bF L))), (ig, .inl (dg, 43, .inl (bF G)))] s.heap.size = A at hD ⊢
  have hA : ∀ q : Nat, s.heap.size ≤ q → A q := fun q h => by rw [← hAe]; exact Or.inr h
  have hS : va_S A s.heap s.heap [] := va_S.rf
  have hP : va_P (dC, dI) classes [(jm, .inr (3, [.int th, .long sd, .long tp, .int (nI n), .ref ik, .ref iv, .ref ir, .ref il, .ref iy, .ref ig])), (ik, .inl (dk, 86, .inl K)), (iv, .inl (dv, 86, .inl V)), (ir, .inl (dr, 86, .inl R)), (il, .inl (dl, 43, .inl (bF L))), (ig, .inl (dg, 43, .inl (bF G)))] s.heap := hP
  have hl := lv_entry ([.ref jm]) (n := 1) (Nat.le_of_ble_eq_true rfl)
  rw [lg_entry_eq]
  generalize (lg_sl ([.ref jm]) ++ List.replicate (1 - (lg_sl ([.ref jm])).length) Slot.unset).toArray = ls at hl ⊢
  have hl : lv_has ls 1 [(0, .ref jm)] := hl
  refine lv_aload_n hx hb d_M_now_0 rfl (lv_at hl 0 rfl) ?_
  refine lv_iconst (v := nI 0) hx hb d_M_now_1 (by decide +kernel) ?_
  refine va_put (D := (dC, dI)) (ci := 3) (v := .int (nI 0)) (ty := .int) (C := R_M) (T := F_M) (N := 10) hx hb hts (lay_M _) ft_M tok_M nok_M hown hK hP hD hS 0 rfl rfl 0 (by decide) (hts _ (List.mem_cons_of_mem _ m_336)) (fun _ h9 => h9) rfl (by decide +kernel) rfl rfl (Nat.le_of_ble_eq_true rfl) d_M_now_2 (fun H locs hP hD hS => ?_)
  have hP : va_P (dC, dI) classes [(jm, .inr (3, [.int (nI 0), .long sd, .long tp, .int (nI n), .ref ik, .ref iv, .ref ir, .ref il, .ref iy, .ref ig])), (ik, .inl (dk, 86, .inl K)), (iv, .inl (dv, 86, .inl V)), (ir, .inl (dr, 86, .inl R)), (il, .inl (dl, 43, .inl (bF L))), (ig, .inl (dg, 43, .inl (bF G)))] H := hP
  have hD : va_D A [(jm, .inr (3, [.int (nI 0), .long sd, .long tp, .int (nI n), .ref ik, .ref iv, .ref ir, .ref il, .ref iy, .ref ig])), (ik, .inl (dk, 86, .inl K)), (iv, .inl (dv, 86, .inl V)), (ir, .inl (dr, 86, .inl R)), (il, .inl (dl, 43, .inl (bF L))), (ig, .inl (dg, 43, .inl (bF G)))] := hD
  refine lv_aload_n hx hb d_M_now_5 rfl (lv_at hl 0 rfl) ?_
  have hPc := hP.sub (ws' := [(jm, .inr (3, [.int (nI 0), .long sd, .long tp, .int (nI n), .ref ik, .ref iv, .ref ir, .ref il, .ref iy, .ref ig])), (ig, .inl (dg, 43, .inl (bF G)))]) [0, 5] rfl
  have hKc := hK.sub (tys' := [(dg, .boolean)]) [4] rfl
  have hDc := hD.sub (ws' := [(jm, .inr (3, [.int (nI 0), .long sd, .long tp, .int (nI n), .ref ik, .ref iv, .ref ir, .ref il, .ref iy, .ref ig])), (ig, .inl (dg, 43, .inl (bF G)))]) [0, 5] (by decide) rfl
  have hFc := va_free (wc := [(jm, .inr (3, [.int (nI 0), .long sd, .long tp, .int (nI n), .ref ik, .ref iv, .ref ir, .ref il, .ref iy, .ref ig])), (ig, .inl (dg, 43, .inl (bF G)))]) hD hS hA [0, 5] rfl
  refine va_callv (va_runV (As := []) (rest := []) ⟨hx, hb, hml, hown, hts⟩ (c_M_none l dC dI jm ik iv ir il iy ig n (nI 0) sd tp dg G _) (cwV 0 hts (g_V big_w m_427 m_429 ms_28 m_4 m_430) rfl rfl rfl (by decide +kernel) ⟨Nat.le_of_ble_eq_true rfl, Nat.le_of_ble_eq_true rfl⟩) (wr_V hPc hKc hDc hN (va_recv hKc hPc (ci := 3) (q0 := 0) rfl rfl)) rfl rfl hl.1 rfl (lv_room (Nat.le_of_ble_eq_true rfl)) d_M_now_6 ⟨Nat.le_of_ble_eq_true rfl, Nat.le_of_ble_eq_true rfl⟩) hS (fun q _ h => hFc q h) hFc (fun u t H1 locs ht hvm hw hB hz1 hk1 hS => ?_)
  obtain ⟨hP1, hK1, hD1⟩ := hB
  rw [ht] at hP1
  obtain ⟨hP, hD⟩ := va_join (wr := [(ik, .inl (dk, 86, .inl K)), (iv, .inl (dv, 86, .inl V)), (ir, .inl (dr, 86, .inl R)), (il, .inl (dl, 43, .inl (bF L)))]) (w1 := [(jm, .inr (3, [.int (nI 0), .long sd, .long tp, .int (nI n), .ref ik, .ref iv, .ref ir, .ref il, .ref iy, .ref ig])), (ig, .inl (dg, 43, .inl (bF fF)))]) hP hD [0, 5] [1, 2, 3, 4] rfl rfl (by decide) (by decide) hk1 hFc hP1 hD1
  generalize H1 = H at hP hS ⊢
  have hP : va_P (dC, dI) classes [(ik, .inl (dk, 86, .inl K)), (iv, .inl (dv, 86, .inl V)), (ir, .inl (dr, 86, .inl R)), (il, .inl (dl, 43, .inl (bF L))), (jm, .inr (3, [.int (nI 0), .long sd, .long tp, .int (nI n), .ref ik, .ref iv, .ref ir, .ref il, .ref iy, .ref ig])), (ig, .inl (dg, 43, .inl (bF fF)))] H := hP
  have hD : va_D A [(ik, .inl (dk, 86, .inl K)), (iv, .inl (dv, 86, .inl V)), (ir, .inl (dr, 86, .inl R)), (il, .inl (dl, 43, .inl (bF L))), (jm, .inr (3, [.int (nI 0), .long sd, .long tp, .int (nI n), .ref ik, .ref iv, .ref ir, .ref il, .ref iy, .ref ig])), (ig, .inl (dg, 43, .inl (bF fF)))] := hD
  refine lv_aload_n hx hb d_M_now_9 rfl (lv_at hl 0 rfl) ?_
  have hPc := hP.sub (ws' := [(jm, .inr (3, [.int (nI 0), .long sd, .long tp, .int (nI n), .ref ik, .ref iv, .ref ir, .ref il, .ref iy, .ref ig])), (ik, .inl (dk, 86, .inl K)), (iv, .inl (dv, 86, .inl V)), (ir, .inl (dr, 86, .inl R)), (il, .inl (dl, 43, .inl (bF L))), (ig, .inl (dg, 43, .inl (bF fF)))]) [4, 0, 1, 2, 3, 5] rfl
  have hKc := hK.sub (tys' := [(dk, .int), (dv, .int), (dr, .int), (dl, .boolean), (dg, .boolean)]) [0, 1, 2, 3, 4] rfl
  refine vp_callSi (W.runV (As := []) (rest := []) ⟨hx, hb, hml, hown, hts⟩ (c_M_judged l dC dI jm ik iv ir il iy ig n (nI 0) sd tp dk dv dr dl dg K V R L fF (by first | assumption | omega) (by first | assumption | omega)) (cwV 0 hts (g_V big_w m_431 m_433 ms_29 m_4 m_434) rfl rfl rfl (by decide +kernel) ⟨Nat.le_of_ble_eq_true rfl, Nat.le_of_ble_eq_true rfl⟩) (ro_V hPc hKc hN (va_recv hKc hPc (ci := 3) (q0 := 0) rfl rfl)) rfl rfl hl.1 rfl (lv_room (Nat.le_of_ble_eq_true rfl)) d_M_now_10 ⟨Nat.le_of_ble_eq_true rfl, Nat.le_of_ble_eq_true rfl⟩) (fun r_2 er_2 => ?_)
  have er_2 := er_2.symm
  subst er_2
  have hP9 := hP.sub (ws' := [(jm, .inr (3, [.int (nI 0), .long sd, .long tp, .int (nI n), .ref ik, .ref iv, .ref ir, .ref il, .ref iy, .ref ig])), (ik, .inl (dk, 86, .inl K)), (iv, .inl (dv, 86, .inl V)), (ir, .inl (dr, 86, .inl R)), (il, .inl (dl, 43, .inl (bF L))), (ig, .inl (dg, 43, .inl (bF fF)))]) [4, 0, 1, 2, 3, 5] rfl
  have hD9 := hD.sub (ws' := [(jm, .inr (3, [.int (nI 0), .long sd, .long tp, .int (nI n), .ref ik, .ref iv, .ref ir, .ref il, .ref iy, .ref ig])), (ik, .inl (dk, 86, .inl K)), (iv, .inl (dv, 86, .inl V)), (ir, .inl (dr, 86, .inl R)), (il, .inl (dl, 43, .inl (bF L))), (ig, .inl (dg, 43, .inl (bF fF)))]) [4, 0, 1, 2, 3, 5] (by decide) rfl
  have hK9 := hK.sub (tys' := [(dk, .int), (dv, .int), (dr, .int), (dl, .boolean), (dg, .boolean)]) [0, 1, 2, 3, 4] rfl
  exact W.iret (v := jdL K V R L fF n) hx hb hr (fun t ht hW => ⟨⟨jdL K V R L fF n, (), rfl, rfl, by rw [ht]; exact hP9, va_K.moved hW.alike hK9, hD9⟩, hS.F ht⟩) hS.2.2 d_M_now_13
set_option maxHeartbeats 4000000 in
set_option maxRecDepth 100000 in
/-- reference: shorter -/
theorem c_M_shorter (l : Launch) (dC : Nat → ClassId) (dI : Nat → Nat → Nat) (jm ik iv ir il iy ig : Nat) (n : Nat) (th : Int32) (sd tp : Int64) (dk dv dr dl dy dg : ClassId) (K V R : Nat → Int32) (L S G : Nat → Bool)  (hn : n ≤ 43) (hR : rfK n R) (hKk : kdK n K) (sz : Nat) : Met l y_M_shorter w_M_shorter ({ frames := 4, cells := 0, slots := 0, locals := 86 }) (wr_P dC dI [.ref jm] [(jm, .inr (3, [.int th, .long sd, .long tp, .int (nI n), .ref ik, .ref iv, .ref ir, .ref il, .ref iy, .ref ig])), (ik, .inl (dk, 86, .inl K)), (iv, .inl (dv, 86, .inl V)), (ir, .inl (dr, 86, .inl R)), (il, .inl (dl, 43, .inl (bF L))), (iy, .inl (dy, 256, .inl (bF S))), (ig, .inl (dg, 43, .inl (bF G)))] [(dk, .int), (dv, .int), (dr, .int), (dl, .boolean), (dy, .boolean), (dg, .boolean)] sz) (va_Qi (fun (r : Int32) (_ : Nat → Bool) => r = nI (cnt (shE n K V R S L) n)) (fun (u : Nat → Bool) => wr_B dC dI (va_A [(jm, .inr (3, [.int th, .long sd, .long tp, .int (nI n), .ref ik, .ref iv, .ref ir, .ref il, .ref iy, .ref ig])), (ik, .inl (dk, 86, .inl K)), (iv, .inl (dv, 86, .inl V)), (ir, .inl (dr, 86, .inl R)), (il, .inl (dl, 43, .inl (bF L))), (iy, .inl (dy, 256, .inl (bF S))), (ig, .inl (dg, 43, .inl (bF G)))] sz) [(jm, .inr (3, [.int (nI 0), .long sd, .long tp, .int (nI n), .ref ik, .ref iv, .ref ir, .ref il, .ref iy, .ref ig])), (ik, .inl (dk, 86, .inl K)), (iv, .inl (dv, 86, .inl V)), (ir, .inl (dr, 86, .inl R)), (il, .inl (dl, 43, .inl (bF (shE n K V R S L)))), (iy, .inl (dy, 256, .inl (bF S))), (ig, .inl (dg, 43, .inl (bF u)))] [(dk, .int), (dv, .int), (dr, .int), (dl, .boolean), (dy, .boolean), (dg, .boolean)]) (va_A [(jm, .inr (3, [.int th, .long sd, .long tp, .int (nI n), .ref ik, .ref iv, .ref ir, .ref il, .ref iy, .ref ig])), (ik, .inl (dk, 86, .inl K)), (iv, .inl (dv, 86, .inl V)), (ir, .inl (dr, 86, .inl R)), (il, .inl (dl, 43, .inl (bF L))), (iy, .inl (dy, 256, .inl (bF S))), (ig, .inl (dg, 43, .inl (bF G)))] sz)) 0 0 (va_A [(jm, .inr (3, [.int th, .long sd, .long tp, .int (nI n), .ref ik, .ref iv, .ref ir, .ref il, .ref iy, .ref ig])), (ik, .inl (dk, 86, .inl K)), (iv, .inl (dv, 86, .inl V)), (ir, .inl (dr, 86, .inl R)), (il, .inl (dl, 43, .inl (bF L))), (iy, .inl (dy, 256, .inl (bF S))), (ig, .inl (dg, 43, .inl (bF G)))] sz) := by
  refine Met.ofW (cc := b_M_shorter) (maxL := 1) (ret := (Option.some Jvm.ClassFile.FieldType.int)) (by decide) rfl ?_
  intro p e s m args below meth c s₁ B0 hml hv0
  obtain ⟨rfl, hsz, hP, hK, hD0, hN⟩ := hv0
  have hx := B0.exec
  have hb := B0.bytes
  have hr := B0.returns
  have hts := atoms_spec (ws := w_M_shorter) B0.pre
  have hown : s.vm.findClass R_M = some m.cls := findClass_of_methodNamed B0.named
  have hlocks := B0.notSynchronized
  subst hsz
  have hD := hD0.self (sz := s.heap.size)
  generalize hAe : va_A [(jm, .inr (3, [.int th, .long sd, .long tp, .int (nI n), .ref ik, .ref iv, .ref ir, .ref il, .ref iy, .ref ig])), (ik, .inl (dk, 86, .inl K)), (iv, .inl (dv, 86, .inl V)), (ir, .inl (dr, 86, .inl R)), (il, .inl (dl, 43, .inl (bF L))), (iy, .inl (dy, 256, .inl (bF S))), (ig, .inl (dg, 43, .inl (bF G)))] s.heap.size = A at hD ⊢
  have hA : ∀ q : Nat, s.heap.size ≤ q → A q := fun q h => by rw [← hAe]; exact Or.inr h
  have hS : va_S A s.heap s.heap [] := va_S.rf
  have hP : va_P (dC, dI) classes [(jm, .inr (3, [.int th, .long sd, .long tp, .int (nI n), .ref ik, .ref iv, .ref ir, .ref il, .ref iy, .ref ig])), (ik, .inl (dk, 86, .inl K)), (iv, .inl (dv, 86, .inl V)), (ir, .inl (dr, 86, .inl R)), (il, .inl (dl, 43, .inl (bF L))), (iy, .inl (dy, 256, .inl (bF S))), (ig, .inl (dg, 43, .inl (bF G)))] s.heap := hP
  have hl := lv_entry ([.ref jm]) (n := 1) (Nat.le_of_ble_eq_true rfl)
  rw [lg_entry_eq]
  generalize (lg_sl ([.ref jm]) ++ List.replicate (1 - (lg_sl ([.ref jm])).length) Slot.unset).toArray = ls at hl ⊢
  have hl : lv_has ls 1 [(0, .ref jm)] := hl
  have hc2 := cnt_le L n
  refine lv_aload_n hx hb d_M_shorter_0 rfl (lv_at hl 0 rfl) ?_
  refine lv_iconst (v := nI 0) hx hb d_M_shorter_1 (by decide +kernel) ?_
  refine va_put (D := (dC, dI)) (ci := 3) (v := .int (nI 0)) (ty := .int) (C := R_M) (T := F_M) (N := 10) hx hb hts (lay_M _) ft_M tok_M nok_M hown hK hP hD hS 0 rfl rfl 0 (by decide) (hts _ (List.mem_cons_of_mem _ m_336)) (fun _ h9 => h9) rfl (by decide +kernel) rfl rfl (Nat.le_of_ble_eq_true rfl) d_M_shorter_2 (fun H locs hP hD hS => ?_)
  have hP : va_P (dC, dI) classes [(jm, .inr (3, [.int (nI 0), .long sd, .long tp, .int (nI n), .ref ik, .ref iv, .ref ir, .ref il, .ref iy, .ref ig])), (ik, .inl (dk, 86, .inl K)), (iv, .inl (dv, 86, .inl V)), (ir, .inl (dr, 86, .inl R)), (il, .inl (dl, 43, .inl (bF L))), (iy, .inl (dy, 256, .inl (bF S))), (ig, .inl (dg, 43, .inl (bF G)))] H := hP
  have hD : va_D A [(jm, .inr (3, [.int (nI 0), .long sd, .long tp, .int (nI n), .ref ik, .ref iv, .ref ir, .ref il, .ref iy, .ref ig])), (ik, .inl (dk, 86, .inl K)), (iv, .inl (dv, 86, .inl V)), (ir, .inl (dr, 86, .inl R)), (il, .inl (dl, 43, .inl (bF L))), (iy, .inl (dy, 256, .inl (bF S))), (ig, .inl (dg, 43, .inl (bF G)))] := hD
  refine lv_aload_n hx hb d_M_shorter_5 rfl (lv_at hl 0 rfl) ?_
  have hPc := hP.sub (ws' := [(jm, .inr (3, [.int (nI 0), .long sd, .long tp, .int (nI n), .ref ik, .ref iv, .ref ir, .ref il, .ref iy, .ref ig])), (ig, .inl (dg, 43, .inl (bF G)))]) [0, 6] rfl
  have hKc := hK.sub (tys' := [(dg, .boolean)]) [5] rfl
  have hDc := hD.sub (ws' := [(jm, .inr (3, [.int (nI 0), .long sd, .long tp, .int (nI n), .ref ik, .ref iv, .ref ir, .ref il, .ref iy, .ref ig])), (ig, .inl (dg, 43, .inl (bF G)))]) [0, 6] (by decide) rfl
  have hFc := va_free (wc := [(jm, .inr (3, [.int (nI 0), .long sd, .long tp, .int (nI n), .ref ik, .ref iv, .ref ir, .ref il, .ref iy, .ref ig])), (ig, .inl (dg, 43, .inl (bF G)))]) hD hS hA [0, 6] rfl
  refine va_callv (va_runV (As := []) (rest := []) ⟨hx, hb, hml, hown, hts⟩ (c_M_none l dC dI jm ik iv ir il iy ig n (nI 0) sd tp dg G _) (cwV 0 hts (g_V big_w m_427 m_429 ms_28 m_4 m_430) rfl rfl rfl (by decide +kernel) ⟨Nat.le_of_ble_eq_true rfl, Nat.le_of_ble_eq_true rfl⟩) (wr_V hPc hKc hDc hN (va_recv hKc hPc (ci := 3) (q0 := 0) rfl rfl)) rfl rfl hl.1 rfl (lv_room (Nat.le_of_ble_eq_true rfl)) d_M_shorter_6 ⟨Nat.le_of_ble_eq_true rfl, Nat.le_of_ble_eq_true rfl⟩) hS (fun q _ h => hFc q h) hFc (fun u t H1 locs ht hvm hw hB hz1 hk1 hS => ?_)
  obtain ⟨hP1, hK1, hD1⟩ := hB
  rw [ht] at hP1
  obtain ⟨hP, hD⟩ := va_join (wr := [(ik, .inl (dk, 86, .inl K)), (iv, .inl (dv, 86, .inl V)), (ir, .inl (dr, 86, .inl R)), (il, .inl (dl, 43, .inl (bF L))), (iy, .inl (dy, 256, .inl (bF S)))]) (w1 := [(jm, .inr (3, [.int (nI 0), .long sd, .long tp, .int (nI n), .ref ik, .ref iv, .ref ir, .ref il, .ref iy, .ref ig])), (ig, .inl (dg, 43, .inl (bF fF)))]) hP hD [0, 6] [1, 2, 3, 4, 5] rfl rfl (by decide) (by decide) hk1 hFc hP1 hD1
  generalize H1 = H at hP hS ⊢
  have hP : va_P (dC, dI) classes [(ik, .inl (dk, 86, .inl K)), (iv, .inl (dv, 86, .inl V)), (ir, .inl (dr, 86, .inl R)), (il, .inl (dl, 43, .inl (bF L))), (iy, .inl (dy, 256, .inl (bF S))), (jm, .inr (3, [.int (nI 0), .long sd, .long tp, .int (nI n), .ref ik, .ref iv, .ref ir, .ref il, .ref iy, .ref ig])), (ig, .inl (dg, 43, .inl (bF fF)))] H := hP
  have hD : va_D A [(ik, .inl (dk, 86, .inl K)), (iv, .inl (dv, 86, .inl V)), (ir, .inl (dr, 86, .inl R)), (il, .inl (dl, 43, .inl (bF L))), (iy, .inl (dy, 256, .inl (bF S))), (jm, .inr (3, [.int (nI 0), .long sd, .long tp, .int (nI n), .ref ik, .ref iv, .ref ir, .ref il, .ref iy, .ref ig])), (ig, .inl (dg, 43, .inl (bF fF)))] := hD
  refine lv_aload_n hx hb d_M_shorter_9 rfl (lv_at hl 0 rfl) ?_
  refine va_get (D := (dC, dI)) (ci := 3) (v := .ref iy) (C := R_M) (T := F_M) (N := 10) hx hb hts (lay_M _) hown hK hP 5 rfl rfl 8 (by decide) (hts _ (List.mem_cons_of_mem _ m_344)) (fun _ h9 => h9) rfl d_M_shorter_10 ?_
  refine lv_aload_n hx hb d_M_shorter_13 rfl (lv_at hl 0 rfl) ?_
  have hPc := hP.sub (ws' := [(jm, .inr (3, [.int (nI 0), .long sd, .long tp, .int (nI n), .ref ik, .ref iv, .ref ir, .ref il, .ref iy, .ref ig])), (ik, .inl (dk, 86, .inl K)), (iv, .inl (dv, 86, .inl V)), (ir, .inl (dr, 86, .inl R)), (il, .inl (dl, 43, .inl (bF L))), (ig, .inl (dg, 43, .inl (bF fF)))]) [5, 0, 1, 2, 3, 6] rfl
  have hKc := hK.sub (tys' := [(dk, .int), (dv, .int), (dr, .int), (dl, .boolean), (dg, .boolean)]) [0, 1, 2, 3, 5] rfl
  refine vp_callSi (W.runV (As := []) (rest := [.ref iy]) ⟨hx, hb, hml, hown, hts⟩ (c_M_judged l dC dI jm ik iv ir il iy ig n (nI 0) sd tp dk dv dr dl dg K V R L fF (by first | assumption | omega) (by first | assumption | omega)) (cwV 0 hts (g_V big_w m_431 m_433 ms_29 m_4 m_434) rfl rfl rfl (by decide +kernel) ⟨Nat.le_of_ble_eq_true rfl, Nat.le_of_ble_eq_true rfl⟩) (ro_V hPc hKc hN (va_recv hKc hPc (ci := 3) (q0 := 0) rfl rfl)) rfl rfl hl.1 rfl (lv_room (Nat.le_of_ble_eq_true rfl)) d_M_shorter_14 ⟨Nat.le_of_ble_eq_true rfl, Nat.le_of_ble_eq_true rfl⟩) (fun r_2 er_2 => ?_)
  have er_2 := er_2.symm
  subst er_2
  refine va_zald hx hb hK hP 4 4 rfl rfl (jdL_in hKk) d_M_shorter_17 ?_
  refine lv_topi (fun w_3 ew_3 => ?_)
  have ew_3 : (bI (S (jdL K V R L fF n).toNatClampNeg)) = w_3 := (ew_3.trans (rfl)).symm
  subst ew_3
  refine lv_if_ne (tgt := 30) hx hb d_M_shorter_18 (by decide) (fun c_18 => ?_) (fun c_18 => ?_)
  · skip
    have c_18 := bI_t c_18
    have lp_30 : ∀ (k9_30 : Nat), ∀ (f : Nat) (L1 Gq : Nat → Bool), f < k9_30 → (cnt L1 n < f) → (shL n K V R S f L1 = shL n K V R S (n + 1) L) → ∀ (H : Heap) (locs : List Loc), va_P (dC, dI) classes [(jm, .inr (3, [.int (nI 0), .long sd, .long tp, .int (nI n), .ref ik, .ref iv, .ref ir, .ref il, .ref iy, .ref ig])), (ik, .inl (dk, 86, .inl K)), (iv, .inl (dv, 86, .inl V)), (ir, .inl (dr, 86, .inl R)), (il, .inl (dl, 43, .inl (bF L1))), (iy, .inl (dy, 256, .inl (bF S))), (ig, .inl (dg, 43, .inl (bF Gq)))] H → va_D A [(jm, .inr (3, [.int (nI 0), .long sd, .long tp, .int (nI n), .ref ik, .ref iv, .ref ir, .ref il, .ref iy, .ref ig])), (ik, .inl (dk, 86, .inl K)), (iv, .inl (dv, 86, .inl V)), (ir, .inl (dr, 86, .inl R)), (il, .inl (dl, 43, .inl (bF L1))), (iy, .inl (dy, 256, .inl (bF S))), (ig, .inl (dg, 43, .inl (bF Gq)))] → va_S A s.heap H locs → ∀ (ls : Array Slot), lv_has ls 1 [(0, .ref jm)] → W p l e (headSpec w_M_shorter ({ frames := 4, cells := 0, slots := 0, locals := 86 })).room s m ([.ref jm]).toArray below meth c H locs 0 0 (MQ below (va_Qi (fun (r : Int32) (_ : Nat → Bool) => r = nI (cnt (shE n K V R S L) n)) (fun (u : Nat → Bool) => wr_B dC dI (A) [(jm, .inr (3, [.int (nI 0), .long sd, .long tp, .int (nI n), .ref ik, .ref iv, .ref ir, .ref il, .ref iy, .ref ig])), (ik, .inl (dk, 86, .inl K)), (iv, .inl (dv, 86, .inl V)), (ir, .inl (dr, 86, .inl R)), (il, .inl (dl, 43, .inl (bF (shE n K V R S L)))), (iy, .inl (dy, 256, .inl (bF S))), (ig, .inl (dg, 43, .inl (bF u)))] [(dk, .int), (dv, .int), (dr, .int), (dl, .boolean), (dy, .boolean), (dg, .boolean)]) (A)) ([.ref jm]).toArray s 0 0 A) (F0 m 30 ls []) := by
      intro k9_30
      induction k9_30 with
      | zero =>
        intro f L1 Gq hk9
        exact absurd hk9 (Nat.not_lt_zero _)
      | succ k9_30 ih_30 =>
        intro f L1 Gq hk9_30 hf hsh H locs hP hD hS ls hl
        obtain ⟨f, rfl⟩ : ∃ f1, f = f1 + 1 := ⟨f - 1, by omega⟩
        refine lv_aload_n hx hb d_M_shorter_30 rfl (lv_at hl 0 rfl) ?_
        have hPc := hP.sub (ws' := [(jm, .inr (3, [.int (nI 0), .long sd, .long tp, .int (nI n), .ref ik, .ref iv, .ref ir, .ref il, .ref iy, .ref ig])), (ik, .inl (dk, 86, .inl K)), (iv, .inl (dv, 86, .inl V)), (ir, .inl (dr, 86, .inl R)), (il, .inl (dl, 43, .inl (bF L1))), (iy, .inl (dy, 256, .inl (bF S))), (ig, .inl (dg, 43, .inl (bF Gq)))]) [0, 1, 2, 3, 4, 5, 6] rfl
        have hKc := hK.sub (tys' := [(dk, .int), (dv, .int), (dr, .int), (dl, .boolean), (dy, .boolean), (dg, .boolean)]) [0, 1, 2, 3, 4, 5] rfl
        have hDc := hD.sub (ws' := [(jm, .inr (3, [.int (nI 0), .long sd, .long tp, .int (nI n), .ref ik, .ref iv, .ref ir, .ref il, .ref iy, .ref ig])), (ik, .inl (dk, 86, .inl K)), (iv, .inl (dv, 86, .inl V)), (ir, .inl (dr, 86, .inl R)), (il, .inl (dl, 43, .inl (bF L1))), (iy, .inl (dy, 256, .inl (bF S))), (ig, .inl (dg, 43, .inl (bF Gq)))]) [0, 1, 2, 3, 4, 5, 6] (by decide) rfl
        have hFc := va_free (wc := [(jm, .inr (3, [.int (nI 0), .long sd, .long tp, .int (nI n), .ref ik, .ref iv, .ref ir, .ref il, .ref iy, .ref ig])), (ik, .inl (dk, 86, .inl K)), (iv, .inl (dv, 86, .inl V)), (ir, .inl (dr, 86, .inl R)), (il, .inl (dl, 43, .inl (bF L1))), (iy, .inl (dy, 256, .inl (bF S))), (ig, .inl (dg, 43, .inl (bF Gq)))]) hD hS hA [0, 1, 2, 3, 4, 5, 6] rfl
        refine va_calli (va_runV (As := []) (rest := []) ⟨hx, hb, hml, hown, hts⟩ (c_M_first l dC dI jm ik iv ir il iy ig n (nI 0) sd tp dk dv dr dl dy dg K V R L1 S Gq (by first | assumption | omega) (by first | assumption | omega) (by first | assumption | omega) _) (cwV 0 hts (g_V big_w m_439 m_441 ms_30 m_4 m_442) rfl rfl rfl (by decide +kernel) ⟨Nat.le_of_ble_eq_true rfl, Nat.le_of_ble_eq_true rfl⟩) (wr_V hPc hKc hDc hN (va_recv hKc hPc (ci := 3) (q0 := 0) rfl rfl)) rfl rfl hl.1 rfl (lv_room (Nat.le_of_ble_eq_true rfl)) d_M_shorter_31 ⟨Nat.le_of_ble_eq_true rfl, Nat.le_of_ble_eq_true rfl⟩) hS (fun q _ h => hFc q h) hFc (fun r_4 u t H1 locs ht hvm hw hB hz1 hk1 hS => ?_)
        obtain ⟨hP1, hK1, hD1⟩ := hB
        rw [ht] at hP1
        obtain ⟨hP, hD⟩ := va_join (wr := []) (w1 := [(jm, .inr (3, [.int (nI 0), .long sd, .long tp, .int (nI n), .ref ik, .ref iv, .ref ir, .ref il, .ref iy, .ref ig])), (ik, .inl (dk, 86, .inl K)), (iv, .inl (dv, 86, .inl V)), (ir, .inl (dr, 86, .inl R)), (il, .inl (dl, 43, .inl (bF L1))), (iy, .inl (dy, 256, .inl (bF S))), (ig, .inl (dg, 43, .inl (bF (gaE n K V R S L1 Gq))))]) hP hD [0, 1, 2, 3, 4, 5, 6] [] rfl rfl (by decide) (by decide) hk1 hFc hP1 hD1
        generalize H1 = H at hP hS ⊢
        have hP : va_P (dC, dI) classes [(jm, .inr (3, [.int (nI 0), .long sd, .long tp, .int (nI n), .ref ik, .ref iv, .ref ir, .ref il, .ref iy, .ref ig])), (ik, .inl (dk, 86, .inl K)), (iv, .inl (dv, 86, .inl V)), (ir, .inl (dr, 86, .inl R)), (il, .inl (dl, 43, .inl (bF L1))), (iy, .inl (dy, 256, .inl (bF S))), (ig, .inl (dg, 43, .inl (bF (gaE n K V R S L1 Gq))))] H := hP
        have hD : va_D A [(jm, .inr (3, [.int (nI 0), .long sd, .long tp, .int (nI n), .ref ik, .ref iv, .ref ir, .ref il, .ref iy, .ref ig])), (ik, .inl (dk, 86, .inl K)), (iv, .inl (dv, 86, .inl V)), (ir, .inl (dr, 86, .inl R)), (il, .inl (dl, 43, .inl (bF L1))), (iy, .inl (dy, 256, .inl (bF S))), (ig, .inl (dg, 43, .inl (bF (gaE n K V R S L1 Gq))))] := hD
        have hw := hw.symm
        subst hw
        refine lv_if_lt (tgt := 44) hx hb d_M_shorter_34 (by decide) (fun c_34 => ?_) (fun c_34 => ?_)
        · skip
          have c_34 := (mg_lt0 hn).mp c_34
          have ev : L1 = shE n K V R S L := shE_v c_18 hsh c_34
          refine lv_aload_n hx hb d_M_shorter_44 rfl (lv_at hl 0 rfl) ?_
          have hPc := hP.sub (ws' := [(jm, .inr (3, [.int (nI 0), .long sd, .long tp, .int (nI n), .ref ik, .ref iv, .ref ir, .ref il, .ref iy, .ref ig])), (il, .inl (dl, 43, .inl (bF L1)))]) [0, 4] rfl
          have hKc := hK.sub (tys' := [(dl, .boolean)]) [3] rfl
          refine vp_callSi (W.runV (As := []) (rest := []) ⟨hx, hb, hml, hown, hts⟩ (c_M_many l dC dI jm ik iv ir il iy ig n (nI 0) sd tp dl L1 (by first | assumption | omega)) (cwV 0 hts (g_V big_w m_451 m_453 ms_33 m_4 m_454) rfl rfl rfl (by decide +kernel) ⟨Nat.le_of_ble_eq_true rfl, Nat.le_of_ble_eq_true rfl⟩) (ro_V hPc hKc hN (va_recv hKc hPc (ci := 3) (q0 := 0) rfl rfl)) rfl rfl hl.1 rfl (lv_room (Nat.le_of_ble_eq_true rfl)) d_M_shorter_45 ⟨Nat.le_of_ble_eq_true rfl, Nat.le_of_ble_eq_true rfl⟩) (fun r_5 er_5 => ?_)
          have er_5 := er_5.symm
          subst er_5
          rw [show (bF L1) = (bF (shE n K V R S L)) from (congrArg bF ev)] at hP hD
          have hP9 := hP.sub (ws' := [(jm, .inr (3, [.int (nI 0), .long sd, .long tp, .int (nI n), .ref ik, .ref iv, .ref ir, .ref il, .ref iy, .ref ig])), (ik, .inl (dk, 86, .inl K)), (iv, .inl (dv, 86, .inl V)), (ir, .inl (dr, 86, .inl R)), (il, .inl (dl, 43, .inl (bF (shE n K V R S L)))), (iy, .inl (dy, 256, .inl (bF S))), (ig, .inl (dg, 43, .inl (bF (gaE n K V R S L1 Gq))))]) [0, 1, 2, 3, 4, 5, 6] rfl
          have hD9 := hD.sub (ws' := [(jm, .inr (3, [.int (nI 0), .long sd, .long tp, .int (nI n), .ref ik, .ref iv, .ref ir, .ref il, .ref iy, .ref ig])), (ik, .inl (dk, 86, .inl K)), (iv, .inl (dv, 86, .inl V)), (ir, .inl (dr, 86, .inl R)), (il, .inl (dl, 43, .inl (bF (shE n K V R S L)))), (iy, .inl (dy, 256, .inl (bF S))), (ig, .inl (dg, 43, .inl (bF (gaE n K V R S L1 Gq))))]) [0, 1, 2, 3, 4, 5, 6] (by decide) rfl
          have hK9 := hK.sub (tys' := [(dk, .int), (dv, .int), (dr, .int), (dl, .boolean), (dy, .boolean), (dg, .boolean)]) [0, 1, 2, 3, 4, 5] rfl
          exact W.iret (v := nI (cnt L1 n)) hx hb hr (fun t ht hW => ⟨⟨nI (cnt L1 n), (gaE n K V R S L1 Gq), rfl, (by rw [ev]), by rw [ht]; exact hP9, va_K.moved hW.alike hK9, hD9⟩, hS.F ht⟩) hS.2.2 d_M_shorter_48
        · skip
          obtain ⟨i, hi9⟩ := mg_some hn c_34
          refine lv_aload_n hx hb d_M_shorter_37 rfl (lv_at hl 0 rfl) ?_
          have hPc := hP.sub (ws' := [(jm, .inr (3, [.int (nI 0), .long sd, .long tp, .int (nI n), .ref ik, .ref iv, .ref ir, .ref il, .ref iy, .ref ig])), (il, .inl (dl, 43, .inl (bF L1))), (ig, .inl (dg, 43, .inl (bF (gaE n K V R S L1 Gq))))]) [0, 4, 6] rfl
          have hKc := hK.sub (tys' := [(dl, .boolean), (dg, .boolean)]) [3, 5] rfl
          have hDc := hD.sub (ws' := [(jm, .inr (3, [.int (nI 0), .long sd, .long tp, .int (nI n), .ref ik, .ref iv, .ref ir, .ref il, .ref iy, .ref ig])), (il, .inl (dl, 43, .inl (bF L1))), (ig, .inl (dg, 43, .inl (bF (gaE n K V R S L1 Gq))))]) [0, 4, 6] (by decide) rfl
          have hFc := va_free (wc := [(jm, .inr (3, [.int (nI 0), .long sd, .long tp, .int (nI n), .ref ik, .ref iv, .ref ir, .ref il, .ref iy, .ref ig])), (il, .inl (dl, 43, .inl (bF L1))), (ig, .inl (dg, 43, .inl (bF (gaE n K V R S L1 Gq))))]) hD hS hA [0, 4, 6] rfl
          refine va_callv (va_runV (As := []) (rest := []) ⟨hx, hb, hml, hown, hts⟩ (c_M_leaves l dC dI jm ik iv ir il iy ig n (nI 0) sd tp dl dg L1 (gaE n K V R S L1 Gq) (by first | assumption | omega) _) (cwV 0 hts (g_V big_w m_455 m_457 ms_34 m_4 m_458) rfl rfl rfl (by decide +kernel) ⟨Nat.le_of_ble_eq_true rfl, Nat.le_of_ble_eq_true rfl⟩) (wr_V hPc hKc hDc hN (va_recv hKc hPc (ci := 3) (q0 := 0) rfl rfl)) rfl rfl hl.1 rfl (lv_room (Nat.le_of_ble_eq_true rfl)) d_M_shorter_38 ⟨Nat.le_of_ble_eq_true rfl, Nat.le_of_ble_eq_true rfl⟩) hS (fun q _ h => hFc q h) hFc (fun u t H1 locs ht hvm hw hB hz1 hk1 hS => ?_)
          obtain ⟨hP1, hK1, hD1⟩ := hB
          rw [ht] at hP1
          obtain ⟨hP, hD⟩ := va_join (wr := [(ik, .inl (dk, 86, .inl K)), (iv, .inl (dv, 86, .inl V)), (ir, .inl (dr, 86, .inl R)), (iy, .inl (dy, 256, .inl (bF S)))]) (w1 := [(jm, .inr (3, [.int (nI 0), .long sd, .long tp, .int (nI n), .ref ik, .ref iv, .ref ir, .ref il, .ref iy, .ref ig])), (il, .inl (dl, 43, .inl (bF (lvF n L1 (gaE n K V R S L1 Gq))))), (ig, .inl (dg, 43, .inl (bF (gaE n K V R S L1 Gq))))]) hP hD [0, 4, 6] [1, 2, 3, 5] rfl rfl (by decide) (by decide) hk1 hFc hP1 hD1
          generalize H1 = H at hP hS ⊢
          have hP : va_P (dC, dI) classes [(ik, .inl (dk, 86, .inl K)), (iv, .inl (dv, 86, .inl V)), (ir, .inl (dr, 86, .inl R)), (iy, .inl (dy, 256, .inl (bF S))), (jm, .inr (3, [.int (nI 0), .long sd, .long tp, .int (nI n), .ref ik, .ref iv, .ref ir, .ref il, .ref iy, .ref ig])), (il, .inl (dl, 43, .inl (bF (lvF n L1 (gaE n K V R S L1 Gq))))), (ig, .inl (dg, 43, .inl (bF (gaE n K V R S L1 Gq))))] H := hP
          have hD : va_D A [(ik, .inl (dk, 86, .inl K)), (iv, .inl (dv, 86, .inl V)), (ir, .inl (dr, 86, .inl R)), (iy, .inl (dy, 256, .inl (bF S))), (jm, .inr (3, [.int (nI 0), .long sd, .long tp, .int (nI n), .ref ik, .ref iv, .ref ir, .ref il, .ref iy, .ref ig])), (il, .inl (dl, 43, .inl (bF (lvF n L1 (gaE n K V R S L1 Gq))))), (ig, .inl (dg, 43, .inl (bF (gaE n K V R S L1 Gq))))] := hD
          rw [show (bF (lvF n L1 (gaE n K V R S L1 Gq))) = (bF (lvF n L1 (mkF R L1 i n))) from (by rw [gaE_s hi9])] at hP hD
          refine lv_goto (tgt := 30) hx hb d_M_shorter_41 (by decide) ?_
          exact ih_30 f (lvF n L1 (mkF R L1 i n)) (gaE n K V R S L1 Gq) (by omega) (by have := lv_less (R := R) (mgO_lt hi9).1 (mgO_lt hi9).2; omega) ((shL_s hi9).symm.trans hsh) _ _ (hP.sub (ws' := [(jm, .inr (3, [.int (nI 0), .long sd, .long tp, .int (nI n), .ref ik, .ref iv, .ref ir, .ref il, .ref iy, .ref ig])), (ik, .inl (dk, 86, .inl K)), (iv, .inl (dv, 86, .inl V)), (ir, .inl (dr, 86, .inl R)), (il, .inl (dl, 43, .inl (bF (lvF n L1 (mkF R L1 i n))))), (iy, .inl (dy, 256, .inl (bF S))), (ig, .inl (dg, 43, .inl (bF (gaE n K V R S L1 Gq))))]) [4, 0, 1, 2, 5, 3, 6] rfl) (hD.sub (ws' := [(jm, .inr (3, [.int (nI 0), .long sd, .long tp, .int (nI n), .ref ik, .ref iv, .ref ir, .ref il, .ref iy, .ref ig])), (ik, .inl (dk, 86, .inl K)), (iv, .inl (dv, 86, .inl V)), (ir, .inl (dr, 86, .inl R)), (il, .inl (dl, 43, .inl (bF (lvF n L1 (mkF R L1 i n))))), (iy, .inl (dy, 256, .inl (bF S))), (ig, .inl (dg, 43, .inl (bF (gaE n K V R S L1 Gq))))]) [4, 0, 1, 2, 5, 3, 6] (by decide) rfl) hS ls (lv_sub (l' := [(0, .ref jm)]) hl [0] rfl)
    exact lp_30 ((n + 1) + 1) (n + 1) L fF (by omega) (by omega) rfl _ _ (hP.sub (ws' := [(jm, .inr (3, [.int (nI 0), .long sd, .long tp, .int (nI n), .ref ik, .ref iv, .ref ir, .ref il, .ref iy, .ref ig])), (ik, .inl (dk, 86, .inl K)), (iv, .inl (dv, 86, .inl V)), (ir, .inl (dr, 86, .inl R)), (il, .inl (dl, 43, .inl (bF L))), (iy, .inl (dy, 256, .inl (bF S))), (ig, .inl (dg, 43, .inl (bF fF)))]) [5, 0, 1, 2, 3, 4, 6] rfl) (hD.sub (ws' := [(jm, .inr (3, [.int (nI 0), .long sd, .long tp, .int (nI n), .ref ik, .ref iv, .ref ir, .ref il, .ref iy, .ref ig])), (ik, .inl (dk, 86, .inl K)), (iv, .inl (dv, 86, .inl V)), (ir, .inl (dr, 86, .inl R)), (il, .inl (dl, 43, .inl (bF L))), (iy, .inl (dy, 256, .inl (bF S))), (ig, .inl (dg, 43, .inl (bF fF)))]) [5, 0, 1, 2, 3, 4, 6] (by decide) rfl) hS ls (lv_sub (l' := [(0, .ref jm)]) hl [0] rfl)
  · skip
    have c_18 := bI_f c_18
    have ew : alF n 43 L = shE n K V R S L := shE_a c_18
    refine lv_aload_n hx hb d_M_shorter_21 rfl (lv_at hl 0 rfl) ?_
    have hPc := hP.sub (ws' := [(jm, .inr (3, [.int (nI 0), .long sd, .long tp, .int (nI n), .ref ik, .ref iv, .ref ir, .ref il, .ref iy, .ref ig])), (il, .inl (dl, 43, .inl (bF L)))]) [5, 3] rfl
    have hKc := hK.sub (tys' := [(dl, .boolean)]) [3] rfl
    have hDc := hD.sub (ws' := [(jm, .inr (3, [.int (nI 0), .long sd, .long tp, .int (nI n), .ref ik, .ref iv, .ref ir, .ref il, .ref iy, .ref ig])), (il, .inl (dl, 43, .inl (bF L)))]) [5, 3] (by decide) rfl
    have hFc := va_free (wc := [(jm, .inr (3, [.int (nI 0), .long sd, .long tp, .int (nI n), .ref ik, .ref iv, .ref ir, .ref il, .ref iy, .ref ig])), (il, .inl (dl, 43, .inl (bF L)))]) hD hS hA [5, 3] rfl
    refine va_callv (va_runV (As := []) (rest := []) ⟨hx, hb, hml, hown, hts⟩ (c_M_all l dC dI jm ik iv ir il iy ig n (nI 0) sd tp dl L (by first | assumption | omega) _) (cwV 0 hts (g_V big_w m_399 m_401 ms_25 m_4 m_402) rfl rfl rfl (by decide +kernel) ⟨Nat.le_of_ble_eq_true rfl, Nat.le_of_ble_eq_true rfl⟩) (wr_V hPc hKc hDc hN (va_recv hKc hPc (ci := 3) (q0 := 0) rfl rfl)) rfl rfl hl.1 rfl (lv_room (Nat.le_of_ble_eq_true rfl)) d_M_shorter_22 ⟨Nat.le_of_ble_eq_true rfl, Nat.le_of_ble_eq_true rfl⟩) hS (fun q _ h => hFc q h) hFc (fun u t H1 locs ht hvm hw hB hz1 hk1 hS => ?_)
    obtain ⟨hP1, hK1, hD1⟩ := hB
    rw [ht] at hP1
    obtain ⟨hP, hD⟩ := va_join (wr := [(ik, .inl (dk, 86, .inl K)), (iv, .inl (dv, 86, .inl V)), (ir, .inl (dr, 86, .inl R)), (iy, .inl (dy, 256, .inl (bF S))), (ig, .inl (dg, 43, .inl (bF fF)))]) (w1 := [(jm, .inr (3, [.int (nI 0), .long sd, .long tp, .int (nI n), .ref ik, .ref iv, .ref ir, .ref il, .ref iy, .ref ig])), (il, .inl (dl, 43, .inl (bF (alF n 43 L))))]) hP hD [5, 3] [0, 1, 2, 4, 6] rfl rfl (by decide) (by decide) hk1 hFc hP1 hD1
    generalize H1 = H at hP hS ⊢
    have hP : va_P (dC, dI) classes [(ik, .inl (dk, 86, .inl K)), (iv, .inl (dv, 86, .inl V)), (ir, .inl (dr, 86, .inl R)), (iy, .inl (dy, 256, .inl (bF S))), (ig, .inl (dg, 43, .inl (bF fF))), (jm, .inr (3, [.int (nI 0), .long sd, .long tp, .int (nI n), .ref ik, .ref iv, .ref ir, .ref il, .ref iy, .ref ig])), (il, .inl (dl, 43, .inl (bF (alF n 43 L))))] H := hP
    have hD : va_D A [(ik, .inl (dk, 86, .inl K)), (iv, .inl (dv, 86, .inl V)), (ir, .inl (dr, 86, .inl R)), (iy, .inl (dy, 256, .inl (bF S))), (ig, .inl (dg, 43, .inl (bF fF))), (jm, .inr (3, [.int (nI 0), .long sd, .long tp, .int (nI n), .ref ik, .ref iv, .ref ir, .ref il, .ref iy, .ref ig])), (il, .inl (dl, 43, .inl (bF (alF n 43 L))))] := hD
    refine lv_aload_n hx hb d_M_shorter_25 rfl (lv_at hl 0 rfl) ?_
    refine va_get (D := (dC, dI)) (ci := 3) (v := .int (nI n)) (C := R_M) (T := F_M) (N := 10) hx hb hts (lay_M _) hown hK hP 5 rfl rfl 3 (by decide) (hts _ (List.mem_cons_of_mem _ m_339)) (fun _ h9 => h9) rfl d_M_shorter_26 ?_
    rw [ew] at hP hD
    have hP9 := hP.sub (ws' := [(jm, .inr (3, [.int (nI 0), .long sd, .long tp, .int (nI n), .ref ik, .ref iv, .ref ir, .ref il, .ref iy, .ref ig])), (ik, .inl (dk, 86, .inl K)), (iv, .inl (dv, 86, .inl V)), (ir, .inl (dr, 86, .inl R)), (il, .inl (dl, 43, .inl (bF (shE n K V R S L)))), (iy, .inl (dy, 256, .inl (bF S))), (ig, .inl (dg, 43, .inl (bF fF)))]) [5, 0, 1, 2, 6, 3, 4] rfl
    have hD9 := hD.sub (ws' := [(jm, .inr (3, [.int (nI 0), .long sd, .long tp, .int (nI n), .ref ik, .ref iv, .ref ir, .ref il, .ref iy, .ref ig])), (ik, .inl (dk, 86, .inl K)), (iv, .inl (dv, 86, .inl V)), (ir, .inl (dr, 86, .inl R)), (il, .inl (dl, 43, .inl (bF (shE n K V R S L)))), (iy, .inl (dy, 256, .inl (bF S))), (ig, .inl (dg, 43, .inl (bF fF)))]) [5, 0, 1, 2, 6, 3, 4] (by decide) rfl
    have hK9 := hK.sub (tys' := [(dk, .int), (dv, .int), (dr, .int), (dl, .boolean), (dy, .boolean), (dg, .boolean)]) [0, 1, 2, 3, 4, 5] rfl
    exact W.iret (v := nI n) hx hb hr (fun t ht hW => ⟨⟨nI n, (fF), rfl, (by rw [← ew, alF_cnt hn]), by rw [ht]; exact hP9, va_K.moved hW.alike hK9, hD9⟩, hS.F ht⟩) hS.2.2 d_M_shorter_29
set_option maxHeartbeats 4000000 in
set_option maxRecDepth 100000 in
/-- reference: left -/
theorem c_M_left (l : Launch) (dC : Nat → ClassId) (dI : Nat → Nat → Nat) (jm ik iv ir il iy ig : Nat) (n : Nat) (th : Int32) (sd tp : Int64) (dl : ClassId) (L : Nat → Bool) (p0 : Int32) (hn : n ≤ 43) (sz : Nat) : Met l y_M_left w_M_left ({ frames := 0, cells := 0, slots := 0, locals := 0 }) (wr_P dC dI [.ref jm, .int p0] [(jm, .inr (3, [.int th, .long sd, .long tp, .int (nI n), .ref ik, .ref iv, .ref ir, .ref il, .ref iy, .ref ig])), (il, .inl (dl, 43, .inl (bF L)))] [(dl, .boolean)] sz) (va_Qi (fun (r : Int32) (_ : Unit) => r = oI (fst9 (dQ L p0) n)) (fun (u : Unit) => wr_B dC dI (va_A [(jm, .inr (3, [.int th, .long sd, .long tp, .int (nI n), .ref ik, .ref iv, .ref ir, .ref il, .ref iy, .ref ig])), (il, .inl (dl, 43, .inl (bF L)))] sz) [(jm, .inr (3, [.int (nI 0), .long sd, .long tp, .int (nI n), .ref ik, .ref iv, .ref ir, .ref il, .ref iy, .ref ig])), (il, .inl (dl, 43, .inl (bF L)))] [(dl, .boolean)]) (va_A [(jm, .inr (3, [.int th, .long sd, .long tp, .int (nI n), .ref ik, .ref iv, .ref ir, .ref il, .ref iy, .ref ig])), (il, .inl (dl, 43, .inl (bF L)))] sz)) 0 0 (va_A [(jm, .inr (3, [.int th, .long sd, .long tp, .int (nI n), .ref ik, .ref iv, .ref ir, .ref il, .ref iy, .ref ig])), (il, .inl (dl, 43, .inl (bF L)))] sz) := by
  refine Met.ofW (cc := b_M_left) (maxL := 4) (ret := (Option.some Jvm.ClassFile.FieldType.int)) (by decide) rfl ?_
  intro p e s m args below meth c s₁ B0 hml hv0
  obtain ⟨rfl, hsz, hP, hK, hD0, hN⟩ := hv0
  have hx := B0.exec
  have hb := B0.bytes
  have hr := B0.returns
  have hts := atoms_spec (ws := w_M_left) B0.pre
  have hown : s.vm.findClass R_M = some m.cls := findClass_of_methodNamed B0.named
  have hlocks := B0.notSynchronized
  subst hsz
  have hD := hD0.self (sz := s.heap.size)
  generalize hAe : va_A [(jm, .inr (3, [.int th, .long sd, .long tp, .int (nI n), .ref ik, .ref iv, .ref ir, .ref il, .ref iy, .ref ig])), (il, .inl (dl, 43, .inl (bF L)))] s.heap.size = A at hD ⊢
  have hA : ∀ q : Nat, s.heap.size ≤ q → A q := fun q h => by rw [← hAe]; exact Or.inr h
  have hS : va_S A s.heap s.heap [] := va_S.rf
  have hP : va_P (dC, dI) classes [(jm, .inr (3, [.int th, .long sd, .long tp, .int (nI n), .ref ik, .ref iv, .ref ir, .ref il, .ref iy, .ref ig])), (il, .inl (dl, 43, .inl (bF L)))] s.heap := hP
  have hl := lv_entry ([.ref jm, .int p0]) (n := 4) (Nat.le_of_ble_eq_true rfl)
  rw [lg_entry_eq]
  generalize (lg_sl ([.ref jm, .int p0]) ++ List.replicate (4 - (lg_sl ([.ref jm, .int p0])).length) Slot.unset).toArray = ls at hl ⊢
  have hl : lv_has ls 4 [(0, .ref jm), (1, .int p0)] := hl
  refine lv_aload_n hx hb d_M_left_0 rfl (lv_at hl 0 rfl) ?_
  refine lv_iconst (v := nI 0) hx hb d_M_left_1 (by decide +kernel) ?_
  refine va_put (D := (dC, dI)) (ci := 3) (v := .int (nI 0)) (ty := .int) (C := R_M) (T := F_M) (N := 10) hx hb hts (lay_M _) ft_M tok_M nok_M hown hK hP hD hS 0 rfl rfl 0 (by decide) (hts _ (List.mem_cons_of_mem _ m_336)) (fun _ h9 => h9) rfl (by decide +kernel) rfl rfl (Nat.le_of_ble_eq_true rfl) d_M_left_2 (fun H locs hP hD hS => ?_)
  have hP : va_P (dC, dI) classes [(jm, .inr (3, [.int (nI 0), .long sd, .long tp, .int (nI n), .ref ik, .ref iv, .ref ir, .ref il, .ref iy, .ref ig])), (il, .inl (dl, 43, .inl (bF L)))] H := hP
  have hD : va_D A [(jm, .inr (3, [.int (nI 0), .long sd, .long tp, .int (nI n), .ref ik, .ref iv, .ref ir, .ref il, .ref iy, .ref ig])), (il, .inl (dl, 43, .inl (bF L)))] := hD
  refine lv_iload_n hx hb d_M_left_5 rfl (lv_at hl 1 rfl) ?_
  refine lv_istore_n (lv' := [(2, .int p0), (0, .ref jm), (1, .int p0)]) hx hb d_M_left_6 rfl hl (by decide) rfl (fun ls hl => ?_)
  refine lv_iconst (v := nI 0) hx hb d_M_left_7 (by decide +kernel) ?_
  refine lv_istore_n (lv' := [(3, .int (nI 0)), (2, .int p0), (0, .ref jm), (1, .int p0)]) hx hb d_M_left_8 rfl hl (by decide) rfl (fun ls hl => ?_)
  rw [show p0 = p0 - (nI (cnt L 0)) from ((pk_z p0).symm)] at hl
  have lp_9 : ∀ (k9_9 : Nat), ∀ (i : Nat), n - i < k9_9 → (i ≤ n) → (∀ a, a < i → dQ L p0 a = false) → ∀ (ls : Array Slot), lv_has ls 4 [(0, .ref jm), (2, .int (p0 - (nI (cnt L i)))), (3, .int (nI i))] → W p l e (headSpec w_M_left ({ frames := 0, cells := 0, slots := 0, locals := 0 })).room s m ([.ref jm, .int p0]).toArray below meth c H locs 0 0 (MQ below (va_Qi (fun (r : Int32) (_ : Unit) => r = oI (fst9 (dQ L p0) n)) (fun (u : Unit) => wr_B dC dI (A) [(jm, .inr (3, [.int (nI 0), .long sd, .long tp, .int (nI n), .ref ik, .ref iv, .ref ir, .ref il, .ref iy, .ref ig])), (il, .inl (dl, 43, .inl (bF L)))] [(dl, .boolean)]) (A)) ([.ref jm, .int p0]).toArray s 0 0 A) (F0 m 9 ls []) := by
    intro k9_9
    induction k9_9 with
    | zero =>
      intro i hk9
      exact absurd hk9 (Nat.not_lt_zero _)
    | succ k9_9 ih_9 =>
      intro i hk9_9 hi hno ls hl
      refine lv_iload_n hx hb d_M_left_9 rfl (lv_at hl 2 rfl) ?_
      refine lv_aload_n hx hb d_M_left_10 rfl (lv_at hl 0 rfl) ?_
      refine va_get (D := (dC, dI)) (ci := 3) (v := .int (nI n)) (C := R_M) (T := F_M) (N := 10) hx hb hts (lay_M _) hown hK hP 0 rfl rfl 3 (by decide) (hts _ (List.mem_cons_of_mem _ m_339)) (fun _ h9 => h9) rfl d_M_left_11 ?_
      refine lv_icmp_ge (tgt := 55) hx hb d_M_left_14 (by decide) (fun c_14 => ?_) (fun c_14 => ?_)
      · skip
        have c_14 := (nI_leI (by omega) (by omega)).mp c_14
        refine lv_iconst (v := (-1)) hx hb d_M_left_55 (by decide +kernel) ?_
        have hP9 := hP.sub (ws' := [(jm, .inr (3, [.int (nI 0), .long sd, .long tp, .int (nI n), .ref ik, .ref iv, .ref ir, .ref il, .ref iy, .ref ig])), (il, .inl (dl, 43, .inl (bF L)))]) [0, 1] rfl
        have hD9 := hD.sub (ws' := [(jm, .inr (3, [.int (nI 0), .long sd, .long tp, .int (nI n), .ref ik, .ref iv, .ref ir, .ref il, .ref iy, .ref ig])), (il, .inl (dl, 43, .inl (bF L)))]) [0, 1] (by decide) rfl
        have hK9 := hK.sub (tys' := [(dl, .boolean)]) [0] rfl
        exact W.iret (v := (-1)) hx hb hr (fun t ht hW => ⟨⟨(-1), (), rfl, (by rw [fst9_none (fun a ha => hno a (by omega))]; rfl), by rw [ht]; exact hP9, va_K.moved hW.alike hK9, hD9⟩, hS.F ht⟩) hS.2.2 d_M_left_56
      · skip
        have c_14 := (not_congr (nI_leI (by omega) (by omega))).mp c_14
        refine lv_aload_n hx hb d_M_left_17 rfl (lv_at hl 0 rfl) ?_
        refine va_get (D := (dC, dI)) (ci := 3) (v := .ref il) (C := R_M) (T := F_M) (N := 10) hx hb hts (lay_M _) hown hK hP 0 rfl rfl 7 (by decide) (hts _ (List.mem_cons_of_mem _ m_343)) (fun _ h9 => h9) rfl d_M_left_18 ?_
        refine lv_iload_n hx hb d_M_left_21 rfl (lv_at hl 2 rfl) ?_
        refine va_zald hx hb hK hP 1 0 rfl rfl (vp_in_nI (by omega) (by omega)) d_M_left_22 ?_
        refine lv_topi (fun w_1 ew_1 => ?_)
        have ew_1 : (bI (L i)) = w_1 := (ew_1.trans (by rw [nI_clamp (by omega)]; rfl)).symm
        subst ew_1
        refine lv_if_eq (tgt := 32) hx hb d_M_left_23 (by decide) (fun c_23 => ?_) (fun c_23 => ?_)
        · skip
          have c_23 := bI_f c_23
          have hq9 : dQ L p0 i = false := by unfold dQ; rw [c_23]; rfl
          refine lv_iload_n hx hb d_M_left_32 rfl (lv_at hl 1 rfl) ?_
          refine lv_aload_n hx hb d_M_left_33 rfl (lv_at hl 0 rfl) ?_
          refine va_get (D := (dC, dI)) (ci := 3) (v := .ref il) (C := R_M) (T := F_M) (N := 10) hx hb hts (lay_M _) hown hK hP 0 rfl rfl 7 (by decide) (hts _ (List.mem_cons_of_mem _ m_343)) (fun _ h9 => h9) rfl d_M_left_34 ?_
          refine lv_iload_n hx hb d_M_left_37 rfl (lv_at hl 2 rfl) ?_
          refine va_zald hx hb hK hP 1 0 rfl rfl (vp_in_nI (by omega) (by omega)) d_M_left_38 ?_
          refine lv_topi (fun w_2 ew_2 => ?_)
          have ew_2 : (bI (L i)) = w_2 := (ew_2.trans (by rw [nI_clamp (by omega)]; rfl)).symm
          subst ew_2
          refine lv_if_eq (tgt := 46) hx hb d_M_left_39 (by decide) (fun c_39 => ?_) (fun c_39 => ?_)
          · skip
            have c_39 := bI_f c_39
            refine lv_iconst (v := nI 0) hx hb d_M_left_46 (by decide +kernel) ?_
            refine lv_isub hx hb d_M_left_47 ?_
            refine lv_topi (fun w_3 ew_3 => ?_)
            have ew_3 : (p0 - (nI (cnt L (i + 1)))) = w_3 := (ew_3.trans (by first | (rw [cnt_t (P := L) (n := i) c_39]; exact pk_1 _ _) | (rw [cnt_f (P := L) (n := i) c_39]; exact pk_z _))).symm
            subst ew_3
            refine lv_istore_n (lv' := [(2, .int (p0 - (nI (cnt L (i + 1))))), (0, .ref jm), (3, .int (nI i))]) hx hb d_M_left_48 rfl hl (by decide) rfl (fun ls hl => ?_)
            refine lv_iinc (v := nI (i + 1)) (lv' := [(3, .int (nI (i + 1))), (2, .int (p0 - (nI (cnt L (i + 1))))), (0, .ref jm)]) hx hb d_M_left_49 hl (k := 2) rfl (nI_1 _) (by decide) rfl (fun ls hl => ?_)
            refine lv_goto (tgt := 9) hx hb d_M_left_52 (by decide) ?_
            exact ih_9 (i + 1) (by omega) (by omega) (lt_s hno hq9) ls (lv_sub (l' := [(0, .ref jm), (2, .int (p0 - (nI (cnt L (i + 1))))), (3, .int (nI (i + 1)))]) hl [2, 1, 0] rfl)
          · skip
            have c_39 := bI_t c_39
            refine lv_iconst (v := nI 1) hx hb d_M_left_42 (by decide +kernel) ?_
            refine lv_goto (tgt := 47) hx hb d_M_left_43 (by decide) ?_
            refine lv_isub hx hb d_M_left_47 ?_
            refine lv_topi (fun w_4 ew_4 => ?_)
            have ew_4 : (p0 - (nI (cnt L (i + 1)))) = w_4 := (ew_4.trans (by first | (rw [cnt_t (P := L) (n := i) c_39]; exact pk_1 _ _) | (rw [cnt_f (P := L) (n := i) c_39]; exact pk_z _))).symm
            subst ew_4
            refine lv_istore_n (lv' := [(2, .int (p0 - (nI (cnt L (i + 1))))), (0, .ref jm), (3, .int (nI i))]) hx hb d_M_left_48 rfl hl (by decide) rfl (fun ls hl => ?_)
            refine lv_iinc (v := nI (i + 1)) (lv' := [(3, .int (nI (i + 1))), (2, .int (p0 - (nI (cnt L (i + 1))))), (0, .ref jm)]) hx hb d_M_left_49 hl (k := 2) rfl (nI_1 _) (by decide) rfl (fun ls hl => ?_)
            refine lv_goto (tgt := 9) hx hb d_M_left_52 (by decide) ?_
            exact ih_9 (i + 1) (by omega) (by omega) (lt_s hno hq9) ls (lv_sub (l' := [(0, .ref jm), (2, .int (p0 - (nI (cnt L (i + 1))))), (3, .int (nI (i + 1)))]) hl [2, 1, 0] rfl)
        · skip
          have c_23 := bI_t c_23
          refine lv_iload_n hx hb d_M_left_26 rfl (lv_at hl 1 rfl) ?_
          refine lv_if_ne (tgt := 32) hx hb d_M_left_27 (by decide) (fun c_27 => ?_) (fun c_27 => ?_)
          · skip
            rw [← nI_0] at c_27
            have hq9 : dQ L p0 i = false := by unfold dQ; rw [decide_eq_false (fun z => c_27 (pk_0n.mpr z)), Bool.and_false]
            refine lv_iload_n hx hb d_M_left_32 rfl (lv_at hl 1 rfl) ?_
            refine lv_aload_n hx hb d_M_left_33 rfl (lv_at hl 0 rfl) ?_
            refine va_get (D := (dC, dI)) (ci := 3) (v := .ref il) (C := R_M) (T := F_M) (N := 10) hx hb hts (lay_M _) hown hK hP 0 rfl rfl 7 (by decide) (hts _ (List.mem_cons_of_mem _ m_343)) (fun _ h9 => h9) rfl d_M_left_34 ?_
            refine lv_iload_n hx hb d_M_left_37 rfl (lv_at hl 2 rfl) ?_
            refine va_zald hx hb hK hP 1 0 rfl rfl (vp_in_nI (by omega) (by omega)) d_M_left_38 ?_
            refine lv_topi (fun w_5 ew_5 => ?_)
            have ew_5 : (bI (L i)) = w_5 := (ew_5.trans (by rw [nI_clamp (by omega)]; rfl)).symm
            subst ew_5
            refine lv_if_eq (tgt := 46) hx hb d_M_left_39 (by decide) (fun c_39 => ?_) (fun c_39 => ?_)
            · skip
              have c_39 := bI_f c_39
              refine lv_iconst (v := nI 0) hx hb d_M_left_46 (by decide +kernel) ?_
              refine lv_isub hx hb d_M_left_47 ?_
              refine lv_topi (fun w_6 ew_6 => ?_)
              have ew_6 : (p0 - (nI (cnt L (i + 1)))) = w_6 := (ew_6.trans (by first | (rw [cnt_t (P := L) (n := i) c_39]; exact pk_1 _ _) | (rw [cnt_f (P := L) (n := i) c_39]; exact pk_z _))).symm
              subst ew_6
              refine lv_istore_n (lv' := [(2, .int (p0 - (nI (cnt L (i + 1))))), (0, .ref jm), (3, .int (nI i))]) hx hb d_M_left_48 rfl hl (by decide) rfl (fun ls hl => ?_)
              refine lv_iinc (v := nI (i + 1)) (lv' := [(3, .int (nI (i + 1))), (2, .int (p0 - (nI (cnt L (i + 1))))), (0, .ref jm)]) hx hb d_M_left_49 hl (k := 2) rfl (nI_1 _) (by decide) rfl (fun ls hl => ?_)
              refine lv_goto (tgt := 9) hx hb d_M_left_52 (by decide) ?_
              exact ih_9 (i + 1) (by omega) (by omega) (lt_s hno hq9) ls (lv_sub (l' := [(0, .ref jm), (2, .int (p0 - (nI (cnt L (i + 1))))), (3, .int (nI (i + 1)))]) hl [2, 1, 0] rfl)
            · skip
              have c_39 := bI_t c_39
              refine lv_iconst (v := nI 1) hx hb d_M_left_42 (by decide +kernel) ?_
              refine lv_goto (tgt := 47) hx hb d_M_left_43 (by decide) ?_
              refine lv_isub hx hb d_M_left_47 ?_
              refine lv_topi (fun w_7 ew_7 => ?_)
              have ew_7 : (p0 - (nI (cnt L (i + 1)))) = w_7 := (ew_7.trans (by first | (rw [cnt_t (P := L) (n := i) c_39]; exact pk_1 _ _) | (rw [cnt_f (P := L) (n := i) c_39]; exact pk_z _))).symm
              subst ew_7
              refine lv_istore_n (lv' := [(2, .int (p0 - (nI (cnt L (i + 1))))), (0, .ref jm), (3, .int (nI i))]) hx hb d_M_left_48 rfl hl (by decide) rfl (fun ls hl => ?_)
              refine lv_iinc (v := nI (i + 1)) (lv' := [(3, .int (nI (i + 1))), (2, .int (p0 - (nI (cnt L (i + 1))))), (0, .ref jm)]) hx hb d_M_left_49 hl (k := 2) rfl (nI_1 _) (by decide) rfl (fun ls hl => ?_)
              refine lv_goto (tgt := 9) hx hb d_M_left_52 (by decide) ?_
              exact ih_9 (i + 1) (by omega) (by omega) (lt_s hno hq9) ls (lv_sub (l' := [(0, .ref jm), (2, .int (p0 - (nI (cnt L (i + 1))))), (3, .int (nI (i + 1)))]) hl [2, 1, 0] rfl)
          · skip
            rw [← nI_0] at c_27
            refine lv_iload_n hx hb d_M_left_30 rfl (lv_at hl 2 rfl) ?_
            have hP9 := hP.sub (ws' := [(jm, .inr (3, [.int (nI 0), .long sd, .long tp, .int (nI n), .ref ik, .ref iv, .ref ir, .ref il, .ref iy, .ref ig])), (il, .inl (dl, 43, .inl (bF L)))]) [0, 1] rfl
            have hD9 := hD.sub (ws' := [(jm, .inr (3, [.int (nI 0), .long sd, .long tp, .int (nI n), .ref ik, .ref iv, .ref ir, .ref il, .ref iy, .ref ig])), (il, .inl (dl, 43, .inl (bF L)))]) [0, 1] (by decide) rfl
            have hK9 := hK.sub (tys' := [(dl, .boolean)]) [0] rfl
            exact W.iret (v := nI i) hx hb hr (fun t ht hW => ⟨⟨nI i, (), rfl, (by rw [fst9_some (Q := dQ L p0) (i := i) (by unfold dQ; rw [c_23, decide_eq_true (pk_0n.mp c_27)]; rfl) hno (by omega)]; rfl), by rw [ht]; exact hP9, va_K.moved hW.alike hK9, hD9⟩, hS.F ht⟩) hS.2.2 d_M_left_31
  exact lp_9 ((n - 0) + 1) 0 (by omega) (by omega) lt_0 ls (lv_sub (l' := [(0, .ref jm), (2, .int (p0 - (nI (cnt L 0)))), (3, .int (nI 0))]) hl [2, 1, 0] rfl)
set_option maxHeartbeats 4000000 in
set_option maxRecDepth 100000 in
/-- reference: minimal -/
theorem c_M_minimal (l : Launch) (dC : Nat → ClassId) (dI : Nat → Nat → Nat) (jm ik iv ir il iy ig : Nat) (n : Nat) (th : Int32) (sd tp : Int64) (dk dv dr dl dy dg : ClassId) (K V R : Nat → Int32) (L S G : Nat → Bool)  (hn : n ≤ 43) (hR : rfK n R) (hKk : kdK n K) (sz : Nat) : Met l y_M_minimal w_M_minimal ({ frames := 4, cells := 0, slots := 0, locals := 86 }) (wr_P dC dI [.ref jm] [(jm, .inr (3, [.int th, .long sd, .long tp, .int (nI n), .ref ik, .ref iv, .ref ir, .ref il, .ref iy, .ref ig])), (ik, .inl (dk, 86, .inl K)), (iv, .inl (dv, 86, .inl V)), (ir, .inl (dr, 86, .inl R)), (il, .inl (dl, 43, .inl (bF L))), (iy, .inl (dy, 256, .inl (bF S))), (ig, .inl (dg, 43, .inl (bF G)))] [(dk, .int), (dv, .int), (dr, .int), (dl, .boolean), (dy, .boolean), (dg, .boolean)] sz) (va_Qi (fun (r : Int32) (_ : Nat → Bool) => r = bI (mnM n K V R S L)) (fun (u : Nat → Bool) => wr_B dC dI (va_A [(jm, .inr (3, [.int th, .long sd, .long tp, .int (nI n), .ref ik, .ref iv, .ref ir, .ref il, .ref iy, .ref ig])), (ik, .inl (dk, 86, .inl K)), (iv, .inl (dv, 86, .inl V)), (ir, .inl (dr, 86, .inl R)), (il, .inl (dl, 43, .inl (bF L))), (iy, .inl (dy, 256, .inl (bF S))), (ig, .inl (dg, 43, .inl (bF G)))] sz) [(jm, .inr (3, [.int (nI 0), .long sd, .long tp, .int (nI n), .ref ik, .ref iv, .ref ir, .ref il, .ref iy, .ref ig])), (ik, .inl (dk, 86, .inl K)), (iv, .inl (dv, 86, .inl V)), (ir, .inl (dr, 86, .inl R)), (il, .inl (dl, 43, .inl (bF L))), (iy, .inl (dy, 256, .inl (bF S))), (ig, .inl (dg, 43, .inl (bF u)))] [(dk, .int), (dv, .int), (dr, .int), (dl, .boolean), (dy, .boolean), (dg, .boolean)]) (va_A [(jm, .inr (3, [.int th, .long sd, .long tp, .int (nI n), .ref ik, .ref iv, .ref ir, .ref il, .ref iy, .ref ig])), (ik, .inl (dk, 86, .inl K)), (iv, .inl (dv, 86, .inl V)), (ir, .inl (dr, 86, .inl R)), (il, .inl (dl, 43, .inl (bF L))), (iy, .inl (dy, 256, .inl (bF S))), (ig, .inl (dg, 43, .inl (bF G)))] sz)) 0 0 (va_A [(jm, .inr (3, [.int th, .long sd, .long tp, .int (nI n), .ref ik, .ref iv, .ref ir, .ref il, .ref iy, .ref ig])), (ik, .inl (dk, 86, .inl K)), (iv, .inl (dv, 86, .inl V)), (ir, .inl (dr, 86, .inl R)), (il, .inl (dl, 43, .inl (bF L))), (iy, .inl (dy, 256, .inl (bF S))), (ig, .inl (dg, 43, .inl (bF G)))] sz) := by
  refine Met.ofW (cc := b_M_minimal) (maxL := 1) (ret := (Option.some Jvm.ClassFile.FieldType.boolean)) (by decide) rfl ?_
  intro p e s m args below meth c s₁ B0 hml hv0
  obtain ⟨rfl, hsz, hP, hK, hD0, hN⟩ := hv0
  have hx := B0.exec
  have hb := B0.bytes
  have hr := B0.returns
  have hts := atoms_spec (ws := w_M_minimal) B0.pre
  have hown : s.vm.findClass R_M = some m.cls := findClass_of_methodNamed B0.named
  have hlocks := B0.notSynchronized
  subst hsz
  have hD := hD0.self (sz := s.heap.size)
  generalize hAe : va_A [(jm, .inr (3, [.int th, .long sd, .long tp, .int (nI n), .ref ik, .ref iv, .ref ir, .ref il, .ref iy, .ref ig])), (ik, .inl (dk, 86, .inl K)), (iv, .inl (dv, 86, .inl V)), (ir, .inl (dr, 86, .inl R)), (il, .inl (dl, 43, .inl (bF L))), (iy, .inl (dy, 256, .inl (bF S))), (ig, .inl (dg, 43, .inl (bF G)))] s.heap.size = A at hD ⊢
  have hA : ∀ q : Nat, s.heap.size ≤ q → A q := fun q h => by rw [← hAe]; exact Or.inr h
  have hS : va_S A s.heap s.heap [] := va_S.rf
  have hP : va_P (dC, dI) classes [(jm, .inr (3, [.int th, .long sd, .long tp, .int (nI n), .ref ik, .ref iv, .ref ir, .ref il, .ref iy, .ref ig])), (ik, .inl (dk, 86, .inl K)), (iv, .inl (dv, 86, .inl V)), (ir, .inl (dr, 86, .inl R)), (il, .inl (dl, 43, .inl (bF L))), (iy, .inl (dy, 256, .inl (bF S))), (ig, .inl (dg, 43, .inl (bF G)))] s.heap := hP
  have hl := lv_entry ([.ref jm]) (n := 1) (Nat.le_of_ble_eq_true rfl)
  rw [lg_entry_eq]
  generalize (lg_sl ([.ref jm]) ++ List.replicate (1 - (lg_sl ([.ref jm])).length) Slot.unset).toArray = ls at hl ⊢
  have hl : lv_has ls 1 [(0, .ref jm)] := hl
  have hc2 := cnt_le L n
  refine lv_aload_n hx hb d_M_minimal_0 rfl (lv_at hl 0 rfl) ?_
  refine lv_iconst (v := nI 0) hx hb d_M_minimal_1 (by decide +kernel) ?_
  refine va_put (D := (dC, dI)) (ci := 3) (v := .int (nI 0)) (ty := .int) (C := R_M) (T := F_M) (N := 10) hx hb hts (lay_M _) ft_M tok_M nok_M hown hK hP hD hS 0 rfl rfl 0 (by decide) (hts _ (List.mem_cons_of_mem _ m_336)) (fun _ h9 => h9) rfl (by decide +kernel) rfl rfl (Nat.le_of_ble_eq_true rfl) d_M_minimal_2 (fun H locs hP hD hS => ?_)
  have hP : va_P (dC, dI) classes [(jm, .inr (3, [.int (nI 0), .long sd, .long tp, .int (nI n), .ref ik, .ref iv, .ref ir, .ref il, .ref iy, .ref ig])), (ik, .inl (dk, 86, .inl K)), (iv, .inl (dv, 86, .inl V)), (ir, .inl (dr, 86, .inl R)), (il, .inl (dl, 43, .inl (bF L))), (iy, .inl (dy, 256, .inl (bF S))), (ig, .inl (dg, 43, .inl (bF G)))] H := hP
  have hD : va_D A [(jm, .inr (3, [.int (nI 0), .long sd, .long tp, .int (nI n), .ref ik, .ref iv, .ref ir, .ref il, .ref iy, .ref ig])), (ik, .inl (dk, 86, .inl K)), (iv, .inl (dv, 86, .inl V)), (ir, .inl (dr, 86, .inl R)), (il, .inl (dl, 43, .inl (bF L))), (iy, .inl (dy, 256, .inl (bF S))), (ig, .inl (dg, 43, .inl (bF G)))] := hD
  refine lv_aload_n hx hb d_M_minimal_5 rfl (lv_at hl 0 rfl) ?_
  have hPc := hP.sub (ws' := [(jm, .inr (3, [.int (nI 0), .long sd, .long tp, .int (nI n), .ref ik, .ref iv, .ref ir, .ref il, .ref iy, .ref ig])), (ig, .inl (dg, 43, .inl (bF G)))]) [0, 6] rfl
  have hKc := hK.sub (tys' := [(dg, .boolean)]) [5] rfl
  have hDc := hD.sub (ws' := [(jm, .inr (3, [.int (nI 0), .long sd, .long tp, .int (nI n), .ref ik, .ref iv, .ref ir, .ref il, .ref iy, .ref ig])), (ig, .inl (dg, 43, .inl (bF G)))]) [0, 6] (by decide) rfl
  have hFc := va_free (wc := [(jm, .inr (3, [.int (nI 0), .long sd, .long tp, .int (nI n), .ref ik, .ref iv, .ref ir, .ref il, .ref iy, .ref ig])), (ig, .inl (dg, 43, .inl (bF G)))]) hD hS hA [0, 6] rfl
  refine va_callv (va_runV (As := []) (rest := []) ⟨hx, hb, hml, hown, hts⟩ (c_M_none l dC dI jm ik iv ir il iy ig n (nI 0) sd tp dg G _) (cwV 0 hts (g_V big_w m_427 m_429 ms_28 m_4 m_430) rfl rfl rfl (by decide +kernel) ⟨Nat.le_of_ble_eq_true rfl, Nat.le_of_ble_eq_true rfl⟩) (wr_V hPc hKc hDc hN (va_recv hKc hPc (ci := 3) (q0 := 0) rfl rfl)) rfl rfl hl.1 rfl (lv_room (Nat.le_of_ble_eq_true rfl)) d_M_minimal_6 ⟨Nat.le_of_ble_eq_true rfl, Nat.le_of_ble_eq_true rfl⟩) hS (fun q _ h => hFc q h) hFc (fun u t H1 locs ht hvm hw hB hz1 hk1 hS => ?_)
  obtain ⟨hP1, hK1, hD1⟩ := hB
  rw [ht] at hP1
  obtain ⟨hP, hD⟩ := va_join (wr := [(ik, .inl (dk, 86, .inl K)), (iv, .inl (dv, 86, .inl V)), (ir, .inl (dr, 86, .inl R)), (il, .inl (dl, 43, .inl (bF L))), (iy, .inl (dy, 256, .inl (bF S)))]) (w1 := [(jm, .inr (3, [.int (nI 0), .long sd, .long tp, .int (nI n), .ref ik, .ref iv, .ref ir, .ref il, .ref iy, .ref ig])), (ig, .inl (dg, 43, .inl (bF fF)))]) hP hD [0, 6] [1, 2, 3, 4, 5] rfl rfl (by decide) (by decide) hk1 hFc hP1 hD1
  generalize H1 = H at hP hS ⊢
  have hP : va_P (dC, dI) classes [(ik, .inl (dk, 86, .inl K)), (iv, .inl (dv, 86, .inl V)), (ir, .inl (dr, 86, .inl R)), (il, .inl (dl, 43, .inl (bF L))), (iy, .inl (dy, 256, .inl (bF S))), (jm, .inr (3, [.int (nI 0), .long sd, .long tp, .int (nI n), .ref ik, .ref iv, .ref ir, .ref il, .ref iy, .ref ig])), (ig, .inl (dg, 43, .inl (bF fF)))] H := hP
  have hD : va_D A [(ik, .inl (dk, 86, .inl K)), (iv, .inl (dv, 86, .inl V)), (ir, .inl (dr, 86, .inl R)), (il, .inl (dl, 43, .inl (bF L))), (iy, .inl (dy, 256, .inl (bF S))), (jm, .inr (3, [.int (nI 0), .long sd, .long tp, .int (nI n), .ref ik, .ref iv, .ref ir, .ref il, .ref iy, .ref ig])), (ig, .inl (dg, 43, .inl (bF fF)))] := hD
  refine lv_aload_n hx hb d_M_minimal_9 rfl (lv_at hl 0 rfl) ?_
  have hPc := hP.sub (ws' := [(jm, .inr (3, [.int (nI 0), .long sd, .long tp, .int (nI n), .ref ik, .ref iv, .ref ir, .ref il, .ref iy, .ref ig])), (il, .inl (dl, 43, .inl (bF L)))]) [5, 3] rfl
  have hKc := hK.sub (tys' := [(dl, .boolean)]) [3] rfl
  refine vp_callSi (W.runV (As := []) (rest := []) ⟨hx, hb, hml, hown, hts⟩ (c_M_many l dC dI jm ik iv ir il iy ig n (nI 0) sd tp dl L (by first | assumption | omega)) (cwV 0 hts (g_V big_w m_451 m_453 ms_33 m_4 m_454) rfl rfl rfl (by decide +kernel) ⟨Nat.le_of_ble_eq_true rfl, Nat.le_of_ble_eq_true rfl⟩) (ro_V hPc hKc hN (va_recv hKc hPc (ci := 3) (q0 := 0) rfl rfl)) rfl rfl hl.1 rfl (lv_room (Nat.le_of_ble_eq_true rfl)) d_M_minimal_10 ⟨Nat.le_of_ble_eq_true rfl, Nat.le_of_ble_eq_true rfl⟩) (fun r_2 er_2 => ?_)
  have er_2 := er_2.symm
  subst er_2
  refine lv_if_le (tgt := 39) hx hb d_M_minimal_13 (by decide) (fun c_13 => ?_) (fun c_13 => ?_)
  · skip
    have c_13 := (nI_le0 (by omega)).mp c_13
    refine lv_iconst (v := nI 0) hx hb d_M_minimal_39 (by decide +kernel) ?_
    have hP9 := hP.sub (ws' := [(jm, .inr (3, [.int (nI 0), .long sd, .long tp, .int (nI n), .ref ik, .ref iv, .ref ir, .ref il, .ref iy, .ref ig])), (ik, .inl (dk, 86, .inl K)), (iv, .inl (dv, 86, .inl V)), (ir, .inl (dr, 86, .inl R)), (il, .inl (dl, 43, .inl (bF L))), (iy, .inl (dy, 256, .inl (bF S))), (ig, .inl (dg, 43, .inl (bF fF)))]) [5, 0, 1, 2, 3, 4, 6] rfl
    have hD9 := hD.sub (ws' := [(jm, .inr (3, [.int (nI 0), .long sd, .long tp, .int (nI n), .ref ik, .ref iv, .ref ir, .ref il, .ref iy, .ref ig])), (ik, .inl (dk, 86, .inl K)), (iv, .inl (dv, 86, .inl V)), (ir, .inl (dr, 86, .inl R)), (il, .inl (dl, 43, .inl (bF L))), (iy, .inl (dy, 256, .inl (bF S))), (ig, .inl (dg, 43, .inl (bF fF)))]) [5, 0, 1, 2, 3, 4, 6] (by decide) rfl
    have hK9 := hK.sub (tys' := [(dk, .int), (dv, .int), (dr, .int), (dl, .boolean), (dy, .boolean), (dg, .boolean)]) [0, 1, 2, 3, 4, 5] rfl
    exact W.zret (v := nI 0) (ty := .boolean) hx hb hr (by decide +kernel) (fun t ht hW => ⟨⟨nI 0, (fF), rfl, (by unfold mnM; first | (rw [decide_eq_true (by omega), c_25, decide_eq_true c_32]; rfl) | (rw [decide_eq_true (by omega), c_25, decide_eq_false c_32]; rfl) | (rw [decide_eq_true (by omega), c_25]; rfl) | (rw [decide_eq_false (by omega)]; rfl)), by rw [ht]; exact hP9, va_K.moved hW.alike hK9, hD9⟩, hS.F ht⟩) hS.2.2 d_M_minimal_40
  · skip
    have c_13 := (not_congr (nI_le0 (by omega))).mp c_13
    refine lv_aload_n hx hb d_M_minimal_16 rfl (lv_at hl 0 rfl) ?_
    refine va_get (D := (dC, dI)) (ci := 3) (v := .ref iy) (C := R_M) (T := F_M) (N := 10) hx hb hts (lay_M _) hown hK hP 5 rfl rfl 8 (by decide) (hts _ (List.mem_cons_of_mem _ m_344)) (fun _ h9 => h9) rfl d_M_minimal_17 ?_
    refine lv_aload_n hx hb d_M_minimal_20 rfl (lv_at hl 0 rfl) ?_
    have hPc := hP.sub (ws' := [(jm, .inr (3, [.int (nI 0), .long sd, .long tp, .int (nI n), .ref ik, .ref iv, .ref ir, .ref il, .ref iy, .ref ig])), (ik, .inl (dk, 86, .inl K)), (iv, .inl (dv, 86, .inl V)), (ir, .inl (dr, 86, .inl R)), (il, .inl (dl, 43, .inl (bF L))), (ig, .inl (dg, 43, .inl (bF fF)))]) [5, 0, 1, 2, 3, 6] rfl
    have hKc := hK.sub (tys' := [(dk, .int), (dv, .int), (dr, .int), (dl, .boolean), (dg, .boolean)]) [0, 1, 2, 3, 5] rfl
    refine vp_callSi (W.runV (As := []) (rest := [.ref iy]) ⟨hx, hb, hml, hown, hts⟩ (c_M_judged l dC dI jm ik iv ir il iy ig n (nI 0) sd tp dk dv dr dl dg K V R L fF (by first | assumption | omega) (by first | assumption | omega)) (cwV 0 hts (g_V big_w m_431 m_433 ms_29 m_4 m_434) rfl rfl rfl (by decide +kernel) ⟨Nat.le_of_ble_eq_true rfl, Nat.le_of_ble_eq_true rfl⟩) (ro_V hPc hKc hN (va_recv hKc hPc (ci := 3) (q0 := 0) rfl rfl)) rfl rfl hl.1 rfl (lv_room (Nat.le_of_ble_eq_true rfl)) d_M_minimal_21 ⟨Nat.le_of_ble_eq_true rfl, Nat.le_of_ble_eq_true rfl⟩) (fun r_3 er_3 => ?_)
    have er_3 := er_3.symm
    subst er_3
    refine va_zald hx hb hK hP 4 4 rfl rfl (jdL_in hKk) d_M_minimal_24 ?_
    refine lv_topi (fun w_4 ew_4 => ?_)
    have ew_4 : (bI (S (jdL K V R L fF n).toNatClampNeg)) = w_4 := (ew_4.trans (rfl)).symm
    subst ew_4
    refine lv_if_eq (tgt := 39) hx hb d_M_minimal_25 (by decide) (fun c_25 => ?_) (fun c_25 => ?_)
    · skip
      have c_25 := bI_f c_25
      refine lv_iconst (v := nI 0) hx hb d_M_minimal_39 (by decide +kernel) ?_
      have hP9 := hP.sub (ws' := [(jm, .inr (3, [.int (nI 0), .long sd, .long tp, .int (nI n), .ref ik, .ref iv, .ref ir, .ref il, .ref iy, .ref ig])), (ik, .inl (dk, 86, .inl K)), (iv, .inl (dv, 86, .inl V)), (ir, .inl (dr, 86, .inl R)), (il, .inl (dl, 43, .inl (bF L))), (iy, .inl (dy, 256, .inl (bF S))), (ig, .inl (dg, 43, .inl (bF fF)))]) [5, 0, 1, 2, 3, 4, 6] rfl
      have hD9 := hD.sub (ws' := [(jm, .inr (3, [.int (nI 0), .long sd, .long tp, .int (nI n), .ref ik, .ref iv, .ref ir, .ref il, .ref iy, .ref ig])), (ik, .inl (dk, 86, .inl K)), (iv, .inl (dv, 86, .inl V)), (ir, .inl (dr, 86, .inl R)), (il, .inl (dl, 43, .inl (bF L))), (iy, .inl (dy, 256, .inl (bF S))), (ig, .inl (dg, 43, .inl (bF fF)))]) [5, 0, 1, 2, 3, 4, 6] (by decide) rfl
      have hK9 := hK.sub (tys' := [(dk, .int), (dv, .int), (dr, .int), (dl, .boolean), (dy, .boolean), (dg, .boolean)]) [0, 1, 2, 3, 4, 5] rfl
      exact W.zret (v := nI 0) (ty := .boolean) hx hb hr (by decide +kernel) (fun t ht hW => ⟨⟨nI 0, (fF), rfl, (by unfold mnM; first | (rw [decide_eq_true (by omega), c_25, decide_eq_true c_32]; rfl) | (rw [decide_eq_true (by omega), c_25, decide_eq_false c_32]; rfl) | (rw [decide_eq_true (by omega), c_25]; rfl) | (rw [decide_eq_false (by omega)]; rfl)), by rw [ht]; exact hP9, va_K.moved hW.alike hK9, hD9⟩, hS.F ht⟩) hS.2.2 d_M_minimal_40
    · skip
      have c_25 := bI_t c_25
      refine lv_aload_n hx hb d_M_minimal_28 rfl (lv_at hl 0 rfl) ?_
      have hPc := hP.sub (ws' := [(jm, .inr (3, [.int (nI 0), .long sd, .long tp, .int (nI n), .ref ik, .ref iv, .ref ir, .ref il, .ref iy, .ref ig])), (ik, .inl (dk, 86, .inl K)), (iv, .inl (dv, 86, .inl V)), (ir, .inl (dr, 86, .inl R)), (il, .inl (dl, 43, .inl (bF L))), (iy, .inl (dy, 256, .inl (bF S))), (ig, .inl (dg, 43, .inl (bF fF)))]) [5, 0, 1, 2, 3, 4, 6] rfl
      have hKc := hK.sub (tys' := [(dk, .int), (dv, .int), (dr, .int), (dl, .boolean), (dy, .boolean), (dg, .boolean)]) [0, 1, 2, 3, 4, 5] rfl
      have hDc := hD.sub (ws' := [(jm, .inr (3, [.int (nI 0), .long sd, .long tp, .int (nI n), .ref ik, .ref iv, .ref ir, .ref il, .ref iy, .ref ig])), (ik, .inl (dk, 86, .inl K)), (iv, .inl (dv, 86, .inl V)), (ir, .inl (dr, 86, .inl R)), (il, .inl (dl, 43, .inl (bF L))), (iy, .inl (dy, 256, .inl (bF S))), (ig, .inl (dg, 43, .inl (bF fF)))]) [5, 0, 1, 2, 3, 4, 6] (by decide) rfl
      have hFc := va_free (wc := [(jm, .inr (3, [.int (nI 0), .long sd, .long tp, .int (nI n), .ref ik, .ref iv, .ref ir, .ref il, .ref iy, .ref ig])), (ik, .inl (dk, 86, .inl K)), (iv, .inl (dv, 86, .inl V)), (ir, .inl (dr, 86, .inl R)), (il, .inl (dl, 43, .inl (bF L))), (iy, .inl (dy, 256, .inl (bF S))), (ig, .inl (dg, 43, .inl (bF fF)))]) hD hS hA [5, 0, 1, 2, 3, 4, 6] rfl
      refine va_calli (va_runV (As := []) (rest := []) ⟨hx, hb, hml, hown, hts⟩ (c_M_first l dC dI jm ik iv ir il iy ig n (nI 0) sd tp dk dv dr dl dy dg K V R L S fF (by first | assumption | omega) (by first | assumption | omega) (by first | assumption | omega) _) (cwV 0 hts (g_V big_w m_439 m_441 ms_30 m_4 m_442) rfl rfl rfl (by decide +kernel) ⟨Nat.le_of_ble_eq_true rfl, Nat.le_of_ble_eq_true rfl⟩) (wr_V hPc hKc hDc hN (va_recv hKc hPc (ci := 3) (q0 := 0) rfl rfl)) rfl rfl hl.1 rfl (lv_room (Nat.le_of_ble_eq_true rfl)) d_M_minimal_29 ⟨Nat.le_of_ble_eq_true rfl, Nat.le_of_ble_eq_true rfl⟩) hS (fun q _ h => hFc q h) hFc (fun r_5 u t H1 locs ht hvm hw hB hz1 hk1 hS => ?_)
      obtain ⟨hP1, hK1, hD1⟩ := hB
      rw [ht] at hP1
      obtain ⟨hP, hD⟩ := va_join (wr := []) (w1 := [(jm, .inr (3, [.int (nI 0), .long sd, .long tp, .int (nI n), .ref ik, .ref iv, .ref ir, .ref il, .ref iy, .ref ig])), (ik, .inl (dk, 86, .inl K)), (iv, .inl (dv, 86, .inl V)), (ir, .inl (dr, 86, .inl R)), (il, .inl (dl, 43, .inl (bF L))), (iy, .inl (dy, 256, .inl (bF S))), (ig, .inl (dg, 43, .inl (bF (gaE n K V R S L fF))))]) hP hD [5, 0, 1, 2, 3, 4, 6] [] rfl rfl (by decide) (by decide) hk1 hFc hP1 hD1
      generalize H1 = H at hP hS ⊢
      have hP : va_P (dC, dI) classes [(jm, .inr (3, [.int (nI 0), .long sd, .long tp, .int (nI n), .ref ik, .ref iv, .ref ir, .ref il, .ref iy, .ref ig])), (ik, .inl (dk, 86, .inl K)), (iv, .inl (dv, 86, .inl V)), (ir, .inl (dr, 86, .inl R)), (il, .inl (dl, 43, .inl (bF L))), (iy, .inl (dy, 256, .inl (bF S))), (ig, .inl (dg, 43, .inl (bF (gaE n K V R S L fF))))] H := hP
      have hD : va_D A [(jm, .inr (3, [.int (nI 0), .long sd, .long tp, .int (nI n), .ref ik, .ref iv, .ref ir, .ref il, .ref iy, .ref ig])), (ik, .inl (dk, 86, .inl K)), (iv, .inl (dv, 86, .inl V)), (ir, .inl (dr, 86, .inl R)), (il, .inl (dl, 43, .inl (bF L))), (iy, .inl (dy, 256, .inl (bF S))), (ig, .inl (dg, 43, .inl (bF (gaE n K V R S L fF))))] := hD
      have hw := hw.symm
      subst hw
      refine lv_if_ge (tgt := 39) hx hb d_M_minimal_32 (by decide) (fun c_32 => ?_) (fun c_32 => ?_)
      · skip
        have c_32 := (mg_ge0 hn).mp c_32
        refine lv_iconst (v := nI 0) hx hb d_M_minimal_39 (by decide +kernel) ?_
        have hP9 := hP.sub (ws' := [(jm, .inr (3, [.int (nI 0), .long sd, .long tp, .int (nI n), .ref ik, .ref iv, .ref ir, .ref il, .ref iy, .ref ig])), (ik, .inl (dk, 86, .inl K)), (iv, .inl (dv, 86, .inl V)), (ir, .inl (dr, 86, .inl R)), (il, .inl (dl, 43, .inl (bF L))), (iy, .inl (dy, 256, .inl (bF S))), (ig, .inl (dg, 43, .inl (bF (gaE n K V R S L fF))))]) [0, 1, 2, 3, 4, 5, 6] rfl
        have hD9 := hD.sub (ws' := [(jm, .inr (3, [.int (nI 0), .long sd, .long tp, .int (nI n), .ref ik, .ref iv, .ref ir, .ref il, .ref iy, .ref ig])), (ik, .inl (dk, 86, .inl K)), (iv, .inl (dv, 86, .inl V)), (ir, .inl (dr, 86, .inl R)), (il, .inl (dl, 43, .inl (bF L))), (iy, .inl (dy, 256, .inl (bF S))), (ig, .inl (dg, 43, .inl (bF (gaE n K V R S L fF))))]) [0, 1, 2, 3, 4, 5, 6] (by decide) rfl
        have hK9 := hK.sub (tys' := [(dk, .int), (dv, .int), (dr, .int), (dl, .boolean), (dy, .boolean), (dg, .boolean)]) [0, 1, 2, 3, 4, 5] rfl
        exact W.zret (v := nI 0) (ty := .boolean) hx hb hr (by decide +kernel) (fun t ht hW => ⟨⟨nI 0, (gaE n K V R S L fF), rfl, (by unfold mnM; first | (rw [decide_eq_true (by omega), c_25, decide_eq_true c_32]; rfl) | (rw [decide_eq_true (by omega), c_25, decide_eq_false c_32]; rfl) | (rw [decide_eq_true (by omega), c_25]; rfl) | (rw [decide_eq_false (by omega)]; rfl)), by rw [ht]; exact hP9, va_K.moved hW.alike hK9, hD9⟩, hS.F ht⟩) hS.2.2 d_M_minimal_40
      · skip
        have c_32 : mgO n K V R S L = none := Decidable.byContradiction (fun z => c_32 ((mg_ge0 hn).mpr z))
        refine lv_iconst (v := nI 1) hx hb d_M_minimal_35 (by decide +kernel) ?_
        refine lv_goto (tgt := 40) hx hb d_M_minimal_36 (by decide) ?_
        have hP9 := hP.sub (ws' := [(jm, .inr (3, [.int (nI 0), .long sd, .long tp, .int (nI n), .ref ik, .ref iv, .ref ir, .ref il, .ref iy, .ref ig])), (ik, .inl (dk, 86, .inl K)), (iv, .inl (dv, 86, .inl V)), (ir, .inl (dr, 86, .inl R)), (il, .inl (dl, 43, .inl (bF L))), (iy, .inl (dy, 256, .inl (bF S))), (ig, .inl (dg, 43, .inl (bF (gaE n K V R S L fF))))]) [0, 1, 2, 3, 4, 5, 6] rfl
        have hD9 := hD.sub (ws' := [(jm, .inr (3, [.int (nI 0), .long sd, .long tp, .int (nI n), .ref ik, .ref iv, .ref ir, .ref il, .ref iy, .ref ig])), (ik, .inl (dk, 86, .inl K)), (iv, .inl (dv, 86, .inl V)), (ir, .inl (dr, 86, .inl R)), (il, .inl (dl, 43, .inl (bF L))), (iy, .inl (dy, 256, .inl (bF S))), (ig, .inl (dg, 43, .inl (bF (gaE n K V R S L fF))))]) [0, 1, 2, 3, 4, 5, 6] (by decide) rfl
        have hK9 := hK.sub (tys' := [(dk, .int), (dv, .int), (dr, .int), (dl, .boolean), (dy, .boolean), (dg, .boolean)]) [0, 1, 2, 3, 4, 5] rfl
        exact W.zret (v := nI 1) (ty := .boolean) hx hb hr (by decide +kernel) (fun t ht hW => ⟨⟨nI 1, (gaE n K V R S L fF), rfl, (by unfold mnM; first | (rw [decide_eq_true (by omega), c_25, decide_eq_true c_32]; rfl) | (rw [decide_eq_true (by omega), c_25, decide_eq_false c_32]; rfl) | (rw [decide_eq_true (by omega), c_25]; rfl) | (rw [decide_eq_false (by omega)]; rfl)), by rw [ht]; exact hP9, va_K.moved hW.alike hK9, hD9⟩, hS.F ht⟩) hS.2.2 d_M_minimal_40
set_option maxHeartbeats 4000000 in
set_option maxRecDepth 100000 in
/-- reference: verdict -/
theorem c_M_verdict (l : Launch) (dC : Nat → ClassId) (dI : Nat → Nat → Nat) (jm ik iv ir il iy ig : Nat) (n : Nat) (th : Int32) (sd tp : Int64) (dy : ClassId) (S : Nat → Bool) (p0 : Int32) (z : Bool)  (sz : Nat) : Met l y_M_verdict w_M_verdict ({ frames := 1, cells := 0, slots := 0, locals := 22 }) (wr_P dC dI [.ref jm, .int p0, .int (bI z)] [(jm, .inr (3, [.int th, .long sd, .long tp, .int (nI n), .ref ik, .ref iv, .ref ir, .ref il, .ref iy, .ref ig])), (iy, .inl (dy, 256, .inl (bF S)))] [(dy, .boolean)] sz) (va_Qi (fun (r : Int32) (_ : Unit) => r = bI (veO S p0 z)) (fun (u : Unit) => wr_B dC dI (va_A [(jm, .inr (3, [.int th, .long sd, .long tp, .int (nI n), .ref ik, .ref iv, .ref ir, .ref il, .ref iy, .ref ig])), (iy, .inl (dy, 256, .inl (bF S)))] sz) [(jm, .inr (3, [.int (nI 0), .long sd, .long tp, .int (nI n), .ref ik, .ref iv, .ref ir, .ref il, .ref iy, .ref ig])), (iy, .inl (dy, 256, .inl (bF (veS S p0 z))))] [(dy, .boolean)]) (va_A [(jm, .inr (3, [.int th, .long sd, .long tp, .int (nI n), .ref ik, .ref iv, .ref ir, .ref il, .ref iy, .ref ig])), (iy, .inl (dy, 256, .inl (bF S)))] sz)) 0 0 (va_A [(jm, .inr (3, [.int th, .long sd, .long tp, .int (nI n), .ref ik, .ref iv, .ref ir, .ref il, .ref iy, .ref ig])), (iy, .inl (dy, 256, .inl (bF S)))] sz) := by
  refine Met.ofW (cc := b_M_verdict) (maxL := 3) (ret := (Option.some Jvm.ClassFile.FieldType.boolean)) (by decide) rfl ?_
  intro p e s m args below meth c s₁ B0 hml hv0
  obtain ⟨rfl, hsz, hP, hK, hD0, hN⟩ := hv0
  have hx := B0.exec
  have hb := B0.bytes
  have hr := B0.returns
  have hts := atoms_spec (ws := w_M_verdict) B0.pre
  have hown : s.vm.findClass R_M = some m.cls := findClass_of_methodNamed B0.named
  have hlocks := B0.notSynchronized
  subst hsz
  have hD := hD0.self (sz := s.heap.size)
  generalize hAe : va_A [(jm, .inr (3, [.int th, .long sd, .long tp, .int (nI n), .ref ik, .ref iv, .ref ir, .ref il, .ref iy, .ref ig])), (iy, .inl (dy, 256, .inl (bF S)))] s.heap.size = A at hD ⊢
  have hA : ∀ q : Nat, s.heap.size ≤ q → A q := fun q h => by rw [← hAe]; exact Or.inr h
  have hS : va_S A s.heap s.heap [] := va_S.rf
  have hP : va_P (dC, dI) classes [(jm, .inr (3, [.int th, .long sd, .long tp, .int (nI n), .ref ik, .ref iv, .ref ir, .ref il, .ref iy, .ref ig])), (iy, .inl (dy, 256, .inl (bF S)))] s.heap := hP
  have hl := lv_entry ([.ref jm, .int p0, .int (bI z)]) (n := 3) (Nat.le_of_ble_eq_true rfl)
  rw [lg_entry_eq]
  generalize (lg_sl ([.ref jm, .int p0, .int (bI z)]) ++ List.replicate (3 - (lg_sl ([.ref jm, .int p0, .int (bI z)])).length) Slot.unset).toArray = ls at hl ⊢
  have hl : lv_has ls 3 [(0, .ref jm), (1, .int p0), (2, .int (bI z))] := hl
  refine lv_aload_n hx hb d_M_verdict_0 rfl (lv_at hl 0 rfl) ?_
  refine lv_iconst (v := nI 0) hx hb d_M_verdict_1 (by decide +kernel) ?_
  refine va_put (D := (dC, dI)) (ci := 3) (v := .int (nI 0)) (ty := .int) (C := R_M) (T := F_M) (N := 10) hx hb hts (lay_M _) ft_M tok_M nok_M hown hK hP hD hS 0 rfl rfl 0 (by decide) (hts _ (List.mem_cons_of_mem _ m_336)) (fun _ h9 => h9) rfl (by decide +kernel) rfl rfl (Nat.le_of_ble_eq_true rfl) d_M_verdict_2 (fun H locs hP hD hS => ?_)
  have hP : va_P (dC, dI) classes [(jm, .inr (3, [.int (nI 0), .long sd, .long tp, .int (nI n), .ref ik, .ref iv, .ref ir, .ref il, .ref iy, .ref ig])), (iy, .inl (dy, 256, .inl (bF S)))] H := hP
  have hD : va_D A [(jm, .inr (3, [.int (nI 0), .long sd, .long tp, .int (nI n), .ref ik, .ref iv, .ref ir, .ref il, .ref iy, .ref ig])), (iy, .inl (dy, 256, .inl (bF S)))] := hD
  refine lv_iload_n hx hb d_M_verdict_5 rfl (lv_at hl 1 rfl) ?_
  refine lv_iconst (v := nI 0) hx hb d_M_verdict_6 (by decide +kernel) ?_
  refine lv_sipush (v := nI 255) hx hb d_M_verdict_7 (by decide +kernel) ?_
  have hPc := hP.sub (ws' := []) [] rfl
  have hKc := hK.sub (tys' := []) [] rfl
  refine vp_callSi (W.runS (As := [.int p0, .int (nI 0), .int (nI 255)]) (rest := []) ⟨hx, hb, hml, hown, hts⟩ (c_M_in_ l dC dI p0 (nI 0) (nI 255)) (va_cwS 3 hts (g_S big_w m_375 m_376 m_4 m_377) rfl rfl rfl (by decide +kernel) ⟨Nat.le_of_ble_eq_true rfl, Nat.le_of_ble_eq_true rfl⟩) (ro_S hPc hKc hN) rfl rfl hl.1 rfl (lv_room (Nat.le_of_ble_eq_true rfl)) d_M_verdict_10 ⟨Nat.le_of_ble_eq_true rfl, Nat.le_of_ble_eq_true rfl⟩) (fun r_1 er_1 => ?_)
  have er_1 := er_1.symm
  subst er_1
  refine lv_if_eq (tgt := 26) hx hb d_M_verdict_13 (by decide) (fun c_13 => ?_) (fun c_13 => ?_)
  · skip
    have c_13 := bI_f c_13
    have ev : veO S p0 z = false := veO_f c_13
    refine lv_iconst (v := nI 0) hx hb d_M_verdict_26 (by decide +kernel) ?_
    have e9 : S = veS S p0 z := (if_neg (by rw [ev]; decide)).symm
    rw [e9] at hP hD
    have hP9 := hP.sub (ws' := [(jm, .inr (3, [.int (nI 0), .long sd, .long tp, .int (nI n), .ref ik, .ref iv, .ref ir, .ref il, .ref iy, .ref ig])), (iy, .inl (dy, 256, .inl (bF (veS S p0 z))))]) [0, 1] rfl
    have hD9 := hD.sub (ws' := [(jm, .inr (3, [.int (nI 0), .long sd, .long tp, .int (nI n), .ref ik, .ref iv, .ref ir, .ref il, .ref iy, .ref ig])), (iy, .inl (dy, 256, .inl (bF (veS S p0 z))))]) [0, 1] (by decide) rfl
    have hK9 := hK.sub (tys' := [(dy, .boolean)]) [0] rfl
    exact W.zret (v := nI 0) (ty := .boolean) hx hb hr (by decide +kernel) (fun t ht hW => ⟨⟨nI 0, (), rfl, (by rw [ev]; rfl), by rw [ht]; exact hP9, va_K.moved hW.alike hK9, hD9⟩, hS.F ht⟩) hS.2.2 d_M_verdict_27
  · skip
    have c_13 := bI_t c_13
    obtain ⟨c_1, c_8⟩ := in255 c_13
    refine lv_aload_n hx hb d_M_verdict_16 rfl (lv_at hl 0 rfl) ?_
    refine va_get (D := (dC, dI)) (ci := 3) (v := .ref iy) (C := R_M) (T := F_M) (N := 10) hx hb hts (lay_M _) hown hK hP 0 rfl rfl 8 (by decide) (hts _ (List.mem_cons_of_mem _ m_344)) (fun _ h9 => h9) rfl d_M_verdict_17 ?_
    refine lv_iload_n hx hb d_M_verdict_20 rfl (lv_at hl 1 rfl) ?_
    refine va_zald hx hb hK hP 1 0 rfl rfl (in_of c_1 c_8 (by decide)) d_M_verdict_21 ?_
    refine lv_topi (fun w_2 ew_2 => ?_)
    have ew_2 : (bI (S p0.toNatClampNeg)) = w_2 := (ew_2.trans (rfl)).symm
    subst ew_2
    refine lv_iload_n hx hb d_M_verdict_22 rfl (lv_at hl 2 rfl) ?_
    refine lv_icmp_ne (tgt := 28) hx hb d_M_verdict_23 (by decide) (fun c_23 => ?_) (fun c_23 => ?_)
    · skip
      have c_23 := (not_congr bI_inj).mp c_23
      have ev : veO S p0 z = true := by simp [veO, c_1, c_8, c_23]
      refine lv_aload_n hx hb d_M_verdict_28 rfl (lv_at hl 0 rfl) ?_
      refine va_get (D := (dC, dI)) (ci := 3) (v := .ref iy) (C := R_M) (T := F_M) (N := 10) hx hb hts (lay_M _) hown hK hP 0 rfl rfl 8 (by decide) (hts _ (List.mem_cons_of_mem _ m_344)) (fun _ h9 => h9) rfl d_M_verdict_29 ?_
      refine lv_iload_n hx hb d_M_verdict_32 rfl (lv_at hl 1 rfl) ?_
      refine lv_iload_n hx hb d_M_verdict_33 rfl (lv_at hl 2 rfl) ?_
      refine va_zast hx hb hK hP hD hS 1 0 rfl rfl (in_of c_1 c_8 (by decide)) d_M_verdict_34 (fun H locs hP hD hS => ?_)
      rw [bI_vp] at hP hD
      have hP : va_P (dC, dI) classes [(jm, .inr (3, [.int (nI 0), .long sd, .long tp, .int (nI n), .ref ik, .ref iv, .ref ir, .ref il, .ref iy, .ref ig])), (iy, .inl (dy, 256, .inl (upd (bF S) p0.toNatClampNeg (bI z))))] H := hP
      have hD : va_D A [(jm, .inr (3, [.int (nI 0), .long sd, .long tp, .int (nI n), .ref ik, .ref iv, .ref ir, .ref il, .ref iy, .ref ig])), (iy, .inl (dy, 256, .inl (upd (bF S) p0.toNatClampNeg (bI z))))] := hD
      rw [bF_up] at hP hD
      rw [show uB S p0.toNatClampNeg z = veS S p0 z from (if_pos ev).symm] at hP hD
      have hP : va_P (dC, dI) classes [(jm, .inr (3, [.int (nI 0), .long sd, .long tp, .int (nI n), .ref ik, .ref iv, .ref ir, .ref il, .ref iy, .ref ig])), (iy, .inl (dy, 256, .inl (bF (veS S p0 z))))] H := hP
      have hD : va_D A [(jm, .inr (3, [.int (nI 0), .long sd, .long tp, .int (nI n), .ref ik, .ref iv, .ref ir, .ref il, .ref iy, .ref ig])), (iy, .inl (dy, 256, .inl (bF (veS S p0 z))))] := hD
      refine lv_iconst (v := nI 1) hx hb d_M_verdict_35 (by decide +kernel) ?_
      have hP9 := hP.sub (ws' := [(jm, .inr (3, [.int (nI 0), .long sd, .long tp, .int (nI n), .ref ik, .ref iv, .ref ir, .ref il, .ref iy, .ref ig])), (iy, .inl (dy, 256, .inl (bF (veS S p0 z))))]) [0, 1] rfl
      have hD9 := hD.sub (ws' := [(jm, .inr (3, [.int (nI 0), .long sd, .long tp, .int (nI n), .ref ik, .ref iv, .ref ir, .ref il, .ref iy, .ref ig])), (iy, .inl (dy, 256, .inl (bF (veS S p0 z))))]) [0, 1] (by decide) rfl
      have hK9 := hK.sub (tys' := [(dy, .boolean)]) [0] rfl
      exact W.zret (v := nI 1) (ty := .boolean) hx hb hr (by decide +kernel) (fun t ht hW => ⟨⟨nI 1, (), rfl, (by rw [ev]; rfl), by rw [ht]; exact hP9, va_K.moved hW.alike hK9, hD9⟩, hS.F ht⟩) hS.2.2 d_M_verdict_36
    · skip
      have c_23 := bI_inj.mp c_23
      have ev : veO S p0 z = false := by simp [veO, c_23]
      refine lv_iconst (v := nI 0) hx hb d_M_verdict_26 (by decide +kernel) ?_
      have e9 : S = veS S p0 z := (if_neg (by rw [ev]; decide)).symm
      rw [e9] at hP hD
      have hP9 := hP.sub (ws' := [(jm, .inr (3, [.int (nI 0), .long sd, .long tp, .int (nI n), .ref ik, .ref iv, .ref ir, .ref il, .ref iy, .ref ig])), (iy, .inl (dy, 256, .inl (bF (veS S p0 z))))]) [0, 1] rfl
      have hD9 := hD.sub (ws' := [(jm, .inr (3, [.int (nI 0), .long sd, .long tp, .int (nI n), .ref ik, .ref iv, .ref ir, .ref il, .ref iy, .ref ig])), (iy, .inl (dy, 256, .inl (bF (veS S p0 z))))]) [0, 1] (by decide) rfl
      have hK9 := hK.sub (tys' := [(dy, .boolean)]) [0] rfl
      exact W.zret (v := nI 0) (ty := .boolean) hx hb hr (by decide +kernel) (fun t ht hW => ⟨⟨nI 0, (), rfl, (by rw [ev]; rfl), by rw [ht]; exact hP9, va_K.moved hW.alike hK9, hD9⟩, hS.F ht⟩) hS.2.2 d_M_verdict_27
