theorem m_252 : (Jvm.Cond.code ({ cls := "PortDrawer$Harbour", name := "partsToReferTo", desc := "(I)I" } : Jvm.MethodName) prog_2_method_5_code (4 : Nat) (Option.some Jvm.ClassFile.FieldType.int)) ∈ tblG := m_t (i := 252) rfl rfl
theorem ms_14 : Cond.selects "PortDrawer$Harbour" ⟨"PortDrawer$Harbour", "partsToReferTo", "(I)I"⟩ ⟨"PortDrawer$Harbour", "partsToReferTo", "(I)I"⟩ ∈ tblG := m_s (i := 14) rfl rfl
theorem m_249 : (Jvm.Cond.methodLink "PortDrawer$Harbour" (47 : Nat) ({ cls := "PortDrawer$Harbour", name := "partsToReferTo", desc := "(I)I" } : Jvm.MethodName)) ∈ tblG := m_t (i := 249) rfl rfl
theorem m_251 : (Jvm.Cond.instanceMethod ({ cls := "PortDrawer$Harbour", name := "partsToReferTo", desc := "(I)I" } : Jvm.MethodName)) ∈ tblG := m_t (i := 251) rfl rfl
theorem m_242 : (Jvm.Cond.code ({ cls := "PortDrawer$Tape", name := "numberBelow", desc := "(I)I" } : Jvm.MethodName) prog_3_method_3_code (2 : Nat) (Option.some Jvm.ClassFile.FieldType.int)) ∈ tblG := m_t (i := 242) rfl rfl
theorem ms_12 : Cond.selects "PortDrawer$Tape" ⟨"PortDrawer$Tape", "numberBelow", "(I)I"⟩ ⟨"PortDrawer$Tape", "numberBelow", "(I)I"⟩ ∈ tblG := m_s (i := 12) rfl rfl
theorem m_241 : (Jvm.Cond.instanceMethod ({ cls := "PortDrawer$Tape", name := "numberBelow", desc := "(I)I" } : Jvm.MethodName)) ∈ tblG := m_t (i := 241) rfl rfl
theorem m_248 : (Jvm.Cond.code ({ cls := "PortDrawer$Harbour", name := "drawReference", desc := "(I)I" } : Jvm.MethodName) prog_2_method_4_code (5 : Nat) (Option.some Jvm.ClassFile.FieldType.int)) ∈ tblG := m_t (i := 248) rfl rfl
theorem ms_13 : Cond.selects "PortDrawer$Harbour" ⟨"PortDrawer$Harbour", "drawReference", "(I)I"⟩ ⟨"PortDrawer$Harbour", "drawReference", "(I)I"⟩ ∈ tblG := m_s (i := 13) rfl rfl
theorem m_245 : (Jvm.Cond.methodLink "PortDrawer$Harbour" (44 : Nat) ({ cls := "PortDrawer$Harbour", name := "drawReference", desc := "(I)I" } : Jvm.MethodName)) ∈ tblG := m_t (i := 245) rfl rfl
theorem m_247 : (Jvm.Cond.instanceMethod ({ cls := "PortDrawer$Harbour", name := "drawReference", desc := "(I)I" } : Jvm.MethodName)) ∈ tblG := m_t (i := 247) rfl rfl
theorem m_234 : (Jvm.Cond.code ({ cls := "PortDrawer$Tape", name := "rewind", desc := "(J)V" } : Jvm.MethodName) prog_3_method_2_code (3 : Nat) (Option.none : Option Jvm.ClassFile.FieldType)) ∈ tblG := m_t (i := 234) rfl rfl
theorem ms_10 : Cond.selects "PortDrawer$Tape" ⟨"PortDrawer$Tape", "rewind", "(J)V"⟩ ⟨"PortDrawer$Tape", "rewind", "(J)V"⟩ ∈ tblG := m_s (i := 10) rfl rfl
theorem m_233 : (Jvm.Cond.instanceMethod ({ cls := "PortDrawer$Tape", name := "rewind", desc := "(J)V" } : Jvm.MethodName)) ∈ tblG := m_t (i := 233) rfl rfl
theorem m_238 : (Jvm.Cond.code ({ cls := "PortDrawer$Harbour", name := "addPart", desc := "(I)V" } : Jvm.MethodName) prog_2_method_3_code (2 : Nat) (Option.none : Option Jvm.ClassFile.FieldType)) ∈ tblG := m_t (i := 238) rfl rfl
theorem ms_11 : Cond.selects "PortDrawer$Harbour" ⟨"PortDrawer$Harbour", "addPart", "(I)V"⟩ ⟨"PortDrawer$Harbour", "addPart", "(I)V"⟩ ∈ tblG := m_s (i := 11) rfl rfl
theorem m_235 : (Jvm.Cond.methodLink "PortDrawer$Harbour" (36 : Nat) ({ cls := "PortDrawer$Harbour", name := "addPart", desc := "(I)V" } : Jvm.MethodName)) ∈ tblG := m_t (i := 235) rfl rfl
theorem m_237 : (Jvm.Cond.instanceMethod ({ cls := "PortDrawer$Harbour", name := "addPart", desc := "(I)V" } : Jvm.MethodName)) ∈ tblG := m_t (i := 237) rfl rfl
theorem d_H_drawReference_0 : decode b_H_drawReference 0 = .ok (.aload_n 0, 1) := by decide +kernel
theorem d_H_drawReference_1 : decode b_H_drawReference 1 = .ok (.getfield 12, 3) := by decide +kernel
theorem d_H_drawReference_4 : decode b_H_drawReference 4 = .ok (.aload_n 0, 1) := by decide +kernel
theorem d_H_drawReference_5 : decode b_H_drawReference 5 = .ok (.iload_n 1, 1) := by decide +kernel
theorem d_H_drawReference_6 : decode b_H_drawReference 6 = .ok (.invokevirtual 47, 3) := by decide +kernel
theorem d_H_drawReference_9 : decode b_H_drawReference 9 = .ok (.invokevirtual 40, 3) := by decide +kernel
theorem d_H_drawReference_12 : decode b_H_drawReference 12 = .ok (.istore_n 2, 1) := by decide +kernel
theorem d_H_drawReference_13 : decode b_H_drawReference 13 = .ok (.iconst 0, 1) := by decide +kernel
theorem d_H_drawReference_14 : decode b_H_drawReference 14 = .ok (.istore_n 3, 1) := by decide +kernel
theorem d_H_drawReference_15 : decode b_H_drawReference 15 = .ok (.iconst 0, 1) := by decide +kernel
theorem d_H_drawReference_16 : decode b_H_drawReference 16 = .ok (.istore 4, 2) := by decide +kernel
theorem d_H_drawReference_18 : decode b_H_drawReference 18 = .ok (.iload 4, 2) := by decide +kernel
theorem d_H_drawReference_20 : decode b_H_drawReference 20 = .ok (.aload_n 0, 1) := by decide +kernel
theorem d_H_drawReference_21 : decode b_H_drawReference 21 = .ok (.getfield 28, 3) := by decide +kernel
theorem d_H_drawReference_24 : decode b_H_drawReference 24 = .ok (.if_icmp .ge 34, 3) := by decide +kernel
theorem d_H_drawReference_27 : decode b_H_drawReference 27 = .ok (.iload_n 1, 1) := by decide +kernel
theorem d_H_drawReference_28 : decode b_H_drawReference 28 = .ok (.aload_n 0, 1) := by decide +kernel
theorem d_H_drawReference_29 : decode b_H_drawReference 29 = .ok (.getfield 18, 3) := by decide +kernel
theorem d_H_drawReference_32 : decode b_H_drawReference 32 = .ok (.iload 4, 2) := by decide +kernel
theorem d_H_drawReference_34 : decode b_H_drawReference 34 = .ok (.iaload, 1) := by decide +kernel
theorem d_H_drawReference_35 : decode b_H_drawReference 35 = .ok (.invokestatic 50, 3) := by decide +kernel
theorem d_H_drawReference_38 : decode b_H_drawReference 38 = .ok (.ifCond .eq 14, 3) := by decide +kernel
theorem d_H_drawReference_41 : decode b_H_drawReference 41 = .ok (.iload_n 3, 1) := by decide +kernel
theorem d_H_drawReference_42 : decode b_H_drawReference 42 = .ok (.iload_n 2, 1) := by decide +kernel
theorem d_H_drawReference_43 : decode b_H_drawReference 43 = .ok (.if_icmp .ne 6, 3) := by decide +kernel
theorem d_H_drawReference_46 : decode b_H_drawReference 46 = .ok (.iload 4, 2) := by decide +kernel
theorem d_H_drawReference_48 : decode b_H_drawReference 48 = .ok (.ireturn, 1) := by decide +kernel
theorem d_H_drawReference_49 : decode b_H_drawReference 49 = .ok (.iinc 3 1, 3) := by decide +kernel
theorem d_H_drawReference_52 : decode b_H_drawReference 52 = .ok (.iinc 4 1, 3) := by decide +kernel
theorem d_H_drawReference_55 : decode b_H_drawReference 55 = .ok (.goto (-37), 3) := by decide +kernel
theorem d_H_drawReference_58 : decode b_H_drawReference 58 = .ok (.iconst (-1), 1) := by decide +kernel
theorem d_H_drawReference_59 : decode b_H_drawReference 59 = .ok (.ireturn, 1) := by decide +kernel
theorem d_H_addPart_0 : decode b_H_addPart 0 = .ok (.aload_n 0, 1) := by decide +kernel
theorem d_H_addPart_1 : decode b_H_addPart 1 = .ok (.getfield 28, 3) := by decide +kernel
theorem d_H_addPart_4 : decode b_H_addPart 4 = .ok (.bipush 43, 2) := by decide +kernel
theorem d_H_addPart_6 : decode b_H_addPart 6 = .ok (.if_icmp .lt 4, 3) := by decide +kernel
theorem d_H_addPart_10 : decode b_H_addPart 10 = .ok (.aload_n 0, 1) := by decide +kernel
theorem d_H_addPart_11 : decode b_H_addPart 11 = .ok (.getfield 18, 3) := by decide +kernel
theorem d_H_addPart_14 : decode b_H_addPart 14 = .ok (.aload_n 0, 1) := by decide +kernel
theorem d_H_addPart_15 : decode b_H_addPart 15 = .ok (.getfield 28, 3) := by decide +kernel
theorem d_H_addPart_18 : decode b_H_addPart 18 = .ok (.iload_n 1, 1) := by decide +kernel
theorem d_H_addPart_19 : decode b_H_addPart 19 = .ok (.iastore, 1) := by decide +kernel
theorem d_H_addPart_20 : decode b_H_addPart 20 = .ok (.aload_n 0, 1) := by decide +kernel
theorem d_H_addPart_21 : decode b_H_addPart 21 = .ok (.getfield 22, 3) := by decide +kernel
theorem d_H_addPart_24 : decode b_H_addPart 24 = .ok (.aload_n 0, 1) := by decide +kernel
theorem d_H_addPart_25 : decode b_H_addPart 25 = .ok (.getfield 28, 3) := by decide +kernel
theorem d_H_addPart_28 : decode b_H_addPart 28 = .ok (.aload_n 0, 1) := by decide +kernel
theorem d_H_addPart_29 : decode b_H_addPart 29 = .ok (.getfield 12, 3) := by decide +kernel
theorem d_H_addPart_32 : decode b_H_addPart 32 = .ok (.bipush 100, 2) := by decide +kernel
theorem d_H_addPart_34 : decode b_H_addPart 34 = .ok (.invokevirtual 40, 3) := by decide +kernel
theorem d_H_addPart_37 : decode b_H_addPart 37 = .ok (.iastore, 1) := by decide +kernel
theorem d_H_addPart_38 : decode b_H_addPart 38 = .ok (.aload_n 0, 1) := by decide +kernel
theorem d_H_addPart_39 : decode b_H_addPart 39 = .ok (.getfield 25, 3) := by decide +kernel
theorem d_H_addPart_42 : decode b_H_addPart 42 = .ok (.aload_n 0, 1) := by decide +kernel
theorem d_H_addPart_43 : decode b_H_addPart 43 = .ok (.getfield 28, 3) := by decide +kernel
theorem d_H_addPart_46 : decode b_H_addPart 46 = .ok (.aload_n 0, 1) := by decide +kernel
theorem d_H_addPart_47 : decode b_H_addPart 47 = .ok (.iload_n 1, 1) := by decide +kernel
theorem d_H_addPart_48 : decode b_H_addPart 48 = .ok (.invokevirtual 44, 3) := by decide +kernel
theorem d_H_addPart_51 : decode b_H_addPart 51 = .ok (.iastore, 1) := by decide +kernel
theorem d_H_addPart_52 : decode b_H_addPart 52 = .ok (.aload_n 0, 1) := by decide +kernel
theorem d_H_addPart_53 : decode b_H_addPart 53 = .ok (.dup, 1) := by decide +kernel
theorem d_H_addPart_54 : decode b_H_addPart 54 = .ok (.getfield 28, 3) := by decide +kernel
theorem d_H_addPart_57 : decode b_H_addPart 57 = .ok (.iconst 1, 1) := by decide +kernel
theorem d_H_addPart_58 : decode b_H_addPart 58 = .ok (.iadd, 1) := by decide +kernel
theorem d_H_addPart_59 : decode b_H_addPart 59 = .ok (.putfield 28, 3) := by decide +kernel
theorem d_H_addPart_62 : decode b_H_addPart 62 = .ok (.return_, 1) := by decide +kernel
theorem d_H_fill_0 : decode b_H_fill 0 = .ok (.aload_n 0, 1) := by decide +kernel
theorem d_H_fill_1 : decode b_H_fill 1 = .ok (.getfield 12, 3) := by decide +kernel
theorem d_H_fill_4 : decode b_H_fill 4 = .ok (.lload_n 1, 1) := by decide +kernel
theorem d_H_fill_5 : decode b_H_fill 5 = .ok (.invokevirtual 32, 3) := by decide +kernel
theorem d_H_fill_8 : decode b_H_fill 8 = .ok (.aload_n 0, 1) := by decide +kernel
theorem d_H_fill_9 : decode b_H_fill 9 = .ok (.iconst 0, 1) := by decide +kernel
theorem d_H_fill_10 : decode b_H_fill 10 = .ok (.putfield 28, 3) := by decide +kernel
theorem d_H_fill_13 : decode b_H_fill 13 = .ok (.aload_n 0, 1) := by decide +kernel
theorem d_H_fill_14 : decode b_H_fill 14 = .ok (.iconst 0, 1) := by decide +kernel
theorem d_H_fill_15 : decode b_H_fill 15 = .ok (.invokevirtual 36, 3) := by decide +kernel
theorem d_H_fill_18 : decode b_H_fill 18 = .ok (.aload_n 0, 1) := by decide +kernel
theorem d_H_fill_19 : decode b_H_fill 19 = .ok (.iconst 1, 1) := by decide +kernel
theorem d_H_fill_20 : decode b_H_fill 20 = .ok (.invokevirtual 36, 3) := by decide +kernel
theorem d_H_fill_23 : decode b_H_fill 23 = .ok (.aload_n 0, 1) := by decide +kernel
theorem d_H_fill_24 : decode b_H_fill 24 = .ok (.iconst 2, 1) := by decide +kernel
theorem d_H_fill_25 : decode b_H_fill 25 = .ok (.invokevirtual 36, 3) := by decide +kernel
theorem d_H_fill_28 : decode b_H_fill 28 = .ok (.iconst 0, 1) := by decide +kernel
theorem d_H_fill_29 : decode b_H_fill 29 = .ok (.istore 4, 2) := by decide +kernel
theorem d_H_fill_31 : decode b_H_fill 31 = .ok (.iload 4, 2) := by decide +kernel
theorem d_H_fill_33 : decode b_H_fill 33 = .ok (.iload_n 3, 1) := by decide +kernel
theorem d_H_fill_34 : decode b_H_fill 34 = .ok (.if_icmp .ge 22, 3) := by decide +kernel
theorem d_H_fill_37 : decode b_H_fill 37 = .ok (.aload_n 0, 1) := by decide +kernel
theorem d_H_fill_38 : decode b_H_fill 38 = .ok (.aload_n 0, 1) := by decide +kernel
theorem d_H_fill_39 : decode b_H_fill 39 = .ok (.getfield 12, 3) := by decide +kernel
theorem d_H_fill_42 : decode b_H_fill 42 = .ok (.bipush 7, 2) := by decide +kernel
theorem d_H_fill_44 : decode b_H_fill 44 = .ok (.invokevirtual 40, 3) := by decide +kernel
theorem d_H_fill_47 : decode b_H_fill 47 = .ok (.invokevirtual 36, 3) := by decide +kernel
theorem d_H_fill_50 : decode b_H_fill 50 = .ok (.iinc 4 1, 3) := by decide +kernel
theorem d_H_fill_53 : decode b_H_fill 53 = .ok (.goto (-22), 3) := by decide +kernel
theorem d_H_fill_56 : decode b_H_fill 56 = .ok (.return_, 1) := by decide +kernel
set_option maxHeartbeats 4000000 in
set_option maxRecDepth 100000 in
/-- Harbour.drawReference -/
theorem c_H_drawReference (l : Launch) (dC : Nat → ClassId) (dI : Nat → Nat → Nat) (jh jt jk jv jr n : Nat) (ck : ClassId) (x : Int64) (K : Nat → Int32) (kd : Int32) (hn : n ≤ 43) (sz : Nat) : Met l y_H_drawReference w_H_drawReference ({ frames := 2, cells := 0, slots := 0, locals := 44 }) (wr_P dC dI [.ref jh, .int kd] [(jh, .inr (1, [.ref jt, .ref jk, .ref jv, .ref jr, .int (nI n)])), (jt, .inr (0, [.long x])), (jk, .inl (ck, 43, .inl K))] [(ck, .int)] sz) (va_Qi (fun (r : Int32) (_ : Unit) => r = rfI K n kd x) (fun (u : Unit) => wr_B dC dI (va_A [(jh, .inr (1, [.ref jt, .ref jk, .ref jv, .ref jr, .int (nI n)])), (jt, .inr (0, [.long x])), (jk, .inl (ck, 43, .inl K))] sz) [(jh, .inr (1, [.ref jt, .ref jk, .ref jv, .ref jr, .int (nI n)])), (jt, .inr (0, [.long (rfX K n kd x)])), (jk, .inl (ck, 43, .inl K))] [(ck, .int)]) (va_A [(jh, .inr (1, [.ref jt, .ref jk, .ref jv, .ref jr, .int (nI n)])), (jt, .inr (0, [.long x])), (jk, .inl (ck, 43, .inl K))] sz)) 0 0 (va_A [(jh, .inr (1, [.ref jt, .ref jk, .ref jv, .ref jr, .int (nI n)])), (jt, .inr (0, [.long x])), (jk, .inl (ck, 43, .inl K))] sz) := by
  refine Met.ofW (cc := b_H_drawReference) (maxL := 5) (ret := (Option.some Jvm.ClassFile.FieldType.int)) (by decide) rfl ?_
  intro p e s m args below meth c s₁ B0 hml hv0
  obtain ⟨rfl, hsz, hP, hK, hD0, hN⟩ := hv0
  have hx := B0.exec
  have hb := B0.bytes
  have hr := B0.returns
  have hts := atoms_spec (ws := w_H_drawReference) B0.pre
  have hown : s.vm.findClass R_H = some m.cls := findClass_of_methodNamed B0.named
  have hlocks := B0.notSynchronized
  subst hsz
  have hD := hD0.self (sz := s.heap.size)
  generalize hAe : va_A [(jh, .inr (1, [.ref jt, .ref jk, .ref jv, .ref jr, .int (nI n)])), (jt, .inr (0, [.long x])), (jk, .inl (ck, 43, .inl K))] s.heap.size = A at hD ⊢
  have hA : ∀ q : Nat, s.heap.size ≤ q → A q := fun q h => by rw [← hAe]; exact Or.inr h
  have hS : va_S A s.heap s.heap [] := va_S.rf
  have hP : va_P (dC, dI) classes [(jh, .inr (1, [.ref jt, .ref jk, .ref jv, .ref jr, .int (nI n)])), (jt, .inr (0, [.long x])), (jk, .inl (ck, 43, .inl K))] s.heap := hP
  have hl := lv_entry ([.ref jh, .int kd]) (n := 5) (Nat.le_of_ble_eq_true rfl)
  rw [lg_entry_eq]
  generalize (lg_sl ([.ref jh, .int kd]) ++ List.replicate (5 - (lg_sl ([.ref jh, .int kd])).length) Slot.unset).toArray = ls at hl ⊢
  have hl : lv_has ls 5 [(0, .ref jh), (1, .int kd)] := hl
  have hcn := cnt_le (mP K kd) n
  refine lv_aload_n hx hb d_H_drawReference_0 rfl (lv_at hl 0 rfl) ?_
  refine va_get (D := (dC, dI)) (ci := 1) (v := .ref jt) (C := R_H) (T := F_H) (N := 5) hx hb hts (lay_H _) hown hK hP 0 rfl rfl 0 (by decide) (hts _ (List.mem_cons_of_mem _ m_35)) (fun _ h9 => h9) rfl d_H_drawReference_1 ?_
  refine lv_aload_n hx hb d_H_drawReference_4 rfl (lv_at hl 0 rfl) ?_
  refine lv_iload_n hx hb d_H_drawReference_5 rfl (lv_at hl 1 rfl) ?_
  have hPc := hP.sub (ws' := [(jh, .inr (1, [.ref jt, .ref jk, .ref jv, .ref jr, .int (nI n)])), (jk, .inl (ck, 43, .inl K))]) [0, 2] rfl
  have hKc := hK.sub (tys' := [(ck, .int)]) [0] rfl
  refine vp_callSi (W.runV (As := [.int kd]) (rest := [.ref jt]) ⟨hx, hb, hml, hown, hts⟩ (c_H_partsToReferTo l dC dI jh jt jk jv jr n ck K kd (by first | assumption | omega)) (cwV 1 hts (g_V big_w m_249 m_251 ms_14 m_2 m_252) rfl rfl rfl (by decide +kernel) ⟨Nat.le_of_ble_eq_true rfl, Nat.le_of_ble_eq_true rfl⟩) (ro_V hPc hKc hN (va_recv hKc hPc (ci := 1) (q0 := 0) rfl rfl)) rfl rfl hl.1 rfl (lv_room (Nat.le_of_ble_eq_true rfl)) d_H_drawReference_6 ⟨Nat.le_of_ble_eq_true rfl, Nat.le_of_ble_eq_true rfl⟩) (fun r_1 er_1 => ?_)
  have er_1 := er_1.symm
  subst er_1
  have hPc := hP.sub (ws' := [(jt, .inr (0, [.long x]))]) [1] rfl
  have hKc := hK.sub (tys' := []) [] rfl
  have hDc := hD.sub (ws' := [(jt, .inr (0, [.long x]))]) [1] (by decide) rfl
  have hFc := va_free (wc := [(jt, .inr (0, [.long x]))]) hD hS hA [1] rfl
  refine va_calli (va_runVN (As := [.int (nI (cnt (mP K kd) n))]) (rest := []) ⟨hx, hb, hml, hown, hts⟩ (c_T_numberBelow l dC dI jt x (cnt (mP K kd) n) (by first | assumption | omega) _) ⟨va_cnB 1 hts (g_c big_w m_242) rfl rfl rfl (hN _ (by decide +kernel : (Jvm.Cond.methodLinkNest "PortDrawer$Harbour" (40 : Nat) ({ cls := "PortDrawer$Tape", name := "numberBelow", desc := "(I)I" } : Jvm.MethodName) "PortDrawer") ∈ NWl)) (hts _ (List.mem_cons_of_mem _ m_3)) (by decide +kernel) ⟨Nat.le_of_ble_eq_true rfl, Nat.le_of_ble_eq_true rfl⟩, (hts _ (List.mem_cons_of_mem _ m_241)), (hts _ (List.mem_cons_of_mem _ ms_12))⟩ (wr_V hPc hKc hDc hN (va_recv hKc hPc (ci := 0) (q0 := 0) rfl rfl)) rfl rfl hl.1 rfl (lv_room (Nat.le_of_ble_eq_true rfl)) d_H_drawReference_9 ⟨Nat.le_of_ble_eq_true rfl, Nat.le_of_ble_eq_true rfl⟩) hS (fun q _ h => hFc q h) hFc (fun r_2 u t H1 locs ht hvm hw hB hz1 hk1 hS => ?_)
  obtain ⟨hP1, hK1, hD1⟩ := hB
  rw [ht] at hP1
  obtain ⟨hP, hD⟩ := va_join (wr := [(jh, .inr (1, [.ref jt, .ref jk, .ref jv, .ref jr, .int (nI n)])), (jk, .inl (ck, 43, .inl K))]) (w1 := [(jt, .inr (0, [.long (nbX x (cnt (mP K kd) n))]))]) hP hD [1] [0, 2] rfl rfl (by decide) (by decide) hk1 hFc hP1 hD1
  generalize H1 = H at hP hS ⊢
  have hP : va_P (dC, dI) classes [(jh, .inr (1, [.ref jt, .ref jk, .ref jv, .ref jr, .int (nI n)])), (jk, .inl (ck, 43, .inl K)), (jt, .inr (0, [.long (nbX x (cnt (mP K kd) n))]))] H := hP
  have hD : va_D A [(jh, .inr (1, [.ref jt, .ref jk, .ref jv, .ref jr, .int (nI n)])), (jk, .inl (ck, 43, .inl K)), (jt, .inr (0, [.long (nbX x (cnt (mP K kd) n))]))] := hD
  have hw := hw.symm
  subst hw
  refine lv_istore_n (lv' := [(2, .int (nbI x (cnt (mP K kd) n))), (0, .ref jh), (1, .int kd)]) hx hb d_H_drawReference_12 rfl hl (by decide) rfl (fun ls hl => ?_)
  refine lv_iconst (v := nI 0) hx hb d_H_drawReference_13 (by decide +kernel) ?_
  refine lv_istore_n (lv' := [(3, .int (nI 0)), (2, .int (nbI x (cnt (mP K kd) n))), (0, .ref jh), (1, .int kd)]) hx hb d_H_drawReference_14 rfl hl (by decide) rfl (fun ls hl => ?_)
  refine lv_iconst (v := nI 0) hx hb d_H_drawReference_15 (by decide +kernel) ?_
  refine lv_istore (lv' := [(4, .int (nI 0)), (3, .int (nI 0)), (2, .int (nbI x (cnt (mP K kd) n))), (0, .ref jh), (1, .int kd)]) hx hb d_H_drawReference_16 hl (by decide) rfl (fun ls hl => ?_)
  have lp_18 : ∀ (k9_18 : Nat), ∀ (i : Nat), n - i < k9_18 → (i ≤ n) → (∀ a, a < i → dQ (mP K kd) (nbI x (cnt (mP K kd) n)) a = false) → ∀ (ls : Array Slot), lv_has ls 5 [(0, .ref jh), (1, .int kd), (2, .int (nbI x (cnt (mP K kd) n))), (3, .int (nI (cnt (mP K kd) i))), (4, .int (nI i))] → W p l e (headSpec w_H_drawReference ({ frames := 2, cells := 0, slots := 0, locals := 44 })).room s m ([.ref jh, .int kd]).toArray below meth c H locs 0 0 (MQ below (va_Qi (fun (r : Int32) (_ : Unit) => r = rfI K n kd x) (fun (u : Unit) => wr_B dC dI (A) [(jh, .inr (1, [.ref jt, .ref jk, .ref jv, .ref jr, .int (nI n)])), (jt, .inr (0, [.long (rfX K n kd x)])), (jk, .inl (ck, 43, .inl K))] [(ck, .int)]) (A)) ([.ref jh, .int kd]).toArray s 0 0 A) (F0 m 18 ls []) := by
    intro k9_18
    induction k9_18 with
    | zero =>
      intro i hk9
      exact absurd hk9 (Nat.not_lt_zero _)
    | succ k9_18 ih_18 =>
      intro i hk9_18 hi hno ls hl
      have hci := cnt_le (mP K kd) i
      refine lv_iload hx hb d_H_drawReference_18 (lv_at hl 4 rfl) ?_
      refine lv_aload_n hx hb d_H_drawReference_20 rfl (lv_at hl 0 rfl) ?_
      refine va_get (D := (dC, dI)) (ci := 1) (v := .int (nI n)) (C := R_H) (T := F_H) (N := 5) hx hb hts (lay_H _) hown hK hP 0 rfl rfl 4 (by decide) (hts _ (List.mem_cons_of_mem _ m_42)) (fun _ h9 => h9) rfl d_H_drawReference_21 ?_
      refine lv_icmp_ge (tgt := 58) hx hb d_H_drawReference_24 (by decide) (fun c_24 => ?_) (fun c_24 => ?_)
      · skip
        have c_24 := (nI_leI (by omega) (by omega)).mp c_24
        refine lv_iconst (v := (-1)) hx hb d_H_drawReference_58 (by decide +kernel) ?_
        have hP9 := hP.sub (ws' := [(jh, .inr (1, [.ref jt, .ref jk, .ref jv, .ref jr, .int (nI n)])), (jt, .inr (0, [.long (rfX K n kd x)])), (jk, .inl (ck, 43, .inl K))]) [0, 2, 1] rfl
        have hD9 := hD.sub (ws' := [(jh, .inr (1, [.ref jt, .ref jk, .ref jv, .ref jr, .int (nI n)])), (jt, .inr (0, [.long (rfX K n kd x)])), (jk, .inl (ck, 43, .inl K))]) [0, 2, 1] (by decide) rfl
        have hK9 := hK.sub (tys' := [(ck, .int)]) [0] rfl
        exact W.iret (v := (-1)) hx hb hr (fun t ht hW => ⟨⟨(-1), (), rfl, (by unfold rfI; rw [fst9_none (fun a ha => hno a (by omega))]; rfl), by rw [ht]; exact hP9, va_K.moved hW.alike hK9, hD9⟩, hS.F ht⟩) hS.2.2 d_H_drawReference_59
      · skip
        have c_24 := (not_congr (nI_leI (by omega) (by omega))).mp c_24
        refine lv_iload_n hx hb d_H_drawReference_27 rfl (lv_at hl 1 rfl) ?_
        refine lv_aload_n hx hb d_H_drawReference_28 rfl (lv_at hl 0 rfl) ?_
        refine va_get (D := (dC, dI)) (ci := 1) (v := .ref jk) (C := R_H) (T := F_H) (N := 5) hx hb hts (lay_H _) hown hK hP 0 rfl rfl 1 (by decide) (hts _ (List.mem_cons_of_mem _ m_36)) (fun _ h9 => h9) rfl d_H_drawReference_29 ?_
        refine lv_iload hx hb d_H_drawReference_32 (lv_at hl 4 rfl) ?_
        refine va_iald hx hb hK hP 1 0 rfl rfl (vp_in_nI (by omega) (by omega)) d_H_drawReference_34 ?_
        refine lv_topi (fun w_3 ew_3 => ?_)
        rw [nI_clamp (by omega)] at ew_3
        have ew_3 := ew_3.symm
        subst ew_3
        have hPc := hP.sub (ws' := []) [] rfl
        have hKc := hK.sub (tys' := []) [] rfl
        refine vp_callSi (va_Run.run (va_runSN (As := [.int kd, .int (K i)]) (rest := []) ⟨hx, hb, hml, hown, hts⟩ (c_D_mayRefer l dC dI kd (K i)) ⟨va_cnB 2 hts (g_c big_w m_255) rfl rfl rfl (hN _ (by decide +kernel : (Jvm.Cond.methodLinkNest "PortDrawer$Harbour" (50 : Nat) ({ cls := "PortDrawer", name := "mayRefer", desc := "(II)Z" } : Jvm.MethodName) "PortDrawer") ∈ NWl)) (hts _ (List.mem_cons_of_mem _ m_1)) (by decide +kernel) ⟨Nat.le_of_ble_eq_true rfl, Nat.le_of_ble_eq_true rfl⟩, (hts _ (List.mem_cons_of_mem _ m_254)), trivial⟩ (ro_S hPc hKc hN) rfl rfl hl.1 rfl (lv_room (Nat.le_of_ble_eq_true rfl)) d_H_drawReference_35 ⟨Nat.le_of_ble_eq_true rfl, Nat.le_of_ble_eq_true rfl⟩)) (fun r_4 er_4 => ?_)
        have er_4 := er_4.symm
        subst er_4
        refine lv_if_eq (tgt := 52) hx hb d_H_drawReference_38 (by decide) (fun c_38 => ?_) (fun c_38 => ?_)
        · skip
          have c_38 := bI_f c_38
          have hq9 : dQ (mP K kd) (nbI x (cnt (mP K kd) n)) i = false := by unfold dQ; rw [show mP K kd i = false from c_38, Bool.false_and]
          rw [show nI (cnt (mP K kd) i) = nI (cnt (mP K kd) (i + 1)) from (by rw [cnt_f (P := mP K kd) (n := i) c_38])] at hl
          refine lv_iinc (v := nI (i + 1)) (lv' := [(4, .int (nI (i + 1))), (0, .ref jh), (1, .int kd), (2, .int (nbI x (cnt (mP K kd) n))), (3, .int (nI (cnt (mP K kd) (i + 1))))]) hx hb d_H_drawReference_52 hl (k := 4) rfl (nI_1 _) (by decide) rfl (fun ls hl => ?_)
          refine lv_goto (tgt := 18) hx hb d_H_drawReference_55 (by decide) ?_
          exact ih_18 (i + 1) (by omega) (by omega) (lt_s hno hq9) ls (lv_sub (l' := [(0, .ref jh), (1, .int kd), (2, .int (nbI x (cnt (mP K kd) n))), (3, .int (nI (cnt (mP K kd) (i + 1)))), (4, .int (nI (i + 1)))]) hl [1, 2, 3, 4, 0] rfl)
        · skip
          have c_38 := bI_t c_38
          refine lv_iload_n hx hb d_H_drawReference_41 rfl (lv_at hl 3 rfl) ?_
          refine lv_iload_n hx hb d_H_drawReference_42 rfl (lv_at hl 2 rfl) ?_
          refine lv_icmp_ne (tgt := 49) hx hb d_H_drawReference_43 (by decide) (fun c_43 => ?_) (fun c_43 => ?_)
          · skip
            have hq9 : dQ (mP K kd) (nbI x (cnt (mP K kd) n)) i = false := by unfold dQ; rw [decide_eq_false c_43, Bool.and_false]
            refine lv_iinc (v := nI (cnt (mP K kd) (i + 1))) (lv' := [(3, .int (nI (cnt (mP K kd) (i + 1)))), (0, .ref jh), (1, .int kd), (2, .int (nbI x (cnt (mP K kd) n))), (4, .int (nI i))]) hx hb d_H_drawReference_49 hl (k := 3) rfl (by rw [cnt_t (P := mP K kd) (n := i) c_38]; exact nI_1 _) (by decide) rfl (fun ls hl => ?_)
            refine lv_iinc (v := nI (i + 1)) (lv' := [(4, .int (nI (i + 1))), (3, .int (nI (cnt (mP K kd) (i + 1)))), (0, .ref jh), (1, .int kd), (2, .int (nbI x (cnt (mP K kd) n)))]) hx hb d_H_drawReference_52 hl (k := 4) rfl (nI_1 _) (by decide) rfl (fun ls hl => ?_)
            refine lv_goto (tgt := 18) hx hb d_H_drawReference_55 (by decide) ?_
            exact ih_18 (i + 1) (by omega) (by omega) (lt_s hno hq9) ls (lv_sub (l' := [(0, .ref jh), (1, .int kd), (2, .int (nbI x (cnt (mP K kd) n))), (3, .int (nI (cnt (mP K kd) (i + 1)))), (4, .int (nI (i + 1)))]) hl [2, 3, 4, 1, 0] rfl)
          · skip
            refine lv_iload hx hb d_H_drawReference_46 (lv_at hl 4 rfl) ?_
            have hP9 := hP.sub (ws' := [(jh, .inr (1, [.ref jt, .ref jk, .ref jv, .ref jr, .int (nI n)])), (jt, .inr (0, [.long (rfX K n kd x)])), (jk, .inl (ck, 43, .inl K))]) [0, 2, 1] rfl
            have hD9 := hD.sub (ws' := [(jh, .inr (1, [.ref jt, .ref jk, .ref jv, .ref jr, .int (nI n)])), (jt, .inr (0, [.long (rfX K n kd x)])), (jk, .inl (ck, 43, .inl K))]) [0, 2, 1] (by decide) rfl
            have hK9 := hK.sub (tys' := [(ck, .int)]) [0] rfl
            exact W.iret (v := nI i) hx hb hr (fun t ht hW => ⟨⟨nI i, (), rfl, (by unfold rfI; rw [fst9_some (Q := dQ (mP K kd) (nbI x (cnt (mP K kd) n))) (i := i) (by unfold dQ; rw [show mP K kd i = true from c_38, decide_eq_true c_43]; rfl) hno (by omega)]; rfl), by rw [ht]; exact hP9, va_K.moved hW.alike hK9, hD9⟩, hS.F ht⟩) hS.2.2 d_H_drawReference_48
  exact lp_18 ((n - 0) + 1) 0 (by omega) (by omega) lt_0 ls (lv_sub (l' := [(0, .ref jh), (1, .int kd), (2, .int (nbI x (cnt (mP K kd) n))), (3, .int (nI (cnt (mP K kd) 0))), (4, .int (nI 0))]) hl [3, 4, 2, 1, 0] rfl)
set_option maxHeartbeats 4000000 in
set_option maxRecDepth 100000 in
/-- Harbour.addPart -/
theorem c_H_addPart (l : Launch) (dC : Nat → ClassId) (dI : Nat → Nat → Nat) (jh jt jk jv jr n : Nat) (ck cv cr : ClassId) (x : Int64) (K V R : Nat → Int32) (kd : Int32) (hn : n < 43) (sz : Nat) : Met l y_H_addPart w_H_addPart ({ frames := 3, cells := 0, slots := 0, locals := 68 }) (wr_P dC dI [.ref jh, .int kd] [(jh, .inr (1, [.ref jt, .ref jk, .ref jv, .ref jr, .int (nI n)])), (jt, .inr (0, [.long x])), (jk, .inl (ck, 43, .inl K)), (jv, .inl (cv, 43, .inl V)), (jr, .inl (cr, 43, .inl R))] [(ck, .int), (cv, .int), (cr, .int)] sz) (va_Qv (fun (_ : Unit) => True) (fun (u : Unit) => wr_B dC dI (va_A [(jh, .inr (1, [.ref jt, .ref jk, .ref jv, .ref jr, .int (nI n)])), (jt, .inr (0, [.long x])), (jk, .inl (ck, 43, .inl K)), (jv, .inl (cv, 43, .inl V)), (jr, .inl (cr, 43, .inl R))] sz) [(jh, .inr (1, [.ref jt, .ref jk, .ref jv, .ref jr, .int (nI (n + 1))])), (jt, .inr (0, [.long ((adS kd n (x, K, V, R)).1)])), (jk, .inl (ck, 43, .inl ((adS kd n (x, K, V, R)).2.1))), (jv, .inl (cv, 43, .inl ((adS kd n (x, K, V, R)).2.2.1))), (jr, .inl (cr, 43, .inl ((adS kd n (x, K, V, R)).2.2.2)))] [(ck, .int), (cv, .int), (cr, .int)]) (va_A [(jh, .inr (1, [.ref jt, .ref jk, .ref jv, .ref jr, .int (nI n)])), (jt, .inr (0, [.long x])), (jk, .inl (ck, 43, .inl K)), (jv, .inl (cv, 43, .inl V)), (jr, .inl (cr, 43, .inl R))] sz)) 0 0 (va_A [(jh, .inr (1, [.ref jt, .ref jk, .ref jv, .ref jr, .int (nI n)])), (jt, .inr (0, [.long x])), (jk, .inl (ck, 43, .inl K)), (jv, .inl (cv, 43, .inl V)), (jr, .inl (cr, 43, .inl R))] sz) := by
  refine Met.ofW (cc := b_H_addPart) (maxL := 2) (ret := (Option.none : Option Jvm.ClassFile.FieldType)) (by decide) rfl ?_
  intro p e s m args below meth c s₁ B0 hml hv0
  obtain ⟨rfl, hsz, hP, hK, hD0, hN⟩ := hv0
  have hx := B0.exec
  have hb := B0.bytes
  have hr := B0.returns
  have hts := atoms_spec (ws := w_H_addPart) B0.pre
  have hown : s.vm.findClass R_H = some m.cls := findClass_of_methodNamed B0.named
  have hlocks := B0.notSynchronized
  subst hsz
  have hD := hD0.self (sz := s.heap.size)
  generalize hAe : va_A [(jh, .inr (1, [.ref jt, .ref jk, .ref jv, .ref jr, .int (nI n)])), (jt, .inr (0, [.long x])), (jk, .inl (ck, 43, .inl K)), (jv, .inl (cv, 43, .inl V)), (jr, .inl (cr, 43, .inl R))] s.heap.size = A at hD ⊢
  have hA : ∀ q : Nat, s.heap.size ≤ q → A q := fun q h => by rw [← hAe]; exact Or.inr h
  have hS : va_S A s.heap s.heap [] := va_S.rf
  have hP : va_P (dC, dI) classes [(jh, .inr (1, [.ref jt, .ref jk, .ref jv, .ref jr, .int (nI n)])), (jt, .inr (0, [.long x])), (jk, .inl (ck, 43, .inl K)), (jv, .inl (cv, 43, .inl V)), (jr, .inl (cr, 43, .inl R))] s.heap := hP
  have hl := lv_entry ([.ref jh, .int kd]) (n := 2) (Nat.le_of_ble_eq_true rfl)
  rw [lg_entry_eq]
  generalize (lg_sl ([.ref jh, .int kd]) ++ List.replicate (2 - (lg_sl ([.ref jh, .int kd])).length) Slot.unset).toArray = ls at hl ⊢
  have hl : lv_has ls 2 [(0, .ref jh), (1, .int kd)] := hl
  refine lv_aload_n hx hb d_H_addPart_0 rfl (lv_at hl 0 rfl) ?_
  refine va_get (D := (dC, dI)) (ci := 1) (v := .int (nI n)) (C := R_H) (T := F_H) (N := 5) hx hb hts (lay_H _) hown hK hP 0 rfl rfl 4 (by decide) (hts _ (List.mem_cons_of_mem _ m_42)) (fun _ h9 => h9) rfl d_H_addPart_1 ?_
  refine lv_bipush (v := nI 43) hx hb d_H_addPart_4 (by decide +kernel) ?_
  refine lv_icmp_lt (tgt := 10) hx hb d_H_addPart_6 (by decide) (fun c_6 => ?_) (fun c_6 => ?_)
  · skip
    have c_6 := (nI_ltI (by omega) (by omega)).mp c_6
    refine lv_aload_n hx hb d_H_addPart_10 rfl (lv_at hl 0 rfl) ?_
    refine va_get (D := (dC, dI)) (ci := 1) (v := .ref jk) (C := R_H) (T := F_H) (N := 5) hx hb hts (lay_H _) hown hK hP 0 rfl rfl 1 (by decide) (hts _ (List.mem_cons_of_mem _ m_36)) (fun _ h9 => h9) rfl d_H_addPart_11 ?_
    refine lv_aload_n hx hb d_H_addPart_14 rfl (lv_at hl 0 rfl) ?_
    refine va_get (D := (dC, dI)) (ci := 1) (v := .int (nI n)) (C := R_H) (T := F_H) (N := 5) hx hb hts (lay_H _) hown hK hP 0 rfl rfl 4 (by decide) (hts _ (List.mem_cons_of_mem _ m_42)) (fun _ h9 => h9) rfl d_H_addPart_15 ?_
    refine lv_iload_n hx hb d_H_addPart_18 rfl (lv_at hl 1 rfl) ?_
    refine va_iast hx hb hK hP hD hS 2 0 rfl rfl (vp_in_nI (by omega) (by omega)) d_H_addPart_19 (fun H locs hP hD hS => ?_)
    rw [nI_clamp (by omega)] at hP hD
    have hP : va_P (dC, dI) classes [(jh, .inr (1, [.ref jt, .ref jk, .ref jv, .ref jr, .int (nI n)])), (jt, .inr (0, [.long x])), (jk, .inl (ck, 43, .inl (upd K n kd))), (jv, .inl (cv, 43, .inl V)), (jr, .inl (cr, 43, .inl R))] H := hP
    have hD : va_D A [(jh, .inr (1, [.ref jt, .ref jk, .ref jv, .ref jr, .int (nI n)])), (jt, .inr (0, [.long x])), (jk, .inl (ck, 43, .inl (upd K n kd))), (jv, .inl (cv, 43, .inl V)), (jr, .inl (cr, 43, .inl R))] := hD
    refine lv_aload_n hx hb d_H_addPart_20 rfl (lv_at hl 0 rfl) ?_
    refine va_get (D := (dC, dI)) (ci := 1) (v := .ref jv) (C := R_H) (T := F_H) (N := 5) hx hb hts (lay_H _) hown hK hP 0 rfl rfl 2 (by decide) (hts _ (List.mem_cons_of_mem _ m_38)) (fun _ h9 => h9) rfl d_H_addPart_21 ?_
    refine lv_aload_n hx hb d_H_addPart_24 rfl (lv_at hl 0 rfl) ?_
    refine va_get (D := (dC, dI)) (ci := 1) (v := .int (nI n)) (C := R_H) (T := F_H) (N := 5) hx hb hts (lay_H _) hown hK hP 0 rfl rfl 4 (by decide) (hts _ (List.mem_cons_of_mem _ m_42)) (fun _ h9 => h9) rfl d_H_addPart_25 ?_
    refine lv_aload_n hx hb d_H_addPart_28 rfl (lv_at hl 0 rfl) ?_
    refine va_get (D := (dC, dI)) (ci := 1) (v := .ref jt) (C := R_H) (T := F_H) (N := 5) hx hb hts (lay_H _) hown hK hP 0 rfl rfl 0 (by decide) (hts _ (List.mem_cons_of_mem _ m_35)) (fun _ h9 => h9) rfl d_H_addPart_29 ?_
    refine lv_bipush (v := nI 100) hx hb d_H_addPart_32 (by decide +kernel) ?_
    have hPc := hP.sub (ws' := [(jt, .inr (0, [.long x]))]) [1] rfl
    have hKc := hK.sub (tys' := []) [] rfl
    have hDc := hD.sub (ws' := [(jt, .inr (0, [.long x]))]) [1] (by decide) rfl
    have hFc := va_free (wc := [(jt, .inr (0, [.long x]))]) hD hS hA [1] rfl
    refine va_calli (va_runVN (As := [.int (nI 100)]) (rest := [.int (nI n), .ref jv]) ⟨hx, hb, hml, hown, hts⟩ (c_T_numberBelow l dC dI jt x 100 (by first | assumption | omega) _) ⟨va_cnB 1 hts (g_c big_w m_242) rfl rfl rfl (hN _ (by decide +kernel : (Jvm.Cond.methodLinkNest "PortDrawer$Harbour" (40 : Nat) ({ cls := "PortDrawer$Tape", name := "numberBelow", desc := "(I)I" } : Jvm.MethodName) "PortDrawer") ∈ NWl)) (hts _ (List.mem_cons_of_mem _ m_3)) (by decide +kernel) ⟨Nat.le_of_ble_eq_true rfl, Nat.le_of_ble_eq_true rfl⟩, (hts _ (List.mem_cons_of_mem _ m_241)), (hts _ (List.mem_cons_of_mem _ ms_12))⟩ (wr_V hPc hKc hDc hN (va_recv hKc hPc (ci := 0) (q0 := 0) rfl rfl)) rfl rfl hl.1 rfl (lv_room (Nat.le_of_ble_eq_true rfl)) d_H_addPart_34 ⟨Nat.le_of_ble_eq_true rfl, Nat.le_of_ble_eq_true rfl⟩) hS (fun q _ h => hFc q h) hFc (fun r_1 u t H1 locs ht hvm hw hB hz1 hk1 hS => ?_)
    obtain ⟨hP1, hK1, hD1⟩ := hB
    rw [ht] at hP1
    obtain ⟨hP, hD⟩ := va_join (wr := [(jh, .inr (1, [.ref jt, .ref jk, .ref jv, .ref jr, .int (nI n)])), (jk, .inl (ck, 43, .inl (upd K n kd))), (jv, .inl (cv, 43, .inl V)), (jr, .inl (cr, 43, .inl R))]) (w1 := [(jt, .inr (0, [.long (nbX x 100)]))]) hP hD [1] [0, 2, 3, 4] rfl rfl (by decide) (by decide) hk1 hFc hP1 hD1
    generalize H1 = H at hP hS ⊢
    have hP : va_P (dC, dI) classes [(jh, .inr (1, [.ref jt, .ref jk, .ref jv, .ref jr, .int (nI n)])), (jk, .inl (ck, 43, .inl (upd K n kd))), (jv, .inl (cv, 43, .inl V)), (jr, .inl (cr, 43, .inl R)), (jt, .inr (0, [.long (nbX x 100)]))] H := hP
    have hD : va_D A [(jh, .inr (1, [.ref jt, .ref jk, .ref jv, .ref jr, .int (nI n)])), (jk, .inl (ck, 43, .inl (upd K n kd))), (jv, .inl (cv, 43, .inl V)), (jr, .inl (cr, 43, .inl R)), (jt, .inr (0, [.long (nbX x 100)]))] := hD
    have hw := hw.symm
    subst hw
    refine va_iast hx hb hK hP hD hS 2 1 rfl rfl (vp_in_nI (by omega) (by omega)) d_H_addPart_37 (fun H locs hP hD hS => ?_)
    rw [nI_clamp (by omega)] at hP hD
    have hP : va_P (dC, dI) classes [(jh, .inr (1, [.ref jt, .ref jk, .ref jv, .ref jr, .int (nI n)])), (jk, .inl (ck, 43, .inl (upd K n kd))), (jv, .inl (cv, 43, .inl (upd V n (nbI x 100)))), (jr, .inl (cr, 43, .inl R)), (jt, .inr (0, [.long (nbX x 100)]))] H := hP
    have hD : va_D A [(jh, .inr (1, [.ref jt, .ref jk, .ref jv, .ref jr, .int (nI n)])), (jk, .inl (ck, 43, .inl (upd K n kd))), (jv, .inl (cv, 43, .inl (upd V n (nbI x 100)))), (jr, .inl (cr, 43, .inl R)), (jt, .inr (0, [.long (nbX x 100)]))] := hD
    refine lv_aload_n hx hb d_H_addPart_38 rfl (lv_at hl 0 rfl) ?_
    refine va_get (D := (dC, dI)) (ci := 1) (v := .ref jr) (C := R_H) (T := F_H) (N := 5) hx hb hts (lay_H _) hown hK hP 0 rfl rfl 3 (by decide) (hts _ (List.mem_cons_of_mem _ m_40)) (fun _ h9 => h9) rfl d_H_addPart_39 ?_
    refine lv_aload_n hx hb d_H_addPart_42 rfl (lv_at hl 0 rfl) ?_
    refine va_get (D := (dC, dI)) (ci := 1) (v := .int (nI n)) (C := R_H) (T := F_H) (N := 5) hx hb hts (lay_H _) hown hK hP 0 rfl rfl 4 (by decide) (hts _ (List.mem_cons_of_mem _ m_42)) (fun _ h9 => h9) rfl d_H_addPart_43 ?_
    refine lv_aload_n hx hb d_H_addPart_46 rfl (lv_at hl 0 rfl) ?_
    refine lv_iload_n hx hb d_H_addPart_47 rfl (lv_at hl 1 rfl) ?_
    have hPc := hP.sub (ws' := [(jh, .inr (1, [.ref jt, .ref jk, .ref jv, .ref jr, .int (nI n)])), (jt, .inr (0, [.long (nbX x 100)])), (jk, .inl (ck, 43, .inl (upd K n kd)))]) [0, 4, 1] rfl
    have hKc := hK.sub (tys' := [(ck, .int)]) [0] rfl
    have hDc := hD.sub (ws' := [(jh, .inr (1, [.ref jt, .ref jk, .ref jv, .ref jr, .int (nI n)])), (jt, .inr (0, [.long (nbX x 100)])), (jk, .inl (ck, 43, .inl (upd K n kd)))]) [0, 4, 1] (by decide) rfl
    have hFc := va_free (wc := [(jh, .inr (1, [.ref jt, .ref jk, .ref jv, .ref jr, .int (nI n)])), (jt, .inr (0, [.long (nbX x 100)])), (jk, .inl (ck, 43, .inl (upd K n kd)))]) hD hS hA [0, 4, 1] rfl
    refine va_calli (va_runV (As := [.int kd]) (rest := [.int (nI n), .ref jr]) ⟨hx, hb, hml, hown, hts⟩ (c_H_drawReference l dC dI jh jt jk jv jr n ck (nbX x 100) (upd K n kd) kd (by first | assumption | omega) _) (cwV 1 hts (g_V big_w m_245 m_247 ms_13 m_2 m_248) rfl rfl rfl (by decide +kernel) ⟨Nat.le_of_ble_eq_true rfl, Nat.le_of_ble_eq_true rfl⟩) (wr_V hPc hKc hDc hN (va_recv hKc hPc (ci := 1) (q0 := 0) rfl rfl)) rfl rfl hl.1 rfl (lv_room (Nat.le_of_ble_eq_true rfl)) d_H_addPart_48 ⟨Nat.le_of_ble_eq_true rfl, Nat.le_of_ble_eq_true rfl⟩) hS (fun q _ h => hFc q h) hFc (fun r_2 u t H1 locs ht hvm hw hB hz1 hk1 hS => ?_)
    obtain ⟨hP1, hK1, hD1⟩ := hB
    rw [ht] at hP1
    obtain ⟨hP, hD⟩ := va_join (wr := [(jv, .inl (cv, 43, .inl (upd V n (nbI x 100)))), (jr, .inl (cr, 43, .inl R))]) (w1 := [(jh, .inr (1, [.ref jt, .ref jk, .ref jv, .ref jr, .int (nI n)])), (jt, .inr (0, [.long (rfX (upd K n kd) n kd (nbX x 100))])), (jk, .inl (ck, 43, .inl (upd K n kd)))]) hP hD [0, 4, 1] [2, 3] rfl rfl (by decide) (by decide) hk1 hFc hP1 hD1
    generalize H1 = H at hP hS ⊢
    have hP : va_P (dC, dI) classes [(jv, .inl (cv, 43, .inl (upd V n (nbI x 100)))), (jr, .inl (cr, 43, .inl R)), (jh, .inr (1, [.ref jt, .ref jk, .ref jv, .ref jr, .int (nI n)])), (jt, .inr (0, [.long (rfX (upd K n kd) n kd (nbX x 100))])), (jk, .inl (ck, 43, .inl (upd K n kd)))] H := hP
    have hD : va_D A [(jv, .inl (cv, 43, .inl (upd V n (nbI x 100)))), (jr, .inl (cr, 43, .inl R)), (jh, .inr (1, [.ref jt, .ref jk, .ref jv, .ref jr, .int (nI n)])), (jt, .inr (0, [.long (rfX (upd K n kd) n kd (nbX x 100))])), (jk, .inl (ck, 43, .inl (upd K n kd)))] := hD
    have hw := hw.symm
    subst hw
    refine va_iast hx hb hK hP hD hS 1 2 rfl rfl (vp_in_nI (by omega) (by omega)) d_H_addPart_51 (fun H locs hP hD hS => ?_)
    rw [nI_clamp (by omega)] at hP hD
    have hP : va_P (dC, dI) classes [(jv, .inl (cv, 43, .inl (upd V n (nbI x 100)))), (jr, .inl (cr, 43, .inl (upd R n (rfI (upd K n kd) n kd (nbX x 100))))), (jh, .inr (1, [.ref jt, .ref jk, .ref jv, .ref jr, .int (nI n)])), (jt, .inr (0, [.long (rfX (upd K n kd) n kd (nbX x 100))])), (jk, .inl (ck, 43, .inl (upd K n kd)))] H := hP
    have hD : va_D A [(jv, .inl (cv, 43, .inl (upd V n (nbI x 100)))), (jr, .inl (cr, 43, .inl (upd R n (rfI (upd K n kd) n kd (nbX x 100))))), (jh, .inr (1, [.ref jt, .ref jk, .ref jv, .ref jr, .int (nI n)])), (jt, .inr (0, [.long (rfX (upd K n kd) n kd (nbX x 100))])), (jk, .inl (ck, 43, .inl (upd K n kd)))] := hD
    refine lv_aload_n hx hb d_H_addPart_52 rfl (lv_at hl 0 rfl) ?_
    refine lv_dup hx hb d_H_addPart_53 rfl ?_
    refine va_get (D := (dC, dI)) (ci := 1) (v := .int (nI n)) (C := R_H) (T := F_H) (N := 5) hx hb hts (lay_H _) hown hK hP 2 rfl rfl 4 (by decide) (hts _ (List.mem_cons_of_mem _ m_42)) (fun _ h9 => h9) rfl d_H_addPart_54 ?_
    refine lv_iconst (v := nI 1) hx hb d_H_addPart_57 (by decide +kernel) ?_
    refine lv_iadd hx hb d_H_addPart_58 ?_
    refine lv_topi (fun w_3 ew_3 => ?_)
    have ew_3 : (nI (n + 1)) = w_3 := (ew_3.trans (nI_add _ _)).symm
    subst ew_3
    refine va_put (D := (dC, dI)) (ci := 1) (v := .int (nI (n + 1))) (ty := .int) (C := R_H) (T := F_H) (N := 5) hx hb hts (lay_H _) ft_H tok_H nok_H hown hK hP hD hS 2 rfl rfl 4 (by decide) (hts _ (List.mem_cons_of_mem _ m_42)) (fun _ h9 => h9) rfl (by decide +kernel) rfl rfl (Nat.le_of_ble_eq_true rfl) d_H_addPart_59 (fun H locs hP hD hS => ?_)
    have hP : va_P (dC, dI) classes [(jv, .inl (cv, 43, .inl (upd V n (nbI x 100)))), (jr, .inl (cr, 43, .inl (upd R n (rfI (upd K n kd) n kd (nbX x 100))))), (jh, .inr (1, [.ref jt, .ref jk, .ref jv, .ref jr, .int (nI (n + 1))])), (jt, .inr (0, [.long (rfX (upd K n kd) n kd (nbX x 100))])), (jk, .inl (ck, 43, .inl (upd K n kd)))] H := hP
    have hD : va_D A [(jv, .inl (cv, 43, .inl (upd V n (nbI x 100)))), (jr, .inl (cr, 43, .inl (upd R n (rfI (upd K n kd) n kd (nbX x 100))))), (jh, .inr (1, [.ref jt, .ref jk, .ref jv, .ref jr, .int (nI (n + 1))])), (jt, .inr (0, [.long (rfX (upd K n kd) n kd (nbX x 100))])), (jk, .inl (ck, 43, .inl (upd K n kd)))] := hD
    have hP9 := hP.sub (ws' := [(jh, .inr (1, [.ref jt, .ref jk, .ref jv, .ref jr, .int (nI (n + 1))])), (jt, .inr (0, [.long ((adS kd n (x, K, V, R)).1)])), (jk, .inl (ck, 43, .inl ((adS kd n (x, K, V, R)).2.1))), (jv, .inl (cv, 43, .inl ((adS kd n (x, K, V, R)).2.2.1))), (jr, .inl (cr, 43, .inl ((adS kd n (x, K, V, R)).2.2.2)))]) [2, 3, 4, 0, 1] rfl
    have hD9 := hD.sub (ws' := [(jh, .inr (1, [.ref jt, .ref jk, .ref jv, .ref jr, .int (nI (n + 1))])), (jt, .inr (0, [.long ((adS kd n (x, K, V, R)).1)])), (jk, .inl (ck, 43, .inl ((adS kd n (x, K, V, R)).2.1))), (jv, .inl (cv, 43, .inl ((adS kd n (x, K, V, R)).2.2.1))), (jr, .inl (cr, 43, .inl ((adS kd n (x, K, V, R)).2.2.2)))]) [2, 3, 4, 0, 1] (by decide) rfl
    have hK9 := hK.sub (tys' := [(ck, .int), (cv, .int), (cr, .int)]) [0, 1, 2] rfl
    exact W.vret hx hb hr (fun t ht hW => ⟨⟨(), rfl, trivial, by rw [ht]; exact hP9, va_K.moved hW.alike hK9, hD9⟩, hS.F ht⟩) hS.2.2 d_H_addPart_62
  · skip
    have c_6 := (not_congr (nI_ltI (by omega) (by omega))).mp c_6
    exact absurd hn c_6
set_option maxHeartbeats 4000000 in
set_option maxRecDepth 100000 in
/-- Harbour.fill -/
theorem c_H_fill (l : Launch) (dC : Nat → ClassId) (dI : Nat → Nat → Nat) (jh jt jk jv jr n : Nat) (ck cv cr : ClassId) (x : Int64) (K V R : Nat → Int32) (sd : Int64) (z : Nat) (hz : z ≤ 40) (sz : Nat) : Met l y_H_fill w_H_fill ({ frames := 4, cells := 0, slots := 0, locals := 89 }) (wr_P dC dI [.ref jh, .long sd, .int (nI z)] [(jh, .inr (1, [.ref jt, .ref jk, .ref jv, .ref jr, .int (nI n)])), (jt, .inr (0, [.long x])), (jk, .inl (ck, 43, .inl K)), (jv, .inl (cv, 43, .inl V)), (jr, .inl (cr, 43, .inl R))] [(ck, .int), (cv, .int), (cr, .int)] sz) (va_Qv (fun (_ : Unit) => True) (fun (u : Unit) => wr_B dC dI (va_A [(jh, .inr (1, [.ref jt, .ref jk, .ref jv, .ref jr, .int (nI n)])), (jt, .inr (0, [.long x])), (jk, .inl (ck, 43, .inl K)), (jv, .inl (cv, 43, .inl V)), (jr, .inl (cr, 43, .inl R))] sz) [(jh, .inr (1, [.ref jt, .ref jk, .ref jv, .ref jr, .int (nI (z + 3))])), (jt, .inr (0, [.long ((flS sd K V R z).1)])), (jk, .inl (ck, 43, .inl ((flS sd K V R z).2.1))), (jv, .inl (cv, 43, .inl ((flS sd K V R z).2.2.1))), (jr, .inl (cr, 43, .inl ((flS sd K V R z).2.2.2)))] [(ck, .int), (cv, .int), (cr, .int)]) (va_A [(jh, .inr (1, [.ref jt, .ref jk, .ref jv, .ref jr, .int (nI n)])), (jt, .inr (0, [.long x])), (jk, .inl (ck, 43, .inl K)), (jv, .inl (cv, 43, .inl V)), (jr, .inl (cr, 43, .inl R))] sz)) 0 0 (va_A [(jh, .inr (1, [.ref jt, .ref jk, .ref jv, .ref jr, .int (nI n)])), (jt, .inr (0, [.long x])), (jk, .inl (ck, 43, .inl K)), (jv, .inl (cv, 43, .inl V)), (jr, .inl (cr, 43, .inl R))] sz) := by
  refine Met.ofW (cc := b_H_fill) (maxL := 5) (ret := (Option.none : Option Jvm.ClassFile.FieldType)) (by decide) rfl ?_
  intro p e s m args below meth c s₁ B0 hml hv0
  obtain ⟨rfl, hsz, hP, hK, hD0, hN⟩ := hv0
  have hx := B0.exec
  have hb := B0.bytes
  have hr := B0.returns
  have hts := atoms_spec (ws := w_H_fill) B0.pre
  have hown : s.vm.findClass R_H = some m.cls := findClass_of_methodNamed B0.named
  have hlocks := B0.notSynchronized
  subst hsz
  have hD := hD0.self (sz := s.heap.size)
  generalize hAe : va_A [(jh, .inr (1, [.ref jt, .ref jk, .ref jv, .ref jr, .int (nI n)])), (jt, .inr (0, [.long x])), (jk, .inl (ck, 43, .inl K)), (jv, .inl (cv, 43, .inl V)), (jr, .inl (cr, 43, .inl R))] s.heap.size = A at hD ⊢
  have hA : ∀ q : Nat, s.heap.size ≤ q → A q := fun q h => by rw [← hAe]; exact Or.inr h
  have hS : va_S A s.heap s.heap [] := va_S.rf
  have hP : va_P (dC, dI) classes [(jh, .inr (1, [.ref jt, .ref jk, .ref jv, .ref jr, .int (nI n)])), (jt, .inr (0, [.long x])), (jk, .inl (ck, 43, .inl K)), (jv, .inl (cv, 43, .inl V)), (jr, .inl (cr, 43, .inl R))] s.heap := hP
  have hl := lv_entry ([.ref jh, .long sd, .int (nI z)]) (n := 5) (Nat.le_of_ble_eq_true rfl)
  rw [lg_entry_eq]
  generalize (lg_sl ([.ref jh, .long sd, .int (nI z)]) ++ List.replicate (5 - (lg_sl ([.ref jh, .long sd, .int (nI z)])).length) Slot.unset).toArray = ls at hl ⊢
  have hl : lv_has ls 5 [(0, .ref jh), (1, .long sd), (3, .int (nI z))] := hl
  refine lv_aload_n hx hb d_H_fill_0 rfl (lv_at hl 0 rfl) ?_
  refine va_get (D := (dC, dI)) (ci := 1) (v := .ref jt) (C := R_H) (T := F_H) (N := 5) hx hb hts (lay_H _) hown hK hP 0 rfl rfl 0 (by decide) (hts _ (List.mem_cons_of_mem _ m_35)) (fun _ h9 => h9) rfl d_H_fill_1 ?_
  refine lv_lload_n hx hb d_H_fill_4 rfl (lv_at hl 1 rfl) ?_
  have hPc := hP.sub (ws' := [(jt, .inr (0, [.long x]))]) [1] rfl
  have hKc := hK.sub (tys' := []) [] rfl
  have hDc := hD.sub (ws' := [(jt, .inr (0, [.long x]))]) [1] (by decide) rfl
  have hFc := va_free (wc := [(jt, .inr (0, [.long x]))]) hD hS hA [1] rfl
  refine va_callv (va_runVN (As := [.long sd]) (rest := []) ⟨hx, hb, hml, hown, hts⟩ (c_T_rewind l dC dI jt x sd _) ⟨va_cnB 1 hts (g_c big_w m_234) rfl rfl rfl (hN _ (by decide +kernel : (Jvm.Cond.methodLinkNest "PortDrawer$Harbour" (32 : Nat) ({ cls := "PortDrawer$Tape", name := "rewind", desc := "(J)V" } : Jvm.MethodName) "PortDrawer") ∈ NWl)) (hts _ (List.mem_cons_of_mem _ m_3)) (by decide +kernel) ⟨Nat.le_of_ble_eq_true rfl, Nat.le_of_ble_eq_true rfl⟩, (hts _ (List.mem_cons_of_mem _ m_233)), (hts _ (List.mem_cons_of_mem _ ms_10))⟩ (wr_V hPc hKc hDc hN (va_recv hKc hPc (ci := 0) (q0 := 0) rfl rfl)) rfl rfl hl.1 rfl (lv_room (Nat.le_of_ble_eq_true rfl)) d_H_fill_5 ⟨Nat.le_of_ble_eq_true rfl, Nat.le_of_ble_eq_true rfl⟩) hS (fun q _ h => hFc q h) hFc (fun u t H1 locs ht hvm hw hB hz1 hk1 hS => ?_)
  obtain ⟨hP1, hK1, hD1⟩ := hB
  rw [ht] at hP1
  obtain ⟨hP, hD⟩ := va_join (wr := [(jh, .inr (1, [.ref jt, .ref jk, .ref jv, .ref jr, .int (nI n)])), (jk, .inl (ck, 43, .inl K)), (jv, .inl (cv, 43, .inl V)), (jr, .inl (cr, 43, .inl R))]) (w1 := [(jt, .inr (0, [.long sd]))]) hP hD [1] [0, 2, 3, 4] rfl rfl (by decide) (by decide) hk1 hFc hP1 hD1
  generalize H1 = H at hP hS ⊢
  have hP : va_P (dC, dI) classes [(jh, .inr (1, [.ref jt, .ref jk, .ref jv, .ref jr, .int (nI n)])), (jk, .inl (ck, 43, .inl K)), (jv, .inl (cv, 43, .inl V)), (jr, .inl (cr, 43, .inl R)), (jt, .inr (0, [.long sd]))] H := hP
  have hD : va_D A [(jh, .inr (1, [.ref jt, .ref jk, .ref jv, .ref jr, .int (nI n)])), (jk, .inl (ck, 43, .inl K)), (jv, .inl (cv, 43, .inl V)), (jr, .inl (cr, 43, .inl R)), (jt, .inr (0, [.long sd]))] := hD
  refine lv_aload_n hx hb d_H_fill_8 rfl (lv_at hl 0 rfl) ?_
  refine lv_iconst (v := nI 0) hx hb d_H_fill_9 (by decide +kernel) ?_
  refine va_put (D := (dC, dI)) (ci := 1) (v := .int (nI 0)) (ty := .int) (C := R_H) (T := F_H) (N := 5) hx hb hts (lay_H _) ft_H tok_H nok_H hown hK hP hD hS 0 rfl rfl 4 (by decide) (hts _ (List.mem_cons_of_mem _ m_42)) (fun _ h9 => h9) rfl (by decide +kernel) rfl rfl (Nat.le_of_ble_eq_true rfl) d_H_fill_10 (fun H locs hP hD hS => ?_)
  have hP : va_P (dC, dI) classes [(jh, .inr (1, [.ref jt, .ref jk, .ref jv, .ref jr, .int (nI 0)])), (jk, .inl (ck, 43, .inl K)), (jv, .inl (cv, 43, .inl V)), (jr, .inl (cr, 43, .inl R)), (jt, .inr (0, [.long sd]))] H := hP
  have hD : va_D A [(jh, .inr (1, [.ref jt, .ref jk, .ref jv, .ref jr, .int (nI 0)])), (jk, .inl (ck, 43, .inl K)), (jv, .inl (cv, 43, .inl V)), (jr, .inl (cr, 43, .inl R)), (jt, .inr (0, [.long sd]))] := hD
  refine lv_aload_n hx hb d_H_fill_13 rfl (lv_at hl 0 rfl) ?_
  refine lv_iconst (v := nI 0) hx hb d_H_fill_14 (by decide +kernel) ?_
  have hPc := hP.sub (ws' := [(jh, .inr (1, [.ref jt, .ref jk, .ref jv, .ref jr, .int (nI 0)])), (jt, .inr (0, [.long sd])), (jk, .inl (ck, 43, .inl K)), (jv, .inl (cv, 43, .inl V)), (jr, .inl (cr, 43, .inl R))]) [0, 4, 1, 2, 3] rfl
  have hKc := hK.sub (tys' := [(ck, .int), (cv, .int), (cr, .int)]) [0, 1, 2] rfl
  have hDc := hD.sub (ws' := [(jh, .inr (1, [.ref jt, .ref jk, .ref jv, .ref jr, .int (nI 0)])), (jt, .inr (0, [.long sd])), (jk, .inl (ck, 43, .inl K)), (jv, .inl (cv, 43, .inl V)), (jr, .inl (cr, 43, .inl R))]) [0, 4, 1, 2, 3] (by decide) rfl
  have hFc := va_free (wc := [(jh, .inr (1, [.ref jt, .ref jk, .ref jv, .ref jr, .int (nI 0)])), (jt, .inr (0, [.long sd])), (jk, .inl (ck, 43, .inl K)), (jv, .inl (cv, 43, .inl V)), (jr, .inl (cr, 43, .inl R))]) hD hS hA [0, 4, 1, 2, 3] rfl
  refine va_callv (va_runV (As := [.int (nI 0)]) (rest := []) ⟨hx, hb, hml, hown, hts⟩ (c_H_addPart l dC dI jh jt jk jv jr 0 ck cv cr sd K V R (nI 0) (by first | assumption | omega) _) (cwV 1 hts (g_V big_w m_235 m_237 ms_11 m_2 m_238) rfl rfl rfl (by decide +kernel) ⟨Nat.le_of_ble_eq_true rfl, Nat.le_of_ble_eq_true rfl⟩) (wr_V hPc hKc hDc hN (va_recv hKc hPc (ci := 1) (q0 := 0) rfl rfl)) rfl rfl hl.1 rfl (lv_room (Nat.le_of_ble_eq_true rfl)) d_H_fill_15 ⟨Nat.le_of_ble_eq_true rfl, Nat.le_of_ble_eq_true rfl⟩) hS (fun q _ h => hFc q h) hFc (fun u t H1 locs ht hvm hw hB hz1 hk1 hS => ?_)
  obtain ⟨hP1, hK1, hD1⟩ := hB
  rw [ht] at hP1
  obtain ⟨hP, hD⟩ := va_join (wr := []) (w1 := [(jh, .inr (1, [.ref jt, .ref jk, .ref jv, .ref jr, .int (nI (0 + 1))])), (jt, .inr (0, [.long ((adS (nI 0) 0 (sd, K, V, R)).1)])), (jk, .inl (ck, 43, .inl ((adS (nI 0) 0 (sd, K, V, R)).2.1))), (jv, .inl (cv, 43, .inl ((adS (nI 0) 0 (sd, K, V, R)).2.2.1))), (jr, .inl (cr, 43, .inl ((adS (nI 0) 0 (sd, K, V, R)).2.2.2)))]) hP hD [0, 4, 1, 2, 3] [] rfl rfl (by decide) (by decide) hk1 hFc hP1 hD1
  generalize H1 = H at hP hS ⊢
  have hP : va_P (dC, dI) classes [(jh, .inr (1, [.ref jt, .ref jk, .ref jv, .ref jr, .int (nI (0 + 1))])), (jt, .inr (0, [.long ((adS (nI 0) 0 (sd, K, V, R)).1)])), (jk, .inl (ck, 43, .inl ((adS (nI 0) 0 (sd, K, V, R)).2.1))), (jv, .inl (cv, 43, .inl ((adS (nI 0) 0 (sd, K, V, R)).2.2.1))), (jr, .inl (cr, 43, .inl ((adS (nI 0) 0 (sd, K, V, R)).2.2.2)))] H := hP
  have hD : va_D A [(jh, .inr (1, [.ref jt, .ref jk, .ref jv, .ref jr, .int (nI (0 + 1))])), (jt, .inr (0, [.long ((adS (nI 0) 0 (sd, K, V, R)).1)])), (jk, .inl (ck, 43, .inl ((adS (nI 0) 0 (sd, K, V, R)).2.1))), (jv, .inl (cv, 43, .inl ((adS (nI 0) 0 (sd, K, V, R)).2.2.1))), (jr, .inl (cr, 43, .inl ((adS (nI 0) 0 (sd, K, V, R)).2.2.2)))] := hD
  refine lv_aload_n hx hb d_H_fill_18 rfl (lv_at hl 0 rfl) ?_
  refine lv_iconst (v := nI 1) hx hb d_H_fill_19 (by decide +kernel) ?_
  have hPc := hP.sub (ws' := [(jh, .inr (1, [.ref jt, .ref jk, .ref jv, .ref jr, .int (nI (0 + 1))])), (jt, .inr (0, [.long ((adS (nI 0) 0 (sd, K, V, R)).1)])), (jk, .inl (ck, 43, .inl ((adS (nI 0) 0 (sd, K, V, R)).2.1))), (jv, .inl (cv, 43, .inl ((adS (nI 0) 0 (sd, K, V, R)).2.2.1))), (jr, .inl (cr, 43, .inl ((adS (nI 0) 0 (sd, K, V, R)).2.2.2)))]) [0, 1, 2, 3, 4] rfl
  have hKc := hK.sub (tys' := [(ck, .int), (cv, .int), (cr, .int)]) [0, 1, 2] rfl
  have hDc := hD.sub (ws' := [(jh, .inr (1, [.ref jt, .ref jk, .ref jv, .ref jr, .int (nI (0 + 1))])), (jt, .inr (0, [.long ((adS (nI 0) 0 (sd, K, V, R)).1)])), (jk, .inl (ck, 43, .inl ((adS (nI 0) 0 (sd, K, V, R)).2.1))), (jv, .inl (cv, 43, .inl ((adS (nI 0) 0 (sd, K, V, R)).2.2.1))), (jr, .inl (cr, 43, .inl ((adS (nI 0) 0 (sd, K, V, R)).2.2.2)))]) [0, 1, 2, 3, 4] (by decide) rfl
  have hFc := va_free (wc := [(jh, .inr (1, [.ref jt, .ref jk, .ref jv, .ref jr, .int (nI (0 + 1))])), (jt, .inr (0, [.long ((adS (nI 0) 0 (sd, K, V, R)).1)])), (jk, .inl (ck, 43, .inl ((adS (nI 0) 0 (sd, K, V, R)).2.1))), (jv, .inl (cv, 43, .inl ((adS (nI 0) 0 (sd, K, V, R)).2.2.1))), (jr, .inl (cr, 43, .inl ((adS (nI 0) 0 (sd, K, V, R)).2.2.2)))]) hD hS hA [0, 1, 2, 3, 4] rfl
  refine va_callv (va_runV (As := [.int (nI 1)]) (rest := []) ⟨hx, hb, hml, hown, hts⟩ (c_H_addPart l dC dI jh jt jk jv jr (0 + 1) ck cv cr ((adS (nI 0) 0 (sd, K, V, R)).1) ((adS (nI 0) 0 (sd, K, V, R)).2.1) ((adS (nI 0) 0 (sd, K, V, R)).2.2.1) ((adS (nI 0) 0 (sd, K, V, R)).2.2.2) (nI 1) (by first | assumption | omega) _) (cwV 1 hts (g_V big_w m_235 m_237 ms_11 m_2 m_238) rfl rfl rfl (by decide +kernel) ⟨Nat.le_of_ble_eq_true rfl, Nat.le_of_ble_eq_true rfl⟩) (wr_V hPc hKc hDc hN (va_recv hKc hPc (ci := 1) (q0 := 0) rfl rfl)) rfl rfl hl.1 rfl (lv_room (Nat.le_of_ble_eq_true rfl)) d_H_fill_20 ⟨Nat.le_of_ble_eq_true rfl, Nat.le_of_ble_eq_true rfl⟩) hS (fun q _ h => hFc q h) hFc (fun u t H1 locs ht hvm hw hB hz1 hk1 hS => ?_)
  obtain ⟨hP1, hK1, hD1⟩ := hB
  rw [ht] at hP1
  obtain ⟨hP, hD⟩ := va_join (wr := []) (w1 := [(jh, .inr (1, [.ref jt, .ref jk, .ref jv, .ref jr, .int (nI ((0 + 1) + 1))])), (jt, .inr (0, [.long ((adS (nI 1) (0 + 1) (((adS (nI 0) 0 (sd, K, V, R)).1), ((adS (nI 0) 0 (sd, K, V, R)).2.1), ((adS (nI 0) 0 (sd, K, V, R)).2.2.1), ((adS (nI 0) 0 (sd, K, V, R)).2.2.2))).1)])), (jk, .inl (ck, 43, .inl ((adS (nI 1) (0 + 1) (((adS (nI 0) 0 (sd, K, V, R)).1), ((adS (nI 0) 0 (sd, K, V, R)).2.1), ((adS (nI 0) 0 (sd, K, V, R)).2.2.1), ((adS (nI 0) 0 (sd, K, V, R)).2.2.2))).2.1))), (jv, .inl (cv, 43, .inl ((adS (nI 1) (0 + 1) (((adS (nI 0) 0 (sd, K, V, R)).1), ((adS (nI 0) 0 (sd, K, V, R)).2.1), ((adS (nI 0) 0 (sd, K, V, R)).2.2.1), ((adS (nI 0) 0 (sd, K, V, R)).2.2.2))).2.2.1))), (jr, .inl (cr, 43, .inl ((adS (nI 1) (0 + 1) (((adS (nI 0) 0 (sd, K, V, R)).1), ((adS (nI 0) 0 (sd, K, V, R)).2.1), ((adS (nI 0) 0 (sd, K, V, R)).2.2.1), ((adS (nI 0) 0 (sd, K, V, R)).2.2.2))).2.2.2)))]) hP hD [0, 1, 2, 3, 4] [] rfl rfl (by decide) (by decide) hk1 hFc hP1 hD1
  generalize H1 = H at hP hS ⊢
  have hP : va_P (dC, dI) classes [(jh, .inr (1, [.ref jt, .ref jk, .ref jv, .ref jr, .int (nI ((0 + 1) + 1))])), (jt, .inr (0, [.long ((adS (nI 1) (0 + 1) (((adS (nI 0) 0 (sd, K, V, R)).1), ((adS (nI 0) 0 (sd, K, V, R)).2.1), ((adS (nI 0) 0 (sd, K, V, R)).2.2.1), ((adS (nI 0) 0 (sd, K, V, R)).2.2.2))).1)])), (jk, .inl (ck, 43, .inl ((adS (nI 1) (0 + 1) (((adS (nI 0) 0 (sd, K, V, R)).1), ((adS (nI 0) 0 (sd, K, V, R)).2.1), ((adS (nI 0) 0 (sd, K, V, R)).2.2.1), ((adS (nI 0) 0 (sd, K, V, R)).2.2.2))).2.1))), (jv, .inl (cv, 43, .inl ((adS (nI 1) (0 + 1) (((adS (nI 0) 0 (sd, K, V, R)).1), ((adS (nI 0) 0 (sd, K, V, R)).2.1), ((adS (nI 0) 0 (sd, K, V, R)).2.2.1), ((adS (nI 0) 0 (sd, K, V, R)).2.2.2))).2.2.1))), (jr, .inl (cr, 43, .inl ((adS (nI 1) (0 + 1) (((adS (nI 0) 0 (sd, K, V, R)).1), ((adS (nI 0) 0 (sd, K, V, R)).2.1), ((adS (nI 0) 0 (sd, K, V, R)).2.2.1), ((adS (nI 0) 0 (sd, K, V, R)).2.2.2))).2.2.2)))] H := hP
  have hD : va_D A [(jh, .inr (1, [.ref jt, .ref jk, .ref jv, .ref jr, .int (nI ((0 + 1) + 1))])), (jt, .inr (0, [.long ((adS (nI 1) (0 + 1) (((adS (nI 0) 0 (sd, K, V, R)).1), ((adS (nI 0) 0 (sd, K, V, R)).2.1), ((adS (nI 0) 0 (sd, K, V, R)).2.2.1), ((adS (nI 0) 0 (sd, K, V, R)).2.2.2))).1)])), (jk, .inl (ck, 43, .inl ((adS (nI 1) (0 + 1) (((adS (nI 0) 0 (sd, K, V, R)).1), ((adS (nI 0) 0 (sd, K, V, R)).2.1), ((adS (nI 0) 0 (sd, K, V, R)).2.2.1), ((adS (nI 0) 0 (sd, K, V, R)).2.2.2))).2.1))), (jv, .inl (cv, 43, .inl ((adS (nI 1) (0 + 1) (((adS (nI 0) 0 (sd, K, V, R)).1), ((adS (nI 0) 0 (sd, K, V, R)).2.1), ((adS (nI 0) 0 (sd, K, V, R)).2.2.1), ((adS (nI 0) 0 (sd, K, V, R)).2.2.2))).2.2.1))), (jr, .inl (cr, 43, .inl ((adS (nI 1) (0 + 1) (((adS (nI 0) 0 (sd, K, V, R)).1), ((adS (nI 0) 0 (sd, K, V, R)).2.1), ((adS (nI 0) 0 (sd, K, V, R)).2.2.1), ((adS (nI 0) 0 (sd, K, V, R)).2.2.2))).2.2.2)))] := hD
  refine lv_aload_n hx hb d_H_fill_23 rfl (lv_at hl 0 rfl) ?_
  refine lv_iconst (v := nI 2) hx hb d_H_fill_24 (by decide +kernel) ?_
  have hPc := hP.sub (ws' := [(jh, .inr (1, [.ref jt, .ref jk, .ref jv, .ref jr, .int (nI ((0 + 1) + 1))])), (jt, .inr (0, [.long ((adS (nI 1) (0 + 1) (((adS (nI 0) 0 (sd, K, V, R)).1), ((adS (nI 0) 0 (sd, K, V, R)).2.1), ((adS (nI 0) 0 (sd, K, V, R)).2.2.1), ((adS (nI 0) 0 (sd, K, V, R)).2.2.2))).1)])), (jk, .inl (ck, 43, .inl ((adS (nI 1) (0 + 1) (((adS (nI 0) 0 (sd, K, V, R)).1), ((adS (nI 0) 0 (sd, K, V, R)).2.1), ((adS (nI 0) 0 (sd, K, V, R)).2.2.1), ((adS (nI 0) 0 (sd, K, V, R)).2.2.2))).2.1))), (jv, .inl (cv, 43, .inl ((adS (nI 1) (0 + 1) (((adS (nI 0) 0 (sd, K, V, R)).1), ((adS (nI 0) 0 (sd, K, V, R)).2.1), ((adS (nI 0) 0 (sd, K, V, R)).2.2.1), ((adS (nI 0) 0 (sd, K, V, R)).2.2.2))).2.2.1))), (jr, .inl (cr, 43, .inl ((adS (nI 1) (0 + 1) (((adS (nI 0) 0 (sd, K, V, R)).1), ((adS (nI 0) 0 (sd, K, V, R)).2.1), ((adS (nI 0) 0 (sd, K, V, R)).2.2.1), ((adS (nI 0) 0 (sd, K, V, R)).2.2.2))).2.2.2)))]) [0, 1, 2, 3, 4] rfl
  have hKc := hK.sub (tys' := [(ck, .int), (cv, .int), (cr, .int)]) [0, 1, 2] rfl
  have hDc := hD.sub (ws' := [(jh, .inr (1, [.ref jt, .ref jk, .ref jv, .ref jr, .int (nI ((0 + 1) + 1))])), (jt, .inr (0, [.long ((adS (nI 1) (0 + 1) (((adS (nI 0) 0 (sd, K, V, R)).1), ((adS (nI 0) 0 (sd, K, V, R)).2.1), ((adS (nI 0) 0 (sd, K, V, R)).2.2.1), ((adS (nI 0) 0 (sd, K, V, R)).2.2.2))).1)])), (jk, .inl (ck, 43, .inl ((adS (nI 1) (0 + 1) (((adS (nI 0) 0 (sd, K, V, R)).1), ((adS (nI 0) 0 (sd, K, V, R)).2.1), ((adS (nI 0) 0 (sd, K, V, R)).2.2.1), ((adS (nI 0) 0 (sd, K, V, R)).2.2.2))).2.1))), (jv, .inl (cv, 43, .inl ((adS (nI 1) (0 + 1) (((adS (nI 0) 0 (sd, K, V, R)).1), ((adS (nI 0) 0 (sd, K, V, R)).2.1), ((adS (nI 0) 0 (sd, K, V, R)).2.2.1), ((adS (nI 0) 0 (sd, K, V, R)).2.2.2))).2.2.1))), (jr, .inl (cr, 43, .inl ((adS (nI 1) (0 + 1) (((adS (nI 0) 0 (sd, K, V, R)).1), ((adS (nI 0) 0 (sd, K, V, R)).2.1), ((adS (nI 0) 0 (sd, K, V, R)).2.2.1), ((adS (nI 0) 0 (sd, K, V, R)).2.2.2))).2.2.2)))]) [0, 1, 2, 3, 4] (by decide) rfl
  have hFc := va_free (wc := [(jh, .inr (1, [.ref jt, .ref jk, .ref jv, .ref jr, .int (nI ((0 + 1) + 1))])), (jt, .inr (0, [.long ((adS (nI 1) (0 + 1) (((adS (nI 0) 0 (sd, K, V, R)).1), ((adS (nI 0) 0 (sd, K, V, R)).2.1), ((adS (nI 0) 0 (sd, K, V, R)).2.2.1), ((adS (nI 0) 0 (sd, K, V, R)).2.2.2))).1)])), (jk, .inl (ck, 43, .inl ((adS (nI 1) (0 + 1) (((adS (nI 0) 0 (sd, K, V, R)).1), ((adS (nI 0) 0 (sd, K, V, R)).2.1), ((adS (nI 0) 0 (sd, K, V, R)).2.2.1), ((adS (nI 0) 0 (sd, K, V, R)).2.2.2))).2.1))), (jv, .inl (cv, 43, .inl ((adS (nI 1) (0 + 1) (((adS (nI 0) 0 (sd, K, V, R)).1), ((adS (nI 0) 0 (sd, K, V, R)).2.1), ((adS (nI 0) 0 (sd, K, V, R)).2.2.1), ((adS (nI 0) 0 (sd, K, V, R)).2.2.2))).2.2.1))), (jr, .inl (cr, 43, .inl ((adS (nI 1) (0 + 1) (((adS (nI 0) 0 (sd, K, V, R)).1), ((adS (nI 0) 0 (sd, K, V, R)).2.1), ((adS (nI 0) 0 (sd, K, V, R)).2.2.1), ((adS (nI 0) 0 (sd, K, V, R)).2.2.2))).2.2.2)))]) hD hS hA [0, 1, 2, 3, 4] rfl
  refine va_callv (va_runV (As := [.int (nI 2)]) (rest := []) ⟨hx, hb, hml, hown, hts⟩ (c_H_addPart l dC dI jh jt jk jv jr ((0 + 1) + 1) ck cv cr ((adS (nI 1) (0 + 1) (((adS (nI 0) 0 (sd, K, V, R)).1), ((adS (nI 0) 0 (sd, K, V, R)).2.1), ((adS (nI 0) 0 (sd, K, V, R)).2.2.1), ((adS (nI 0) 0 (sd, K, V, R)).2.2.2))).1) ((adS (nI 1) (0 + 1) (((adS (nI 0) 0 (sd, K, V, R)).1), ((adS (nI 0) 0 (sd, K, V, R)).2.1), ((adS (nI 0) 0 (sd, K, V, R)).2.2.1), ((adS (nI 0) 0 (sd, K, V, R)).2.2.2))).2.1) ((adS (nI 1) (0 + 1) (((adS (nI 0) 0 (sd, K, V, R)).1), ((adS (nI 0) 0 (sd, K, V, R)).2.1), ((adS (nI 0) 0 (sd, K, V, R)).2.2.1), ((adS (nI 0) 0 (sd, K, V, R)).2.2.2))).2.2.1) ((adS (nI 1) (0 + 1) (((adS (nI 0) 0 (sd, K, V, R)).1), ((adS (nI 0) 0 (sd, K, V, R)).2.1), ((adS (nI 0) 0 (sd, K, V, R)).2.2.1), ((adS (nI 0) 0 (sd, K, V, R)).2.2.2))).2.2.2) (nI 2) (by first | assumption | omega) _) (cwV 1 hts (g_V big_w m_235 m_237 ms_11 m_2 m_238) rfl rfl rfl (by decide +kernel) ⟨Nat.le_of_ble_eq_true rfl, Nat.le_of_ble_eq_true rfl⟩) (wr_V hPc hKc hDc hN (va_recv hKc hPc (ci := 1) (q0 := 0) rfl rfl)) rfl rfl hl.1 rfl (lv_room (Nat.le_of_ble_eq_true rfl)) d_H_fill_25 ⟨Nat.le_of_ble_eq_true rfl, Nat.le_of_ble_eq_true rfl⟩) hS (fun q _ h => hFc q h) hFc (fun u t H1 locs ht hvm hw hB hz1 hk1 hS => ?_)
  obtain ⟨hP1, hK1, hD1⟩ := hB
  rw [ht] at hP1
  obtain ⟨hP, hD⟩ := va_join (wr := []) (w1 := [(jh, .inr (1, [.ref jt, .ref jk, .ref jv, .ref jr, .int (nI (((0 + 1) + 1) + 1))])), (jt, .inr (0, [.long ((adS (nI 2) ((0 + 1) + 1) (((adS (nI 1) (0 + 1) (((adS (nI 0) 0 (sd, K, V, R)).1), ((adS (nI 0) 0 (sd, K, V, R)).2.1), ((adS (nI 0) 0 (sd, K, V, R)).2.2.1), ((adS (nI 0) 0 (sd, K, V, R)).2.2.2))).1), ((adS (nI 1) (0 + 1) (((adS (nI 0) 0 (sd, K, V, R)).1), ((adS (nI 0) 0 (sd, K, V, R)).2.1), ((adS (nI 0) 0 (sd, K, V, R)).2.2.1), ((adS (nI 0) 0 (sd, K, V, R)).2.2.2))).2.1), ((adS (nI 1) (0 + 1) (((adS (nI 0) 0 (sd, K, V, R)).1), ((adS (nI 0) 0 (sd, K, V, R)).2.1), ((adS (nI 0) 0 (sd, K, V, R)).2.2.1), ((adS (nI 0) 0 (sd, K, V, R)).2.2.2))).2.2.1), ((adS (nI 1) (0 + 1) (((adS (nI 0) 0 (sd, K, V, R)).1), ((adS (nI 0) 0 (sd, K, V, R)).2.1), ((adS (nI 0) 0 (sd, K, V, R)).2.2.1), ((adS (nI 0) 0 (sd, K, V, R)).2.2.2))).2.2.2))).1)])), (jk, .inl (ck, 43, .inl ((adS (nI 2) ((0 + 1) + 1) (((adS (nI 1) (0 + 1) (((adS (nI 0) 0 (sd, K, V, R)).1), ((adS (nI 0) 0 (sd, K, V, R)).2.1), ((adS (nI 0) 0 (sd, K, V, R)).2.2.1), ((adS (nI 0) 0 (sd, K, V, R)).2.2.2))).1), ((adS (nI 1) (0 + 1) (((adS (nI 0) 0 (sd, K, V, R)).1), ((adS (nI 0) 0 (sd, K, V, R)).2.1), ((adS (nI 0) 0 (sd, K, V, R)).2.2.1), ((adS (nI 0) 0 (sd, K, V, R)).2.2.2))).2.1), ((adS (nI 1) (0 + 1) (((adS (nI 0) 0 (sd, K, V, R)).1), ((adS (nI 0) 0 (sd, K, V, R)).2.1), ((adS (nI 0) 0 (sd, K, V, R)).2.2.1), ((adS (nI 0) 0 (sd, K, V, R)).2.2.2))).2.2.1), ((adS (nI 1) (0 + 1) (((adS (nI 0) 0 (sd, K, V, R)).1), ((adS (nI 0) 0 (sd, K, V, R)).2.1), ((adS (nI 0) 0 (sd, K, V, R)).2.2.1), ((adS (nI 0) 0 (sd, K, V, R)).2.2.2))).2.2.2))).2.1))), (jv, .inl (cv, 43, .inl ((adS (nI 2) ((0 + 1) + 1) (((adS (nI 1) (0 + 1) (((adS (nI 0) 0 (sd, K, V, R)).1), ((adS (nI 0) 0 (sd, K, V, R)).2.1), ((adS (nI 0) 0 (sd, K, V, R)).2.2.1), ((adS (nI 0) 0 (sd, K, V, R)).2.2.2))).1), ((adS (nI 1) (0 + 1) (((adS (nI 0) 0 (sd, K, V, R)).1), ((adS (nI 0) 0 (sd, K, V, R)).2.1), ((adS (nI 0) 0 (sd, K, V, R)).2.2.1), ((adS (nI 0) 0 (sd, K, V, R)).2.2.2))).2.1), ((adS (nI 1) (0 + 1) (((adS (nI 0) 0 (sd, K, V, R)).1), ((adS (nI 0) 0 (sd, K, V, R)).2.1), ((adS (nI 0) 0 (sd, K, V, R)).2.2.1), ((adS (nI 0) 0 (sd, K, V, R)).2.2.2))).2.2.1), ((adS (nI 1) (0 + 1) (((adS (nI 0) 0 (sd, K, V, R)).1), ((adS (nI 0) 0 (sd, K, V, R)).2.1), ((adS (nI 0) 0 (sd, K, V, R)).2.2.1), ((adS (nI 0) 0 (sd, K, V, R)).2.2.2))).2.2.2))).2.2.1))), (jr, .inl (cr, 43, .inl ((adS (nI 2) ((0 + 1) + 1) (((adS (nI 1) (0 + 1) (((adS (nI 0) 0 (sd, K, V, R)).1), ((adS (nI 0) 0 (sd, K, V, R)).2.1), ((adS (nI 0) 0 (sd, K, V, R)).2.2.1), ((adS (nI 0) 0 (sd, K, V, R)).2.2.2))).1), ((adS (nI 1) (0 + 1) (((adS (nI 0) 0 (sd, K, V, R)).1), ((adS (nI 0) 0 (sd, K, V, R)).2.1), ((adS (nI 0) 0 (sd, K, V, R)).2.2.1), ((adS (nI 0) 0 (sd, K, V, R)).2.2.2))).2.1), ((adS (nI 1) (0 + 1) (((adS (nI 0) 0 (sd, K, V, R)).1), ((adS (nI 0) 0 (sd, K, V, R)).2.1), ((adS (nI 0) 0 (sd, K, V, R)).2.2.1), ((adS (nI 0) 0 (sd, K, V, R)).2.2.2))).2.2.1), ((adS (nI 1) (0 + 1) (((adS (nI 0) 0 (sd, K, V, R)).1), ((adS (nI 0) 0 (sd, K, V, R)).2.1), ((adS (nI 0) 0 (sd, K, V, R)).2.2.1), ((adS (nI 0) 0 (sd, K, V, R)).2.2.2))).2.2.2))).2.2.2)))]) hP hD [0, 1, 2, 3, 4] [] rfl rfl (by decide) (by decide) hk1 hFc hP1 hD1
  generalize H1 = H at hP hS ⊢
  have hP : va_P (dC, dI) classes [(jh, .inr (1, [.ref jt, .ref jk, .ref jv, .ref jr, .int (nI (((0 + 1) + 1) + 1))])), (jt, .inr (0, [.long ((adS (nI 2) ((0 + 1) + 1) (((adS (nI 1) (0 + 1) (((adS (nI 0) 0 (sd, K, V, R)).1), ((adS (nI 0) 0 (sd, K, V, R)).2.1), ((adS (nI 0) 0 (sd, K, V, R)).2.2.1), ((adS (nI 0) 0 (sd, K, V, R)).2.2.2))).1), ((adS (nI 1) (0 + 1) (((adS (nI 0) 0 (sd, K, V, R)).1), ((adS (nI 0) 0 (sd, K, V, R)).2.1), ((adS (nI 0) 0 (sd, K, V, R)).2.2.1), ((adS (nI 0) 0 (sd, K, V, R)).2.2.2))).2.1), ((adS (nI 1) (0 + 1) (((adS (nI 0) 0 (sd, K, V, R)).1), ((adS (nI 0) 0 (sd, K, V, R)).2.1), ((adS (nI 0) 0 (sd, K, V, R)).2.2.1), ((adS (nI 0) 0 (sd, K, V, R)).2.2.2))).2.2.1), ((adS (nI 1) (0 + 1) (((adS (nI 0) 0 (sd, K, V, R)).1), ((adS (nI 0) 0 (sd, K, V, R)).2.1), ((adS (nI 0) 0 (sd, K, V, R)).2.2.1), ((adS (nI 0) 0 (sd, K, V, R)).2.2.2))).2.2.2))).1)])), (jk, .inl (ck, 43, .inl ((adS (nI 2) ((0 + 1) + 1) (((adS (nI 1) (0 + 1) (((adS (nI 0) 0 (sd, K, V, R)).1), ((adS (nI 0) 0 (sd, K, V, R)).2.1), ((adS (nI 0) 0 (sd, K, V, R)).2.2.1), ((adS (nI 0) 0 (sd, K, V, R)).2.2.2))).1), ((adS (nI 1) (0 + 1) (((adS (nI 0) 0 (sd, K, V, R)).1), ((adS (nI 0) 0 (sd, K, V, R)).2.1), ((adS (nI 0) 0 (sd, K, V, R)).2.2.1), ((adS (nI 0) 0 (sd, K, V, R)).2.2.2))).2.1), ((adS (nI 1) (0 + 1) (((adS (nI 0) 0 (sd, K, V, R)).1), ((adS (nI 0) 0 (sd, K, V, R)).2.1), ((adS (nI 0) 0 (sd, K, V, R)).2.2.1), ((adS (nI 0) 0 (sd, K, V, R)).2.2.2))).2.2.1), ((adS (nI 1) (0 + 1) (((adS (nI 0) 0 (sd, K, V, R)).1), ((adS (nI 0) 0 (sd, K, V, R)).2.1), ((adS (nI 0) 0 (sd, K, V, R)).2.2.1), ((adS (nI 0) 0 (sd, K, V, R)).2.2.2))).2.2.2))).2.1))), (jv, .inl (cv, 43, .inl ((adS (nI 2) ((0 + 1) + 1) (((adS (nI 1) (0 + 1) (((adS (nI 0) 0 (sd, K, V, R)).1), ((adS (nI 0) 0 (sd, K, V, R)).2.1), ((adS (nI 0) 0 (sd, K, V, R)).2.2.1), ((adS (nI 0) 0 (sd, K, V, R)).2.2.2))).1), ((adS (nI 1) (0 + 1) (((adS (nI 0) 0 (sd, K, V, R)).1), ((adS (nI 0) 0 (sd, K, V, R)).2.1), ((adS (nI 0) 0 (sd, K, V, R)).2.2.1), ((adS (nI 0) 0 (sd, K, V, R)).2.2.2))).2.1), ((adS (nI 1) (0 + 1) (((adS (nI 0) 0 (sd, K, V, R)).1), ((adS (nI 0) 0 (sd, K, V, R)).2.1), ((adS (nI 0) 0 (sd, K, V, R)).2.2.1), ((adS (nI 0) 0 (sd, K, V, R)).2.2.2))).2.2.1), ((adS (nI 1) (0 + 1) (((adS (nI 0) 0 (sd, K, V, R)).1), ((adS (nI 0) 0 (sd, K, V, R)).2.1), ((adS (nI 0) 0 (sd, K, V, R)).2.2.1), ((adS (nI 0) 0 (sd, K, V, R)).2.2.2))).2.2.2))).2.2.1))), (jr, .inl (cr, 43, .inl ((adS (nI 2) ((0 + 1) + 1) (((adS (nI 1) (0 + 1) (((adS (nI 0) 0 (sd, K, V, R)).1), ((adS (nI 0) 0 (sd, K, V, R)).2.1), ((adS (nI 0) 0 (sd, K, V, R)).2.2.1), ((adS (nI 0) 0 (sd, K, V, R)).2.2.2))).1), ((adS (nI 1) (0 + 1) (((adS (nI 0) 0 (sd, K, V, R)).1), ((adS (nI 0) 0 (sd, K, V, R)).2.1), ((adS (nI 0) 0 (sd, K, V, R)).2.2.1), ((adS (nI 0) 0 (sd, K, V, R)).2.2.2))).2.1), ((adS (nI 1) (0 + 1) (((adS (nI 0) 0 (sd, K, V, R)).1), ((adS (nI 0) 0 (sd, K, V, R)).2.1), ((adS (nI 0) 0 (sd, K, V, R)).2.2.1), ((adS (nI 0) 0 (sd, K, V, R)).2.2.2))).2.2.1), ((adS (nI 1) (0 + 1) (((adS (nI 0) 0 (sd, K, V, R)).1), ((adS (nI 0) 0 (sd, K, V, R)).2.1), ((adS (nI 0) 0 (sd, K, V, R)).2.2.1), ((adS (nI 0) 0 (sd, K, V, R)).2.2.2))).2.2.2))).2.2.2)))] H := hP
  have hD : va_D A [(jh, .inr (1, [.ref jt, .ref jk, .ref jv, .ref jr, .int (nI (((0 + 1) + 1) + 1))])), (jt, .inr (0, [.long ((adS (nI 2) ((0 + 1) + 1) (((adS (nI 1) (0 + 1) (((adS (nI 0) 0 (sd, K, V, R)).1), ((adS (nI 0) 0 (sd, K, V, R)).2.1), ((adS (nI 0) 0 (sd, K, V, R)).2.2.1), ((adS (nI 0) 0 (sd, K, V, R)).2.2.2))).1), ((adS (nI 1) (0 + 1) (((adS (nI 0) 0 (sd, K, V, R)).1), ((adS (nI 0) 0 (sd, K, V, R)).2.1), ((adS (nI 0) 0 (sd, K, V, R)).2.2.1), ((adS (nI 0) 0 (sd, K, V, R)).2.2.2))).2.1), ((adS (nI 1) (0 + 1) (((adS (nI 0) 0 (sd, K, V, R)).1), ((adS (nI 0) 0 (sd, K, V, R)).2.1), ((adS (nI 0) 0 (sd, K, V, R)).2.2.1), ((adS (nI 0) 0 (sd, K, V, R)).2.2.2))).2.2.1), ((adS (nI 1) (0 + 1) (((adS (nI 0) 0 (sd, K, V, R)).1), ((adS (nI 0) 0 (sd, K, V, R)).2.1), ((adS (nI 0) 0 (sd, K, V, R)).2.2.1), ((adS (nI 0) 0 (sd, K, V, R)).2.2.2))).2.2.2))).1)])), (jk, .inl (ck, 43, .inl ((adS (nI 2) ((0 + 1) + 1) (((adS (nI 1) (0 + 1) (((adS (nI 0) 0 (sd, K, V, R)).1), ((adS (nI 0) 0 (sd, K, V, R)).2.1), ((adS (nI 0) 0 (sd, K, V, R)).2.2.1), ((adS (nI 0) 0 (sd, K, V, R)).2.2.2))).1), ((adS (nI 1) (0 + 1) (((adS (nI 0) 0 (sd, K, V, R)).1), ((adS (nI 0) 0 (sd, K, V, R)).2.1), ((adS (nI 0) 0 (sd, K, V, R)).2.2.1), ((adS (nI 0) 0 (sd, K, V, R)).2.2.2))).2.1), ((adS (nI 1) (0 + 1) (((adS (nI 0) 0 (sd, K, V, R)).1), ((adS (nI 0) 0 (sd, K, V, R)).2.1), ((adS (nI 0) 0 (sd, K, V, R)).2.2.1), ((adS (nI 0) 0 (sd, K, V, R)).2.2.2))).2.2.1), ((adS (nI 1) (0 + 1) (((adS (nI 0) 0 (sd, K, V, R)).1), ((adS (nI 0) 0 (sd, K, V, R)).2.1), ((adS (nI 0) 0 (sd, K, V, R)).2.2.1), ((adS (nI 0) 0 (sd, K, V, R)).2.2.2))).2.2.2))).2.1))), (jv, .inl (cv, 43, .inl ((adS (nI 2) ((0 + 1) + 1) (((adS (nI 1) (0 + 1) (((adS (nI 0) 0 (sd, K, V, R)).1), ((adS (nI 0) 0 (sd, K, V, R)).2.1), ((adS (nI 0) 0 (sd, K, V, R)).2.2.1), ((adS (nI 0) 0 (sd, K, V, R)).2.2.2))).1), ((adS (nI 1) (0 + 1) (((adS (nI 0) 0 (sd, K, V, R)).1), ((adS (nI 0) 0 (sd, K, V, R)).2.1), ((adS (nI 0) 0 (sd, K, V, R)).2.2.1), ((adS (nI 0) 0 (sd, K, V, R)).2.2.2))).2.1), ((adS (nI 1) (0 + 1) (((adS (nI 0) 0 (sd, K, V, R)).1), ((adS (nI 0) 0 (sd, K, V, R)).2.1), ((adS (nI 0) 0 (sd, K, V, R)).2.2.1), ((adS (nI 0) 0 (sd, K, V, R)).2.2.2))).2.2.1), ((adS (nI 1) (0 + 1) (((adS (nI 0) 0 (sd, K, V, R)).1), ((adS (nI 0) 0 (sd, K, V, R)).2.1), ((adS (nI 0) 0 (sd, K, V, R)).2.2.1), ((adS (nI 0) 0 (sd, K, V, R)).2.2.2))).2.2.2))).2.2.1))), (jr, .inl (cr, 43, .inl ((adS (nI 2) ((0 + 1) + 1) (((adS (nI 1) (0 + 1) (((adS (nI 0) 0 (sd, K, V, R)).1), ((adS (nI 0) 0 (sd, K, V, R)).2.1), ((adS (nI 0) 0 (sd, K, V, R)).2.2.1), ((adS (nI 0) 0 (sd, K, V, R)).2.2.2))).1), ((adS (nI 1) (0 + 1) (((adS (nI 0) 0 (sd, K, V, R)).1), ((adS (nI 0) 0 (sd, K, V, R)).2.1), ((adS (nI 0) 0 (sd, K, V, R)).2.2.1), ((adS (nI 0) 0 (sd, K, V, R)).2.2.2))).2.1), ((adS (nI 1) (0 + 1) (((adS (nI 0) 0 (sd, K, V, R)).1), ((adS (nI 0) 0 (sd, K, V, R)).2.1), ((adS (nI 0) 0 (sd, K, V, R)).2.2.1), ((adS (nI 0) 0 (sd, K, V, R)).2.2.2))).2.2.1), ((adS (nI 1) (0 + 1) (((adS (nI 0) 0 (sd, K, V, R)).1), ((adS (nI 0) 0 (sd, K, V, R)).2.1), ((adS (nI 0) 0 (sd, K, V, R)).2.2.1), ((adS (nI 0) 0 (sd, K, V, R)).2.2.2))).2.2.2))).2.2.2)))] := hD
  refine lv_iconst (v := nI 0) hx hb d_H_fill_28 (by decide +kernel) ?_
  refine lv_istore (lv' := [(4, .int (nI 0)), (0, .ref jh), (1, .long sd), (3, .int (nI z))]) hx hb d_H_fill_29 hl (by decide) rfl (fun ls hl => ?_)
  have lp_31 : ∀ (k9_31 : Nat), ∀ (j : Nat), z - j < k9_31 → (j ≤ z) → ∀ (H : Heap) (locs : List Loc), va_P (dC, dI) classes [(jh, .inr (1, [.ref jt, .ref jk, .ref jv, .ref jr, .int (nI (j + 3))])), (jt, .inr (0, [.long ((flL (fl3 (sd, K, V, R)) j).1)])), (jk, .inl (ck, 43, .inl ((flL (fl3 (sd, K, V, R)) j).2.1))), (jv, .inl (cv, 43, .inl ((flL (fl3 (sd, K, V, R)) j).2.2.1))), (jr, .inl (cr, 43, .inl ((flL (fl3 (sd, K, V, R)) j).2.2.2)))] H → va_D A [(jh, .inr (1, [.ref jt, .ref jk, .ref jv, .ref jr, .int (nI (j + 3))])), (jt, .inr (0, [.long ((flL (fl3 (sd, K, V, R)) j).1)])), (jk, .inl (ck, 43, .inl ((flL (fl3 (sd, K, V, R)) j).2.1))), (jv, .inl (cv, 43, .inl ((flL (fl3 (sd, K, V, R)) j).2.2.1))), (jr, .inl (cr, 43, .inl ((flL (fl3 (sd, K, V, R)) j).2.2.2)))] → va_S A s.heap H locs → ∀ (ls : Array Slot), lv_has ls 5 [(0, .ref jh), (1, .long sd), (3, .int (nI z)), (4, .int (nI j))] → W p l e (headSpec w_H_fill ({ frames := 4, cells := 0, slots := 0, locals := 89 })).room s m ([.ref jh, .long sd, .int (nI z)]).toArray below meth c H locs 0 0 (MQ below (va_Qv (fun (_ : Unit) => True) (fun (u : Unit) => wr_B dC dI (A) [(jh, .inr (1, [.ref jt, .ref jk, .ref jv, .ref jr, .int (nI (z + 3))])), (jt, .inr (0, [.long ((flS sd K V R z).1)])), (jk, .inl (ck, 43, .inl ((flS sd K V R z).2.1))), (jv, .inl (cv, 43, .inl ((flS sd K V R z).2.2.1))), (jr, .inl (cr, 43, .inl ((flS sd K V R z).2.2.2)))] [(ck, .int), (cv, .int), (cr, .int)]) (A)) ([.ref jh, .long sd, .int (nI z)]).toArray s 0 0 A) (F0 m 31 ls []) := by
    intro k9_31
    induction k9_31 with
    | zero =>
      intro j hk9
      exact absurd hk9 (Nat.not_lt_zero _)
    | succ k9_31 ih_31 =>
      intro j hk9_31 hj H locs hP hD hS ls hl
      refine lv_iload hx hb d_H_fill_31 (lv_at hl 3 rfl) ?_
      refine lv_iload_n hx hb d_H_fill_33 rfl (lv_at hl 2 rfl) ?_
      refine lv_icmp_ge (tgt := 56) hx hb d_H_fill_34 (by decide) (fun c_34 => ?_) (fun c_34 => ?_)
      · skip
        have c_34 := (nI_leI (by omega) (by omega)).mp c_34
        rw [show j = z by omega] at hP hD
        have hP9 := hP.sub (ws' := [(jh, .inr (1, [.ref jt, .ref jk, .ref jv, .ref jr, .int (nI (z + 3))])), (jt, .inr (0, [.long ((flS sd K V R z).1)])), (jk, .inl (ck, 43, .inl ((flS sd K V R z).2.1))), (jv, .inl (cv, 43, .inl ((flS sd K V R z).2.2.1))), (jr, .inl (cr, 43, .inl ((flS sd K V R z).2.2.2)))]) [0, 1, 2, 3, 4] rfl
        have hD9 := hD.sub (ws' := [(jh, .inr (1, [.ref jt, .ref jk, .ref jv, .ref jr, .int (nI (z + 3))])), (jt, .inr (0, [.long ((flS sd K V R z).1)])), (jk, .inl (ck, 43, .inl ((flS sd K V R z).2.1))), (jv, .inl (cv, 43, .inl ((flS sd K V R z).2.2.1))), (jr, .inl (cr, 43, .inl ((flS sd K V R z).2.2.2)))]) [0, 1, 2, 3, 4] (by decide) rfl
        have hK9 := hK.sub (tys' := [(ck, .int), (cv, .int), (cr, .int)]) [0, 1, 2] rfl
        exact W.vret hx hb hr (fun t ht hW => ⟨⟨(), rfl, trivial, by rw [ht]; exact hP9, va_K.moved hW.alike hK9, hD9⟩, hS.F ht⟩) hS.2.2 d_H_fill_56
      · skip
        have c_34 := (not_congr (nI_leI (by omega) (by omega))).mp c_34
        refine lv_aload_n hx hb d_H_fill_37 rfl (lv_at hl 0 rfl) ?_
        refine lv_aload_n hx hb d_H_fill_38 rfl (lv_at hl 0 rfl) ?_
        refine va_get (D := (dC, dI)) (ci := 1) (v := .ref jt) (C := R_H) (T := F_H) (N := 5) hx hb hts (lay_H _) hown hK hP 0 rfl rfl 0 (by decide) (hts _ (List.mem_cons_of_mem _ m_35)) (fun _ h9 => h9) rfl d_H_fill_39 ?_
        refine lv_bipush (v := nI 7) hx hb d_H_fill_42 (by decide +kernel) ?_
        have hPc := hP.sub (ws' := [(jt, .inr (0, [.long ((flL (fl3 (sd, K, V, R)) j).1)]))]) [1] rfl
        have hKc := hK.sub (tys' := []) [] rfl
        have hDc := hD.sub (ws' := [(jt, .inr (0, [.long ((flL (fl3 (sd, K, V, R)) j).1)]))]) [1] (by decide) rfl
        have hFc := va_free (wc := [(jt, .inr (0, [.long ((flL (fl3 (sd, K, V, R)) j).1)]))]) hD hS hA [1] rfl
        refine va_calli (va_runVN (As := [.int (nI 7)]) (rest := [.ref jh]) ⟨hx, hb, hml, hown, hts⟩ (c_T_numberBelow l dC dI jt ((flL (fl3 (sd, K, V, R)) j).1) 7 (by first | assumption | omega) _) ⟨va_cnB 1 hts (g_c big_w m_242) rfl rfl rfl (hN _ (by decide +kernel : (Jvm.Cond.methodLinkNest "PortDrawer$Harbour" (40 : Nat) ({ cls := "PortDrawer$Tape", name := "numberBelow", desc := "(I)I" } : Jvm.MethodName) "PortDrawer") ∈ NWl)) (hts _ (List.mem_cons_of_mem _ m_3)) (by decide +kernel) ⟨Nat.le_of_ble_eq_true rfl, Nat.le_of_ble_eq_true rfl⟩, (hts _ (List.mem_cons_of_mem _ m_241)), (hts _ (List.mem_cons_of_mem _ ms_12))⟩ (wr_V hPc hKc hDc hN (va_recv hKc hPc (ci := 0) (q0 := 0) rfl rfl)) rfl rfl hl.1 rfl (lv_room (Nat.le_of_ble_eq_true rfl)) d_H_fill_44 ⟨Nat.le_of_ble_eq_true rfl, Nat.le_of_ble_eq_true rfl⟩) hS (fun q _ h => hFc q h) hFc (fun r_5 u t H1 locs ht hvm hw hB hz1 hk1 hS => ?_)
        obtain ⟨hP1, hK1, hD1⟩ := hB
        rw [ht] at hP1
        obtain ⟨hP, hD⟩ := va_join (wr := [(jh, .inr (1, [.ref jt, .ref jk, .ref jv, .ref jr, .int (nI (j + 3))])), (jk, .inl (ck, 43, .inl ((flL (fl3 (sd, K, V, R)) j).2.1))), (jv, .inl (cv, 43, .inl ((flL (fl3 (sd, K, V, R)) j).2.2.1))), (jr, .inl (cr, 43, .inl ((flL (fl3 (sd, K, V, R)) j).2.2.2)))]) (w1 := [(jt, .inr (0, [.long (nbX ((flL (fl3 (sd, K, V, R)) j).1) 7)]))]) hP hD [1] [0, 2, 3, 4] rfl rfl (by decide) (by decide) hk1 hFc hP1 hD1
        generalize H1 = H at hP hS ⊢
        have hP : va_P (dC, dI) classes [(jh, .inr (1, [.ref jt, .ref jk, .ref jv, .ref jr, .int (nI (j + 3))])), (jk, .inl (ck, 43, .inl ((flL (fl3 (sd, K, V, R)) j).2.1))), (jv, .inl (cv, 43, .inl ((flL (fl3 (sd, K, V, R)) j).2.2.1))), (jr, .inl (cr, 43, .inl ((flL (fl3 (sd, K, V, R)) j).2.2.2))), (jt, .inr (0, [.long (nbX ((flL (fl3 (sd, K, V, R)) j).1) 7)]))] H := hP
        have hD : va_D A [(jh, .inr (1, [.ref jt, .ref jk, .ref jv, .ref jr, .int (nI (j + 3))])), (jk, .inl (ck, 43, .inl ((flL (fl3 (sd, K, V, R)) j).2.1))), (jv, .inl (cv, 43, .inl ((flL (fl3 (sd, K, V, R)) j).2.2.1))), (jr, .inl (cr, 43, .inl ((flL (fl3 (sd, K, V, R)) j).2.2.2))), (jt, .inr (0, [.long (nbX ((flL (fl3 (sd, K, V, R)) j).1) 7)]))] := hD
        have hw := hw.symm
        subst hw
        have hPc := hP.sub (ws' := [(jh, .inr (1, [.ref jt, .ref jk, .ref jv, .ref jr, .int (nI (j + 3))])), (jt, .inr (0, [.long (nbX ((flL (fl3 (sd, K, V, R)) j).1) 7)])), (jk, .inl (ck, 43, .inl ((flL (fl3 (sd, K, V, R)) j).2.1))), (jv, .inl (cv, 43, .inl ((flL (fl3 (sd, K, V, R)) j).2.2.1))), (jr, .inl (cr, 43, .inl ((flL (fl3 (sd, K, V, R)) j).2.2.2)))]) [0, 4, 1, 2, 3] rfl
        have hKc := hK.sub (tys' := [(ck, .int), (cv, .int), (cr, .int)]) [0, 1, 2] rfl
        have hDc := hD.sub (ws' := [(jh, .inr (1, [.ref jt, .ref jk, .ref jv, .ref jr, .int (nI (j + 3))])), (jt, .inr (0, [.long (nbX ((flL (fl3 (sd, K, V, R)) j).1) 7)])), (jk, .inl (ck, 43, .inl ((flL (fl3 (sd, K, V, R)) j).2.1))), (jv, .inl (cv, 43, .inl ((flL (fl3 (sd, K, V, R)) j).2.2.1))), (jr, .inl (cr, 43, .inl ((flL (fl3 (sd, K, V, R)) j).2.2.2)))]) [0, 4, 1, 2, 3] (by decide) rfl
        have hFc := va_free (wc := [(jh, .inr (1, [.ref jt, .ref jk, .ref jv, .ref jr, .int (nI (j + 3))])), (jt, .inr (0, [.long (nbX ((flL (fl3 (sd, K, V, R)) j).1) 7)])), (jk, .inl (ck, 43, .inl ((flL (fl3 (sd, K, V, R)) j).2.1))), (jv, .inl (cv, 43, .inl ((flL (fl3 (sd, K, V, R)) j).2.2.1))), (jr, .inl (cr, 43, .inl ((flL (fl3 (sd, K, V, R)) j).2.2.2)))]) hD hS hA [0, 4, 1, 2, 3] rfl
        refine va_callv (va_runV (As := [.int (nbI ((flL (fl3 (sd, K, V, R)) j).1) 7)]) (rest := []) ⟨hx, hb, hml, hown, hts⟩ (c_H_addPart l dC dI jh jt jk jv jr (j + 3) ck cv cr (nbX ((flL (fl3 (sd, K, V, R)) j).1) 7) ((flL (fl3 (sd, K, V, R)) j).2.1) ((flL (fl3 (sd, K, V, R)) j).2.2.1) ((flL (fl3 (sd, K, V, R)) j).2.2.2) (nbI ((flL (fl3 (sd, K, V, R)) j).1) 7) (by first | assumption | omega) _) (cwV 1 hts (g_V big_w m_235 m_237 ms_11 m_2 m_238) rfl rfl rfl (by decide +kernel) ⟨Nat.le_of_ble_eq_true rfl, Nat.le_of_ble_eq_true rfl⟩) (wr_V hPc hKc hDc hN (va_recv hKc hPc (ci := 1) (q0 := 0) rfl rfl)) rfl rfl hl.1 rfl (lv_room (Nat.le_of_ble_eq_true rfl)) d_H_fill_47 ⟨Nat.le_of_ble_eq_true rfl, Nat.le_of_ble_eq_true rfl⟩) hS (fun q _ h => hFc q h) hFc (fun u t H1 locs ht hvm hw hB hz1 hk1 hS => ?_)
        obtain ⟨hP1, hK1, hD1⟩ := hB
        rw [ht] at hP1
        obtain ⟨hP, hD⟩ := va_join (wr := []) (w1 := [(jh, .inr (1, [.ref jt, .ref jk, .ref jv, .ref jr, .int (nI ((j + 3) + 1))])), (jt, .inr (0, [.long ((adS (nbI ((flL (fl3 (sd, K, V, R)) j).1) 7) (j + 3) ((nbX ((flL (fl3 (sd, K, V, R)) j).1) 7), ((flL (fl3 (sd, K, V, R)) j).2.1), ((flL (fl3 (sd, K, V, R)) j).2.2.1), ((flL (fl3 (sd, K, V, R)) j).2.2.2))).1)])), (jk, .inl (ck, 43, .inl ((adS (nbI ((flL (fl3 (sd, K, V, R)) j).1) 7) (j + 3) ((nbX ((flL (fl3 (sd, K, V, R)) j).1) 7), ((flL (fl3 (sd, K, V, R)) j).2.1), ((flL (fl3 (sd, K, V, R)) j).2.2.1), ((flL (fl3 (sd, K, V, R)) j).2.2.2))).2.1))), (jv, .inl (cv, 43, .inl ((adS (nbI ((flL (fl3 (sd, K, V, R)) j).1) 7) (j + 3) ((nbX ((flL (fl3 (sd, K, V, R)) j).1) 7), ((flL (fl3 (sd, K, V, R)) j).2.1), ((flL (fl3 (sd, K, V, R)) j).2.2.1), ((flL (fl3 (sd, K, V, R)) j).2.2.2))).2.2.1))), (jr, .inl (cr, 43, .inl ((adS (nbI ((flL (fl3 (sd, K, V, R)) j).1) 7) (j + 3) ((nbX ((flL (fl3 (sd, K, V, R)) j).1) 7), ((flL (fl3 (sd, K, V, R)) j).2.1), ((flL (fl3 (sd, K, V, R)) j).2.2.1), ((flL (fl3 (sd, K, V, R)) j).2.2.2))).2.2.2)))]) hP hD [0, 4, 1, 2, 3] [] rfl rfl (by decide) (by decide) hk1 hFc hP1 hD1
        generalize H1 = H at hP hS ⊢
        have hP : va_P (dC, dI) classes [(jh, .inr (1, [.ref jt, .ref jk, .ref jv, .ref jr, .int (nI ((j + 3) + 1))])), (jt, .inr (0, [.long ((adS (nbI ((flL (fl3 (sd, K, V, R)) j).1) 7) (j + 3) ((nbX ((flL (fl3 (sd, K, V, R)) j).1) 7), ((flL (fl3 (sd, K, V, R)) j).2.1), ((flL (fl3 (sd, K, V, R)) j).2.2.1), ((flL (fl3 (sd, K, V, R)) j).2.2.2))).1)])), (jk, .inl (ck, 43, .inl ((adS (nbI ((flL (fl3 (sd, K, V, R)) j).1) 7) (j + 3) ((nbX ((flL (fl3 (sd, K, V, R)) j).1) 7), ((flL (fl3 (sd, K, V, R)) j).2.1), ((flL (fl3 (sd, K, V, R)) j).2.2.1), ((flL (fl3 (sd, K, V, R)) j).2.2.2))).2.1))), (jv, .inl (cv, 43, .inl ((adS (nbI ((flL (fl3 (sd, K, V, R)) j).1) 7) (j + 3) ((nbX ((flL (fl3 (sd, K, V, R)) j).1) 7), ((flL (fl3 (sd, K, V, R)) j).2.1), ((flL (fl3 (sd, K, V, R)) j).2.2.1), ((flL (fl3 (sd, K, V, R)) j).2.2.2))).2.2.1))), (jr, .inl (cr, 43, .inl ((adS (nbI ((flL (fl3 (sd, K, V, R)) j).1) 7) (j + 3) ((nbX ((flL (fl3 (sd, K, V, R)) j).1) 7), ((flL (fl3 (sd, K, V, R)) j).2.1), ((flL (fl3 (sd, K, V, R)) j).2.2.1), ((flL (fl3 (sd, K, V, R)) j).2.2.2))).2.2.2)))] H := hP
        have hD : va_D A [(jh, .inr (1, [.ref jt, .ref jk, .ref jv, .ref jr, .int (nI ((j + 3) + 1))])), (jt, .inr (0, [.long ((adS (nbI ((flL (fl3 (sd, K, V, R)) j).1) 7) (j + 3) ((nbX ((flL (fl3 (sd, K, V, R)) j).1) 7), ((flL (fl3 (sd, K, V, R)) j).2.1), ((flL (fl3 (sd, K, V, R)) j).2.2.1), ((flL (fl3 (sd, K, V, R)) j).2.2.2))).1)])), (jk, .inl (ck, 43, .inl ((adS (nbI ((flL (fl3 (sd, K, V, R)) j).1) 7) (j + 3) ((nbX ((flL (fl3 (sd, K, V, R)) j).1) 7), ((flL (fl3 (sd, K, V, R)) j).2.1), ((flL (fl3 (sd, K, V, R)) j).2.2.1), ((flL (fl3 (sd, K, V, R)) j).2.2.2))).2.1))), (jv, .inl (cv, 43, .inl ((adS (nbI ((flL (fl3 (sd, K, V, R)) j).1) 7) (j + 3) ((nbX ((flL (fl3 (sd, K, V, R)) j).1) 7), ((flL (fl3 (sd, K, V, R)) j).2.1), ((flL (fl3 (sd, K, V, R)) j).2.2.1), ((flL (fl3 (sd, K, V, R)) j).2.2.2))).2.2.1))), (jr, .inl (cr, 43, .inl ((adS (nbI ((flL (fl3 (sd, K, V, R)) j).1) 7) (j + 3) ((nbX ((flL (fl3 (sd, K, V, R)) j).1) 7), ((flL (fl3 (sd, K, V, R)) j).2.1), ((flL (fl3 (sd, K, V, R)) j).2.2.1), ((flL (fl3 (sd, K, V, R)) j).2.2.2))).2.2.2)))] := hD
        refine lv_iinc (v := nI (j + 1)) (lv' := [(4, .int (nI (j + 1))), (0, .ref jh), (1, .long sd), (3, .int (nI z))]) hx hb d_H_fill_50 hl (k := 3) rfl (nI_1 _) (by decide) rfl (fun ls hl => ?_)
        refine lv_goto (tgt := 31) hx hb d_H_fill_53 (by decide) ?_
        exact ih_31 (j + 1) (by omega) (by first | assumption | omega) _ _ (hP.sub (ws' := [(jh, .inr (1, [.ref jt, .ref jk, .ref jv, .ref jr, .int (nI ((j + 1) + 3))])), (jt, .inr (0, [.long ((flL (fl3 (sd, K, V, R)) (j + 1)).1)])), (jk, .inl (ck, 43, .inl ((flL (fl3 (sd, K, V, R)) (j + 1)).2.1))), (jv, .inl (cv, 43, .inl ((flL (fl3 (sd, K, V, R)) (j + 1)).2.2.1))), (jr, .inl (cr, 43, .inl ((flL (fl3 (sd, K, V, R)) (j + 1)).2.2.2)))]) [0, 1, 2, 3, 4] rfl) (hD.sub (ws' := [(jh, .inr (1, [.ref jt, .ref jk, .ref jv, .ref jr, .int (nI ((j + 1) + 3))])), (jt, .inr (0, [.long ((flL (fl3 (sd, K, V, R)) (j + 1)).1)])), (jk, .inl (ck, 43, .inl ((flL (fl3 (sd, K, V, R)) (j + 1)).2.1))), (jv, .inl (cv, 43, .inl ((flL (fl3 (sd, K, V, R)) (j + 1)).2.2.1))), (jr, .inl (cr, 43, .inl ((flL (fl3 (sd, K, V, R)) (j + 1)).2.2.2)))]) [0, 1, 2, 3, 4] (by decide) rfl) hS ls (lv_sub (l' := [(0, .ref jh), (1, .long sd), (3, .int (nI z)), (4, .int (nI (j + 1)))]) hl [1, 2, 3, 0] rfl)
  exact lp_31 ((z - 0) + 1) 0 (by omega) (by first | assumption | omega) _ _ (hP.sub (ws' := [(jh, .inr (1, [.ref jt, .ref jk, .ref jv, .ref jr, .int (nI (0 + 3))])), (jt, .inr (0, [.long ((flL (fl3 (sd, K, V, R)) 0).1)])), (jk, .inl (ck, 43, .inl ((flL (fl3 (sd, K, V, R)) 0).2.1))), (jv, .inl (cv, 43, .inl ((flL (fl3 (sd, K, V, R)) 0).2.2.1))), (jr, .inl (cr, 43, .inl ((flL (fl3 (sd, K, V, R)) 0).2.2.2)))]) [0, 1, 2, 3, 4] rfl) (hD.sub (ws' := [(jh, .inr (1, [.ref jt, .ref jk, .ref jv, .ref jr, .int (nI (0 + 3))])), (jt, .inr (0, [.long ((flL (fl3 (sd, K, V, R)) 0).1)])), (jk, .inl (ck, 43, .inl ((flL (fl3 (sd, K, V, R)) 0).2.1))), (jv, .inl (cv, 43, .inl ((flL (fl3 (sd, K, V, R)) 0).2.2.1))), (jr, .inl (cr, 43, .inl ((flL (fl3 (sd, K, V, R)) 0).2.2.2)))]) [0, 1, 2, 3, 4] (by decide) rfl) hS ls (lv_sub (l' := [(0, .ref jh), (1, .long sd), (3, .int (nI z)), (4, .int (nI 0))]) hl [1, 2, 3, 0] rfl)
