theorem NWl_in : ∀ w ∈ NWl, w ∈ lw_tbl := by decide +kernel
theorem tx_of {args : Array Value} {s : State} (hts : ∀ w ∈ lw_tbl, w.before args s = true) (hgv : (Jvm.Cond.and given_1 narrow_1).before args s = true) : ∃ sa : Nat → Nat, TX sa s := by
  have hs := flat_of_before _ hgv
  obtain ⟨a43, -, -, -, e43, -⟩ := Cond.exactly_spec (args := args) (first := s) (o := none) (s := s) (idx := []) (t := .string "PortDrawer" 43) (cls := "java/lang/String") (hs (.exactly (.string "PortDrawer" 43) "java/lang/String") (by decide +kernel))
  obtain ⟨a71, -, -, -, e71, -⟩ := Cond.exactly_spec (args := args) (first := s) (o := none) (s := s) (idx := []) (t := .string "PortDrawer" 71) (cls := "java/lang/String") (hs (.exactly (.string "PortDrawer" 71) "java/lang/String") (by decide +kernel))
  obtain ⟨a92, -, -, -, e92, -⟩ := Cond.exactly_spec (args := args) (first := s) (o := none) (s := s) (idx := []) (t := .string "PortDrawer" 92) (cls := "java/lang/String") (hs (.exactly (.string "PortDrawer" 92) "java/lang/String") (by decide +kernel))
  obtain ⟨a97, -, -, -, e97, -⟩ := Cond.exactly_spec (args := args) (first := s) (o := none) (s := s) (idx := []) (t := .string "PortDrawer" 97) (cls := "java/lang/String") (hs (.exactly (.string "PortDrawer" 97) "java/lang/String") (by decide +kernel))
  obtain ⟨a123, -, -, -, e123, -⟩ := Cond.exactly_spec (args := args) (first := s) (o := none) (s := s) (idx := []) (t := .string "PortDrawer" 123) (cls := "java/lang/String") (hs (.exactly (.string "PortDrawer" 123) "java/lang/String") (by decide +kernel))
  refine ⟨fun k => if k = 43 then a43 else if k = 71 then a71 else if k = 92 then a92 else if k = 97 then a97 else if k = 123 then a123 else 0, ?_⟩
  intro q hq
  simp only [txl, List.mem_cons, List.not_mem_nil, or_false] at hq
  rcases hq with rfl | rfl | rfl | rfl | rfl
  · exact vk_R.of (A := args) (hts (.stringRef "PortDrawer" 43 "the size is not 0 .. 40") (List.mem_append_right _ (List.mem_of_getElem? (i := 200) rfl))) e43
  · exact vk_R.of (A := args) (hts (.stringRef "PortDrawer" 71 "no such part") (List.mem_append_right _ (List.mem_of_getElem? (i := 294) rfl))) e71
  · exact vk_R.of (A := args) (hts (.stringRef "PortDrawer" 92 "no such what") (List.mem_append_right _ (List.mem_of_getElem? (i := 301) rfl))) e92
  · exact vk_R.of (A := args) (hts (.stringRef "PortDrawer" 97 "no such act") (List.mem_append_right _ (List.mem_of_getElem? (i := 310) rfl))) e97
  · exact vk_R.of (A := args) (hts (.stringRef "PortDrawer" 123 "no such part is left") (List.mem_append_right _ (List.mem_of_getElem? (i := 318) rfl))) e123
set_option maxHeartbeats 8000000 in
set_option maxRecDepth 100000 in
/-- THE LAW, from its entry -/
theorem whole_start {p : Program} {e : Env} {s : State} {m : MethodId} {below : List Frame} {meth : Method} {c : Code} (l : Launch) (hl9 : l.stackTraces = false) {b L : Nat} {xs : Nat → Int32} (hL : L ≤ 2049) (C0 : lw_At p s m meth c b L xs) : W p l e room_1 s m #[Value.ref b] below meth c s.heap [] 0 0 (lw_Z below #[Value.ref b] s) (entryFrame m ([Value.ref b] : List Value).toArray 7) := by
  obtain ⟨hx, hb, hr, hml, hown, hts0, hX, hbl, hlocks, hgv⟩ := id C0
  have hA : ∀ q : Nat, s.heap.size ≤ q → (fun q : Nat => s.heap.size ≤ q) q := fun _ h => h
  have hbA : ¬ (fun q : Nat => s.heap.size ≤ q) b := Nat.not_le.mpr hbl
  have hts : ∀ w ∈ (Jvm.Cond.initialized "PortDrawerLaw" :: tblG), w.before #[Value.ref b] s = true := fun w h => (List.mem_cons.mp h).elim (fun e => e ▸ hts0 _ (tblG_in m_0)) (fun h => hts0 w (tblG_in h))
  have hN : NW s := fun w hw => va_Nw.of (NWl_t w hw) (hts0 w (NWl_in w hw))
  obtain ⟨sa, hT⟩ := tx_of hts0 hgv
  have hs9 := flat_of_before _ hgv
  have hz_U : vx_Zq Bundle.tN "UNASSIGNED_STACK" Bundle.steD (fun q : Nat => s.heap.size ≤ q) s s.heap := vx_Zqof (args := #[Value.ref b]) (hts0 (.laysStatic Bundle.tN "UNASSIGNED_STACK" Bundle.steD) (by decide +kernel)) (hts0 (.initialized Bundle.tN) (by decide +kernel)) (hs9 (.isRef (.static Bundle.tN "UNASSIGNED_STACK" Bundle.steD)) (by decide +kernel)) (fun a h => Nat.not_le.mpr h)
  have hz_S : vx_Zq Bundle.tN "SUPPRESSED_SENTINEL" Bundle.listD (fun q : Nat => s.heap.size ≤ q) s s.heap := vx_Zqof (args := #[Value.ref b]) (hts0 (.laysStatic Bundle.tN "SUPPRESSED_SENTINEL" Bundle.listD) (by decide +kernel)) (hts0 (.initialized Bundle.tN) (by decide +kernel)) (hs9 (.isRef (.static Bundle.tN "SUPPRESSED_SENTINEL" Bundle.listD)) (by decide +kernel)) (fun a h => Nat.not_le.mpr h)
  have hZ : zqU (fun q : Nat => s.heap.size ≤ q) s s.heap := ⟨hz_U, hz_S⟩
  obtain ⟨k0, iS0, hKn0⟩ := u_known (C := R_T) (T := F_T) (N := 1) (n := 1) hts (lay_T _) (hts _ (List.mem_cons_of_mem _ m_26))
  obtain ⟨k1, iS1, hKn1⟩ := u_known (C := R_H) (T := F_H) (N := 5) (n := 5) hts (lay_H _) (hts _ (List.mem_cons_of_mem _ m_20))
  obtain ⟨k2, iS2, hKn2⟩ := u_known (C := R_D) (T := F_D) (N := 7) (n := 7) hts (lay_D _) (hts _ (List.mem_cons_of_mem _ m_12))
  obtain ⟨k3, iS3, hKn3⟩ := u_known (C := R_M) (T := F_M) (N := 10) (n := 10) hts (lay_M _) (hts _ (List.mem_cons_of_mem _ m_331))
  obtain ⟨dC, dI, hKc⟩ : ∃ (dC : Nat → ClassId) (dI : Nat → Nat → Nat), ∀ (k : Nat) (q : vw_C), classes[k]? = some q → u_Kn s q.1 q.2.1 q.2.2 (dC k) (dI k) := by
    refine ⟨fun k => if k = 0 then k0 else if k = 1 then k1 else if k = 2 then k2 else k3, fun k => if k = 0 then iS0 else if k = 1 then iS1 else if k = 2 then iS2 else iS3, ?_⟩
    intro k q hq
    match k, hq with
    | 0, hq => cases hq; exact hKn0
    | 1, hq => cases hq; exact hKn1
    | 2, hq => cases hq; exact hKn2
    | 3, hq => cases hq; exact hKn3
    | k + 4, hq => simp [classes] at hq
  have hS : va_S (fun q : Nat => s.heap.size ≤ q) s.heap s.heap [] := va_S.rf
  have hK : va_K (dC, dI) classes [] s := ⟨hKc, fun k q h => by simp at h⟩
  have hP : va_P (dC, dI) classes [] s.heap := fun k q h => by simp at h
  have hD : va_D (fun q : Nat => s.heap.size ≤ q) [] := ⟨fun i j p q h => by simp at h, fun k q h => by simp at h⟩
  have hl := lv_entry ([.ref b]) (n := 7) (Nat.le_of_ble_eq_true rfl)
  rw [lg_entry_eq]
  generalize (lg_sl ([.ref b]) ++ List.replicate (7 - (lg_sl ([.ref b])).length) Slot.unset).toArray = ls at hl ⊢
  have hl : lv_has ls 7 [(0, .ref b)] := hl
  refine va_new (ci := 2) (fs := [.long 0, .null, .null, .null, .null, .null, .long 0]) (C := R_D) (T := F_D) (N := 7) hx hb hts (lay_D _) ft_D tok_D hown (hts _ (List.mem_cons_of_mem _ m_11)) (hts _ (List.mem_cons_of_mem _ m_12)) (hts _ (List.mem_cons_of_mem _ m_1)) hK hP hD hS hA rfl (fun j hj => by rcases (show j = 0 ∨ j = 1 ∨ j = 2 ∨ j = 3 ∨ j = 4 ∨ j = 5 ∨ j = 6 by omega) with rfl | rfl | rfl | rfl | rfl | rfl | rfl <;> rfl) (Nat.le_of_ble_eq_true rfl) (Nat.le_of_ble_eq_true rfl) d_L_law_0 (fun q_1 H hP hD hS => ?_)
  have hP : va_P (dC, dI) classes [(q_1, .inr (2, [.long 0, .null, .null, .null, .null, .null, .long 0]))] H := hP
  have hD : va_D (fun q : Nat => s.heap.size ≤ q) [(q_1, .inr (2, [.long 0, .null, .null, .null, .null, .null, .long 0]))] := hD
  refine W.cs (cells' := 1) (slots' := 7) rfl rfl ?_
  refine lv_dup hx hb d_L_law_3 rfl ?_
  refine lv_aload_n hx hb d_L_law_4 rfl (lv_at hl 0 rfl) ?_
  refine lv_iconst (v := nI 0) hx hb d_L_law_5 (by decide +kernel) ?_
  refine vp_callSi (W.runS (As := [.ref b, .int (nI 0)]) (rest := [.ref q_1, .ref q_1]) ⟨hx, hb, hml, hown, hts⟩ (c_L_cell l b L xs hL) (va_cwS 2 hts (g_S big_w m_146 m_147 m_0 m_148) rfl rfl rfl (by decide +kernel) ⟨Nat.le_of_ble_eq_true rfl, Nat.le_of_ble_eq_true rfl⟩) (cx_S hX hbl hbA hS) rfl rfl hl.1 rfl (lv_room (Nat.le_of_ble_eq_true rfl)) d_L_law_6 ⟨Nat.le_of_ble_eq_true rfl, Nat.le_of_ble_eq_true rfl⟩) (fun r_c er_c => ?_)
  have er_c := er_c.symm
  subst er_c
  refine lv_i2l hx hb d_L_law_9 rfl ?_
  refine lv_topl (fun w_2 ew_2 => ?_)
  have ew_2 : ((cel L xs).toInt64) = w_2 := (ew_2.trans (rfl)).symm
  subst ew_2
  have hPc := hP.sub (ws' := [(q_1, .inr (2, [.long 0, .null, .null, .null, .null, .null, .long 0]))]) [0] rfl
  have hKc := hK.sub (tys' := []) [] rfl
  have hDc := hD.sub (ws' := [(q_1, .inr (2, [.long 0, .null, .null, .null, .null, .null, .long 0]))]) [0] (by decide) rfl
  have hFc := va_free (wc := [(q_1, .inr (2, [.long 0, .null, .null, .null, .null, .null, .long 0]))]) hD hS hA [0] rfl
  refine va_callv (va_runI (As := [.long ((cel L xs).toInt64)]) (rest := [.ref q_1]) ⟨hx, hb, hml, hown, hts⟩ (c_D_init l dC dI q_1 ((cel L xs).toInt64) _) (cwI 1 hts (g_c big_w m_15) rfl rfl rfl (hts _ (List.mem_cons_of_mem _ m_1)) (hts _ (List.mem_cons_of_mem _ m_13)) (hts _ (List.mem_cons_of_mem _ m_14)) rfl (by decide +kernel) ⟨Nat.le_of_ble_eq_true rfl, Nat.le_of_ble_eq_true rfl⟩) (wr_S hPc hKc hDc hN) rfl rfl hl.1 rfl (lv_room (Nat.le_of_ble_eq_true rfl)) d_L_law_10 ⟨Nat.le_of_ble_eq_true rfl, Nat.le_of_ble_eq_true rfl⟩) hS (fun q _ h => hFc q h) hFc (fun u t H1 locs ht hvm hw hB hz1 hk1 hS => ?_)
  obtain ⟨jh_4, jt_5, jk_6, jv_7, jr_8, jh2_9, jt2_10, jk2_11, jv2_12, jr2_13, jg_14, jb_15, jy_16, ck_17, cv_18, cr_19, ck2_20, cv2_21, cr2_22, cg_23, cb_24, cy_25⟩ := u
  obtain ⟨hP1, hK1, hD1⟩ := hB
  rw [ht] at hP1
  obtain ⟨hP, hD⟩ := va_join (wr := []) (w1 := [(q_1, .inr (2, [.long ((cel L xs).toInt64), .ref jh_4, .ref jh2_9, .ref jg_14, .ref jb_15, .ref jy_16, .long 0])), (jh_4, .inr (1, [.ref jt_5, .ref jk_6, .ref jv_7, .ref jr_8, .int (nI 0)])), (jt_5, .inr (0, [.long 0])), (jk_6, .inl (ck_17, 43, .inl (fun _ => 0))), (jv_7, .inl (cv_18, 43, .inl (fun _ => 0))), (jr_8, .inl (cr_19, 43, .inl (fun _ => 0))), (jh2_9, .inr (1, [.ref jt2_10, .ref jk2_11, .ref jv2_12, .ref jr2_13, .int (nI 0)])), (jt2_10, .inr (0, [.long 0])), (jk2_11, .inl (ck2_20, 43, .inl (fun _ => 0))), (jv2_12, .inl (cv2_21, 43, .inl (fun _ => 0))), (jr2_13, .inl (cr2_22, 43, .inl (fun _ => 0))), (jg_14, .inl (cg_23, 43, .inr (.inl (fun _ => 0)))), (jb_15, .inl (cb_24, 8, .inr (.inl (fun _ => 0)))), (jy_16, .inl (cy_25, 256, .inl (bF (fun _ => false))))]) hP hD [0] [] rfl rfl (by decide) (by decide) hk1 hFc hP1 hD1
  generalize H1 = H at hP hS ⊢
  have hP : va_P (dC, dI) classes [(q_1, .inr (2, [.long ((cel L xs).toInt64), .ref jh_4, .ref jh2_9, .ref jg_14, .ref jb_15, .ref jy_16, .long 0])), (jh_4, .inr (1, [.ref jt_5, .ref jk_6, .ref jv_7, .ref jr_8, .int (nI 0)])), (jt_5, .inr (0, [.long 0])), (jk_6, .inl (ck_17, 43, .inl (fun _ => 0))), (jv_7, .inl (cv_18, 43, .inl (fun _ => 0))), (jr_8, .inl (cr_19, 43, .inl (fun _ => 0))), (jh2_9, .inr (1, [.ref jt2_10, .ref jk2_11, .ref jv2_12, .ref jr2_13, .int (nI 0)])), (jt2_10, .inr (0, [.long 0])), (jk2_11, .inl (ck2_20, 43, .inl (fun _ => 0))), (jv2_12, .inl (cv2_21, 43, .inl (fun _ => 0))), (jr2_13, .inl (cr2_22, 43, .inl (fun _ => 0))), (jg_14, .inl (cg_23, 43, .inr (.inl (fun _ => 0)))), (jb_15, .inl (cb_24, 8, .inr (.inl (fun _ => 0)))), (jy_16, .inl (cy_25, 256, .inl (bF (fun _ => false))))] H := hP
  have hD : va_D (fun q : Nat => s.heap.size ≤ q) [(q_1, .inr (2, [.long ((cel L xs).toInt64), .ref jh_4, .ref jh2_9, .ref jg_14, .ref jb_15, .ref jy_16, .long 0])), (jh_4, .inr (1, [.ref jt_5, .ref jk_6, .ref jv_7, .ref jr_8, .int (nI 0)])), (jt_5, .inr (0, [.long 0])), (jk_6, .inl (ck_17, 43, .inl (fun _ => 0))), (jv_7, .inl (cv_18, 43, .inl (fun _ => 0))), (jr_8, .inl (cr_19, 43, .inl (fun _ => 0))), (jh2_9, .inr (1, [.ref jt2_10, .ref jk2_11, .ref jv2_12, .ref jr2_13, .int (nI 0)])), (jt2_10, .inr (0, [.long 0])), (jk2_11, .inl (ck2_20, 43, .inl (fun _ => 0))), (jv2_12, .inl (cv2_21, 43, .inl (fun _ => 0))), (jr2_13, .inl (cr2_22, 43, .inl (fun _ => 0))), (jg_14, .inl (cg_23, 43, .inr (.inl (fun _ => 0)))), (jb_15, .inl (cb_24, 8, .inr (.inl (fun _ => 0)))), (jy_16, .inl (cy_25, 256, .inl (bF (fun _ => false))))] := hD
  have hK1 := va_K.moved hvm.symm hK1
  have hK : va_K (dC, dI) classes [(ck_17, .int), (cv_18, .int), (cr_19, .int), (ck2_20, .int), (cv2_21, .int), (cr2_22, .int), (cg_23, .long), (cb_24, .long), (cy_25, .boolean)] s := hK.app (hK1.sub (tys' := [(ck_17, .int), (cv_18, .int), (cr_19, .int), (ck2_20, .int), (cv2_21, .int), (cr2_22, .int), (cg_23, .long), (cb_24, .long), (cy_25, .boolean)]) [0, 1, 2, 3, 4, 5, 6, 7, 8] rfl)
  refine W.cs (cells' := 14) (slots' := 584) rfl rfl ?_
  refine lv_astore_n (lv' := [(1, .ref q_1), (0, .ref b)]) hx hb d_L_law_13 rfl hl (by decide) rfl (fun ls hl => ?_)
  refine va_new (ci := 3) (fs := [.int 0, .long 0, .long 0, .int 0, .null, .null, .null, .null, .null, .null]) (C := R_M) (T := F_M) (N := 10) hx hb hts (lay_M _) ft_M tok_M hown (hts _ (List.mem_cons_of_mem _ m_330)) (hts _ (List.mem_cons_of_mem _ m_331)) (hts _ (List.mem_cons_of_mem _ m_4)) hK hP hD hS hA rfl (fun j hj => by rcases (show j = 0 ∨ j = 1 ∨ j = 2 ∨ j = 3 ∨ j = 4 ∨ j = 5 ∨ j = 6 ∨ j = 7 ∨ j = 8 ∨ j = 9 by omega) with rfl | rfl | rfl | rfl | rfl | rfl | rfl | rfl | rfl | rfl <;> rfl) (Nat.le_of_ble_eq_true rfl) (Nat.le_of_ble_eq_true rfl) d_L_law_14 (fun q_26 H hP hD hS => ?_)
  have hP : va_P (dC, dI) classes [(q_1, .inr (2, [.long ((cel L xs).toInt64), .ref jh_4, .ref jh2_9, .ref jg_14, .ref jb_15, .ref jy_16, .long 0])), (jh_4, .inr (1, [.ref jt_5, .ref jk_6, .ref jv_7, .ref jr_8, .int (nI 0)])), (jt_5, .inr (0, [.long 0])), (jk_6, .inl (ck_17, 43, .inl (fun _ => 0))), (jv_7, .inl (cv_18, 43, .inl (fun _ => 0))), (jr_8, .inl (cr_19, 43, .inl (fun _ => 0))), (jh2_9, .inr (1, [.ref jt2_10, .ref jk2_11, .ref jv2_12, .ref jr2_13, .int (nI 0)])), (jt2_10, .inr (0, [.long 0])), (jk2_11, .inl (ck2_20, 43, .inl (fun _ => 0))), (jv2_12, .inl (cv2_21, 43, .inl (fun _ => 0))), (jr2_13, .inl (cr2_22, 43, .inl (fun _ => 0))), (jg_14, .inl (cg_23, 43, .inr (.inl (fun _ => 0)))), (jb_15, .inl (cb_24, 8, .inr (.inl (fun _ => 0)))), (jy_16, .inl (cy_25, 256, .inl (bF (fun _ => false)))), (q_26, .inr (3, [.int 0, .long 0, .long 0, .int 0, .null, .null, .null, .null, .null, .null]))] H := hP
  have hD : va_D (fun q : Nat => s.heap.size ≤ q) [(q_1, .inr (2, [.long ((cel L xs).toInt64), .ref jh_4, .ref jh2_9, .ref jg_14, .ref jb_15, .ref jy_16, .long 0])), (jh_4, .inr (1, [.ref jt_5, .ref jk_6, .ref jv_7, .ref jr_8, .int (nI 0)])), (jt_5, .inr (0, [.long 0])), (jk_6, .inl (ck_17, 43, .inl (fun _ => 0))), (jv_7, .inl (cv_18, 43, .inl (fun _ => 0))), (jr_8, .inl (cr_19, 43, .inl (fun _ => 0))), (jh2_9, .inr (1, [.ref jt2_10, .ref jk2_11, .ref jv2_12, .ref jr2_13, .int (nI 0)])), (jt2_10, .inr (0, [.long 0])), (jk2_11, .inl (ck2_20, 43, .inl (fun _ => 0))), (jv2_12, .inl (cv2_21, 43, .inl (fun _ => 0))), (jr2_13, .inl (cr2_22, 43, .inl (fun _ => 0))), (jg_14, .inl (cg_23, 43, .inr (.inl (fun _ => 0)))), (jb_15, .inl (cb_24, 8, .inr (.inl (fun _ => 0)))), (jy_16, .inl (cy_25, 256, .inl (bF (fun _ => false)))), (q_26, .inr (3, [.int 0, .long 0, .long 0, .int 0, .null, .null, .null, .null, .null, .null]))] := hD
  refine W.cs (cells' := 15) (slots' := 594) rfl rfl ?_
  refine lv_dup hx hb d_L_law_17 rfl ?_
  refine lv_aload_n hx hb d_L_law_18 rfl (lv_at hl 1 rfl) ?_
  refine lv_iconst (v := nI 0) hx hb d_L_law_19 (by decide +kernel) ?_
  refine vp_callSi (W.runS (As := [.ref b, .int (nI 0)]) (rest := [.ref q_26, .ref q_26]) ⟨hx, hb, hml, hown, hts⟩ (c_L_cell l b L xs hL) (va_cwS 2 hts (g_S big_w m_146 m_147 m_0 m_148) rfl rfl rfl (by decide +kernel) ⟨Nat.le_of_ble_eq_true rfl, Nat.le_of_ble_eq_true rfl⟩) (cx_S hX hbl hbA hS) rfl rfl hl.1 rfl (lv_room (Nat.le_of_ble_eq_true rfl)) d_L_law_20 ⟨Nat.le_of_ble_eq_true rfl, Nat.le_of_ble_eq_true rfl⟩) (fun r_c er_c => ?_)
  have er_c := er_c.symm
  subst er_c
  refine lv_i2l hx hb d_L_law_23 rfl ?_
  refine lv_topl (fun w_27 ew_27 => ?_)
  have ew_27 : ((cel L xs).toInt64) = w_27 := (ew_27.trans (rfl)).symm
  subst ew_27
  have hPc := hP.sub (ws' := [(q_26, .inr (3, [.int 0, .long 0, .long 0, .int 0, .null, .null, .null, .null, .null, .null]))]) [14] rfl
  have hKc := hK.sub (tys' := []) [] rfl
  have hDc := hD.sub (ws' := [(q_26, .inr (3, [.int 0, .long 0, .long 0, .int 0, .null, .null, .null, .null, .null, .null]))]) [14] (by decide) rfl
  have hFc := va_free (wc := [(q_26, .inr (3, [.int 0, .long 0, .long 0, .int 0, .null, .null, .null, .null, .null, .null]))]) hD hS hA [14] rfl
  refine va_callv (va_runI (As := [.long ((cel L xs).toInt64)]) (rest := [.ref q_26]) ⟨hx, hb, hml, hown, hts⟩ (c_M_init l dC dI q_26 ((cel L xs).toInt64) _) (cwI 1 hts (g_c big_w m_334) rfl rfl rfl (hts _ (List.mem_cons_of_mem _ m_4)) (hts _ (List.mem_cons_of_mem _ m_332)) (hts _ (List.mem_cons_of_mem _ m_333)) rfl (by decide +kernel) ⟨Nat.le_of_ble_eq_true rfl, Nat.le_of_ble_eq_true rfl⟩) (wr_S hPc hKc hDc hN) rfl rfl hl.1 rfl (lv_room (Nat.le_of_ble_eq_true rfl)) d_L_law_24 ⟨Nat.le_of_ble_eq_true rfl, Nat.le_of_ble_eq_true rfl⟩) hS (fun q _ h => hFc q h) hFc (fun u t H1 locs ht hvm hw hB hz1 hk1 hS => ?_)
  obtain ⟨ik_29, iv_30, ir_31, il_32, iy_33, ig_34, dk_35, dv_36, dr_37, dl_38, dy_39, dg_40⟩ := u
  obtain ⟨hP1, hK1, hD1⟩ := hB
  rw [ht] at hP1
  obtain ⟨hP, hD⟩ := va_join (wr := [(q_1, .inr (2, [.long ((cel L xs).toInt64), .ref jh_4, .ref jh2_9, .ref jg_14, .ref jb_15, .ref jy_16, .long 0])), (jh_4, .inr (1, [.ref jt_5, .ref jk_6, .ref jv_7, .ref jr_8, .int (nI 0)])), (jt_5, .inr (0, [.long 0])), (jk_6, .inl (ck_17, 43, .inl (fun _ => 0))), (jv_7, .inl (cv_18, 43, .inl (fun _ => 0))), (jr_8, .inl (cr_19, 43, .inl (fun _ => 0))), (jh2_9, .inr (1, [.ref jt2_10, .ref jk2_11, .ref jv2_12, .ref jr2_13, .int (nI 0)])), (jt2_10, .inr (0, [.long 0])), (jk2_11, .inl (ck2_20, 43, .inl (fun _ => 0))), (jv2_12, .inl (cv2_21, 43, .inl (fun _ => 0))), (jr2_13, .inl (cr2_22, 43, .inl (fun _ => 0))), (jg_14, .inl (cg_23, 43, .inr (.inl (fun _ => 0)))), (jb_15, .inl (cb_24, 8, .inr (.inl (fun _ => 0)))), (jy_16, .inl (cy_25, 256, .inl (bF (fun _ => false))))]) (w1 := [(q_26, .inr (3, [.int 0, .long ((cel L xs).toInt64), .long 0, .int (nI 0), .ref ik_29, .ref iv_30, .ref ir_31, .ref il_32, .ref iy_33, .ref ig_34])), (ik_29, .inl (dk_35, 86, .inl (fun _ => 0))), (iv_30, .inl (dv_36, 86, .inl (fun _ => 0))), (ir_31, .inl (dr_37, 86, .inl (fun _ => 0))), (il_32, .inl (dl_38, 43, .inl (bF fF))), (iy_33, .inl (dy_39, 256, .inl (bF fF))), (ig_34, .inl (dg_40, 43, .inl (bF fF)))]) hP hD [14] [0, 1, 2, 3, 4, 5, 6, 7, 8, 9, 10, 11, 12, 13] rfl rfl (by decide) (by decide) hk1 hFc hP1 hD1
  generalize H1 = H at hP hS ⊢
  have hP : va_P (dC, dI) classes [(q_1, .inr (2, [.long ((cel L xs).toInt64), .ref jh_4, .ref jh2_9, .ref jg_14, .ref jb_15, .ref jy_16, .long 0])), (jh_4, .inr (1, [.ref jt_5, .ref jk_6, .ref jv_7, .ref jr_8, .int (nI 0)])), (jt_5, .inr (0, [.long 0])), (jk_6, .inl (ck_17, 43, .inl (fun _ => 0))), (jv_7, .inl (cv_18, 43, .inl (fun _ => 0))), (jr_8, .inl (cr_19, 43, .inl (fun _ => 0))), (jh2_9, .inr (1, [.ref jt2_10, .ref jk2_11, .ref jv2_12, .ref jr2_13, .int (nI 0)])), (jt2_10, .inr (0, [.long 0])), (jk2_11, .inl (ck2_20, 43, .inl (fun _ => 0))), (jv2_12, .inl (cv2_21, 43, .inl (fun _ => 0))), (jr2_13, .inl (cr2_22, 43, .inl (fun _ => 0))), (jg_14, .inl (cg_23, 43, .inr (.inl (fun _ => 0)))), (jb_15, .inl (cb_24, 8, .inr (.inl (fun _ => 0)))), (jy_16, .inl (cy_25, 256, .inl (bF (fun _ => false)))), (q_26, .inr (3, [.int 0, .long ((cel L xs).toInt64), .long 0, .int (nI 0), .ref ik_29, .ref iv_30, .ref ir_31, .ref il_32, .ref iy_33, .ref ig_34])), (ik_29, .inl (dk_35, 86, .inl (fun _ => 0))), (iv_30, .inl (dv_36, 86, .inl (fun _ => 0))), (ir_31, .inl (dr_37, 86, .inl (fun _ => 0))), (il_32, .inl (dl_38, 43, .inl (bF fF))), (iy_33, .inl (dy_39, 256, .inl (bF fF))), (ig_34, .inl (dg_40, 43, .inl (bF fF)))] H := hP
  have hD : va_D (fun q : Nat => s.heap.size ≤ q) [(q_1, .inr (2, [.long ((cel L xs).toInt64), .ref jh_4, .ref jh2_9, .ref jg_14, .ref jb_15, .ref jy_16, .long 0])), (jh_4, .inr (1, [.ref jt_5, .ref jk_6, .ref jv_7, .ref jr_8, .int (nI 0)])), (jt_5, .inr (0, [.long 0])), (jk_6, .inl (ck_17, 43, .inl (fun _ => 0))), (jv_7, .inl (cv_18, 43, .inl (fun _ => 0))), (jr_8, .inl (cr_19, 43, .inl (fun _ => 0))), (jh2_9, .inr (1, [.ref jt2_10, .ref jk2_11, .ref jv2_12, .ref jr2_13, .int (nI 0)])), (jt2_10, .inr (0, [.long 0])), (jk2_11, .inl (ck2_20, 43, .inl (fun _ => 0))), (jv2_12, .inl (cv2_21, 43, .inl (fun _ => 0))), (jr2_13, .inl (cr2_22, 43, .inl (fun _ => 0))), (jg_14, .inl (cg_23, 43, .inr (.inl (fun _ => 0)))), (jb_15, .inl (cb_24, 8, .inr (.inl (fun _ => 0)))), (jy_16, .inl (cy_25, 256, .inl (bF (fun _ => false)))), (q_26, .inr (3, [.int 0, .long ((cel L xs).toInt64), .long 0, .int (nI 0), .ref ik_29, .ref iv_30, .ref ir_31, .ref il_32, .ref iy_33, .ref ig_34])), (ik_29, .inl (dk_35, 86, .inl (fun _ => 0))), (iv_30, .inl (dv_36, 86, .inl (fun _ => 0))), (ir_31, .inl (dr_37, 86, .inl (fun _ => 0))), (il_32, .inl (dl_38, 43, .inl (bF fF))), (iy_33, .inl (dy_39, 256, .inl (bF fF))), (ig_34, .inl (dg_40, 43, .inl (bF fF)))] := hD
  have hK1 := va_K.moved hvm.symm hK1
  have hK : va_K (dC, dI) classes [(ck_17, .int), (cv_18, .int), (cr_19, .int), (ck2_20, .int), (cv2_21, .int), (cr2_22, .int), (cg_23, .long), (cb_24, .long), (cy_25, .boolean), (dk_35, .int), (dv_36, .int), (dr_37, .int), (dl_38, .boolean), (dy_39, .boolean), (dg_40, .boolean)] s := hK.app (hK1.sub (tys' := [(dk_35, .int), (dv_36, .int), (dr_37, .int), (dl_38, .boolean), (dy_39, .boolean), (dg_40, .boolean)]) [0, 1, 2, 3, 4, 5] rfl)
  refine W.cs (cells' := 21) (slots' := 1194) rfl rfl ?_
  refine lv_astore_n (lv' := [(2, .ref q_26), (1, .ref q_1), (0, .ref b)]) hx hb d_L_law_27 rfl hl (by decide) rfl (fun ls hl => ?_)
  refine lv_iconst (v := nI 1) hx hb d_L_law_28 (by decide +kernel) ?_
  refine va_newa (atype := .long) (ty := .long) (a0 := (1, .inr (.inl (fun _ => 0)))) hx hb (hts _ (List.mem_cons_of_mem _ m_78)) rfl hK hP hD hS hA (fun _ => rfl) (nI_pos (by omega)) (nI_clamp (by omega)) (by decide) (Nat.le_of_ble_eq_true rfl) (Nat.le_of_ble_eq_true rfl) d_L_law_29 (fun q_41 cA_42 H hK hP hD hS => ?_)
  have hK : va_K (dC, dI) classes [(ck_17, .int), (cv_18, .int), (cr_19, .int), (ck2_20, .int), (cv2_21, .int), (cr2_22, .int), (cg_23, .long), (cb_24, .long), (cy_25, .boolean), (dk_35, .int), (dv_36, .int), (dr_37, .int), (dl_38, .boolean), (dy_39, .boolean), (dg_40, .boolean), (cA_42, .long)] s := hK
  have hP : va_P (dC, dI) classes [(q_1, .inr (2, [.long ((cel L xs).toInt64), .ref jh_4, .ref jh2_9, .ref jg_14, .ref jb_15, .ref jy_16, .long 0])), (jh_4, .inr (1, [.ref jt_5, .ref jk_6, .ref jv_7, .ref jr_8, .int (nI 0)])), (jt_5, .inr (0, [.long 0])), (jk_6, .inl (ck_17, 43, .inl (fun _ => 0))), (jv_7, .inl (cv_18, 43, .inl (fun _ => 0))), (jr_8, .inl (cr_19, 43, .inl (fun _ => 0))), (jh2_9, .inr (1, [.ref jt2_10, .ref jk2_11, .ref jv2_12, .ref jr2_13, .int (nI 0)])), (jt2_10, .inr (0, [.long 0])), (jk2_11, .inl (ck2_20, 43, .inl (fun _ => 0))), (jv2_12, .inl (cv2_21, 43, .inl (fun _ => 0))), (jr2_13, .inl (cr2_22, 43, .inl (fun _ => 0))), (jg_14, .inl (cg_23, 43, .inr (.inl (fun _ => 0)))), (jb_15, .inl (cb_24, 8, .inr (.inl (fun _ => 0)))), (jy_16, .inl (cy_25, 256, .inl (bF (fun _ => false)))), (q_26, .inr (3, [.int 0, .long ((cel L xs).toInt64), .long 0, .int (nI 0), .ref ik_29, .ref iv_30, .ref ir_31, .ref il_32, .ref iy_33, .ref ig_34])), (ik_29, .inl (dk_35, 86, .inl (fun _ => 0))), (iv_30, .inl (dv_36, 86, .inl (fun _ => 0))), (ir_31, .inl (dr_37, 86, .inl (fun _ => 0))), (il_32, .inl (dl_38, 43, .inl (bF fF))), (iy_33, .inl (dy_39, 256, .inl (bF fF))), (ig_34, .inl (dg_40, 43, .inl (bF fF))), (q_41, .inl (cA_42, 1, .inr (.inl (fun _ => 0))))] H := hP
  have hD : va_D (fun q : Nat => s.heap.size ≤ q) [(q_1, .inr (2, [.long ((cel L xs).toInt64), .ref jh_4, .ref jh2_9, .ref jg_14, .ref jb_15, .ref jy_16, .long 0])), (jh_4, .inr (1, [.ref jt_5, .ref jk_6, .ref jv_7, .ref jr_8, .int (nI 0)])), (jt_5, .inr (0, [.long 0])), (jk_6, .inl (ck_17, 43, .inl (fun _ => 0))), (jv_7, .inl (cv_18, 43, .inl (fun _ => 0))), (jr_8, .inl (cr_19, 43, .inl (fun _ => 0))), (jh2_9, .inr (1, [.ref jt2_10, .ref jk2_11, .ref jv2_12, .ref jr2_13, .int (nI 0)])), (jt2_10, .inr (0, [.long 0])), (jk2_11, .inl (ck2_20, 43, .inl (fun _ => 0))), (jv2_12, .inl (cv2_21, 43, .inl (fun _ => 0))), (jr2_13, .inl (cr2_22, 43, .inl (fun _ => 0))), (jg_14, .inl (cg_23, 43, .inr (.inl (fun _ => 0)))), (jb_15, .inl (cb_24, 8, .inr (.inl (fun _ => 0)))), (jy_16, .inl (cy_25, 256, .inl (bF (fun _ => false)))), (q_26, .inr (3, [.int 0, .long ((cel L xs).toInt64), .long 0, .int (nI 0), .ref ik_29, .ref iv_30, .ref ir_31, .ref il_32, .ref iy_33, .ref ig_34])), (ik_29, .inl (dk_35, 86, .inl (fun _ => 0))), (iv_30, .inl (dv_36, 86, .inl (fun _ => 0))), (ir_31, .inl (dr_37, 86, .inl (fun _ => 0))), (il_32, .inl (dl_38, 43, .inl (bF fF))), (iy_33, .inl (dy_39, 256, .inl (bF fF))), (ig_34, .inl (dg_40, 43, .inl (bF fF))), (q_41, .inl (cA_42, 1, .inr (.inl (fun _ => 0))))] := hD
  refine W.cs (cells' := 22) (slots' := 1195) rfl rfl ?_
  refine lv_astore_n (lv' := [(3, .ref q_41), (2, .ref q_26), (1, .ref q_1), (0, .ref b)]) hx hb d_L_law_31 rfl hl (by decide) rfl (fun ls hl => ?_)
  refine lv_iconst (v := nI 1) hx hb d_L_law_32 (by decide +kernel) ?_
  refine lv_istore (lv' := [(4, .int (nI 1)), (3, .ref q_41), (2, .ref q_26), (1, .ref q_1), (0, .ref b)]) hx hb d_L_law_33 hl (by decide) rfl (fun ls hl => ?_)
  exact law_loop hl9 hL hx hb hr hml hown hts hX hbl hlocks hN hT hZ (hK.sub (tys' := [(ck_17, .int), (cv_18, .int), (cr_19, .int), (ck2_20, .int), (cv2_21, .int), (cr2_22, .int), (cg_23, .long), (cb_24, .long), (cy_25, .boolean), (dk_35, .int), (dv_36, .int), (dr_37, .int), (dl_38, .boolean), (dy_39, .boolean), (dg_40, .boolean), (cA_42, .long)]) [0, 1, 2, 3, 4, 5, 6, 7, 8, 9, 10, 11, 12, 13, 14, 15] rfl) (L + 1) 0 (by omega) (by omega) 0 0 0 (fun _ => 0) (fun _ => 0) (fun _ => 0) (fun _ => 0) (fun _ => 0) fF 0 0 (fun _ => 0) (fun _ => 0) (fun _ => 0) 0 0 (fun _ => 0) (fun _ => 0) (fun _ => 0) fF fF (fun _ => 0) INV_0 (by omega) _ _ (hP.sub (ws' := [(q_1, .inr (2, [.long ((cel L xs).toInt64), .ref jh_4, .ref jh2_9, .ref jg_14, .ref jb_15, .ref jy_16, .long 0])), (jh_4, .inr (1, [.ref jt_5, .ref jk_6, .ref jv_7, .ref jr_8, .int (nI 0)])), (jt_5, .inr (0, [.long 0])), (jk_6, .inl (ck_17, 43, .inl (fun _ => 0))), (jv_7, .inl (cv_18, 43, .inl (fun _ => 0))), (jr_8, .inl (cr_19, 43, .inl (fun _ => 0))), (jh2_9, .inr (1, [.ref jt2_10, .ref jk2_11, .ref jv2_12, .ref jr2_13, .int (nI 0)])), (jt2_10, .inr (0, [.long 0])), (jk2_11, .inl (ck2_20, 43, .inl (fun _ => 0))), (jv2_12, .inl (cv2_21, 43, .inl (fun _ => 0))), (jr2_13, .inl (cr2_22, 43, .inl (fun _ => 0))), (jg_14, .inl (cg_23, 43, .inr (.inl (fun _ => 0)))), (jb_15, .inl (cb_24, 8, .inr (.inl (fun _ => 0)))), (jy_16, .inl (cy_25, 256, .inl (bF fF))), (q_26, .inr (3, [.int 0, .long ((cel L xs).toInt64), .long 0, .int (nI 0), .ref ik_29, .ref iv_30, .ref ir_31, .ref il_32, .ref iy_33, .ref ig_34])), (ik_29, .inl (dk_35, 86, .inl (fun _ => 0))), (iv_30, .inl (dv_36, 86, .inl (fun _ => 0))), (ir_31, .inl (dr_37, 86, .inl (fun _ => 0))), (il_32, .inl (dl_38, 43, .inl (bF fF))), (iy_33, .inl (dy_39, 256, .inl (bF fF))), (ig_34, .inl (dg_40, 43, .inl (bF fF))), (q_41, .inl (cA_42, 1, .inr (.inl (fun _ => 0))))]) [0, 1, 2, 3, 4, 5, 6, 7, 8, 9, 10, 11, 12, 13, 14, 15, 16, 17, 18, 19, 20, 21] rfl) (hD.sub (ws' := [(q_1, .inr (2, [.long ((cel L xs).toInt64), .ref jh_4, .ref jh2_9, .ref jg_14, .ref jb_15, .ref jy_16, .long 0])), (jh_4, .inr (1, [.ref jt_5, .ref jk_6, .ref jv_7, .ref jr_8, .int (nI 0)])), (jt_5, .inr (0, [.long 0])), (jk_6, .inl (ck_17, 43, .inl (fun _ => 0))), (jv_7, .inl (cv_18, 43, .inl (fun _ => 0))), (jr_8, .inl (cr_19, 43, .inl (fun _ => 0))), (jh2_9, .inr (1, [.ref jt2_10, .ref jk2_11, .ref jv2_12, .ref jr2_13, .int (nI 0)])), (jt2_10, .inr (0, [.long 0])), (jk2_11, .inl (ck2_20, 43, .inl (fun _ => 0))), (jv2_12, .inl (cv2_21, 43, .inl (fun _ => 0))), (jr2_13, .inl (cr2_22, 43, .inl (fun _ => 0))), (jg_14, .inl (cg_23, 43, .inr (.inl (fun _ => 0)))), (jb_15, .inl (cb_24, 8, .inr (.inl (fun _ => 0)))), (jy_16, .inl (cy_25, 256, .inl (bF fF))), (q_26, .inr (3, [.int 0, .long ((cel L xs).toInt64), .long 0, .int (nI 0), .ref ik_29, .ref iv_30, .ref ir_31, .ref il_32, .ref iy_33, .ref ig_34])), (ik_29, .inl (dk_35, 86, .inl (fun _ => 0))), (iv_30, .inl (dv_36, 86, .inl (fun _ => 0))), (ir_31, .inl (dr_37, 86, .inl (fun _ => 0))), (il_32, .inl (dl_38, 43, .inl (bF fF))), (iy_33, .inl (dy_39, 256, .inl (bF fF))), (ig_34, .inl (dg_40, 43, .inl (bF fF))), (q_41, .inl (cA_42, 1, .inr (.inl (fun _ => 0))))]) [0, 1, 2, 3, 4, 5, 6, 7, 8, 9, 10, 11, 12, 13, 14, 15, 16, 17, 18, 19, 20, 21] (by decide) rfl) hS ls (lv_sub (l' := [(0, .ref b), (1, .ref q_1), (2, .ref q_26), (3, .ref q_41), (4, .int (nI (1 + 4 * 0)))]) hl [4, 3, 2, 1, 0] rfl)
set_option maxHeartbeats 4000000 in
theorem lw_walk (l : Launch) (hl9 : l.stackTraces = false) (b : Addr) (xs : List Int32) : MetFree l x (headSpec (Jvm.Cond.code x code maxLocals ret :: tables_1) room_1) (lw_P b xs) (fun _ _ _ _ _ => True) lw_Q := by
  refine MetFree.of_bodyS (code := code) (maxLocals := maxLocals) (ret := ret) (by decide) ?_ ?_
  · intro args s m h hn
    obtain ⟨meth, c, h1, h2, h3, h4, h5, h6, -, -⟩ := Cond.code_spec hn (atoms_spec (ws := Jvm.Cond.code x code maxLocals ret :: tables_1) h _ List.mem_cons_self)
    exact ⟨meth, c, h1, h2, h3, h4, h5, h6⟩
  · intro p e s m args below meth c s₁ B hml0 hP _
    obtain ⟨rfl, hx, hbd, hgv⟩ := hP
    obtain ⟨scr, harrAt, hlist, hof, hsmall⟩ := hx
    obtain ⟨hcb, hkn, -, -⟩ := State.arrayAt?_spec harrAt
    have hown : s.vm.findClass R_law = some m.cls := findClass_of_methodNamed B.named
    have hts0 : ∀ c ∈ (Jvm.Cond.code x code maxLocals ret :: tables_1), c.before #[Value.ref b] s = true := atoms_spec (ws := Jvm.Cond.code x code maxLocals ret :: tables_1) B.pre
    have hts : ∀ w ∈ lw_tbl, w.before #[Value.ref b] s = true := k2_hts_sels lw_privs (fun w hw => hts0 w (List.mem_cons_of_mem _ hw)) lw_privs_ok
    have hml : c.maxLocals = 7 := B.maxLocals_eq (hts0 _ List.mem_cons_self)
    have X₀ : Stand p l e room_1 s m #[Value.ref b] below meth c s₁ [] 0 0 := Stand.of_body B
    have hh0 : s₁.heap = s.heap := by rw [B.state]; rfl
    have hsz : scr.slots.size = xs.length := by rw [← Array.length_toList, hlist, List.length_map]
    have hval : ∀ j : Nat, j < xs.length → scr.slots[j]? = some (.int (xs.getD j 0)) := fun j hj => by
      rw [← Array.getElem?_toList, hlist]
      simp [hj]
    have hbl : b < s.heap.size := (Array.getElem?_eq_some_iff.mp hcb).1
    have hX : va_X b xs.length (fun j => xs.getD j 0) s s.heap := ⟨scr, hcb, hof, hkn, hsz, hval⟩
    have K : W p l e room_1 s m #[Value.ref b] below meth c s₁.heap [] 0 0 (lw_Z below #[Value.ref b] s) (entryFrame m ([Value.ref b] : List Value).toArray 7) := by
      rw [hh0]
      exact whole_start l hl9 hbd ⟨B.exec, B.bytes, B.returns, hml, hown, hts, hX, hbl, B.notSynchronized, hgv⟩
    obtain ⟨t, a1, o, b1, b2, b3⟩ := K s₁ rfl X₀
    exact ⟨t, o, a1, b1, b2, b3⟩
theorem lw_pre_spec {args : Array Value} {s : State} (h : (Jvm.Cond.and given_1 narrow_1).before args s = true) (hr : rest_1_c.before args s = true) : ∃ (b : Addr) (xs : List Int32), lw_P b xs args s := by
  have hs := flat_of_before _ h
  have hq := flat_of_before _ hr
  have hc : (Cond.count 1).before args s = true := hs _ (by decide +kernel)
  have harr : (Cond.arrayOf (.arg 0) .int).before args s = true := hs _ (by decide +kernel)
  have hle : (Cond.le (.length (.arg 0)) (.int 2049)).before args s = true := hs _ (by decide +kernel)
  have hlen : (Cond.isInt (.length (.arg 0))).before args s = true := hq _ (by decide +kernel)
  have hall : (Cond.all (.arg 0) (.isInt (.elem (.arg 0) (.index 0)))).before args s = true := hq _ (by decide +kernel)
  obtain ⟨b, xs, hb, hx⟩ := State.ints_of_pre rfl harr hlen hall
  have hsm : xs.length < 2 ^ 31 := hx.choose_spec.2.2.2
  have hev : (Term.length (.arg 0)).eval args s none [] s = some (.int xs.length.toInt32) := hx.length_eval hb
  have hv := Cond.le_ints hev (show (Term.int 2049).eval args s none [] s = some (.int 2049) from rfl)
  have hd : xs.length.toInt32 ≤ 2049 := by
    simpa [Cond.before, Cond.holds, hv] using hle
  have hN : xs.length ≤ 2049 := (Int32.ofNat_le_ofNat hsm (by decide)).mp (show Int32.ofNat xs.length ≤ Int32.ofNat 2049 from hd)
  exact ⟨b, xs, Cond.one_arg hc (show args[0]? = some (.ref b) from hb), hx, hN, h⟩
theorem lw_comes (l : Launch) (hl9 : l.stackTraces = false) : Comes l x (Jvm.Cond.code x code maxLocals ret :: tables_1) room_1 (fun tb e args s => Calls_1 tb e args s ∧ rest_1 tb e args s ∧ Pre_1 tb e args s)
    (fun _ _ args s o t => lw_Q args s o t) := by
  intro p e ha hc hk s m args below hf hfit hheap happ hpre
  obtain ⟨b, xs, hP⟩ := lw_pre_spec hpre.2.2 hpre.2.1
  obtain ⟨k, o, h1, h2, h3, hQ⟩ := lw_walk l hl9 b xs p e ha hc hk s m args below hf ((Spec.applies_iff_loose hf).mp happ).1 hP trivial
  exact ⟨k, o, h1, h2, h3, hQ⟩
theorem lw_frame {s t : State} {o : Outcome} {args : Array Value} (h : Framed s o t [] 1052 9423) :
    Framed s o t (fieldLocs frame_1_writes args s ++ arrayLocs frame_1_arrays args s ++ staticLocs frame_1_statics s) 1052 9423 := h
theorem lw_limb (L : Cond) (hL : ∀ (args : Array Value) (s t : State), L.after args s (.returned (some (.int 1))) t = true) :
    ArmFor flags0 classFile x code maxLocals ret World_1 tables_1 room_1 Calls_1 rest_1 Pre_1
      (fun tb e a s o t => postC L tb e a s o t ∧ Framed s o t (fieldLocs frame_1_writes a s ++ arrayLocs frame_1_arrays a s ++ staticLocs frame_1_statics s) 1052 9423) := by
  intro l hfl _ _ p e ha hc hk s m args below hf hfit hheap happ hpre
  obtain ⟨k, o, h1, h2, h3, rfl, hF⟩ := lw_comes l (by unfold Launch.stackTraces; rw [hfl]; decide +kernel) p e ha hc hk s m args below hf hfit hheap happ hpre
  exact ⟨k, _, h1, h2, h3, hL args s _, lw_frame hF⟩
theorem i_vc : Claimed_1_1 ∧ Claimed_1_2 := ⟨lw_limb limb_1_1 (fun args s t => by simp [limb_1_1, Cond.after, Cond.holds, Cond.value]), lw_limb limb_1_2 (fun args s t => Cond.after_iff.mpr (by
  first | (rw [show limb_1_2 = Cond.eq .result (.int 1) from rfl, Cond.eq_ints (x := 1) (y := 1) rfl rfl]; simp; done) | (simp [limb_1_2, Cond.value, Term.eval]; done)))⟩
