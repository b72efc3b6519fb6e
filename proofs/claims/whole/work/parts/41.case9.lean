set_option maxHeartbeats 8000000 in
set_option maxRecDepth 100000 in
/-- the law, case 9 -/
theorem law_case_9 {p : Program} {l : Launch} {e : Env} {s : State} {m : MethodId} {below : List Frame} {meth : Method} {c : Code} {dC : Nat → ClassId} {dI : Nat → Nat → Nat} {b Ln : Nat} {xs : Nat → Int32} {sa : Nat → Nat} {jd jh jt jk jv jr jh2 jt2 jk2 jv2 jr2 jg jb jy jm ik iv ir il iy ig jo : Nat} {ck cv cr ck2 cv2 cr2 cg cb cy dk dv dr dl dy dg co : ClassId} {sd : Int64} (hl9 : l.stackTraces = false) (hL : Ln ≤ 2049) (hx : p.tables.exec = Jvm.exec) (hb : c.code = code) (hr : meth.sig.returnType = ret) (hml : c.maxLocals = 7) (hown : s.vm.findClass R_L = some m.cls) (hts : ∀ w ∈ (Jvm.Cond.initialized "PortDrawerLaw" :: tblG), w.before #[Value.ref b] s = true) (hX : va_X b Ln xs s s.heap) (hbl : b < s.heap.size) (hlocks : meth.locks = false) (hN : NW s) (hT : TX sa s) (hZ : zqU (fun q : Nat => s.heap.size ≤ q) s s.heap) (hK : va_K (dC, dI) classes [(ck, .int), (cv, .int), (cr, .int), (ck2, .int), (cv2, .int), (cr2, .int), (cg, .long), (cb, .long), (cy, .boolean), (dk, .int), (dv, .int), (dr, .int), (dl, .boolean), (dy, .boolean), (dg, .boolean), (co, .long)] s)  (j : Nat) (hj : 4 * j ≤ Ln) (hj4 : 1 + 4 * j + 4 ≤ Ln) (ih : ∀ (n : Nat) (x w : Int64) (K V R : Nat → Int32) (G B : Nat → Int64) (S : Nat → Bool) (n2 : Nat) (x2 : Int64) (K2 V2 R2 : Nat → Int32) (th : Int32) (tp : Int64) (K1 V1 R1 : Nat → Int32) (Lf Go : Nat → Bool) (O : Nat → Int64), INV n K V R G B w K1 V1 R1 Lf → n2 ≤ 43 → ∀ (H : Heap) (locs : List Loc), va_P (dC, dI) classes [(jd, .inr (2, [.long sd, .ref jh, .ref jh2, .ref jg, .ref jb, .ref jy, .long w])), (jh, .inr (1, [.ref jt, .ref jk, .ref jv, .ref jr, .int (nI n)])), (jt, .inr (0, [.long x])), (jk, .inl (ck, 43, .inl K)), (jv, .inl (cv, 43, .inl V)), (jr, .inl (cr, 43, .inl R)), (jh2, .inr (1, [.ref jt2, .ref jk2, .ref jv2, .ref jr2, .int (nI n2)])), (jt2, .inr (0, [.long x2])), (jk2, .inl (ck2, 43, .inl K2)), (jv2, .inl (cv2, 43, .inl V2)), (jr2, .inl (cr2, 43, .inl R2)), (jg, .inl (cg, 43, .inr (.inl G))), (jb, .inl (cb, 8, .inr (.inl B))), (jy, .inl (cy, 256, .inl (bF S))), (jm, .inr (3, [.int th, .long sd, .long tp, .int (nI n), .ref ik, .ref iv, .ref ir, .ref il, .ref iy, .ref ig])), (ik, .inl (dk, 86, .inl K1)), (iv, .inl (dv, 86, .inl V1)), (ir, .inl (dr, 86, .inl R1)), (il, .inl (dl, 43, .inl (bF Lf))), (iy, .inl (dy, 256, .inl (bF S))), (ig, .inl (dg, 43, .inl (bF Go))), (jo, .inl (co, 1, .inr (.inl O)))] H → va_D (fun q : Nat => s.heap.size ≤ q) [(jd, .inr (2, [.long sd, .ref jh, .ref jh2, .ref jg, .ref jb, .ref jy, .long w])), (jh, .inr (1, [.ref jt, .ref jk, .ref jv, .ref jr, .int (nI n)])), (jt, .inr (0, [.long x])), (jk, .inl (ck, 43, .inl K)), (jv, .inl (cv, 43, .inl V)), (jr, .inl (cr, 43, .inl R)), (jh2, .inr (1, [.ref jt2, .ref jk2, .ref jv2, .ref jr2, .int (nI n2)])), (jt2, .inr (0, [.long x2])), (jk2, .inl (ck2, 43, .inl K2)), (jv2, .inl (cv2, 43, .inl V2)), (jr2, .inl (cr2, 43, .inl R2)), (jg, .inl (cg, 43, .inr (.inl G))), (jb, .inl (cb, 8, .inr (.inl B))), (jy, .inl (cy, 256, .inl (bF S))), (jm, .inr (3, [.int th, .long sd, .long tp, .int (nI n), .ref ik, .ref iv, .ref ir, .ref il, .ref iy, .ref ig])), (ik, .inl (dk, 86, .inl K1)), (iv, .inl (dv, 86, .inl V1)), (ir, .inl (dr, 86, .inl R1)), (il, .inl (dl, 43, .inl (bF Lf))), (iy, .inl (dy, 256, .inl (bF S))), (ig, .inl (dg, 43, .inl (bF Go))), (jo, .inl (co, 1, .inr (.inl O)))] → va_S (fun q : Nat => s.heap.size ≤ q) s.heap H locs → ∀ (ls : Array Slot), lv_has ls 7 [(0, .ref b), (1, .ref jd), (2, .ref jm), (3, .ref jo), (4, .int (nI (1 + 4 * (j + 1))))] → W p l e room_1 s m #[Value.ref b] below meth c H locs (22 + (j + 1)) (1195 + 6 * (j + 1)) (lw_Z below #[Value.ref b] s) (F0 m 35 ls [])) (n : Nat) (x w : Int64) (K V R : Nat → Int32) (G B : Nat → Int64) (S : Nat → Bool) (n2 : Nat) (x2 : Int64) (K2 V2 R2 : Nat → Int32) (th : Int32) (tp : Int64) (K1 V1 R1 : Nat → Int32) (Lf Go : Nat → Bool) (O : Nat → Int64) (hI : INV n K V R G B w K1 V1 R1 Lf) (hn2 : n2 ≤ 43) (H : Heap) (locs : List Loc) (hP : va_P (dC, dI) classes [(jd, .inr (2, [.long sd, .ref jh, .ref jh2, .ref jg, .ref jb, .ref jy, .long w])), (jh, .inr (1, [.ref jt, .ref jk, .ref jv, .ref jr, .int (nI n)])), (jt, .inr (0, [.long x])), (jk, .inl (ck, 43, .inl K)), (jv, .inl (cv, 43, .inl V)), (jr, .inl (cr, 43, .inl R)), (jh2, .inr (1, [.ref jt2, .ref jk2, .ref jv2, .ref jr2, .int (nI n2)])), (jt2, .inr (0, [.long x2])), (jk2, .inl (ck2, 43, .inl K2)), (jv2, .inl (cv2, 43, .inl V2)), (jr2, .inl (cr2, 43, .inl R2)), (jg, .inl (cg, 43, .inr (.inl G))), (jb, .inl (cb, 8, .inr (.inl B))), (jy, .inl (cy, 256, .inl (bF S))), (jm, .inr (3, [.int th, .long sd, .long tp, .int (nI n), .ref ik, .ref iv, .ref ir, .ref il, .ref iy, .ref ig])), (ik, .inl (dk, 86, .inl K1)), (iv, .inl (dv, 86, .inl V1)), (ir, .inl (dr, 86, .inl R1)), (il, .inl (dl, 43, .inl (bF Lf))), (iy, .inl (dy, 256, .inl (bF S))), (ig, .inl (dg, 43, .inl (bF Go))), (jo, .inl (co, 1, .inr (.inl O)))] H) (hD : va_D (fun q : Nat => s.heap.size ≤ q) [(jd, .inr (2, [.long sd, .ref jh, .ref jh2, .ref jg, .ref jb, .ref jy, .long w])), (jh, .inr (1, [.ref jt, .ref jk, .ref jv, .ref jr, .int (nI n)])), (jt, .inr (0, [.long x])), (jk, .inl (ck, 43, .inl K)), (jv, .inl (cv, 43, .inl V)), (jr, .inl (cr, 43, .inl R)), (jh2, .inr (1, [.ref jt2, .ref jk2, .ref jv2, .ref jr2, .int (nI n2)])), (jt2, .inr (0, [.long x2])), (jk2, .inl (ck2, 43, .inl K2)), (jv2, .inl (cv2, 43, .inl V2)), (jr2, .inl (cr2, 43, .inl R2)), (jg, .inl (cg, 43, .inr (.inl G))), (jb, .inl (cb, 8, .inr (.inl B))), (jy, .inl (cy, 256, .inl (bF S))), (jm, .inr (3, [.int th, .long sd, .long tp, .int (nI n), .ref ik, .ref iv, .ref ir, .ref il, .ref iy, .ref ig])), (ik, .inl (dk, 86, .inl K1)), (iv, .inl (dv, 86, .inl V1)), (ir, .inl (dr, 86, .inl R1)), (il, .inl (dl, 43, .inl (bF Lf))), (iy, .inl (dy, 256, .inl (bF S))), (ig, .inl (dg, 43, .inl (bF Go))), (jo, .inl (co, 1, .inr (.inl O)))]) (hS : va_S (fun q : Nat => s.heap.size ≤ q) s.heap H locs) (ls : Array Slot) (hl : lv_has ls 7 [(0, .ref b), (1, .ref jd), (2, .ref jm), (3, .ref jo), (4, .int (nI (1 + 4 * j)))]) : W p l e room_1 s m #[Value.ref b] below meth c H locs (22 + j) (1195 + 6 * j) (lw_Z below #[Value.ref b] s) (F0 m 468 ls []) := by
  have hA : ∀ q : Nat, s.heap.size ≤ q → (fun q : Nat => s.heap.size ≤ q) q := fun _ h => h
  have hbA : ¬ (fun q : Nat => s.heap.size ≤ q) b := Nat.not_le.mpr hbl
  have hn := hI.1
  obtain ⟨ot, eot⟩ : ∃ y : Int64, y = (((xs (1 + 4 * j + 1)).toInt64 <<< ((nI 32).toInt64 &&& 63)) ||| ((xs (1 + 4 * j + 2)).toInt64 &&& 4294967295)) := ⟨_, rfl⟩
  rcases Bool.eq_false_or_eq_true (szB (xs (1 + 4 * j + 3))) with hs9 | hs9
  · skip
    obtain ⟨z, hz, ez⟩ := szB_of hs9
    refine lv_aload_n hx hb d_L_law_468 rfl (lv_at hl 1 rfl) ?_
    refine lv_aload_n hx hb d_L_law_469 rfl (lv_at hl 0 rfl) ?_
    refine lv_iload hx hb d_L_law_470 (lv_at hl 4 rfl) ?_
    refine lv_iconst (v := nI 1) hx hb d_L_law_472 (by decide +kernel) ?_
    refine lv_iadd hx hb d_L_law_473 ?_
    refine lv_topi (fun w_1 ew_1 => ?_)
    have ew_1 : (nI ((1 + 4 * j) + 1)) = w_1 := (ew_1.trans (nI_add _ _)).symm
    subst ew_1
    refine va_sld hx hb hX hbl hbA hS (vp_in_nI (by omega) (by omega)) d_L_law_474 ?_
    refine lv_topi (fun w_2 ew_2 => ?_)
    rw [nI_clamp (by omega)] at ew_2
    have ew_2 := ew_2.symm
    subst ew_2
    refine lv_i2l hx hb d_L_law_475 rfl ?_
    refine lv_bipush (v := nI 32) hx hb d_L_law_476 (by decide +kernel) ?_
    refine lv_lshl hx hb d_L_law_478 rfl ?_
    refine lv_aload_n hx hb d_L_law_479 rfl (lv_at hl 0 rfl) ?_
    refine lv_iload hx hb d_L_law_480 (lv_at hl 4 rfl) ?_
    refine lv_iconst (v := nI 2) hx hb d_L_law_482 (by decide +kernel) ?_
    refine lv_iadd hx hb d_L_law_483 ?_
    refine lv_topi (fun w_3 ew_3 => ?_)
    have ew_3 : (nI ((1 + 4 * j) + 2)) = w_3 := (ew_3.trans (nI_add _ _)).symm
    subst ew_3
    refine va_sld hx hb hX hbl hbA hS (vp_in_nI (by omega) (by omega)) d_L_law_484 ?_
    refine lv_topi (fun w_4 ew_4 => ?_)
    rw [nI_clamp (by omega)] at ew_4
    have ew_4 := ew_4.symm
    subst ew_4
    refine lv_i2l hx hb d_L_law_485 rfl ?_
    refine lv_ldc2 (v := 4294967295) hx hb hown (hts _ (List.mem_cons_of_mem _ m_483)) d_L_law_486 ?_
    refine lv_land hx hb d_L_law_489 ?_
    refine lv_lor hx hb d_L_law_490 ?_
    refine lv_topl (fun w_5 ew_5 => ?_)
    have ew_5 : ot = w_5 := (ew_5.trans (eot.symm)).symm
    subst ew_5
    refine lv_aload_n hx hb d_L_law_491 rfl (lv_at hl 0 rfl) ?_
    refine lv_iload hx hb d_L_law_492 (lv_at hl 4 rfl) ?_
    refine lv_iconst (v := nI 3) hx hb d_L_law_494 (by decide +kernel) ?_
    refine lv_iadd hx hb d_L_law_495 ?_
    refine lv_topi (fun w_6 ew_6 => ?_)
    have ew_6 : (nI ((1 + 4 * j) + 3)) = w_6 := (ew_6.trans (nI_add _ _)).symm
    subst ew_6
    refine va_sld hx hb hX hbl hbA hS (vp_in_nI (by omega) (by omega)) d_L_law_496 ?_
    refine lv_topi (fun w_7 ew_7 => ?_)
    rw [nI_clamp (by omega)] at ew_7
    have ew_7 := ew_7.symm
    subst ew_7
    refine lv_topi (fun w_8 ew_8 => ?_)
    have ew_8 : (nI z) = w_8 := (ew_8.trans (ez)).symm
    subst ew_8
    refine lv_aload_n hx hb d_L_law_497 rfl (lv_at hl 3 rfl) ?_
    have hPc := hP.sub (ws' := [(jd, .inr (2, [.long sd, .ref jh, .ref jh2, .ref jg, .ref jb, .ref jy, .long w])), (jh, .inr (1, [.ref jt, .ref jk, .ref jv, .ref jr, .int (nI n)])), (jk, .inl (ck, 43, .inl K)), (jv, .inl (cv, 43, .inl V)), (jr, .inl (cr, 43, .inl R)), (jh2, .inr (1, [.ref jt2, .ref jk2, .ref jv2, .ref jr2, .int (nI n2)])), (jt2, .inr (0, [.long x2])), (jk2, .inl (ck2, 43, .inl K2)), (jv2, .inl (cv2, 43, .inl V2)), (jr2, .inl (cr2, 43, .inl R2)), (jo, .inl (co, 1, .inr (.inl O)))]) [0, 1, 3, 4, 5, 6, 7, 8, 9, 10, 21] rfl
    have hKc := hK.sub (tys' := [(ck, .int), (cv, .int), (cr, .int), (ck2, .int), (cv2, .int), (cr2, .int), (co, .long)]) [0, 1, 2, 3, 4, 5, 15] rfl
    have hDc := hD.sub (ws' := [(jd, .inr (2, [.long sd, .ref jh, .ref jh2, .ref jg, .ref jb, .ref jy, .long w])), (jh, .inr (1, [.ref jt, .ref jk, .ref jv, .ref jr, .int (nI n)])), (jk, .inl (ck, 43, .inl K)), (jv, .inl (cv, 43, .inl V)), (jr, .inl (cr, 43, .inl R)), (jh2, .inr (1, [.ref jt2, .ref jk2, .ref jv2, .ref jr2, .int (nI n2)])), (jt2, .inr (0, [.long x2])), (jk2, .inl (ck2, 43, .inl K2)), (jv2, .inl (cv2, 43, .inl V2)), (jr2, .inl (cr2, 43, .inl R2)), (jo, .inl (co, 1, .inr (.inl O)))]) [0, 1, 3, 4, 5, 6, 7, 8, 9, 10, 21] (by decide) rfl
    have hFc := va_free (wc := [(jd, .inr (2, [.long sd, .ref jh, .ref jh2, .ref jg, .ref jb, .ref jy, .long w])), (jh, .inr (1, [.ref jt, .ref jk, .ref jv, .ref jr, .int (nI n)])), (jk, .inl (ck, 43, .inl K)), (jv, .inl (cv, 43, .inl V)), (jr, .inl (cr, 43, .inl R)), (jh2, .inr (1, [.ref jt2, .ref jk2, .ref jv2, .ref jr2, .int (nI n2)])), (jt2, .inr (0, [.long x2])), (jk2, .inl (ck2, 43, .inl K2)), (jv2, .inl (cv2, 43, .inl V2)), (jr2, .inl (cr2, 43, .inl R2)), (jo, .inl (co, 1, .inr (.inl O)))]) hD hS hA [0, 1, 3, 4, 5, 6, 7, 8, 9, 10, 21] rfl
    refine va_calli (vx_runSW (As := [.ref jd, .long ot, .int (nI z), .ref jo]) (rest := []) ⟨hx, hb, hml, hown, hts⟩ (c_L_same l dC dI jd jh jh2 jg jb jy sd w jt jk jv jr n ck cv cr K V R jt2 jk2 jv2 jr2 n2 ck2 cv2 cr2 x2 K2 V2 R2 ot z jo co O hn hz _) (vx_cwSW 4 hts (g_SW big_w m_319 m_320 m_0 m_321) rfl rfl rfl (by decide +kernel) ⟨Nat.le_of_ble_eq_true rfl, Nat.le_of_ble_eq_true rfl⟩) (wr_S hPc hKc hDc hN) rfl rfl hl.1 rfl (lv_room (Nat.le_of_ble_eq_true rfl)) d_L_law_498 ⟨by show 22 + j + 0 ≤ 1052; omega, by show 1195 + 6 * j + 0 ≤ 9423; omega⟩) hS (fun q _ h => hFc q h) hFc (fun r_9 u t H1 locs ht hvm hw hB hz1 hk1 hS => ?_)
    obtain ⟨hP1, hK1, hD1⟩ := hB
    rw [ht] at hP1
    obtain ⟨hP, hD⟩ := va_join (wr := [(jt, .inr (0, [.long x])), (jg, .inl (cg, 43, .inr (.inl G))), (jb, .inl (cb, 8, .inr (.inl B))), (jy, .inl (cy, 256, .inl (bF S))), (jm, .inr (3, [.int th, .long sd, .long tp, .int (nI n), .ref ik, .ref iv, .ref ir, .ref il, .ref iy, .ref ig])), (ik, .inl (dk, 86, .inl K1)), (iv, .inl (dv, 86, .inl V1)), (ir, .inl (dr, 86, .inl R1)), (il, .inl (dl, 43, .inl (bF Lf))), (iy, .inl (dy, 256, .inl (bF S))), (ig, .inl (dg, 43, .inl (bF Go)))]) (w1 := [(jd, .inr (2, [.long sd, .ref jh, .ref jh2, .ref jg, .ref jb, .ref jy, .long w])), (jh, .inr (1, [.ref jt, .ref jk, .ref jv, .ref jr, .int (nI n)])), (jk, .inl (ck, 43, .inl K)), (jv, .inl (cv, 43, .inl V)), (jr, .inl (cr, 43, .inl R)), (jh2, .inr (1, [.ref jt2, .ref jk2, .ref jv2, .ref jr2, .int (nI (z + 3))])), (jt2, .inr (0, [.long ((flS ot K2 V2 R2 z).1)])), (jk2, .inl (ck2, 43, .inl ((flS ot K2 V2 R2 z).2.1))), (jv2, .inl (cv2, 43, .inl ((flS ot K2 V2 R2 z).2.2.1))), (jr2, .inl (cr2, 43, .inl ((flS ot K2 V2 R2 z).2.2.2))), (jo, .inl (co, 1, .inr (.inl (vp_updL O 0 (bL (lkB n (z + 3) K V R (flS ot K2 V2 R2 z).2.1 (flS ot K2 V2 R2 z).2.2.1 (flS ot K2 V2 R2 z).2.2.2))))))]) hP hD [0, 1, 3, 4, 5, 6, 7, 8, 9, 10, 21] [2, 11, 12, 13, 14, 15, 16, 17, 18, 19, 20] rfl rfl (by decide) (by decide) hk1 hFc hP1 hD1
    generalize H1 = H at hP hS ⊢
    have hP : va_P (dC, dI) classes [(jt, .inr (0, [.long x])), (jg, .inl (cg, 43, .inr (.inl G))), (jb, .inl (cb, 8, .inr (.inl B))), (jy, .inl (cy, 256, .inl (bF S))), (jm, .inr (3, [.int th, .long sd, .long tp, .int (nI n), .ref ik, .ref iv, .ref ir, .ref il, .ref iy, .ref ig])), (ik, .inl (dk, 86, .inl K1)), (iv, .inl (dv, 86, .inl V1)), (ir, .inl (dr, 86, .inl R1)), (il, .inl (dl, 43, .inl (bF Lf))), (iy, .inl (dy, 256, .inl (bF S))), (ig, .inl (dg, 43, .inl (bF Go))), (jd, .inr (2, [.long sd, .ref jh, .ref jh2, .ref jg, .ref jb, .ref jy, .long w])), (jh, .inr (1, [.ref jt, .ref jk, .ref jv, .ref jr, .int (nI n)])), (jk, .inl (ck, 43, .inl K)), (jv, .inl (cv, 43, .inl V)), (jr, .inl (cr, 43, .inl R)), (jh2, .inr (1, [.ref jt2, .ref jk2, .ref jv2, .ref jr2, .int (nI (z + 3))])), (jt2, .inr (0, [.long ((flS ot K2 V2 R2 z).1)])), (jk2, .inl (ck2, 43, .inl ((flS ot K2 V2 R2 z).2.1))), (jv2, .inl (cv2, 43, .inl ((flS ot K2 V2 R2 z).2.2.1))), (jr2, .inl (cr2, 43, .inl ((flS ot K2 V2 R2 z).2.2.2))), (jo, .inl (co, 1, .inr (.inl (vp_updL O 0 (bL (lkB n (z + 3) K V R (flS ot K2 V2 R2 z).2.1 (flS ot K2 V2 R2 z).2.2.1 (flS ot K2 V2 R2 z).2.2.2))))))] H := hP
    have hD : va_D (fun q : Nat => s.heap.size ≤ q) [(jt, .inr (0, [.long x])), (jg, .inl (cg, 43, .inr (.inl G))), (jb, .inl (cb, 8, .inr (.inl B))), (jy, .inl (cy, 256, .inl (bF S))), (jm, .inr (3, [.int th, .long sd, .long tp, .int (nI n), .ref ik, .ref iv, .ref ir, .ref il, .ref iy, .ref ig])), (ik, .inl (dk, 86, .inl K1)), (iv, .inl (dv, 86, .inl V1)), (ir, .inl (dr, 86, .inl R1)), (il, .inl (dl, 43, .inl (bF Lf))), (iy, .inl (dy, 256, .inl (bF S))), (ig, .inl (dg, 43, .inl (bF Go))), (jd, .inr (2, [.long sd, .ref jh, .ref jh2, .ref jg, .ref jb, .ref jy, .long w])), (jh, .inr (1, [.ref jt, .ref jk, .ref jv, .ref jr, .int (nI n)])), (jk, .inl (ck, 43, .inl K)), (jv, .inl (cv, 43, .inl V)), (jr, .inl (cr, 43, .inl R)), (jh2, .inr (1, [.ref jt2, .ref jk2, .ref jv2, .ref jr2, .int (nI (z + 3))])), (jt2, .inr (0, [.long ((flS ot K2 V2 R2 z).1)])), (jk2, .inl (ck2, 43, .inl ((flS ot K2 V2 R2 z).2.1))), (jv2, .inl (cv2, 43, .inl ((flS ot K2 V2 R2 z).2.2.1))), (jr2, .inl (cr2, 43, .inl ((flS ot K2 V2 R2 z).2.2.2))), (jo, .inl (co, 1, .inr (.inl (vp_updL O 0 (bL (lkB n (z + 3) K V R (flS ot K2 V2 R2 z).2.1 (flS ot K2 V2 R2 z).2.2.1 (flS ot K2 V2 R2 z).2.2.2))))))] := hD
    have hw := hw.symm
    subst hw
    refine lv_istore (lv' := [(5, .int (nI 0)), (0, .ref b), (1, .ref jd), (2, .ref jm), (3, .ref jo), (4, .int (nI (1 + 4 * j)))]) hx hb d_L_law_501 hl (by decide) rfl (fun ls hl => ?_)
    refine lv_aload_n hx hb d_L_law_503 rfl (lv_at hl 3 rfl) ?_
    refine lv_aload_n hx hb d_L_law_504 rfl (lv_at hl 1 rfl) ?_
    refine lv_iload hx hb d_L_law_505 (lv_at hl 5 rfl) ?_
    refine lv_iconst (v := nI 1) hx hb d_L_law_507 (by decide +kernel) ?_
    refine lv_iadd hx hb d_L_law_508 ?_
    refine lv_topi (fun w_10 ew_10 => ?_)
    have ew_10 : (nI ((1 + 4 * j) + 1)) = w_10 := (ew_10.trans (nI_add _ _)).symm
    subst ew_10
    refine va_sld hx hb hX hbl hbA hS (vp_in_nI (by omega) (by omega)) d_L_law_509 ?_
    refine lv_topi (fun w_11 ew_11 => ?_)
    rw [nI_clamp (by omega)] at ew_11
    have ew_11 := ew_11.symm
    subst ew_11
    refine lv_i2l hx hb d_L_law_510 rfl ?_
    refine lv_bipush (v := nI 32) hx hb d_L_law_511 (by decide +kernel) ?_
    refine lv_lshl hx hb d_L_law_513 rfl ?_
    refine lv_aload_n hx hb d_L_law_514 rfl (lv_at hl 1 rfl) ?_
    refine lv_iload hx hb d_L_law_515 (lv_at hl 5 rfl) ?_
    refine lv_iconst (v := nI 2) hx hb d_L_law_517 (by decide +kernel) ?_
    refine lv_iadd hx hb d_L_law_518 ?_
    refine lv_topi (fun w_12 ew_12 => ?_)
    have ew_12 : (nI ((1 + 4 * j) + 2)) = w_12 := (ew_12.trans (nI_add _ _)).symm
    subst ew_12
    refine va_sld hx hb hX hbl hbA hS (vp_in_nI (by omega) (by omega)) d_L_law_519 ?_
    refine lv_topi (fun w_13 ew_13 => ?_)
    rw [nI_clamp (by omega)] at ew_13
    have ew_13 := ew_13.symm
    subst ew_13
    refine lv_i2l hx hb d_L_law_520 rfl ?_
    refine lv_ldc2 (v := 4294967295) hx hb hown (hts _ (List.mem_cons_of_mem _ m_483)) d_L_law_521 ?_
    refine lv_land hx hb d_L_law_524 ?_
    refine lv_lor hx hb d_L_law_525 ?_
    refine lv_topl (fun w_14 ew_14 => ?_)
    have ew_14 : ot = w_14 := (ew_14.trans (eot.symm)).symm
    subst ew_14
    refine lv_aload_n hx hb d_L_law_526 rfl (lv_at hl 1 rfl) ?_
    refine lv_iload hx hb d_L_law_527 (lv_at hl 5 rfl) ?_
    refine lv_iconst (v := nI 3) hx hb d_L_law_529 (by decide +kernel) ?_
    refine lv_iadd hx hb d_L_law_530 ?_
    refine lv_topi (fun w_15 ew_15 => ?_)
    have ew_15 : (nI ((1 + 4 * j) + 3)) = w_15 := (ew_15.trans (nI_add _ _)).symm
    subst ew_15
    refine va_sld hx hb hX hbl hbA hS (vp_in_nI (by omega) (by omega)) d_L_law_531 ?_
    refine lv_topi (fun w_16 ew_16 => ?_)
    rw [nI_clamp (by omega)] at ew_16
    have ew_16 := ew_16.symm
    subst ew_16
    refine lv_topi (fun w_17 ew_17 => ?_)
    have ew_17 : (nI z) = w_17 := (ew_17.trans (ez)).symm
    subst ew_17
    have hPc := hP.sub (ws' := [(jm, .inr (3, [.int th, .long sd, .long tp, .int (nI n), .ref ik, .ref iv, .ref ir, .ref il, .ref iy, .ref ig])), (ik, .inl (dk, 86, .inl K1)), (iv, .inl (dv, 86, .inl V1)), (ir, .inl (dr, 86, .inl R1))]) [4, 5, 6, 7] rfl
    have hKc := hK.sub (tys' := [(dk, .int), (dv, .int), (dr, .int)]) [9, 10, 11] rfl
    have hDc := hD.sub (ws' := [(jm, .inr (3, [.int th, .long sd, .long tp, .int (nI n), .ref ik, .ref iv, .ref ir, .ref il, .ref iy, .ref ig])), (ik, .inl (dk, 86, .inl K1)), (iv, .inl (dv, 86, .inl V1)), (ir, .inl (dr, 86, .inl R1))]) [4, 5, 6, 7] (by decide) rfl
    have hFc := va_free (wc := [(jm, .inr (3, [.int th, .long sd, .long tp, .int (nI n), .ref ik, .ref iv, .ref ir, .ref il, .ref iy, .ref ig])), (ik, .inl (dk, 86, .inl K1)), (iv, .inl (dv, 86, .inl V1)), (ir, .inl (dr, 86, .inl R1))]) hD hS hA [4, 5, 6, 7] rfl
    refine va_calli (va_runV (As := [.long ot, .int (nI z)]) (rest := []) ⟨hx, hb, hml, hown, hts⟩ (c_M_same l dC dI jm ik iv ir il iy ig n th sd tp dk dv dr K1 V1 R1 ot z hn hz _) (cwV 2 hts (g_V big_w m_403 m_404 m_405 m_4 m_406) rfl rfl rfl (by decide +kernel) ⟨Nat.le_of_ble_eq_true rfl, Nat.le_of_ble_eq_true rfl⟩) (wr_V hPc hKc hDc hN (va_recv hKc hPc (ci := 3) (q0 := 0) rfl rfl)) rfl rfl hl.1 rfl (lv_room (Nat.le_of_ble_eq_true rfl)) d_L_law_532 ⟨by show 22 + j + 0 ≤ 1052; omega, by show 1195 + 6 * j + 0 ≤ 9423; omega⟩) hS (fun q _ h => hFc q h) hFc (fun r_18 u t H1 locs ht hvm hw hB hz1 hk1 hS => ?_)
    obtain ⟨hP1, hK1, hD1⟩ := hB
    rw [ht] at hP1
    obtain ⟨hP, hD⟩ := va_join (wr := [(jt, .inr (0, [.long x])), (jg, .inl (cg, 43, .inr (.inl G))), (jb, .inl (cb, 8, .inr (.inl B))), (jy, .inl (cy, 256, .inl (bF S))), (il, .inl (dl, 43, .inl (bF Lf))), (iy, .inl (dy, 256, .inl (bF S))), (ig, .inl (dg, 43, .inl (bF Go))), (jd, .inr (2, [.long sd, .ref jh, .ref jh2, .ref jg, .ref jb, .ref jy, .long w])), (jh, .inr (1, [.ref jt, .ref jk, .ref jv, .ref jr, .int (nI n)])), (jk, .inl (ck, 43, .inl K)), (jv, .inl (cv, 43, .inl V)), (jr, .inl (cr, 43, .inl R)), (jh2, .inr (1, [.ref jt2, .ref jk2, .ref jv2, .ref jr2, .int (nI (z + 3))])), (jt2, .inr (0, [.long ((flS ot K2 V2 R2 z).1)])), (jk2, .inl (ck2, 43, .inl ((flS ot K2 V2 R2 z).2.1))), (jv2, .inl (cv2, 43, .inl ((flS ot K2 V2 R2 z).2.2.1))), (jr2, .inl (cr2, 43, .inl ((flS ot K2 V2 R2 z).2.2.2))), (jo, .inl (co, 1, .inr (.inl (vp_updL O 0 (bL (lkB n (z + 3) K V R (flS ot K2 V2 R2 z).2.1 (flS ot K2 V2 R2 z).2.2.1 (flS ot K2 V2 R2 z).2.2.2))))))]) (w1 := [(jm, .inr (3, [.int (nI 0), .long sd, .long ((drM 43 (ot, K1, V1, R1) (z + 3)).1), .int (nI n), .ref ik, .ref iv, .ref ir, .ref il, .ref iy, .ref ig])), (ik, .inl (dk, 86, .inl ((drM 43 (ot, K1, V1, R1) (z + 3)).2.1))), (iv, .inl (dv, 86, .inl ((drM 43 (ot, K1, V1, R1) (z + 3)).2.2.1))), (ir, .inl (dr, 86, .inl ((drM 43 (ot, K1, V1, R1) (z + 3)).2.2.2)))]) hP hD [4, 5, 6, 7] [0, 1, 2, 3, 8, 9, 10, 11, 12, 13, 14, 15, 16, 17, 18, 19, 20, 21] rfl rfl (by decide) (by decide) hk1 hFc hP1 hD1
    generalize H1 = H at hP hS ⊢
    have hP : va_P (dC, dI) classes [(jt, .inr (0, [.long x])), (jg, .inl (cg, 43, .inr (.inl G))), (jb, .inl (cb, 8, .inr (.inl B))), (jy, .inl (cy, 256, .inl (bF S))), (il, .inl (dl, 43, .inl (bF Lf))), (iy, .inl (dy, 256, .inl (bF S))), (ig, .inl (dg, 43, .inl (bF Go))), (jd, .inr (2, [.long sd, .ref jh, .ref jh2, .ref jg, .ref jb, .ref jy, .long w])), (jh, .inr (1, [.ref jt, .ref jk, .ref jv, .ref jr, .int (nI n)])), (jk, .inl (ck, 43, .inl K)), (jv, .inl (cv, 43, .inl V)), (jr, .inl (cr, 43, .inl R)), (jh2, .inr (1, [.ref jt2, .ref jk2, .ref jv2, .ref jr2, .int (nI (z + 3))])), (jt2, .inr (0, [.long ((flS ot K2 V2 R2 z).1)])), (jk2, .inl (ck2, 43, .inl ((flS ot K2 V2 R2 z).2.1))), (jv2, .inl (cv2, 43, .inl ((flS ot K2 V2 R2 z).2.2.1))), (jr2, .inl (cr2, 43, .inl ((flS ot K2 V2 R2 z).2.2.2))), (jo, .inl (co, 1, .inr (.inl (vp_updL O 0 (bL (lkB n (z + 3) K V R (flS ot K2 V2 R2 z).2.1 (flS ot K2 V2 R2 z).2.2.1 (flS ot K2 V2 R2 z).2.2.2)))))), (jm, .inr (3, [.int (nI 0), .long sd, .long ((drM 43 (ot, K1, V1, R1) (z + 3)).1), .int (nI n), .ref ik, .ref iv, .ref ir, .ref il, .ref iy, .ref ig])), (ik, .inl (dk, 86, .inl ((drM 43 (ot, K1, V1, R1) (z + 3)).2.1))), (iv, .inl (dv, 86, .inl ((drM 43 (ot, K1, V1, R1) (z + 3)).2.2.1))), (ir, .inl (dr, 86, .inl ((drM 43 (ot, K1, V1, R1) (z + 3)).2.2.2)))] H := hP
    have hD : va_D (fun q : Nat => s.heap.size ≤ q) [(jt, .inr (0, [.long x])), (jg, .inl (cg, 43, .inr (.inl G))), (jb, .inl (cb, 8, .inr (.inl B))), (jy, .inl (cy, 256, .inl (bF S))), (il, .inl (dl, 43, .inl (bF Lf))), (iy, .inl (dy, 256, .inl (bF S))), (ig, .inl (dg, 43, .inl (bF Go))), (jd, .inr (2, [.long sd, .ref jh, .ref jh2, .ref jg, .ref jb, .ref jy, .long w])), (jh, .inr (1, [.ref jt, .ref jk, .ref jv, .ref jr, .int (nI n)])), (jk, .inl (ck, 43, .inl K)), (jv, .inl (cv, 43, .inl V)), (jr, .inl (cr, 43, .inl R)), (jh2, .inr (1, [.ref jt2, .ref jk2, .ref jv2, .ref jr2, .int (nI (z + 3))])), (jt2, .inr (0, [.long ((flS ot K2 V2 R2 z).1)])), (jk2, .inl (ck2, 43, .inl ((flS ot K2 V2 R2 z).2.1))), (jv2, .inl (cv2, 43, .inl ((flS ot K2 V2 R2 z).2.2.1))), (jr2, .inl (cr2, 43, .inl ((flS ot K2 V2 R2 z).2.2.2))), (jo, .inl (co, 1, .inr (.inl (vp_updL O 0 (bL (lkB n (z + 3) K V R (flS ot K2 V2 R2 z).2.1 (flS ot K2 V2 R2 z).2.2.1 (flS ot K2 V2 R2 z).2.2.2)))))), (jm, .inr (3, [.int (nI 0), .long sd, .long ((drM 43 (ot, K1, V1, R1) (z + 3)).1), .int (nI n), .ref ik, .ref iv, .ref ir, .ref il, .ref iy, .ref ig])), (ik, .inl (dk, 86, .inl ((drM 43 (ot, K1, V1, R1) (z + 3)).2.1))), (iv, .inl (dv, 86, .inl ((drM 43 (ot, K1, V1, R1) (z + 3)).2.2.1))), (ir, .inl (dr, 86, .inl ((drM 43 (ot, K1, V1, R1) (z + 3)).2.2.2)))] := hD
    have hw := hw.symm
    subst hw
    refine lv_istore (lv' := [(6, .int (bI (decide (n = z + 3) && alB (eq3 (drM 43 (ot, K1, V1, R1) (z + 3)).2.1 (drM 43 (ot, K1, V1, R1) (z + 3)).2.2.1 (drM 43 (ot, K1, V1, R1) (z + 3)).2.2.2 (shf (drM 43 (ot, K1, V1, R1) (z + 3)).2.1 43) (shf (drM 43 (ot, K1, V1, R1) (z + 3)).2.2.1 43) (shf (drM 43 (ot, K1, V1, R1) (z + 3)).2.2.2 43)) n))), (5, .int (nI 0)), (0, .ref b), (1, .ref jd), (2, .ref jm), (3, .ref jo), (4, .int (nI (1 + 4 * j)))]) hx hb d_L_law_535 hl (by decide) rfl (fun ls hl => ?_)
    refine lv_aload_n hx hb d_L_law_537 rfl (lv_at hl 4 rfl) ?_
    have hPc := hP.sub (ws' := [(jm, .inr (3, [.int (nI 0), .long sd, .long ((drM 43 (ot, K1, V1, R1) (z + 3)).1), .int (nI n), .ref ik, .ref iv, .ref ir, .ref il, .ref iy, .ref ig]))]) [18] rfl
    have hKc := hK.sub (tys' := []) [] rfl
    refine vp_callSi (W.runV (As := []) (rest := []) ⟨hx, hb, hml, hown, hts⟩ (c_M_thrown l dC dI jm ik iv ir il iy ig n (nI 0) sd ((drM 43 (ot, K1, V1, R1) (z + 3)).1)) (cwV 0 hts (g_V big_w m_367 m_368 m_369 m_4 m_370) rfl rfl rfl (by decide +kernel) ⟨Nat.le_of_ble_eq_true rfl, Nat.le_of_ble_eq_true rfl⟩) (ro_V hPc hKc hN (va_recv hKc hPc (ci := 3) (q0 := 0) rfl rfl)) rfl rfl hl.1 rfl (lv_room (Nat.le_of_ble_eq_true rfl)) d_L_law_538 ⟨by show 22 + j + 0 ≤ 1052; omega, by show 1195 + 6 * j + 0 ≤ 9423; omega⟩) (fun r_19 er_19 => ?_)
    have er_19 := er_19.symm
    subst er_19
    refine lv_iload hx hb d_L_law_541 (lv_at hl 1 rfl) ?_
    refine lv_icmp_eq (tgt := 548) hx hb d_L_law_543 (by decide) (fun c_543 => ?_) (fun c_543 => ?_)
    · skip
      have c_543 := (nI_eq (by omega) (by omega)).mp c_543
      refine lv_iload hx hb d_L_law_548 (lv_at hl 1 rfl) ?_
      refine lv_if_ne (tgt := 572) hx hb d_L_law_550 (by decide) (fun c_550 => ?_) (fun c_550 => ?_)
      · skip
        have c_550 := (not_congr (nI_z (by omega))).mp c_550
        exact absurd rfl c_550
      · skip
        have c_550 := (nI_z (by omega)).mp c_550
        refine lv_aload_n hx hb d_L_law_553 rfl (lv_at hl 5 rfl) ?_
        refine lv_iconst (v := nI 0) hx hb d_L_law_554 (by decide +kernel) ?_
        refine va_lald hx hb hK hP 17 15 rfl rfl (vp_in_nI (by omega) (by omega)) d_L_law_555 ?_
        refine lv_topl (fun w_20 ew_20 => ?_)
        rw [nI_clamp (by omega)] at ew_20
        have ew_20 := ew_20.symm
        subst ew_20
        refine lv_iload hx hb d_L_law_556 (lv_at hl 0 rfl) ?_
        refine lv_if_eq (tgt := 565) hx hb d_L_law_558 (by decide) (fun c_558 => ?_) (fun c_558 => ?_)
        · skip
          have c_558 := bI_f c_558
          refine lv_lconst (v := 0) hx hb d_L_law_565 (by decide +kernel) ?_
          refine lv_topl (fun w_21 ew_21 => ?_)
          have ew_21 : (bL (decide (n = z + 3) && alB (eq3 (drM 43 (ot, K1, V1, R1) (z + 3)).2.1 (drM 43 (ot, K1, V1, R1) (z + 3)).2.2.1 (drM 43 (ot, K1, V1, R1) (z + 3)).2.2.2 (shf (drM 43 (ot, K1, V1, R1) (z + 3)).2.1 43) (shf (drM 43 (ot, K1, V1, R1) (z + 3)).2.2.1 43) (shf (drM 43 (ot, K1, V1, R1) (z + 3)).2.2.2 43)) n)) = w_21 := (ew_21.trans (by rw [c_558]; rfl)).symm
          subst ew_21
          refine W.lcmp hx hb d_L_law_566 ?_
          refine lv_if_eq (tgt := 572) hx hb d_L_law_567 (by decide) (fun c_567 => ?_) (fun c_567 => ?_)
          · skip
            have c_567 := lc_eq.mp c_567
            refine lv_goto (tgt := 600) hx hb d_L_law_572 (by decide) ?_
            refine lv_iinc (v := nI (1 + 4 * (j + 1))) (lv' := [(4, .int (nI (1 + 4 * (j + 1)))), (6, .int (bI (decide (n = z + 3) && alB (eq3 (drM 43 (ot, K1, V1, R1) (z + 3)).2.1 (drM 43 (ot, K1, V1, R1) (z + 3)).2.2.1 (drM 43 (ot, K1, V1, R1) (z + 3)).2.2.2 (shf (drM 43 (ot, K1, V1, R1) (z + 3)).2.1 43) (shf (drM 43 (ot, K1, V1, R1) (z + 3)).2.2.1 43) (shf (drM 43 (ot, K1, V1, R1) (z + 3)).2.2.2 43)) n))), (5, .int (nI 0)), (0, .ref b), (1, .ref jd), (2, .ref jm), (3, .ref jo)]) hx hb d_L_law_600 hl (k := 6) rfl (lw_inc j) (by decide) rfl (fun ls hl => ?_)
            refine lv_goto (tgt := 35) hx hb d_L_law_603 (by decide) ?_
            refine W.widen (k := 22 + (j + 1)) (n := 1195 + 6 * (j + 1)) (by omega) (by omega) ?_
            exact ih n x w K V R G B S (z + 3) ((flS ot K2 V2 R2 z).1) ((flS ot K2 V2 R2 z).2.1) ((flS ot K2 V2 R2 z).2.2.1) ((flS ot K2 V2 R2 z).2.2.2) (nI 0) ((drM 43 (ot, K1, V1, R1) (z + 3)).1) ((drM 43 (ot, K1, V1, R1) (z + 3)).2.1) ((drM 43 (ot, K1, V1, R1) (z + 3)).2.2.1) ((drM 43 (ot, K1, V1, R1) (z + 3)).2.2.2) Lf Go (vp_updL O 0 (bL (lkB n (z + 3) K V R (flS ot K2 V2 R2 z).2.1 (flS ot K2 V2 R2 z).2.2.1 (flS ot K2 V2 R2 z).2.2.2))) (hI.kp (dr_low (z + 3))) (by omega) _ _ (hP.sub (ws' := [(jd, .inr (2, [.long sd, .ref jh, .ref jh2, .ref jg, .ref jb, .ref jy, .long w])), (jh, .inr (1, [.ref jt, .ref jk, .ref jv, .ref jr, .int (nI n)])), (jt, .inr (0, [.long x])), (jk, .inl (ck, 43, .inl K)), (jv, .inl (cv, 43, .inl V)), (jr, .inl (cr, 43, .inl R)), (jh2, .inr (1, [.ref jt2, .ref jk2, .ref jv2, .ref jr2, .int (nI (z + 3))])), (jt2, .inr (0, [.long ((flS ot K2 V2 R2 z).1)])), (jk2, .inl (ck2, 43, .inl ((flS ot K2 V2 R2 z).2.1))), (jv2, .inl (cv2, 43, .inl ((flS ot K2 V2 R2 z).2.2.1))), (jr2, .inl (cr2, 43, .inl ((flS ot K2 V2 R2 z).2.2.2))), (jg, .inl (cg, 43, .inr (.inl G))), (jb, .inl (cb, 8, .inr (.inl B))), (jy, .inl (cy, 256, .inl (bF S))), (jm, .inr (3, [.int (nI 0), .long sd, .long ((drM 43 (ot, K1, V1, R1) (z + 3)).1), .int (nI n), .ref ik, .ref iv, .ref ir, .ref il, .ref iy, .ref ig])), (ik, .inl (dk, 86, .inl ((drM 43 (ot, K1, V1, R1) (z + 3)).2.1))), (iv, .inl (dv, 86, .inl ((drM 43 (ot, K1, V1, R1) (z + 3)).2.2.1))), (ir, .inl (dr, 86, .inl ((drM 43 (ot, K1, V1, R1) (z + 3)).2.2.2))), (il, .inl (dl, 43, .inl (bF Lf))), (iy, .inl (dy, 256, .inl (bF S))), (ig, .inl (dg, 43, .inl (bF Go))), (jo, .inl (co, 1, .inr (.inl (vp_updL O 0 (bL (lkB n (z + 3) K V R (flS ot K2 V2 R2 z).2.1 (flS ot K2 V2 R2 z).2.2.1 (flS ot K2 V2 R2 z).2.2.2))))))]) [7, 8, 0, 9, 10, 11, 12, 13, 14, 15, 16, 1, 2, 3, 18, 19, 20, 21, 4, 5, 6, 17] rfl) (hD.sub (ws' := [(jd, .inr (2, [.long sd, .ref jh, .ref jh2, .ref jg, .ref jb, .ref jy, .long w])), (jh, .inr (1, [.ref jt, .ref jk, .ref jv, .ref jr, .int (nI n)])), (jt, .inr (0, [.long x])), (jk, .inl (ck, 43, .inl K)), (jv, .inl (cv, 43, .inl V)), (jr, .inl (cr, 43, .inl R)), (jh2, .inr (1, [.ref jt2, .ref jk2, .ref jv2, .ref jr2, .int (nI (z + 3))])), (jt2, .inr (0, [.long ((flS ot K2 V2 R2 z).1)])), (jk2, .inl (ck2, 43, .inl ((flS ot K2 V2 R2 z).2.1))), (jv2, .inl (cv2, 43, .inl ((flS ot K2 V2 R2 z).2.2.1))), (jr2, .inl (cr2, 43, .inl ((flS ot K2 V2 R2 z).2.2.2))), (jg, .inl (cg, 43, .inr (.inl G))), (jb, .inl (cb, 8, .inr (.inl B))), (jy, .inl (cy, 256, .inl (bF S))), (jm, .inr (3, [.int (nI 0), .long sd, .long ((drM 43 (ot, K1, V1, R1) (z + 3)).1), .int (nI n), .ref ik, .ref iv, .ref ir, .ref il, .ref iy, .ref ig])), (ik, .inl (dk, 86, .inl ((drM 43 (ot, K1, V1, R1) (z + 3)).2.1))), (iv, .inl (dv, 86, .inl ((drM 43 (ot, K1, V1, R1) (z + 3)).2.2.1))), (ir, .inl (dr, 86, .inl ((drM 43 (ot, K1, V1, R1) (z + 3)).2.2.2))), (il, .inl (dl, 43, .inl (bF Lf))), (iy, .inl (dy, 256, .inl (bF S))), (ig, .inl (dg, 43, .inl (bF Go))), (jo, .inl (co, 1, .inr (.inl (vp_updL O 0 (bL (lkB n (z + 3) K V R (flS ot K2 V2 R2 z).2.1 (flS ot K2 V2 R2 z).2.2.1 (flS ot K2 V2 R2 z).2.2.2))))))]) [7, 8, 0, 9, 10, 11, 12, 13, 14, 15, 16, 1, 2, 3, 18, 19, 20, 21, 4, 5, 6, 17] (by decide) rfl) hS ls (lv_sub (l' := [(0, .ref b), (1, .ref jd), (2, .ref jm), (3, .ref jo), (4, .int (nI (1 + 4 * (j + 1))))]) hl [3, 4, 5, 6, 0] rfl)
          · skip
            have c_567 := (not_congr lc_eq).mp c_567
            exact absurd (pk_uLs.trans (by rw [INV_same hn hI.2.1])) c_567
        · skip
          have c_558 := bI_t c_558
          refine lv_lconst (v := 1) hx hb d_L_law_561 (by decide +kernel) ?_
          refine lv_topl (fun w_22 ew_22 => ?_)
          have ew_22 : (bL (decide (n = z + 3) && alB (eq3 (drM 43 (ot, K1, V1, R1) (z + 3)).2.1 (drM 43 (ot, K1, V1, R1) (z + 3)).2.2.1 (drM 43 (ot, K1, V1, R1) (z + 3)).2.2.2 (shf (drM 43 (ot, K1, V1, R1) (z + 3)).2.1 43) (shf (drM 43 (ot, K1, V1, R1) (z + 3)).2.2.1 43) (shf (drM 43 (ot, K1, V1, R1) (z + 3)).2.2.2 43)) n)) = w_22 := (ew_22.trans (by rw [c_558]; rfl)).symm
          subst ew_22
          refine lv_goto (tgt := 566) hx hb d_L_law_562 (by decide) ?_
          refine W.lcmp hx hb d_L_law_566 ?_
          refine lv_if_eq (tgt := 572) hx hb d_L_law_567 (by decide) (fun c_567 => ?_) (fun c_567 => ?_)
          · skip
            have c_567 := lc_eq.mp c_567
            refine lv_goto (tgt := 600) hx hb d_L_law_572 (by decide) ?_
            refine lv_iinc (v := nI (1 + 4 * (j + 1))) (lv' := [(4, .int (nI (1 + 4 * (j + 1)))), (6, .int (bI (decide (n = z + 3) && alB (eq3 (drM 43 (ot, K1, V1, R1) (z + 3)).2.1 (drM 43 (ot, K1, V1, R1) (z + 3)).2.2.1 (drM 43 (ot, K1, V1, R1) (z + 3)).2.2.2 (shf (drM 43 (ot, K1, V1, R1) (z + 3)).2.1 43) (shf (drM 43 (ot, K1, V1, R1) (z + 3)).2.2.1 43) (shf (drM 43 (ot, K1, V1, R1) (z + 3)).2.2.2 43)) n))), (5, .int (nI 0)), (0, .ref b), (1, .ref jd), (2, .ref jm), (3, .ref jo)]) hx hb d_L_law_600 hl (k := 6) rfl (lw_inc j) (by decide) rfl (fun ls hl => ?_)
            refine lv_goto (tgt := 35) hx hb d_L_law_603 (by decide) ?_
            refine W.widen (k := 22 + (j + 1)) (n := 1195 + 6 * (j + 1)) (by omega) (by omega) ?_
            exact ih n x w K V R G B S (z + 3) ((flS ot K2 V2 R2 z).1) ((flS ot K2 V2 R2 z).2.1) ((flS ot K2 V2 R2 z).2.2.1) ((flS ot K2 V2 R2 z).2.2.2) (nI 0) ((drM 43 (ot, K1, V1, R1) (z + 3)).1) ((drM 43 (ot, K1, V1, R1) (z + 3)).2.1) ((drM 43 (ot, K1, V1, R1) (z + 3)).2.2.1) ((drM 43 (ot, K1, V1, R1) (z + 3)).2.2.2) Lf Go (vp_updL O 0 (bL (lkB n (z + 3) K V R (flS ot K2 V2 R2 z).2.1 (flS ot K2 V2 R2 z).2.2.1 (flS ot K2 V2 R2 z).2.2.2))) (hI.kp (dr_low (z + 3))) (by omega) _ _ (hP.sub (ws' := [(jd, .inr (2, [.long sd, .ref jh, .ref jh2, .ref jg, .ref jb, .ref jy, .long w])), (jh, .inr (1, [.ref jt, .ref jk, .ref jv, .ref jr, .int (nI n)])), (jt, .inr (0, [.long x])), (jk, .inl (ck, 43, .inl K)), (jv, .inl (cv, 43, .inl V)), (jr, .inl (cr, 43, .inl R)), (jh2, .inr (1, [.ref jt2, .ref jk2, .ref jv2, .ref jr2, .int (nI (z + 3))])), (jt2, .inr (0, [.long ((flS ot K2 V2 R2 z).1)])), (jk2, .inl (ck2, 43, .inl ((flS ot K2 V2 R2 z).2.1))), (jv2, .inl (cv2, 43, .inl ((flS ot K2 V2 R2 z).2.2.1))), (jr2, .inl (cr2, 43, .inl ((flS ot K2 V2 R2 z).2.2.2))), (jg, .inl (cg, 43, .inr (.inl G))), (jb, .inl (cb, 8, .inr (.inl B))), (jy, .inl (cy, 256, .inl (bF S))), (jm, .inr (3, [.int (nI 0), .long sd, .long ((drM 43 (ot, K1, V1, R1) (z + 3)).1), .int (nI n), .ref ik, .ref iv, .ref ir, .ref il, .ref iy, .ref ig])), (ik, .inl (dk, 86, .inl ((drM 43 (ot, K1, V1, R1) (z + 3)).2.1))), (iv, .inl (dv, 86, .inl ((drM 43 (ot, K1, V1, R1) (z + 3)).2.2.1))), (ir, .inl (dr, 86, .inl ((drM 43 (ot, K1, V1, R1) (z + 3)).2.2.2))), (il, .inl (dl, 43, .inl (bF Lf))), (iy, .inl (dy, 256, .inl (bF S))), (ig, .inl (dg, 43, .inl (bF Go))), (jo, .inl (co, 1, .inr (.inl (vp_updL O 0 (bL (lkB n (z + 3) K V R (flS ot K2 V2 R2 z).2.1 (flS ot K2 V2 R2 z).2.2.1 (flS ot K2 V2 R2 z).2.2.2))))))]) [7, 8, 0, 9, 10, 11, 12, 13, 14, 15, 16, 1, 2, 3, 18, 19, 20, 21, 4, 5, 6, 17] rfl) (hD.sub (ws' := [(jd, .inr (2, [.long sd, .ref jh, .ref jh2, .ref jg, .ref jb, .ref jy, .long w])), (jh, .inr (1, [.ref jt, .ref jk, .ref jv, .ref jr, .int (nI n)])), (jt, .inr (0, [.long x])), (jk, .inl (ck, 43, .inl K)), (jv, .inl (cv, 43, .inl V)), (jr, .inl (cr, 43, .inl R)), (jh2, .inr (1, [.ref jt2, .ref jk2, .ref jv2, .ref jr2, .int (nI (z + 3))])), (jt2, .inr (0, [.long ((flS ot K2 V2 R2 z).1)])), (jk2, .inl (ck2, 43, .inl ((flS ot K2 V2 R2 z).2.1))), (jv2, .inl (cv2, 43, .inl ((flS ot K2 V2 R2 z).2.2.1))), (jr2, .inl (cr2, 43, .inl ((flS ot K2 V2 R2 z).2.2.2))), (jg, .inl (cg, 43, .inr (.inl G))), (jb, .inl (cb, 8, .inr (.inl B))), (jy, .inl (cy, 256, .inl (bF S))), (jm, .inr (3, [.int (nI 0), .long sd, .long ((drM 43 (ot, K1, V1, R1) (z + 3)).1), .int (nI n), .ref ik, .ref iv, .ref ir, .ref il, .ref iy, .ref ig])), (ik, .inl (dk, 86, .inl ((drM 43 (ot, K1, V1, R1) (z + 3)).2.1))), (iv, .inl (dv, 86, .inl ((drM 43 (ot, K1, V1, R1) (z + 3)).2.2.1))), (ir, .inl (dr, 86, .inl ((drM 43 (ot, K1, V1, R1) (z + 3)).2.2.2))), (il, .inl (dl, 43, .inl (bF Lf))), (iy, .inl (dy, 256, .inl (bF S))), (ig, .inl (dg, 43, .inl (bF Go))), (jo, .inl (co, 1, .inr (.inl (vp_updL O 0 (bL (lkB n (z + 3) K V R (flS ot K2 V2 R2 z).2.1 (flS ot K2 V2 R2 z).2.2.1 (flS ot K2 V2 R2 z).2.2.2))))))]) [7, 8, 0, 9, 10, 11, 12, 13, 14, 15, 16, 1, 2, 3, 18, 19, 20, 21, 4, 5, 6, 17] (by decide) rfl) hS ls (lv_sub (l' := [(0, .ref b), (1, .ref jd), (2, .ref jm), (3, .ref jo), (4, .int (nI (1 + 4 * (j + 1))))]) hl [3, 4, 5, 6, 0] rfl)
          · skip
            have c_567 := (not_congr lc_eq).mp c_567
            exact absurd (pk_uLs.trans (by rw [INV_same hn hI.2.1])) c_567
    · skip
      have c_543 := (not_congr (nI_eq (by omega) (by omega))).mp c_543
      exact absurd rfl c_543
  · skip
    refine lv_aload_n hx hb d_L_law_468 rfl (lv_at hl 1 rfl) ?_
    refine lv_aload_n hx hb d_L_law_469 rfl (lv_at hl 0 rfl) ?_
    refine lv_iload hx hb d_L_law_470 (lv_at hl 4 rfl) ?_
    refine lv_iconst (v := nI 1) hx hb d_L_law_472 (by decide +kernel) ?_
    refine lv_iadd hx hb d_L_law_473 ?_
    refine lv_topi (fun w_23 ew_23 => ?_)
    have ew_23 : (nI ((1 + 4 * j) + 1)) = w_23 := (ew_23.trans (nI_add _ _)).symm
    subst ew_23
    refine va_sld hx hb hX hbl hbA hS (vp_in_nI (by omega) (by omega)) d_L_law_474 ?_
    refine lv_topi (fun w_24 ew_24 => ?_)
    rw [nI_clamp (by omega)] at ew_24
    have ew_24 := ew_24.symm
    subst ew_24
    refine lv_i2l hx hb d_L_law_475 rfl ?_
    refine lv_bipush (v := nI 32) hx hb d_L_law_476 (by decide +kernel) ?_
    refine lv_lshl hx hb d_L_law_478 rfl ?_
    refine lv_aload_n hx hb d_L_law_479 rfl (lv_at hl 0 rfl) ?_
    refine lv_iload hx hb d_L_law_480 (lv_at hl 4 rfl) ?_
    refine lv_iconst (v := nI 2) hx hb d_L_law_482 (by decide +kernel) ?_
    refine lv_iadd hx hb d_L_law_483 ?_
    refine lv_topi (fun w_25 ew_25 => ?_)
    have ew_25 : (nI ((1 + 4 * j) + 2)) = w_25 := (ew_25.trans (nI_add _ _)).symm
    subst ew_25
    refine va_sld hx hb hX hbl hbA hS (vp_in_nI (by omega) (by omega)) d_L_law_484 ?_
    refine lv_topi (fun w_26 ew_26 => ?_)
    rw [nI_clamp (by omega)] at ew_26
    have ew_26 := ew_26.symm
    subst ew_26
    refine lv_i2l hx hb d_L_law_485 rfl ?_
    refine lv_ldc2 (v := 4294967295) hx hb hown (hts _ (List.mem_cons_of_mem _ m_483)) d_L_law_486 ?_
    refine lv_land hx hb d_L_law_489 ?_
    refine lv_lor hx hb d_L_law_490 ?_
    refine lv_topl (fun w_27 ew_27 => ?_)
    have ew_27 : ot = w_27 := (ew_27.trans (eot.symm)).symm
    subst ew_27
    refine lv_aload_n hx hb d_L_law_491 rfl (lv_at hl 0 rfl) ?_
    refine lv_iload hx hb d_L_law_492 (lv_at hl 4 rfl) ?_
    refine lv_iconst (v := nI 3) hx hb d_L_law_494 (by decide +kernel) ?_
    refine lv_iadd hx hb d_L_law_495 ?_
    refine lv_topi (fun w_28 ew_28 => ?_)
    have ew_28 : (nI ((1 + 4 * j) + 3)) = w_28 := (ew_28.trans (nI_add _ _)).symm
    subst ew_28
    refine va_sld hx hb hX hbl hbA hS (vp_in_nI (by omega) (by omega)) d_L_law_496 ?_
    refine lv_topi (fun w_29 ew_29 => ?_)
    rw [nI_clamp (by omega)] at ew_29
    have ew_29 := ew_29.symm
    subst ew_29
    refine lv_aload_n hx hb d_L_law_497 rfl (lv_at hl 3 rfl) ?_
    have hPc := hP.sub (ws' := [(jd, .inr (2, [.long sd, .ref jh, .ref jh2, .ref jg, .ref jb, .ref jy, .long w])), (jo, .inl (co, 1, .inr (.inl O)))]) [0, 21] rfl
    have hKc := hK.sub (tys' := [(co, .long)]) [15] rfl
    have hDc := hD.sub (ws' := [(jd, .inr (2, [.long sd, .ref jh, .ref jh2, .ref jg, .ref jb, .ref jy, .long w])), (jo, .inl (co, 1, .inr (.inl O)))]) [0, 21] (by decide) rfl
    have hFc := va_free (wc := [(jd, .inr (2, [.long sd, .ref jh, .ref jh2, .ref jg, .ref jb, .ref jy, .long w])), (jo, .inl (co, 1, .inr (.inl O)))]) hD hS hA [0, 21] rfl
    refine va_calli (vx_runSW (As := [.ref jd, .long ot, .int (xs ((1 + 4 * j) + 3)), .ref jo]) (rest := []) ⟨hx, hb, hml, hown, hts⟩ (c_L_samex l hl9 dC dI jd jh jh2 jg jb jy sd w ot (xs ((1 + 4 * j) + 3)) jo co O hs9 sa _) (vx_cwSW 4 hts (g_SW big_w m_319 m_320 m_0 m_321) rfl rfl rfl (by decide +kernel) ⟨Nat.le_of_ble_eq_true rfl, Nat.le_of_ble_eq_true rfl⟩) (wx_S hPc hKc hDc hN hT hZ hS hFc) rfl rfl hl.1 rfl (lv_room (Nat.le_of_ble_eq_true rfl)) d_L_law_498 ⟨by show 22 + j + 1 ≤ 1052; omega, by show 1195 + 6 * j + 6 ≤ 9423; omega⟩) hS (fun q _ h => hFc q h) hFc (fun r_30 u t H1 locs ht hvm hw hB hz1 hk1 hS => ?_)
    obtain ⟨hP1, hK1, hD1⟩ := hB
    rw [ht] at hP1
    obtain ⟨hP, hD⟩ := va_join (wr := [(jh, .inr (1, [.ref jt, .ref jk, .ref jv, .ref jr, .int (nI n)])), (jt, .inr (0, [.long x])), (jk, .inl (ck, 43, .inl K)), (jv, .inl (cv, 43, .inl V)), (jr, .inl (cr, 43, .inl R)), (jh2, .inr (1, [.ref jt2, .ref jk2, .ref jv2, .ref jr2, .int (nI n2)])), (jt2, .inr (0, [.long x2])), (jk2, .inl (ck2, 43, .inl K2)), (jv2, .inl (cv2, 43, .inl V2)), (jr2, .inl (cr2, 43, .inl R2)), (jg, .inl (cg, 43, .inr (.inl G))), (jb, .inl (cb, 8, .inr (.inl B))), (jy, .inl (cy, 256, .inl (bF S))), (jm, .inr (3, [.int th, .long sd, .long tp, .int (nI n), .ref ik, .ref iv, .ref ir, .ref il, .ref iy, .ref ig])), (ik, .inl (dk, 86, .inl K1)), (iv, .inl (dv, 86, .inl V1)), (ir, .inl (dr, 86, .inl R1)), (il, .inl (dl, 43, .inl (bF Lf))), (iy, .inl (dy, 256, .inl (bF S))), (ig, .inl (dg, 43, .inl (bF Go)))]) (w1 := [(jd, .inr (2, [.long sd, .ref jh, .ref jh2, .ref jg, .ref jb, .ref jy, .long w])), (jo, .inl (co, 1, .inr (.inl O)))]) hP hD [0, 21] [1, 2, 3, 4, 5, 6, 7, 8, 9, 10, 11, 12, 13, 14, 15, 16, 17, 18, 19, 20] rfl rfl (by decide) (by decide) hk1 hFc hP1 hD1
    generalize H1 = H at hP hS ⊢
    have hP : va_P (dC, dI) classes [(jh, .inr (1, [.ref jt, .ref jk, .ref jv, .ref jr, .int (nI n)])), (jt, .inr (0, [.long x])), (jk, .inl (ck, 43, .inl K)), (jv, .inl (cv, 43, .inl V)), (jr, .inl (cr, 43, .inl R)), (jh2, .inr (1, [.ref jt2, .ref jk2, .ref jv2, .ref jr2, .int (nI n2)])), (jt2, .inr (0, [.long x2])), (jk2, .inl (ck2, 43, .inl K2)), (jv2, .inl (cv2, 43, .inl V2)), (jr2, .inl (cr2, 43, .inl R2)), (jg, .inl (cg, 43, .inr (.inl G))), (jb, .inl (cb, 8, .inr (.inl B))), (jy, .inl (cy, 256, .inl (bF S))), (jm, .inr (3, [.int th, .long sd, .long tp, .int (nI n), .ref ik, .ref iv, .ref ir, .ref il, .ref iy, .ref ig])), (ik, .inl (dk, 86, .inl K1)), (iv, .inl (dv, 86, .inl V1)), (ir, .inl (dr, 86, .inl R1)), (il, .inl (dl, 43, .inl (bF Lf))), (iy, .inl (dy, 256, .inl (bF S))), (ig, .inl (dg, 43, .inl (bF Go))), (jd, .inr (2, [.long sd, .ref jh, .ref jh2, .ref jg, .ref jb, .ref jy, .long w])), (jo, .inl (co, 1, .inr (.inl O)))] H := hP
    have hD : va_D (fun q : Nat => s.heap.size ≤ q) [(jh, .inr (1, [.ref jt, .ref jk, .ref jv, .ref jr, .int (nI n)])), (jt, .inr (0, [.long x])), (jk, .inl (ck, 43, .inl K)), (jv, .inl (cv, 43, .inl V)), (jr, .inl (cr, 43, .inl R)), (jh2, .inr (1, [.ref jt2, .ref jk2, .ref jv2, .ref jr2, .int (nI n2)])), (jt2, .inr (0, [.long x2])), (jk2, .inl (ck2, 43, .inl K2)), (jv2, .inl (cv2, 43, .inl V2)), (jr2, .inl (cr2, 43, .inl R2)), (jg, .inl (cg, 43, .inr (.inl G))), (jb, .inl (cb, 8, .inr (.inl B))), (jy, .inl (cy, 256, .inl (bF S))), (jm, .inr (3, [.int th, .long sd, .long tp, .int (nI n), .ref ik, .ref iv, .ref ir, .ref il, .ref iy, .ref ig])), (ik, .inl (dk, 86, .inl K1)), (iv, .inl (dv, 86, .inl V1)), (ir, .inl (dr, 86, .inl R1)), (il, .inl (dl, 43, .inl (bF Lf))), (iy, .inl (dy, 256, .inl (bF S))), (ig, .inl (dg, 43, .inl (bF Go))), (jd, .inr (2, [.long sd, .ref jh, .ref jh2, .ref jg, .ref jb, .ref jy, .long w])), (jo, .inl (co, 1, .inr (.inl O)))] := hD
    refine W.cs (cells' := (22 + j + 1)) (slots' := (1195 + 6 * j + 6)) rfl rfl ?_
    have hw := hw.symm
    subst hw
    refine lv_istore (lv' := [(5, .int (nI 1)), (0, .ref b), (1, .ref jd), (2, .ref jm), (3, .ref jo), (4, .int (nI (1 + 4 * j)))]) hx hb d_L_law_501 hl (by decide) rfl (fun ls hl => ?_)
    refine lv_aload_n hx hb d_L_law_503 rfl (lv_at hl 3 rfl) ?_
    refine lv_aload_n hx hb d_L_law_504 rfl (lv_at hl 1 rfl) ?_
    refine lv_iload hx hb d_L_law_505 (lv_at hl 5 rfl) ?_
    refine lv_iconst (v := nI 1) hx hb d_L_law_507 (by decide +kernel) ?_
    refine lv_iadd hx hb d_L_law_508 ?_
    refine lv_topi (fun w_31 ew_31 => ?_)
    have ew_31 : (nI ((1 + 4 * j) + 1)) = w_31 := (ew_31.trans (nI_add _ _)).symm
    subst ew_31
    refine va_sld hx hb hX hbl hbA hS (vp_in_nI (by omega) (by omega)) d_L_law_509 ?_
    refine lv_topi (fun w_32 ew_32 => ?_)
    rw [nI_clamp (by omega)] at ew_32
    have ew_32 := ew_32.symm
    subst ew_32
    refine lv_i2l hx hb d_L_law_510 rfl ?_
    refine lv_bipush (v := nI 32) hx hb d_L_law_511 (by decide +kernel) ?_
    refine lv_lshl hx hb d_L_law_513 rfl ?_
    refine lv_aload_n hx hb d_L_law_514 rfl (lv_at hl 1 rfl) ?_
    refine lv_iload hx hb d_L_law_515 (lv_at hl 5 rfl) ?_
    refine lv_iconst (v := nI 2) hx hb d_L_law_517 (by decide +kernel) ?_
    refine lv_iadd hx hb d_L_law_518 ?_
    refine lv_topi (fun w_33 ew_33 => ?_)
    have ew_33 : (nI ((1 + 4 * j) + 2)) = w_33 := (ew_33.trans (nI_add _ _)).symm
    subst ew_33
    refine va_sld hx hb hX hbl hbA hS (vp_in_nI (by omega) (by omega)) d_L_law_519 ?_
    refine lv_topi (fun w_34 ew_34 => ?_)
    rw [nI_clamp (by omega)] at ew_34
    have ew_34 := ew_34.symm
    subst ew_34
    refine lv_i2l hx hb d_L_law_520 rfl ?_
    refine lv_ldc2 (v := 4294967295) hx hb hown (hts _ (List.mem_cons_of_mem _ m_483)) d_L_law_521 ?_
    refine lv_land hx hb d_L_law_524 ?_
    refine lv_lor hx hb d_L_law_525 ?_
    refine lv_topl (fun w_35 ew_35 => ?_)
    have ew_35 : ot = w_35 := (ew_35.trans (eot.symm)).symm
    subst ew_35
    refine lv_aload_n hx hb d_L_law_526 rfl (lv_at hl 1 rfl) ?_
    refine lv_iload hx hb d_L_law_527 (lv_at hl 5 rfl) ?_
    refine lv_iconst (v := nI 3) hx hb d_L_law_529 (by decide +kernel) ?_
    refine lv_iadd hx hb d_L_law_530 ?_
    refine lv_topi (fun w_36 ew_36 => ?_)
    have ew_36 : (nI ((1 + 4 * j) + 3)) = w_36 := (ew_36.trans (nI_add _ _)).symm
    subst ew_36
    refine va_sld hx hb hX hbl hbA hS (vp_in_nI (by omega) (by omega)) d_L_law_531 ?_
    refine lv_topi (fun w_37 ew_37 => ?_)
    rw [nI_clamp (by omega)] at ew_37
    have ew_37 := ew_37.symm
    subst ew_37
    have hPc := hP.sub (ws' := [(jm, .inr (3, [.int th, .long sd, .long tp, .int (nI n), .ref ik, .ref iv, .ref ir, .ref il, .ref iy, .ref ig]))]) [13] rfl
    have hKc := hK.sub (tys' := []) [] rfl
    have hDc := hD.sub (ws' := [(jm, .inr (3, [.int th, .long sd, .long tp, .int (nI n), .ref ik, .ref iv, .ref ir, .ref il, .ref iy, .ref ig]))]) [13] (by decide) rfl
    have hFc := va_free (wc := [(jm, .inr (3, [.int th, .long sd, .long tp, .int (nI n), .ref ik, .ref iv, .ref ir, .ref il, .ref iy, .ref ig]))]) hD hS hA [13] rfl
    refine va_calli (va_runV (As := [.long ot, .int (xs ((1 + 4 * j) + 3))]) (rest := []) ⟨hx, hb, hml, hown, hts⟩ (c_M_samex l dC dI jm ik iv ir il iy ig n th sd tp ot (xs ((1 + 4 * j) + 3)) hs9 _) (cwV 2 hts (g_V big_w m_403 m_404 m_405 m_4 m_406) rfl rfl rfl (by decide +kernel) ⟨Nat.le_of_ble_eq_true rfl, Nat.le_of_ble_eq_true rfl⟩) (wr_V hPc hKc hDc hN (va_recv hKc hPc (ci := 3) (q0 := 0) rfl rfl)) rfl rfl hl.1 rfl (lv_room (Nat.le_of_ble_eq_true rfl)) d_L_law_532 ⟨by show 22 + j + 1 + 0 ≤ 1052; omega, by show 1195 + 6 * j + 6 + 0 ≤ 9423; omega⟩) hS (fun q _ h => hFc q h) hFc (fun r_38 u t H1 locs ht hvm hw hB hz1 hk1 hS => ?_)
    obtain ⟨hP1, hK1, hD1⟩ := hB
    rw [ht] at hP1
    obtain ⟨hP, hD⟩ := va_join (wr := [(jh, .inr (1, [.ref jt, .ref jk, .ref jv, .ref jr, .int (nI n)])), (jt, .inr (0, [.long x])), (jk, .inl (ck, 43, .inl K)), (jv, .inl (cv, 43, .inl V)), (jr, .inl (cr, 43, .inl R)), (jh2, .inr (1, [.ref jt2, .ref jk2, .ref jv2, .ref jr2, .int (nI n2)])), (jt2, .inr (0, [.long x2])), (jk2, .inl (ck2, 43, .inl K2)), (jv2, .inl (cv2, 43, .inl V2)), (jr2, .inl (cr2, 43, .inl R2)), (jg, .inl (cg, 43, .inr (.inl G))), (jb, .inl (cb, 8, .inr (.inl B))), (jy, .inl (cy, 256, .inl (bF S))), (ik, .inl (dk, 86, .inl K1)), (iv, .inl (dv, 86, .inl V1)), (ir, .inl (dr, 86, .inl R1)), (il, .inl (dl, 43, .inl (bF Lf))), (iy, .inl (dy, 256, .inl (bF S))), (ig, .inl (dg, 43, .inl (bF Go))), (jd, .inr (2, [.long sd, .ref jh, .ref jh2, .ref jg, .ref jb, .ref jy, .long w])), (jo, .inl (co, 1, .inr (.inl O)))]) (w1 := [(jm, .inr (3, [.int (nI 1), .long sd, .long tp, .int (nI n), .ref ik, .ref iv, .ref ir, .ref il, .ref iy, .ref ig]))]) hP hD [13] [0, 1, 2, 3, 4, 5, 6, 7, 8, 9, 10, 11, 12, 14, 15, 16, 17, 18, 19, 20, 21] rfl rfl (by decide) (by decide) hk1 hFc hP1 hD1
    generalize H1 = H at hP hS ⊢
    have hP : va_P (dC, dI) classes [(jh, .inr (1, [.ref jt, .ref jk, .ref jv, .ref jr, .int (nI n)])), (jt, .inr (0, [.long x])), (jk, .inl (ck, 43, .inl K)), (jv, .inl (cv, 43, .inl V)), (jr, .inl (cr, 43, .inl R)), (jh2, .inr (1, [.ref jt2, .ref jk2, .ref jv2, .ref jr2, .int (nI n2)])), (jt2, .inr (0, [.long x2])), (jk2, .inl (ck2, 43, .inl K2)), (jv2, .inl (cv2, 43, .inl V2)), (jr2, .inl (cr2, 43, .inl R2)), (jg, .inl (cg, 43, .inr (.inl G))), (jb, .inl (cb, 8, .inr (.inl B))), (jy, .inl (cy, 256, .inl (bF S))), (ik, .inl (dk, 86, .inl K1)), (iv, .inl (dv, 86, .inl V1)), (ir, .inl (dr, 86, .inl R1)), (il, .inl (dl, 43, .inl (bF Lf))), (iy, .inl (dy, 256, .inl (bF S))), (ig, .inl (dg, 43, .inl (bF Go))), (jd, .inr (2, [.long sd, .ref jh, .ref jh2, .ref jg, .ref jb, .ref jy, .long w])), (jo, .inl (co, 1, .inr (.inl O))), (jm, .inr (3, [.int (nI 1), .long sd, .long tp, .int (nI n), .ref ik, .ref iv, .ref ir, .ref il, .ref iy, .ref ig]))] H := hP
    have hD : va_D (fun q : Nat => s.heap.size ≤ q) [(jh, .inr (1, [.ref jt, .ref jk, .ref jv, .ref jr, .int (nI n)])), (jt, .inr (0, [.long x])), (jk, .inl (ck, 43, .inl K)), (jv, .inl (cv, 43, .inl V)), (jr, .inl (cr, 43, .inl R)), (jh2, .inr (1, [.ref jt2, .ref jk2, .ref jv2, .ref jr2, .int (nI n2)])), (jt2, .inr (0, [.long x2])), (jk2, .inl (ck2, 43, .inl K2)), (jv2, .inl (cv2, 43, .inl V2)), (jr2, .inl (cr2, 43, .inl R2)), (jg, .inl (cg, 43, .inr (.inl G))), (jb, .inl (cb, 8, .inr (.inl B))), (jy, .inl (cy, 256, .inl (bF S))), (ik, .inl (dk, 86, .inl K1)), (iv, .inl (dv, 86, .inl V1)), (ir, .inl (dr, 86, .inl R1)), (il, .inl (dl, 43, .inl (bF Lf))), (iy, .inl (dy, 256, .inl (bF S))), (ig, .inl (dg, 43, .inl (bF Go))), (jd, .inr (2, [.long sd, .ref jh, .ref jh2, .ref jg, .ref jb, .ref jy, .long w])), (jo, .inl (co, 1, .inr (.inl O))), (jm, .inr (3, [.int (nI 1), .long sd, .long tp, .int (nI n), .ref ik, .ref iv, .ref ir, .ref il, .ref iy, .ref ig]))] := hD
    have hw := hw.symm
    subst hw
    refine lv_istore (lv' := [(6, .int (nI 0)), (5, .int (nI 1)), (0, .ref b), (1, .ref jd), (2, .ref jm), (3, .ref jo), (4, .int (nI (1 + 4 * j)))]) hx hb d_L_law_535 hl (by decide) rfl (fun ls hl => ?_)
    refine lv_aload_n hx hb d_L_law_537 rfl (lv_at hl 4 rfl) ?_
    have hPc := hP.sub (ws' := [(jm, .inr (3, [.int (nI 1), .long sd, .long tp, .int (nI n), .ref ik, .ref iv, .ref ir, .ref il, .ref iy, .ref ig]))]) [21] rfl
    have hKc := hK.sub (tys' := []) [] rfl
    refine vp_callSi (W.runV (As := []) (rest := []) ⟨hx, hb, hml, hown, hts⟩ (c_M_thrown l dC dI jm ik iv ir il iy ig n (nI 1) sd tp) (cwV 0 hts (g_V big_w m_367 m_368 m_369 m_4 m_370) rfl rfl rfl (by decide +kernel) ⟨Nat.le_of_ble_eq_true rfl, Nat.le_of_ble_eq_true rfl⟩) (ro_V hPc hKc hN (va_recv hKc hPc (ci := 3) (q0 := 0) rfl rfl)) rfl rfl hl.1 rfl (lv_room (Nat.le_of_ble_eq_true rfl)) d_L_law_538 ⟨by show 22 + j + 1 + 0 ≤ 1052; omega, by show 1195 + 6 * j + 6 + 0 ≤ 9423; omega⟩) (fun r_39 er_39 => ?_)
    have er_39 := er_39.symm
    subst er_39
    refine lv_iload hx hb d_L_law_541 (lv_at hl 1 rfl) ?_
    refine lv_icmp_eq (tgt := 548) hx hb d_L_law_543 (by decide) (fun c_543 => ?_) (fun c_543 => ?_)
    · skip
      have c_543 := (nI_eq (by omega) (by omega)).mp c_543
      refine lv_iload hx hb d_L_law_548 (lv_at hl 1 rfl) ?_
      refine lv_if_ne (tgt := 572) hx hb d_L_law_550 (by decide) (fun c_550 => ?_) (fun c_550 => ?_)
      · skip
        have c_550 := (not_congr (nI_z (by omega))).mp c_550
        refine lv_goto (tgt := 600) hx hb d_L_law_572 (by decide) ?_
        refine lv_iinc (v := nI (1 + 4 * (j + 1))) (lv' := [(4, .int (nI (1 + 4 * (j + 1)))), (6, .int (nI 0)), (5, .int (nI 1)), (0, .ref b), (1, .ref jd), (2, .ref jm), (3, .ref jo)]) hx hb d_L_law_600 hl (k := 6) rfl (lw_inc j) (by decide) rfl (fun ls hl => ?_)
        refine lv_goto (tgt := 35) hx hb d_L_law_603 (by decide) ?_
        refine W.widen (k := 22 + (j + 1)) (n := 1195 + 6 * (j + 1)) (by omega) (by omega) ?_
        exact ih n x w K V R G B S n2 x2 K2 V2 R2 (nI 1) tp K1 V1 R1 Lf Go O hI hn2 _ _ (hP.sub (ws' := [(jd, .inr (2, [.long sd, .ref jh, .ref jh2, .ref jg, .ref jb, .ref jy, .long w])), (jh, .inr (1, [.ref jt, .ref jk, .ref jv, .ref jr, .int (nI n)])), (jt, .inr (0, [.long x])), (jk, .inl (ck, 43, .inl K)), (jv, .inl (cv, 43, .inl V)), (jr, .inl (cr, 43, .inl R)), (jh2, .inr (1, [.ref jt2, .ref jk2, .ref jv2, .ref jr2, .int (nI n2)])), (jt2, .inr (0, [.long x2])), (jk2, .inl (ck2, 43, .inl K2)), (jv2, .inl (cv2, 43, .inl V2)), (jr2, .inl (cr2, 43, .inl R2)), (jg, .inl (cg, 43, .inr (.inl G))), (jb, .inl (cb, 8, .inr (.inl B))), (jy, .inl (cy, 256, .inl (bF S))), (jm, .inr (3, [.int (nI 1), .long sd, .long tp, .int (nI n), .ref ik, .ref iv, .ref ir, .ref il, .ref iy, .ref ig])), (ik, .inl (dk, 86, .inl K1)), (iv, .inl (dv, 86, .inl V1)), (ir, .inl (dr, 86, .inl R1)), (il, .inl (dl, 43, .inl (bF Lf))), (iy, .inl (dy, 256, .inl (bF S))), (ig, .inl (dg, 43, .inl (bF Go))), (jo, .inl (co, 1, .inr (.inl O)))]) [19, 0, 1, 2, 3, 4, 5, 6, 7, 8, 9, 10, 11, 12, 21, 13, 14, 15, 16, 17, 18, 20] rfl) (hD.sub (ws' := [(jd, .inr (2, [.long sd, .ref jh, .ref jh2, .ref jg, .ref jb, .ref jy, .long w])), (jh, .inr (1, [.ref jt, .ref jk, .ref jv, .ref jr, .int (nI n)])), (jt, .inr (0, [.long x])), (jk, .inl (ck, 43, .inl K)), (jv, .inl (cv, 43, .inl V)), (jr, .inl (cr, 43, .inl R)), (jh2, .inr (1, [.ref jt2, .ref jk2, .ref jv2, .ref jr2, .int (nI n2)])), (jt2, .inr (0, [.long x2])), (jk2, .inl (ck2, 43, .inl K2)), (jv2, .inl (cv2, 43, .inl V2)), (jr2, .inl (cr2, 43, .inl R2)), (jg, .inl (cg, 43, .inr (.inl G))), (jb, .inl (cb, 8, .inr (.inl B))), (jy, .inl (cy, 256, .inl (bF S))), (jm, .inr (3, [.int (nI 1), .long sd, .long tp, .int (nI n), .ref ik, .ref iv, .ref ir, .ref il, .ref iy, .ref ig])), (ik, .inl (dk, 86, .inl K1)), (iv, .inl (dv, 86, .inl V1)), (ir, .inl (dr, 86, .inl R1)), (il, .inl (dl, 43, .inl (bF Lf))), (iy, .inl (dy, 256, .inl (bF S))), (ig, .inl (dg, 43, .inl (bF Go))), (jo, .inl (co, 1, .inr (.inl O)))]) [19, 0, 1, 2, 3, 4, 5, 6, 7, 8, 9, 10, 11, 12, 21, 13, 14, 15, 16, 17, 18, 20] (by decide) rfl) hS ls (lv_sub (l' := [(0, .ref b), (1, .ref jd), (2, .ref jm), (3, .ref jo), (4, .int (nI (1 + 4 * (j + 1))))]) hl [3, 4, 5, 6, 0] rfl)
      · skip
        have c_550 := (nI_z (by omega)).mp c_550
        exact absurd c_550 (by decide)
    · skip
      have c_543 := (not_congr (nI_eq (by omega) (by omega))).mp c_543
      exact absurd rfl c_543
