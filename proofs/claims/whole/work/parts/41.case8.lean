set_option maxHeartbeats 8000000 in
set_option maxRecDepth 100000 in
/-- the law, case 8 -/
theorem law_case_8 {p : Program} {l : Launch} {e : Env} {s : State} {m : MethodId} {below : List Frame} {meth : Method} {c : Code} {dC : Nat → ClassId} {dI : Nat → Nat → Nat} {b Ln : Nat} {xs : Nat → Int32} {sa : Nat → Nat} {jd jh jt jk jv jr jh2 jt2 jk2 jv2 jr2 jg jb jy jm ik iv ir il iy ig jo : Nat} {ck cv cr ck2 cv2 cr2 cg cb cy dk dv dr dl dy dg co : ClassId} {sd : Int64} (hl9 : l.stackTraces = false) (hL : Ln ≤ 2049) (hx : p.tables.exec = Jvm.exec) (hb : c.code = code) (hr : meth.sig.returnType = ret) (hml : c.maxLocals = 7) (hown : s.vm.findClass R_L = some m.cls) (hts : ∀ w ∈ (Jvm.Cond.initialized "PortDrawerLaw" :: tblG), w.before #[Value.ref b] s = true) (hX : va_X b Ln xs s s.heap) (hbl : b < s.heap.size) (hlocks : meth.locks = false) (hN : NW s) (hT : TX sa s) (hZ : zqU (fun q : Nat => s.heap.size ≤ q) s s.heap) (hK : va_K (dC, dI) classes [(ck, .int), (cv, .int), (cr, .int), (ck2, .int), (cv2, .int), (cr2, .int), (cg, .long), (cb, .long), (cy, .boolean), (dk, .int), (dv, .int), (dr, .int), (dl, .boolean), (dy, .boolean), (dg, .boolean), (co, .long)] s)  (j : Nat) (hj : 4 * j ≤ Ln) (hj4 : 1 + 4 * j + 4 ≤ Ln) (ih : ∀ (n : Nat) (x w : Int64) (K V R : Nat → Int32) (G B : Nat → Int64) (S : Nat → Bool) (n2 : Nat) (x2 : Int64) (K2 V2 R2 : Nat → Int32) (th : Int32) (tp : Int64) (K1 V1 R1 : Nat → Int32) (Lf Go : Nat → Bool) (O : Nat → Int64), INV n K V R G B w K1 V1 R1 Lf → n2 ≤ 43 → ∀ (H : Heap) (locs : List Loc), va_P (dC, dI) classes [(jd, .inr (2, [.long sd, .ref jh, .ref jh2, .ref jg, .ref jb, .ref jy, .long w])), (jh, .inr (1, [.ref jt, .ref jk, .ref jv, .ref jr, .int (nI n)])), (jt, .inr (0, [.long x])), (jk, .inl (ck, 43, .inl K)), (jv, .inl (cv, 43, .inl V)), (jr, .inl (cr, 43, .inl R)), (jh2, .inr (1, [.ref jt2, .ref jk2, .ref jv2, .ref jr2, .int (nI n2)])), (jt2, .inr (0, [.long x2])), (jk2, .inl (ck2, 43, .inl K2)), (jv2, .inl (cv2, 43, .inl V2)), (jr2, .inl (cr2, 43, .inl R2)), (jg, .inl (cg, 43, .inr (.inl G))), (jb, .inl (cb, 8, .inr (.inl B))), (jy, .inl (cy, 256, .inl (bF S))), (jm, .inr (3, [.int th, .long sd, .long tp, .int (nI n), .ref ik, .ref iv, .ref ir, .ref il, .ref iy, .ref ig])), (ik, .inl (dk, 86, .inl K1)), (iv, .inl (dv, 86, .inl V1)), (ir, .inl (dr, 86, .inl R1)), (il, .inl (dl, 43, .inl (bF Lf))), (iy, .inl (dy, 256, .inl (bF S))), (ig, .inl (dg, 43, .inl (bF Go))), (jo, .inl (co, 1, .inr (.inl O)))] H → va_D (fun q : Nat => s.heap.size ≤ q) [(jd, .inr (2, [.long sd, .ref jh, .ref jh2, .ref jg, .ref jb, .ref jy, .long w])), (jh, .inr (1, [.ref jt, .ref jk, .ref jv, .ref jr, .int (nI n)])), (jt, .inr (0, [.long x])), (jk, .inl (ck, 43, .inl K)), (jv, .inl (cv, 43, .inl V)), (jr, .inl (cr, 43, .inl R)), (jh2, .inr (1, [.ref jt2, .ref jk2, .ref jv2, .ref jr2, .int (nI n2)])), (jt2, .inr (0, [.long x2])), (jk2, .inl (ck2, 43, .inl K2)), (jv2, .inl (cv2, 43, .inl V2)), (jr2, .inl (cr2, 43, .inl R2)), (jg, .inl (cg, 43, .inr (.inl G))), (jb, .inl (cb, 8, .inr (.inl B))), (jy, .inl (cy, 256, .inl (bF S))), (jm, .inr (3, [.int th, .long sd, .long tp, .int (nI n), .ref ik, .ref iv, .ref ir, .ref il, .ref iy, .ref ig])), (ik, .inl (dk, 86, .inl K1)), (iv, .inl (dv, 86, .inl V1)), (ir, .inl (dr, 86, .inl R1)), (il, .inl (dl, 43, .inl (bF Lf))), (iy, .inl (dy, 256, .inl (bF S))), (ig, .inl (dg, 43, .inl (bF Go))), (jo, .inl (co, 1, .inr (.inl O)))] → va_S (fun q : Nat => s.heap.size ≤ q) s.heap H locs → ∀ (ls : Array Slot), lv_has ls 7 [(0, .ref b), (1, .ref jd), (2, .ref jm), (3, .ref jo), (4, .int (nI (1 + 4 * (j + 1))))] → W p l e room_1 s m #[Value.ref b] below meth c H locs (22 + (j + 1)) (1195 + 6 * (j + 1)) (lw_Z below #[Value.ref b] s) (F0 m 35 ls [])) (n : Nat) (x w : Int64) (K V R : Nat → Int32) (G B : Nat → Int64) (S : Nat → Bool) (n2 : Nat) (x2 : Int64) (K2 V2 R2 : Nat → Int32) (th : Int32) (tp : Int64) (K1 V1 R1 : Nat → Int32) (Lf Go : Nat → Bool) (O : Nat → Int64) (hI : INV n K V R G B w K1 V1 R1 Lf) (hn2 : n2 ≤ 43) (H : Heap) (locs : List Loc) (hP : va_P (dC, dI) classes [(jd, .inr (2, [.long sd, .ref jh, .ref jh2, .ref jg, .ref jb, .ref jy, .long w])), (jh, .inr (1, [.ref jt, .ref jk, .ref jv, .ref jr, .int (nI n)])), (jt, .inr (0, [.long x])), (jk, .inl (ck, 43, .inl K)), (jv, .inl (cv, 43, .inl V)), (jr, .inl (cr, 43, .inl R)), (jh2, .inr (1, [.ref jt2, .ref jk2, .ref jv2, .ref jr2, .int (nI n2)])), (jt2, .inr (0, [.long x2])), (jk2, .inl (ck2, 43, .inl K2)), (jv2, .inl (cv2, 43, .inl V2)), (jr2, .inl (cr2, 43, .inl R2)), (jg, .inl (cg, 43, .inr (.inl G))), (jb, .inl (cb, 8, .inr (.inl B))), (jy, .inl (cy, 256, .inl (bF S))), (jm, .inr (3, [.int th, .long sd, .long tp, .int (nI n), .ref ik, .ref iv, .ref ir, .ref il, .ref iy, .ref ig])), (ik, .inl (dk, 86, .inl K1)), (iv, .inl (dv, 86, .inl V1)), (ir, .inl (dr, 86, .inl R1)), (il, .inl (dl, 43, .inl (bF Lf))), (iy, .inl (dy, 256, .inl (bF S))), (ig, .inl (dg, 43, .inl (bF Go))), (jo, .inl (co, 1, .inr (.inl O)))] H) (hD : va_D (fun q : Nat => s.heap.size ≤ q) [(jd, .inr (2, [.long sd, .ref jh, .ref jh2, .ref jg, .ref jb, .ref jy, .long w])), (jh, .inr (1, [.ref jt, .ref jk, .ref jv, .ref jr, .int (nI n)])), (jt, .inr (0, [.long x])), (jk, .inl (ck, 43, .inl K)), (jv, .inl (cv, 43, .inl V)), (jr, .inl (cr, 43, .inl R)), (jh2, .inr (1, [.ref jt2, .ref jk2, .ref jv2, .ref jr2, .int (nI n2)])), (jt2, .inr (0, [.long x2])), (jk2, .inl (ck2, 43, .inl K2)), (jv2, .inl (cv2, 43, .inl V2)), (jr2, .inl (cr2, 43, .inl R2)), (jg, .inl (cg, 43, .inr (.inl G))), (jb, .inl (cb, 8, .inr (.inl B))), (jy, .inl (cy, 256, .inl (bF S))), (jm, .inr (3, [.int th, .long sd, .long tp, .int (nI n), .ref ik, .ref iv, .ref ir, .ref il, .ref iy, .ref ig])), (ik, .inl (dk, 86, .inl K1)), (iv, .inl (dv, 86, .inl V1)), (ir, .inl (dr, 86, .inl R1)), (il, .inl (dl, 43, .inl (bF Lf))), (iy, .inl (dy, 256, .inl (bF S))), (ig, .inl (dg, 43, .inl (bF Go))), (jo, .inl (co, 1, .inr (.inl O)))]) (hS : va_S (fun q : Nat => s.heap.size ≤ q) s.heap H locs) (ls : Array Slot) (hl : lv_has ls 7 [(0, .ref b), (1, .ref jd), (2, .ref jm), (3, .ref jo), (4, .int (nI (1 + 4 * j)))]) : W p l e room_1 s m #[Value.ref b] below meth c H locs (22 + j) (1195 + 6 * j) (lw_Z below #[Value.ref b] s) (F0 m 412 ls []) := by
  have hA : ∀ q : Nat, s.heap.size ≤ q → (fun q : Nat => s.heap.size ≤ q) q := fun _ h => h
  have hbA : ¬ (fun q : Nat => s.heap.size ≤ q) b := Nat.not_le.mpr hbl
  have hn := hI.1
  by_cases hs9 : hB n (xs (1 + 4 * j + 1)) = true ∧ Lf (xs (1 + 4 * j + 1)).toNatClampNeg = true
  · skip
    obtain ⟨i, hi, ez⟩ := hB_of hs9.1 (by omega)
    have hlf : Lf i = true := by have h := hs9.2; rw [ez, nI_clamp (by omega)] at h; exact h
    have hwi : wbit w i = true := hI.wi hi hlf
    refine lv_aload_n hx hb d_L_law_412 rfl (lv_at hl 1 rfl) ?_
    refine lv_aload_n hx hb d_L_law_413 rfl (lv_at hl 0 rfl) ?_
    refine lv_iload hx hb d_L_law_414 (lv_at hl 4 rfl) ?_
    refine lv_iconst (v := nI 1) hx hb d_L_law_416 (by decide +kernel) ?_
    refine lv_iadd hx hb d_L_law_417 ?_
    refine lv_topi (fun w_1 ew_1 => ?_)
    have ew_1 : (nI ((1 + 4 * j) + 1)) = w_1 := (ew_1.trans (nI_add _ _)).symm
    subst ew_1
    refine va_sld hx hb hX hbl hbA hS (vp_in_nI (by omega) (by omega)) d_L_law_418 ?_
    refine lv_topi (fun w_2 ew_2 => ?_)
    rw [nI_clamp (by omega)] at ew_2
    have ew_2 := ew_2.symm
    subst ew_2
    refine lv_topi (fun w_3 ew_3 => ?_)
    have ew_3 : (nI i) = w_3 := (ew_3.trans (ez)).symm
    subst ew_3
    refine lv_aload_n hx hb d_L_law_419 rfl (lv_at hl 3 rfl) ?_
    have hPc := hP.sub (ws' := [(jd, .inr (2, [.long sd, .ref jh, .ref jh2, .ref jg, .ref jb, .ref jy, .long w])), (jh, .inr (1, [.ref jt, .ref jk, .ref jv, .ref jr, .int (nI n)])), (jg, .inl (cg, 43, .inr (.inl G))), (jo, .inl (co, 1, .inr (.inl O)))]) [0, 1, 11, 21] rfl
    have hKc := hK.sub (tys' := [(cg, .long), (co, .long)]) [6, 15] rfl
    have hDc := hD.sub (ws' := [(jd, .inr (2, [.long sd, .ref jh, .ref jh2, .ref jg, .ref jb, .ref jy, .long w])), (jh, .inr (1, [.ref jt, .ref jk, .ref jv, .ref jr, .int (nI n)])), (jg, .inl (cg, 43, .inr (.inl G))), (jo, .inl (co, 1, .inr (.inl O)))]) [0, 1, 11, 21] (by decide) rfl
    have hFc := va_free (wc := [(jd, .inr (2, [.long sd, .ref jh, .ref jh2, .ref jg, .ref jb, .ref jy, .long w])), (jh, .inr (1, [.ref jt, .ref jk, .ref jv, .ref jr, .int (nI n)])), (jg, .inl (cg, 43, .inr (.inl G))), (jo, .inl (co, 1, .inr (.inl O)))]) hD hS hA [0, 1, 11, 21] rfl
    refine va_calli (vx_runSW (As := [.ref jd, .int (nI i), .ref jo]) (rest := []) ⟨hx, hb, hml, hown, hts⟩ (c_L_without l dC dI jd jh jh2 jg jb jy sd w jt jk jv jr n cg G i jo co O hn hi hwi _) (vx_cwSW 3 hts (g_SW big_w m_311 m_312 m_0 m_313) rfl rfl rfl (by decide +kernel) ⟨Nat.le_of_ble_eq_true rfl, Nat.le_of_ble_eq_true rfl⟩) (wr_S hPc hKc hDc hN) rfl rfl hl.1 rfl (lv_room (Nat.le_of_ble_eq_true rfl)) d_L_law_420 ⟨by show 22 + j + 0 ≤ 1052; omega, by show 1195 + 6 * j + 0 ≤ 9423; omega⟩) hS (fun q _ h => hFc q h) hFc (fun r_4 u t H1 locs ht hvm hw hB hz1 hk1 hS => ?_)
    obtain ⟨hP1, hK1, hD1⟩ := hB
    rw [ht] at hP1
    obtain ⟨hP, hD⟩ := va_join (wr := [(jt, .inr (0, [.long x])), (jk, .inl (ck, 43, .inl K)), (jv, .inl (cv, 43, .inl V)), (jr, .inl (cr, 43, .inl R)), (jh2, .inr (1, [.ref jt2, .ref jk2, .ref jv2, .ref jr2, .int (nI n2)])), (jt2, .inr (0, [.long x2])), (jk2, .inl (ck2, 43, .inl K2)), (jv2, .inl (cv2, 43, .inl V2)), (jr2, .inl (cr2, 43, .inl R2)), (jb, .inl (cb, 8, .inr (.inl B))), (jy, .inl (cy, 256, .inl (bF S))), (jm, .inr (3, [.int th, .long sd, .long tp, .int (nI n), .ref ik, .ref iv, .ref ir, .ref il, .ref iy, .ref ig])), (ik, .inl (dk, 86, .inl K1)), (iv, .inl (dv, 86, .inl V1)), (ir, .inl (dr, 86, .inl R1)), (il, .inl (dl, 43, .inl (bF Lf))), (iy, .inl (dy, 256, .inl (bF S))), (ig, .inl (dg, 43, .inl (bF Go)))]) (w1 := [(jd, .inr (2, [.long sd, .ref jh, .ref jh2, .ref jg, .ref jb, .ref jy, .long (noW w (G i))])), (jh, .inr (1, [.ref jt, .ref jk, .ref jv, .ref jr, .int (nI n)])), (jg, .inl (cg, 43, .inr (.inl G))), (jo, .inl (co, 1, .inr (.inl (vp_updL O 0 (((nI (cnt (wbit w) 64)) - (nI (cnt (wbit (noW w (G i))) 64))).toInt64)))))]) hP hD [0, 1, 11, 21] [2, 3, 4, 5, 6, 7, 8, 9, 10, 12, 13, 14, 15, 16, 17, 18, 19, 20] rfl rfl (by decide) (by decide) hk1 hFc hP1 hD1
    generalize H1 = H at hP hS ⊢
    have hP : va_P (dC, dI) classes [(jt, .inr (0, [.long x])), (jk, .inl (ck, 43, .inl K)), (jv, .inl (cv, 43, .inl V)), (jr, .inl (cr, 43, .inl R)), (jh2, .inr (1, [.ref jt2, .ref jk2, .ref jv2, .ref jr2, .int (nI n2)])), (jt2, .inr (0, [.long x2])), (jk2, .inl (ck2, 43, .inl K2)), (jv2, .inl (cv2, 43, .inl V2)), (jr2, .inl (cr2, 43, .inl R2)), (jb, .inl (cb, 8, .inr (.inl B))), (jy, .inl (cy, 256, .inl (bF S))), (jm, .inr (3, [.int th, .long sd, .long tp, .int (nI n), .ref ik, .ref iv, .ref ir, .ref il, .ref iy, .ref ig])), (ik, .inl (dk, 86, .inl K1)), (iv, .inl (dv, 86, .inl V1)), (ir, .inl (dr, 86, .inl R1)), (il, .inl (dl, 43, .inl (bF Lf))), (iy, .inl (dy, 256, .inl (bF S))), (ig, .inl (dg, 43, .inl (bF Go))), (jd, .inr (2, [.long sd, .ref jh, .ref jh2, .ref jg, .ref jb, .ref jy, .long (noW w (G i))])), (jh, .inr (1, [.ref jt, .ref jk, .ref jv, .ref jr, .int (nI n)])), (jg, .inl (cg, 43, .inr (.inl G))), (jo, .inl (co, 1, .inr (.inl (vp_updL O 0 (((nI (cnt (wbit w) 64)) - (nI (cnt (wbit (noW w (G i))) 64))).toInt64)))))] H := hP
    have hD : va_D (fun q : Nat => s.heap.size ≤ q) [(jt, .inr (0, [.long x])), (jk, .inl (ck, 43, .inl K)), (jv, .inl (cv, 43, .inl V)), (jr, .inl (cr, 43, .inl R)), (jh2, .inr (1, [.ref jt2, .ref jk2, .ref jv2, .ref jr2, .int (nI n2)])), (jt2, .inr (0, [.long x2])), (jk2, .inl (ck2, 43, .inl K2)), (jv2, .inl (cv2, 43, .inl V2)), (jr2, .inl (cr2, 43, .inl R2)), (jb, .inl (cb, 8, .inr (.inl B))), (jy, .inl (cy, 256, .inl (bF S))), (jm, .inr (3, [.int th, .long sd, .long tp, .int (nI n), .ref ik, .ref iv, .ref ir, .ref il, .ref iy, .ref ig])), (ik, .inl (dk, 86, .inl K1)), (iv, .inl (dv, 86, .inl V1)), (ir, .inl (dr, 86, .inl R1)), (il, .inl (dl, 43, .inl (bF Lf))), (iy, .inl (dy, 256, .inl (bF S))), (ig, .inl (dg, 43, .inl (bF Go))), (jd, .inr (2, [.long sd, .ref jh, .ref jh2, .ref jg, .ref jb, .ref jy, .long (noW w (G i))])), (jh, .inr (1, [.ref jt, .ref jk, .ref jv, .ref jr, .int (nI n)])), (jg, .inl (cg, 43, .inr (.inl G))), (jo, .inl (co, 1, .inr (.inl (vp_updL O 0 (((nI (cnt (wbit w) 64)) - (nI (cnt (wbit (noW w (G i))) 64))).toInt64)))))] := hD
    have hw := hw.symm
    subst hw
    refine lv_istore (lv' := [(5, .int (nI 0)), (0, .ref b), (1, .ref jd), (2, .ref jm), (3, .ref jo), (4, .int (nI (1 + 4 * j)))]) hx hb d_L_law_423 hl (by decide) rfl (fun ls hl => ?_)
    refine lv_aload_n hx hb d_L_law_425 rfl (lv_at hl 3 rfl) ?_
    refine lv_aload_n hx hb d_L_law_426 rfl (lv_at hl 1 rfl) ?_
    refine lv_iload hx hb d_L_law_427 (lv_at hl 5 rfl) ?_
    refine lv_iconst (v := nI 1) hx hb d_L_law_429 (by decide +kernel) ?_
    refine lv_iadd hx hb d_L_law_430 ?_
    refine lv_topi (fun w_5 ew_5 => ?_)
    have ew_5 : (nI ((1 + 4 * j) + 1)) = w_5 := (ew_5.trans (nI_add _ _)).symm
    subst ew_5
    refine va_sld hx hb hX hbl hbA hS (vp_in_nI (by omega) (by omega)) d_L_law_431 ?_
    refine lv_topi (fun w_6 ew_6 => ?_)
    rw [nI_clamp (by omega)] at ew_6
    have ew_6 := ew_6.symm
    subst ew_6
    refine lv_topi (fun w_7 ew_7 => ?_)
    have ew_7 : (nI i) = w_7 := (ew_7.trans (ez)).symm
    subst ew_7
    have hPc := hP.sub (ws' := [(jm, .inr (3, [.int th, .long sd, .long tp, .int (nI n), .ref ik, .ref iv, .ref ir, .ref il, .ref iy, .ref ig])), (ir, .inl (dr, 86, .inl R1)), (il, .inl (dl, 43, .inl (bF Lf))), (ig, .inl (dg, 43, .inl (bF Go)))]) [11, 14, 15, 17] rfl
    have hKc := hK.sub (tys' := [(dr, .int), (dl, .boolean), (dg, .boolean)]) [11, 12, 14] rfl
    have hDc := hD.sub (ws' := [(jm, .inr (3, [.int th, .long sd, .long tp, .int (nI n), .ref ik, .ref iv, .ref ir, .ref il, .ref iy, .ref ig])), (ir, .inl (dr, 86, .inl R1)), (il, .inl (dl, 43, .inl (bF Lf))), (ig, .inl (dg, 43, .inl (bF Go)))]) [11, 14, 15, 17] (by decide) rfl
    have hFc := va_free (wc := [(jm, .inr (3, [.int th, .long sd, .long tp, .int (nI n), .ref ik, .ref iv, .ref ir, .ref il, .ref iy, .ref ig])), (ir, .inl (dr, 86, .inl R1)), (il, .inl (dl, 43, .inl (bF Lf))), (ig, .inl (dg, 43, .inl (bF Go)))]) hD hS hA [11, 14, 15, 17] rfl
    refine va_calli (va_runV (As := [.int (nI i)]) (rest := []) ⟨hx, hb, hml, hown, hts⟩ (c_M_without l dC dI jm ik iv ir il iy ig n th sd tp dr dl dg R1 Lf Go i hn hI.2.2.1 hi hlf _) (cwV 1 hts (g_V big_w m_467 m_468 m_469 m_4 m_470) rfl rfl rfl (by decide +kernel) ⟨Nat.le_of_ble_eq_true rfl, Nat.le_of_ble_eq_true rfl⟩) (wr_V hPc hKc hDc hN (va_recv hKc hPc (ci := 3) (q0 := 0) rfl rfl)) rfl rfl hl.1 rfl (lv_room (Nat.le_of_ble_eq_true rfl)) d_L_law_432 ⟨by show 22 + j + 0 ≤ 1052; omega, by show 1195 + 6 * j + 0 ≤ 9423; omega⟩) hS (fun q _ h => hFc q h) hFc (fun r_8 u t H1 locs ht hvm hw hB hz1 hk1 hS => ?_)
    obtain ⟨hP1, hK1, hD1⟩ := hB
    rw [ht] at hP1
    obtain ⟨hP, hD⟩ := va_join (wr := [(jt, .inr (0, [.long x])), (jk, .inl (ck, 43, .inl K)), (jv, .inl (cv, 43, .inl V)), (jr, .inl (cr, 43, .inl R)), (jh2, .inr (1, [.ref jt2, .ref jk2, .ref jv2, .ref jr2, .int (nI n2)])), (jt2, .inr (0, [.long x2])), (jk2, .inl (ck2, 43, .inl K2)), (jv2, .inl (cv2, 43, .inl V2)), (jr2, .inl (cr2, 43, .inl R2)), (jb, .inl (cb, 8, .inr (.inl B))), (jy, .inl (cy, 256, .inl (bF S))), (ik, .inl (dk, 86, .inl K1)), (iv, .inl (dv, 86, .inl V1)), (iy, .inl (dy, 256, .inl (bF S))), (jd, .inr (2, [.long sd, .ref jh, .ref jh2, .ref jg, .ref jb, .ref jy, .long (noW w (G i))])), (jh, .inr (1, [.ref jt, .ref jk, .ref jv, .ref jr, .int (nI n)])), (jg, .inl (cg, 43, .inr (.inl G))), (jo, .inl (co, 1, .inr (.inl (vp_updL O 0 (((nI (cnt (wbit w) 64)) - (nI (cnt (wbit (noW w (G i))) 64))).toInt64)))))]) (w1 := [(jm, .inr (3, [.int (nI 0), .long sd, .long tp, .int (nI n), .ref ik, .ref iv, .ref ir, .ref il, .ref iy, .ref ig])), (ir, .inl (dr, 86, .inl R1)), (il, .inl (dl, 43, .inl (bF (lvF n Lf (mkF R1 Lf i n))))), (ig, .inl (dg, 43, .inl (bF (mkF R1 Lf i n))))]) hP hD [11, 14, 15, 17] [0, 1, 2, 3, 4, 5, 6, 7, 8, 9, 10, 12, 13, 16, 18, 19, 20, 21] rfl rfl (by decide) (by decide) hk1 hFc hP1 hD1
    generalize H1 = H at hP hS ⊢
    have hP : va_P (dC, dI) classes [(jt, .inr (0, [.long x])), (jk, .inl (ck, 43, .inl K)), (jv, .inl (cv, 43, .inl V)), (jr, .inl (cr, 43, .inl R)), (jh2, .inr (1, [.ref jt2, .ref jk2, .ref jv2, .ref jr2, .int (nI n2)])), (jt2, .inr (0, [.long x2])), (jk2, .inl (ck2, 43, .inl K2)), (jv2, .inl (cv2, 43, .inl V2)), (jr2, .inl (cr2, 43, .inl R2)), (jb, .inl (cb, 8, .inr (.inl B))), (jy, .inl (cy, 256, .inl (bF S))), (ik, .inl (dk, 86, .inl K1)), (iv, .inl (dv, 86, .inl V1)), (iy, .inl (dy, 256, .inl (bF S))), (jd, .inr (2, [.long sd, .ref jh, .ref jh2, .ref jg, .ref jb, .ref jy, .long (noW w (G i))])), (jh, .inr (1, [.ref jt, .ref jk, .ref jv, .ref jr, .int (nI n)])), (jg, .inl (cg, 43, .inr (.inl G))), (jo, .inl (co, 1, .inr (.inl (vp_updL O 0 (((nI (cnt (wbit w) 64)) - (nI (cnt (wbit (noW w (G i))) 64))).toInt64))))), (jm, .inr (3, [.int (nI 0), .long sd, .long tp, .int (nI n), .ref ik, .ref iv, .ref ir, .ref il, .ref iy, .ref ig])), (ir, .inl (dr, 86, .inl R1)), (il, .inl (dl, 43, .inl (bF (lvF n Lf (mkF R1 Lf i n))))), (ig, .inl (dg, 43, .inl (bF (mkF R1 Lf i n))))] H := hP
    have hD : va_D (fun q : Nat => s.heap.size ≤ q) [(jt, .inr (0, [.long x])), (jk, .inl (ck, 43, .inl K)), (jv, .inl (cv, 43, .inl V)), (jr, .inl (cr, 43, .inl R)), (jh2, .inr (1, [.ref jt2, .ref jk2, .ref jv2, .ref jr2, .int (nI n2)])), (jt2, .inr (0, [.long x2])), (jk2, .inl (ck2, 43, .inl K2)), (jv2, .inl (cv2, 43, .inl V2)), (jr2, .inl (cr2, 43, .inl R2)), (jb, .inl (cb, 8, .inr (.inl B))), (jy, .inl (cy, 256, .inl (bF S))), (ik, .inl (dk, 86, .inl K1)), (iv, .inl (dv, 86, .inl V1)), (iy, .inl (dy, 256, .inl (bF S))), (jd, .inr (2, [.long sd, .ref jh, .ref jh2, .ref jg, .ref jb, .ref jy, .long (noW w (G i))])), (jh, .inr (1, [.ref jt, .ref jk, .ref jv, .ref jr, .int (nI n)])), (jg, .inl (cg, 43, .inr (.inl G))), (jo, .inl (co, 1, .inr (.inl (vp_updL O 0 (((nI (cnt (wbit w) 64)) - (nI (cnt (wbit (noW w (G i))) 64))).toInt64))))), (jm, .inr (3, [.int (nI 0), .long sd, .long tp, .int (nI n), .ref ik, .ref iv, .ref ir, .ref il, .ref iy, .ref ig])), (ir, .inl (dr, 86, .inl R1)), (il, .inl (dl, 43, .inl (bF (lvF n Lf (mkF R1 Lf i n))))), (ig, .inl (dg, 43, .inl (bF (mkF R1 Lf i n))))] := hD
    have hw := hw.symm
    subst hw
    refine lv_istore (lv' := [(6, .int (nI (cnt (mkB R1 Lf i) n))), (5, .int (nI 0)), (0, .ref b), (1, .ref jd), (2, .ref jm), (3, .ref jo), (4, .int (nI (1 + 4 * j)))]) hx hb d_L_law_435 hl (by decide) rfl (fun ls hl => ?_)
    refine lv_aload_n hx hb d_L_law_437 rfl (lv_at hl 4 rfl) ?_
    have hPc := hP.sub (ws' := [(jm, .inr (3, [.int (nI 0), .long sd, .long tp, .int (nI n), .ref ik, .ref iv, .ref ir, .ref il, .ref iy, .ref ig]))]) [18] rfl
    have hKc := hK.sub (tys' := []) [] rfl
    refine vp_callSi (W.runV (As := []) (rest := []) ⟨hx, hb, hml, hown, hts⟩ (c_M_thrown l dC dI jm ik iv ir il iy ig n (nI 0) sd tp) (cwV 0 hts (g_V big_w m_367 m_368 m_369 m_4 m_370) rfl rfl rfl (by decide +kernel) ⟨Nat.le_of_ble_eq_true rfl, Nat.le_of_ble_eq_true rfl⟩) (ro_V hPc hKc hN (va_recv hKc hPc (ci := 3) (q0 := 0) rfl rfl)) rfl rfl hl.1 rfl (lv_room (Nat.le_of_ble_eq_true rfl)) d_L_law_438 ⟨by show 22 + j + 0 ≤ 1052; omega, by show 1195 + 6 * j + 0 ≤ 9423; omega⟩) (fun r_9 er_9 => ?_)
    have er_9 := er_9.symm
    subst er_9
    refine lv_iload hx hb d_L_law_441 (lv_at hl 1 rfl) ?_
    refine lv_icmp_eq (tgt := 448) hx hb d_L_law_443 (by decide) (fun c_443 => ?_) (fun c_443 => ?_)
    · skip
      have c_443 := (nI_eq (by omega) (by omega)).mp c_443
      refine lv_iload hx hb d_L_law_448 (lv_at hl 1 rfl) ?_
      refine lv_if_ne (tgt := 465) hx hb d_L_law_450 (by decide) (fun c_450 => ?_) (fun c_450 => ?_)
      · skip
        have c_450 := (not_congr (nI_z (by omega))).mp c_450
        exact absurd rfl c_450
      · skip
        have c_450 := (nI_z (by omega)).mp c_450
        refine lv_aload_n hx hb d_L_law_453 rfl (lv_at hl 5 rfl) ?_
        refine lv_iconst (v := nI 0) hx hb d_L_law_454 (by decide +kernel) ?_
        refine va_lald hx hb hK hP 17 15 rfl rfl (vp_in_nI (by omega) (by omega)) d_L_law_455 ?_
        refine lv_topl (fun w_10 ew_10 => ?_)
        rw [nI_clamp (by omega)] at ew_10
        have ew_10 := ew_10.symm
        subst ew_10
        refine lv_iload hx hb d_L_law_456 (lv_at hl 0 rfl) ?_
        refine lv_i2l hx hb d_L_law_458 rfl ?_
        refine W.lcmp hx hb d_L_law_459 ?_
        refine lv_if_eq (tgt := 465) hx hb d_L_law_460 (by decide) (fun c_460 => ?_) (fun c_460 => ?_)
        · skip
          have c_460 := lc_eq.mp c_460
          refine lv_goto (tgt := 600) hx hb d_L_law_465 (by decide) ?_
          refine lv_iinc (v := nI (1 + 4 * (j + 1))) (lv' := [(4, .int (nI (1 + 4 * (j + 1)))), (6, .int (nI (cnt (mkB R1 Lf i) n))), (5, .int (nI 0)), (0, .ref b), (1, .ref jd), (2, .ref jm), (3, .ref jo)]) hx hb d_L_law_600 hl (k := 6) rfl (lw_inc j) (by decide) rfl (fun ls hl => ?_)
          refine lv_goto (tgt := 35) hx hb d_L_law_603 (by decide) ?_
          refine W.widen (k := 22 + (j + 1)) (n := 1195 + 6 * (j + 1)) (by omega) (by omega) ?_
          exact ih n x (noW w (G i)) K V R G B S n2 x2 K2 V2 R2 (nI 0) tp K1 V1 R1 (lvF n Lf (mkF R1 Lf i n)) (mkF R1 Lf i n) (vp_updL O 0 (((nI (cnt (wbit w) 64)) - (nI (cnt (wbit (noW w (G i))) 64))).toInt64)) (hI.lr hi hlf) hn2 _ _ (hP.sub (ws' := [(jd, .inr (2, [.long sd, .ref jh, .ref jh2, .ref jg, .ref jb, .ref jy, .long (noW w (G i))])), (jh, .inr (1, [.ref jt, .ref jk, .ref jv, .ref jr, .int (nI n)])), (jt, .inr (0, [.long x])), (jk, .inl (ck, 43, .inl K)), (jv, .inl (cv, 43, .inl V)), (jr, .inl (cr, 43, .inl R)), (jh2, .inr (1, [.ref jt2, .ref jk2, .ref jv2, .ref jr2, .int (nI n2)])), (jt2, .inr (0, [.long x2])), (jk2, .inl (ck2, 43, .inl K2)), (jv2, .inl (cv2, 43, .inl V2)), (jr2, .inl (cr2, 43, .inl R2)), (jg, .inl (cg, 43, .inr (.inl G))), (jb, .inl (cb, 8, .inr (.inl B))), (jy, .inl (cy, 256, .inl (bF S))), (jm, .inr (3, [.int (nI 0), .long sd, .long tp, .int (nI n), .ref ik, .ref iv, .ref ir, .ref il, .ref iy, .ref ig])), (ik, .inl (dk, 86, .inl K1)), (iv, .inl (dv, 86, .inl V1)), (ir, .inl (dr, 86, .inl R1)), (il, .inl (dl, 43, .inl (bF (lvF n Lf (mkF R1 Lf i n))))), (iy, .inl (dy, 256, .inl (bF S))), (ig, .inl (dg, 43, .inl (bF (mkF R1 Lf i n)))), (jo, .inl (co, 1, .inr (.inl (vp_updL O 0 (((nI (cnt (wbit w) 64)) - (nI (cnt (wbit (noW w (G i))) 64))).toInt64)))))]) [14, 15, 0, 1, 2, 3, 4, 5, 6, 7, 8, 16, 9, 10, 18, 11, 12, 19, 20, 13, 21, 17] rfl) (hD.sub (ws' := [(jd, .inr (2, [.long sd, .ref jh, .ref jh2, .ref jg, .ref jb, .ref jy, .long (noW w (G i))])), (jh, .inr (1, [.ref jt, .ref jk, .ref jv, .ref jr, .int (nI n)])), (jt, .inr (0, [.long x])), (jk, .inl (ck, 43, .inl K)), (jv, .inl (cv, 43, .inl V)), (jr, .inl (cr, 43, .inl R)), (jh2, .inr (1, [.ref jt2, .ref jk2, .ref jv2, .ref jr2, .int (nI n2)])), (jt2, .inr (0, [.long x2])), (jk2, .inl (ck2, 43, .inl K2)), (jv2, .inl (cv2, 43, .inl V2)), (jr2, .inl (cr2, 43, .inl R2)), (jg, .inl (cg, 43, .inr (.inl G))), (jb, .inl (cb, 8, .inr (.inl B))), (jy, .inl (cy, 256, .inl (bF S))), (jm, .inr (3, [.int (nI 0), .long sd, .long tp, .int (nI n), .ref ik, .ref iv, .ref ir, .ref il, .ref iy, .ref ig])), (ik, .inl (dk, 86, .inl K1)), (iv, .inl (dv, 86, .inl V1)), (ir, .inl (dr, 86, .inl R1)), (il, .inl (dl, 43, .inl (bF (lvF n Lf (mkF R1 Lf i n))))), (iy, .inl (dy, 256, .inl (bF S))), (ig, .inl (dg, 43, .inl (bF (mkF R1 Lf i n)))), (jo, .inl (co, 1, .inr (.inl (vp_updL O 0 (((nI (cnt (wbit w) 64)) - (nI (cnt (wbit (noW w (G i))) 64))).toInt64)))))]) [14, 15, 0, 1, 2, 3, 4, 5, 6, 7, 8, 16, 9, 10, 18, 11, 12, 19, 20, 13, 21, 17] (by decide) rfl) hS ls (lv_sub (l' := [(0, .ref b), (1, .ref jd), (2, .ref jm), (3, .ref jo), (4, .int (nI (1 + 4 * (j + 1))))]) hl [3, 4, 5, 6, 0] rfl)
        · skip
          have c_460 := (not_congr lc_eq).mp c_460
          exact absurd (pk_uLs.trans (by rw [hI.wo hi hlf])) c_460
    · skip
      have c_443 := (not_congr (nI_eq (by omega) (by omega))).mp c_443
      exact absurd rfl c_443
  · skip
    have hex1 := wo_ex1 hI hs9
    have hex2 := wo_ex2 hs9
    refine lv_aload_n hx hb d_L_law_412 rfl (lv_at hl 1 rfl) ?_
    refine lv_aload_n hx hb d_L_law_413 rfl (lv_at hl 0 rfl) ?_
    refine lv_iload hx hb d_L_law_414 (lv_at hl 4 rfl) ?_
    refine lv_iconst (v := nI 1) hx hb d_L_law_416 (by decide +kernel) ?_
    refine lv_iadd hx hb d_L_law_417 ?_
    refine lv_topi (fun w_11 ew_11 => ?_)
    have ew_11 : (nI ((1 + 4 * j) + 1)) = w_11 := (ew_11.trans (nI_add _ _)).symm
    subst ew_11
    refine va_sld hx hb hX hbl hbA hS (vp_in_nI (by omega) (by omega)) d_L_law_418 ?_
    refine lv_topi (fun w_12 ew_12 => ?_)
    rw [nI_clamp (by omega)] at ew_12
    have ew_12 := ew_12.symm
    subst ew_12
    refine lv_aload_n hx hb d_L_law_419 rfl (lv_at hl 3 rfl) ?_
    have hPc := hP.sub (ws' := [(jd, .inr (2, [.long sd, .ref jh, .ref jh2, .ref jg, .ref jb, .ref jy, .long w])), (jh, .inr (1, [.ref jt, .ref jk, .ref jv, .ref jr, .int (nI n)])), (jo, .inl (co, 1, .inr (.inl O)))]) [0, 1, 21] rfl
    have hKc := hK.sub (tys' := [(co, .long)]) [15] rfl
    have hDc := hD.sub (ws' := [(jd, .inr (2, [.long sd, .ref jh, .ref jh2, .ref jg, .ref jb, .ref jy, .long w])), (jh, .inr (1, [.ref jt, .ref jk, .ref jv, .ref jr, .int (nI n)])), (jo, .inl (co, 1, .inr (.inl O)))]) [0, 1, 21] (by decide) rfl
    have hFc := va_free (wc := [(jd, .inr (2, [.long sd, .ref jh, .ref jh2, .ref jg, .ref jb, .ref jy, .long w])), (jh, .inr (1, [.ref jt, .ref jk, .ref jv, .ref jr, .int (nI n)])), (jo, .inl (co, 1, .inr (.inl O)))]) hD hS hA [0, 1, 21] rfl
    refine va_calli (vx_runSW (As := [.ref jd, .int (xs ((1 + 4 * j) + 1)), .ref jo]) (rest := []) ⟨hx, hb, hml, hown, hts⟩ (c_L_withoutx l hl9 dC dI jd jh jh2 jg jb jy sd w jt jk jv jr n (xs ((1 + 4 * j) + 1)) jo co O hn hex1 sa _) (vx_cwSW 3 hts (g_SW big_w m_311 m_312 m_0 m_313) rfl rfl rfl (by decide +kernel) ⟨Nat.le_of_ble_eq_true rfl, Nat.le_of_ble_eq_true rfl⟩) (wx_S hPc hKc hDc hN hT hZ hS hFc) rfl rfl hl.1 rfl (lv_room (Nat.le_of_ble_eq_true rfl)) d_L_law_420 ⟨by show 22 + j + 1 ≤ 1052; omega, by show 1195 + 6 * j + 6 ≤ 9423; omega⟩) hS (fun q _ h => hFc q h) hFc (fun r_13 u t H1 locs ht hvm hw hB hz1 hk1 hS => ?_)
    obtain ⟨hP1, hK1, hD1⟩ := hB
    rw [ht] at hP1
    obtain ⟨hP, hD⟩ := va_join (wr := [(jt, .inr (0, [.long x])), (jk, .inl (ck, 43, .inl K)), (jv, .inl (cv, 43, .inl V)), (jr, .inl (cr, 43, .inl R)), (jh2, .inr (1, [.ref jt2, .ref jk2, .ref jv2, .ref jr2, .int (nI n2)])), (jt2, .inr (0, [.long x2])), (jk2, .inl (ck2, 43, .inl K2)), (jv2, .inl (cv2, 43, .inl V2)), (jr2, .inl (cr2, 43, .inl R2)), (jg, .inl (cg, 43, .inr (.inl G))), (jb, .inl (cb, 8, .inr (.inl B))), (jy, .inl (cy, 256, .inl (bF S))), (jm, .inr (3, [.int th, .long sd, .long tp, .int (nI n), .ref ik, .ref iv, .ref ir, .ref il, .ref iy, .ref ig])), (ik, .inl (dk, 86, .inl K1)), (iv, .inl (dv, 86, .inl V1)), (ir, .inl (dr, 86, .inl R1)), (il, .inl (dl, 43, .inl (bF Lf))), (iy, .inl (dy, 256, .inl (bF S))), (ig, .inl (dg, 43, .inl (bF Go)))]) (w1 := [(jd, .inr (2, [.long sd, .ref jh, .ref jh2, .ref jg, .ref jb, .ref jy, .long w])), (jh, .inr (1, [.ref jt, .ref jk, .ref jv, .ref jr, .int (nI n)])), (jo, .inl (co, 1, .inr (.inl O)))]) hP hD [0, 1, 21] [2, 3, 4, 5, 6, 7, 8, 9, 10, 11, 12, 13, 14, 15, 16, 17, 18, 19, 20] rfl rfl (by decide) (by decide) hk1 hFc hP1 hD1
    generalize H1 = H at hP hS ⊢
    have hP : va_P (dC, dI) classes [(jt, .inr (0, [.long x])), (jk, .inl (ck, 43, .inl K)), (jv, .inl (cv, 43, .inl V)), (jr, .inl (cr, 43, .inl R)), (jh2, .inr (1, [.ref jt2, .ref jk2, .ref jv2, .ref jr2, .int (nI n2)])), (jt2, .inr (0, [.long x2])), (jk2, .inl (ck2, 43, .inl K2)), (jv2, .inl (cv2, 43, .inl V2)), (jr2, .inl (cr2, 43, .inl R2)), (jg, .inl (cg, 43, .inr (.inl G))), (jb, .inl (cb, 8, .inr (.inl B))), (jy, .inl (cy, 256, .inl (bF S))), (jm, .inr (3, [.int th, .long sd, .long tp, .int (nI n), .ref ik, .ref iv, .ref ir, .ref il, .ref iy, .ref ig])), (ik, .inl (dk, 86, .inl K1)), (iv, .inl (dv, 86, .inl V1)), (ir, .inl (dr, 86, .inl R1)), (il, .inl (dl, 43, .inl (bF Lf))), (iy, .inl (dy, 256, .inl (bF S))), (ig, .inl (dg, 43, .inl (bF Go))), (jd, .inr (2, [.long sd, .ref jh, .ref jh2, .ref jg, .ref jb, .ref jy, .long w])), (jh, .inr (1, [.ref jt, .ref jk, .ref jv, .ref jr, .int (nI n)])), (jo, .inl (co, 1, .inr (.inl O)))] H := hP
    have hD : va_D (fun q : Nat => s.heap.size ≤ q) [(jt, .inr (0, [.long x])), (jk, .inl (ck, 43, .inl K)), (jv, .inl (cv, 43, .inl V)), (jr, .inl (cr, 43, .inl R)), (jh2, .inr (1, [.ref jt2, .ref jk2, .ref jv2, .ref jr2, .int (nI n2)])), (jt2, .inr (0, [.long x2])), (jk2, .inl (ck2, 43, .inl K2)), (jv2, .inl (cv2, 43, .inl V2)), (jr2, .inl (cr2, 43, .inl R2)), (jg, .inl (cg, 43, .inr (.inl G))), (jb, .inl (cb, 8, .inr (.inl B))), (jy, .inl (cy, 256, .inl (bF S))), (jm, .inr (3, [.int th, .long sd, .long tp, .int (nI n), .ref ik, .ref iv, .ref ir, .ref il, .ref iy, .ref ig])), (ik, .inl (dk, 86, .inl K1)), (iv, .inl (dv, 86, .inl V1)), (ir, .inl (dr, 86, .inl R1)), (il, .inl (dl, 43, .inl (bF Lf))), (iy, .inl (dy, 256, .inl (bF S))), (ig, .inl (dg, 43, .inl (bF Go))), (jd, .inr (2, [.long sd, .ref jh, .ref jh2, .ref jg, .ref jb, .ref jy, .long w])), (jh, .inr (1, [.ref jt, .ref jk, .ref jv, .ref jr, .int (nI n)])), (jo, .inl (co, 1, .inr (.inl O)))] := hD
    refine W.cs (cells' := (22 + j + 1)) (slots' := (1195 + 6 * j + 6)) rfl rfl ?_
    have hw := hw.symm
    subst hw
    refine lv_istore (lv' := [(5, .int (nI 1)), (0, .ref b), (1, .ref jd), (2, .ref jm), (3, .ref jo), (4, .int (nI (1 + 4 * j)))]) hx hb d_L_law_423 hl (by decide) rfl (fun ls hl => ?_)
    refine lv_aload_n hx hb d_L_law_425 rfl (lv_at hl 3 rfl) ?_
    refine lv_aload_n hx hb d_L_law_426 rfl (lv_at hl 1 rfl) ?_
    refine lv_iload hx hb d_L_law_427 (lv_at hl 5 rfl) ?_
    refine lv_iconst (v := nI 1) hx hb d_L_law_429 (by decide +kernel) ?_
    refine lv_iadd hx hb d_L_law_430 ?_
    refine lv_topi (fun w_14 ew_14 => ?_)
    have ew_14 : (nI ((1 + 4 * j) + 1)) = w_14 := (ew_14.trans (nI_add _ _)).symm
    subst ew_14
    refine va_sld hx hb hX hbl hbA hS (vp_in_nI (by omega) (by omega)) d_L_law_431 ?_
    refine lv_topi (fun w_15 ew_15 => ?_)
    rw [nI_clamp (by omega)] at ew_15
    have ew_15 := ew_15.symm
    subst ew_15
    have hPc := hP.sub (ws' := [(jm, .inr (3, [.int th, .long sd, .long tp, .int (nI n), .ref ik, .ref iv, .ref ir, .ref il, .ref iy, .ref ig])), (il, .inl (dl, 43, .inl (bF Lf)))]) [12, 16] rfl
    have hKc := hK.sub (tys' := [(dl, .boolean)]) [12] rfl
    have hDc := hD.sub (ws' := [(jm, .inr (3, [.int th, .long sd, .long tp, .int (nI n), .ref ik, .ref iv, .ref ir, .ref il, .ref iy, .ref ig])), (il, .inl (dl, 43, .inl (bF Lf)))]) [12, 16] (by decide) rfl
    have hFc := va_free (wc := [(jm, .inr (3, [.int th, .long sd, .long tp, .int (nI n), .ref ik, .ref iv, .ref ir, .ref il, .ref iy, .ref ig])), (il, .inl (dl, 43, .inl (bF Lf)))]) hD hS hA [12, 16] rfl
    refine va_calli (va_runV (As := [.int (xs ((1 + 4 * j) + 1))]) (rest := []) ⟨hx, hb, hml, hown, hts⟩ (c_M_withoutx l dC dI jm ik iv ir il iy ig n th sd tp dl Lf (xs ((1 + 4 * j) + 1)) hn hex2 _) (cwV 1 hts (g_V big_w m_467 m_468 m_469 m_4 m_470) rfl rfl rfl (by decide +kernel) ⟨Nat.le_of_ble_eq_true rfl, Nat.le_of_ble_eq_true rfl⟩) (wr_V hPc hKc hDc hN (va_recv hKc hPc (ci := 3) (q0 := 0) rfl rfl)) rfl rfl hl.1 rfl (lv_room (Nat.le_of_ble_eq_true rfl)) d_L_law_432 ⟨by show 22 + j + 1 + 0 ≤ 1052; omega, by show 1195 + 6 * j + 6 + 0 ≤ 9423; omega⟩) hS (fun q _ h => hFc q h) hFc (fun r_16 u t H1 locs ht hvm hw hB hz1 hk1 hS => ?_)
    obtain ⟨hP1, hK1, hD1⟩ := hB
    rw [ht] at hP1
    obtain ⟨hP, hD⟩ := va_join (wr := [(jt, .inr (0, [.long x])), (jk, .inl (ck, 43, .inl K)), (jv, .inl (cv, 43, .inl V)), (jr, .inl (cr, 43, .inl R)), (jh2, .inr (1, [.ref jt2, .ref jk2, .ref jv2, .ref jr2, .int (nI n2)])), (jt2, .inr (0, [.long x2])), (jk2, .inl (ck2, 43, .inl K2)), (jv2, .inl (cv2, 43, .inl V2)), (jr2, .inl (cr2, 43, .inl R2)), (jg, .inl (cg, 43, .inr (.inl G))), (jb, .inl (cb, 8, .inr (.inl B))), (jy, .inl (cy, 256, .inl (bF S))), (ik, .inl (dk, 86, .inl K1)), (iv, .inl (dv, 86, .inl V1)), (ir, .inl (dr, 86, .inl R1)), (iy, .inl (dy, 256, .inl (bF S))), (ig, .inl (dg, 43, .inl (bF Go))), (jd, .inr (2, [.long sd, .ref jh, .ref jh2, .ref jg, .ref jb, .ref jy, .long w])), (jh, .inr (1, [.ref jt, .ref jk, .ref jv, .ref jr, .int (nI n)])), (jo, .inl (co, 1, .inr (.inl O)))]) (w1 := [(jm, .inr (3, [.int (nI 1), .long sd, .long tp, .int (nI n), .ref ik, .ref iv, .ref ir, .ref il, .ref iy, .ref ig])), (il, .inl (dl, 43, .inl (bF Lf)))]) hP hD [12, 16] [0, 1, 2, 3, 4, 5, 6, 7, 8, 9, 10, 11, 13, 14, 15, 17, 18, 19, 20, 21] rfl rfl (by decide) (by decide) hk1 hFc hP1 hD1
    generalize H1 = H at hP hS ⊢
    have hP : va_P (dC, dI) classes [(jt, .inr (0, [.long x])), (jk, .inl (ck, 43, .inl K)), (jv, .inl (cv, 43, .inl V)), (jr, .inl (cr, 43, .inl R)), (jh2, .inr (1, [.ref jt2, .ref jk2, .ref jv2, .ref jr2, .int (nI n2)])), (jt2, .inr (0, [.long x2])), (jk2, .inl (ck2, 43, .inl K2)), (jv2, .inl (cv2, 43, .inl V2)), (jr2, .inl (cr2, 43, .inl R2)), (jg, .inl (cg, 43, .inr (.inl G))), (jb, .inl (cb, 8, .inr (.inl B))), (jy, .inl (cy, 256, .inl (bF S))), (ik, .inl (dk, 86, .inl K1)), (iv, .inl (dv, 86, .inl V1)), (ir, .inl (dr, 86, .inl R1)), (iy, .inl (dy, 256, .inl (bF S))), (ig, .inl (dg, 43, .inl (bF Go))), (jd, .inr (2, [.long sd, .ref jh, .ref jh2, .ref jg, .ref jb, .ref jy, .long w])), (jh, .inr (1, [.ref jt, .ref jk, .ref jv, .ref jr, .int (nI n)])), (jo, .inl (co, 1, .inr (.inl O))), (jm, .inr (3, [.int (nI 1), .long sd, .long tp, .int (nI n), .ref ik, .ref iv, .ref ir, .ref il, .ref iy, .ref ig])), (il, .inl (dl, 43, .inl (bF Lf)))] H := hP
    have hD : va_D (fun q : Nat => s.heap.size ≤ q) [(jt, .inr (0, [.long x])), (jk, .inl (ck, 43, .inl K)), (jv, .inl (cv, 43, .inl V)), (jr, .inl (cr, 43, .inl R)), (jh2, .inr (1, [.ref jt2, .ref jk2, .ref jv2, .ref jr2, .int (nI n2)])), (jt2, .inr (0, [.long x2])), (jk2, .inl (ck2, 43, .inl K2)), (jv2, .inl (cv2, 43, .inl V2)), (jr2, .inl (cr2, 43, .inl R2)), (jg, .inl (cg, 43, .inr (.inl G))), (jb, .inl (cb, 8, .inr (.inl B))), (jy, .inl (cy, 256, .inl (bF S))), (ik, .inl (dk, 86, .inl K1)), (iv, .inl (dv, 86, .inl V1)), (ir, .inl (dr, 86, .inl R1)), (iy, .inl (dy, 256, .inl (bF S))), (ig, .inl (dg, 43, .inl (bF Go))), (jd, .inr (2, [.long sd, .ref jh, .ref jh2, .ref jg, .ref jb, .ref jy, .long w])), (jh, .inr (1, [.ref jt, .ref jk, .ref jv, .ref jr, .int (nI n)])), (jo, .inl (co, 1, .inr (.inl O))), (jm, .inr (3, [.int (nI 1), .long sd, .long tp, .int (nI n), .ref ik, .ref iv, .ref ir, .ref il, .ref iy, .ref ig])), (il, .inl (dl, 43, .inl (bF Lf)))] := hD
    have hw := hw.symm
    subst hw
    refine lv_istore (lv' := [(6, .int (nI 0)), (5, .int (nI 1)), (0, .ref b), (1, .ref jd), (2, .ref jm), (3, .ref jo), (4, .int (nI (1 + 4 * j)))]) hx hb d_L_law_435 hl (by decide) rfl (fun ls hl => ?_)
    refine lv_aload_n hx hb d_L_law_437 rfl (lv_at hl 4 rfl) ?_
    have hPc := hP.sub (ws' := [(jm, .inr (3, [.int (nI 1), .long sd, .long tp, .int (nI n), .ref ik, .ref iv, .ref ir, .ref il, .ref iy, .ref ig]))]) [20] rfl
    have hKc := hK.sub (tys' := []) [] rfl
    refine vp_callSi (W.runV (As := []) (rest := []) ⟨hx, hb, hml, hown, hts⟩ (c_M_thrown l dC dI jm ik iv ir il iy ig n (nI 1) sd tp) (cwV 0 hts (g_V big_w m_367 m_368 m_369 m_4 m_370) rfl rfl rfl (by decide +kernel) ⟨Nat.le_of_ble_eq_true rfl, Nat.le_of_ble_eq_true rfl⟩) (ro_V hPc hKc hN (va_recv hKc hPc (ci := 3) (q0 := 0) rfl rfl)) rfl rfl hl.1 rfl (lv_room (Nat.le_of_ble_eq_true rfl)) d_L_law_438 ⟨by show 22 + j + 1 + 0 ≤ 1052; omega, by show 1195 + 6 * j + 6 + 0 ≤ 9423; omega⟩) (fun r_17 er_17 => ?_)
    have er_17 := er_17.symm
    subst er_17
    refine lv_iload hx hb d_L_law_441 (lv_at hl 1 rfl) ?_
    refine lv_icmp_eq (tgt := 448) hx hb d_L_law_443 (by decide) (fun c_443 => ?_) (fun c_443 => ?_)
    · skip
      have c_443 := (nI_eq (by omega) (by omega)).mp c_443
      refine lv_iload hx hb d_L_law_448 (lv_at hl 1 rfl) ?_
      refine lv_if_ne (tgt := 465) hx hb d_L_law_450 (by decide) (fun c_450 => ?_) (fun c_450 => ?_)
      · skip
        have c_450 := (not_congr (nI_z (by omega))).mp c_450
        refine lv_goto (tgt := 600) hx hb d_L_law_465 (by decide) ?_
        refine lv_iinc (v := nI (1 + 4 * (j + 1))) (lv' := [(4, .int (nI (1 + 4 * (j + 1)))), (6, .int (nI 0)), (5, .int (nI 1)), (0, .ref b), (1, .ref jd), (2, .ref jm), (3, .ref jo)]) hx hb d_L_law_600 hl (k := 6) rfl (lw_inc j) (by decide) rfl (fun ls hl => ?_)
        refine lv_goto (tgt := 35) hx hb d_L_law_603 (by decide) ?_
        refine W.widen (k := 22 + (j + 1)) (n := 1195 + 6 * (j + 1)) (by omega) (by omega) ?_
        exact ih n x w K V R G B S n2 x2 K2 V2 R2 (nI 1) tp K1 V1 R1 Lf Go O hI hn2 _ _ (hP.sub (ws' := [(jd, .inr (2, [.long sd, .ref jh, .ref jh2, .ref jg, .ref jb, .ref jy, .long w])), (jh, .inr (1, [.ref jt, .ref jk, .ref jv, .ref jr, .int (nI n)])), (jt, .inr (0, [.long x])), (jk, .inl (ck, 43, .inl K)), (jv, .inl (cv, 43, .inl V)), (jr, .inl (cr, 43, .inl R)), (jh2, .inr (1, [.ref jt2, .ref jk2, .ref jv2, .ref jr2, .int (nI n2)])), (jt2, .inr (0, [.long x2])), (jk2, .inl (ck2, 43, .inl K2)), (jv2, .inl (cv2, 43, .inl V2)), (jr2, .inl (cr2, 43, .inl R2)), (jg, .inl (cg, 43, .inr (.inl G))), (jb, .inl (cb, 8, .inr (.inl B))), (jy, .inl (cy, 256, .inl (bF S))), (jm, .inr (3, [.int (nI 1), .long sd, .long tp, .int (nI n), .ref ik, .ref iv, .ref ir, .ref il, .ref iy, .ref ig])), (ik, .inl (dk, 86, .inl K1)), (iv, .inl (dv, 86, .inl V1)), (ir, .inl (dr, 86, .inl R1)), (il, .inl (dl, 43, .inl (bF Lf))), (iy, .inl (dy, 256, .inl (bF S))), (ig, .inl (dg, 43, .inl (bF Go))), (jo, .inl (co, 1, .inr (.inl O)))]) [17, 18, 0, 1, 2, 3, 4, 5, 6, 7, 8, 9, 10, 11, 20, 12, 13, 14, 21, 15, 16, 19] rfl) (hD.sub (ws' := [(jd, .inr (2, [.long sd, .ref jh, .ref jh2, .ref jg, .ref jb, .ref jy, .long w])), (jh, .inr (1, [.ref jt, .ref jk, .ref jv, .ref jr, .int (nI n)])), (jt, .inr (0, [.long x])), (jk, .inl (ck, 43, .inl K)), (jv, .inl (cv, 43, .inl V)), (jr, .inl (cr, 43, .inl R)), (jh2, .inr (1, [.ref jt2, .ref jk2, .ref jv2, .ref jr2, .int (nI n2)])), (jt2, .inr (0, [.long x2])), (jk2, .inl (ck2, 43, .inl K2)), (jv2, .inl (cv2, 43, .inl V2)), (jr2, .inl (cr2, 43, .inl R2)), (jg, .inl (cg, 43, .inr (.inl G))), (jb, .inl (cb, 8, .inr (.inl B))), (jy, .inl (cy, 256, .inl (bF S))), (jm, .inr (3, [.int (nI 1), .long sd, .long tp, .int (nI n), .ref ik, .ref iv, .ref ir, .ref il, .ref iy, .ref ig])), (ik, .inl (dk, 86, .inl K1)), (iv, .inl (dv, 86, .inl V1)), (ir, .inl (dr, 86, .inl R1)), (il, .inl (dl, 43, .inl (bF Lf))), (iy, .inl (dy, 256, .inl (bF S))), (ig, .inl (dg, 43, .inl (bF Go))), (jo, .inl (co, 1, .inr (.inl O)))]) [17, 18, 0, 1, 2, 3, 4, 5, 6, 7, 8, 9, 10, 11, 20, 12, 13, 14, 21, 15, 16, 19] (by decide) rfl) hS ls (lv_sub (l' := [(0, .ref b), (1, .ref jd), (2, .ref jm), (3, .ref jo), (4, .int (nI (1 + 4 * (j + 1))))]) hl [3, 4, 5, 6, 0] rfl)
      · skip
        have c_450 := (nI_z (by omega)).mp c_450
        exact absurd c_450 (by decide)
    · skip
      have c_443 := (not_congr (nI_eq (by omega) (by omega))).mp c_443
      exact absurd rfl c_443
