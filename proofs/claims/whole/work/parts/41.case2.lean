set_option maxHeartbeats 8000000 in
set_option maxRecDepth 100000 in
/-- the law, case 2 -/
theorem law_case_2 {p : Program} {l : Launch} {e : Env} {s : State} {m : MethodId} {below : List Frame} {meth : Method} {c : Code} {dC : Nat → ClassId} {dI : Nat → Nat → Nat} {b Ln : Nat} {xs : Nat → Int32} {sa : Nat → Nat} {jd jh jt jk jv jr jh2 jt2 jk2 jv2 jr2 jg jb jy jm ik iv ir il iy ig jo : Nat} {ck cv cr ck2 cv2 cr2 cg cb cy dk dv dr dl dy dg co : ClassId} {sd : Int64} (hl9 : l.stackTraces = false) (hL : Ln ≤ 2049) (hx : p.tables.exec = Jvm.exec) (hb : c.code = code) (hr : meth.sig.returnType = ret) (hml : c.maxLocals = 7) (hown : s.vm.findClass R_L = some m.cls) (hts : ∀ w ∈ (Jvm.Cond.initialized "PortDrawerLaw" :: tblG), w.before #[Value.ref b] s = true) (hX : va_X b Ln xs s s.heap) (hbl : b < s.heap.size) (hlocks : meth.locks = false) (hN : NW s) (hT : TX sa s) (hZ : zqU (fun q : Nat => s.heap.size ≤ q) s s.heap) (hK : va_K (dC, dI) classes [(ck, .int), (cv, .int), (cr, .int), (ck2, .int), (cv2, .int), (cr2, .int), (cg, .long), (cb, .long), (cy, .boolean), (dk, .int), (dv, .int), (dr, .int), (dl, .boolean), (dy, .boolean), (dg, .boolean), (co, .long)] s)  (j : Nat) (hj : 4 * j ≤ Ln) (hj4 : 1 + 4 * j + 4 ≤ Ln) (ih : ∀ (n : Nat) (x w : Int64) (K V R : Nat → Int32) (G B : Nat → Int64) (S : Nat → Bool) (n2 : Nat) (x2 : Int64) (K2 V2 R2 : Nat → Int32) (th : Int32) (tp : Int64) (K1 V1 R1 : Nat → Int32) (Lf Go : Nat → Bool) (O : Nat → Int64), INV n K V R G B w K1 V1 R1 Lf → n2 ≤ 43 → ∀ (H : Heap) (locs : List Loc), va_P (dC, dI) classes [(jd, .inr (2, [.long sd, .ref jh, .ref jh2, .ref jg, .ref jb, .ref jy, .long w])), (jh, .inr (1, [.ref jt, .ref jk, .ref jv, .ref jr, .int (nI n)])), (jt, .inr (0, [.long x])), (jk, .inl (ck, 43, .inl K)), (jv, .inl (cv, 43, .inl V)), (jr, .inl (cr, 43, .inl R)), (jh2, .inr (1, [.ref jt2, .ref jk2, .ref jv2, .ref jr2, .int (nI n2)])), (jt2, .inr (0, [.long x2])), (jk2, .inl (ck2, 43, .inl K2)), (jv2, .inl (cv2, 43, .inl V2)), (jr2, .inl (cr2, 43, .inl R2)), (jg, .inl (cg, 43, .inr (.inl G))), (jb, .inl (cb, 8, .inr (.inl B))), (jy, .inl (cy, 256, .inl (bF S))), (jm, .inr (3, [.int th, .long sd, .long tp, .int (nI n), .ref ik, .ref iv, .ref ir, .ref il, .ref iy, .ref ig])), (ik, .inl (dk, 86, .inl K1)), (iv, .inl (dv, 86, .inl V1)), (ir, .inl (dr, 86, .inl R1)), (il, .inl (dl, 43, .inl (bF Lf))), (iy, .inl (dy, 256, .inl (bF S))), (ig, .inl (dg, 43, .inl (bF Go))), (jo, .inl (co, 1, .inr (.inl O)))] H → va_D (fun q : Nat => s.heap.size ≤ q) [(jd, .inr (2, [.long sd, .ref jh, .ref jh2, .ref jg, .ref jb, .ref jy, .long w])), (jh, .inr (1, [.ref jt, .ref jk, .ref jv, .ref jr, .int (nI n)])), (jt, .inr (0, [.long x])), (jk, .inl (ck, 43, .inl K)), (jv, .inl (cv, 43, .inl V)), (jr, .inl (cr, 43, .inl R)), (jh2, .inr (1, [.ref jt2, .ref jk2, .ref jv2, .ref jr2, .int (nI n2)])), (jt2, .inr (0, [.long x2])), (jk2, .inl (ck2, 43, .inl K2)), (jv2, .inl (cv2, 43, .inl V2)), (jr2, .inl (cr2, 43, .inl R2)), (jg, .inl (cg, 43, .inr (.inl G))), (jb, .inl (cb, 8, .inr (.inl B))), (jy, .inl (cy, 256, .inl (bF S))), (jm, .inr (3, [.int th, .long sd, .long tp, .int (nI n), .ref ik, .ref iv, .ref ir, .ref il, .ref iy, .ref ig])), (ik, .inl (dk, 86, .inl K1)), (iv, .inl (dv, 86, .inl V1)), (ir, .inl (dr, 86, .inl R1)), (il, .inl (dl, 43, .inl (bF Lf))), (iy, .inl (dy, 256, .inl (bF S))), (ig, .inl (dg, 43, .inl (bF Go))), (jo, .inl (co, 1, .inr (.inl O)))] → va_S (fun q : Nat => s.heap.size ≤ q) s.heap H locs → ∀ (ls : Array Slot), lv_has ls 7 [(0, .ref b), (1, .ref jd), (2, .ref jm), (3, .ref jo), (4, .int (nI (1 + 4 * (j + 1))))] → W p l e room_1 s m #[Value.ref b] below meth c H locs (22 + (j + 1)) (1195 + 6 * (j + 1)) (lw_Z below #[Value.ref b] s) (F0 m 35 ls [])) (n : Nat) (x w : Int64) (K V R : Nat → Int32) (G B : Nat → Int64) (S : Nat → Bool) (n2 : Nat) (x2 : Int64) (K2 V2 R2 : Nat → Int32) (th : Int32) (tp : Int64) (K1 V1 R1 : Nat → Int32) (Lf Go : Nat → Bool) (O : Nat → Int64) (hI : INV n K V R G B w K1 V1 R1 Lf) (hn2 : n2 ≤ 43) (H : Heap) (locs : List Loc) (hP : va_P (dC, dI) classes [(jd, .inr (2, [.long sd, .ref jh, .ref jh2, .ref jg, .ref jb, .ref jy, .long w])), (jh, .inr (1, [.ref jt, .ref jk, .ref jv, .ref jr, .int (nI n)])), (jt, .inr (0, [.long x])), (jk, .inl (ck, 43, .inl K)), (jv, .inl (cv, 43, .inl V)), (jr, .inl (cr, 43, .inl R)), (jh2, .inr (1, [.ref jt2, .ref jk2, .ref jv2, .ref jr2, .int (nI n2)])), (jt2, .inr (0, [.long x2])), (jk2, .inl (ck2, 43, .inl K2)), (jv2, .inl (cv2, 43, .inl V2)), (jr2, .inl (cr2, 43, .inl R2)), (jg, .inl (cg, 43, .inr (.inl G))), (jb, .inl (cb, 8, .inr (.inl B))), (jy, .inl (cy, 256, .inl (bF S))), (jm, .inr (3, [.int th, .long sd, .long tp, .int (nI n), .ref ik, .ref iv, .ref ir, .ref il, .ref iy, .ref ig])), (ik, .inl (dk, 86, .inl K1)), (iv, .inl (dv, 86, .inl V1)), (ir, .inl (dr, 86, .inl R1)), (il, .inl (dl, 43, .inl (bF Lf))), (iy, .inl (dy, 256, .inl (bF S))), (ig, .inl (dg, 43, .inl (bF Go))), (jo, .inl (co, 1, .inr (.inl O)))] H) (hD : va_D (fun q : Nat => s.heap.size ≤ q) [(jd, .inr (2, [.long sd, .ref jh, .ref jh2, .ref jg, .ref jb, .ref jy, .long w])), (jh, .inr (1, [.ref jt, .ref jk, .ref jv, .ref jr, .int (nI n)])), (jt, .inr (0, [.long x])), (jk, .inl (ck, 43, .inl K)), (jv, .inl (cv, 43, .inl V)), (jr, .inl (cr, 43, .inl R)), (jh2, .inr (1, [.ref jt2, .ref jk2, .ref jv2, .ref jr2, .int (nI n2)])), (jt2, .inr (0, [.long x2])), (jk2, .inl (ck2, 43, .inl K2)), (jv2, .inl (cv2, 43, .inl V2)), (jr2, .inl (cr2, 43, .inl R2)), (jg, .inl (cg, 43, .inr (.inl G))), (jb, .inl (cb, 8, .inr (.inl B))), (jy, .inl (cy, 256, .inl (bF S))), (jm, .inr (3, [.int th, .long sd, .long tp, .int (nI n), .ref ik, .ref iv, .ref ir, .ref il, .ref iy, .ref ig])), (ik, .inl (dk, 86, .inl K1)), (iv, .inl (dv, 86, .inl V1)), (ir, .inl (dr, 86, .inl R1)), (il, .inl (dl, 43, .inl (bF Lf))), (iy, .inl (dy, 256, .inl (bF S))), (ig, .inl (dg, 43, .inl (bF Go))), (jo, .inl (co, 1, .inr (.inl O)))]) (hS : va_S (fun q : Nat => s.heap.size ≤ q) s.heap H locs) (ls : Array Slot) (hl : lv_has ls 7 [(0, .ref b), (1, .ref jd), (2, .ref jm), (3, .ref jo), (4, .int (nI (1 + 4 * j)))]) : W p l e room_1 s m #[Value.ref b] below meth c H locs (22 + j) (1195 + 6 * j) (lw_Z below #[Value.ref b] s) (F0 m 232 ls []) := by
  have hA : ∀ q : Nat, s.heap.size ≤ q → (fun q : Nat => s.heap.size ≤ q) q := fun _ h => h
  have hbA : ¬ (fun q : Nat => s.heap.size ≤ q) b := Nat.not_le.mpr hbl
  have hn := hI.1
  rcases Bool.eq_false_or_eq_true (aB n K (xs (1 + 4 * j + 1))) with hs9 | hs9
  · skip
    obtain ⟨i, hi, ez⟩ := hB_of (aB_h hs9) (by omega)
    have h5 : K1 i = nI 5 := aB_5 hI.2.1 hi (by rw [← ez]; exact hs9) hn
    refine lv_aload_n hx hb d_L_law_232 rfl (lv_at hl 1 rfl) ?_
    refine lv_aload_n hx hb d_L_law_233 rfl (lv_at hl 0 rfl) ?_
    refine lv_iload hx hb d_L_law_234 (lv_at hl 4 rfl) ?_
    refine lv_iconst (v := nI 1) hx hb d_L_law_236 (by decide +kernel) ?_
    refine lv_iadd hx hb d_L_law_237 ?_
    refine lv_topi (fun w_1 ew_1 => ?_)
    have ew_1 : (nI ((1 + 4 * j) + 1)) = w_1 := (ew_1.trans (nI_add _ _)).symm
    subst ew_1
    refine va_sld hx hb hX hbl hbA hS (vp_in_nI (by omega) (by omega)) d_L_law_238 ?_
    refine lv_topi (fun w_2 ew_2 => ?_)
    rw [nI_clamp (by omega)] at ew_2
    have ew_2 := ew_2.symm
    subst ew_2
    refine lv_topi (fun w_3 ew_3 => ?_)
    have ew_3 : (nI i) = w_3 := (ew_3.trans (ez)).symm
    subst ew_3
    refine lv_aload_n hx hb d_L_law_239 rfl (lv_at hl 3 rfl) ?_
    have hPc := hP.sub (ws' := [(jd, .inr (2, [.long sd, .ref jh, .ref jh2, .ref jg, .ref jb, .ref jy, .long w])), (jh, .inr (1, [.ref jt, .ref jk, .ref jv, .ref jr, .int (nI n)])), (jk, .inl (ck, 43, .inl K)), (jv, .inl (cv, 43, .inl V)), (jr, .inl (cr, 43, .inl R)), (jo, .inl (co, 1, .inr (.inl O)))]) [0, 1, 3, 4, 5, 21] rfl
    have hKc := hK.sub (tys' := [(ck, .int), (cv, .int), (cr, .int), (co, .long)]) [0, 1, 2, 15] rfl
    have hDc := hD.sub (ws' := [(jd, .inr (2, [.long sd, .ref jh, .ref jh2, .ref jg, .ref jb, .ref jy, .long w])), (jh, .inr (1, [.ref jt, .ref jk, .ref jv, .ref jr, .int (nI n)])), (jk, .inl (ck, 43, .inl K)), (jv, .inl (cv, 43, .inl V)), (jr, .inl (cr, 43, .inl R)), (jo, .inl (co, 1, .inr (.inl O)))]) [0, 1, 3, 4, 5, 21] (by decide) rfl
    have hFc := va_free (wc := [(jd, .inr (2, [.long sd, .ref jh, .ref jh2, .ref jg, .ref jb, .ref jy, .long w])), (jh, .inr (1, [.ref jt, .ref jk, .ref jv, .ref jr, .int (nI n)])), (jk, .inl (ck, 43, .inl K)), (jv, .inl (cv, 43, .inl V)), (jr, .inl (cr, 43, .inl R)), (jo, .inl (co, 1, .inr (.inl O)))]) hD hS hA [0, 1, 3, 4, 5, 21] rfl
    refine va_calli (vx_runSW (As := [.ref jd, .int (nI i), .ref jo]) (rest := []) ⟨hx, hb, hml, hown, hts⟩ (c_L_fits l dC dI jd jh jh2 jg jb jy sd w jt jk jv jr n ck cv cr K V R (nI i) jo co O hn (by rw [← ez]; exact hs9) _) (vx_cwSW 3 hts (g_SW big_w m_302 m_303 m_0 m_304) rfl rfl rfl (by decide +kernel) ⟨Nat.le_of_ble_eq_true rfl, Nat.le_of_ble_eq_true rfl⟩) (wr_S hPc hKc hDc hN) rfl rfl hl.1 rfl (lv_room (Nat.le_of_ble_eq_true rfl)) d_L_law_240 ⟨by show 22 + j + 0 ≤ 1052; omega, by show 1195 + 6 * j + 0 ≤ 9423; omega⟩) hS (fun q _ h => hFc q h) hFc (fun r_4 u t H1 locs ht hvm hw hB hz1 hk1 hS => ?_)
    obtain ⟨hP1, hK1, hD1⟩ := hB
    rw [ht] at hP1
    obtain ⟨hP, hD⟩ := va_join (wr := [(jt, .inr (0, [.long x])), (jh2, .inr (1, [.ref jt2, .ref jk2, .ref jv2, .ref jr2, .int (nI n2)])), (jt2, .inr (0, [.long x2])), (jk2, .inl (ck2, 43, .inl K2)), (jv2, .inl (cv2, 43, .inl V2)), (jr2, .inl (cr2, 43, .inl R2)), (jg, .inl (cg, 43, .inr (.inl G))), (jb, .inl (cb, 8, .inr (.inl B))), (jy, .inl (cy, 256, .inl (bF S))), (jm, .inr (3, [.int th, .long sd, .long tp, .int (nI n), .ref ik, .ref iv, .ref ir, .ref il, .ref iy, .ref ig])), (ik, .inl (dk, 86, .inl K1)), (iv, .inl (dv, 86, .inl V1)), (ir, .inl (dr, 86, .inl R1)), (il, .inl (dl, 43, .inl (bF Lf))), (iy, .inl (dy, 256, .inl (bF S))), (ig, .inl (dg, 43, .inl (bF Go)))]) (w1 := [(jd, .inr (2, [.long sd, .ref jh, .ref jh2, .ref jg, .ref jb, .ref jy, .long w])), (jh, .inr (1, [.ref jt, .ref jk, .ref jv, .ref jr, .int (nI n)])), (jk, .inl (ck, 43, .inl K)), (jv, .inl (cv, 43, .inl V)), (jr, .inl (cr, 43, .inl R)), (jo, .inl (co, 1, .inr (.inl (vp_updL O 0 (bL (fB n K V R (nI i)))))))]) hP hD [0, 1, 3, 4, 5, 21] [2, 6, 7, 8, 9, 10, 11, 12, 13, 14, 15, 16, 17, 18, 19, 20] rfl rfl (by decide) (by decide) hk1 hFc hP1 hD1
    generalize H1 = H at hP hS ⊢
    have hP : va_P (dC, dI) classes [(jt, .inr (0, [.long x])), (jh2, .inr (1, [.ref jt2, .ref jk2, .ref jv2, .ref jr2, .int (nI n2)])), (jt2, .inr (0, [.long x2])), (jk2, .inl (ck2, 43, .inl K2)), (jv2, .inl (cv2, 43, .inl V2)), (jr2, .inl (cr2, 43, .inl R2)), (jg, .inl (cg, 43, .inr (.inl G))), (jb, .inl (cb, 8, .inr (.inl B))), (jy, .inl (cy, 256, .inl (bF S))), (jm, .inr (3, [.int th, .long sd, .long tp, .int (nI n), .ref ik, .ref iv, .ref ir, .ref il, .ref iy, .ref ig])), (ik, .inl (dk, 86, .inl K1)), (iv, .inl (dv, 86, .inl V1)), (ir, .inl (dr, 86, .inl R1)), (il, .inl (dl, 43, .inl (bF Lf))), (iy, .inl (dy, 256, .inl (bF S))), (ig, .inl (dg, 43, .inl (bF Go))), (jd, .inr (2, [.long sd, .ref jh, .ref jh2, .ref jg, .ref jb, .ref jy, .long w])), (jh, .inr (1, [.ref jt, .ref jk, .ref jv, .ref jr, .int (nI n)])), (jk, .inl (ck, 43, .inl K)), (jv, .inl (cv, 43, .inl V)), (jr, .inl (cr, 43, .inl R)), (jo, .inl (co, 1, .inr (.inl (vp_updL O 0 (bL (fB n K V R (nI i)))))))] H := hP
    have hD : va_D (fun q : Nat => s.heap.size ≤ q) [(jt, .inr (0, [.long x])), (jh2, .inr (1, [.ref jt2, .ref jk2, .ref jv2, .ref jr2, .int (nI n2)])), (jt2, .inr (0, [.long x2])), (jk2, .inl (ck2, 43, .inl K2)), (jv2, .inl (cv2, 43, .inl V2)), (jr2, .inl (cr2, 43, .inl R2)), (jg, .inl (cg, 43, .inr (.inl G))), (jb, .inl (cb, 8, .inr (.inl B))), (jy, .inl (cy, 256, .inl (bF S))), (jm, .inr (3, [.int th, .long sd, .long tp, .int (nI n), .ref ik, .ref iv, .ref ir, .ref il, .ref iy, .ref ig])), (ik, .inl (dk, 86, .inl K1)), (iv, .inl (dv, 86, .inl V1)), (ir, .inl (dr, 86, .inl R1)), (il, .inl (dl, 43, .inl (bF Lf))), (iy, .inl (dy, 256, .inl (bF S))), (ig, .inl (dg, 43, .inl (bF Go))), (jd, .inr (2, [.long sd, .ref jh, .ref jh2, .ref jg, .ref jb, .ref jy, .long w])), (jh, .inr (1, [.ref jt, .ref jk, .ref jv, .ref jr, .int (nI n)])), (jk, .inl (ck, 43, .inl K)), (jv, .inl (cv, 43, .inl V)), (jr, .inl (cr, 43, .inl R)), (jo, .inl (co, 1, .inr (.inl (vp_updL O 0 (bL (fB n K V R (nI i)))))))] := hD
    have hw := hw.symm
    subst hw
    refine lv_istore (lv' := [(5, .int (nI 0)), (0, .ref b), (1, .ref jd), (2, .ref jm), (3, .ref jo), (4, .int (nI (1 + 4 * j)))]) hx hb d_L_law_243 hl (by decide) rfl (fun ls hl => ?_)
    refine lv_aload_n hx hb d_L_law_245 rfl (lv_at hl 3 rfl) ?_
    refine lv_aload_n hx hb d_L_law_246 rfl (lv_at hl 1 rfl) ?_
    refine lv_iload hx hb d_L_law_247 (lv_at hl 5 rfl) ?_
    refine lv_iconst (v := nI 1) hx hb d_L_law_249 (by decide +kernel) ?_
    refine lv_iadd hx hb d_L_law_250 ?_
    refine lv_topi (fun w_5 ew_5 => ?_)
    have ew_5 : (nI ((1 + 4 * j) + 1)) = w_5 := (ew_5.trans (nI_add _ _)).symm
    subst ew_5
    refine va_sld hx hb hX hbl hbA hS (vp_in_nI (by omega) (by omega)) d_L_law_251 ?_
    refine lv_topi (fun w_6 ew_6 => ?_)
    rw [nI_clamp (by omega)] at ew_6
    have ew_6 := ew_6.symm
    subst ew_6
    refine lv_topi (fun w_7 ew_7 => ?_)
    have ew_7 : (nI i) = w_7 := (ew_7.trans (ez)).symm
    subst ew_7
    have hPc := hP.sub (ws' := [(jm, .inr (3, [.int th, .long sd, .long tp, .int (nI n), .ref ik, .ref iv, .ref ir, .ref il, .ref iy, .ref ig])), (ik, .inl (dk, 86, .inl K1)), (iv, .inl (dv, 86, .inl V1)), (ir, .inl (dr, 86, .inl R1))]) [9, 10, 11, 12] rfl
    have hKc := hK.sub (tys' := [(dk, .int), (dv, .int), (dr, .int)]) [9, 10, 11] rfl
    have hDc := hD.sub (ws' := [(jm, .inr (3, [.int th, .long sd, .long tp, .int (nI n), .ref ik, .ref iv, .ref ir, .ref il, .ref iy, .ref ig])), (ik, .inl (dk, 86, .inl K1)), (iv, .inl (dv, 86, .inl V1)), (ir, .inl (dr, 86, .inl R1))]) [9, 10, 11, 12] (by decide) rfl
    have hFc := va_free (wc := [(jm, .inr (3, [.int th, .long sd, .long tp, .int (nI n), .ref ik, .ref iv, .ref ir, .ref il, .ref iy, .ref ig])), (ik, .inl (dk, 86, .inl K1)), (iv, .inl (dv, 86, .inl V1)), (ir, .inl (dr, 86, .inl R1))]) hD hS hA [9, 10, 11, 12] rfl
    refine va_calli (va_runV (As := [.int (nI i)]) (rest := []) ⟨hx, hb, hml, hown, hts⟩ (c_M_fits l dC dI jm ik iv ir il iy ig n th sd tp dk dv dr K1 V1 R1 i hn hI.2.2.1 hi h5 _) (cwV 1 hts (g_V big_w m_407 m_408 m_409 m_4 m_410) rfl rfl rfl (by decide +kernel) ⟨Nat.le_of_ble_eq_true rfl, Nat.le_of_ble_eq_true rfl⟩) (wr_V hPc hKc hDc hN (va_recv hKc hPc (ci := 3) (q0 := 0) rfl rfl)) rfl rfl hl.1 rfl (lv_room (Nat.le_of_ble_eq_true rfl)) d_L_law_252 ⟨by show 22 + j + 0 ≤ 1052; omega, by show 1195 + 6 * j + 0 ≤ 9423; omega⟩) hS (fun q _ h => hFc q h) hFc (fun r_8 u t H1 locs ht hvm hw hB hz1 hk1 hS => ?_)
    obtain ⟨hP1, hK1, hD1⟩ := hB
    rw [ht] at hP1
    obtain ⟨hP, hD⟩ := va_join (wr := [(jt, .inr (0, [.long x])), (jh2, .inr (1, [.ref jt2, .ref jk2, .ref jv2, .ref jr2, .int (nI n2)])), (jt2, .inr (0, [.long x2])), (jk2, .inl (ck2, 43, .inl K2)), (jv2, .inl (cv2, 43, .inl V2)), (jr2, .inl (cr2, 43, .inl R2)), (jg, .inl (cg, 43, .inr (.inl G))), (jb, .inl (cb, 8, .inr (.inl B))), (jy, .inl (cy, 256, .inl (bF S))), (il, .inl (dl, 43, .inl (bF Lf))), (iy, .inl (dy, 256, .inl (bF S))), (ig, .inl (dg, 43, .inl (bF Go))), (jd, .inr (2, [.long sd, .ref jh, .ref jh2, .ref jg, .ref jb, .ref jy, .long w])), (jh, .inr (1, [.ref jt, .ref jk, .ref jv, .ref jr, .int (nI n)])), (jk, .inl (ck, 43, .inl K)), (jv, .inl (cv, 43, .inl V)), (jr, .inl (cr, 43, .inl R)), (jo, .inl (co, 1, .inr (.inl (vp_updL O 0 (bL (fB n K V R (nI i)))))))]) (w1 := [(jm, .inr (3, [.int (nI 0), .long sd, .long tp, .int (nI n), .ref ik, .ref iv, .ref ir, .ref il, .ref iy, .ref ig])), (ik, .inl (dk, 86, .inl K1)), (iv, .inl (dv, 86, .inl V1)), (ir, .inl (dr, 86, .inl R1))]) hP hD [9, 10, 11, 12] [0, 1, 2, 3, 4, 5, 6, 7, 8, 13, 14, 15, 16, 17, 18, 19, 20, 21] rfl rfl (by decide) (by decide) hk1 hFc hP1 hD1
    generalize H1 = H at hP hS ⊢
    have hP : va_P (dC, dI) classes [(jt, .inr (0, [.long x])), (jh2, .inr (1, [.ref jt2, .ref jk2, .ref jv2, .ref jr2, .int (nI n2)])), (jt2, .inr (0, [.long x2])), (jk2, .inl (ck2, 43, .inl K2)), (jv2, .inl (cv2, 43, .inl V2)), (jr2, .inl (cr2, 43, .inl R2)), (jg, .inl (cg, 43, .inr (.inl G))), (jb, .inl (cb, 8, .inr (.inl B))), (jy, .inl (cy, 256, .inl (bF S))), (il, .inl (dl, 43, .inl (bF Lf))), (iy, .inl (dy, 256, .inl (bF S))), (ig, .inl (dg, 43, .inl (bF Go))), (jd, .inr (2, [.long sd, .ref jh, .ref jh2, .ref jg, .ref jb, .ref jy, .long w])), (jh, .inr (1, [.ref jt, .ref jk, .ref jv, .ref jr, .int (nI n)])), (jk, .inl (ck, 43, .inl K)), (jv, .inl (cv, 43, .inl V)), (jr, .inl (cr, 43, .inl R)), (jo, .inl (co, 1, .inr (.inl (vp_updL O 0 (bL (fB n K V R (nI i))))))), (jm, .inr (3, [.int (nI 0), .long sd, .long tp, .int (nI n), .ref ik, .ref iv, .ref ir, .ref il, .ref iy, .ref ig])), (ik, .inl (dk, 86, .inl K1)), (iv, .inl (dv, 86, .inl V1)), (ir, .inl (dr, 86, .inl R1))] H := hP
    have hD : va_D (fun q : Nat => s.heap.size ≤ q) [(jt, .inr (0, [.long x])), (jh2, .inr (1, [.ref jt2, .ref jk2, .ref jv2, .ref jr2, .int (nI n2)])), (jt2, .inr (0, [.long x2])), (jk2, .inl (ck2, 43, .inl K2)), (jv2, .inl (cv2, 43, .inl V2)), (jr2, .inl (cr2, 43, .inl R2)), (jg, .inl (cg, 43, .inr (.inl G))), (jb, .inl (cb, 8, .inr (.inl B))), (jy, .inl (cy, 256, .inl (bF S))), (il, .inl (dl, 43, .inl (bF Lf))), (iy, .inl (dy, 256, .inl (bF S))), (ig, .inl (dg, 43, .inl (bF Go))), (jd, .inr (2, [.long sd, .ref jh, .ref jh2, .ref jg, .ref jb, .ref jy, .long w])), (jh, .inr (1, [.ref jt, .ref jk, .ref jv, .ref jr, .int (nI n)])), (jk, .inl (ck, 43, .inl K)), (jv, .inl (cv, 43, .inl V)), (jr, .inl (cr, 43, .inl R)), (jo, .inl (co, 1, .inr (.inl (vp_updL O 0 (bL (fB n K V R (nI i))))))), (jm, .inr (3, [.int (nI 0), .long sd, .long tp, .int (nI n), .ref ik, .ref iv, .ref ir, .ref il, .ref iy, .ref ig])), (ik, .inl (dk, 86, .inl K1)), (iv, .inl (dv, 86, .inl V1)), (ir, .inl (dr, 86, .inl R1))] := hD
    have hw := hw.symm
    subst hw
    refine lv_istore (lv' := [(6, .int (bI (ft9 V1 R1 i))), (5, .int (nI 0)), (0, .ref b), (1, .ref jd), (2, .ref jm), (3, .ref jo), (4, .int (nI (1 + 4 * j)))]) hx hb d_L_law_255 hl (by decide) rfl (fun ls hl => ?_)
    refine lv_aload_n hx hb d_L_law_257 rfl (lv_at hl 4 rfl) ?_
    have hPc := hP.sub (ws' := [(jm, .inr (3, [.int (nI 0), .long sd, .long tp, .int (nI n), .ref ik, .ref iv, .ref ir, .ref il, .ref iy, .ref ig]))]) [18] rfl
    have hKc := hK.sub (tys' := []) [] rfl
    refine vp_callSi (W.runV (As := []) (rest := []) ⟨hx, hb, hml, hown, hts⟩ (c_M_thrown l dC dI jm ik iv ir il iy ig n (nI 0) sd tp) (cwV 0 hts (g_V big_w m_367 m_368 m_369 m_4 m_370) rfl rfl rfl (by decide +kernel) ⟨Nat.le_of_ble_eq_true rfl, Nat.le_of_ble_eq_true rfl⟩) (ro_V hPc hKc hN (va_recv hKc hPc (ci := 3) (q0 := 0) rfl rfl)) rfl rfl hl.1 rfl (lv_room (Nat.le_of_ble_eq_true rfl)) d_L_law_258 ⟨by show 22 + j + 0 ≤ 1052; omega, by show 1195 + 6 * j + 0 ≤ 9423; omega⟩) (fun r_9 er_9 => ?_)
    have er_9 := er_9.symm
    subst er_9
    refine lv_iload hx hb d_L_law_261 (lv_at hl 1 rfl) ?_
    refine lv_icmp_eq (tgt := 268) hx hb d_L_law_263 (by decide) (fun c_263 => ?_) (fun c_263 => ?_)
    · skip
      have c_263 := (nI_eq (by omega) (by omega)).mp c_263
      refine lv_iload hx hb d_L_law_268 (lv_at hl 1 rfl) ?_
      refine lv_if_ne (tgt := 292) hx hb d_L_law_270 (by decide) (fun c_270 => ?_) (fun c_270 => ?_)
      · skip
        have c_270 := (not_congr (nI_z (by omega))).mp c_270
        exact absurd rfl c_270
      · skip
        have c_270 := (nI_z (by omega)).mp c_270
        refine lv_aload_n hx hb d_L_law_273 rfl (lv_at hl 5 rfl) ?_
        refine lv_iconst (v := nI 0) hx hb d_L_law_274 (by decide +kernel) ?_
        refine va_lald hx hb hK hP 17 15 rfl rfl (vp_in_nI (by omega) (by omega)) d_L_law_275 ?_
        refine lv_topl (fun w_10 ew_10 => ?_)
        rw [nI_clamp (by omega)] at ew_10
        have ew_10 := ew_10.symm
        subst ew_10
        refine lv_iload hx hb d_L_law_276 (lv_at hl 0 rfl) ?_
        refine lv_if_eq (tgt := 285) hx hb d_L_law_278 (by decide) (fun c_278 => ?_) (fun c_278 => ?_)
        · skip
          have c_278 := bI_f c_278
          refine lv_lconst (v := 0) hx hb d_L_law_285 (by decide +kernel) ?_
          refine lv_topl (fun w_11 ew_11 => ?_)
          have ew_11 : (bL (ft9 V1 R1 i)) = w_11 := (ew_11.trans (by rw [c_278]; rfl)).symm
          subst ew_11
          refine W.lcmp hx hb d_L_law_286 ?_
          refine lv_if_eq (tgt := 292) hx hb d_L_law_287 (by decide) (fun c_287 => ?_) (fun c_287 => ?_)
          · skip
            have c_287 := lc_eq.mp c_287
            refine lv_goto (tgt := 600) hx hb d_L_law_292 (by decide) ?_
            refine lv_iinc (v := nI (1 + 4 * (j + 1))) (lv' := [(4, .int (nI (1 + 4 * (j + 1)))), (6, .int (bI (ft9 V1 R1 i))), (5, .int (nI 0)), (0, .ref b), (1, .ref jd), (2, .ref jm), (3, .ref jo)]) hx hb d_L_law_600 hl (k := 6) rfl (lw_inc j) (by decide) rfl (fun ls hl => ?_)
            refine lv_goto (tgt := 35) hx hb d_L_law_603 (by decide) ?_
            refine W.widen (k := 22 + (j + 1)) (n := 1195 + 6 * (j + 1)) (by omega) (by omega) ?_
            exact ih n x w K V R G B S n2 x2 K2 V2 R2 (nI 0) tp K1 V1 R1 Lf Go (vp_updL O 0 (bL (fB n K V R (nI i)))) hI hn2 _ _ (hP.sub (ws' := [(jd, .inr (2, [.long sd, .ref jh, .ref jh2, .ref jg, .ref jb, .ref jy, .long w])), (jh, .inr (1, [.ref jt, .ref jk, .ref jv, .ref jr, .int (nI n)])), (jt, .inr (0, [.long x])), (jk, .inl (ck, 43, .inl K)), (jv, .inl (cv, 43, .inl V)), (jr, .inl (cr, 43, .inl R)), (jh2, .inr (1, [.ref jt2, .ref jk2, .ref jv2, .ref jr2, .int (nI n2)])), (jt2, .inr (0, [.long x2])), (jk2, .inl (ck2, 43, .inl K2)), (jv2, .inl (cv2, 43, .inl V2)), (jr2, .inl (cr2, 43, .inl R2)), (jg, .inl (cg, 43, .inr (.inl G))), (jb, .inl (cb, 8, .inr (.inl B))), (jy, .inl (cy, 256, .inl (bF S))), (jm, .inr (3, [.int (nI 0), .long sd, .long tp, .int (nI n), .ref ik, .ref iv, .ref ir, .ref il, .ref iy, .ref ig])), (ik, .inl (dk, 86, .inl K1)), (iv, .inl (dv, 86, .inl V1)), (ir, .inl (dr, 86, .inl R1)), (il, .inl (dl, 43, .inl (bF Lf))), (iy, .inl (dy, 256, .inl (bF S))), (ig, .inl (dg, 43, .inl (bF Go))), (jo, .inl (co, 1, .inr (.inl (vp_updL O 0 (bL (fB n K V R (nI i)))))))]) [12, 13, 0, 14, 15, 16, 1, 2, 3, 4, 5, 6, 7, 8, 18, 19, 20, 21, 9, 10, 11, 17] rfl) (hD.sub (ws' := [(jd, .inr (2, [.long sd, .ref jh, .ref jh2, .ref jg, .ref jb, .ref jy, .long w])), (jh, .inr (1, [.ref jt, .ref jk, .ref jv, .ref jr, .int (nI n)])), (jt, .inr (0, [.long x])), (jk, .inl (ck, 43, .inl K)), (jv, .inl (cv, 43, .inl V)), (jr, .inl (cr, 43, .inl R)), (jh2, .inr (1, [.ref jt2, .ref jk2, .ref jv2, .ref jr2, .int (nI n2)])), (jt2, .inr (0, [.long x2])), (jk2, .inl (ck2, 43, .inl K2)), (jv2, .inl (cv2, 43, .inl V2)), (jr2, .inl (cr2, 43, .inl R2)), (jg, .inl (cg, 43, .inr (.inl G))), (jb, .inl (cb, 8, .inr (.inl B))), (jy, .inl (cy, 256, .inl (bF S))), (jm, .inr (3, [.int (nI 0), .long sd, .long tp, .int (nI n), .ref ik, .ref iv, .ref ir, .ref il, .ref iy, .ref ig])), (ik, .inl (dk, 86, .inl K1)), (iv, .inl (dv, 86, .inl V1)), (ir, .inl (dr, 86, .inl R1)), (il, .inl (dl, 43, .inl (bF Lf))), (iy, .inl (dy, 256, .inl (bF S))), (ig, .inl (dg, 43, .inl (bF Go))), (jo, .inl (co, 1, .inr (.inl (vp_updL O 0 (bL (fB n K V R (nI i)))))))]) [12, 13, 0, 14, 15, 16, 1, 2, 3, 4, 5, 6, 7, 8, 18, 19, 20, 21, 9, 10, 11, 17] (by decide) rfl) hS ls (lv_sub (l' := [(0, .ref b), (1, .ref jd), (2, .ref jm), (3, .ref jo), (4, .int (nI (1 + 4 * (j + 1))))]) hl [3, 4, 5, 6, 0] rfl)
          · skip
            have c_287 := (not_congr lc_eq).mp c_287
            exact absurd (pk_uLs.trans (by rw [hI.ft hi h5])) c_287
        · skip
          have c_278 := bI_t c_278
          refine lv_lconst (v := 1) hx hb d_L_law_281 (by decide +kernel) ?_
          refine lv_topl (fun w_12 ew_12 => ?_)
          have ew_12 : (bL (ft9 V1 R1 i)) = w_12 := (ew_12.trans (by rw [c_278]; rfl)).symm
          subst ew_12
          refine lv_goto (tgt := 286) hx hb d_L_law_282 (by decide) ?_
          refine W.lcmp hx hb d_L_law_286 ?_
          refine lv_if_eq (tgt := 292) hx hb d_L_law_287 (by decide) (fun c_287 => ?_) (fun c_287 => ?_)
          · skip
            have c_287 := lc_eq.mp c_287
            refine lv_goto (tgt := 600) hx hb d_L_law_292 (by decide) ?_
            refine lv_iinc (v := nI (1 + 4 * (j + 1))) (lv' := [(4, .int (nI (1 + 4 * (j + 1)))), (6, .int (bI (ft9 V1 R1 i))), (5, .int (nI 0)), (0, .ref b), (1, .ref jd), (2, .ref jm), (3, .ref jo)]) hx hb d_L_law_600 hl (k := 6) rfl (lw_inc j) (by decide) rfl (fun ls hl => ?_)
            refine lv_goto (tgt := 35) hx hb d_L_law_603 (by decide) ?_
            refine W.widen (k := 22 + (j + 1)) (n := 1195 + 6 * (j + 1)) (by omega) (by omega) ?_
            exact ih n x w K V R G B S n2 x2 K2 V2 R2 (nI 0) tp K1 V1 R1 Lf Go (vp_updL O 0 (bL (fB n K V R (nI i)))) hI hn2 _ _ (hP.sub (ws' := [(jd, .inr (2, [.long sd, .ref jh, .ref jh2, .ref jg, .ref jb, .ref jy, .long w])), (jh, .inr (1, [.ref jt, .ref jk, .ref jv, .ref jr, .int (nI n)])), (jt, .inr (0, [.long x])), (jk, .inl (ck, 43, .inl K)), (jv, .inl (cv, 43, .inl V)), (jr, .inl (cr, 43, .inl R)), (jh2, .inr (1, [.ref jt2, .ref jk2, .ref jv2, .ref jr2, .int (nI n2)])), (jt2, .inr (0, [.long x2])), (jk2, .inl (ck2, 43, .inl K2)), (jv2, .inl (cv2, 43, .inl V2)), (jr2, .inl (cr2, 43, .inl R2)), (jg, .inl (cg, 43, .inr (.inl G))), (jb, .inl (cb, 8, .inr (.inl B))), (jy, .inl (cy, 256, .inl (bF S))), (jm, .inr (3, [.int (nI 0), .long sd, .long tp, .int (nI n), .ref ik, .ref iv, .ref ir, .ref il, .ref iy, .ref ig])), (ik, .inl (dk, 86, .inl K1)), (iv, .inl (dv, 86, .inl V1)), (ir, .inl (dr, 86, .inl R1)), (il, .inl (dl, 43, .inl (bF Lf))), (iy, .inl (dy, 256, .inl (bF S))), (ig, .inl (dg, 43, .inl (bF Go))), (jo, .inl (co, 1, .inr (.inl (vp_updL O 0 (bL (fB n K V R (nI i)))))))]) [12, 13, 0, 14, 15, 16, 1, 2, 3, 4, 5, 6, 7, 8, 18, 19, 20, 21, 9, 10, 11, 17] rfl) (hD.sub (ws' := [(jd, .inr (2, [.long sd, .ref jh, .ref jh2, .ref jg, .ref jb, .ref jy, .long w])), (jh, .inr (1, [.ref jt, .ref jk, .ref jv, .ref jr, .int (nI n)])), (jt, .inr (0, [.long x])), (jk, .inl (ck, 43, .inl K)), (jv, .inl (cv, 43, .inl V)), (jr, .inl (cr, 43, .inl R)), (jh2, .inr (1, [.ref jt2, .ref jk2, .ref jv2, .ref jr2, .int (nI n2)])), (jt2, .inr (0, [.long x2])), (jk2, .inl (ck2, 43, .inl K2)), (jv2, .inl (cv2, 43, .inl V2)), (jr2, .inl (cr2, 43, .inl R2)), (jg, .inl (cg, 43, .inr (.inl G))), (jb, .inl (cb, 8, .inr (.inl B))), (jy, .inl (cy, 256, .inl (bF S))), (jm, .inr (3, [.int (nI 0), .long sd, .long tp, .int (nI n), .ref ik, .ref iv, .ref ir, .ref il, .ref iy, .ref ig])), (ik, .inl (dk, 86, .inl K1)), (iv, .inl (dv, 86, .inl V1)), (ir, .inl (dr, 86, .inl R1)), (il, .inl (dl, 43, .inl (bF Lf))), (iy, .inl (dy, 256, .inl (bF S))), (ig, .inl (dg, 43, .inl (bF Go))), (jo, .inl (co, 1, .inr (.inl (vp_updL O 0 (bL (fB n K V R (nI i)))))))]) [12, 13, 0, 14, 15, 16, 1, 2, 3, 4, 5, 6, 7, 8, 18, 19, 20, 21, 9, 10, 11, 17] (by decide) rfl) hS ls (lv_sub (l' := [(0, .ref b), (1, .ref jd), (2, .ref jm), (3, .ref jo), (4, .int (nI (1 + 4 * (j + 1))))]) hl [3, 4, 5, 6, 0] rfl)
          · skip
            have c_287 := (not_congr lc_eq).mp c_287
            exact absurd (pk_uLs.trans (by rw [hI.ft hi h5])) c_287
    · skip
      have c_263 := (not_congr (nI_eq (by omega) (by omega))).mp c_263
      exact absurd rfl c_263
  · skip
    have hs8 : aB n K1 (xs (1 + 4 * j + 1)) = false := (aB_congr hI.2.1 hn).symm.trans hs9
    refine lv_aload_n hx hb d_L_law_232 rfl (lv_at hl 1 rfl) ?_
    refine lv_aload_n hx hb d_L_law_233 rfl (lv_at hl 0 rfl) ?_
    refine lv_iload hx hb d_L_law_234 (lv_at hl 4 rfl) ?_
    refine lv_iconst (v := nI 1) hx hb d_L_law_236 (by decide +kernel) ?_
    refine lv_iadd hx hb d_L_law_237 ?_
    refine lv_topi (fun w_13 ew_13 => ?_)
    have ew_13 : (nI ((1 + 4 * j) + 1)) = w_13 := (ew_13.trans (nI_add _ _)).symm
    subst ew_13
    refine va_sld hx hb hX hbl hbA hS (vp_in_nI (by omega) (by omega)) d_L_law_238 ?_
    refine lv_topi (fun w_14 ew_14 => ?_)
    rw [nI_clamp (by omega)] at ew_14
    have ew_14 := ew_14.symm
    subst ew_14
    refine lv_aload_n hx hb d_L_law_239 rfl (lv_at hl 3 rfl) ?_
    have hPc := hP.sub (ws' := [(jd, .inr (2, [.long sd, .ref jh, .ref jh2, .ref jg, .ref jb, .ref jy, .long w])), (jh, .inr (1, [.ref jt, .ref jk, .ref jv, .ref jr, .int (nI n)])), (jk, .inl (ck, 43, .inl K)), (jo, .inl (co, 1, .inr (.inl O)))]) [0, 1, 3, 21] rfl
    have hKc := hK.sub (tys' := [(ck, .int), (co, .long)]) [0, 15] rfl
    have hDc := hD.sub (ws' := [(jd, .inr (2, [.long sd, .ref jh, .ref jh2, .ref jg, .ref jb, .ref jy, .long w])), (jh, .inr (1, [.ref jt, .ref jk, .ref jv, .ref jr, .int (nI n)])), (jk, .inl (ck, 43, .inl K)), (jo, .inl (co, 1, .inr (.inl O)))]) [0, 1, 3, 21] (by decide) rfl
    have hFc := va_free (wc := [(jd, .inr (2, [.long sd, .ref jh, .ref jh2, .ref jg, .ref jb, .ref jy, .long w])), (jh, .inr (1, [.ref jt, .ref jk, .ref jv, .ref jr, .int (nI n)])), (jk, .inl (ck, 43, .inl K)), (jo, .inl (co, 1, .inr (.inl O)))]) hD hS hA [0, 1, 3, 21] rfl
    refine va_calli (vx_runSW (As := [.ref jd, .int (xs ((1 + 4 * j) + 1)), .ref jo]) (rest := []) ⟨hx, hb, hml, hown, hts⟩ (c_L_fitsx l hl9 dC dI jd jh jh2 jg jb jy sd w jt jk jv jr n ck K (xs ((1 + 4 * j) + 1)) jo co O hn hs9 sa _) (vx_cwSW 3 hts (g_SW big_w m_302 m_303 m_0 m_304) rfl rfl rfl (by decide +kernel) ⟨Nat.le_of_ble_eq_true rfl, Nat.le_of_ble_eq_true rfl⟩) (wx_S hPc hKc hDc hN hT hZ hS hFc) rfl rfl hl.1 rfl (lv_room (Nat.le_of_ble_eq_true rfl)) d_L_law_240 ⟨by show 22 + j + 1 ≤ 1052; omega, by show 1195 + 6 * j + 6 ≤ 9423; omega⟩) hS (fun q _ h => hFc q h) hFc (fun r_15 u t H1 locs ht hvm hw hB hz1 hk1 hS => ?_)
    obtain ⟨hP1, hK1, hD1⟩ := hB
    rw [ht] at hP1
    obtain ⟨hP, hD⟩ := va_join (wr := [(jt, .inr (0, [.long x])), (jv, .inl (cv, 43, .inl V)), (jr, .inl (cr, 43, .inl R)), (jh2, .inr (1, [.ref jt2, .ref jk2, .ref jv2, .ref jr2, .int (nI n2)])), (jt2, .inr (0, [.long x2])), (jk2, .inl (ck2, 43, .inl K2)), (jv2, .inl (cv2, 43, .inl V2)), (jr2, .inl (cr2, 43, .inl R2)), (jg, .inl (cg, 43, .inr (.inl G))), (jb, .inl (cb, 8, .inr (.inl B))), (jy, .inl (cy, 256, .inl (bF S))), (jm, .inr (3, [.int th, .long sd, .long tp, .int (nI n), .ref ik, .ref iv, .ref ir, .ref il, .ref iy, .ref ig])), (ik, .inl (dk, 86, .inl K1)), (iv, .inl (dv, 86, .inl V1)), (ir, .inl (dr, 86, .inl R1)), (il, .inl (dl, 43, .inl (bF Lf))), (iy, .inl (dy, 256, .inl (bF S))), (ig, .inl (dg, 43, .inl (bF Go)))]) (w1 := [(jd, .inr (2, [.long sd, .ref jh, .ref jh2, .ref jg, .ref jb, .ref jy, .long w])), (jh, .inr (1, [.ref jt, .ref jk, .ref jv, .ref jr, .int (nI n)])), (jk, .inl (ck, 43, .inl K)), (jo, .inl (co, 1, .inr (.inl O)))]) hP hD [0, 1, 3, 21] [2, 4, 5, 6, 7, 8, 9, 10, 11, 12, 13, 14, 15, 16, 17, 18, 19, 20] rfl rfl (by decide) (by decide) hk1 hFc hP1 hD1
    generalize H1 = H at hP hS ⊢
    have hP : va_P (dC, dI) classes [(jt, .inr (0, [.long x])), (jv, .inl (cv, 43, .inl V)), (jr, .inl (cr, 43, .inl R)), (jh2, .inr (1, [.ref jt2, .ref jk2, .ref jv2, .ref jr2, .int (nI n2)])), (jt2, .inr (0, [.long x2])), (jk2, .inl (ck2, 43, .inl K2)), (jv2, .inl (cv2, 43, .inl V2)), (jr2, .inl (cr2, 43, .inl R2)), (jg, .inl (cg, 43, .inr (.inl G))), (jb, .inl (cb, 8, .inr (.inl B))), (jy, .inl (cy, 256, .inl (bF S))), (jm, .inr (3, [.int th, .long sd, .long tp, .int (nI n), .ref ik, .ref iv, .ref ir, .ref il, .ref iy, .ref ig])), (ik, .inl (dk, 86, .inl K1)), (iv, .inl (dv, 86, .inl V1)), (ir, .inl (dr, 86, .inl R1)), (il, .inl (dl, 43, .inl (bF Lf))), (iy, .inl (dy, 256, .inl (bF S))), (ig, .inl (dg, 43, .inl (bF Go))), (jd, .inr (2, [.long sd, .ref jh, .ref jh2, .ref jg, .ref jb, .ref jy, .long w])), (jh, .inr (1, [.ref jt, .ref jk, .ref jv, .ref jr, .int (nI n)])), (jk, .inl (ck, 43, .inl K)), (jo, .inl (co, 1, .inr (.inl O)))] H := hP
    have hD : va_D (fun q : Nat => s.heap.size ≤ q) [(jt, .inr (0, [.long x])), (jv, .inl (cv, 43, .inl V)), (jr, .inl (cr, 43, .inl R)), (jh2, .inr (1, [.ref jt2, .ref jk2, .ref jv2, .ref jr2, .int (nI n2)])), (jt2, .inr (0, [.long x2])), (jk2, .inl (ck2, 43, .inl K2)), (jv2, .inl (cv2, 43, .inl V2)), (jr2, .inl (cr2, 43, .inl R2)), (jg, .inl (cg, 43, .inr (.inl G))), (jb, .inl (cb, 8, .inr (.inl B))), (jy, .inl (cy, 256, .inl (bF S))), (jm, .inr (3, [.int th, .long sd, .long tp, .int (nI n), .ref ik, .ref iv, .ref ir, .ref il, .ref iy, .ref ig])), (ik, .inl (dk, 86, .inl K1)), (iv, .inl (dv, 86, .inl V1)), (ir, .inl (dr, 86, .inl R1)), (il, .inl (dl, 43, .inl (bF Lf))), (iy, .inl (dy, 256, .inl (bF S))), (ig, .inl (dg, 43, .inl (bF Go))), (jd, .inr (2, [.long sd, .ref jh, .ref jh2, .ref jg, .ref jb, .ref jy, .long w])), (jh, .inr (1, [.ref jt, .ref jk, .ref jv, .ref jr, .int (nI n)])), (jk, .inl (ck, 43, .inl K)), (jo, .inl (co, 1, .inr (.inl O)))] := hD
    refine W.cs (cells' := (22 + j + 1)) (slots' := (1195 + 6 * j + 6)) rfl rfl ?_
    have hw := hw.symm
    subst hw
    refine lv_istore (lv' := [(5, .int (nI 1)), (0, .ref b), (1, .ref jd), (2, .ref jm), (3, .ref jo), (4, .int (nI (1 + 4 * j)))]) hx hb d_L_law_243 hl (by decide) rfl (fun ls hl => ?_)
    refine lv_aload_n hx hb d_L_law_245 rfl (lv_at hl 3 rfl) ?_
    refine lv_aload_n hx hb d_L_law_246 rfl (lv_at hl 1 rfl) ?_
    refine lv_iload hx hb d_L_law_247 (lv_at hl 5 rfl) ?_
    refine lv_iconst (v := nI 1) hx hb d_L_law_249 (by decide +kernel) ?_
    refine lv_iadd hx hb d_L_law_250 ?_
    refine lv_topi (fun w_16 ew_16 => ?_)
    have ew_16 : (nI ((1 + 4 * j) + 1)) = w_16 := (ew_16.trans (nI_add _ _)).symm
    subst ew_16
    refine va_sld hx hb hX hbl hbA hS (vp_in_nI (by omega) (by omega)) d_L_law_251 ?_
    refine lv_topi (fun w_17 ew_17 => ?_)
    rw [nI_clamp (by omega)] at ew_17
    have ew_17 := ew_17.symm
    subst ew_17
    have hPc := hP.sub (ws' := [(jm, .inr (3, [.int th, .long sd, .long tp, .int (nI n), .ref ik, .ref iv, .ref ir, .ref il, .ref iy, .ref ig])), (ik, .inl (dk, 86, .inl K1))]) [11, 12] rfl
    have hKc := hK.sub (tys' := [(dk, .int)]) [9] rfl
    have hDc := hD.sub (ws' := [(jm, .inr (3, [.int th, .long sd, .long tp, .int (nI n), .ref ik, .ref iv, .ref ir, .ref il, .ref iy, .ref ig])), (ik, .inl (dk, 86, .inl K1))]) [11, 12] (by decide) rfl
    have hFc := va_free (wc := [(jm, .inr (3, [.int th, .long sd, .long tp, .int (nI n), .ref ik, .ref iv, .ref ir, .ref il, .ref iy, .ref ig])), (ik, .inl (dk, 86, .inl K1))]) hD hS hA [11, 12] rfl
    refine va_calli (va_runV (As := [.int (xs ((1 + 4 * j) + 1))]) (rest := []) ⟨hx, hb, hml, hown, hts⟩ (c_M_fitsx l dC dI jm ik iv ir il iy ig n th sd tp dk K1 (xs ((1 + 4 * j) + 1)) hn hs8 _) (cwV 1 hts (g_V big_w m_407 m_408 m_409 m_4 m_410) rfl rfl rfl (by decide +kernel) ⟨Nat.le_of_ble_eq_true rfl, Nat.le_of_ble_eq_true rfl⟩) (wr_V hPc hKc hDc hN (va_recv hKc hPc (ci := 3) (q0 := 0) rfl rfl)) rfl rfl hl.1 rfl (lv_room (Nat.le_of_ble_eq_true rfl)) d_L_law_252 ⟨by show 22 + j + 1 + 0 ≤ 1052; omega, by show 1195 + 6 * j + 6 + 0 ≤ 9423; omega⟩) hS (fun q _ h => hFc q h) hFc (fun r_18 u t H1 locs ht hvm hw hB hz1 hk1 hS => ?_)
    obtain ⟨hP1, hK1, hD1⟩ := hB
    rw [ht] at hP1
    obtain ⟨hP, hD⟩ := va_join (wr := [(jt, .inr (0, [.long x])), (jv, .inl (cv, 43, .inl V)), (jr, .inl (cr, 43, .inl R)), (jh2, .inr (1, [.ref jt2, .ref jk2, .ref jv2, .ref jr2, .int (nI n2)])), (jt2, .inr (0, [.long x2])), (jk2, .inl (ck2, 43, .inl K2)), (jv2, .inl (cv2, 43, .inl V2)), (jr2, .inl (cr2, 43, .inl R2)), (jg, .inl (cg, 43, .inr (.inl G))), (jb, .inl (cb, 8, .inr (.inl B))), (jy, .inl (cy, 256, .inl (bF S))), (iv, .inl (dv, 86, .inl V1)), (ir, .inl (dr, 86, .inl R1)), (il, .inl (dl, 43, .inl (bF Lf))), (iy, .inl (dy, 256, .inl (bF S))), (ig, .inl (dg, 43, .inl (bF Go))), (jd, .inr (2, [.long sd, .ref jh, .ref jh2, .ref jg, .ref jb, .ref jy, .long w])), (jh, .inr (1, [.ref jt, .ref jk, .ref jv, .ref jr, .int (nI n)])), (jk, .inl (ck, 43, .inl K)), (jo, .inl (co, 1, .inr (.inl O)))]) (w1 := [(jm, .inr (3, [.int (nI 1), .long sd, .long tp, .int (nI n), .ref ik, .ref iv, .ref ir, .ref il, .ref iy, .ref ig])), (ik, .inl (dk, 86, .inl K1))]) hP hD [11, 12] [0, 1, 2, 3, 4, 5, 6, 7, 8, 9, 10, 13, 14, 15, 16, 17, 18, 19, 20, 21] rfl rfl (by decide) (by decide) hk1 hFc hP1 hD1
    generalize H1 = H at hP hS ⊢
    have hP : va_P (dC, dI) classes [(jt, .inr (0, [.long x])), (jv, .inl (cv, 43, .inl V)), (jr, .inl (cr, 43, .inl R)), (jh2, .inr (1, [.ref jt2, .ref jk2, .ref jv2, .ref jr2, .int (nI n2)])), (jt2, .inr (0, [.long x2])), (jk2, .inl (ck2, 43, .inl K2)), (jv2, .inl (cv2, 43, .inl V2)), (jr2, .inl (cr2, 43, .inl R2)), (jg, .inl (cg, 43, .inr (.inl G))), (jb, .inl (cb, 8, .inr (.inl B))), (jy, .inl (cy, 256, .inl (bF S))), (iv, .inl (dv, 86, .inl V1)), (ir, .inl (dr, 86, .inl R1)), (il, .inl (dl, 43, .inl (bF Lf))), (iy, .inl (dy, 256, .inl (bF S))), (ig, .inl (dg, 43, .inl (bF Go))), (jd, .inr (2, [.long sd, .ref jh, .ref jh2, .ref jg, .ref jb, .ref jy, .long w])), (jh, .inr (1, [.ref jt, .ref jk, .ref jv, .ref jr, .int (nI n)])), (jk, .inl (ck, 43, .inl K)), (jo, .inl (co, 1, .inr (.inl O))), (jm, .inr (3, [.int (nI 1), .long sd, .long tp, .int (nI n), .ref ik, .ref iv, .ref ir, .ref il, .ref iy, .ref ig])), (ik, .inl (dk, 86, .inl K1))] H := hP
    have hD : va_D (fun q : Nat => s.heap.size ≤ q) [(jt, .inr (0, [.long x])), (jv, .inl (cv, 43, .inl V)), (jr, .inl (cr, 43, .inl R)), (jh2, .inr (1, [.ref jt2, .ref jk2, .ref jv2, .ref jr2, .int (nI n2)])), (jt2, .inr (0, [.long x2])), (jk2, .inl (ck2, 43, .inl K2)), (jv2, .inl (cv2, 43, .inl V2)), (jr2, .inl (cr2, 43, .inl R2)), (jg, .inl (cg, 43, .inr (.inl G))), (jb, .inl (cb, 8, .inr (.inl B))), (jy, .inl (cy, 256, .inl (bF S))), (iv, .inl (dv, 86, .inl V1)), (ir, .inl (dr, 86, .inl R1)), (il, .inl (dl, 43, .inl (bF Lf))), (iy, .inl (dy, 256, .inl (bF S))), (ig, .inl (dg, 43, .inl (bF Go))), (jd, .inr (2, [.long sd, .ref jh, .ref jh2, .ref jg, .ref jb, .ref jy, .long w])), (jh, .inr (1, [.ref jt, .ref jk, .ref jv, .ref jr, .int (nI n)])), (jk, .inl (ck, 43, .inl K)), (jo, .inl (co, 1, .inr (.inl O))), (jm, .inr (3, [.int (nI 1), .long sd, .long tp, .int (nI n), .ref ik, .ref iv, .ref ir, .ref il, .ref iy, .ref ig])), (ik, .inl (dk, 86, .inl K1))] := hD
    have hw := hw.symm
    subst hw
    refine lv_istore (lv' := [(6, .int (nI 0)), (5, .int (nI 1)), (0, .ref b), (1, .ref jd), (2, .ref jm), (3, .ref jo), (4, .int (nI (1 + 4 * j)))]) hx hb d_L_law_255 hl (by decide) rfl (fun ls hl => ?_)
    refine lv_aload_n hx hb d_L_law_257 rfl (lv_at hl 4 rfl) ?_
    have hPc := hP.sub (ws' := [(jm, .inr (3, [.int (nI 1), .long sd, .long tp, .int (nI n), .ref ik, .ref iv, .ref ir, .ref il, .ref iy, .ref ig]))]) [20] rfl
    have hKc := hK.sub (tys' := []) [] rfl
    refine vp_callSi (W.runV (As := []) (rest := []) ⟨hx, hb, hml, hown, hts⟩ (c_M_thrown l dC dI jm ik iv ir il iy ig n (nI 1) sd tp) (cwV 0 hts (g_V big_w m_367 m_368 m_369 m_4 m_370) rfl rfl rfl (by decide +kernel) ⟨Nat.le_of_ble_eq_true rfl, Nat.le_of_ble_eq_true rfl⟩) (ro_V hPc hKc hN (va_recv hKc hPc (ci := 3) (q0 := 0) rfl rfl)) rfl rfl hl.1 rfl (lv_room (Nat.le_of_ble_eq_true rfl)) d_L_law_258 ⟨by show 22 + j + 1 + 0 ≤ 1052; omega, by show 1195 + 6 * j + 6 + 0 ≤ 9423; omega⟩) (fun r_19 er_19 => ?_)
    have er_19 := er_19.symm
    subst er_19
    refine lv_iload hx hb d_L_law_261 (lv_at hl 1 rfl) ?_
    refine lv_icmp_eq (tgt := 268) hx hb d_L_law_263 (by decide) (fun c_263 => ?_) (fun c_263 => ?_)
    · skip
      have c_263 := (nI_eq (by omega) (by omega)).mp c_263
      refine lv_iload hx hb d_L_law_268 (lv_at hl 1 rfl) ?_
      refine lv_if_ne (tgt := 292) hx hb d_L_law_270 (by decide) (fun c_270 => ?_) (fun c_270 => ?_)
      · skip
        have c_270 := (not_congr (nI_z (by omega))).mp c_270
        refine lv_goto (tgt := 600) hx hb d_L_law_292 (by decide) ?_
        refine lv_iinc (v := nI (1 + 4 * (j + 1))) (lv' := [(4, .int (nI (1 + 4 * (j + 1)))), (6, .int (nI 0)), (5, .int (nI 1)), (0, .ref b), (1, .ref jd), (2, .ref jm), (3, .ref jo)]) hx hb d_L_law_600 hl (k := 6) rfl (lw_inc j) (by decide) rfl (fun ls hl => ?_)
        refine lv_goto (tgt := 35) hx hb d_L_law_603 (by decide) ?_
        refine W.widen (k := 22 + (j + 1)) (n := 1195 + 6 * (j + 1)) (by omega) (by omega) ?_
        exact ih n x w K V R G B S n2 x2 K2 V2 R2 (nI 1) tp K1 V1 R1 Lf Go O hI hn2 _ _ (hP.sub (ws' := [(jd, .inr (2, [.long sd, .ref jh, .ref jh2, .ref jg, .ref jb, .ref jy, .long w])), (jh, .inr (1, [.ref jt, .ref jk, .ref jv, .ref jr, .int (nI n)])), (jt, .inr (0, [.long x])), (jk, .inl (ck, 43, .inl K)), (jv, .inl (cv, 43, .inl V)), (jr, .inl (cr, 43, .inl R)), (jh2, .inr (1, [.ref jt2, .ref jk2, .ref jv2, .ref jr2, .int (nI n2)])), (jt2, .inr (0, [.long x2])), (jk2, .inl (ck2, 43, .inl K2)), (jv2, .inl (cv2, 43, .inl V2)), (jr2, .inl (cr2, 43, .inl R2)), (jg, .inl (cg, 43, .inr (.inl G))), (jb, .inl (cb, 8, .inr (.inl B))), (jy, .inl (cy, 256, .inl (bF S))), (jm, .inr (3, [.int (nI 1), .long sd, .long tp, .int (nI n), .ref ik, .ref iv, .ref ir, .ref il, .ref iy, .ref ig])), (ik, .inl (dk, 86, .inl K1)), (iv, .inl (dv, 86, .inl V1)), (ir, .inl (dr, 86, .inl R1)), (il, .inl (dl, 43, .inl (bF Lf))), (iy, .inl (dy, 256, .inl (bF S))), (ig, .inl (dg, 43, .inl (bF Go))), (jo, .inl (co, 1, .inr (.inl O)))]) [16, 17, 0, 18, 1, 2, 3, 4, 5, 6, 7, 8, 9, 10, 20, 21, 11, 12, 13, 14, 15, 19] rfl) (hD.sub (ws' := [(jd, .inr (2, [.long sd, .ref jh, .ref jh2, .ref jg, .ref jb, .ref jy, .long w])), (jh, .inr (1, [.ref jt, .ref jk, .ref jv, .ref jr, .int (nI n)])), (jt, .inr (0, [.long x])), (jk, .inl (ck, 43, .inl K)), (jv, .inl (cv, 43, .inl V)), (jr, .inl (cr, 43, .inl R)), (jh2, .inr (1, [.ref jt2, .ref jk2, .ref jv2, .ref jr2, .int (nI n2)])), (jt2, .inr (0, [.long x2])), (jk2, .inl (ck2, 43, .inl K2)), (jv2, .inl (cv2, 43, .inl V2)), (jr2, .inl (cr2, 43, .inl R2)), (jg, .inl (cg, 43, .inr (.inl G))), (jb, .inl (cb, 8, .inr (.inl B))), (jy, .inl (cy, 256, .inl (bF S))), (jm, .inr (3, [.int (nI 1), .long sd, .long tp, .int (nI n), .ref ik, .ref iv, .ref ir, .ref il, .ref iy, .ref ig])), (ik, .inl (dk, 86, .inl K1)), (iv, .inl (dv, 86, .inl V1)), (ir, .inl (dr, 86, .inl R1)), (il, .inl (dl, 43, .inl (bF Lf))), (iy, .inl (dy, 256, .inl (bF S))), (ig, .inl (dg, 43, .inl (bF Go))), (jo, .inl (co, 1, .inr (.inl O)))]) [16, 17, 0, 18, 1, 2, 3, 4, 5, 6, 7, 8, 9, 10, 20, 21, 11, 12, 13, 14, 15, 19] (by decide) rfl) hS ls (lv_sub (l' := [(0, .ref b), (1, .ref jd), (2, .ref jm), (3, .ref jo), (4, .int (nI (1 + 4 * (j + 1))))]) hl [3, 4, 5, 6, 0] rfl)
      · skip
        have c_270 := (nI_z (by omega)).mp c_270
        exact absurd c_270 (by decide)
    · skip
      have c_263 := (not_congr (nI_eq (by omega) (by omega))).mp c_263
      exact absurd rfl c_263
