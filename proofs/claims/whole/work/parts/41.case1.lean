set_option maxHeartbeats 8000000 in
set_option maxRecDepth 100000 in
/-- the law, case 1 -/
theorem law_case_1 {p : Program} {l : Launch} {e : Env} {s : State} {m : MethodId} {below : List Frame} {meth : Method} {c : Code} {dC : Nat → ClassId} {dI : Nat → Nat → Nat} {b Ln : Nat} {xs : Nat → Int32} {sa : Nat → Nat} {jd jh jt jk jv jr jh2 jt2 jk2 jv2 jr2 jg jb jy jm ik iv ir il iy ig jo : Nat} {ck cv cr ck2 cv2 cr2 cg cb cy dk dv dr dl dy dg co : ClassId} {sd : Int64} (hl9 : l.stackTraces = false) (hL : Ln ≤ 2049) (hx : p.tables.exec = Jvm.exec) (hb : c.code = code) (hr : meth.sig.returnType = ret) (hml : c.maxLocals = 7) (hown : s.vm.findClass R_L = some m.cls) (hts : ∀ w ∈ (Jvm.Cond.initialized "PortDrawerLaw" :: tblG), w.before #[Value.ref b] s = true) (hX : va_X b Ln xs s s.heap) (hbl : b < s.heap.size) (hlocks : meth.locks = false) (hN : NW s) (hT : TX sa s) (hZ : zqU (fun q : Nat => s.heap.size ≤ q) s s.heap) (hK : va_K (dC, dI) classes [(ck, .int), (cv, .int), (cr, .int), (ck2, .int), (cv2, .int), (cr2, .int), (cg, .long), (cb, .long), (cy, .boolean), (dk, .int), (dv, .int), (dr, .int), (dl, .boolean), (dy, .boolean), (dg, .boolean), (co, .long)] s)  (j : Nat) (hj : 4 * j ≤ Ln) (hj4 : 1 + 4 * j + 4 ≤ Ln) (ih : ∀ (n : Nat) (x w : Int64) (K V R : Nat → Int32) (G B : Nat → Int64) (S : Nat → Bool) (n2 : Nat) (x2 : Int64) (K2 V2 R2 : Nat → Int32) (th : Int32) (tp : Int64) (K1 V1 R1 : Nat → Int32) (Lf Go : Nat → Bool) (O : Nat → Int64), INV n K V R G B w K1 V1 R1 Lf → n2 ≤ 43 → ∀ (H : Heap) (locs : List Loc), va_P (dC, dI) classes [(jd, .inr (2, [.long sd, .ref jh, .ref jh2, .ref jg, .ref jb, .ref jy, .long w])), (jh, .inr (1, [.ref jt, .ref jk, .ref jv, .ref jr, .int (nI n)])), (jt, .inr (0, [.long x])), (jk, .inl (ck, 43, .inl K)), (jv, .inl (cv, 43, .inl V)), (jr, .inl (cr, 43, .inl R)), (jh2, .inr (1, [.ref jt2, .ref jk2, .ref jv2, .ref jr2, .int (nI n2)])), (jt2, .inr (0, [.long x2])), (jk2, .inl (ck2, 43, .inl K2)), (jv2, .inl (cv2, 43, .inl V2)), (jr2, .inl (cr2, 43, .inl R2)), (jg, .inl (cg, 43, .inr (.inl G))), (jb, .inl (cb, 8, .inr (.inl B))), (jy, .inl (cy, 256, .inl (bF S))), (jm, .inr (3, [.int th, .long sd, .long tp, .int (nI n), .ref ik, .ref iv, .ref ir, .ref il, .ref iy, .ref ig])), (ik, .inl (dk, 86, .inl K1)), (iv, .inl (dv, 86, .inl V1)), (ir, .inl (dr, 86, .inl R1)), (il, .inl (dl, 43, .inl (bF Lf))), (iy, .inl (dy, 256, .inl (bF S))), (ig, .inl (dg, 43, .inl (bF Go))), (jo, .inl (co, 1, .inr (.inl O)))] H → va_D (fun q : Nat => s.heap.size ≤ q) [(jd, .inr (2, [.long sd, .ref jh, .ref jh2, .ref jg, .ref jb, .ref jy, .long w])), (jh, .inr (1, [.ref jt, .ref jk, .ref jv, .ref jr, .int (nI n)])), (jt, .inr (0, [.long x])), (jk, .inl (ck, 43, .inl K)), (jv, .inl (cv, 43, .inl V)), (jr, .inl (cr, 43, .inl R)), (jh2, .inr (1, [.ref jt2, .ref jk2, .ref jv2, .ref jr2, .int (nI n2)])), (jt2, .inr (0, [.long x2])), (jk2, .inl (ck2, 43, .inl K2)), (jv2, .inl (cv2, 43, .inl V2)), (jr2, .inl (cr2, 43, .inl R2)), (jg, .inl (cg, 43, .inr (.inl G))), (jb, .inl (cb, 8, .inr (.inl B))), (jy, .inl (cy, 256, .inl (bF S))), (jm, .inr (3, [.int th, .long sd, .long tp, .int (nI n), .ref ik, .ref iv, .ref ir, .ref il, .ref iy, .ref ig])), (ik, .inl (dk, 86, .inl K1)), (iv, .inl (dv, 86, .inl V1)), (ir, .inl (dr, 86, .inl R1)), (il, .inl (dl, 43, .inl (bF Lf))), (iy, .inl (dy, 256, .inl (bF S))), (ig, .inl (dg, 43, .inl (bF Go))), (jo, .inl (co, 1, .inr (.inl O)))] → va_S (fun q : Nat => s.heap.size ≤ q) s.heap H locs → ∀ (ls : Array Slot), lv_has ls 7 [(0, .ref b), (1, .ref jd), (2, .ref jm), (3, .ref jo), (4, .int (nI (1 + 4 * (j + 1))))] → W p l e room_1 s m #[Value.ref b] below meth c H locs (22 + (j + 1)) (1195 + 6 * (j + 1)) (lw_Z below #[Value.ref b] s) (F0 m 35 ls [])) (n : Nat) (x w : Int64) (K V R : Nat → Int32) (G B : Nat → Int64) (S : Nat → Bool) (n2 : Nat) (x2 : Int64) (K2 V2 R2 : Nat → Int32) (th : Int32) (tp : Int64) (K1 V1 R1 : Nat → Int32) (Lf Go : Nat → Bool) (O : Nat → Int64) (hI : INV n K V R G B w K1 V1 R1 Lf) (hn2 : n2 ≤ 43) (H : Heap) (locs : List Loc) (hP : va_P (dC, dI) classes [(jd, .inr (2, [.long sd, .ref jh, .ref jh2, .ref jg, .ref jb, .ref jy, .long w])), (jh, .inr (1, [.ref jt, .ref jk, .ref jv, .ref jr, .int (nI n)])), (jt, .inr (0, [.long x])), (jk, .inl (ck, 43, .inl K)), (jv, .inl (cv, 43, .inl V)), (jr, .inl (cr, 43, .inl R)), (jh2, .inr (1, [.ref jt2, .ref jk2, .ref jv2, .ref jr2, .int (nI n2)])), (jt2, .inr (0, [.long x2])), (jk2, .inl (ck2, 43, .inl K2)), (jv2, .inl (cv2, 43, .inl V2)), (jr2, .inl (cr2, 43, .inl R2)), (jg, .inl (cg, 43, .inr (.inl G))), (jb, .inl (cb, 8, .inr (.inl B))), (jy, .inl (cy, 256, .inl (bF S))), (jm, .inr (3, [.int th, .long sd, .long tp, .int (nI n), .ref ik, .ref iv, .ref ir, .ref il, .ref iy, .ref ig])), (ik, .inl (dk, 86, .inl K1)), (iv, .inl (dv, 86, .inl V1)), (ir, .inl (dr, 86, .inl R1)), (il, .inl (dl, 43, .inl (bF Lf))), (iy, .inl (dy, 256, .inl (bF S))), (ig, .inl (dg, 43, .inl (bF Go))), (jo, .inl (co, 1, .inr (.inl O)))] H) (hD : va_D (fun q : Nat => s.heap.size ≤ q) [(jd, .inr (2, [.long sd, .ref jh, .ref jh2, .ref jg, .ref jb, .ref jy, .long w])), (jh, .inr (1, [.ref jt, .ref jk, .ref jv, .ref jr, .int (nI n)])), (jt, .inr (0, [.long x])), (jk, .inl (ck, 43, .inl K)), (jv, .inl (cv, 43, .inl V)), (jr, .inl (cr, 43, .inl R)), (jh2, .inr (1, [.ref jt2, .ref jk2, .ref jv2, .ref jr2, .int (nI n2)])), (jt2, .inr (0, [.long x2])), (jk2, .inl (ck2, 43, .inl K2)), (jv2, .inl (cv2, 43, .inl V2)), (jr2, .inl (cr2, 43, .inl R2)), (jg, .inl (cg, 43, .inr (.inl G))), (jb, .inl (cb, 8, .inr (.inl B))), (jy, .inl (cy, 256, .inl (bF S))), (jm, .inr (3, [.int th, .long sd, .long tp, .int (nI n), .ref ik, .ref iv, .ref ir, .ref il, .ref iy, .ref ig])), (ik, .inl (dk, 86, .inl K1)), (iv, .inl (dv, 86, .inl V1)), (ir, .inl (dr, 86, .inl R1)), (il, .inl (dl, 43, .inl (bF Lf))), (iy, .inl (dy, 256, .inl (bF S))), (ig, .inl (dg, 43, .inl (bF Go))), (jo, .inl (co, 1, .inr (.inl O)))]) (hS : va_S (fun q : Nat => s.heap.size ≤ q) s.heap H locs) (ls : Array Slot) (hl : lv_has ls 7 [(0, .ref b), (1, .ref jd), (2, .ref jm), (3, .ref jo), (4, .int (nI (1 + 4 * j)))]) : W p l e room_1 s m #[Value.ref b] below meth c H locs (22 + j) (1195 + 6 * j) (lw_Z below #[Value.ref b] s) (F0 m 164 ls []) := by
  have hA : ∀ q : Nat, s.heap.size ≤ q → (fun q : Nat => s.heap.size ≤ q) q := fun _ h => h
  have hbA : ¬ (fun q : Nat => s.heap.size ≤ q) b := Nat.not_le.mpr hbl
  have hn := hI.1
  by_cases hs9 : hB n (xs (1 + 4 * j + 1)) = true ∧ ¬ ((xs (1 + 4 * j + 2)).toInt < 0 ∨ 4 < (xs (1 + 4 * j + 2)).toInt)
  · skip
    obtain ⟨i, hi, ez⟩ := hB_of hs9.1 (by omega)
    refine lv_aload_n hx hb d_L_law_164 rfl (lv_at hl 1 rfl) ?_
    refine lv_aload_n hx hb d_L_law_165 rfl (lv_at hl 0 rfl) ?_
    refine lv_iload hx hb d_L_law_166 (lv_at hl 4 rfl) ?_
    refine lv_iconst (v := nI 1) hx hb d_L_law_168 (by decide +kernel) ?_
    refine lv_iadd hx hb d_L_law_169 ?_
    refine lv_topi (fun w_1 ew_1 => ?_)
    have ew_1 : (nI ((1 + 4 * j) + 1)) = w_1 := (ew_1.trans (nI_add _ _)).symm
    subst ew_1
    refine va_sld hx hb hX hbl hbA hS (vp_in_nI (by omega) (by omega)) d_L_law_170 ?_
    refine lv_topi (fun w_2 ew_2 => ?_)
    rw [nI_clamp (by omega)] at ew_2
    have ew_2 := ew_2.symm
    subst ew_2
    refine lv_topi (fun w_3 ew_3 => ?_)
    have ew_3 : (nI i) = w_3 := (ew_3.trans (ez)).symm
    subst ew_3
    refine lv_aload_n hx hb d_L_law_171 rfl (lv_at hl 0 rfl) ?_
    refine lv_iload hx hb d_L_law_172 (lv_at hl 4 rfl) ?_
    refine lv_iconst (v := nI 2) hx hb d_L_law_174 (by decide +kernel) ?_
    refine lv_iadd hx hb d_L_law_175 ?_
    refine lv_topi (fun w_4 ew_4 => ?_)
    have ew_4 : (nI ((1 + 4 * j) + 2)) = w_4 := (ew_4.trans (nI_add _ _)).symm
    subst ew_4
    refine va_sld hx hb hX hbl hbA hS (vp_in_nI (by omega) (by omega)) d_L_law_176 ?_
    refine lv_topi (fun w_5 ew_5 => ?_)
    rw [nI_clamp (by omega)] at ew_5
    have ew_5 := ew_5.symm
    subst ew_5
    refine lv_aload_n hx hb d_L_law_177 rfl (lv_at hl 3 rfl) ?_
    have hPc := hP.sub (ws' := [(jd, .inr (2, [.long sd, .ref jh, .ref jh2, .ref jg, .ref jb, .ref jy, .long w])), (jh, .inr (1, [.ref jt, .ref jk, .ref jv, .ref jr, .int (nI n)])), (jk, .inl (ck, 43, .inl K)), (jv, .inl (cv, 43, .inl V)), (jr, .inl (cr, 43, .inl R)), (jo, .inl (co, 1, .inr (.inl O)))]) [0, 1, 3, 4, 5, 21] rfl
    have hKc := hK.sub (tys' := [(ck, .int), (cv, .int), (cr, .int), (co, .long)]) [0, 1, 2, 15] rfl
    have hDc := hD.sub (ws' := [(jd, .inr (2, [.long sd, .ref jh, .ref jh2, .ref jg, .ref jb, .ref jy, .long w])), (jh, .inr (1, [.ref jt, .ref jk, .ref jv, .ref jr, .int (nI n)])), (jk, .inl (ck, 43, .inl K)), (jv, .inl (cv, 43, .inl V)), (jr, .inl (cr, 43, .inl R)), (jo, .inl (co, 1, .inr (.inl O)))]) [0, 1, 3, 4, 5, 21] (by decide) rfl
    have hFc := va_free (wc := [(jd, .inr (2, [.long sd, .ref jh, .ref jh2, .ref jg, .ref jb, .ref jy, .long w])), (jh, .inr (1, [.ref jt, .ref jk, .ref jv, .ref jr, .int (nI n)])), (jk, .inl (ck, 43, .inl K)), (jv, .inl (cv, 43, .inl V)), (jr, .inl (cr, 43, .inl R)), (jo, .inl (co, 1, .inr (.inl O)))]) hD hS hA [0, 1, 3, 4, 5, 21] rfl
    refine va_calli (vx_runSW (As := [.ref jd, .int (nI i), .int (xs ((1 + 4 * j) + 2)), .ref jo]) (rest := []) ⟨hx, hb, hml, hown, hts⟩ (c_L_part l dC dI jd jh jh2 jg jb jy sd w jt jk jv jr n ck cv cr K V R i (xs ((1 + 4 * j) + 2)) jo co O hn hi hs9.2 _) (vx_cwSW 4 hts (g_SW big_w m_277 m_278 m_0 m_279) rfl rfl rfl (by decide +kernel) ⟨Nat.le_of_ble_eq_true rfl, Nat.le_of_ble_eq_true rfl⟩) (wr_S hPc hKc hDc hN) rfl rfl hl.1 rfl (lv_room (Nat.le_of_ble_eq_true rfl)) d_L_law_178 ⟨by show 22 + j + 0 ≤ 1052; omega, by show 1195 + 6 * j + 0 ≤ 9423; omega⟩) hS (fun q _ h => hFc q h) hFc (fun r_6 u t H1 locs ht hvm hw hB hz1 hk1 hS => ?_)
    obtain ⟨hP1, hK1, hD1⟩ := hB
    rw [ht] at hP1
    obtain ⟨hP, hD⟩ := va_join (wr := [(jt, .inr (0, [.long x])), (jh2, .inr (1, [.ref jt2, .ref jk2, .ref jv2, .ref jr2, .int (nI n2)])), (jt2, .inr (0, [.long x2])), (jk2, .inl (ck2, 43, .inl K2)), (jv2, .inl (cv2, 43, .inl V2)), (jr2, .inl (cr2, 43, .inl R2)), (jg, .inl (cg, 43, .inr (.inl G))), (jb, .inl (cb, 8, .inr (.inl B))), (jy, .inl (cy, 256, .inl (bF S))), (jm, .inr (3, [.int th, .long sd, .long tp, .int (nI n), .ref ik, .ref iv, .ref ir, .ref il, .ref iy, .ref ig])), (ik, .inl (dk, 86, .inl K1)), (iv, .inl (dv, 86, .inl V1)), (ir, .inl (dr, 86, .inl R1)), (il, .inl (dl, 43, .inl (bF Lf))), (iy, .inl (dy, 256, .inl (bF S))), (ig, .inl (dg, 43, .inl (bF Go)))]) (w1 := [(jd, .inr (2, [.long sd, .ref jh, .ref jh2, .ref jg, .ref jb, .ref jy, .long w])), (jh, .inr (1, [.ref jt, .ref jk, .ref jv, .ref jr, .int (nI n)])), (jk, .inl (ck, 43, .inl K)), (jv, .inl (cv, 43, .inl V)), (jr, .inl (cr, 43, .inl R)), (jo, .inl (co, 1, .inr (.inl (vp_updL O 0 ((ptI K V R w i (xs ((1 + 4 * j) + 2))).toInt64)))))]) hP hD [0, 1, 3, 4, 5, 21] [2, 6, 7, 8, 9, 10, 11, 12, 13, 14, 15, 16, 17, 18, 19, 20] rfl rfl (by decide) (by decide) hk1 hFc hP1 hD1
    generalize H1 = H at hP hS ⊢
    have hP : va_P (dC, dI) classes [(jt, .inr (0, [.long x])), (jh2, .inr (1, [.ref jt2, .ref jk2, .ref jv2, .ref jr2, .int (nI n2)])), (jt2, .inr (0, [.long x2])), (jk2, .inl (ck2, 43, .inl K2)), (jv2, .inl (cv2, 43, .inl V2)), (jr2, .inl (cr2, 43, .inl R2)), (jg, .inl (cg, 43, .inr (.inl G))), (jb, .inl (cb, 8, .inr (.inl B))), (jy, .inl (cy, 256, .inl (bF S))), (jm, .inr (3, [.int th, .long sd, .long tp, .int (nI n), .ref ik, .ref iv, .ref ir, .ref il, .ref iy, .ref ig])), (ik, .inl (dk, 86, .inl K1)), (iv, .inl (dv, 86, .inl V1)), (ir, .inl (dr, 86, .inl R1)), (il, .inl (dl, 43, .inl (bF Lf))), (iy, .inl (dy, 256, .inl (bF S))), (ig, .inl (dg, 43, .inl (bF Go))), (jd, .inr (2, [.long sd, .ref jh, .ref jh2, .ref jg, .ref jb, .ref jy, .long w])), (jh, .inr (1, [.ref jt, .ref jk, .ref jv, .ref jr, .int (nI n)])), (jk, .inl (ck, 43, .inl K)), (jv, .inl (cv, 43, .inl V)), (jr, .inl (cr, 43, .inl R)), (jo, .inl (co, 1, .inr (.inl (vp_updL O 0 ((ptI K V R w i (xs ((1 + 4 * j) + 2))).toInt64)))))] H := hP
    have hD : va_D (fun q : Nat => s.heap.size ≤ q) [(jt, .inr (0, [.long x])), (jh2, .inr (1, [.ref jt2, .ref jk2, .ref jv2, .ref jr2, .int (nI n2)])), (jt2, .inr (0, [.long x2])), (jk2, .inl (ck2, 43, .inl K2)), (jv2, .inl (cv2, 43, .inl V2)), (jr2, .inl (cr2, 43, .inl R2)), (jg, .inl (cg, 43, .inr (.inl G))), (jb, .inl (cb, 8, .inr (.inl B))), (jy, .inl (cy, 256, .inl (bF S))), (jm, .inr (3, [.int th, .long sd, .long tp, .int (nI n), .ref ik, .ref iv, .ref ir, .ref il, .ref iy, .ref ig])), (ik, .inl (dk, 86, .inl K1)), (iv, .inl (dv, 86, .inl V1)), (ir, .inl (dr, 86, .inl R1)), (il, .inl (dl, 43, .inl (bF Lf))), (iy, .inl (dy, 256, .inl (bF S))), (ig, .inl (dg, 43, .inl (bF Go))), (jd, .inr (2, [.long sd, .ref jh, .ref jh2, .ref jg, .ref jb, .ref jy, .long w])), (jh, .inr (1, [.ref jt, .ref jk, .ref jv, .ref jr, .int (nI n)])), (jk, .inl (ck, 43, .inl K)), (jv, .inl (cv, 43, .inl V)), (jr, .inl (cr, 43, .inl R)), (jo, .inl (co, 1, .inr (.inl (vp_updL O 0 ((ptI K V R w i (xs ((1 + 4 * j) + 2))).toInt64)))))] := hD
    have hw := hw.symm
    subst hw
    refine lv_istore (lv' := [(5, .int (nI 0)), (0, .ref b), (1, .ref jd), (2, .ref jm), (3, .ref jo), (4, .int (nI (1 + 4 * j)))]) hx hb d_L_law_181 hl (by decide) rfl (fun ls hl => ?_)
    refine lv_aload_n hx hb d_L_law_183 rfl (lv_at hl 3 rfl) ?_
    refine lv_aload_n hx hb d_L_law_184 rfl (lv_at hl 1 rfl) ?_
    refine lv_iload hx hb d_L_law_185 (lv_at hl 5 rfl) ?_
    refine lv_iconst (v := nI 1) hx hb d_L_law_187 (by decide +kernel) ?_
    refine lv_iadd hx hb d_L_law_188 ?_
    refine lv_topi (fun w_7 ew_7 => ?_)
    have ew_7 : (nI ((1 + 4 * j) + 1)) = w_7 := (ew_7.trans (nI_add _ _)).symm
    subst ew_7
    refine va_sld hx hb hX hbl hbA hS (vp_in_nI (by omega) (by omega)) d_L_law_189 ?_
    refine lv_topi (fun w_8 ew_8 => ?_)
    rw [nI_clamp (by omega)] at ew_8
    have ew_8 := ew_8.symm
    subst ew_8
    refine lv_topi (fun w_9 ew_9 => ?_)
    have ew_9 : (nI i) = w_9 := (ew_9.trans (ez)).symm
    subst ew_9
    refine lv_aload_n hx hb d_L_law_190 rfl (lv_at hl 1 rfl) ?_
    refine lv_iload hx hb d_L_law_191 (lv_at hl 5 rfl) ?_
    refine lv_iconst (v := nI 2) hx hb d_L_law_193 (by decide +kernel) ?_
    refine lv_iadd hx hb d_L_law_194 ?_
    refine lv_topi (fun w_10 ew_10 => ?_)
    have ew_10 : (nI ((1 + 4 * j) + 2)) = w_10 := (ew_10.trans (nI_add _ _)).symm
    subst ew_10
    refine va_sld hx hb hX hbl hbA hS (vp_in_nI (by omega) (by omega)) d_L_law_195 ?_
    refine lv_topi (fun w_11 ew_11 => ?_)
    rw [nI_clamp (by omega)] at ew_11
    have ew_11 := ew_11.symm
    subst ew_11
    have hPc := hP.sub (ws' := [(jm, .inr (3, [.int th, .long sd, .long tp, .int (nI n), .ref ik, .ref iv, .ref ir, .ref il, .ref iy, .ref ig])), (ik, .inl (dk, 86, .inl K1)), (iv, .inl (dv, 86, .inl V1)), (ir, .inl (dr, 86, .inl R1)), (il, .inl (dl, 43, .inl (bF Lf)))]) [9, 10, 11, 12, 13] rfl
    have hKc := hK.sub (tys' := [(dk, .int), (dv, .int), (dr, .int), (dl, .boolean)]) [9, 10, 11, 12] rfl
    have hDc := hD.sub (ws' := [(jm, .inr (3, [.int th, .long sd, .long tp, .int (nI n), .ref ik, .ref iv, .ref ir, .ref il, .ref iy, .ref ig])), (ik, .inl (dk, 86, .inl K1)), (iv, .inl (dv, 86, .inl V1)), (ir, .inl (dr, 86, .inl R1)), (il, .inl (dl, 43, .inl (bF Lf)))]) [9, 10, 11, 12, 13] (by decide) rfl
    have hFc := va_free (wc := [(jm, .inr (3, [.int th, .long sd, .long tp, .int (nI n), .ref ik, .ref iv, .ref ir, .ref il, .ref iy, .ref ig])), (ik, .inl (dk, 86, .inl K1)), (iv, .inl (dv, 86, .inl V1)), (ir, .inl (dr, 86, .inl R1)), (il, .inl (dl, 43, .inl (bF Lf)))]) hD hS hA [9, 10, 11, 12, 13] rfl
    refine va_calli (va_runV (As := [.int (nI i), .int (xs ((1 + 4 * j) + 2))]) (rest := []) ⟨hx, hb, hml, hown, hts⟩ (c_M_part l dC dI jm ik iv ir il iy ig n th sd tp dk dv dr dl K1 V1 R1 Lf i (xs ((1 + 4 * j) + 2)) hn hi hs9.2 _) (cwV 2 hts (g_V big_w m_471 m_472 m_473 m_4 m_474) rfl rfl rfl (by decide +kernel) ⟨Nat.le_of_ble_eq_true rfl, Nat.le_of_ble_eq_true rfl⟩) (wr_V hPc hKc hDc hN (va_recv hKc hPc (ci := 3) (q0 := 0) rfl rfl)) rfl rfl hl.1 rfl (lv_room (Nat.le_of_ble_eq_true rfl)) d_L_law_196 ⟨by show 22 + j + 0 ≤ 1052; omega, by show 1195 + 6 * j + 0 ≤ 9423; omega⟩) hS (fun q _ h => hFc q h) hFc (fun r_12 u t H1 locs ht hvm hw hB hz1 hk1 hS => ?_)
    obtain ⟨hP1, hK1, hD1⟩ := hB
    rw [ht] at hP1
    obtain ⟨hP, hD⟩ := va_join (wr := [(jt, .inr (0, [.long x])), (jh2, .inr (1, [.ref jt2, .ref jk2, .ref jv2, .ref jr2, .int (nI n2)])), (jt2, .inr (0, [.long x2])), (jk2, .inl (ck2, 43, .inl K2)), (jv2, .inl (cv2, 43, .inl V2)), (jr2, .inl (cr2, 43, .inl R2)), (jg, .inl (cg, 43, .inr (.inl G))), (jb, .inl (cb, 8, .inr (.inl B))), (jy, .inl (cy, 256, .inl (bF S))), (iy, .inl (dy, 256, .inl (bF S))), (ig, .inl (dg, 43, .inl (bF Go))), (jd, .inr (2, [.long sd, .ref jh, .ref jh2, .ref jg, .ref jb, .ref jy, .long w])), (jh, .inr (1, [.ref jt, .ref jk, .ref jv, .ref jr, .int (nI n)])), (jk, .inl (ck, 43, .inl K)), (jv, .inl (cv, 43, .inl V)), (jr, .inl (cr, 43, .inl R)), (jo, .inl (co, 1, .inr (.inl (vp_updL O 0 ((ptI K V R w i (xs ((1 + 4 * j) + 2))).toInt64)))))]) (w1 := [(jm, .inr (3, [.int (nI 0), .long sd, .long tp, .int (nI n), .ref ik, .ref iv, .ref ir, .ref il, .ref iy, .ref ig])), (ik, .inl (dk, 86, .inl K1)), (iv, .inl (dv, 86, .inl V1)), (ir, .inl (dr, 86, .inl R1)), (il, .inl (dl, 43, .inl (bF Lf)))]) hP hD [9, 10, 11, 12, 13] [0, 1, 2, 3, 4, 5, 6, 7, 8, 14, 15, 16, 17, 18, 19, 20, 21] rfl rfl (by decide) (by decide) hk1 hFc hP1 hD1
    generalize H1 = H at hP hS ⊢
    have hP : va_P (dC, dI) classes [(jt, .inr (0, [.long x])), (jh2, .inr (1, [.ref jt2, .ref jk2, .ref jv2, .ref jr2, .int (nI n2)])), (jt2, .inr (0, [.long x2])), (jk2, .inl (ck2, 43, .inl K2)), (jv2, .inl (cv2, 43, .inl V2)), (jr2, .inl (cr2, 43, .inl R2)), (jg, .inl (cg, 43, .inr (.inl G))), (jb, .inl (cb, 8, .inr (.inl B))), (jy, .inl (cy, 256, .inl (bF S))), (iy, .inl (dy, 256, .inl (bF S))), (ig, .inl (dg, 43, .inl (bF Go))), (jd, .inr (2, [.long sd, .ref jh, .ref jh2, .ref jg, .ref jb, .ref jy, .long w])), (jh, .inr (1, [.ref jt, .ref jk, .ref jv, .ref jr, .int (nI n)])), (jk, .inl (ck, 43, .inl K)), (jv, .inl (cv, 43, .inl V)), (jr, .inl (cr, 43, .inl R)), (jo, .inl (co, 1, .inr (.inl (vp_updL O 0 ((ptI K V R w i (xs ((1 + 4 * j) + 2))).toInt64))))), (jm, .inr (3, [.int (nI 0), .long sd, .long tp, .int (nI n), .ref ik, .ref iv, .ref ir, .ref il, .ref iy, .ref ig])), (ik, .inl (dk, 86, .inl K1)), (iv, .inl (dv, 86, .inl V1)), (ir, .inl (dr, 86, .inl R1)), (il, .inl (dl, 43, .inl (bF Lf)))] H := hP
    have hD : va_D (fun q : Nat => s.heap.size ≤ q) [(jt, .inr (0, [.long x])), (jh2, .inr (1, [.ref jt2, .ref jk2, .ref jv2, .ref jr2, .int (nI n2)])), (jt2, .inr (0, [.long x2])), (jk2, .inl (ck2, 43, .inl K2)), (jv2, .inl (cv2, 43, .inl V2)), (jr2, .inl (cr2, 43, .inl R2)), (jg, .inl (cg, 43, .inr (.inl G))), (jb, .inl (cb, 8, .inr (.inl B))), (jy, .inl (cy, 256, .inl (bF S))), (iy, .inl (dy, 256, .inl (bF S))), (ig, .inl (dg, 43, .inl (bF Go))), (jd, .inr (2, [.long sd, .ref jh, .ref jh2, .ref jg, .ref jb, .ref jy, .long w])), (jh, .inr (1, [.ref jt, .ref jk, .ref jv, .ref jr, .int (nI n)])), (jk, .inl (ck, 43, .inl K)), (jv, .inl (cv, 43, .inl V)), (jr, .inl (cr, 43, .inl R)), (jo, .inl (co, 1, .inr (.inl (vp_updL O 0 ((ptI K V R w i (xs ((1 + 4 * j) + 2))).toInt64))))), (jm, .inr (3, [.int (nI 0), .long sd, .long tp, .int (nI n), .ref ik, .ref iv, .ref ir, .ref il, .ref iy, .ref ig])), (ik, .inl (dk, 86, .inl K1)), (iv, .inl (dv, 86, .inl V1)), (ir, .inl (dr, 86, .inl R1)), (il, .inl (dl, 43, .inl (bF Lf)))] := hD
    have hw := hw.symm
    subst hw
    refine lv_istore (lv' := [(6, .int (pmI K1 V1 R1 Lf i (xs ((1 + 4 * j) + 2)))), (5, .int (nI 0)), (0, .ref b), (1, .ref jd), (2, .ref jm), (3, .ref jo), (4, .int (nI (1 + 4 * j)))]) hx hb d_L_law_199 hl (by decide) rfl (fun ls hl => ?_)
    refine lv_aload_n hx hb d_L_law_201 rfl (lv_at hl 4 rfl) ?_
    have hPc := hP.sub (ws' := [(jm, .inr (3, [.int (nI 0), .long sd, .long tp, .int (nI n), .ref ik, .ref iv, .ref ir, .ref il, .ref iy, .ref ig]))]) [17] rfl
    have hKc := hK.sub (tys' := []) [] rfl
    refine vp_callSi (W.runV (As := []) (rest := []) ⟨hx, hb, hml, hown, hts⟩ (c_M_thrown l dC dI jm ik iv ir il iy ig n (nI 0) sd tp) (cwV 0 hts (g_V big_w m_367 m_368 m_369 m_4 m_370) rfl rfl rfl (by decide +kernel) ⟨Nat.le_of_ble_eq_true rfl, Nat.le_of_ble_eq_true rfl⟩) (ro_V hPc hKc hN (va_recv hKc hPc (ci := 3) (q0 := 0) rfl rfl)) rfl rfl hl.1 rfl (lv_room (Nat.le_of_ble_eq_true rfl)) d_L_law_202 ⟨by show 22 + j + 0 ≤ 1052; omega, by show 1195 + 6 * j + 0 ≤ 9423; omega⟩) (fun r_13 er_13 => ?_)
    have er_13 := er_13.symm
    subst er_13
    refine lv_iload hx hb d_L_law_205 (lv_at hl 1 rfl) ?_
    refine lv_icmp_eq (tgt := 212) hx hb d_L_law_207 (by decide) (fun c_207 => ?_) (fun c_207 => ?_)
    · skip
      have c_207 := (nI_eq (by omega) (by omega)).mp c_207
      refine lv_iload hx hb d_L_law_212 (lv_at hl 1 rfl) ?_
      refine lv_if_ne (tgt := 229) hx hb d_L_law_214 (by decide) (fun c_214 => ?_) (fun c_214 => ?_)
      · skip
        have c_214 := (not_congr (nI_z (by omega))).mp c_214
        exact absurd rfl c_214
      · skip
        have c_214 := (nI_z (by omega)).mp c_214
        refine lv_aload_n hx hb d_L_law_217 rfl (lv_at hl 5 rfl) ?_
        refine lv_iconst (v := nI 0) hx hb d_L_law_218 (by decide +kernel) ?_
        refine va_lald hx hb hK hP 16 15 rfl rfl (vp_in_nI (by omega) (by omega)) d_L_law_219 ?_
        refine lv_topl (fun w_14 ew_14 => ?_)
        rw [nI_clamp (by omega)] at ew_14
        have ew_14 := ew_14.symm
        subst ew_14
        refine lv_iload hx hb d_L_law_220 (lv_at hl 0 rfl) ?_
        refine lv_i2l hx hb d_L_law_222 rfl ?_
        refine W.lcmp hx hb d_L_law_223 ?_
        refine lv_if_eq (tgt := 229) hx hb d_L_law_224 (by decide) (fun c_224 => ?_) (fun c_224 => ?_)
        · skip
          have c_224 := lc_eq.mp c_224
          refine lv_goto (tgt := 600) hx hb d_L_law_229 (by decide) ?_
          refine lv_iinc (v := nI (1 + 4 * (j + 1))) (lv' := [(4, .int (nI (1 + 4 * (j + 1)))), (6, .int (pmI K1 V1 R1 Lf i (xs ((1 + 4 * j) + 2)))), (5, .int (nI 0)), (0, .ref b), (1, .ref jd), (2, .ref jm), (3, .ref jo)]) hx hb d_L_law_600 hl (k := 6) rfl (lw_inc j) (by decide) rfl (fun ls hl => ?_)
          refine lv_goto (tgt := 35) hx hb d_L_law_603 (by decide) ?_
          refine W.widen (k := 22 + (j + 1)) (n := 1195 + 6 * (j + 1)) (by omega) (by omega) ?_
          exact ih n x w K V R G B S n2 x2 K2 V2 R2 (nI 0) tp K1 V1 R1 Lf Go (vp_updL O 0 ((ptI K V R w i (xs ((1 + 4 * j) + 2))).toInt64)) hI hn2 _ _ (hP.sub (ws' := [(jd, .inr (2, [.long sd, .ref jh, .ref jh2, .ref jg, .ref jb, .ref jy, .long w])), (jh, .inr (1, [.ref jt, .ref jk, .ref jv, .ref jr, .int (nI n)])), (jt, .inr (0, [.long x])), (jk, .inl (ck, 43, .inl K)), (jv, .inl (cv, 43, .inl V)), (jr, .inl (cr, 43, .inl R)), (jh2, .inr (1, [.ref jt2, .ref jk2, .ref jv2, .ref jr2, .int (nI n2)])), (jt2, .inr (0, [.long x2])), (jk2, .inl (ck2, 43, .inl K2)), (jv2, .inl (cv2, 43, .inl V2)), (jr2, .inl (cr2, 43, .inl R2)), (jg, .inl (cg, 43, .inr (.inl G))), (jb, .inl (cb, 8, .inr (.inl B))), (jy, .inl (cy, 256, .inl (bF S))), (jm, .inr (3, [.int (nI 0), .long sd, .long tp, .int (nI n), .ref ik, .ref iv, .ref ir, .ref il, .ref iy, .ref ig])), (ik, .inl (dk, 86, .inl K1)), (iv, .inl (dv, 86, .inl V1)), (ir, .inl (dr, 86, .inl R1)), (il, .inl (dl, 43, .inl (bF Lf))), (iy, .inl (dy, 256, .inl (bF S))), (ig, .inl (dg, 43, .inl (bF Go))), (jo, .inl (co, 1, .inr (.inl (vp_updL O 0 ((ptI K V R w i (xs ((1 + 4 * j) + 2))).toInt64)))))]) [11, 12, 0, 13, 14, 15, 1, 2, 3, 4, 5, 6, 7, 8, 17, 18, 19, 20, 21, 9, 10, 16] rfl) (hD.sub (ws' := [(jd, .inr (2, [.long sd, .ref jh, .ref jh2, .ref jg, .ref jb, .ref jy, .long w])), (jh, .inr (1, [.ref jt, .ref jk, .ref jv, .ref jr, .int (nI n)])), (jt, .inr (0, [.long x])), (jk, .inl (ck, 43, .inl K)), (jv, .inl (cv, 43, .inl V)), (jr, .inl (cr, 43, .inl R)), (jh2, .inr (1, [.ref jt2, .ref jk2, .ref jv2, .ref jr2, .int (nI n2)])), (jt2, .inr (0, [.long x2])), (jk2, .inl (ck2, 43, .inl K2)), (jv2, .inl (cv2, 43, .inl V2)), (jr2, .inl (cr2, 43, .inl R2)), (jg, .inl (cg, 43, .inr (.inl G))), (jb, .inl (cb, 8, .inr (.inl B))), (jy, .inl (cy, 256, .inl (bF S))), (jm, .inr (3, [.int (nI 0), .long sd, .long tp, .int (nI n), .ref ik, .ref iv, .ref ir, .ref il, .ref iy, .ref ig])), (ik, .inl (dk, 86, .inl K1)), (iv, .inl (dv, 86, .inl V1)), (ir, .inl (dr, 86, .inl R1)), (il, .inl (dl, 43, .inl (bF Lf))), (iy, .inl (dy, 256, .inl (bF S))), (ig, .inl (dg, 43, .inl (bF Go))), (jo, .inl (co, 1, .inr (.inl (vp_updL O 0 ((ptI K V R w i (xs ((1 + 4 * j) + 2))).toInt64)))))]) [11, 12, 0, 13, 14, 15, 1, 2, 3, 4, 5, 6, 7, 8, 17, 18, 19, 20, 21, 9, 10, 16] (by decide) rfl) hS ls (lv_sub (l' := [(0, .ref b), (1, .ref jd), (2, .ref jm), (3, .ref jo), (4, .int (nI (1 + 4 * (j + 1))))]) hl [3, 4, 5, 6, 0] rfl)
        · skip
          have c_224 := (not_congr lc_eq).mp c_224
          exact absurd (pk_uLs.trans (by rw [hI.pt hi])) c_224
    · skip
      have c_207 := (not_congr (nI_eq (by omega) (by omega))).mp c_207
      exact absurd rfl c_207
  · skip
    have hex := pt_ex hs9
    refine lv_aload_n hx hb d_L_law_164 rfl (lv_at hl 1 rfl) ?_
    refine lv_aload_n hx hb d_L_law_165 rfl (lv_at hl 0 rfl) ?_
    refine lv_iload hx hb d_L_law_166 (lv_at hl 4 rfl) ?_
    refine lv_iconst (v := nI 1) hx hb d_L_law_168 (by decide +kernel) ?_
    refine lv_iadd hx hb d_L_law_169 ?_
    refine lv_topi (fun w_15 ew_15 => ?_)
    have ew_15 : (nI ((1 + 4 * j) + 1)) = w_15 := (ew_15.trans (nI_add _ _)).symm
    subst ew_15
    refine va_sld hx hb hX hbl hbA hS (vp_in_nI (by omega) (by omega)) d_L_law_170 ?_
    refine lv_topi (fun w_16 ew_16 => ?_)
    rw [nI_clamp (by omega)] at ew_16
    have ew_16 := ew_16.symm
    subst ew_16
    refine lv_aload_n hx hb d_L_law_171 rfl (lv_at hl 0 rfl) ?_
    refine lv_iload hx hb d_L_law_172 (lv_at hl 4 rfl) ?_
    refine lv_iconst (v := nI 2) hx hb d_L_law_174 (by decide +kernel) ?_
    refine lv_iadd hx hb d_L_law_175 ?_
    refine lv_topi (fun w_17 ew_17 => ?_)
    have ew_17 : (nI ((1 + 4 * j) + 2)) = w_17 := (ew_17.trans (nI_add _ _)).symm
    subst ew_17
    refine va_sld hx hb hX hbl hbA hS (vp_in_nI (by omega) (by omega)) d_L_law_176 ?_
    refine lv_topi (fun w_18 ew_18 => ?_)
    rw [nI_clamp (by omega)] at ew_18
    have ew_18 := ew_18.symm
    subst ew_18
    refine lv_aload_n hx hb d_L_law_177 rfl (lv_at hl 3 rfl) ?_
    have hPc := hP.sub (ws' := [(jd, .inr (2, [.long sd, .ref jh, .ref jh2, .ref jg, .ref jb, .ref jy, .long w])), (jh, .inr (1, [.ref jt, .ref jk, .ref jv, .ref jr, .int (nI n)])), (jo, .inl (co, 1, .inr (.inl O)))]) [0, 1, 21] rfl
    have hKc := hK.sub (tys' := [(co, .long)]) [15] rfl
    have hDc := hD.sub (ws' := [(jd, .inr (2, [.long sd, .ref jh, .ref jh2, .ref jg, .ref jb, .ref jy, .long w])), (jh, .inr (1, [.ref jt, .ref jk, .ref jv, .ref jr, .int (nI n)])), (jo, .inl (co, 1, .inr (.inl O)))]) [0, 1, 21] (by decide) rfl
    have hFc := va_free (wc := [(jd, .inr (2, [.long sd, .ref jh, .ref jh2, .ref jg, .ref jb, .ref jy, .long w])), (jh, .inr (1, [.ref jt, .ref jk, .ref jv, .ref jr, .int (nI n)])), (jo, .inl (co, 1, .inr (.inl O)))]) hD hS hA [0, 1, 21] rfl
    refine va_calli (vx_runSW (As := [.ref jd, .int (xs ((1 + 4 * j) + 1)), .int (xs ((1 + 4 * j) + 2)), .ref jo]) (rest := []) ⟨hx, hb, hml, hown, hts⟩ (c_L_partx l hl9 dC dI jd jh jh2 jg jb jy sd w jt jk jv jr n (xs ((1 + 4 * j) + 1)) (xs ((1 + 4 * j) + 2)) jo co O hn hex sa _) (vx_cwSW 4 hts (g_SW big_w m_277 m_278 m_0 m_279) rfl rfl rfl (by decide +kernel) ⟨Nat.le_of_ble_eq_true rfl, Nat.le_of_ble_eq_true rfl⟩) (wx_S hPc hKc hDc hN hT hZ hS hFc) rfl rfl hl.1 rfl (lv_room (Nat.le_of_ble_eq_true rfl)) d_L_law_178 ⟨by show 22 + j + 1 ≤ 1052; omega, by show 1195 + 6 * j + 6 ≤ 9423; omega⟩) hS (fun q _ h => hFc q h) hFc (fun r_19 u t H1 locs ht hvm hw hB hz1 hk1 hS => ?_)
    obtain ⟨hP1, hK1, hD1⟩ := hB
    rw [ht] at hP1
    obtain ⟨hP, hD⟩ := va_join (wr := [(jt, .inr (0, [.long x])), (jk, .inl (ck, 43, .inl K)), (jv, .inl (cv, 43, .inl V)), (jr, .inl (cr, 43, .inl R)), (jh2, .inr (1, [.ref jt2, .ref jk2, .ref jv2, .ref jr2, .int (nI n2)])), (jt2, .inr (0, [.long x2])), (jk2, .inl (ck2, 43, .inl K2)), (jv2, .inl (cv2, 43, .inl V2)), (jr2, .inl (cr2, 43, .inl R2)), (jg, .inl (cg, 43, .inr (.inl G))), (jb, .inl (cb, 8, .inr (.inl B))), (jy, .inl (cy, 256, .inl (bF S))), (jm, .inr (3, [.int th, .long sd, .long tp, .int (nI n), .ref ik, .ref iv, .ref ir, .ref il, .ref iy, .ref ig])), (ik, .inl (dk, 86, .inl K1)), (iv, .inl (dv, 86, .inl V1)), (ir, .inl (dr, 86, .inl R1)), (il, .inl (dl, 43, .inl (bF Lf))), (iy, .inl (dy, 256, .inl (bF S))), (ig, .inl (dg, 43, .inl (bF Go)))]) (w1 := [(jd, .inr (2, [.long sd, .ref jh, .ref jh2, .ref jg, .ref jb, .ref jy, .long w])), (jh, .inr (1, [.ref jt, .ref jk, .ref jv, .ref jr, .int (nI n)])), (jo, .inl (co, 1, .inr (.inl O)))]) hP hD [0, 1, 21] [2, 3, 4, 5, 6, 7, 8, 9, 10, 11, 12, 13, 14, 15, 16, 17, 18, 19, 20] rfl rfl (by decide) (by decide) hk1 hFc hP1 hD1
    generalize H1 = H at hP hS ⊢
    have hP : va_P (dC, dI) classes [(jt, .inr (0, [.long x])), (jk, .inl (ck, 43, .inl K)), (jv, .inl (cv, 43, .inl V)), (jr, .inl (cr, 43, .inl R)), (jh2, .inr (1, [.ref jt2, .ref jk2, .ref jv2, .ref jr2, .int (nI n2)])), (jt2, .inr (0, [.long x2])), (jk2, .inl (ck2, 43, .inl K2)), (jv2, .inl (cv2, 43, .inl V2)), (jr2, .inl (cr2, 43, .inl R2)), (jg, .inl (cg, 43, .inr (.inl G))), (jb, .inl (cb, 8, .inr (.inl B))), (jy, .inl (cy, 256, .inl (bF S))), (jm, .inr (3, [.int th, .long sd, .long tp, .int (nI n), .ref ik, .ref iv, .ref ir, .ref il, .ref iy, .ref ig])), (ik, .inl (dk, 86, .inl K1)), (iv, .inl (dv, 86, .inl V1)), (ir, .inl (dr, 86, .inl R1)), (il, .inl (dl, 43, .inl (bF Lf))), (iy, .inl (dy, 256, .inl (bF S))), (ig, .inl (dg, 43, .inl (bF Go))), (jd, .inr (2, [.long sd, .ref jh, .ref jh2, .ref jg, .ref jb, .ref jy, .long w])), (jh, .inr (1, [.ref jt, .ref jk, .ref jv, .ref jr, .int (nI n)])), (jo, .inl (co, 1, .inr (.inl O)))] H := hP
    have hD : va_D (fun q : Nat => s.heap.size ≤ q) [(jt, .inr (0, [.long x])), (jk, .inl (ck, 43, .inl K)), (jv, .inl (cv, 43, .inl V)), (jr, .inl (cr, 43, .inl R)), (jh2, .inr (1, [.ref jt2, .ref jk2, .ref jv2, .ref jr2, .int (nI n2)])), (jt2, .inr (0, [.long x2])), (jk2, .inl (ck2, 43, .inl K2)), (jv2, .inl (cv2, 43, .inl V2)), (jr2, .inl (cr2, 43, .inl R2)), (jg, .inl (cg, 43, .inr (.inl G))), (jb, .inl (cb, 8, .inr (.inl B))), (jy, .inl (cy, 256, .inl (bF S))), (jm, .inr (3, [.int th, .long sd, .long tp, .int (nI n), .ref ik, .ref iv, .ref ir, .ref il, .ref iy, .ref ig])), (ik, .inl (dk, 86, .inl K1)), (iv, .inl (dv, 86, .inl V1)), (ir, .inl (dr, 86, .inl R1)), (il, .inl (dl, 43, .inl (bF Lf))), (iy, .inl (dy, 256, .inl (bF S))), (ig, .inl (dg, 43, .inl (bF Go))), (jd, .inr (2, [.long sd, .ref jh, .ref jh2, .ref jg, .ref jb, .ref jy, .long w])), (jh, .inr (1, [.ref jt, .ref jk, .ref jv, .ref jr, .int (nI n)])), (jo, .inl (co, 1, .inr (.inl O)))] := hD
    refine W.cs (cells' := (22 + j + 1)) (slots' := (1195 + 6 * j + 6)) rfl rfl ?_
    have hw := hw.symm
    subst hw
    refine lv_istore (lv' := [(5, .int (nI 1)), (0, .ref b), (1, .ref jd), (2, .ref jm), (3, .ref jo), (4, .int (nI (1 + 4 * j)))]) hx hb d_L_law_181 hl (by decide) rfl (fun ls hl => ?_)
    refine lv_aload_n hx hb d_L_law_183 rfl (lv_at hl 3 rfl) ?_
    refine lv_aload_n hx hb d_L_law_184 rfl (lv_at hl 1 rfl) ?_
    refine lv_iload hx hb d_L_law_185 (lv_at hl 5 rfl) ?_
    refine lv_iconst (v := nI 1) hx hb d_L_law_187 (by decide +kernel) ?_
    refine lv_iadd hx hb d_L_law_188 ?_
    refine lv_topi (fun w_20 ew_20 => ?_)
    have ew_20 : (nI ((1 + 4 * j) + 1)) = w_20 := (ew_20.trans (nI_add _ _)).symm
    subst ew_20
    refine va_sld hx hb hX hbl hbA hS (vp_in_nI (by omega) (by omega)) d_L_law_189 ?_
    refine lv_topi (fun w_21 ew_21 => ?_)
    rw [nI_clamp (by omega)] at ew_21
    have ew_21 := ew_21.symm
    subst ew_21
    refine lv_aload_n hx hb d_L_law_190 rfl (lv_at hl 1 rfl) ?_
    refine lv_iload hx hb d_L_law_191 (lv_at hl 5 rfl) ?_
    refine lv_iconst (v := nI 2) hx hb d_L_law_193 (by decide +kernel) ?_
    refine lv_iadd hx hb d_L_law_194 ?_
    refine lv_topi (fun w_22 ew_22 => ?_)
    have ew_22 : (nI ((1 + 4 * j) + 2)) = w_22 := (ew_22.trans (nI_add _ _)).symm
    subst ew_22
    refine va_sld hx hb hX hbl hbA hS (vp_in_nI (by omega) (by omega)) d_L_law_195 ?_
    refine lv_topi (fun w_23 ew_23 => ?_)
    rw [nI_clamp (by omega)] at ew_23
    have ew_23 := ew_23.symm
    subst ew_23
    have hPc := hP.sub (ws' := [(jm, .inr (3, [.int th, .long sd, .long tp, .int (nI n), .ref ik, .ref iv, .ref ir, .ref il, .ref iy, .ref ig]))]) [12] rfl
    have hKc := hK.sub (tys' := []) [] rfl
    have hDc := hD.sub (ws' := [(jm, .inr (3, [.int th, .long sd, .long tp, .int (nI n), .ref ik, .ref iv, .ref ir, .ref il, .ref iy, .ref ig]))]) [12] (by decide) rfl
    have hFc := va_free (wc := [(jm, .inr (3, [.int th, .long sd, .long tp, .int (nI n), .ref ik, .ref iv, .ref ir, .ref il, .ref iy, .ref ig]))]) hD hS hA [12] rfl
    refine va_calli (va_runV (As := [.int (xs ((1 + 4 * j) + 1)), .int (xs ((1 + 4 * j) + 2))]) (rest := []) ⟨hx, hb, hml, hown, hts⟩ (c_M_partx l dC dI jm ik iv ir il iy ig n th sd tp (xs ((1 + 4 * j) + 1)) (xs ((1 + 4 * j) + 2)) hn hex _) (cwV 2 hts (g_V big_w m_471 m_472 m_473 m_4 m_474) rfl rfl rfl (by decide +kernel) ⟨Nat.le_of_ble_eq_true rfl, Nat.le_of_ble_eq_true rfl⟩) (wr_V hPc hKc hDc hN (va_recv hKc hPc (ci := 3) (q0 := 0) rfl rfl)) rfl rfl hl.1 rfl (lv_room (Nat.le_of_ble_eq_true rfl)) d_L_law_196 ⟨by show 22 + j + 1 + 0 ≤ 1052; omega, by show 1195 + 6 * j + 6 + 0 ≤ 9423; omega⟩) hS (fun q _ h => hFc q h) hFc (fun r_24 u t H1 locs ht hvm hw hB hz1 hk1 hS => ?_)
    obtain ⟨hP1, hK1, hD1⟩ := hB
    rw [ht] at hP1
    obtain ⟨hP, hD⟩ := va_join (wr := [(jt, .inr (0, [.long x])), (jk, .inl (ck, 43, .inl K)), (jv, .inl (cv, 43, .inl V)), (jr, .inl (cr, 43, .inl R)), (jh2, .inr (1, [.ref jt2, .ref jk2, .ref jv2, .ref jr2, .int (nI n2)])), (jt2, .inr (0, [.long x2])), (jk2, .inl (ck2, 43, .inl K2)), (jv2, .inl (cv2, 43, .inl V2)), (jr2, .inl (cr2, 43, .inl R2)), (jg, .inl (cg, 43, .inr (.inl G))), (jb, .inl (cb, 8, .inr (.inl B))), (jy, .inl (cy, 256, .inl (bF S))), (ik, .inl (dk, 86, .inl K1)), (iv, .inl (dv, 86, .inl V1)), (ir, .inl (dr, 86, .inl R1)), (il, .inl (dl, 43, .inl (bF Lf))), (iy, .inl (dy, 256, .inl (bF S))), (ig, .inl (dg, 43, .inl (bF Go))), (jd, .inr (2, [.long sd, .ref jh, .ref jh2, .ref jg, .ref jb, .ref jy, .long w])), (jh, .inr (1, [.ref jt, .ref jk, .ref jv, .ref jr, .int (nI n)])), (jo, .inl (co, 1, .inr (.inl O)))]) (w1 := [(jm, .inr (3, [.int (nI 1), .long sd, .long tp, .int (nI n), .ref ik, .ref iv, .ref ir, .ref il, .ref iy, .ref ig]))]) hP hD [12] [0, 1, 2, 3, 4, 5, 6, 7, 8, 9, 10, 11, 13, 14, 15, 16, 17, 18, 19, 20, 21] rfl rfl (by decide) (by decide) hk1 hFc hP1 hD1
    generalize H1 = H at hP hS ⊢
    have hP : va_P (dC, dI) classes [(jt, .inr (0, [.long x])), (jk, .inl (ck, 43, .inl K)), (jv, .inl (cv, 43, .inl V)), (jr, .inl (cr, 43, .inl R)), (jh2, .inr (1, [.ref jt2, .ref jk2, .ref jv2, .ref jr2, .int (nI n2)])), (jt2, .inr (0, [.long x2])), (jk2, .inl (ck2, 43, .inl K2)), (jv2, .inl (cv2, 43, .inl V2)), (jr2, .inl (cr2, 43, .inl R2)), (jg, .inl (cg, 43, .inr (.inl G))), (jb, .inl (cb, 8, .inr (.inl B))), (jy, .inl (cy, 256, .inl (bF S))), (ik, .inl (dk, 86, .inl K1)), (iv, .inl (dv, 86, .inl V1)), (ir, .inl (dr, 86, .inl R1)), (il, .inl (dl, 43, .inl (bF Lf))), (iy, .inl (dy, 256, .inl (bF S))), (ig, .inl (dg, 43, .inl (bF Go))), (jd, .inr (2, [.long sd, .ref jh, .ref jh2, .ref jg, .ref jb, .ref jy, .long w])), (jh, .inr (1, [.ref jt, .ref jk, .ref jv, .ref jr, .int (nI n)])), (jo, .inl (co, 1, .inr (.inl O))), (jm, .inr (3, [.int (nI 1), .long sd, .long tp, .int (nI n), .ref ik, .ref iv, .ref ir, .ref il, .ref iy, .ref ig]))] H := hP
    have hD : va_D (fun q : Nat => s.heap.size ≤ q) [(jt, .inr (0, [.long x])), (jk, .inl (ck, 43, .inl K)), (jv, .inl (cv, 43, .inl V)), (jr, .inl (cr, 43, .inl R)), (jh2, .inr (1, [.ref jt2, .ref jk2, .ref jv2, .ref jr2, .int (nI n2)])), (jt2, .inr (0, [.long x2])), (jk2, .inl (ck2, 43, .inl K2)), (jv2, .inl (cv2, 43, .inl V2)), (jr2, .inl (cr2, 43, .inl R2)), (jg, .inl (cg, 43, .inr (.inl G))), (jb, .inl (cb, 8, .inr (.inl B))), (jy, .inl (cy, 256, .inl (bF S))), (ik, .inl (dk, 86, .inl K1)), (iv, .inl (dv, 86, .inl V1)), (ir, .inl (dr, 86, .inl R1)), (il, .inl (dl, 43, .inl (bF Lf))), (iy, .inl (dy, 256, .inl (bF S))), (ig, .inl (dg, 43, .inl (bF Go))), (jd, .inr (2, [.long sd, .ref jh, .ref jh2, .ref jg, .ref jb, .ref jy, .long w])), (jh, .inr (1, [.ref jt, .ref jk, .ref jv, .ref jr, .int (nI n)])), (jo, .inl (co, 1, .inr (.inl O))), (jm, .inr (3, [.int (nI 1), .long sd, .long tp, .int (nI n), .ref ik, .ref iv, .ref ir, .ref il, .ref iy, .ref ig]))] := hD
    have hw := hw.symm
    subst hw
    refine lv_istore (lv' := [(6, .int (nI 0)), (5, .int (nI 1)), (0, .ref b), (1, .ref jd), (2, .ref jm), (3, .ref jo), (4, .int (nI (1 + 4 * j)))]) hx hb d_L_law_199 hl (by decide) rfl (fun ls hl => ?_)
    refine lv_aload_n hx hb d_L_law_201 rfl (lv_at hl 4 rfl) ?_
    have hPc := hP.sub (ws' := [(jm, .inr (3, [.int (nI 1), .long sd, .long tp, .int (nI n), .ref ik, .ref iv, .ref ir, .ref il, .ref iy, .ref ig]))]) [21] rfl
    have hKc := hK.sub (tys' := []) [] rfl
    refine vp_callSi (W.runV (As := []) (rest := []) ⟨hx, hb, hml, hown, hts⟩ (c_M_thrown l dC dI jm ik iv ir il iy ig n (nI 1) sd tp) (cwV 0 hts (g_V big_w m_367 m_368 m_369 m_4 m_370) rfl rfl rfl (by decide +kernel) ⟨Nat.le_of_ble_eq_true rfl, Nat.le_of_ble_eq_true rfl⟩) (ro_V hPc hKc hN (va_recv hKc hPc (ci := 3) (q0 := 0) rfl rfl)) rfl rfl hl.1 rfl (lv_room (Nat.le_of_ble_eq_true rfl)) d_L_law_202 ⟨by show 22 + j + 1 + 0 ≤ 1052; omega, by show 1195 + 6 * j + 6 + 0 ≤ 9423; omega⟩) (fun r_25 er_25 => ?_)
    have er_25 := er_25.symm
    subst er_25
    refine lv_iload hx hb d_L_law_205 (lv_at hl 1 rfl) ?_
    refine lv_icmp_eq (tgt := 212) hx hb d_L_law_207 (by decide) (fun c_207 => ?_) (fun c_207 => ?_)
    · skip
      have c_207 := (nI_eq (by omega) (by omega)).mp c_207
      refine lv_iload hx hb d_L_law_212 (lv_at hl 1 rfl) ?_
      refine lv_if_ne (tgt := 229) hx hb d_L_law_214 (by decide) (fun c_214 => ?_) (fun c_214 => ?_)
      · skip
        have c_214 := (not_congr (nI_z (by omega))).mp c_214
        refine lv_goto (tgt := 600) hx hb d_L_law_229 (by decide) ?_
        refine lv_iinc (v := nI (1 + 4 * (j + 1))) (lv' := [(4, .int (nI (1 + 4 * (j + 1)))), (6, .int (nI 0)), (5, .int (nI 1)), (0, .ref b), (1, .ref jd), (2, .ref jm), (3, .ref jo)]) hx hb d_L_law_600 hl (k := 6) rfl (lw_inc j) (by decide) rfl (fun ls hl => ?_)
        refine lv_goto (tgt := 35) hx hb d_L_law_603 (by decide) ?_
        refine W.widen (k := 22 + (j + 1)) (n := 1195 + 6 * (j + 1)) (by omega) (by omega) ?_
        exact ih n x w K V R G B S n2 x2 K2 V2 R2 (nI 1) tp K1 V1 R1 Lf Go O hI hn2 _ _ (hP.sub (ws' := [(jd, .inr (2, [.long sd, .ref jh, .ref jh2, .ref jg, .ref jb, .ref jy, .long w])), (jh, .inr (1, [.ref jt, .ref jk, .ref jv, .ref jr, .int (nI n)])), (jt, .inr (0, [.long x])), (jk, .inl (ck, 43, .inl K)), (jv, .inl (cv, 43, .inl V)), (jr, .inl (cr, 43, .inl R)), (jh2, .inr (1, [.ref jt2, .ref jk2, .ref jv2, .ref jr2, .int (nI n2)])), (jt2, .inr (0, [.long x2])), (jk2, .inl (ck2, 43, .inl K2)), (jv2, .inl (cv2, 43, .inl V2)), (jr2, .inl (cr2, 43, .inl R2)), (jg, .inl (cg, 43, .inr (.inl G))), (jb, .inl (cb, 8, .inr (.inl B))), (jy, .inl (cy, 256, .inl (bF S))), (jm, .inr (3, [.int (nI 1), .long sd, .long tp, .int (nI n), .ref ik, .ref iv, .ref ir, .ref il, .ref iy, .ref ig])), (ik, .inl (dk, 86, .inl K1)), (iv, .inl (dv, 86, .inl V1)), (ir, .inl (dr, 86, .inl R1)), (il, .inl (dl, 43, .inl (bF Lf))), (iy, .inl (dy, 256, .inl (bF S))), (ig, .inl (dg, 43, .inl (bF Go))), (jo, .inl (co, 1, .inr (.inl O)))]) [18, 19, 0, 1, 2, 3, 4, 5, 6, 7, 8, 9, 10, 11, 21, 12, 13, 14, 15, 16, 17, 20] rfl) (hD.sub (ws' := [(jd, .inr (2, [.long sd, .ref jh, .ref jh2, .ref jg, .ref jb, .ref jy, .long w])), (jh, .inr (1, [.ref jt, .ref jk, .ref jv, .ref jr, .int (nI n)])), (jt, .inr (0, [.long x])), (jk, .inl (ck, 43, .inl K)), (jv, .inl (cv, 43, .inl V)), (jr, .inl (cr, 43, .inl R)), (jh2, .inr (1, [.ref jt2, .ref jk2, .ref jv2, .ref jr2, .int (nI n2)])), (jt2, .inr (0, [.long x2])), (jk2, .inl (ck2, 43, .inl K2)), (jv2, .inl (cv2, 43, .inl V2)), (jr2, .inl (cr2, 43, .inl R2)), (jg, .inl (cg, 43, .inr (.inl G))), (jb, .inl (cb, 8, .inr (.inl B))), (jy, .inl (cy, 256, .inl (bF S))), (jm, .inr (3, [.int (nI 1), .long sd, .long tp, .int (nI n), .ref ik, .ref iv, .ref ir, .ref il, .ref iy, .ref ig])), (ik, .inl (dk, 86, .inl K1)), (iv, .inl (dv, 86, .inl V1)), (ir, .inl (dr, 86, .inl R1)), (il, .inl (dl, 43, .inl (bF Lf))), (iy, .inl (dy, 256, .inl (bF S))), (ig, .inl (dg, 43, .inl (bF Go))), (jo, .inl (co, 1, .inr (.inl O)))]) [18, 19, 0, 1, 2, 3, 4, 5, 6, 7, 8, 9, 10, 11, 21, 12, 13, 14, 15, 16, 17, 20] (by decide) rfl) hS ls (lv_sub (l' := [(0, .ref b), (1, .ref jd), (2, .ref jm), (3, .ref jo), (4, .int (nI (1 + 4 * (j + 1))))]) hl [3, 4, 5, 6, 0] rfl)
      · skip
        have c_214 := (nI_z (by omega)).mp c_214
        exact absurd c_214 (by decide)
    · skip
      have c_207 := (not_congr (nI_eq (by omega) (by omega))).mp c_207
      exact absurd rfl c_207
