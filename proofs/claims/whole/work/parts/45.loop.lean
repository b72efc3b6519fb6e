set_option maxHeartbeats 8000000 in
set_option maxRecDepth 100000 in
/-- THE LAW'S LOOP -/
theorem law_loop {p : Program} {l : Launch} {e : Env} {s : State} {m : MethodId} {below : List Frame} {meth : Method} {c : Code} {dC : Nat → ClassId} {dI : Nat → Nat → Nat} {b Ln : Nat} {xs : Nat → Int32} {sa : Nat → Nat} {jd jh jt jk jv jr jh2 jt2 jk2 jv2 jr2 jg jb jy jm ik iv ir il iy ig jo : Nat} {ck cv cr ck2 cv2 cr2 cg cb cy dk dv dr dl dy dg co : ClassId} {sd : Int64} (hl9 : l.stackTraces = false) (hL : Ln ≤ 2049) (hx : p.tables.exec = Jvm.exec) (hb : c.code = code) (hr : meth.sig.returnType = ret) (hml : c.maxLocals = 7) (hown : s.vm.findClass R_L = some m.cls) (hts : ∀ w ∈ (Jvm.Cond.initialized "PortDrawerLaw" :: tblG), w.before #[Value.ref b] s = true) (hX : va_X b Ln xs s s.heap) (hbl : b < s.heap.size) (hlocks : meth.locks = false) (hN : NW s) (hT : TX sa s) (hZ : zqU (fun q : Nat => s.heap.size ≤ q) s s.heap) (hK : va_K (dC, dI) classes [(ck, .int), (cv, .int), (cr, .int), (ck2, .int), (cv2, .int), (cr2, .int), (cg, .long), (cb, .long), (cy, .boolean), (dk, .int), (dv, .int), (dr, .int), (dl, .boolean), (dy, .boolean), (dg, .boolean), (co, .long)] s)  : ∀ (k j : Nat), Ln - 4 * j < k → 4 * j ≤ Ln → ∀ (n : Nat) (x w : Int64) (K V R : Nat → Int32) (G B : Nat → Int64) (S : Nat → Bool) (n2 : Nat) (x2 : Int64) (K2 V2 R2 : Nat → Int32) (th : Int32) (tp : Int64) (K1 V1 R1 : Nat → Int32) (Lf Go : Nat → Bool) (O : Nat → Int64), INV n K V R G B w K1 V1 R1 Lf → n2 ≤ 43 → ∀ (H : Heap) (locs : List Loc), va_P (dC, dI) classes [(jd, .inr (2, [.long sd, .ref jh, .ref jh2, .ref jg, .ref jb, .ref jy, .long w])), (jh, .inr (1, [.ref jt, .ref jk, .ref jv, .ref jr, .int (nI n)])), (jt, .inr (0, [.long x])), (jk, .inl (ck, 43, .inl K)), (jv, .inl (cv, 43, .inl V)), (jr, .inl (cr, 43, .inl R)), (jh2, .inr (1, [.ref jt2, .ref jk2, .ref jv2, .ref jr2, .int (nI n2)])), (jt2, .inr (0, [.long x2])), (jk2, .inl (ck2, 43, .inl K2)), (jv2, .inl (cv2, 43, .inl V2)), (jr2, .inl (cr2, 43, .inl R2)), (jg, .inl (cg, 43, .inr (.inl G))), (jb, .inl (cb, 8, .inr (.inl B))), (jy, .inl (cy, 256, .inl (bF S))), (jm, .inr (3, [.int th, .long sd, .long tp, .int (nI n), .ref ik, .ref iv, .ref ir, .ref il, .ref iy, .ref ig])), (ik, .inl (dk, 86, .inl K1)), (iv, .inl (dv, 86, .inl V1)), (ir, .inl (dr, 86, .inl R1)), (il, .inl (dl, 43, .inl (bF Lf))), (iy, .inl (dy, 256, .inl (bF S))), (ig, .inl (dg, 43, .inl (bF Go))), (jo, .inl (co, 1, .inr (.inl O)))] H → va_D (fun q : Nat => s.heap.size ≤ q) [(jd, .inr (2, [.long sd, .ref jh, .ref jh2, .ref jg, .ref jb, .ref jy, .long w])), (jh, .inr (1, [.ref jt, .ref jk, .ref jv, .ref jr, .int (nI n)])), (jt, .inr (0, [.long x])), (jk, .inl (ck, 43, .inl K)), (jv, .inl (cv, 43, .inl V)), (jr, .inl (cr, 43, .inl R)), (jh2, .inr (1, [.ref jt2, .ref jk2, .ref jv2, .ref jr2, .int (nI n2)])), (jt2, .inr (0, [.long x2])), (jk2, .inl (ck2, 43, .inl K2)), (jv2, .inl (cv2, 43, .inl V2)), (jr2, .inl (cr2, 43, .inl R2)), (jg, .inl (cg, 43, .inr (.inl G))), (jb, .inl (cb, 8, .inr (.inl B))), (jy, .inl (cy, 256, .inl (bF S))), (jm, .inr (3, [.int th, .long sd, .long tp, .int (nI n), .ref ik, .ref iv, .ref ir, .ref il, .ref iy, .ref ig])), (ik, .inl (dk, 86, .inl K1)), (iv, .inl (dv, 86, .inl V1)), (ir, .inl (dr, 86, .inl R1)), (il, .inl (dl, 43, .inl (bF Lf))), (iy, .inl (dy, 256, .inl (bF S))), (ig, .inl (dg, 43, .inl (bF Go))), (jo, .inl (co, 1, .inr (.inl O)))] → va_S (fun q : Nat => s.heap.size ≤ q) s.heap H locs → ∀ (ls : Array Slot), lv_has ls 7 [(0, .ref b), (1, .ref jd), (2, .ref jm), (3, .ref jo), (4, .int (nI (1 + 4 * j)))] → W p l e room_1 s m #[Value.ref b] below meth c H locs (22 + j) (1195 + 6 * j) (lw_Z below #[Value.ref b] s) (F0 m 35 ls []) := by
  have hA : ∀ q : Nat, s.heap.size ≤ q → (fun q : Nat => s.heap.size ≤ q) q := fun _ h => h
  have hbA : ¬ (fun q : Nat => s.heap.size ≤ q) b := Nat.not_le.mpr hbl
  intro k
  induction k with
  | zero =>
    intro j h1
    exact absurd h1 (Nat.not_lt_zero _)
  | succ k ih =>
    intro j hk hj n x w K V R G B S n2 x2 K2 V2 R2 th tp K1 V1 R1 Lf Go O hI hn2 H locs hP hD hS ls hl
    refine lv_iload hx hb d_L_law_35 (lv_at hl 4 rfl) ?_
    refine lv_aload_n hx hb d_L_law_37 rfl (lv_at hl 0 rfl) ?_
    refine va_slen hx hb hX hbl hbA hS d_L_law_38 ?_
    refine lv_topi (fun w_1 ew_1 => ?_)
    have ew_1 : (nI Ln) = w_1 := (ew_1.trans (rfl)).symm
    subst ew_1
    refine lv_iconst (v := nI 4) hx hb d_L_law_39 (by decide +kernel) ?_
    refine lv_isub hx hb d_L_law_40 ?_
    refine lv_icmp_gt (tgt := 606) hx hb d_L_law_41 (by decide) (fun c_41 => ?_) (fun c_41 => ?_)
    · skip
      have c_41 := (lw_gt hL (by omega)).mp c_41
      refine lv_iconst (v := 1) hx hb d_L_law_606 (by decide +kernel) ?_
      refine va_forget (fun q hq => hS.2.2 q hq) ?_
      refine W.widen (k := 1052) (n := 9423) (by omega) (by omega) ?_
      exact lw_ret hx hb hr hlocks d_L_law_607
    · skip
      have c_41 := (not_congr (lw_gt hL (by omega))).mp c_41
      refine lv_aload_n hx hb d_L_law_44 rfl (lv_at hl 0 rfl) ?_
      refine lv_iload hx hb d_L_law_45 (lv_at hl 4 rfl) ?_
      refine va_sld hx hb hX hbl hbA hS (vp_in_nI (by omega) (by omega)) d_L_law_47 ?_
      refine lv_topi (fun w_2 ew_2 => ?_)
      rw [nI_clamp (by omega)] at ew_2
      have ew_2 := ew_2.symm
      subst ew_2
      refine lv_bipush (v := nI 15) hx hb d_L_law_48 (by decide +kernel) ?_
      refine lv_iand hx hb d_L_law_50 ?_
      by_cases o_51 : ((xs (1 + 4 * j)) &&& (nI 15)).toInt < 0 ∨ 10 < ((xs (1 + 4 * j)) &&& (nI 15)).toInt
      · skip
        refine lv_tableOut (tgt := 600) hx hb d_L_law_51 o_51 (by decide) ?_
        refine lv_iinc (v := nI (1 + 4 * (j + 1))) (lv' := [(4, .int (nI (1 + 4 * (j + 1)))), (0, .ref b), (1, .ref jd), (2, .ref jm), (3, .ref jo)]) hx hb d_L_law_600 hl (k := 4) rfl (lw_inc j) (by decide) rfl (fun ls hl => ?_)
        refine lv_goto (tgt := 35) hx hb d_L_law_603 (by decide) ?_
        refine W.widen (k := 22 + (j + 1)) (n := 1195 + 6 * (j + 1)) (by omega) (by omega) ?_
        exact ih (j + 1) (by omega) (by omega) n x w K V R G B S n2 x2 K2 V2 R2 th tp K1 V1 R1 Lf Go O hI hn2 H locs hP hD hS ls (lv_sub (l' := [(0, .ref b), (1, .ref jd), (2, .ref jm), (3, .ref jo), (4, .int (nI (1 + 4 * (j + 1))))]) hl [1, 2, 3, 4, 0] rfl)
      · skip
        have o1_51 : ¬ ((xs (1 + 4 * j)) &&& (nI 15)).toInt < 0 := fun h => o_51 (Or.inl h)
        have o2_51 : ¬ 10 < ((xs (1 + 4 * j)) &&& (nI 15)).toInt := fun h => o_51 (Or.inr h)
        by_cases o_51_0 : ((xs (1 + 4 * j)) &&& (nI 15)).toInt = 0
        · skip
          have o3 : ((xs (1 + 4 * j)) &&& (nI 15)) = nI 0 := sw_eq o_51_0 (by decide +kernel)
          refine lv_tableIn (tgt := 108) hx hb d_L_law_51 o1_51 o2_51 (by rw [o_51_0]; rfl) (by decide) ?_
          exact law_case_0 hl9 hL hx hb hr hml hown hts hX hbl hlocks hN hT hZ hK j hj (by omega) (ih (j + 1) (by omega) (by omega)) n x w K V R G B S n2 x2 K2 V2 R2 th tp K1 V1 R1 Lf Go O hI hn2 H locs hP hD hS ls (lv_sub (l' := [(0, .ref b), (1, .ref jd), (2, .ref jm), (3, .ref jo), (4, .int (nI (1 + 4 * j)))]) hl [0, 1, 2, 3, 4] rfl)
        · skip
          by_cases o_51_1 : ((xs (1 + 4 * j)) &&& (nI 15)).toInt = 1
          · skip
            have o3 : ((xs (1 + 4 * j)) &&& (nI 15)) = nI 1 := sw_eq o_51_1 (by decide +kernel)
            refine lv_tableIn (tgt := 164) hx hb d_L_law_51 o1_51 o2_51 (by rw [o_51_1]; rfl) (by decide) ?_
            exact law_case_1 hl9 hL hx hb hr hml hown hts hX hbl hlocks hN hT hZ hK j hj (by omega) (ih (j + 1) (by omega) (by omega)) n x w K V R G B S n2 x2 K2 V2 R2 th tp K1 V1 R1 Lf Go O hI hn2 H locs hP hD hS ls (lv_sub (l' := [(0, .ref b), (1, .ref jd), (2, .ref jm), (3, .ref jo), (4, .int (nI (1 + 4 * j)))]) hl [0, 1, 2, 3, 4] rfl)
          · skip
            by_cases o_51_2 : ((xs (1 + 4 * j)) &&& (nI 15)).toInt = 2
            · skip
              have o3 : ((xs (1 + 4 * j)) &&& (nI 15)) = nI 2 := sw_eq o_51_2 (by decide +kernel)
              refine lv_tableIn (tgt := 232) hx hb d_L_law_51 o1_51 o2_51 (by rw [o_51_2]; rfl) (by decide) ?_
              exact law_case_2 hl9 hL hx hb hr hml hown hts hX hbl hlocks hN hT hZ hK j hj (by omega) (ih (j + 1) (by omega) (by omega)) n x w K V R G B S n2 x2 K2 V2 R2 th tp K1 V1 R1 Lf Go O hI hn2 H locs hP hD hS ls (lv_sub (l' := [(0, .ref b), (1, .ref jd), (2, .ref jm), (3, .ref jo), (4, .int (nI (1 + 4 * j)))]) hl [0, 1, 2, 3, 4] rfl)
            · skip
              by_cases o_51_3 : ((xs (1 + 4 * j)) &&& (nI 15)).toInt = 3
              · skip
                have o3 : ((xs (1 + 4 * j)) &&& (nI 15)) = nI 3 := sw_eq o_51_3 (by decide +kernel)
                refine lv_tableIn (tgt := 295) hx hb d_L_law_51 o1_51 o2_51 (by rw [o_51_3]; rfl) (by decide) ?_
                exact law_case_3 hl9 hL hx hb hr hml hown hts hX hbl hlocks hN hT hZ hK j hj (by omega) (ih (j + 1) (by omega) (by omega)) n x w K V R G B S n2 x2 K2 V2 R2 th tp K1 V1 R1 Lf Go O hI hn2 H locs hP hD hS ls (lv_sub (l' := [(0, .ref b), (1, .ref jd), (2, .ref jm), (3, .ref jo), (4, .int (nI (1 + 4 * j)))]) hl [0, 1, 2, 3, 4] rfl)
              · skip
                by_cases o_51_4 : ((xs (1 + 4 * j)) &&& (nI 15)).toInt = 4
                · skip
                  have o3 : ((xs (1 + 4 * j)) &&& (nI 15)) = nI 4 := sw_eq o_51_4 (by decide +kernel)
                  refine lv_tableIn (tgt := 348) hx hb d_L_law_51 o1_51 o2_51 (by rw [o_51_4]; rfl) (by decide) ?_
                  exact law_case_4 hl9 hL hx hb hr hml hown hts hX hbl hlocks hN hT hZ hK j hj (by omega) (ih (j + 1) (by omega) (by omega)) n x w K V R G B S n2 x2 K2 V2 R2 th tp K1 V1 R1 Lf Go O hI hn2 H locs hP hD hS ls (lv_sub (l' := [(0, .ref b), (1, .ref jd), (2, .ref jm), (3, .ref jo), (4, .int (nI (1 + 4 * j)))]) hl [0, 1, 2, 3, 4] rfl)
                · skip
                  by_cases o_51_5 : ((xs (1 + 4 * j)) &&& (nI 15)).toInt = 5
                  · skip
                    have o3 : ((xs (1 + 4 * j)) &&& (nI 15)) = nI 5 := sw_eq o_51_5 (by decide +kernel)
                    refine lv_tableIn (tgt := 361) hx hb d_L_law_51 o1_51 o2_51 (by rw [o_51_5]; rfl) (by decide) ?_
                    exact law_case_5 hl9 hL hx hb hr hml hown hts hX hbl hlocks hN hT hZ hK j hj (by omega) (ih (j + 1) (by omega) (by omega)) n x w K V R G B S n2 x2 K2 V2 R2 th tp K1 V1 R1 Lf Go O hI hn2 H locs hP hD hS ls (lv_sub (l' := [(0, .ref b), (1, .ref jd), (2, .ref jm), (3, .ref jo), (4, .int (nI (1 + 4 * j)))]) hl [0, 1, 2, 3, 4] rfl)
                  · skip
                    by_cases o_51_6 : ((xs (1 + 4 * j)) &&& (nI 15)).toInt = 6
                    · skip
                      have o3 : ((xs (1 + 4 * j)) &&& (nI 15)) = nI 6 := sw_eq o_51_6 (by decide +kernel)
                      refine lv_tableIn (tgt := 374) hx hb d_L_law_51 o1_51 o2_51 (by rw [o_51_6]; rfl) (by decide) ?_
                      exact law_case_6 hl9 hL hx hb hr hml hown hts hX hbl hlocks hN hT hZ hK j hj (by omega) (ih (j + 1) (by omega) (by omega)) n x w K V R G B S n2 x2 K2 V2 R2 th tp K1 V1 R1 Lf Go O hI hn2 H locs hP hD hS ls (lv_sub (l' := [(0, .ref b), (1, .ref jd), (2, .ref jm), (3, .ref jo), (4, .int (nI (1 + 4 * j)))]) hl [0, 1, 2, 3, 4] rfl)
                    · skip
                      by_cases o_51_7 : ((xs (1 + 4 * j)) &&& (nI 15)).toInt = 7
                      · skip
                        have o3 : ((xs (1 + 4 * j)) &&& (nI 15)) = nI 7 := sw_eq o_51_7 (by decide +kernel)
                        refine lv_tableIn (tgt := 399) hx hb d_L_law_51 o1_51 o2_51 (by rw [o_51_7]; rfl) (by decide) ?_
                        exact law_case_7 hl9 hL hx hb hr hml hown hts hX hbl hlocks hN hT hZ hK j hj (by omega) (ih (j + 1) (by omega) (by omega)) n x w K V R G B S n2 x2 K2 V2 R2 th tp K1 V1 R1 Lf Go O hI hn2 H locs hP hD hS ls (lv_sub (l' := [(0, .ref b), (1, .ref jd), (2, .ref jm), (3, .ref jo), (4, .int (nI (1 + 4 * j)))]) hl [0, 1, 2, 3, 4] rfl)
                      · skip
                        by_cases o_51_8 : ((xs (1 + 4 * j)) &&& (nI 15)).toInt = 8
                        · skip
                          have o3 : ((xs (1 + 4 * j)) &&& (nI 15)) = nI 8 := sw_eq o_51_8 (by decide +kernel)
                          refine lv_tableIn (tgt := 412) hx hb d_L_law_51 o1_51 o2_51 (by rw [o_51_8]; rfl) (by decide) ?_
                          exact law_case_8 hl9 hL hx hb hr hml hown hts hX hbl hlocks hN hT hZ hK j hj (by omega) (ih (j + 1) (by omega) (by omega)) n x w K V R G B S n2 x2 K2 V2 R2 th tp K1 V1 R1 Lf Go O hI hn2 H locs hP hD hS ls (lv_sub (l' := [(0, .ref b), (1, .ref jd), (2, .ref jm), (3, .ref jo), (4, .int (nI (1 + 4 * j)))]) hl [0, 1, 2, 3, 4] rfl)
                        · skip
                          by_cases o_51_9 : ((xs (1 + 4 * j)) &&& (nI 15)).toInt = 9
                          · skip
                            have o3 : ((xs (1 + 4 * j)) &&& (nI 15)) = nI 9 := sw_eq o_51_9 (by decide +kernel)
                            refine lv_tableIn (tgt := 468) hx hb d_L_law_51 o1_51 o2_51 (by rw [o_51_9]; rfl) (by decide) ?_
                            exact law_case_9 hl9 hL hx hb hr hml hown hts hX hbl hlocks hN hT hZ hK j hj (by omega) (ih (j + 1) (by omega) (by omega)) n x w K V R G B S n2 x2 K2 V2 R2 th tp K1 V1 R1 Lf Go O hI hn2 H locs hP hD hS ls (lv_sub (l' := [(0, .ref b), (1, .ref jd), (2, .ref jm), (3, .ref jo), (4, .int (nI (1 + 4 * j)))]) hl [0, 1, 2, 3, 4] rfl)
                          · skip
                            have o_51_10 : ((xs (1 + 4 * j)) &&& (nI 15)).toInt = 10 := by omega
                            have o3 : ((xs (1 + 4 * j)) &&& (nI 15)) = nI 10 := sw_eq o_51_10 (by decide +kernel)
                            refine lv_tableIn (tgt := 575) hx hb d_L_law_51 o1_51 o2_51 (by rw [o_51_10]; rfl) (by decide) ?_
                            exact law_case_10 hl9 hL hx hb hr hml hown hts hX hbl hlocks hN hT hZ hK j hj (by omega) (ih (j + 1) (by omega) (by omega)) n x w K V R G B S n2 x2 K2 V2 R2 th tp K1 V1 R1 Lf Go O hI hn2 H locs hP hD hS ls (lv_sub (l' := [(0, .ref b), (1, .ref jd), (2, .ref jm), (3, .ref jo), (4, .int (nI (1 + 4 * j)))]) hl [0, 1, 2, 3, 4] rfl)
