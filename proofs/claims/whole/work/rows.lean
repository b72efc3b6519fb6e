section
-- ===== PART A: goes FIRST, ahead of the names: the tables' words, and 'selects' of the private methods out of them =====
/-- a private method of a class that the tables say can be made, by its rows of tables_1 -/
def lw_okq (q : MethodName × Nat) : Prop := (q.1.cls ≠ "java/lang/invoke/MethodHandle" ∧ q.1.cls ≠ "java/lang/invoke/VarHandle") ∧ Cond.instantiable q.1.cls q.2 ∈ tables_1 ∧ Cond.privateMethod q.1 ∈ tables_1 ∧ Cond.instanceMethod q.1 ∈ tables_1
theorem lw_p0 : lw_okq (⟨"PortDrawer", "verdictOf", "(J)I"⟩, 7) := ⟨⟨by decide +kernel, by decide +kernel⟩, List.mem_of_getElem? (i := 12) (by decide +kernel), List.mem_of_getElem? (i := 89) (by decide +kernel), List.mem_of_getElem? (i := 90) (by decide +kernel)⟩
theorem lw_p1 : lw_okq (⟨"PortDrawer", "staysWith", "(J)Z"⟩, 7) := ⟨⟨by decide +kernel, by decide +kernel⟩, List.mem_of_getElem? (i := 12) (by decide +kernel), List.mem_of_getElem? (i := 97) (by decide +kernel), List.mem_of_getElem? (i := 98) (by decide +kernel)⟩
theorem lw_p2 : lw_okq (⟨"PortDrawer", "allParts", "()J"⟩, 7) := ⟨⟨by decide +kernel, by decide +kernel⟩, List.mem_of_getElem? (i := 12) (by decide +kernel), List.mem_of_getElem? (i := 101) (by decide +kernel), List.mem_of_getElem? (i := 102) (by decide +kernel)⟩
theorem lw_p3 : lw_okq (⟨"PortDrawer", "firstThatMayGo", "()I"⟩, 7) := ⟨⟨by decide +kernel, by decide +kernel⟩, List.mem_of_getElem? (i := 12) (by decide +kernel), List.mem_of_getElem? (i := 111) (by decide +kernel), List.mem_of_getElem? (i := 112) (by decide +kernel)⟩
theorem lw_p4 : lw_okq (⟨"PortDrawer", "leftWithout", "(I)J"⟩, 7) := ⟨⟨by decide +kernel, by decide +kernel⟩, List.mem_of_getElem? (i := 12) (by decide +kernel), List.mem_of_getElem? (i := 118) (by decide +kernel), List.mem_of_getElem? (i := 119) (by decide +kernel)⟩
theorem lw_p5 : lw_okq (⟨"PortDrawer$Harbour", "ofKindAheadOf", "(II)I"⟩, 5) := ⟨⟨by decide +kernel, by decide +kernel⟩, List.mem_of_getElem? (i := 20) (by decide +kernel), List.mem_of_getElem? (i := 135) (by decide +kernel), List.mem_of_getElem? (i := 136) (by decide +kernel)⟩
theorem lw_p6 : lw_okq (⟨"PortDrawer", "verdictsThatStay", "()I"⟩, 7) := ⟨⟨by decide +kernel, by decide +kernel⟩, List.mem_of_getElem? (i := 12) (by decide +kernel), List.mem_of_getElem? (i := 139) (by decide +kernel), List.mem_of_getElem? (i := 140) (by decide +kernel)⟩
theorem lw_p7 : lw_okq (⟨"PortDrawer", "countOfKind", "(I)I"⟩, 7) := ⟨⟨by decide +kernel, by decide +kernel⟩, List.mem_of_getElem? (i := 12) (by decide +kernel), List.mem_of_getElem? (i := 143) (by decide +kernel), List.mem_of_getElem? (i := 144) (by decide +kernel)⟩
theorem lw_p8 : lw_okq (⟨"java/lang/Throwable", "fillInStackTrace", "(I)Ljava/lang/Throwable;"⟩, 6) := ⟨⟨by decide +kernel, by decide +kernel⟩, List.mem_of_getElem? (i := 198) (by decide +kernel), List.mem_of_getElem? (i := 196) (by decide +kernel), List.mem_of_getElem? (i := 197) (by decide +kernel)⟩
theorem lw_p9 : lw_okq (⟨"PortDrawer$Harbour", "fill", "(JI)V"⟩, 5) := ⟨⟨by decide +kernel, by decide +kernel⟩, List.mem_of_getElem? (i := 20) (by decide +kernel), List.mem_of_getElem? (i := 228) (by decide +kernel), List.mem_of_getElem? (i := 229) (by decide +kernel)⟩
theorem lw_p10 : lw_okq (⟨"PortDrawer$Tape", "rewind", "(J)V"⟩, 1) := ⟨⟨by decide +kernel, by decide +kernel⟩, List.mem_of_getElem? (i := 26) (by decide +kernel), List.mem_of_getElem? (i := 232) (by decide +kernel), List.mem_of_getElem? (i := 233) (by decide +kernel)⟩
theorem lw_p11 : lw_okq (⟨"PortDrawer$Harbour", "addPart", "(I)V"⟩, 5) := ⟨⟨by decide +kernel, by decide +kernel⟩, List.mem_of_getElem? (i := 20) (by decide +kernel), List.mem_of_getElem? (i := 236) (by decide +kernel), List.mem_of_getElem? (i := 237) (by decide +kernel)⟩
theorem lw_p12 : lw_okq (⟨"PortDrawer$Tape", "numberBelow", "(I)I"⟩, 1) := ⟨⟨by decide +kernel, by decide +kernel⟩, List.mem_of_getElem? (i := 26) (by decide +kernel), List.mem_of_getElem? (i := 240) (by decide +kernel), List.mem_of_getElem? (i := 241) (by decide +kernel)⟩
theorem lw_p13 : lw_okq (⟨"PortDrawer$Harbour", "drawReference", "(I)I"⟩, 5) := ⟨⟨by decide +kernel, by decide +kernel⟩, List.mem_of_getElem? (i := 20) (by decide +kernel), List.mem_of_getElem? (i := 246) (by decide +kernel), List.mem_of_getElem? (i := 247) (by decide +kernel)⟩
theorem lw_p14 : lw_okq (⟨"PortDrawer$Harbour", "partsToReferTo", "(I)I"⟩, 5) := ⟨⟨by decide +kernel, by decide +kernel⟩, List.mem_of_getElem? (i := 20) (by decide +kernel), List.mem_of_getElem? (i := 250) (by decide +kernel), List.mem_of_getElem? (i := 251) (by decide +kernel)⟩
theorem lw_p15 : lw_okq (⟨"PortDrawer", "noteGoingWith", "()V"⟩, 7) := ⟨⟨by decide +kernel, by decide +kernel⟩, List.mem_of_getElem? (i := 12) (by decide +kernel), List.mem_of_getElem? (i := 257) (by decide +kernel), List.mem_of_getElem? (i := 258) (by decide +kernel)⟩
def lw_privs_1 : List (MethodName × Nat) := [(⟨"PortDrawer", "verdictOf", "(J)I"⟩, 7), (⟨"PortDrawer", "staysWith", "(J)Z"⟩, 7), (⟨"PortDrawer", "allParts", "()J"⟩, 7), (⟨"PortDrawer", "firstThatMayGo", "()I"⟩, 7), (⟨"PortDrawer", "leftWithout", "(I)J"⟩, 7), (⟨"PortDrawer$Harbour", "ofKindAheadOf", "(II)I"⟩, 5), (⟨"PortDrawer", "verdictsThatStay", "()I"⟩, 7), (⟨"PortDrawer", "countOfKind", "(I)I"⟩, 7), (⟨"java/lang/Throwable", "fillInStackTrace", "(I)Ljava/lang/Throwable;"⟩, 6), (⟨"PortDrawer$Harbour", "fill", "(JI)V"⟩, 5), (⟨"PortDrawer$Tape", "rewind", "(J)V"⟩, 1), (⟨"PortDrawer$Harbour", "addPart", "(I)V"⟩, 5), (⟨"PortDrawer$Tape", "numberBelow", "(I)I"⟩, 1), (⟨"PortDrawer$Harbour", "drawReference", "(I)I"⟩, 5), (⟨"PortDrawer$Harbour", "partsToReferTo", "(I)I"⟩, 5), (⟨"PortDrawer", "noteGoingWith", "()V"⟩, 7)]
theorem lw_r1 : ∀ q ∈ lw_privs_1, lw_okq q := List.forall_mem_cons.mpr ⟨lw_p0, List.forall_mem_cons.mpr ⟨lw_p1, List.forall_mem_cons.mpr ⟨lw_p2, List.forall_mem_cons.mpr ⟨lw_p3, List.forall_mem_cons.mpr ⟨lw_p4, List.forall_mem_cons.mpr ⟨lw_p5, List.forall_mem_cons.mpr ⟨lw_p6, List.forall_mem_cons.mpr ⟨lw_p7, List.forall_mem_cons.mpr ⟨lw_p8, List.forall_mem_cons.mpr ⟨lw_p9, List.forall_mem_cons.mpr ⟨lw_p10, List.forall_mem_cons.mpr ⟨lw_p11, List.forall_mem_cons.mpr ⟨lw_p12, List.forall_mem_cons.mpr ⟨lw_p13, List.forall_mem_cons.mpr ⟨lw_p14, List.forall_mem_cons.mpr ⟨lw_p15, fun _ h => absurd h List.not_mem_nil⟩⟩⟩⟩⟩⟩⟩⟩⟩⟩⟩⟩⟩⟩⟩⟩
theorem lw_p16 : lw_okq (⟨"PortDrawer$Harbour", "has", "(I)Z"⟩, 5) := ⟨⟨by decide +kernel, by decide +kernel⟩, List.mem_of_getElem? (i := 20) (by decide +kernel), List.mem_of_getElem? (i := 261) (by decide +kernel), List.mem_of_getElem? (i := 262) (by decide +kernel)⟩
theorem lw_p17 : lw_okq (⟨"PortDrawer", "notePartsOfBits", "()V"⟩, 7) := ⟨⟨by decide +kernel, by decide +kernel⟩, List.mem_of_getElem? (i := 12) (by decide +kernel), List.mem_of_getElem? (i := 265) (by decide +kernel), List.mem_of_getElem? (i := 266) (by decide +kernel)⟩
theorem lw_p18 : lw_okq (⟨"PortDrawer$Harbour", "isFittingAct", "(I)Z"⟩, 5) := ⟨⟨by decide +kernel, by decide +kernel⟩, List.mem_of_getElem? (i := 20) (by decide +kernel), List.mem_of_getElem? (i := 269) (by decide +kernel), List.mem_of_getElem? (i := 270) (by decide +kernel)⟩
theorem lw_p19 : lw_okq (⟨"PortDrawer$Harbour", "isAct", "(I)Z"⟩, 5) := ⟨⟨by decide +kernel, by decide +kernel⟩, List.mem_of_getElem? (i := 20) (by decide +kernel), List.mem_of_getElem? (i := 273) (by decide +kernel), List.mem_of_getElem? (i := 274) (by decide +kernel)⟩
theorem lw_p20 : lw_okq (⟨"PortDrawer$Harbour", "isLike", "(LPortDrawer$Harbour;)Z"⟩, 5) := ⟨⟨by decide +kernel, by decide +kernel⟩, List.mem_of_getElem? (i := 20) (by decide +kernel), List.mem_of_getElem? (i := 327) (by decide +kernel), List.mem_of_getElem? (i := 328) (by decide +kernel)⟩
theorem lw_p21 : lw_okq (⟨"PortDrawerModel", "refuse", "(I)I"⟩, 10) := ⟨⟨by decide +kernel, by decide +kernel⟩, List.mem_of_getElem? (i := 331) (by decide +kernel), List.mem_of_getElem? (i := 379) (by decide +kernel), List.mem_of_getElem? (i := 380) (by decide +kernel)⟩
theorem lw_p22 : lw_okq (⟨"PortDrawerModel", "draws", "(JII)V"⟩, 10) := ⟨⟨by decide +kernel, by decide +kernel⟩, List.mem_of_getElem? (i := 331) (by decide +kernel), List.mem_of_getElem? (i := 383) (by decide +kernel), List.mem_of_getElem? (i := 384) (by decide +kernel)⟩
theorem lw_p23 : lw_okq (⟨"PortDrawerModel", "number", "(I)I"⟩, 10) := ⟨⟨by decide +kernel, by decide +kernel⟩, List.mem_of_getElem? (i := 331) (by decide +kernel), List.mem_of_getElem? (i := 387) (by decide +kernel), List.mem_of_getElem? (i := 388) (by decide +kernel)⟩
theorem lw_p24 : lw_okq (⟨"PortDrawerModel", "reference", "(II)I"⟩, 10) := ⟨⟨by decide +kernel, by decide +kernel⟩, List.mem_of_getElem? (i := 331) (by decide +kernel), List.mem_of_getElem? (i := 393) (by decide +kernel), List.mem_of_getElem? (i := 394) (by decide +kernel)⟩
theorem lw_p25 : lw_okq (⟨"PortDrawerModel", "all", "()V"⟩, 10) := ⟨⟨by decide +kernel, by decide +kernel⟩, List.mem_of_getElem? (i := 331) (by decide +kernel), List.mem_of_getElem? (i := 400) (by decide +kernel), List.mem_of_getElem? (i := 401) (by decide +kernel)⟩
theorem lw_p26 : lw_okq (⟨"PortDrawerModel", "isPart", "(I)Z"⟩, 10) := ⟨⟨by decide +kernel, by decide +kernel⟩, List.mem_of_getElem? (i := 331) (by decide +kernel), List.mem_of_getElem? (i := 412) (by decide +kernel), List.mem_of_getElem? (i := 413) (by decide +kernel)⟩
theorem lw_p27 : lw_okq (⟨"PortDrawerModel", "isFit", "(I)Z"⟩, 10) := ⟨⟨by decide +kernel, by decide +kernel⟩, List.mem_of_getElem? (i := 331) (by decide +kernel), List.mem_of_getElem? (i := 416) (by decide +kernel), List.mem_of_getElem? (i := 417) (by decide +kernel)⟩
theorem lw_p28 : lw_okq (⟨"PortDrawerModel", "none", "()V"⟩, 10) := ⟨⟨by decide +kernel, by decide +kernel⟩, List.mem_of_getElem? (i := 331) (by decide +kernel), List.mem_of_getElem? (i := 428) (by decide +kernel), List.mem_of_getElem? (i := 429) (by decide +kernel)⟩
theorem lw_p29 : lw_okq (⟨"PortDrawerModel", "judged", "()I"⟩, 10) := ⟨⟨by decide +kernel, by decide +kernel⟩, List.mem_of_getElem? (i := 331) (by decide +kernel), List.mem_of_getElem? (i := 432) (by decide +kernel), List.mem_of_getElem? (i := 433) (by decide +kernel)⟩
theorem lw_p30 : lw_okq (⟨"PortDrawerModel", "first", "()I"⟩, 10) := ⟨⟨by decide +kernel, by decide +kernel⟩, List.mem_of_getElem? (i := 331) (by decide +kernel), List.mem_of_getElem? (i := 440) (by decide +kernel), List.mem_of_getElem? (i := 441) (by decide +kernel)⟩
theorem lw_p31 : lw_okq (⟨"PortDrawerModel", "mayGo", "(I)Z"⟩, 10) := ⟨⟨by decide +kernel, by decide +kernel⟩, List.mem_of_getElem? (i := 331) (by decide +kernel), List.mem_of_getElem? (i := 444) (by decide +kernel), List.mem_of_getElem? (i := 445) (by decide +kernel)⟩
def lw_privs_2 : List (MethodName × Nat) := [(⟨"PortDrawer$Harbour", "has", "(I)Z"⟩, 5), (⟨"PortDrawer", "notePartsOfBits", "()V"⟩, 7), (⟨"PortDrawer$Harbour", "isFittingAct", "(I)Z"⟩, 5), (⟨"PortDrawer$Harbour", "isAct", "(I)Z"⟩, 5), (⟨"PortDrawer$Harbour", "isLike", "(LPortDrawer$Harbour;)Z"⟩, 5), (⟨"PortDrawerModel", "refuse", "(I)I"⟩, 10), (⟨"PortDrawerModel", "draws", "(JII)V"⟩, 10), (⟨"PortDrawerModel", "number", "(I)I"⟩, 10), (⟨"PortDrawerModel", "reference", "(II)I"⟩, 10), (⟨"PortDrawerModel", "all", "()V"⟩, 10), (⟨"PortDrawerModel", "isPart", "(I)Z"⟩, 10), (⟨"PortDrawerModel", "isFit", "(I)Z"⟩, 10), (⟨"PortDrawerModel", "none", "()V"⟩, 10), (⟨"PortDrawerModel", "judged", "()I"⟩, 10), (⟨"PortDrawerModel", "first", "()I"⟩, 10), (⟨"PortDrawerModel", "mayGo", "(I)Z"⟩, 10)]
theorem lw_r2 : ∀ q ∈ lw_privs_2, lw_okq q := List.forall_mem_cons.mpr ⟨lw_p16, List.forall_mem_cons.mpr ⟨lw_p17, List.forall_mem_cons.mpr ⟨lw_p18, List.forall_mem_cons.mpr ⟨lw_p19, List.forall_mem_cons.mpr ⟨lw_p20, List.forall_mem_cons.mpr ⟨lw_p21, List.forall_mem_cons.mpr ⟨lw_p22, List.forall_mem_cons.mpr ⟨lw_p23, List.forall_mem_cons.mpr ⟨lw_p24, List.forall_mem_cons.mpr ⟨lw_p25, List.forall_mem_cons.mpr ⟨lw_p26, List.forall_mem_cons.mpr ⟨lw_p27, List.forall_mem_cons.mpr ⟨lw_p28, List.forall_mem_cons.mpr ⟨lw_p29, List.forall_mem_cons.mpr ⟨lw_p30, List.forall_mem_cons.mpr ⟨lw_p31, fun _ h => absurd h List.not_mem_nil⟩⟩⟩⟩⟩⟩⟩⟩⟩⟩⟩⟩⟩⟩⟩⟩
theorem lw_p32 : lw_okq (⟨"PortDrawerModel", "marks", "(I)I"⟩, 10) := ⟨⟨by decide +kernel, by decide +kernel⟩, List.mem_of_getElem? (i := 331) (by decide +kernel), List.mem_of_getElem? (i := 448) (by decide +kernel), List.mem_of_getElem? (i := 449) (by decide +kernel)⟩
theorem lw_p33 : lw_okq (⟨"PortDrawerModel", "many", "()I"⟩, 10) := ⟨⟨by decide +kernel, by decide +kernel⟩, List.mem_of_getElem? (i := 331) (by decide +kernel), List.mem_of_getElem? (i := 452) (by decide +kernel), List.mem_of_getElem? (i := 453) (by decide +kernel)⟩
theorem lw_p34 : lw_okq (⟨"PortDrawerModel", "leaves", "()V"⟩, 10) := ⟨⟨by decide +kernel, by decide +kernel⟩, List.mem_of_getElem? (i := 331) (by decide +kernel), List.mem_of_getElem? (i := 456) (by decide +kernel), List.mem_of_getElem? (i := 457) (by decide +kernel)⟩
theorem lw_p35 : lw_okq (⟨"PortDrawerModel", "ofKind", "(I)I"⟩, 10) := ⟨⟨by decide +kernel, by decide +kernel⟩, List.mem_of_getElem? (i := 331) (by decide +kernel), List.mem_of_getElem? (i := 480) (by decide +kernel), List.mem_of_getElem? (i := 481) (by decide +kernel)⟩
def lw_privs_3 : List (MethodName × Nat) := [(⟨"PortDrawerModel", "marks", "(I)I"⟩, 10), (⟨"PortDrawerModel", "many", "()I"⟩, 10), (⟨"PortDrawerModel", "leaves", "()V"⟩, 10), (⟨"PortDrawerModel", "ofKind", "(I)I"⟩, 10)]
theorem lw_r3 : ∀ q ∈ lw_privs_3, lw_okq q := List.forall_mem_cons.mpr ⟨lw_p32, List.forall_mem_cons.mpr ⟨lw_p33, List.forall_mem_cons.mpr ⟨lw_p34, List.forall_mem_cons.mpr ⟨lw_p35, fun _ h => absurd h List.not_mem_nil⟩⟩⟩⟩
def lw_privs : List (MethodName × Nat) := lw_privs_1 ++ (lw_privs_2 ++ (lw_privs_3))
def lw_tbl : List Cond := k2_sels lw_privs ++ tables_1
theorem lw_privs_ok : ∀ q ∈ lw_privs, lw_okq q := by
  show ∀ q ∈ lw_privs_1 ++ (lw_privs_2 ++ (lw_privs_3)), lw_okq q
  exact List.forall_mem_append.mpr ⟨lw_r1, List.forall_mem_append.mpr ⟨lw_r2, lw_r3⟩⟩
end
section
/-! ===== BEGIN words of one list among another's, by their places ===== -/
theorem goodIn_r {big : List Cond} (ws : List Cond) (ps : List Nat) (hp : ws = ps.filterMap (fun i => big[i]?)) (h : ws.all goodWord = true) : GoodIn big ws := by
  intro w hw
  have h1 := List.all_eq_true.mp h w hw
  rw [hp] at hw
  obtain ⟨i, -, hi⟩ := List.mem_filterMap.mp hw
  have hm : w ∈ big := by first | exact List.mem_of_getElem? hi | exact List.getElem?_mem hi
  exact ⟨hm, good_of_word h1⟩
theorem goodIn_app {big a b : List Cond} (ha : GoodIn big a) (hb : GoodIn big b) : GoodIn big (a ++ b) := fun w h => (List.mem_append.mp h).elim (ha w) (hb w)
theorem goodIn_ca {big a b : List Cond} {c : Cond} (ha : GoodIn big (c :: a)) (hb : GoodIn big b) : GoodIn big (c :: (a ++ b)) := fun w h => (List.mem_cons.mp h).elim (fun e => ha w (List.mem_cons.mpr (Or.inl e))) (fun h => (List.mem_append.mp h).elim (fun h => ha w (List.mem_cons.mpr (Or.inr h))) (hb w))
theorem goodIn_sub {big ws : List Cond} (hm : ∀ w ∈ ws, w ∈ big) (h : ws.all goodWord = true) : GoodIn big ws := fun w hw => ⟨hm w hw, good_of_word (List.all_eq_true.mp h w hw)⟩
/-! ===== END ===== -/

/-! ===== BEGIN exceptions that leave a method, and their catching by the caller (launches without stack traces) ===== -/
section VXA
/-! The laws vx_back, vx_callV, vx_callS, vx_callSW, vx_throw0, vx_throwS follow proofs of the library, with one case more: JvmDerived/Free/Laws.lean (Back.of_free), Shelf42/LK1.lean (callV, callS), Shelf/KitTraced.lean (throwNew0V, throwNewS). -/
/-- where a method has thrown q: the class by its name, the cell, what was written, the world -/
def vx_T (XC : String → State → State → Prop) (st : State) (q : Addr) (t : State) (mc ms : Nat) (free : Addr → Prop) : Prop :=
  ∃ (E : String) (ce : Cell) (L : List Loc), XC E st t ∧ t.heap[q]? = some ce ∧ ce.vm = .none ∧ st.vm.findClass E = some ce.cls ∧ st.WarmedH t.vm ∧ st.sameButNew ({ t with vm := st.vm } : State) L mc ms ∧ ∀ z ∈ L, free z.base
def vx_Q (Qc : Array Value → State → Outcome → State → Prop) (XC : String → State → State → Prop) (mc ms : Nat) (free : Addr → Prop) : Array Value → State → Outcome → State → Prop := fun a st o t =>
  (Qc a st o t ∧ ∃ L, FrameEnd st o t L mc ms ∧ ∀ q ∈ L, free q.base) ∨ ∃ q, o = .threw q ∧ vx_T XC st q t mc ms free
/-- a callee that returns or throws -/
def vx_Met (l : Launch) (y : MethodName) (ws : List Cond) (rm : Room) (Pc : Array Value → State → Prop) (Qc : Array Value → State → Outcome → State → Prop) (XC : String → State → State → Prop) (mc ms : Nat) (free : Addr → Prop) : Prop :=
  MetFree l y (headSpec ws rm) Pc (fun _ _ _ _ _ => True) (vx_Q Qc XC mc ms free)
def vx_Post (XC : String → State → State → Prop) (mc ms : Nat) (free : Addr → Prop) : Pt → Array Value → Addr → Pt → Prop := fun A a q B =>
  ∃ (g : JFrame) (mk : MethodId) (t : State) (L : List Loc) (E : String) (ce : Cell), B.U.heap = t.heap ∧ B.U.vm = t.vm ∧ XC E (A.U.calling g mk a) t ∧ t.heap[q]? = some ce ∧ ce.vm = .none ∧ A.U.vm.findClass E = some ce.cls ∧ B.locs = A.locs ++ L ∧ (∀ z ∈ L, free z.base) ∧ B.cells = A.cells + mc ∧ B.slots = A.slots + ms
def vx_Back (l : Launch) (R : Room) (p : Program) (e : Env) (below : List Frame) (s : State) (sargs : Array Value) (y : MethodName) (len W9 : Nat)
    (Pre : Pt → Array Value → Prop) (Post : Pt → Array Value → Option Value → Pt → Prop) (PostX : Pt → Array Value → Addr → Pt → Prop) : Prop :=
  ∀ (m : MethodId) (meth : Method) (c : Code) (A : Pt) (g : JFrame) (ig : Instr) (mk : MethodId) (a : Array Value),
    Stand p l e R s m sargs below meth c A.U A.locs A.cells A.slots → g.method = m → g.locals.size = c.maxLocals → decode c.code g.pc = .ok (ig, len) →
    2 * g.monitorRoom + (g.stack.map fun v => v.category).sum ≤ W9 → A.U.methodNamed? y = some mk → Pre A a →
    (∃ (v : Option Value) (B : Pt), Stand p l e R s m sargs below meth c B.U B.locs B.cells B.slots ∧ Post A a v B ∧
      Steps p.tables e below (doInvoke e (A.U.setTop g) [] mk a).1 (B.U.setTop { g with pc := g.pc + len, stack := v.toList ++ g.stack })) ∨
    (∃ (q : Addr) (B : Pt), Stand p l e R s m sargs below meth c B.U B.locs B.cells B.slots ∧ PostX A a q B ∧
      Steps p.tables e below (doInvoke e (A.U.setTop g) [] mk a).1 ((B.U.setTop g).pushFrame (.throwing q)))
section Payer
variable {l : Launch} {R : Room} {p : Program} {e : Env} {below : List Frame} {s : State} {sargs : Array Value} {y : MethodName} {len W9 : Nat}
theorem vx_back {ws : List Cond} {rm : Room} {Pc : Array Value → State → Prop} {Qc : Array Value → State → Outcome → State → Prop} {XC : String → State → State → Prop} {mc ms : Nat} {free : Addr → Prop} {bytes : ByteArray} {maxL : Nat} {ret : Option FieldType}
    (hM : vx_Met l y ws rm Pc Qc XC mc ms free) (hblind : FrameBlind Pc) (hrc : rm.cells = mc) (hrs : rm.slots = ms)
    (hframes : rm.frames + 1 ≤ R.frames) (hlocals : W9 + (maxL + 11) + rm.locals ≤ R.locals)
    (hws : ∀ w ∈ ws, ∀ a' U, s.WarmedH U.vm → w.before a' U = true) (hcode : Cond.code y bytes maxL ret ∈ ws) (hinit : ∀ a' U, s.WarmedH U.vm → (Cond.initialized y.cls).before a' U = true) :
    vx_Back l R p e below s sargs y len W9 (PreOf R mc ms Pc) (PostOf Qc mc ms free) (vx_Post XC mc ms free) := by
  intro m meth c A g ig mk a X hg hsize hdg hW hn hp
  have h1 : (headSpec ws rm).pre.before a A.U = true := atoms_intro fun w hw => hws w hw _ _ X.warmed
  have h2 : (Cond.code y bytes maxL ret).before a A.U = true := hws _ hcode _ _ X.warmed
  have h3 : (Cond.initialized y.cls).before a A.U = true := hinit _ _ X.warmed
  have h4 : A.cells + (headSpec ws rm).room.cells ≤ R.cells := by rw [show (headSpec ws rm).room.cells = mc from hrc]; exact hp.1
  have h5 : A.slots + (headSpec ws rm).room.slots ≤ R.slots := by rw [show (headSpec ws rm).room.slots = ms from hrs]; exact hp.2.1
  have hPc : Pc a (A.U.calling g mk a) := hblind _ _ _ _ hp.2.2
  obtain ⟨U, Ls, c0, s0⟩ := A
  dsimp only [Pt.U, Pt.locs, Pt.cells, Pt.slots] at h1 h2 h3 h4 h5 X hn hPc ⊢
  obtain ⟨methY, cY, hmY, hcY, -, hlY, -, -, -, -⟩ := Cond.code_spec hn h2
  obtain ⟨kY, hkY, -⟩ := className_of_methodNamed hn
  have hinitY : kY.init = .initialized := Cond.initialized_spec (findClass_of_methodNamed hn) hkY h3
  have h : At U g.method c below := by rw [hg]; exact X.here
  have hlocals9 : W9 + (maxL + 11) + (headSpec ws rm).room.locals ≤ R.locals := hlocals
  have happ : (headSpec ws rm).appliesLoose y e.platform (U.calling g mk a) = true :=
    Spec.appliesLoose_calling (g := g) h hdg hn hkY hinitY
      (X.room_calling (g := g) (R' := (headSpec ws rm).room) hsize hmY hcY hframes (by rw [hlY]; omega) h4 h5) h1
  obtain ⟨mid, hmid⟩ := h.above
  have hfr : (U.setTop g).frames = (.java g :: mid) ++ below := by rw [State.frames_setTop' g h.top, hmid]; rfl
  obtain ⟨o, s₂, hsteps, -, hend, hq⟩ := Steps.callFree hM p X.admits X.cas X.clock (acts := []) hfr happ hPc trivial
  have hq' : vx_Q Qc XC mc ms free a (U.calling g mk a) o s₂ := hq
  rw [State.frames_setTop' g h.top] at hend
  obtain ⟨g₀, hg0⟩ := Option.isSome_iff_exists.mp h.top
  obtain ⟨r, hr⟩ := State.topJava?_eq_some.mp hg0
  have hr' : (({ U with heap := s₂.heap, slotsUsed := s₂.slotsUsed } : State).setVm s₂.vm).frames = .java g₀ :: r := hr
  rcases hq' with ⟨hqc, L, hfe, hL⟩ | ⟨q, rfl, E, ce, L, hx, hce, hcv, hcl, hW₂, hsm, hL⟩
  · obtain ⟨⟨v, rfl⟩, hW₂, e2, q2, q3, q4, q5, q6⟩ := id hfe
    have e3 : s₂ = ({ (U.calling g mk a).setFrames s₂.frames with heap := s₂.heap, slotsUsed := s₂.slotsUsed } : State).setVm s₂.vm := by
      have : s₂ = ({ s₂ with vm := (U.calling g mk a).vm } : State).setVm s₂.vm := rfl
      rw [e2] at this
      exact this
    obtain ⟨c₂, i₂, len₂, hc₂, hd₂, hf₂⟩ := hend
    have hW' : U.WarmedH s₂.vm := hW₂
    have hcc : c₂ = c := by
      have h1 : s₂.code? g.method = U.code? g.method := by
        rw [State.code?_eq, State.code?_eq, hW'.alike.method?]
      exact Option.some.inj (hc₂.symm.trans (h1.trans h.code))
    subst hcc
    have hlen : len₂ = len := by rw [hdg] at hd₂; cases hd₂; rfl
    subst hlen
    have hs₂ : s₂ = (({ U with heap := s₂.heap, slotsUsed := s₂.slotsUsed } : State).setVm s₂.vm).setTop { g with pc := g.pc + len₂, stack := v.toList ++ g.stack } := by
      refine e3.trans ?_
      rw [hf₂, State.calling_eq h.top, State.setFrames_setFrames, State.setTop_of_frames _ hr', hr]
      rfl
    have hsame : U.sameButNew ({ U with heap := s₂.heap, slotsUsed := s₂.slotsUsed } : State) L mc ms := by
      refine ⟨?_, q2, q3, q4, q5, q6⟩
      obtain ⟨t, ht, -⟩ := State.frames_cons hr
      show ({ U with heap := s₂.heap, slotsUsed := s₂.slotsUsed } : State) = { U.setFrames U.frames with heap := s₂.heap, slotsUsed := s₂.slotsUsed }
      rw [State.setFrames_self ht]
    subst hg
    refine Or.inl ⟨v, ⟨(({ U with heap := s₂.heap, slotsUsed := s₂.slotsUsed } : State).setVm s₂.vm), Ls ++ L, c0 + mc, s0 + ms⟩,
      ⟨X.admits, X.cas, X.clock, X.frames, X.room, X.hears, X.method, X.code, (X.here.setHeapUsed s₂.heap s₂.slotsUsed).setVm hW'.alike, X.tail, State.WarmedH.trans X.warmed hW', X.limits, X.bytes, X.same.trans (hsame.setVm s.vm)⟩,
      ⟨g, mk, s₂, L, rfl, rfl, hqc, rfl, hL, rfl, rfl⟩, ?_⟩
    show Steps p.tables e below _ ((({ U with heap := s₂.heap, slotsUsed := s₂.slotsUsed } : State).setVm s₂.vm).setTop { g with pc := g.pc + len₂, stack := v.toList ++ g.stack })
    rw [← hs₂]
    exact hsteps
  · obtain ⟨e2, q2, q3, q4, q5, q6⟩ := id hsm
    have e3 : s₂ = ({ (U.calling g mk a).setFrames s₂.frames with heap := s₂.heap, slotsUsed := s₂.slotsUsed } : State).setVm s₂.vm := by
      have : s₂ = ({ s₂ with vm := (U.calling g mk a).vm } : State).setVm s₂.vm := rfl
      rw [e2] at this
      exact this
    have hf₂ : s₂.frames = .throwing q :: .java g :: U.frames.tail := hend
    have hW' : U.WarmedH s₂.vm := hW₂
    have hs₂ : s₂ = ((({ U with heap := s₂.heap, slotsUsed := s₂.slotsUsed } : State).setVm s₂.vm).setTop g).pushFrame (.throwing q) := by
      refine e3.trans ?_
      rw [hf₂, State.calling_eq h.top, State.setFrames_setFrames, State.pushFrame, State.frames_setTop _ hr', State.setTop_of_frames _ hr', State.setFrames_setFrames, hr]
      rfl
    have hsame : U.sameButNew ({ U with heap := s₂.heap, slotsUsed := s₂.slotsUsed } : State) L mc ms := by
      refine ⟨?_, q2, q3, q4, q5, q6⟩
      obtain ⟨t, ht, -⟩ := State.frames_cons hr
      show ({ U with heap := s₂.heap, slotsUsed := s₂.slotsUsed } : State) = { U.setFrames U.frames with heap := s₂.heap, slotsUsed := s₂.slotsUsed }
      rw [State.setFrames_self ht]
    subst hg
    refine Or.inr ⟨q, ⟨(({ U with heap := s₂.heap, slotsUsed := s₂.slotsUsed } : State).setVm s₂.vm), Ls ++ L, c0 + mc, s0 + ms⟩,
      ⟨X.admits, X.cas, X.clock, X.frames, X.room, X.hears, X.method, X.code, (X.here.setHeapUsed s₂.heap s₂.slotsUsed).setVm hW'.alike, X.tail, State.WarmedH.trans X.warmed hW', X.limits, X.bytes, X.same.trans (hsame.setVm s.vm)⟩,
      ⟨g, mk, s₂, L, E, ce, rfl, rfl, hx, hce, hcv, hcl, rfl, hL, rfl, rfl⟩, ?_⟩
    show Steps p.tables e below _ (((({ U with heap := s₂.heap, slotsUsed := s₂.slotsUsed } : State).setVm s₂.vm).setTop g).pushFrame (.throwing q))
    rw [← hs₂]
    exact hsteps
end Payer
section Calls
variable {p : Program} {l : Launch} {e : Env} {R : Room} {s : State} {m : MethodId} {args : Array Value} {below : List Frame} {meth : Method} {c : Code} {T : State} {locs : List Loc} {cells slots : Nat}
theorem vx_callV (X : Stand p l e R s m args below meth c T locs cells slots) (hexec : p.tables.exec = Jvm.exec) {own C : String} {index : Nat} {y : MethodName} {bytes : ByteArray} {maxL : Nat} {ret : Option FieldType}
    (hown : s.vm.findClass own = some m.cls) (hlink : (Cond.methodLink own index y).before args s = true) (hinst : (Cond.instanceMethod y).before args s = true) (hsel : (Cond.selects C y y).before args s = true)
    (hcode : (Cond.code y bytes maxL ret).before args s = true) (hy : y.cls ≠ "java/lang/invoke/MethodHandle" ∧ y.cls ≠ "java/lang/invoke/VarHandle")
    {W9 : Nat} {Pre : Pt → Array Value → Prop} {Post : Pt → Array Value → Option Value → Pt → Prop} {PostX : Pt → Array Value → Addr → Pt → Prop} (hK : vx_Back l R p e below s args y 3 W9 Pre Post PostX)
    {b : Addr} {cellB : Cell} (hcell : T.heap[b]? = some cellB) (hobj : cellB.vm.isStatics = false) (hcls : s.vm.findClass C = some cellB.cls)
    {g : JFrame} (hg : g.method = m) (hsize : g.locals.size = c.maxLocals) {argsL rest : List Value} (hlen : ∀ sig, parseMethodDescriptor y.desc = some sig → argsL.length = sig.parameters.length)
    (hstack : g.stack = argsL.reverse ++ .ref b :: rest) (hW : 2 * g.monitorRoom + (rest.map fun v => v.category).sum ≤ W9) (hdg : decode c.code g.pc = .ok (.invokevirtual index, 3))
    (hpre : ∀ vm₁, s.WarmedH vm₁ → Pre ⟨T.setVm vm₁, locs, cells, slots⟩ (Value.ref b :: argsL).toArray) :
    (∃ (v : Option Value) (vm₁ : Vm) (B : Pt), s.WarmedH vm₁ ∧ Stand p l e R s m args below meth c B.U B.locs B.cells B.slots ∧ Post ⟨T.setVm vm₁, locs, cells, slots⟩ (Value.ref b :: argsL).toArray v B ∧
      ∀ target, Steps p.tables e below (B.U.setTop { g with pc := g.pc + 3, stack := v.toList ++ rest }) target → Steps p.tables e below (T.setTop g) target) ∨
    (∃ (q : Addr) (vm₁ : Vm) (B : Pt), s.WarmedH vm₁ ∧ Stand p l e R s m args below meth c B.U B.locs B.cells B.slots ∧ PostX ⟨T.setVm vm₁, locs, cells, slots⟩ (Value.ref b :: argsL).toArray q B ∧
      Steps p.tables e below (T.setTop g) ((B.U.setTop { g with stack := rest }).pushFrame (.throwing q))) := by
  obtain ⟨mk, methM, hnamed, hmethM, hstM, habM⟩ := Cond.instanceMethod_spec hinst
  obtain ⟨methM', cM, hmethM', -, -, -, -, -, -, hsigM⟩ := Cond.code_spec hnamed hcode
  cases hmethM.symm.trans hmethM'
  obtain ⟨c2, r2, m2, q1, q2, q3, q4, kP, hkP, hkPi⟩ := Cond.selects_spec hsel
  cases hcls.symm.trans q1
  cases (State.methodFound?_of_named hnamed hy).symm.trans q2
  cases hnamed.symm.trans q3
  have hselP : selectMethod e.platform s.vm cellB.cls mk = .method mk := by rw [Launch.admits_selectMethod X.admits]; exact q4
  obtain ⟨vm₁, X₁, hstep₁⟩ := X.invokevirtual hexec hown hlink hnamed hmethM hstM hkP hkPi hy (a := b) (cell := cellB) hcell
    (fun z h => by rw [h] at hobj; cases hobj) hselP hmethM habM hkP hkPi (g := g) hg (argsL := argsL) (rest := rest) (hlen _ hsigM) hstack hdg
  rcases hK m meth c ⟨T.setVm vm₁, locs, cells, slots⟩ { g with stack := rest } (.invokevirtual index) mk (Value.ref b :: argsL).toArray X₁ hg hsize hdg hW (X₁.named hnamed) (hpre vm₁ X₁.warmed) with ⟨v, B, X', hpost, hsteps⟩ | ⟨q, B, X', hpost, hsteps⟩
  · exact Or.inl ⟨v, vm₁, B, X₁.warmed, X', hpost, fun target h => hstep₁ _ fun acts => by rw [doInvoke_state]; exact hsteps.trans h⟩
  · exact Or.inr ⟨q, vm₁, B, X₁.warmed, X', hpost, hstep₁ _ fun acts => by rw [doInvoke_state]; exact hsteps⟩
theorem vx_callS (X : Stand p l e R s m args below meth c T locs cells slots) (hexec : p.tables.exec = Jvm.exec) {own : String} {index : Nat} {y : MethodName} {bytes : ByteArray} {maxL : Nat} {ret : Option FieldType}
    (hown : s.vm.findClass own = some m.cls) (hlink : (Cond.methodLink own index y).before args s = true) (hstat : (Cond.static y).before args s = true) (hinit : (Cond.initialized y.cls).before args s = true)
    (hcode : (Cond.code y bytes maxL ret).before args s = true) (hy : y.cls ≠ "java/lang/invoke/MethodHandle" ∧ y.cls ≠ "java/lang/invoke/VarHandle")
    {W9 : Nat} {Pre : Pt → Array Value → Prop} {Post : Pt → Array Value → Option Value → Pt → Prop} {PostX : Pt → Array Value → Addr → Pt → Prop} (hK : vx_Back l R p e below s args y 3 W9 Pre Post PostX)
    {g : JFrame} (hg : g.method = m) (hsize : g.locals.size = c.maxLocals) {argsL rest : List Value} (hlen : ∀ sig, parseMethodDescriptor y.desc = some sig → argsL.length = sig.parameters.length)
    (hstack : g.stack = argsL.reverse ++ rest) (hW : 2 * g.monitorRoom + (rest.map fun v => v.category).sum ≤ W9) (hdg : decode c.code g.pc = .ok (.invokestatic index, 3))
    (hpre : ∀ vm₁, s.WarmedH vm₁ → Pre ⟨T.setVm vm₁, locs, cells, slots⟩ argsL.toArray) :
    (∃ (v : Option Value) (vm₁ : Vm) (B : Pt), s.WarmedH vm₁ ∧ Stand p l e R s m args below meth c B.U B.locs B.cells B.slots ∧ Post ⟨T.setVm vm₁, locs, cells, slots⟩ argsL.toArray v B ∧
      ∀ target, Steps p.tables e below (B.U.setTop { g with pc := g.pc + 3, stack := v.toList ++ rest }) target → Steps p.tables e below (T.setTop g) target) ∨
    (∃ (q : Addr) (vm₁ : Vm) (B : Pt), s.WarmedH vm₁ ∧ Stand p l e R s m args below meth c B.U B.locs B.cells B.slots ∧ PostX ⟨T.setVm vm₁, locs, cells, slots⟩ argsL.toArray q B ∧
      Steps p.tables e below (T.setTop g) ((B.U.setTop { g with stack := rest }).pushFrame (.throwing q))) := by
  obtain ⟨mk, hnamed⟩ := Cond.code_named hcode
  obtain ⟨methM, cM, hmethM, -, -, -, -, -, -, hsigM⟩ := Cond.code_spec hnamed hcode
  have hstatic : methM.isStatic = true := Cond.static_spec hnamed hmethM hstat
  obtain ⟨kP, hkP, -⟩ := className_of_methodNamed hnamed
  have hinitP : kP.init = .initialized := Cond.initialized_spec (findClass_of_methodNamed hnamed) hkP hinit
  obtain ⟨vm₁, X₁, hstep₁⟩ := X.invokestatic hexec hown hlink hnamed hmethM hstatic hkP hinitP hy (g := g) hg (argsL := argsL) (rest := rest) (hlen _ hsigM) hstack hdg
  rcases hK m meth c ⟨T.setVm vm₁, locs, cells, slots⟩ { g with stack := rest } (.invokestatic index) mk argsL.toArray X₁ hg hsize hdg hW (X₁.named hnamed) (hpre vm₁ X₁.warmed) with ⟨v, B, X', hpost, hsteps⟩ | ⟨q, B, X', hpost, hsteps⟩
  · exact Or.inl ⟨v, vm₁, B, X₁.warmed, X', hpost, fun target h => hstep₁ _ fun acts => by rw [doInvoke_state]; exact hsteps.trans h⟩
  · exact Or.inr ⟨q, vm₁, B, X₁.warmed, X', hpost, hstep₁ _ fun acts => by rw [doInvoke_state]; exact hsteps⟩
end Calls
theorem vx_cls {s : State} {T : State} {vm₁ : Vm} {E : String} {k : ClassId} (hW : s.WarmedH vm₁) (h : (T.setVm vm₁).vm.findClass E = some k) : s.vm.findClass E = some k := by
  have h1 : vm₁.findClass E = some k := h
  rw [hW.alike.findClass] at h1
  exact h1
/-- the method's frame g, with q thrown over it -/
def vx_W (p : Program) (l : Launch) (e : Env) (R : Room) (s : State) (m : MethodId) (args : Array Value) (below : List Frame) (meth : Method) (c : Code) (H : Heap) (locs : List Loc) (cells slots : Nat) (Q : State → Prop) (g : JFrame) (q : Addr) : Prop :=
  ∀ T : State, T.heap = H → Stand p l e R s m args below meth c T locs cells slots → ∃ t, Steps p.tables e below ((T.setTop g).pushFrame (.throwing q)) t ∧ Q t
def vx_Run (p : Program) (l : Launch) (e : Env) (R : Room) (s : State) (m : MethodId) (args : Array Value) (below : List Frame) (meth : Method) (c : Code) (H : Heap) (locs : List Loc) (cells slots mc ms : Nat) (g : JFrame) (rest : List Value) (Qa : State → Outcome → State → Prop) (XC : String → State → State → Prop) (free : Addr → Prop) : Prop :=
  ∀ T : State, T.heap = H → Stand p l e R s m args below meth c T locs cells slots →
    (∃ (v : Option Value) (st₀ t T' : State) (L : List Loc), st₀.heap = H ∧ Stand p l e R s m args below meth c T' (locs ++ L) (cells + mc) (slots + ms) ∧ (∀ q ∈ L, free q.base) ∧ T'.heap = t.heap ∧ T'.vm = t.vm ∧ Qa st₀ (.returned v) t ∧
      Goes p e below T g T' { g with pc := g.pc + 3, stack := v.toList ++ rest }) ∨
    (∃ (q : Addr) (st₀ t T' : State) (L : List Loc) (E : String) (ce : Cell), st₀.heap = H ∧ Stand p l e R s m args below meth c T' (locs ++ L) (cells + mc) (slots + ms) ∧ (∀ z ∈ L, free z.base) ∧ T'.heap = t.heap ∧ T'.vm = t.vm ∧ XC E st₀ t ∧ t.heap[q]? = some ce ∧ ce.vm = .none ∧ s.vm.findClass E = some ce.cls ∧
      Steps p.tables e below (T.setTop g) ((T'.setTop { g with stack := rest }).pushFrame (.throwing q)))
def vx_X {S : Type} (px : S → Prop) (B : String → S → State → Prop) (A : Nat → Prop) : String → State → State → Prop := fun E st t => ∃ u : S, px u ∧ B E u t ∧ va_F A st t
section Runs
variable {p : Program} {l : Launch} {e : Env} {R : Room} {s : State} {m : MethodId} {args : Array Value} {below : List Frame} {meth : Method} {c : Code} {H : Heap} {locs : List Loc} {cells slots : Nat}
variable {y : MethodName} {bytes cc : ByteArray} {maxL nL mc ms n index : Nat} {ret : Option FieldType} {ws : List Cond} {rm : Room} {Pc : Array Value → State → Prop} {Qc : Array Value → State → Outcome → State → Prop} {XC : String → State → State → Prop} {free : Addr → Prop} {Ts : List Cond} {own C : String} {b : Addr} {As rest : List Value} {g : JFrame}
theorem vx_callBack (cb : CallB R s args own index y bytes maxL ret ws rm mc ms n) (hM : vx_Met l y ws rm Pc Qc XC mc ms free) (hbl : FrameBlind Pc) : vx_Back l R p e below s args y 3 8 (PreOf R mc ms Pc) (PostOf Qc mc ms free) (vx_Post XC mc ms free) := by
  obtain ⟨hrc, hrs, hfr, hlo, hws, hcw, -, hini, -⟩ := cb
  exact vx_back (bytes := bytes) (maxL := maxL) (ret := ret) hM hbl hrc hrs hfr hlo hws hcw (fun a' U hW => word_at hW (Or.inl (by first | rfl | simp [Cond.onTables, Cond.keeps, Cond.steady])) hini)
theorem vx_runV (S : CallFix p m c cc nL s args Ts own) (hM : vx_Met l y ws rm Pc Qc XC mc ms free) (cw : CallW R s args own C index y bytes maxL ret ws rm mc ms n) (hp : PreV s H C b Pc As)
    (hg : g.method = m) (hn : As.length = n) (hsize : g.locals.size = nL) (hstack : g.stack = As.reverse ++ .ref b :: rest) (hW : 2 * g.monitorRoom + (rest.map fun v => v.category).sum ≤ 8) (hdg : decode cc g.pc = .ok (.invokevirtual index, 3)) (hf : cells + mc ≤ R.cells ∧ slots + ms ≤ R.slots) :
    vx_Run p l e R s m args below meth c H locs cells slots mc ms g rest (Qc (Value.ref b :: As).toArray) XC free := by
  have hK : vx_Back l R p e below s args y 3 8 (PreOf R mc ms Pc) (PostOf Qc mc ms free) (vx_Post XC mc ms free) := vx_callBack cw.1 hM hp.1
  obtain ⟨⟨-, -, -, -, -, -, hcode, -, hy, hlen, hl⟩, hin, hse⟩ := cw
  obtain ⟨hx, hb, hml, ho, -⟩ := S
  obtain ⟨-, ⟨cellB, hcB, hoB, hclB⟩, hPc⟩ := hp
  intro T hT X
  rcases vx_callV X hx (C := C) (bytes := bytes) (maxL := maxL) (ret := ret) ho hl hin hse hcode hy hK (by rw [hT]; exact hcB) hoB hclB hg (hsize.trans hml.symm) (argsL := As) (rest := rest) (fun sig h => hn.trans (hlen sig h)) hstack hW (by rw [hb]; exact hdg)
    (fun vm₁ hW₁ => ⟨hf.1, hf.2, hPc (T.setVm vm₁) hT hW₁⟩) with ⟨v, vm₁, ⟨U', l2, c2, s2⟩, hW₁, X', ⟨g', mk, t, L, e1, e2, hq, h1, hL, h2, h3⟩, st⟩ | ⟨q, vm₁, ⟨U', l2, c2, s2⟩, hW₁, X', ⟨g', mk, t, L, E, ce, e1, e2, hq, hce, hcv, hcl, h1, hL, h2, h3⟩, st⟩
  · dsimp only [Pt.U, Pt.locs, Pt.cells, Pt.slots] at X' e1 e2 h1 h2 h3 st
    subst h1; subst h2; subst h3
    exact Or.inl ⟨v, (T.setVm vm₁).calling g' mk (Value.ref b :: As).toArray, t, U', L, hT, X', hL, e1, e2, hq, st⟩
  · dsimp only [Pt.U, Pt.locs, Pt.cells, Pt.slots] at X' e1 e2 h1 h2 h3 st hcl
    subst h1; subst h2; subst h3
    exact Or.inr ⟨q, (T.setVm vm₁).calling g' mk (Value.ref b :: As).toArray, t, U', L, E, ce, hT, X', hL, e1, e2, hq, hce, hcv, vx_cls hW₁ hcl, st⟩
theorem vx_runS (S : CallFix p m c cc nL s args Ts own) (hM : vx_Met l y ws rm Pc Qc XC mc ms free) (cw : CallB R s args own index y bytes maxL ret ws rm mc ms n ∧ (Cond.static y).before args s = true) (hp : PreS s H Pc As)
    (hg : g.method = m) (hn : As.length = n) (hsize : g.locals.size = nL) (hstack : g.stack = As.reverse ++ rest) (hW : 2 * g.monitorRoom + (rest.map fun v => v.category).sum ≤ 8) (hdg : decode cc g.pc = .ok (.invokestatic index, 3)) (hf : cells + mc ≤ R.cells ∧ slots + ms ≤ R.slots) :
    vx_Run p l e R s m args below meth c H locs cells slots mc ms g rest (Qc As.toArray) XC free := by
  have hK : vx_Back l R p e below s args y 3 8 (PreOf R mc ms Pc) (PostOf Qc mc ms free) (vx_Post XC mc ms free) := vx_callBack cw.1 hM hp.1
  obtain ⟨⟨-, -, -, -, -, -, hcode, hini, hy, hlen, hl⟩, hstt⟩ := cw
  obtain ⟨hx, hb, hml, ho, -⟩ := S
  intro T hT X
  rcases vx_callS X hx (bytes := bytes) (maxL := maxL) (ret := ret) ho hl hstt hini hcode hy hK hg (hsize.trans hml.symm) (argsL := As) (rest := rest) (fun sig h => hn.trans (hlen sig h)) hstack hW (by rw [hb]; exact hdg)
    (fun vm₁ hW₁ => ⟨hf.1, hf.2, hp.2 (T.setVm vm₁) hT hW₁⟩) with ⟨v, vm₁, ⟨U', l2, c2, s2⟩, hW₁, X', ⟨g', mk, t, L, e1, e2, hq, h1, hL, h2, h3⟩, st⟩ | ⟨q, vm₁, ⟨U', l2, c2, s2⟩, hW₁, X', ⟨g', mk, t, L, E, ce, e1, e2, hq, hce, hcv, hcl, h1, hL, h2, h3⟩, st⟩
  · dsimp only [Pt.U, Pt.locs, Pt.cells, Pt.slots] at X' e1 e2 h1 h2 h3 st
    subst h1; subst h2; subst h3
    exact Or.inl ⟨v, (T.setVm vm₁).calling g' mk As.toArray, t, U', L, hT, X', hL, e1, e2, hq, st⟩
  · dsimp only [Pt.U, Pt.locs, Pt.cells, Pt.slots] at X' e1 e2 h1 h2 h3 st hcl
    subst h1; subst h2; subst h3
    exact Or.inr ⟨q, (T.setVm vm₁).calling g' mk As.toArray, t, U', L, E, ce, hT, X', hL, e1, e2, hq, hce, hcv, vx_cls hW₁ hcl, st⟩
end Runs
section Rows
variable {p : Program} {l : Launch} {e : Env} {R : Room} {s : State} {m : MethodId} {args : Array Value} {below : List Frame} {meth : Method} {c : Code} {H : Heap} {locs : List Loc} {cells slots : Nat} {Q : State → Prop}
variable {mc ms : Nat} {free : Addr → Prop} {A0 A1 : Nat → Prop} {H0 : Heap} {a : Array Value} {pc : Nat} {ls : Array Slot} {st0 rest : List Value}
theorem vx_keep {st₀ t T' : State} {L : List Loc} (h0 : st₀.heap = H) (e1 : T'.heap = t.heap) (hS : va_S A0 H0 H locs) (hA : ∀ q, q < H.size → A1 q → A0 q) (hf : ∀ q, free q → A0 q) (hL : ∀ q ∈ L, free q.base) (hF : va_F A1 st₀ t) :
    H.size ≤ T'.heap.size ∧ (∀ q : Nat, q < H.size → ¬ A1 q → T'.heap[q]? = H[q]?) ∧ va_S A0 H0 T'.heap (locs ++ L) := by
  obtain ⟨hz, hk⟩ := hF
  rw [h0] at hz hk
  exact ⟨by rw [e1]; exact hz, fun q h1 h2 => by rw [e1]; exact hk q h1 h2,
    ⟨Nat.le_trans hS.1 (by rw [e1]; exact hz), fun q h1 h2 => by rw [e1, hk q (Nat.lt_of_lt_of_le h1 hS.1) (fun z => h2 (hA q (Nat.lt_of_lt_of_le h1 hS.1) z))]; exact hS.2.1 q h1 h2, fun q hq => by
      rcases List.mem_append.mp hq with h | h
      · exact hS.2.2 q h
      · exact hf _ (hL q h)⟩⟩
theorem vx_calli {S SX : Type} {post : Int32 → S → Prop} {px : SX → Prop} {B : S → State → Prop} {BX : String → SX → State → Prop} {AX : Nat → Prop} (hr : vx_Run p l e R s m args below meth c H locs cells slots mc ms (F0 m pc ls st0) rest (va_Qi post B A1 a) (vx_X px BX AX) free) (hS : va_S A0 H0 H locs) (hA : ∀ q, q < H.size → A1 q → A0 q) (hf : ∀ q, free q → A0 q) (hAX : ∀ q, q < H.size → AX q → A0 q)
    (kx : ∀ (E : String) (ce : Cell) (q9 : Addr) (u : SX) (t : State) (H1 : Heap) (locs1 : List Loc), t.heap = H1 → s.vm.Alike t.vm → px u → BX E u t → H.size ≤ H1.size → (∀ q : Nat, q < H.size → ¬ AX q → H1[q]? = H[q]?) → va_S A0 H0 H1 locs1 → H1[q9]? = some ce → ce.vm = .none → s.vm.findClass E = some ce.cls → vx_W p l e R s m args below meth c H1 locs1 (cells + mc) (slots + ms) Q (F0 m pc ls rest) q9)
    (kk : ∀ (r : Int32) (u : S) (t : State) (H1 : Heap) (locs1 : List Loc), t.heap = H1 → s.vm.Alike t.vm → post r u → B u t → H.size ≤ H1.size → (∀ q : Nat, q < H.size → ¬ A1 q → H1[q]? = H[q]?) → va_S A0 H0 H1 locs1 → W p l e R s m args below meth c H1 locs1 (cells + mc) (slots + ms) Q (F0 m (pc + 3) ls (.int r :: rest))) : W p l e R s m args below meth c H locs cells slots Q (F0 m pc ls st0) := by
  intro T hT X
  rcases hr T hT X with ⟨v, st₀, t, T', L, h0, X', hL, e1, e2, ⟨⟨r, u, hv, hp, hb⟩, hF⟩, st⟩ | ⟨q, st₀, t, T', L, E, ce, h0, X', hL, e1, e2, ⟨u, hp, hb, hF⟩, hce, hcv, hcl, st⟩
  · cases hv
    obtain ⟨k1, k2, k3⟩ := vx_keep h0 e1 hS hA hf hL hF
    obtain ⟨t2, a1, b1⟩ := kk r u t T'.heap (locs ++ L) e1.symm (by rw [← e2]; exact X'.warmed.alike) hp hb k1 k2 k3 T' rfl X'
    exact ⟨t2, st t2 a1, b1⟩
  · obtain ⟨k1, k2, k3⟩ := vx_keep h0 e1 hS hAX hf hL hF
    obtain ⟨t2, a1, b1⟩ := kx E ce q u t T'.heap (locs ++ L) e1.symm (by rw [← e2]; exact X'.warmed.alike) hp hb k1 k2 k3 (by rw [e1]; exact hce) hcv hcl T' rfl X'
    exact ⟨t2, st.trans a1, b1⟩
theorem vx_calll {S SX : Type} {post : Int64 → S → Prop} {px : SX → Prop} {B : S → State → Prop} {BX : String → SX → State → Prop} {AX : Nat → Prop} (hr : vx_Run p l e R s m args below meth c H locs cells slots mc ms (F0 m pc ls st0) rest (va_Ql post B A1 a) (vx_X px BX AX) free) (hS : va_S A0 H0 H locs) (hA : ∀ q, q < H.size → A1 q → A0 q) (hf : ∀ q, free q → A0 q) (hAX : ∀ q, q < H.size → AX q → A0 q)
    (kx : ∀ (E : String) (ce : Cell) (q9 : Addr) (u : SX) (t : State) (H1 : Heap) (locs1 : List Loc), t.heap = H1 → s.vm.Alike t.vm → px u → BX E u t → H.size ≤ H1.size → (∀ q : Nat, q < H.size → ¬ AX q → H1[q]? = H[q]?) → va_S A0 H0 H1 locs1 → H1[q9]? = some ce → ce.vm = .none → s.vm.findClass E = some ce.cls → vx_W p l e R s m args below meth c H1 locs1 (cells + mc) (slots + ms) Q (F0 m pc ls rest) q9)
    (kk : ∀ (r : Int64) (u : S) (t : State) (H1 : Heap) (locs1 : List Loc), t.heap = H1 → s.vm.Alike t.vm → post r u → B u t → H.size ≤ H1.size → (∀ q : Nat, q < H.size → ¬ A1 q → H1[q]? = H[q]?) → va_S A0 H0 H1 locs1 → W p l e R s m args below meth c H1 locs1 (cells + mc) (slots + ms) Q (F0 m (pc + 3) ls (.long r :: rest))) : W p l e R s m args below meth c H locs cells slots Q (F0 m pc ls st0) := by
  intro T hT X
  rcases hr T hT X with ⟨v, st₀, t, T', L, h0, X', hL, e1, e2, ⟨⟨r, u, hv, hp, hb⟩, hF⟩, st⟩ | ⟨q, st₀, t, T', L, E, ce, h0, X', hL, e1, e2, ⟨u, hp, hb, hF⟩, hce, hcv, hcl, st⟩
  · cases hv
    obtain ⟨k1, k2, k3⟩ := vx_keep h0 e1 hS hA hf hL hF
    obtain ⟨t2, a1, b1⟩ := kk r u t T'.heap (locs ++ L) e1.symm (by rw [← e2]; exact X'.warmed.alike) hp hb k1 k2 k3 T' rfl X'
    exact ⟨t2, st t2 a1, b1⟩
  · obtain ⟨k1, k2, k3⟩ := vx_keep h0 e1 hS hAX hf hL hF
    obtain ⟨t2, a1, b1⟩ := kx E ce q u t T'.heap (locs ++ L) e1.symm (by rw [← e2]; exact X'.warmed.alike) hp hb k1 k2 k3 (by rw [e1]; exact hce) hcv hcl T' rfl X'
    exact ⟨t2, st.trans a1, b1⟩
theorem vx_callf {S SX : Type} {post : UInt32 → S → Prop} {px : SX → Prop} {B : S → State → Prop} {BX : String → SX → State → Prop} {AX : Nat → Prop} (hr : vx_Run p l e R s m args below meth c H locs cells slots mc ms (F0 m pc ls st0) rest (va_Qf post B A1 a) (vx_X px BX AX) free) (hS : va_S A0 H0 H locs) (hA : ∀ q, q < H.size → A1 q → A0 q) (hf : ∀ q, free q → A0 q) (hAX : ∀ q, q < H.size → AX q → A0 q)
    (kx : ∀ (E : String) (ce : Cell) (q9 : Addr) (u : SX) (t : State) (H1 : Heap) (locs1 : List Loc), t.heap = H1 → s.vm.Alike t.vm → px u → BX E u t → H.size ≤ H1.size → (∀ q : Nat, q < H.size → ¬ AX q → H1[q]? = H[q]?) → va_S A0 H0 H1 locs1 → H1[q9]? = some ce → ce.vm = .none → s.vm.findClass E = some ce.cls → vx_W p l e R s m args below meth c H1 locs1 (cells + mc) (slots + ms) Q (F0 m pc ls rest) q9)
    (kk : ∀ (r : UInt32) (u : S) (t : State) (H1 : Heap) (locs1 : List Loc), t.heap = H1 → s.vm.Alike t.vm → post r u → B u t → H.size ≤ H1.size → (∀ q : Nat, q < H.size → ¬ A1 q → H1[q]? = H[q]?) → va_S A0 H0 H1 locs1 → W p l e R s m args below meth c H1 locs1 (cells + mc) (slots + ms) Q (F0 m (pc + 3) ls (.float r :: rest))) : W p l e R s m args below meth c H locs cells slots Q (F0 m pc ls st0) := by
  intro T hT X
  rcases hr T hT X with ⟨v, st₀, t, T', L, h0, X', hL, e1, e2, ⟨⟨r, u, hv, hp, hb⟩, hF⟩, st⟩ | ⟨q, st₀, t, T', L, E, ce, h0, X', hL, e1, e2, ⟨u, hp, hb, hF⟩, hce, hcv, hcl, st⟩
  · cases hv
    obtain ⟨k1, k2, k3⟩ := vx_keep h0 e1 hS hA hf hL hF
    obtain ⟨t2, a1, b1⟩ := kk r u t T'.heap (locs ++ L) e1.symm (by rw [← e2]; exact X'.warmed.alike) hp hb k1 k2 k3 T' rfl X'
    exact ⟨t2, st t2 a1, b1⟩
  · obtain ⟨k1, k2, k3⟩ := vx_keep h0 e1 hS hAX hf hL hF
    obtain ⟨t2, a1, b1⟩ := kx E ce q u t T'.heap (locs ++ L) e1.symm (by rw [← e2]; exact X'.warmed.alike) hp hb k1 k2 k3 (by rw [e1]; exact hce) hcv hcl T' rfl X'
    exact ⟨t2, st.trans a1, b1⟩
theorem vx_calld {S SX : Type} {post : UInt64 → S → Prop} {px : SX → Prop} {B : S → State → Prop} {BX : String → SX → State → Prop} {AX : Nat → Prop} (hr : vx_Run p l e R s m args below meth c H locs cells slots mc ms (F0 m pc ls st0) rest (va_Qd post B A1 a) (vx_X px BX AX) free) (hS : va_S A0 H0 H locs) (hA : ∀ q, q < H.size → A1 q → A0 q) (hf : ∀ q, free q → A0 q) (hAX : ∀ q, q < H.size → AX q → A0 q)
    (kx : ∀ (E : String) (ce : Cell) (q9 : Addr) (u : SX) (t : State) (H1 : Heap) (locs1 : List Loc), t.heap = H1 → s.vm.Alike t.vm → px u → BX E u t → H.size ≤ H1.size → (∀ q : Nat, q < H.size → ¬ AX q → H1[q]? = H[q]?) → va_S A0 H0 H1 locs1 → H1[q9]? = some ce → ce.vm = .none → s.vm.findClass E = some ce.cls → vx_W p l e R s m args below meth c H1 locs1 (cells + mc) (slots + ms) Q (F0 m pc ls rest) q9)
    (kk : ∀ (r : UInt64) (u : S) (t : State) (H1 : Heap) (locs1 : List Loc), t.heap = H1 → s.vm.Alike t.vm → post r u → B u t → H.size ≤ H1.size → (∀ q : Nat, q < H.size → ¬ A1 q → H1[q]? = H[q]?) → va_S A0 H0 H1 locs1 → W p l e R s m args below meth c H1 locs1 (cells + mc) (slots + ms) Q (F0 m (pc + 3) ls (.double r :: rest))) : W p l e R s m args below meth c H locs cells slots Q (F0 m pc ls st0) := by
  intro T hT X
  rcases hr T hT X with ⟨v, st₀, t, T', L, h0, X', hL, e1, e2, ⟨⟨r, u, hv, hp, hb⟩, hF⟩, st⟩ | ⟨q, st₀, t, T', L, E, ce, h0, X', hL, e1, e2, ⟨u, hp, hb, hF⟩, hce, hcv, hcl, st⟩
  · cases hv
    obtain ⟨k1, k2, k3⟩ := vx_keep h0 e1 hS hA hf hL hF
    obtain ⟨t2, a1, b1⟩ := kk r u t T'.heap (locs ++ L) e1.symm (by rw [← e2]; exact X'.warmed.alike) hp hb k1 k2 k3 T' rfl X'
    exact ⟨t2, st t2 a1, b1⟩
  · obtain ⟨k1, k2, k3⟩ := vx_keep h0 e1 hS hAX hf hL hF
    obtain ⟨t2, a1, b1⟩ := kx E ce q u t T'.heap (locs ++ L) e1.symm (by rw [← e2]; exact X'.warmed.alike) hp hb k1 k2 k3 (by rw [e1]; exact hce) hcv hcl T' rfl X'
    exact ⟨t2, st.trans a1, b1⟩
theorem vx_callv {S SX : Type} {post : S → Prop} {px : SX → Prop} {B : S → State → Prop} {BX : String → SX → State → Prop} {AX : Nat → Prop} (hr : vx_Run p l e R s m args below meth c H locs cells slots mc ms (F0 m pc ls st0) rest (va_Qv post B A1 a) (vx_X px BX AX) free) (hS : va_S A0 H0 H locs) (hA : ∀ q, q < H.size → A1 q → A0 q) (hf : ∀ q, free q → A0 q) (hAX : ∀ q, q < H.size → AX q → A0 q)
    (kx : ∀ (E : String) (ce : Cell) (q9 : Addr) (u : SX) (t : State) (H1 : Heap) (locs1 : List Loc), t.heap = H1 → s.vm.Alike t.vm → px u → BX E u t → H.size ≤ H1.size → (∀ q : Nat, q < H.size → ¬ AX q → H1[q]? = H[q]?) → va_S A0 H0 H1 locs1 → H1[q9]? = some ce → ce.vm = .none → s.vm.findClass E = some ce.cls → vx_W p l e R s m args below meth c H1 locs1 (cells + mc) (slots + ms) Q (F0 m pc ls rest) q9)
    (kk : ∀ (u : S) (t : State) (H1 : Heap) (locs1 : List Loc), t.heap = H1 → s.vm.Alike t.vm → post u → B u t → H.size ≤ H1.size → (∀ q : Nat, q < H.size → ¬ A1 q → H1[q]? = H[q]?) → va_S A0 H0 H1 locs1 → W p l e R s m args below meth c H1 locs1 (cells + mc) (slots + ms) Q (F0 m (pc + 3) ls (rest))) : W p l e R s m args below meth c H locs cells slots Q (F0 m pc ls st0) := by
  intro T hT X
  rcases hr T hT X with ⟨v, st₀, t, T', L, h0, X', hL, e1, e2, ⟨⟨u, hv, hp, hb⟩, hF⟩, st⟩ | ⟨q, st₀, t, T', L, E, ce, h0, X', hL, e1, e2, ⟨u, hp, hb, hF⟩, hce, hcv, hcl, st⟩
  · cases hv
    obtain ⟨k1, k2, k3⟩ := vx_keep h0 e1 hS hA hf hL hF
    obtain ⟨t2, a1, b1⟩ := kk u t T'.heap (locs ++ L) e1.symm (by rw [← e2]; exact X'.warmed.alike) hp hb k1 k2 k3 T' rfl X'
    exact ⟨t2, st t2 a1, b1⟩
  · obtain ⟨k1, k2, k3⟩ := vx_keep h0 e1 hS hAX hf hL hF
    obtain ⟨t2, a1, b1⟩ := kx E ce q u t T'.heap (locs ++ L) e1.symm (by rw [← e2]; exact X'.warmed.alike) hp hb k1 k2 k3 (by rw [e1]; exact hce) hcv hcl T' rfl X'
    exact ⟨t2, st.trans a1, b1⟩
/-- caught by the row x of this method's table; the rows ahead don't take it -/
theorem vx_catch {own name : String} {E : String} {ce : Cell} {q : Addr} (hown : s.vm.findClass own = some m.cls) (pre : List ExceptionTableEntry) (x : ExceptionTableEntry) (suf : List ExceptionTableEntry) (hsplit : c.exceptionTable.toList = pre ++ x :: suf)
    (hpass : ∀ z ∈ pre, covers z pc = false ∨ (z.catchType ≠ 0 ∧ ∃ nm : String, (Cond.classLink own z.catchType nm).before args s = true ∧ va_Nc E nm s)) (hx : covers x pc = true) (h0 : x.catchType ≠ 0)
    (hlink : (Cond.classLink own x.catchType name).before args s = true) (hcast : (Cond.castable E name).before args s = true) (hcell : H[q]? = some ce) (hv : ce.vm = .none) (hcl : s.vm.findClass E = some ce.cls)
    (kk : W p l e R s m args below meth c H locs cells slots Q (F0 m x.handlerPc ls [.ref q])) : vx_W p l e R s m args below meth c H locs cells slots Q (F0 m pc ls rest) q := by
  intro T hT X
  have hpl : e.platform.magicAccessors = ({} : Platform).magicAccessors := by rw [X.admits.platform]
  obtain ⟨c3, c4, hc3, hc4, hasg⟩ := Cond.castable_spec hcast
  cases Option.some.inj (hc3.symm.trans hcl)
  obtain ⟨c5, hc5, hcl5⟩ := Cond.classLink_spec hown hlink e.platform hpl
  cases Option.some.inj (hc4.symm.trans hc5)
  obtain ⟨vm', X', st⟩ := X.thenCaughtThrough q (g := F0 m pc ls rest) rfl (Steps.refl _) (by rw [hT]; exact hcell) (by rw [hv]; rfl) (by obtain ⟨k9, h9, -⟩ := Vm.findClass_spec hcl; exact ⟨k9, h9⟩) pre x suf hsplit
    (fun z hz => by
      rcases hpass z hz with h | ⟨hz0, nm, hl1, hn1⟩
      · exact Or.inl h
      · obtain ⟨c6, hc6, hcl6⟩ := Cond.classLink_spec hown hl1 e.platform hpl
        obtain ⟨a8, b8, h1, h2, h3⟩ := hn1
        cases Option.some.inj (h1.symm.trans hcl)
        cases Option.some.inj (h2.symm.trans hc6)
        exact Or.inr ⟨hz0, _, hcl6, h3⟩) hx (Or.inr ⟨h0, c4, hcl5, hasg⟩)
  obtain ⟨t, a1, b1⟩ := kk (T.setVm vm') hT X'
  exact ⟨t, st.trans a1, b1⟩
end Rows
section Ends
variable {p : Program} {l : Launch} {e : Env} {R : Room} {s : State} {m : MethodId} {args : Array Value} {below : List Frame} {meth : Method} {c : Code} {H : Heap} {locs : List Loc} {cells slots : Nat} {Q : State → Prop}
variable {mc ms : Nat} {free : Addr → Prop} {A0 A1 : Nat → Prop} {H0 : Heap} {a : Array Value} {ls : Array Slot} {st0 rest : List Value}
variable {Qc : Array Value → State → Outcome → State → Prop} {XC : String → State → State → Prop}
/-- what a body that may throw owes at its end -/
def vx_MQ (below : List Frame) (Qc : Array Value → State → Outcome → State → Prop) (XC : String → State → State → Prop) (a : Array Value) (s : State) (mc ms : Nat) (free : Addr → Prop) : State → Prop := fun t =>
  ∃ o, t.status = .running ∧ Ended t below o ∧ vx_Q Qc XC mc ms free a s o t
theorem vx_ret {g : JFrame} {mc ms : Nat} (k : W p l e R s m args below meth c H locs cells slots (MQ below Qc args s mc ms free) g) : W p l e R s m args below meth c H locs cells slots (vx_MQ below Qc XC args s mc ms free) g := by
  intro T hT X
  obtain ⟨t, a1, o, b1, b2, b3, b4⟩ := k T hT X
  exact ⟨t, a1, o, b1, b2, Or.inl ⟨b3, b4⟩⟩
/-- not caught here: it goes on to the caller -/
theorem vx_widen {g : JFrame} {q : Addr} {k n : Nat} (h1 : cells ≤ k) (h2 : slots ≤ n) (kk : vx_W p l e R s m args below meth c H locs k n Q g q) : vx_W p l e R s m args below meth c H locs cells slots Q g q := fun T hT X => kk T hT (stand_widen X h1 h2)
theorem vx_out {pc : Nat} {E : String} {ce : Cell} {q : Addr} {mc ms : Nat} (hout : ∀ x ∈ c.exceptionTable.toList, covers x pc = false) (hlocks : meth.locks = false) (hcell : H[q]? = some ce) (hv : ce.vm = .none) (hcl : s.vm.findClass E = some ce.cls)
    (hx : ∀ t : State, t.heap = H → s.vm.Alike t.vm → XC E s t) (hf : ∀ z ∈ locs, free z.base) (hc : cells ≤ mc) (hs : slots ≤ ms) :
    vx_W p l e R s m args below meth c H locs cells slots (vx_MQ below Qc XC args s mc ms free) (F0 m pc ls rest) q := by
  intro T hT X
  obtain ⟨st1, hrun, hend, hW, hsm⟩ := X.leaveThrown q (g := F0 m pc ls rest) rfl rfl rfl hout hlocks
  have hcell9 : (T.setFrames (.throwing q :: below)).heap[q]? = some ce := by
    show T.heap[q]? = some ce
    rw [hT]; exact hcell
  exact ⟨_, st1, .threw q, hrun, hend, Or.inr ⟨q, rfl, E, ce, locs, hx _ hT hW.alike, hcell9, hv, hcl, hW, hsm.mono hc hs, hf⟩⟩
theorem vx_frame {U : State} {k n : Nat} (h : s.sameButNew ({ U with vm := s.vm } : State) locs k n) : s.heap.size ≤ U.heap.size ∧ ∀ q : Nat, q < s.heap.size → (∀ z ∈ locs, z.base ≠ q) → U.heap[q]? = s.heap[q]? := by
  obtain ⟨-, h2, -, -, -, h6⟩ := h
  refine ⟨h2, fun q hq hz => ?_⟩
  obtain ⟨c9, e1, e2, e3, e4⟩ := h6 q _ (Array.getElem?_eq_getElem hq)
  have hs : c9.slots = (s.heap[q]).slots := Array.ext_getElem? fun i => e4 i fun hm => hz _ hm rfl
  have h9 : c9 = s.heap[q] := by
    rw [hs] at e2
    exact e2
  have e5 : U.heap[q]? = some c9 := e1
  rw [e5, h9, Array.getElem?_eq_getElem hq]
/-- the words of a throw but the four that speak of the heap -/
def vx_no (w : Cond) : Bool := decide (w ≠ .isRef (.static Bundle.tN "UNASSIGNED_STACK" Bundle.steD)) && decide (w ≠ .isRef (.static Bundle.tN "SUPPRESSED_SENTINEL" Bundle.listD)) && decide (w ≠ .laysStatic Bundle.tN "UNASSIGNED_STACK" Bundle.steD) && decide (w ≠ .laysStatic Bundle.tN "SUPPRESSED_SENTINEL" Bundle.listD)
def vx_at0 (own : String) (ic : Nat) (X : String) (names : List String) : List Cond := (Bundle.ownAtoms0 own ic X names).filter vx_no
def vx_atS (own : String) (ic : Nat) (X : String) (names : List String) : List Cond := (Bundle.ownAtoms own ic X names).filter vx_no
/-- a word that the tables alone decide, or a good one -/
def vx_ot (w : Cond) : Bool := w.onTables || goodWord w
theorem vx_ot_at {args a' : Array Value} {s U : State} {w : Cond} (hW : s.WarmedH U.vm) (hvm : s.vm = U.vm) (hg : vx_ot w = true) (h : w.before args s = true) : w.before a' U = true := by
  simp only [vx_ot, Bool.or_eq_true] at hg
  rcases hg with hg | hg
  · exact va_tabs hg hvm h
  · exact word_at hW (good_of_word hg) h
/-- a list's words: the good ones out of the method's own list, the others by premises of their own -/
theorem vx_hat {args : Array Value} {s : State} {L B : List Cond} (h1 : ∀ w ∈ L.filter goodWord, w.before args s = true) (h2 : ∀ w ∈ L.filter (fun w => !goodWord w), w ∈ B) (h3 : ∀ w ∈ B, w.before args s = true) : ∀ w ∈ L, w.before args s = true := by
  intro w hw
  by_cases g : goodWord w = true
  · exact h1 w (List.mem_filter.mpr ⟨hw, g⟩)
  · refine h3 w (h2 w (List.mem_filter.mpr ⟨hw, ?_⟩))
    show (!goodWord w) = true
    cases hgw : goodWord w
    · rfl
    · exact absurd hgw g
theorem vx_c {args : Array Value} {s : State} {w : Cond} {B : List Cond} (h : w.before args s = true) (t : ∀ w ∈ B, w.before args s = true) : ∀ w' ∈ w :: B, w'.before args s = true := fun w' h' => (List.mem_cons.mp h').elim (fun e => by rw [e]; exact h) (t w')
theorem vx_n {args : Array Value} {s : State} : ∀ w ∈ ([] : List Cond), w.before args s = true := fun _ h => nomatch h
theorem vx_own {args : Array Value} {s : State} {L : List Cond} (h1 : ∀ w ∈ L.filter vx_no, w.before args s = true)
    (hU : (Cond.isRef (.static Bundle.tN "UNASSIGNED_STACK" Bundle.steD)).before args s = true) (hN : (Cond.isRef (.static Bundle.tN "SUPPRESSED_SENTINEL" Bundle.listD)).before args s = true)
    (lU : (Cond.laysStatic Bundle.tN "UNASSIGNED_STACK" Bundle.steD).before args s = true) (lN : (Cond.laysStatic Bundle.tN "SUPPRESSED_SENTINEL" Bundle.listD).before args s = true) : ∀ w ∈ L, w.before args s = true := by
  intro w hw
  by_cases e1 : w = .isRef (.static Bundle.tN "UNASSIGNED_STACK" Bundle.steD)
  · rw [e1]; exact hU
  · by_cases e2 : w = .isRef (.static Bundle.tN "SUPPRESSED_SENTINEL" Bundle.listD)
    · rw [e2]; exact hN
    · by_cases e3 : w = .laysStatic Bundle.tN "UNASSIGNED_STACK" Bundle.steD
      · rw [e3]; exact lU
      · by_cases e4 : w = .laysStatic Bundle.tN "SUPPRESSED_SENTINEL" Bundle.listD
        · rw [e4]; exact lN
        · exact h1 w (List.mem_filter.mpr ⟨hw, by unfold vx_no; rw [decide_eq_true e1, decide_eq_true e2, decide_eq_true e3, decide_eq_true e4]; rfl⟩)
/-- where a static field lies, its class's statics cell in H -/
def vx_L (C n d : String) (A : Nat → Prop) (U : State) (H : Heap) : Prop := ∃ (c : ClassId) (k : Class) (i : Nat) (f : Field) (a : Nat) (cell : Cell), U.vm.findClass C = some c ∧ U.fieldFound? C n d = some (c, k, i, f) ∧ f.isStatic = true ∧ k.statics = some a ∧ H[a]? = some cell ∧ cell.vm.isStatics = true ∧ cell.cls = c ∧ f.slot < cell.slots.size ∧ k.staticTypes[f.slot]? = some f.type ∧ ¬ A a
theorem vx_L.moved {C n d : String} {A : Nat → Prop} {u U : State} {H : Heap} (hvm : u.vm.Alike U.vm) (h : vx_L C n d A u H) : vx_L C n d A U H := by
  obtain ⟨c, k, i, f, a, cell, h1, h2, h3, h4, h5, h6, h7, h8, h9, h10⟩ := h
  obtain ⟨k', hi', he⟩ := State.fieldFound?_setVm hvm h2
  exact ⟨c, k', i, f, a, cell, by rw [hvm.findClass]; exact h1, hi', h3, by rw [he]; exact h4, h5, h6, h7, h8, by rw [he]; exact h9, h10⟩
theorem vx_L.kept {C n d : String} {A : Nat → Prop} {U : State} {H H1 : Heap} (h : vx_L C n d A U H) (hq : ∀ a : Nat, a < H.size → ¬ A a → H1[a]? = H[a]?) : vx_L C n d A U H1 := by
  obtain ⟨c, k, i, f, a, cell, h1, h2, h3, h4, h5, h6, h7, h8, h9, h10⟩ := h
  exact ⟨c, k, i, f, a, cell, h1, h2, h3, h4, by rw [hq a (Array.getElem?_eq_some_iff.mp h5).1 h10]; exact h5, h6, h7, h8, h9, h10⟩
theorem vx_L.narrow {C n d : String} {A B : Nat → Prop} {U : State} {H : Heap} (h : vx_L C n d A U H) (hAB : ∀ q, B q → A q) : vx_L C n d B U H := by
  obtain ⟨c, k, i, f, a, cell, h1, h2, h3, h4, h5, h6, h7, h8, h9, h10⟩ := h
  exact ⟨c, k, i, f, a, cell, h1, h2, h3, h4, h5, h6, h7, h8, h9, fun z => h10 (hAB _ z)⟩
theorem vx_L.word {C n d : String} {A : Nat → Prop} {s : State} {args : Array Value} (h : vx_L C n d A s s.heap) : (Cond.laysStatic C n d).before args s = true := by
  obtain ⟨c, k, i, f, a, cell, h1, h2, h3, h4, h5, h6, h7, h8, h9, -⟩ := h
  show (Cond.laysStatic C n d).holds args s none s [] = true
  exact Cond.laysStatic_of h1 h2 h3 h4 h5 h6 h7 h8 h9
/-- .. and what it holds: null or some reference -/
def vx_Zq (C n d : String) (A : Nat → Prop) (U : State) (H : Heap) : Prop := va_Zq C n d A U H ∧ vx_L C n d A U H
theorem vx_Zq.moved {C n d : String} {A : Nat → Prop} {u U : State} {H : Heap} (hvm : u.vm.Alike U.vm) (h : vx_Zq C n d A u H) : vx_Zq C n d A U H := ⟨va_Zq.moved hvm h.1, vx_L.moved hvm h.2⟩
theorem vx_Zq.kept {C n d : String} {A : Nat → Prop} {U : State} {H H1 : Heap} (h : vx_Zq C n d A U H) (hq : ∀ a : Nat, a < H.size → ¬ A a → H1[a]? = H[a]?) : vx_Zq C n d A U H1 := ⟨va_Zq.kept h.1 hq, vx_L.kept h.2 hq⟩
theorem vx_Zq.narrow {C n d : String} {A B : Nat → Prop} {U : State} {H : Heap} (h : vx_Zq C n d A U H) (hAB : ∀ q, B q → A q) : vx_Zq C n d B U H := ⟨va_Zq.narrow h.1 hAB, vx_L.narrow h.2 hAB⟩
theorem vx_Zqof {args : Array Value} {s : State} {C n d : String} {A : Nat → Prop} (hl : (Cond.laysStatic C n d).before args s = true) (hini : (Cond.initialized C).before args s = true) (h : (Cond.isRef (.static C n d)).before args s = true) (hA : ∀ a : Nat, a < s.heap.size → ¬ A a) : vx_Zq C n d A s s.heap := by
  refine ⟨va_Zqof hl hini h hA, ?_⟩
  obtain ⟨c, k, i, f, a, cell, h1, h2, h3, h4, h5, h6, h7, h8, h9⟩ := Cond.laysStatic_spec hl
  exact ⟨c, k, i, f, a, cell, h1, h2, h3, h4, h5, h6, h7, h8, h9, hA a (Array.getElem?_eq_some_iff.mp h5).1⟩
theorem vx_isRef {C n d : String} {v : Value} {A : Nat → Prop} {s : State} {args : Array Value} (h : va_Z C n d v A s s.heap) (hv : v.isRef = true) : (Cond.isRef (.static C n d)).before args s = true := by
  obtain ⟨cf, kf, fi, f, a, cell, h1, h2, h3, h4, h5, h6, h7, -⟩ := h
  have he : (Term.static C n d).eval args s none [] s = some v := by
    simp [Term.eval, State.fieldNamed?, h1, h2, h4, h5, h6, h7]
  simp only [Cond.before, Cond.holds, Cond.value, he]
  cases v <;> simp_all [Value.isRef]
theorem vx_isRefq {C n d : String} {A : Nat → Prop} {s : State} {args : Array Value} (h : va_Zq C n d A s s.heap) : (Cond.isRef (.static C n d)).before args s = true := by
  rcases h with h | ⟨t, h⟩
  · exact vx_isRef h rfl
  · exact vx_isRef h rfl
/-- the same frame, seen from here: as if the method were called anew in this heap -/
theorem vx_rebase {T : State} (X : Stand p l e R s m args below meth c T locs cells slots) {R' : Room} (hf : R'.frames ≤ R.frames) (hl : R'.locals ≤ R.locals) (hc : cells + R'.cells ≤ R.cells) (hs : slots + R'.slots ≤ R.slots) :
    Stand p l e R' ((T.setVm s.vm).setFrames (.invoking m args :: below)) m args below meth c T [] 0 0 := by
  have htop : (T.setVm s.vm).topJava?.isSome := X.here.top
  have hF : ((T.setVm s.vm).setFrames (.invoking m args :: below)).frames = .invoking m args :: below := State.frames_setFrames _ (State.cur_lt_of_top htop)
  obtain ⟨g₀, hg0⟩ := Option.isSome_iff_exists.mp htop
  obtain ⟨r, hr⟩ := State.topJava?_eq_some.mp hg0
  have hl9 : e.platform.stackLimits (T.setVm s.vm).me = e.platform.stackLimits s.me := X.limits
  have hb9 : (T.setVm s.vm).me.stackBytes = s.me.stackBytes := X.bytes
  refine ⟨X.admits, X.cas, X.clock, hF, ?_, X.hears, X.method, X.code, X.here, X.tail, X.warmed, ?_, ?_, ?_⟩
  · have h := X.room
    have hU : ((T.setVm s.vm).setFrames (.invoking m args :: below)).localsInUse = s.localsInUse := by
      rw [State.localsInUse_invoking hF (meth := meth) (c := c) X.method X.code, State.localsInUse_invoking X.frames X.method X.code]
    simp only [State.hasRoom, Bool.and_eq_true, decide_eq_true_eq] at h ⊢
    obtain ⟨⟨⟨⟨h1, h2, h3, h4, h5, h6⟩, h7⟩, h8⟩, h9⟩ := h
    rw [X.frames, List.length_cons] at h2 h3
    have q1 := X.heapSize
    have q2 := X.used
    simp only [hF, hU, List.length_cons, State.stackLimits_setFrames, State.stackBytes_setFrames, hl9, hb9]
    refine ⟨⟨⟨⟨by omega, by omega, by omega, by omega, by omega, h6⟩, ?_⟩, ?_⟩, X.book⟩
    · show T.heap.size + R'.cells ≤ e.platform.maxCells
      omega
    · show T.slotsUsed + R'.slots ≤ e.platform.maxSlots
      omega
  · rw [State.stackLimits_setFrames]; rfl
  · rw [State.stackBytes_setFrames]; rfl
  · refine ⟨?_, Nat.le_refl _, Nat.le_refl _, ?_, ?_, fun a c9 h9 => ⟨c9, h9, rfl, rfl, fun _ _ => rfl⟩⟩
    · obtain ⟨t, ht, -⟩ := State.frames_cons hr
      show T.setVm s.vm = { ((T.setVm s.vm).setFrames (.invoking m args :: below)).setFrames (T.setVm s.vm).frames with heap := T.heap, slotsUsed := T.slotsUsed }
      rw [State.setFrames_setFrames, State.setFrames_self ht]
      rfl
    · show T.slotsUsed = T.slotsUsed + ((T.heap.toList.drop T.heap.size).map (·.slots.size)).sum
      rw [List.drop_eq_nil_of_le (Nat.le_of_eq Array.length_toList)]
      rfl
    · show ((T.heap.toList.drop T.heap.size).map (·.slots.size)).sum ≤ 0
      rw [List.drop_eq_nil_of_le (Nat.le_of_eq Array.length_toList)]
      exact Nat.le_refl _
/-- 'throw new E()': new; dup; invokespecial; athrow -/
theorem vx_throw0 {cc : ByteArray} {pc : Nat} (hexec : p.tables.exec = Jvm.exec) (hb : c.code = cc) (hl : l.stackTraces = false) {own cls : String} {names : List String} {ik ic mc ms : Nat} {A : Nat → Prop}
    (hown : s.vm.findClass own = some m.cls) (hcls : Bundle.fit cls = true) (hnames : ∀ n ∈ names, Bundle.fit n = true)
    (hk : (Cond.classLink own ik cls).before args s = true) (hini : (Cond.initialized cls).before args s = true) (hat : ∀ w ∈ vx_at0 own ic cls names, w.before args s = true)
    (hgood : ∀ w ∈ Cond.classLink own ik cls :: Cond.initialized cls :: vx_at0 own ic cls names, vx_ot w = true)
    (hU : vx_Zq Bundle.tN "UNASSIGNED_STACK" Bundle.steD A s s.heap) (hN : vx_Zq Bundle.tN "SUPPRESSED_SENTINEL" Bundle.listD A s s.heap) (hS : va_S A s.heap H locs) (hsize : ls.size = c.maxLocals)
    (d0 : decode cc pc = .ok (.new ik, 3)) (d3 : decode cc (pc + 3) = .ok (.dup, 1)) (d4 : decode cc (pc + 4) = .ok (.invokespecial ic, 3)) (d7 : decode cc (pc + 7) = .ok (.athrow, 1))
    (hout : ∀ x ∈ c.exceptionTable.toList, covers x (pc + 7) = false)
    (hRframes : names.length + 3 < R.frames) (hRlocals : (rest.map fun v => v.category).sum + (13 * (names.length + 1) + 42) ≤ R.locals) (hRcells : cells + 1 ≤ R.cells) (hRslots : slots + 6 ≤ R.slots) (hlocks : meth.locks = false)
    (hx : ∀ t : State, s.vm.Alike t.vm → H.size ≤ t.heap.size → (∀ q : Nat, q < H.size → t.heap[q]? = H[q]?) → XC cls s t)
    (hf : ∀ z ∈ locs, free z.base) (hc : cells + 1 ≤ mc) (hs : slots + 6 ≤ ms) :
    W p l e R s m args below meth c H locs cells slots (vx_MQ below Qc XC args s mc ms free) (F0 m pc ls rest) := by
  intro T hT X
  have htr : e.platform.stackTraces = false := (show e.platform.stackTraces = l.stackTraces by rw [X.admits.platform]).trans hl
  have Y := vx_rebase X (R' := { frames := R.frames, locals := R.locals, cells := 1, slots := 6 }) (Nat.le_refl _) (Nat.le_refl _) hRcells hRslots
  obtain ⟨s', hA⟩ : ∃ z, z = (T.setVm s.vm).setFrames (.invoking m args :: below) := ⟨_, rfl⟩
  rw [← hA] at Y
  have hvm : s'.vm = s.vm := by rw [hA]; rfl
  have hhp : s'.heap = H := by rw [hA]; exact hT
  have hW0 : s.WarmedH s'.vm := by rw [hvm]; exact State.WarmedH.refl s
  have hat' : ∀ w ∈ vx_at0 own ic cls names, w.before args s' = true := fun w hw => vx_ot_at hW0 hvm.symm (hgood w (List.mem_cons_of_mem _ (List.mem_cons_of_mem _ hw))) (hat w hw)
  have hk' : (Cond.classLink own ik cls).before args s' = true := vx_ot_at hW0 hvm.symm (hgood _ List.mem_cons_self) hk
  have hini' : (Cond.initialized cls).before args s' = true := vx_ot_at hW0 hvm.symm (hgood _ (List.mem_cons_of_mem _ List.mem_cons_self)) hini
  have hU' : vx_Zq Bundle.tN "UNASSIGNED_STACK" Bundle.steD A s' s'.heap := by rw [hhp]; exact vx_Zq.moved hW0.alike (hU.kept hS.2.1)
  have hN' : vx_Zq Bundle.tN "SUPPRESSED_SENTINEL" Bundle.listD A s' s'.heap := by rw [hhp]; exact vx_Zq.moved hW0.alike (hN.kept hS.2.1)
  have h : ∀ w ∈ Bundle.ownAtoms0 own ic cls names, w.before args s' = true := vx_own hat' (vx_isRefq hU'.1) (vx_isRefq hN'.1) hU'.2.word hN'.2.word
  have hown' : s'.vm.findClass own = some m.cls := by rw [hvm]; exact hown
  have hins : (Cond.instantiable cls 6).before args s' = true := h _ (by simp [Bundle.ownAtoms0])
  obtain ⟨vm₁, cX, kX, hfX, hkX, -, -, X₁, st1⟩ := Y.newCold hexec (own := own) (C := cls) (index := ik) (n := 6) hown' hk' hins hini'
    (g := F0 m pc ls rest) rfl (by rw [hb]; exact d0) (Nat.le_refl _) (Nat.le_refl _)
  generalize hT1 : (T.setVm vm₁).pushCell { cls := cX, slots := kX.instanceTypes.map defaultValue, vm := .none } = T1 at X₁ st1
  have hcat : (Value.ref T.heap.size).category = 1 := rfl
  have hcellA : T1.heap[T.heap.size]? = some (freshCell cX kX) := by rw [← hT1]; exact State.heap_pushCell_size _ _
  have d3' : decode c.code (pc + 3) = .ok (.dup, 1) := by rw [hb]; exact d3
  obtain ⟨U, hsteps, hrun, hend, hW, hsame, ce, hce, hO⟩ := X₁.ctorThrow0 hexec htr (own := own) (cls := cls) (names := names) (ic := ic) hown' hcls hnames h (fun x hx => nomatch hx) hfX hkX hcellA (by rw [hhp, hT]; exact Nat.le_refl _)
    (g := { method := m, pc := pc + 4, locals := ls, stack := .ref T.heap.size :: .ref T.heap.size :: rest, locked := none }) rfl hsize rfl rfl (rest := rest) rfl
    (by rw [hb]; exact d4) (by rw [hb]; exact d7) hout hRframes (by simp only [List.map_cons, List.sum_cons, hcat]; omega) hlocks
  obtain ⟨f1, f2⟩ := vx_frame hsame
  rw [hhp] at f1 f2
  have hWs : s.WarmedH U.vm := State.WarmedH.trans hW0 hW
  have hcl : s.vm.findClass cls = some ce.cls := by
    have h9 := hO.cls
    rw [hvm] at h9
    exact h9
  have hall : s.sameButNew ({ U with vm := s.vm } : State) locs mc ms := by
    subst hA
    obtain ⟨e1, e2⟩ := hsame
    rw [State.setFrames_setFrames] at e1
    have h2 : (T.setVm s.vm).sameButNew ({ U with vm := s.vm } : State) [] (0 + 1) (0 + 6) := ⟨e1, e2⟩
    have h3 := X.same.trans h2
    rw [List.append_nil] at h3
    exact h3.mono hc hs
  refine ⟨U, ?_, .threw T.heap.size, hrun, hend, Or.inr ⟨T.heap.size, rfl, cls, ce, locs, hx U hWs.alike f1 (fun q hq => f2 q hq (fun z hz => nomatch hz)), hce, hO.vm, hcl, hWs, hall, hf⟩⟩
  refine st1 _ ?_
  show Steps p.tables e below (T1.setTop { method := m, pc := pc + 3, locals := ls, stack := .ref T.heap.size :: rest, locked := none }) _
  jvm_step X₁.here [X₁.here.top, hexec, d3', Value.category]
  exact hsteps
/-- 'throw new E("text")': new; dup; ldc; invokespecial; athrow -/
theorem vx_throwS {cc : ByteArray} {pc : Nat} (hexec : p.tables.exec = Jvm.exec) (hb : c.code = cc) (hl : l.stackTraces = false) {own cls text : String} {names : List String} {ik is ic mc ms sa : Nat} {A : Nat → Prop}
    (hown : s.vm.findClass own = some m.cls) (hcls : Bundle.fit cls = true) (hnames : ∀ n ∈ names, Bundle.fit n = true)
    (hk : (Cond.classLink own ik cls).before args s = true) (hini : (Cond.initialized cls).before args s = true) (hstr : vk_R own is text sa s) (hat : ∀ w ∈ vx_atS own ic cls names, w.before args s = true)
    (hgood : ∀ w ∈ Cond.classLink own ik cls :: Cond.initialized cls :: vx_atS own ic cls names, vx_ot w = true)
    (hU : vx_Zq Bundle.tN "UNASSIGNED_STACK" Bundle.steD A s s.heap) (hN : vx_Zq Bundle.tN "SUPPRESSED_SENTINEL" Bundle.listD A s s.heap) (hS : va_S A s.heap H locs) (hsize : ls.size = c.maxLocals)
    (d0 : decode cc pc = .ok (.new ik, 3)) (d3 : decode cc (pc + 3) = .ok (.dup, 1)) (d4 : decode cc (pc + 4) = .ok (.ldc is, 2)) (d6 : decode cc (pc + 6) = .ok (.invokespecial ic, 3)) (d9 : decode cc (pc + 9) = .ok (.athrow, 1))
    (hout : ∀ x ∈ c.exceptionTable.toList, covers x (pc + 9) = false)
    (hRframes : names.length + 3 < R.frames) (hRlocals : (rest.map fun v => v.category).sum + (13 * (names.length + 1) + 43) ≤ R.locals) (hRcells : cells + 1 ≤ R.cells) (hRslots : slots + 6 ≤ R.slots) (hlocks : meth.locks = false)
    (hx : ∀ t : State, s.vm.Alike t.vm → H.size ≤ t.heap.size → (∀ q : Nat, q < H.size → t.heap[q]? = H[q]?) → XC cls s t)
    (hf : ∀ z ∈ locs, free z.base) (hc : cells + 1 ≤ mc) (hs : slots + 6 ≤ ms) :
    W p l e R s m args below meth c H locs cells slots (vx_MQ below Qc XC args s mc ms free) (F0 m pc ls rest) := by
  intro T hT X
  have htr : e.platform.stackTraces = false := (show e.platform.stackTraces = l.stackTraces by rw [X.admits.platform]).trans hl
  have Y := vx_rebase X (R' := { frames := R.frames, locals := R.locals, cells := 1, slots := 6 }) (Nat.le_refl _) (Nat.le_refl _) hRcells hRslots
  obtain ⟨s', hA⟩ : ∃ z, z = (T.setVm s.vm).setFrames (.invoking m args :: below) := ⟨_, rfl⟩
  rw [← hA] at Y
  have hvm : s'.vm = s.vm := by rw [hA]; rfl
  have hhp : s'.heap = H := by rw [hA]; exact hT
  have hW0 : s.WarmedH s'.vm := by rw [hvm]; exact State.WarmedH.refl s
  have hat' : ∀ w ∈ vx_atS own ic cls names, w.before args s' = true := fun w hw => vx_ot_at hW0 hvm.symm (hgood w (List.mem_cons_of_mem _ (List.mem_cons_of_mem _ hw))) (hat w hw)
  have hk' : (Cond.classLink own ik cls).before args s' = true := vx_ot_at hW0 hvm.symm (hgood _ List.mem_cons_self) hk
  have hini' : (Cond.initialized cls).before args s' = true := vx_ot_at hW0 hvm.symm (hgood _ (List.mem_cons_of_mem _ List.mem_cons_self)) hini
  have hU' : vx_Zq Bundle.tN "UNASSIGNED_STACK" Bundle.steD A s' s'.heap := by rw [hhp]; exact vx_Zq.moved hW0.alike (hU.kept hS.2.1)
  have hN' : vx_Zq Bundle.tN "SUPPRESSED_SENTINEL" Bundle.listD A s' s'.heap := by rw [hhp]; exact vx_Zq.moved hW0.alike (hN.kept hS.2.1)
  have h : ∀ w ∈ Bundle.ownAtoms own ic cls names, w.before args s' = true := vx_own hat' (vx_isRefq hU'.1) (vx_isRefq hN'.1) hU'.2.word hN'.2.word
  have hown' : s'.vm.findClass own = some m.cls := by rw [hvm]; exact hown
  have hins : (Cond.instantiable cls 6).before args s' = true := h _ (by simp [Bundle.ownAtoms])
  obtain ⟨vm₁, cX, kX, hfX, hkX, -, -, X₁, st1⟩ := Y.newCold hexec (own := own) (C := cls) (index := ik) (n := 6) hown' hk' hins hini'
    (g := F0 m pc ls rest) rfl (by rw [hb]; exact d0) (Nat.le_refl _) (Nat.le_refl _)
  generalize hT1 : (T.setVm vm₁).pushCell { cls := cX, slots := kX.instanceTypes.map defaultValue, vm := .none } = T1 at X₁ st1
  have hcat : (Value.ref T.heap.size).category = 1 := rfl
  have hcellA : T1.heap[T.heap.size]? = some (freshCell cX kX) := by rw [← hT1]; exact State.heap_pushCell_size _ _
  have d3' : decode c.code (pc + 3) = .ok (.dup, 1) := by rw [hb]; exact d3
  have d4' : decode c.code (pc + 4) = .ok (.ldc is, 2) := by rw [hb]; exact d4
  have hstr' : vk_R own is text sa s' := vk_R.warm hW0 hstr
  obtain ⟨U, hsteps, hrun, hend, hW, hsame, ce, hce, hO⟩ := X₁.ctorThrowS hexec htr (own := own) (cls := cls) (names := names) (ic := ic) hown' hcls hnames h (fun x hx => nomatch hx) hfX hkX hcellA (by rw [hhp, hT]; exact Nat.le_refl _) (msg := .ref sa) rfl
    (g := { method := m, pc := pc + 6, locals := ls, stack := .ref sa :: .ref T.heap.size :: .ref T.heap.size :: rest, locked := none }) rfl hsize rfl rfl (rest := rest) rfl
    (by rw [hb]; exact d6) (by rw [hb]; exact d9) hout hRframes (by simp only [List.map_cons, List.sum_cons, hcat]; omega) hlocks
  obtain ⟨f1, f2⟩ := vx_frame hsame
  rw [hhp] at f1 f2
  have hWs : s.WarmedH U.vm := State.WarmedH.trans hW0 hW
  have hcl : s.vm.findClass cls = some ce.cls := by
    have h9 := hO.cls
    rw [hvm] at h9
    exact h9
  have hall : s.sameButNew ({ U with vm := s.vm } : State) locs mc ms := by
    subst hA
    obtain ⟨e1, e2⟩ := hsame
    rw [State.setFrames_setFrames] at e1
    have h2 : (T.setVm s.vm).sameButNew ({ U with vm := s.vm } : State) [] (0 + 1) (0 + 6) := ⟨e1, e2⟩
    have h3 := X.same.trans h2
    rw [List.append_nil] at h3
    exact h3.mono hc hs
  refine ⟨U, ?_, .threw T.heap.size, hrun, hend, Or.inr ⟨T.heap.size, rfl, cls, ce, locs, hx U hWs.alike f1 (fun q hq => f2 q hq (fun z hz => nomatch hz)), hce, hO.vm, hcl, hWs, hall, hf⟩⟩
  refine st1 _ ?_
  show Steps p.tables e below (T1.setTop { method := m, pc := pc + 3, locals := ls, stack := .ref T.heap.size :: rest, locked := none }) _
  jvm_step X₁.here [X₁.here.top, hexec, d3', Value.category]
  exact X₁.ldcString hexec (own := own) (text := text) (index := is) (a := sa) hown' hstr'.1 hstr'.2
    (g := { method := m, pc := pc + 4, locals := ls, stack := .ref T.heap.size :: .ref T.heap.size :: rest, locked := none }) rfl d4' _ hsteps
/-- 'throw new E("text")', the text by a wide index -/
theorem vx_throwSW {cc : ByteArray} {pc : Nat} (hexec : p.tables.exec = Jvm.exec) (hb : c.code = cc) (hl : l.stackTraces = false) {own cls text : String} {names : List String} {ik is ic mc ms sa : Nat} {A : Nat → Prop}
    (hown : s.vm.findClass own = some m.cls) (hcls : Bundle.fit cls = true) (hnames : ∀ n ∈ names, Bundle.fit n = true)
    (hk : (Cond.classLink own ik cls).before args s = true) (hini : (Cond.initialized cls).before args s = true) (hstr : vk_R own is text sa s) (hat : ∀ w ∈ vx_atS own ic cls names, w.before args s = true)
    (hgood : ∀ w ∈ Cond.classLink own ik cls :: Cond.initialized cls :: vx_atS own ic cls names, vx_ot w = true)
    (hU : vx_Zq Bundle.tN "UNASSIGNED_STACK" Bundle.steD A s s.heap) (hN : vx_Zq Bundle.tN "SUPPRESSED_SENTINEL" Bundle.listD A s s.heap) (hS : va_S A s.heap H locs) (hsize : ls.size = c.maxLocals)
    (d0 : decode cc pc = .ok (.new ik, 3)) (d3 : decode cc (pc + 3) = .ok (.dup, 1)) (d4 : decode cc (pc + 4) = .ok (.ldc_w is, 3)) (d7 : decode cc (pc + 7) = .ok (.invokespecial ic, 3)) (d10 : decode cc (pc + 10) = .ok (.athrow, 1))
    (hout : ∀ x ∈ c.exceptionTable.toList, covers x (pc + 10) = false)
    (hRframes : names.length + 3 < R.frames) (hRlocals : (rest.map fun v => v.category).sum + (13 * (names.length + 1) + 43) ≤ R.locals) (hRcells : cells + 1 ≤ R.cells) (hRslots : slots + 6 ≤ R.slots) (hlocks : meth.locks = false)
    (hx : ∀ t : State, s.vm.Alike t.vm → H.size ≤ t.heap.size → (∀ q : Nat, q < H.size → t.heap[q]? = H[q]?) → XC cls s t)
    (hf : ∀ z ∈ locs, free z.base) (hc : cells + 1 ≤ mc) (hs : slots + 6 ≤ ms) :
    W p l e R s m args below meth c H locs cells slots (vx_MQ below Qc XC args s mc ms free) (F0 m pc ls rest) := by
  intro T hT X
  have htr : e.platform.stackTraces = false := (show e.platform.stackTraces = l.stackTraces by rw [X.admits.platform]).trans hl
  have Y := vx_rebase X (R' := { frames := R.frames, locals := R.locals, cells := 1, slots := 6 }) (Nat.le_refl _) (Nat.le_refl _) hRcells hRslots
  obtain ⟨s', hA⟩ : ∃ z, z = (T.setVm s.vm).setFrames (.invoking m args :: below) := ⟨_, rfl⟩
  rw [← hA] at Y
  have hvm : s'.vm = s.vm := by rw [hA]; rfl
  have hhp : s'.heap = H := by rw [hA]; exact hT
  have hW0 : s.WarmedH s'.vm := by rw [hvm]; exact State.WarmedH.refl s
  have hat' : ∀ w ∈ vx_atS own ic cls names, w.before args s' = true := fun w hw => vx_ot_at hW0 hvm.symm (hgood w (List.mem_cons_of_mem _ (List.mem_cons_of_mem _ hw))) (hat w hw)
  have hk' : (Cond.classLink own ik cls).before args s' = true := vx_ot_at hW0 hvm.symm (hgood _ List.mem_cons_self) hk
  have hini' : (Cond.initialized cls).before args s' = true := vx_ot_at hW0 hvm.symm (hgood _ (List.mem_cons_of_mem _ List.mem_cons_self)) hini
  have hU' : vx_Zq Bundle.tN "UNASSIGNED_STACK" Bundle.steD A s' s'.heap := by rw [hhp]; exact vx_Zq.moved hW0.alike (hU.kept hS.2.1)
  have hN' : vx_Zq Bundle.tN "SUPPRESSED_SENTINEL" Bundle.listD A s' s'.heap := by rw [hhp]; exact vx_Zq.moved hW0.alike (hN.kept hS.2.1)
  have h : ∀ w ∈ Bundle.ownAtoms own ic cls names, w.before args s' = true := vx_own hat' (vx_isRefq hU'.1) (vx_isRefq hN'.1) hU'.2.word hN'.2.word
  have hown' : s'.vm.findClass own = some m.cls := by rw [hvm]; exact hown
  have hins : (Cond.instantiable cls 6).before args s' = true := h _ (by simp [Bundle.ownAtoms])
  obtain ⟨vm₁, cX, kX, hfX, hkX, -, -, X₁, st1⟩ := Y.newCold hexec (own := own) (C := cls) (index := ik) (n := 6) hown' hk' hins hini'
    (g := F0 m pc ls rest) rfl (by rw [hb]; exact d0) (Nat.le_refl _) (Nat.le_refl _)
  generalize hT1 : (T.setVm vm₁).pushCell { cls := cX, slots := kX.instanceTypes.map defaultValue, vm := .none } = T1 at X₁ st1
  have hcat : (Value.ref T.heap.size).category = 1 := rfl
  have hcellA : T1.heap[T.heap.size]? = some (freshCell cX kX) := by rw [← hT1]; exact State.heap_pushCell_size _ _
  have d3' : decode c.code (pc + 3) = .ok (.dup, 1) := by rw [hb]; exact d3
  have d4' : decode c.code (pc + 4) = .ok (.ldc_w is, 3) := by rw [hb]; exact d4
  have hstr' : vk_R own is text sa s' := vk_R.warm hW0 hstr
  obtain ⟨U, hsteps, hrun, hend, hW, hsame, ce, hce, hO⟩ := X₁.ctorThrowS hexec htr (own := own) (cls := cls) (names := names) (ic := ic) hown' hcls hnames h (fun x hx => nomatch hx) hfX hkX hcellA (by rw [hhp, hT]; exact Nat.le_refl _) (msg := .ref sa) rfl
    (g := { method := m, pc := pc + 7, locals := ls, stack := .ref sa :: .ref T.heap.size :: .ref T.heap.size :: rest, locked := none }) rfl hsize rfl rfl (rest := rest) rfl
    (by rw [hb]; exact d7) (by rw [hb]; exact d10) hout hRframes (by simp only [List.map_cons, List.sum_cons, hcat]; omega) hlocks
  obtain ⟨f1, f2⟩ := vx_frame hsame
  rw [hhp] at f1 f2
  have hWs : s.WarmedH U.vm := State.WarmedH.trans hW0 hW
  have hcl : s.vm.findClass cls = some ce.cls := by
    have h9 := hO.cls
    rw [hvm] at h9
    exact h9
  have hall : s.sameButNew ({ U with vm := s.vm } : State) locs mc ms := by
    subst hA
    obtain ⟨e1, e2⟩ := hsame
    rw [State.setFrames_setFrames] at e1
    have h2 : (T.setVm s.vm).sameButNew ({ U with vm := s.vm } : State) [] (0 + 1) (0 + 6) := ⟨e1, e2⟩
    have h3 := X.same.trans h2
    rw [List.append_nil] at h3
    exact h3.mono hc hs
  refine ⟨U, ?_, .threw T.heap.size, hrun, hend, Or.inr ⟨T.heap.size, rfl, cls, ce, locs, hx U hWs.alike f1 (fun q hq => f2 q hq (fun z hz => nomatch hz)), hce, hO.vm, hcl, hWs, hall, hf⟩⟩
  refine st1 _ ?_
  show Steps p.tables e below (T1.setTop { method := m, pc := pc + 3, locals := ls, stack := .ref T.heap.size :: rest, locked := none }) _
  jvm_step X₁.here [X₁.here.top, hexec, d3', Value.category]
  exact X₁.ldcStringW hexec (own := own) (text := text) (index := is) (a := sa) hown' hstr'.1 hstr'.2
    (g := { method := m, pc := pc + 4, locals := ls, stack := .ref T.heap.size :: .ref T.heap.size :: rest, locked := none }) rfl d4' _ hsteps
end Ends
section Bodies
variable {l : Launch}
theorem vx_ofW {y : MethodName} {ws ws' : List Cond} {rm : Room} {Pc : Array Value → State → Prop} {Qc : Array Value → State → Outcome → State → Prop} {XC : String → State → State → Prop} {mc ms : Nat} {free : Addr → Prop} {cc : ByteArray} {maxL : Nat} {ret : Option FieldType}
    (hy : plainName y.cls = true) (hw : ws = Cond.code y cc maxL ret :: ws')
    (body : ∀ p e s m args below meth c s₁, BodyLoose p l y (headSpec ws rm) cc maxL ret e s m args below meth c s₁ → c.maxLocals = maxL → (∀ x ∈ c.exceptionTable.toList, False) → Pc args s →
      W p l e (headSpec ws rm).room s m args below meth c s.heap [] 0 0 (vx_MQ below Qc XC args s mc ms free) (entryFrame m args maxL)) : vx_Met l y ws rm Pc Qc XC mc ms free := by
  refine MetFree.of_bodyS (code := cc) (maxLocals := maxL) (ret := ret) hy ?_ ?_
  · intro args s m h hn
    obtain ⟨meth, c, h1, h2, h3, h4, h5, h6, -, -⟩ := Cond.code_spec hn (atoms_spec (ws := ws) h _ (by rw [hw]; exact List.mem_cons_self))
    exact ⟨meth, c, h1, h2, h3, h4, h5, h6⟩
  · intro p e s m args below meth c s₁ B hml hP _
    have hh0 : s₁.heap = s.heap := by rw [B.state]; rfl
    have ht : ∀ x ∈ c.exceptionTable.toList, False := by
      obtain ⟨meth9, c9, h1, h2, -, -, -, -, h7, -⟩ := Cond.code_spec B.named (atoms_spec (ws := ws) B.pre _ (by rw [hw]; exact List.mem_cons_self))
      cases Option.some.inj (h1.symm.trans B.method)
      cases Option.some.inj (h2.symm.trans (Stand.of_body B).code)
      intro x hx
      rw [Array.isEmpty_iff.mp h7] at hx
      cases hx
    obtain ⟨t, a1, o, b1, b2, b3⟩ := body p e s m args below meth c s₁ B hml ht hP s₁ hh0 (Stand.of_body B)
    exact ⟨t, o, a1, b1, b2, b3⟩
/-- the table of a body with handlers -/
theorem vx_table {p : Program} {x y : MethodName} {S : Spec} {cc bytes : ByteArray} {maxL maxL' : Nat} {ret ret' : Option FieldType} {e : Env} {s s₁ : State} {m : MethodId} {args : Array Value} {below : List Frame} {meth : Method} {c : Code} {hh : List (Nat × Nat × Nat × Nat)}
    (B : BodyLoose p l y S cc maxL ret e s m args below meth c s₁) (h : (Cond.codeWith y bytes maxL' ret' hh).before args s = true) : c.exceptionTable.toList = tableOf hh := by
  obtain ⟨m9, meth9, c9, hn9, h1, h2, -, -, h6, -⟩ := Cond.codeWith_spec h
  cases Option.some.inj (hn9.symm.trans B.named)
  cases Option.some.inj (h1.symm.trans B.method)
  cases Option.some.inj (h2.symm.trans (Stand.of_body B).code)
  rw [← h6, table_eq]
end Bodies
end VXA
/-! ===== END ===== -/
/-! ===== BEGIN a static call of a method with an exception table ===== -/
section VXS
variable {p : Program} {l : Launch} {e : Env} {R : Room} {s : State} {m : MethodId} {args : Array Value} {below : List Frame} {meth : Method} {c : Code} {T : State} {H : Heap} {locs : List Loc} {cells slots : Nat}
abbrev vx_CSW (R : Room) (s : State) (args : Array Value) (own : String) (index : Nat) (y : MethodName) (bytes : ByteArray) (maxL : Nat) (ret : Option FieldType) (hh : List (Nat × Nat × Nat × Nat)) (ws : List Cond) (rm : Room) (mc ms n : Nat) : Prop :=
  (rm.cells = mc ∧ rm.slots = ms ∧ rm.frames + 1 ≤ R.frames ∧ 8 + (maxL + 11) + rm.locals ≤ R.locals ∧ (∀ w ∈ ws, ∀ (a' : Array Value) (U : State), s.WarmedH U.vm → w.before a' U = true) ∧ Cond.codeWith y bytes maxL ret hh ∈ ws) ∧
  (Cond.codeWith y bytes maxL ret hh).before args s = true ∧ (Cond.initialized y.cls).before args s = true ∧ (y.cls ≠ "java/lang/invoke/MethodHandle" ∧ y.cls ≠ "java/lang/invoke/VarHandle") ∧
  (∀ sig, parseMethodDescriptor y.desc = some sig → n = sig.parameters.length) ∧ (Cond.methodLink own index y).before args s = true ∧ (Cond.static y).before args s = true
theorem vx_cwSW {own : String} {index maxL mc ms : Nat} {y : MethodName} {bytes : ByteArray} {ret : Option FieldType} {hh : List (Nat × Nat × Nat × Nat)} {Ts ws ws' : List Cond} {rm : Room} (n : Nat) (ht : ∀ w ∈ Ts, w.before args s = true) (hT : GoodIn Ts (va_wsS own index y ws)) (hw : ws = Cond.codeWith y bytes maxL ret hh :: ws') (hrc : rm.cells = mc) (hrs : rm.slots = ms)
    (hd : y.cls ≠ "java/lang/invoke/MethodHandle" ∧ y.cls ≠ "java/lang/invoke/VarHandle" ∧ (parseMethodDescriptor y.desc).map (fun d => d.parameters.length) = some n) (hR : rm.frames + 1 ≤ R.frames ∧ 8 + (maxL + 11) + rm.locals ≤ R.locals) :
    vx_CSW R s args own index y bytes maxL ret hh ws rm mc ms n := by
  have ok : ∀ w ∈ va_wsS own index y ws, w.before args s = true := fun w h => ht w (hT w h).1
  have hG : GoodIn Ts ws := fun w h => hT w (by unfold va_wsS; exact List.mem_append_right _ h)
  have hc : Cond.codeWith y bytes maxL ret hh ∈ ws := by rw [hw]; exact List.mem_cons_self
  refine ⟨⟨hrc, hrs, hR.1, hR.2, pay_in ht hG, hc⟩, ht _ (hG _ hc).1, ok _ (by simp [va_wsS]), ⟨hd.1, hd.2.1⟩, fun sig h => ?_, ok _ (by simp [va_wsS]), ok _ (by simp [va_wsS])⟩
  have h2 := hd.2.2
  rw [h] at h2
  exact (Option.some.inj h2).symm
theorem vx_callSW (X : Stand p l e R s m args below meth c T locs cells slots) (hexec : p.tables.exec = Jvm.exec) {own : String} {index : Nat} {y : MethodName} {bytes : ByteArray} {maxL : Nat} {ret : Option FieldType} {hh : List (Nat × Nat × Nat × Nat)}
    (hown : s.vm.findClass own = some m.cls) (hlink : (Cond.methodLink own index y).before args s = true) (hstat : (Cond.static y).before args s = true) (hinit : (Cond.initialized y.cls).before args s = true)
    (hcode : (Cond.codeWith y bytes maxL ret hh).before args s = true) (hy : y.cls ≠ "java/lang/invoke/MethodHandle" ∧ y.cls ≠ "java/lang/invoke/VarHandle")
    {W9 : Nat} {Pre : Pt → Array Value → Prop} {Post : Pt → Array Value → Option Value → Pt → Prop} (hK : Back l R p e below s args y 3 W9 Pre Post)
    {g : JFrame} (hg : g.method = m) (hsize : g.locals.size = c.maxLocals) {argsL rest : List Value} (hlen : ∀ sig, parseMethodDescriptor y.desc = some sig → argsL.length = sig.parameters.length)
    (hstack : g.stack = argsL.reverse ++ rest) (hW : 2 * g.monitorRoom + (rest.map fun v => v.category).sum ≤ W9) (hdg : decode c.code g.pc = .ok (.invokestatic index, 3))
    (hpre : ∀ vm₁, s.WarmedH vm₁ → Pre ⟨T.setVm vm₁, locs, cells, slots⟩ argsL.toArray) :
    ∃ (v : Option Value) (vm₁ : Vm) (B : Pt), s.WarmedH vm₁ ∧ Stand p l e R s m args below meth c B.U B.locs B.cells B.slots ∧ Post ⟨T.setVm vm₁, locs, cells, slots⟩ argsL.toArray v B ∧
      ∀ target, Steps p.tables e below (B.U.setTop { g with pc := g.pc + 3, stack := v.toList ++ rest }) target → Steps p.tables e below (T.setTop g) target := by
  obtain ⟨mk, methM, cM, hnamed, hmethM, -, -, -, -, -, -, hsigM⟩ := Cond.codeWith_spec hcode
  have hstatic : methM.isStatic = true := Cond.static_spec hnamed hmethM hstat
  obtain ⟨kP, hkP, -⟩ := className_of_methodNamed hnamed
  have hinitP : kP.init = .initialized := Cond.initialized_spec (findClass_of_methodNamed hnamed) hkP hinit
  obtain ⟨vm₁, X₁, hstep₁⟩ := X.invokestatic hexec hown hlink hnamed hmethM hstatic hkP hinitP hy (g := g) hg (argsL := argsL) (rest := rest) (hlen _ hsigM) hstack hdg
  obtain ⟨v, B, X', hpost, hsteps⟩ := hK m meth c ⟨T.setVm vm₁, locs, cells, slots⟩ { g with stack := rest } (.invokestatic index) mk argsL.toArray X₁ hg hsize hdg hW (X₁.named hnamed) (hpre vm₁ X₁.warmed)
  exact ⟨v, vm₁, B, X₁.warmed, X', hpost, fun target h => hstep₁ _ fun acts => by rw [doInvoke_state]; exact hsteps.trans h⟩
theorem vx_runSW {y : MethodName} {bytes cc : ByteArray} {maxL nL mc ms n index : Nat} {ret : Option FieldType} {hh : List (Nat × Nat × Nat × Nat)} {ws : List Cond} {rm : Room} {Pc : Array Value → State → Prop} {Qc : Array Value → State → Outcome → State → Prop} {free : Addr → Prop} {Ts : List Cond} {own : String} {As rest : List Value} {g : JFrame}
    (S : CallFix p m c cc nL s args Ts own) (hM : Met l y ws rm Pc Qc mc ms free) (cw : vx_CSW R s args own index y bytes maxL ret hh ws rm mc ms n) (hp : PreS s H Pc As)
    (hg : g.method = m) (hn : As.length = n) (hsize : g.locals.size = nL) (hstack : g.stack = As.reverse ++ rest) (hW : 2 * g.monitorRoom + (rest.map fun v => v.category).sum ≤ 8) (hdg : decode cc g.pc = .ok (.invokestatic index, 3)) (hf : cells + mc ≤ R.cells ∧ slots + ms ≤ R.slots) :
    va_Run p l e R s m args below meth c H locs cells slots mc ms g rest (Qc As.toArray) (free) := by
  obtain ⟨⟨hrc, hrs, hfr, hlo, hws, hcw⟩, hcode, hini, hy, hlen, hl, hstt⟩ := cw
  have hK : Back l R p e below s args y 3 8 (PreOf R mc ms Pc) (PostOf Qc mc ms free) := va_backW (hh := hh) (bytes := bytes) (maxL := maxL) (ret := ret) hM hp.1 hrc hrs hfr hlo hws hcw (fun a' U hW => word_at hW (Or.inl (by first | rfl | simp [Cond.onTables, Cond.keeps, Cond.steady])) hini)
  obtain ⟨hx, hb, hml, ho, -⟩ := S
  intro T hT X
  obtain ⟨v, vm₁, ⟨U', l2, c2, s2⟩, hW₁, X', ⟨g', mk, t, L, e1, e2, hq, h1, hL, h2, h3⟩, st⟩ := vx_callSW X hx (hh := hh) (bytes := bytes) (maxL := maxL) (ret := ret) ho hl hstt hini hcode hy hK hg (hsize.trans hml.symm) (argsL := As) (rest := rest) (fun sig h => hn.trans (hlen sig h)) hstack hW (by rw [hb]; exact hdg)
    (fun vm₁ hW₁ => ⟨hf.1, hf.2, hp.2 (T.setVm vm₁) hT hW₁⟩)
  dsimp only [Pt.U, Pt.locs, Pt.cells, Pt.slots] at X' e1 e2 h1 h2 h3 st
  subst h1; subst h2; subst h3
  exact ⟨v, (T.setVm vm₁).calling g' mk As.toArray, t, U', L, hT, X', hL, e1, e2, hq, st⟩
/-- not caught here, past rows that name other classes: it goes on to the caller -/
theorem vx_outP {p : Program} {l : Launch} {e : Env} {R : Room} {s : State} {m : MethodId} {args : Array Value} {below : List Frame} {meth : Method} {c : Code} {H : Heap} {locs : List Loc} {cells slots : Nat} {free : Addr → Prop} {ls : Array Slot} {rest : List Value} {Qc : Array Value → State → Outcome → State → Prop} {XC : String → State → State → Prop}
    {pc : Nat} {own E : String} {ce : Cell} {q : Addr} {mc ms : Nat} (hown : s.vm.findClass own = some m.cls) (hlocks : meth.locks = false)
    (hpass : ∀ z ∈ c.exceptionTable.toList, covers z pc = false ∨ (z.catchType ≠ 0 ∧ ∃ nm : String, (Cond.classLink own z.catchType nm).before args s = true ∧ va_Nc E nm s)) (hcell : H[q]? = some ce) (hv : ce.vm = .none) (hcl : s.vm.findClass E = some ce.cls)
    (hx : ∀ t : State, t.heap = H → s.vm.Alike t.vm → XC E s t) (hf : ∀ z ∈ locs, free z.base) (hc : cells ≤ mc) (hs : slots ≤ ms) :
    vx_W p l e R s m args below meth c H locs cells slots (vx_MQ below Qc XC args s mc ms free) (F0 m pc ls rest) q := by
  intro T hT X
  have hpl : e.platform.magicAccessors = ({} : Platform).magicAccessors := by rw [X.admits.platform]
  obtain ⟨vm', hW', X', st⟩ := X.outThrough hlocks q (g := F0 m pc ls rest) rfl rfl rfl (cell := ce) (by rw [hT]; exact hcell) (by rw [hv]; rfl)
    (by obtain ⟨k9, h9, -⟩ := Vm.findClass_spec hcl; exact ⟨k9, h9⟩) (fun z hz => by
      rcases hpass z hz with h | ⟨hz0, nm, hl1, hn1⟩
      · exact Or.inl h
      · obtain ⟨c6, hc6, hcl6⟩ := Cond.classLink_spec hown hl1 e.platform hpl
        obtain ⟨a8, b8, h1, h2, h3⟩ := hn1
        cases Option.some.inj (h1.symm.trans hcl)
        cases Option.some.inj (h2.symm.trans hc6)
        exact Or.inr ⟨hz0, _, hcl6, h3⟩)
  obtain ⟨g₀, hfr⟩ := X'.frames_eq
  have hcell9 : ((T.setVm vm').setFrames (.throwing q :: below)).heap[q]? = some ce := by
    show T.heap[q]? = some ce
    rw [hT]; exact hcell
  have hend : Ended ((T.setVm vm').setFrames (.throwing q :: below)) below (.threw q) := State.frames_setFrames _ (State.cur_lt_of_frames hfr)
  refine ⟨(T.setVm vm').setFrames (.throwing q :: below), ?_, .threw q, X'.here.running, hend, Or.inr ⟨q, rfl, E, ce, locs, hx _ hT (X'.ends _).1.alike, hcell9, hv, hcl, (X'.ends _).1, (X'.ends _).2.mono hc hs, hf⟩⟩
  rw [X.pushThrowing_eq]
  exact st
/-- a thing of a world lies in the heap -/
theorem vx_lt {D : va_G} {cl : List vw_C} {ws : va_W} {H1 : Heap} (h : va_P D cl ws H1) {k : Nat} {q : Nat × va_E} (hk : ws[k]? = some q) : q.1 < H1.size := (h k q hk).lt
end VXS
/-! ===== END ===== -/
/-! ===== BEGIN methods with a table of their own: called by a name, returning or throwing ===== -/
section VXH
/-! vx_backW, vx_callVX, vx_callSX, vx_callVW, vx_runVW, vx_runVX, vx_runSX, vx_ofWH follow the same proofs as their sisters above (Free/Laws.lean, Shelf42/LK1.lean); vx_outP calls Shelf42/NT130.lean (outThrough). -/
section
variable {l : Launch} {R : Room} {p : Program} {e : Env} {below : List Frame} {s : State} {sargs : Array Value} {y : MethodName} {len W9 : Nat}
theorem vx_backW {ws : List Cond} {rm : Room} {Pc : Array Value → State → Prop} {Qc : Array Value → State → Outcome → State → Prop} {XC : String → State → State → Prop} {mc ms : Nat} {free : Addr → Prop} {bytes : ByteArray} {maxL : Nat} {ret : Option FieldType} {hh : List (Nat × Nat × Nat × Nat)}
    (hM : vx_Met l y ws rm Pc Qc XC mc ms free) (hblind : FrameBlind Pc) (hrc : rm.cells = mc) (hrs : rm.slots = ms)
    (hframes : rm.frames + 1 ≤ R.frames) (hlocals : W9 + (maxL + 11) + rm.locals ≤ R.locals)
    (hws : ∀ w ∈ ws, ∀ a' U, s.WarmedH U.vm → w.before a' U = true) (hcode : Cond.codeWith y bytes maxL ret hh ∈ ws) (hinit : ∀ a' U, s.WarmedH U.vm → (Cond.initialized y.cls).before a' U = true) :
    vx_Back l R p e below s sargs y len W9 (PreOf R mc ms Pc) (PostOf Qc mc ms free) (vx_Post XC mc ms free) := by
  intro m meth c A g ig mk a X hg hsize hdg hW hn hp
  have h1 : (headSpec ws rm).pre.before a A.U = true := atoms_intro fun w hw => hws w hw _ _ X.warmed
  have h2 : (Cond.codeWith y bytes maxL ret hh).before a A.U = true := hws _ hcode _ _ X.warmed
  have h3 : (Cond.initialized y.cls).before a A.U = true := hinit _ _ X.warmed
  have h4 : A.cells + (headSpec ws rm).room.cells ≤ R.cells := by rw [show (headSpec ws rm).room.cells = mc from hrc]; exact hp.1
  have h5 : A.slots + (headSpec ws rm).room.slots ≤ R.slots := by rw [show (headSpec ws rm).room.slots = ms from hrs]; exact hp.2.1
  have hPc : Pc a (A.U.calling g mk a) := hblind _ _ _ _ hp.2.2
  obtain ⟨U, Ls, c0, s0⟩ := A
  dsimp only [Pt.U, Pt.locs, Pt.cells, Pt.slots] at h1 h2 h3 h4 h5 X hn hPc ⊢
  obtain ⟨m9, methY, cY, hn9, hmY, hcY, -, hlY, -⟩ := Cond.codeWith_spec h2
  cases Option.some.inj (hn9.symm.trans hn)
  obtain ⟨kY, hkY, -⟩ := className_of_methodNamed hn
  have hinitY : kY.init = .initialized := Cond.initialized_spec (findClass_of_methodNamed hn) hkY h3
  have h : At U g.method c below := by rw [hg]; exact X.here
  have hlocals9 : W9 + (maxL + 11) + (headSpec ws rm).room.locals ≤ R.locals := hlocals
  have happ : (headSpec ws rm).appliesLoose y e.platform (U.calling g mk a) = true :=
    Spec.appliesLoose_calling (g := g) h hdg hn hkY hinitY
      (X.room_calling (g := g) (R' := (headSpec ws rm).room) hsize hmY hcY hframes (by rw [hlY]; omega) h4 h5) h1
  obtain ⟨mid, hmid⟩ := h.above
  have hfr : (U.setTop g).frames = (.java g :: mid) ++ below := by rw [State.frames_setTop' g h.top, hmid]; rfl
  obtain ⟨o, s₂, hsteps, -, hend, hq⟩ := Steps.callFree hM p X.admits X.cas X.clock (acts := []) hfr happ hPc trivial
  have hq' : vx_Q Qc XC mc ms free a (U.calling g mk a) o s₂ := hq
  rw [State.frames_setTop' g h.top] at hend
  obtain ⟨g₀, hg0⟩ := Option.isSome_iff_exists.mp h.top
  obtain ⟨r, hr⟩ := State.topJava?_eq_some.mp hg0
  have hr' : (({ U with heap := s₂.heap, slotsUsed := s₂.slotsUsed } : State).setVm s₂.vm).frames = .java g₀ :: r := hr
  rcases hq' with ⟨hqc, L, hfe, hL⟩ | ⟨q, rfl, E, ce, L, hx, hce, hcv, hcl, hW₂, hsm, hL⟩
  · obtain ⟨⟨v, rfl⟩, hW₂, e2, q2, q3, q4, q5, q6⟩ := id hfe
    have e3 : s₂ = ({ (U.calling g mk a).setFrames s₂.frames with heap := s₂.heap, slotsUsed := s₂.slotsUsed } : State).setVm s₂.vm := by
      have : s₂ = ({ s₂ with vm := (U.calling g mk a).vm } : State).setVm s₂.vm := rfl
      rw [e2] at this
      exact this
    obtain ⟨c₂, i₂, len₂, hc₂, hd₂, hf₂⟩ := hend
    have hW' : U.WarmedH s₂.vm := hW₂
    have hcc : c₂ = c := by
      have h1 : s₂.code? g.method = U.code? g.method := by
        rw [State.code?_eq, State.code?_eq, hW'.alike.method?]
      exact Option.some.inj (hc₂.symm.trans (h1.trans h.code))
    subst hcc
    have hlen : len₂ = len := by rw [hdg] at hd₂; cases hd₂; rfl
    subst hlen
    have hs₂ : s₂ = (({ U with heap := s₂.heap, slotsUsed := s₂.slotsUsed } : State).setVm s₂.vm).setTop { g with pc := g.pc + len₂, stack := v.toList ++ g.stack } := by
      refine e3.trans ?_
      rw [hf₂, State.calling_eq h.top, State.setFrames_setFrames, State.setTop_of_frames _ hr', hr]
      rfl
    have hsame : U.sameButNew ({ U with heap := s₂.heap, slotsUsed := s₂.slotsUsed } : State) L mc ms := by
      refine ⟨?_, q2, q3, q4, q5, q6⟩
      obtain ⟨t, ht, -⟩ := State.frames_cons hr
      show ({ U with heap := s₂.heap, slotsUsed := s₂.slotsUsed } : State) = { U.setFrames U.frames with heap := s₂.heap, slotsUsed := s₂.slotsUsed }
      rw [State.setFrames_self ht]
    subst hg
    refine Or.inl ⟨v, ⟨(({ U with heap := s₂.heap, slotsUsed := s₂.slotsUsed } : State).setVm s₂.vm), Ls ++ L, c0 + mc, s0 + ms⟩,
      ⟨X.admits, X.cas, X.clock, X.frames, X.room, X.hears, X.method, X.code, (X.here.setHeapUsed s₂.heap s₂.slotsUsed).setVm hW'.alike, X.tail, State.WarmedH.trans X.warmed hW', X.limits, X.bytes, X.same.trans (hsame.setVm s.vm)⟩,
      ⟨g, mk, s₂, L, rfl, rfl, hqc, rfl, hL, rfl, rfl⟩, ?_⟩
    show Steps p.tables e below _ ((({ U with heap := s₂.heap, slotsUsed := s₂.slotsUsed } : State).setVm s₂.vm).setTop { g with pc := g.pc + len₂, stack := v.toList ++ g.stack })
    rw [← hs₂]
    exact hsteps
  · obtain ⟨e2, q2, q3, q4, q5, q6⟩ := id hsm
    have e3 : s₂ = ({ (U.calling g mk a).setFrames s₂.frames with heap := s₂.heap, slotsUsed := s₂.slotsUsed } : State).setVm s₂.vm := by
      have : s₂ = ({ s₂ with vm := (U.calling g mk a).vm } : State).setVm s₂.vm := rfl
      rw [e2] at this
      exact this
    have hf₂ : s₂.frames = .throwing q :: .java g :: U.frames.tail := hend
    have hW' : U.WarmedH s₂.vm := hW₂
    have hs₂ : s₂ = ((({ U with heap := s₂.heap, slotsUsed := s₂.slotsUsed } : State).setVm s₂.vm).setTop g).pushFrame (.throwing q) := by
      refine e3.trans ?_
      rw [hf₂, State.calling_eq h.top, State.setFrames_setFrames, State.pushFrame, State.frames_setTop _ hr', State.setTop_of_frames _ hr', State.setFrames_setFrames, hr]
      rfl
    have hsame : U.sameButNew ({ U with heap := s₂.heap, slotsUsed := s₂.slotsUsed } : State) L mc ms := by
      refine ⟨?_, q2, q3, q4, q5, q6⟩
      obtain ⟨t, ht, -⟩ := State.frames_cons hr
      show ({ U with heap := s₂.heap, slotsUsed := s₂.slotsUsed } : State) = { U.setFrames U.frames with heap := s₂.heap, slotsUsed := s₂.slotsUsed }
      rw [State.setFrames_self ht]
    subst hg
    refine Or.inr ⟨q, ⟨(({ U with heap := s₂.heap, slotsUsed := s₂.slotsUsed } : State).setVm s₂.vm), Ls ++ L, c0 + mc, s0 + ms⟩,
      ⟨X.admits, X.cas, X.clock, X.frames, X.room, X.hears, X.method, X.code, (X.here.setHeapUsed s₂.heap s₂.slotsUsed).setVm hW'.alike, X.tail, State.WarmedH.trans X.warmed hW', X.limits, X.bytes, X.same.trans (hsame.setVm s.vm)⟩,
      ⟨g, mk, s₂, L, E, ce, rfl, rfl, hx, hce, hcv, hcl, rfl, hL, rfl, rfl⟩, ?_⟩
    show Steps p.tables e below _ (((({ U with heap := s₂.heap, slotsUsed := s₂.slotsUsed } : State).setVm s₂.vm).setTop g).pushFrame (.throwing q))
    rw [← hs₂]
    exact hsteps
end
variable {p : Program} {l : Launch} {e : Env} {R : Room} {s : State} {m : MethodId} {args : Array Value} {below : List Frame} {meth : Method} {c : Code} {T : State} {H : Heap} {locs : List Loc} {cells slots : Nat}
theorem vx_callVX (X : Stand p l e R s m args below meth c T locs cells slots) (hexec : p.tables.exec = Jvm.exec) {own C : String} {index : Nat} {y : MethodName} {bytes : ByteArray} {maxL : Nat} {ret : Option FieldType} {hh : List (Nat × Nat × Nat × Nat)}
    (hown : s.vm.findClass own = some m.cls) (hlink : (Cond.methodLink own index y).before args s = true) (hinst : (Cond.instanceMethod y).before args s = true) (hsel : (Cond.selects C y y).before args s = true)
    (hcode : (Cond.codeWith y bytes maxL ret hh).before args s = true) (hy : y.cls ≠ "java/lang/invoke/MethodHandle" ∧ y.cls ≠ "java/lang/invoke/VarHandle")
    {W9 : Nat} {Pre : Pt → Array Value → Prop} {Post : Pt → Array Value → Option Value → Pt → Prop} {PostX : Pt → Array Value → Addr → Pt → Prop} (hK : vx_Back l R p e below s args y 3 W9 Pre Post PostX)
    {b : Addr} {cellB : Cell} (hcell : T.heap[b]? = some cellB) (hobj : cellB.vm.isStatics = false) (hcls : s.vm.findClass C = some cellB.cls)
    {g : JFrame} (hg : g.method = m) (hsize : g.locals.size = c.maxLocals) {argsL rest : List Value} (hlen : ∀ sig, parseMethodDescriptor y.desc = some sig → argsL.length = sig.parameters.length)
    (hstack : g.stack = argsL.reverse ++ .ref b :: rest) (hW : 2 * g.monitorRoom + (rest.map fun v => v.category).sum ≤ W9) (hdg : decode c.code g.pc = .ok (.invokevirtual index, 3))
    (hpre : ∀ vm₁, s.WarmedH vm₁ → Pre ⟨T.setVm vm₁, locs, cells, slots⟩ (Value.ref b :: argsL).toArray) :
    (∃ (v : Option Value) (vm₁ : Vm) (B : Pt), s.WarmedH vm₁ ∧ Stand p l e R s m args below meth c B.U B.locs B.cells B.slots ∧ Post ⟨T.setVm vm₁, locs, cells, slots⟩ (Value.ref b :: argsL).toArray v B ∧
      ∀ target, Steps p.tables e below (B.U.setTop { g with pc := g.pc + 3, stack := v.toList ++ rest }) target → Steps p.tables e below (T.setTop g) target) ∨
    (∃ (q : Addr) (vm₁ : Vm) (B : Pt), s.WarmedH vm₁ ∧ Stand p l e R s m args below meth c B.U B.locs B.cells B.slots ∧ PostX ⟨T.setVm vm₁, locs, cells, slots⟩ (Value.ref b :: argsL).toArray q B ∧
      Steps p.tables e below (T.setTop g) ((B.U.setTop { g with stack := rest }).pushFrame (.throwing q))) := by
  obtain ⟨mk, methM, hnamed, hmethM, hstM, habM⟩ := Cond.instanceMethod_spec hinst
  obtain ⟨m8, methM', cM, hn8, hmethM', -, -, -, -, -, -, hsigM⟩ := Cond.codeWith_spec hcode
  cases Option.some.inj (hn8.symm.trans hnamed)
  cases hmethM.symm.trans hmethM'
  obtain ⟨c2, r2, m2, q1, q2, q3, q4, kP, hkP, hkPi⟩ := Cond.selects_spec hsel
  cases hcls.symm.trans q1
  cases (State.methodFound?_of_named hnamed hy).symm.trans q2
  cases hnamed.symm.trans q3
  have hselP : selectMethod e.platform s.vm cellB.cls mk = .method mk := by rw [Launch.admits_selectMethod X.admits]; exact q4
  obtain ⟨vm₁, X₁, hstep₁⟩ := X.invokevirtual hexec hown hlink hnamed hmethM hstM hkP hkPi hy (a := b) (cell := cellB) hcell
    (fun z h => by rw [h] at hobj; cases hobj) hselP hmethM habM hkP hkPi (g := g) hg (argsL := argsL) (rest := rest) (hlen _ hsigM) hstack hdg
  rcases hK m meth c ⟨T.setVm vm₁, locs, cells, slots⟩ { g with stack := rest } (.invokevirtual index) mk (Value.ref b :: argsL).toArray X₁ hg hsize hdg hW (X₁.named hnamed) (hpre vm₁ X₁.warmed) with ⟨v, B, X', hpost, hsteps⟩ | ⟨q, B, X', hpost, hsteps⟩
  · exact Or.inl ⟨v, vm₁, B, X₁.warmed, X', hpost, fun target h => hstep₁ _ fun acts => by rw [doInvoke_state]; exact hsteps.trans h⟩
  · exact Or.inr ⟨q, vm₁, B, X₁.warmed, X', hpost, hstep₁ _ fun acts => by rw [doInvoke_state]; exact hsteps⟩
theorem vx_callSX (X : Stand p l e R s m args below meth c T locs cells slots) (hexec : p.tables.exec = Jvm.exec) {own : String} {index : Nat} {y : MethodName} {bytes : ByteArray} {maxL : Nat} {ret : Option FieldType} {hh : List (Nat × Nat × Nat × Nat)}
    (hown : s.vm.findClass own = some m.cls) (hlink : (Cond.methodLink own index y).before args s = true) (hstat : (Cond.static y).before args s = true) (hinit : (Cond.initialized y.cls).before args s = true)
    (hcode : (Cond.codeWith y bytes maxL ret hh).before args s = true) (hy : y.cls ≠ "java/lang/invoke/MethodHandle" ∧ y.cls ≠ "java/lang/invoke/VarHandle")
    {W9 : Nat} {Pre : Pt → Array Value → Prop} {Post : Pt → Array Value → Option Value → Pt → Prop} {PostX : Pt → Array Value → Addr → Pt → Prop} (hK : vx_Back l R p e below s args y 3 W9 Pre Post PostX)
    {g : JFrame} (hg : g.method = m) (hsize : g.locals.size = c.maxLocals) {argsL rest : List Value} (hlen : ∀ sig, parseMethodDescriptor y.desc = some sig → argsL.length = sig.parameters.length)
    (hstack : g.stack = argsL.reverse ++ rest) (hW : 2 * g.monitorRoom + (rest.map fun v => v.category).sum ≤ W9) (hdg : decode c.code g.pc = .ok (.invokestatic index, 3))
    (hpre : ∀ vm₁, s.WarmedH vm₁ → Pre ⟨T.setVm vm₁, locs, cells, slots⟩ argsL.toArray) :
    (∃ (v : Option Value) (vm₁ : Vm) (B : Pt), s.WarmedH vm₁ ∧ Stand p l e R s m args below meth c B.U B.locs B.cells B.slots ∧ Post ⟨T.setVm vm₁, locs, cells, slots⟩ argsL.toArray v B ∧
      ∀ target, Steps p.tables e below (B.U.setTop { g with pc := g.pc + 3, stack := v.toList ++ rest }) target → Steps p.tables e below (T.setTop g) target) ∨
    (∃ (q : Addr) (vm₁ : Vm) (B : Pt), s.WarmedH vm₁ ∧ Stand p l e R s m args below meth c B.U B.locs B.cells B.slots ∧ PostX ⟨T.setVm vm₁, locs, cells, slots⟩ argsL.toArray q B ∧
      Steps p.tables e below (T.setTop g) ((B.U.setTop { g with stack := rest }).pushFrame (.throwing q))) := by
  obtain ⟨mk, methM, cM, hnamed, hmethM, -, -, -, -, -, -, hsigM⟩ := Cond.codeWith_spec hcode
  have hstatic : methM.isStatic = true := Cond.static_spec hnamed hmethM hstat
  obtain ⟨kP, hkP, -⟩ := className_of_methodNamed hnamed
  have hinitP : kP.init = .initialized := Cond.initialized_spec (findClass_of_methodNamed hnamed) hkP hinit
  obtain ⟨vm₁, X₁, hstep₁⟩ := X.invokestatic hexec hown hlink hnamed hmethM hstatic hkP hinitP hy (g := g) hg (argsL := argsL) (rest := rest) (hlen _ hsigM) hstack hdg
  rcases hK m meth c ⟨T.setVm vm₁, locs, cells, slots⟩ { g with stack := rest } (.invokestatic index) mk argsL.toArray X₁ hg hsize hdg hW (X₁.named hnamed) (hpre vm₁ X₁.warmed) with ⟨v, B, X', hpost, hsteps⟩ | ⟨q, B, X', hpost, hsteps⟩
  · exact Or.inl ⟨v, vm₁, B, X₁.warmed, X', hpost, fun target h => hstep₁ _ fun acts => by rw [doInvoke_state]; exact hsteps.trans h⟩
  · exact Or.inr ⟨q, vm₁, B, X₁.warmed, X', hpost, hstep₁ _ fun acts => by rw [doInvoke_state]; exact hsteps⟩
theorem vx_callVW (X : Stand p l e R s m args below meth c T locs cells slots) (hexec : p.tables.exec = Jvm.exec) {own C : String} {index : Nat} {y : MethodName} {bytes : ByteArray} {maxL : Nat} {ret : Option FieldType} {hh : List (Nat × Nat × Nat × Nat)}
    (hown : s.vm.findClass own = some m.cls) (hlink : (Cond.methodLink own index y).before args s = true) (hinst : (Cond.instanceMethod y).before args s = true) (hsel : (Cond.selects C y y).before args s = true)
    (hcode : (Cond.codeWith y bytes maxL ret hh).before args s = true) (hy : y.cls ≠ "java/lang/invoke/MethodHandle" ∧ y.cls ≠ "java/lang/invoke/VarHandle")
    {W9 : Nat} {Pre : Pt → Array Value → Prop} {Post : Pt → Array Value → Option Value → Pt → Prop} (hK : Back l R p e below s args y 3 W9 Pre Post)
    {b : Addr} {cellB : Cell} (hcell : T.heap[b]? = some cellB) (hobj : cellB.vm.isStatics = false) (hcls : s.vm.findClass C = some cellB.cls)
    {g : JFrame} (hg : g.method = m) (hsize : g.locals.size = c.maxLocals) {argsL rest : List Value} (hlen : ∀ sig, parseMethodDescriptor y.desc = some sig → argsL.length = sig.parameters.length)
    (hstack : g.stack = argsL.reverse ++ .ref b :: rest) (hW : 2 * g.monitorRoom + (rest.map fun v => v.category).sum ≤ W9) (hdg : decode c.code g.pc = .ok (.invokevirtual index, 3))
    (hpre : ∀ vm₁, s.WarmedH vm₁ → Pre ⟨T.setVm vm₁, locs, cells, slots⟩ (Value.ref b :: argsL).toArray) :
    ∃ (v : Option Value) (vm₁ : Vm) (B : Pt), s.WarmedH vm₁ ∧ Stand p l e R s m args below meth c B.U B.locs B.cells B.slots ∧ Post ⟨T.setVm vm₁, locs, cells, slots⟩ (Value.ref b :: argsL).toArray v B ∧
      ∀ target, Steps p.tables e below (B.U.setTop { g with pc := g.pc + 3, stack := v.toList ++ rest }) target → Steps p.tables e below (T.setTop g) target := by
  obtain ⟨mk, methM, hnamed, hmethM, hstM, habM⟩ := Cond.instanceMethod_spec hinst
  obtain ⟨m8, methM', cM, hn8, hmethM', -, -, -, -, -, -, hsigM⟩ := Cond.codeWith_spec hcode
  cases Option.some.inj (hn8.symm.trans hnamed)
  cases hmethM.symm.trans hmethM'
  obtain ⟨c2, r2, m2, q1, q2, q3, q4, kP, hkP, hkPi⟩ := Cond.selects_spec hsel
  cases hcls.symm.trans q1
  cases (State.methodFound?_of_named hnamed hy).symm.trans q2
  cases hnamed.symm.trans q3
  have hselP : selectMethod e.platform s.vm cellB.cls mk = .method mk := by rw [Launch.admits_selectMethod X.admits]; exact q4
  obtain ⟨vm₁, X₁, hstep₁⟩ := X.invokevirtual hexec hown hlink hnamed hmethM hstM hkP hkPi hy (a := b) (cell := cellB) hcell
    (fun z h => by rw [h] at hobj; cases hobj) hselP hmethM habM hkP hkPi (g := g) hg (argsL := argsL) (rest := rest) (hlen _ hsigM) hstack hdg
  obtain ⟨v, B, X', hpost, hsteps⟩ := hK m meth c ⟨T.setVm vm₁, locs, cells, slots⟩ { g with stack := rest } (.invokevirtual index) mk (Value.ref b :: argsL).toArray X₁ hg hsize hdg hW (X₁.named hnamed) (hpre vm₁ X₁.warmed)
  exact ⟨v, vm₁, B, X₁.warmed, X', hpost, fun target h => hstep₁ _ fun acts => by rw [doInvoke_state]; exact hsteps.trans h⟩
abbrev vx_CVW (R : Room) (s : State) (args : Array Value) (own C : String) (index : Nat) (y : MethodName) (bytes : ByteArray) (maxL : Nat) (ret : Option FieldType) (hh : List (Nat × Nat × Nat × Nat)) (ws : List Cond) (rm : Room) (mc ms n : Nat) : Prop :=
  (rm.cells = mc ∧ rm.slots = ms ∧ rm.frames + 1 ≤ R.frames ∧ 8 + (maxL + 11) + rm.locals ≤ R.locals ∧ (∀ w ∈ ws, ∀ (a' : Array Value) (U : State), s.WarmedH U.vm → w.before a' U = true) ∧ Cond.codeWith y bytes maxL ret hh ∈ ws) ∧
  (Cond.codeWith y bytes maxL ret hh).before args s = true ∧ (Cond.initialized y.cls).before args s = true ∧ (y.cls ≠ "java/lang/invoke/MethodHandle" ∧ y.cls ≠ "java/lang/invoke/VarHandle") ∧
  (∀ sig, parseMethodDescriptor y.desc = some sig → n = sig.parameters.length) ∧ (Cond.methodLink own index y).before args s = true ∧ (Cond.instanceMethod y).before args s = true ∧ (Cond.selects C y y).before args s = true
theorem vx_cwVW {own C : String} {index maxL mc ms : Nat} {y : MethodName} {bytes : ByteArray} {ret : Option FieldType} {hh : List (Nat × Nat × Nat × Nat)} {Ts ws ws' : List Cond} {rm : Room} (n : Nat) (ht : ∀ w ∈ Ts, w.before args s = true) (hT : GoodIn Ts (wsV own index C y ws)) (hw : ws = Cond.codeWith y bytes maxL ret hh :: ws') (hrc : rm.cells = mc) (hrs : rm.slots = ms)
    (hd : y.cls = C ∧ y.cls ≠ "java/lang/invoke/MethodHandle" ∧ y.cls ≠ "java/lang/invoke/VarHandle" ∧ (parseMethodDescriptor y.desc).map (fun d => d.parameters.length) = some n) (hR : rm.frames + 1 ≤ R.frames ∧ 8 + (maxL + 11) + rm.locals ≤ R.locals) :
    vx_CVW R s args own C index y bytes maxL ret hh ws rm mc ms n := by
  obtain ⟨hC, hd⟩ := hd
  subst hC
  have ok : ∀ w ∈ wsV own index y.cls y ws, w.before args s = true := fun w h => ht w (hT w h).1
  have hG : GoodIn Ts ws := fun w h => hT w (by unfold wsV; exact List.mem_append_right _ h)
  have hc : Cond.codeWith y bytes maxL ret hh ∈ ws := by rw [hw]; exact List.mem_cons_self
  refine ⟨⟨hrc, hrs, hR.1, hR.2, pay_in ht hG, hc⟩, ht _ (hG _ hc).1, ok _ (by simp [wsV]), ⟨hd.1, hd.2.1⟩, fun sig h => ?_, ok _ (by simp [wsV]), ok _ (by simp [wsV]), ok _ (by simp [wsV])⟩
  have h2 := hd.2.2
  rw [h] at h2
  exact (Option.some.inj h2).symm
theorem vx_runVW {y : MethodName} {bytes cc : ByteArray} {maxL nL mc ms n index : Nat} {ret : Option FieldType} {hh : List (Nat × Nat × Nat × Nat)} {ws : List Cond} {rm : Room} {Pc : Array Value → State → Prop} {Qc : Array Value → State → Outcome → State → Prop} {free : Addr → Prop} {Ts : List Cond} {own C : String} {b : Addr} {As rest : List Value} {g : JFrame}
    (S : CallFix p m c cc nL s args Ts own) (hM : Met l y ws rm Pc Qc mc ms free) (cw : vx_CVW R s args own C index y bytes maxL ret hh ws rm mc ms n) (hp : PreV s H C b Pc As)
    (hg : g.method = m) (hn : As.length = n) (hsize : g.locals.size = nL) (hstack : g.stack = As.reverse ++ .ref b :: rest) (hW : 2 * g.monitorRoom + (rest.map fun v => v.category).sum ≤ 8) (hdg : decode cc g.pc = .ok (.invokevirtual index, 3)) (hf : cells + mc ≤ R.cells ∧ slots + ms ≤ R.slots) :
    va_Run p l e R s m args below meth c H locs cells slots mc ms g rest (Qc (Value.ref b :: As).toArray) free := by
  obtain ⟨⟨hrc, hrs, hfr, hlo, hws, hcw⟩, hcode, hini, hy, hlen, hl, hin, hse⟩ := cw
  have hK : Back l R p e below s args y 3 8 (PreOf R mc ms Pc) (PostOf Qc mc ms free) := va_backW (hh := hh) (bytes := bytes) (maxL := maxL) (ret := ret) hM hp.1 hrc hrs hfr hlo hws hcw (fun a' U hW => word_at hW (Or.inl (by first | rfl | simp [Cond.onTables, Cond.keeps, Cond.steady])) hini)
  obtain ⟨hx, hb, hml, ho, -⟩ := S
  obtain ⟨-, ⟨cellB, hcB, hoB, hclB⟩, hPc⟩ := hp
  intro T hT X
  obtain ⟨v, vm₁, ⟨U', l2, c2, s2⟩, hW₁, X', ⟨g', mk, t, L, e1, e2, hq, h1, hL, h2, h3⟩, st⟩ := vx_callVW X hx (C := C) (hh := hh) (bytes := bytes) (maxL := maxL) (ret := ret) ho hl hin hse hcode hy hK (by rw [hT]; exact hcB) hoB hclB hg (hsize.trans hml.symm) (argsL := As) (rest := rest) (fun sig h => hn.trans (hlen sig h)) hstack hW (by rw [hb]; exact hdg)
    (fun vm₁ hW₁ => ⟨hf.1, hf.2, hPc (T.setVm vm₁) hT hW₁⟩)
  dsimp only [Pt.U, Pt.locs, Pt.cells, Pt.slots] at X' e1 e2 h1 h2 h3 st
  subst h1; subst h2; subst h3
  exact ⟨v, (T.setVm vm₁).calling g' mk (Value.ref b :: As).toArray, t, U', L, hT, X', hL, e1, e2, hq, st⟩
section
variable {y : MethodName} {bytes cc : ByteArray} {maxL nL mc ms n index : Nat} {ret : Option FieldType} {ws : List Cond} {rm : Room} {Pc : Array Value → State → Prop} {Qc : Array Value → State → Outcome → State → Prop} {XC : String → State → State → Prop} {free : Addr → Prop} {Ts : List Cond} {own C : String} {b : Addr} {As rest : List Value} {g : JFrame}
theorem vx_runVX {hh : List (Nat × Nat × Nat × Nat)} (S : CallFix p m c cc nL s args Ts own) (hM : vx_Met l y ws rm Pc Qc XC mc ms free) (cw : vx_CVW R s args own C index y bytes maxL ret hh ws rm mc ms n) (hp : PreV s H C b Pc As)
    (hg : g.method = m) (hn : As.length = n) (hsize : g.locals.size = nL) (hstack : g.stack = As.reverse ++ .ref b :: rest) (hW : 2 * g.monitorRoom + (rest.map fun v => v.category).sum ≤ 8) (hdg : decode cc g.pc = .ok (.invokevirtual index, 3)) (hf : cells + mc ≤ R.cells ∧ slots + ms ≤ R.slots) :
    vx_Run p l e R s m args below meth c H locs cells slots mc ms g rest (Qc (Value.ref b :: As).toArray) XC free := by
  obtain ⟨⟨hrc, hrs, hfr, hlo, hws, hcw⟩, hcode, hini, hy, hlen, hl, hin, hse⟩ := cw
  have hK : vx_Back l R p e below s args y 3 8 (PreOf R mc ms Pc) (PostOf Qc mc ms free) (vx_Post XC mc ms free) := vx_backW (hh := hh) (bytes := bytes) (maxL := maxL) (ret := ret) hM hp.1 hrc hrs hfr hlo hws hcw (fun a' U hW => word_at hW (Or.inl (by first | rfl | simp [Cond.onTables, Cond.keeps, Cond.steady])) hini)
  obtain ⟨hx, hb, hml, ho, -⟩ := S
  obtain ⟨-, ⟨cellB, hcB, hoB, hclB⟩, hPc⟩ := hp
  intro T hT X
  rcases vx_callVX X hx (C := C) (hh := hh) (bytes := bytes) (maxL := maxL) (ret := ret) ho hl hin hse hcode hy hK (by rw [hT]; exact hcB) hoB hclB hg (hsize.trans hml.symm) (argsL := As) (rest := rest) (fun sig h => hn.trans (hlen sig h)) hstack hW (by rw [hb]; exact hdg)
    (fun vm₁ hW₁ => ⟨hf.1, hf.2, hPc (T.setVm vm₁) hT hW₁⟩) with ⟨v, vm₁, ⟨U', l2, c2, s2⟩, hW₁, X', ⟨g', mk, t, L, e1, e2, hq, h1, hL, h2, h3⟩, st⟩ | ⟨q, vm₁, ⟨U', l2, c2, s2⟩, hW₁, X', ⟨g', mk, t, L, E, ce, e1, e2, hq, hce, hcv, hcl, h1, hL, h2, h3⟩, st⟩
  · dsimp only [Pt.U, Pt.locs, Pt.cells, Pt.slots] at X' e1 e2 h1 h2 h3 st
    subst h1; subst h2; subst h3
    exact Or.inl ⟨v, (T.setVm vm₁).calling g' mk (Value.ref b :: As).toArray, t, U', L, hT, X', hL, e1, e2, hq, st⟩
  · dsimp only [Pt.U, Pt.locs, Pt.cells, Pt.slots] at X' e1 e2 h1 h2 h3 st hcl
    subst h1; subst h2; subst h3
    exact Or.inr ⟨q, (T.setVm vm₁).calling g' mk (Value.ref b :: As).toArray, t, U', L, E, ce, hT, X', hL, e1, e2, hq, hce, hcv, vx_cls hW₁ hcl, st⟩
theorem vx_runSX {hh : List (Nat × Nat × Nat × Nat)} (S : CallFix p m c cc nL s args Ts own) (hM : vx_Met l y ws rm Pc Qc XC mc ms free) (cw : vx_CSW R s args own index y bytes maxL ret hh ws rm mc ms n) (hp : PreS s H Pc As)
    (hg : g.method = m) (hn : As.length = n) (hsize : g.locals.size = nL) (hstack : g.stack = As.reverse ++ rest) (hW : 2 * g.monitorRoom + (rest.map fun v => v.category).sum ≤ 8) (hdg : decode cc g.pc = .ok (.invokestatic index, 3)) (hf : cells + mc ≤ R.cells ∧ slots + ms ≤ R.slots) :
    vx_Run p l e R s m args below meth c H locs cells slots mc ms g rest (Qc As.toArray) XC free := by
  obtain ⟨⟨hrc, hrs, hfr, hlo, hws, hcw⟩, hcode, hini, hy, hlen, hl, hstt⟩ := cw
  have hK : vx_Back l R p e below s args y 3 8 (PreOf R mc ms Pc) (PostOf Qc mc ms free) (vx_Post XC mc ms free) := vx_backW (hh := hh) (bytes := bytes) (maxL := maxL) (ret := ret) hM hp.1 hrc hrs hfr hlo hws hcw (fun a' U hW => word_at hW (Or.inl (by first | rfl | simp [Cond.onTables, Cond.keeps, Cond.steady])) hini)
  obtain ⟨hx, hb, hml, ho, -⟩ := S
  intro T hT X
  rcases vx_callSX X hx (hh := hh) (bytes := bytes) (maxL := maxL) (ret := ret) ho hl hstt hini hcode hy hK hg (hsize.trans hml.symm) (argsL := As) (rest := rest) (fun sig h => hn.trans (hlen sig h)) hstack hW (by rw [hb]; exact hdg)
    (fun vm₁ hW₁ => ⟨hf.1, hf.2, hp.2 (T.setVm vm₁) hT hW₁⟩) with ⟨v, vm₁, ⟨U', l2, c2, s2⟩, hW₁, X', ⟨g', mk, t, L, e1, e2, hq, h1, hL, h2, h3⟩, st⟩ | ⟨q, vm₁, ⟨U', l2, c2, s2⟩, hW₁, X', ⟨g', mk, t, L, E, ce, e1, e2, hq, hce, hcv, hcl, h1, hL, h2, h3⟩, st⟩
  · dsimp only [Pt.U, Pt.locs, Pt.cells, Pt.slots] at X' e1 e2 h1 h2 h3 st
    subst h1; subst h2; subst h3
    exact Or.inl ⟨v, (T.setVm vm₁).calling g' mk As.toArray, t, U', L, hT, X', hL, e1, e2, hq, st⟩
  · dsimp only [Pt.U, Pt.locs, Pt.cells, Pt.slots] at X' e1 e2 h1 h2 h3 st hcl
    subst h1; subst h2; subst h3
    exact Or.inr ⟨q, (T.setVm vm₁).calling g' mk As.toArray, t, U', L, E, ce, hT, X', hL, e1, e2, hq, hce, hcv, vx_cls hW₁ hcl, st⟩
end
end VXH
theorem vx_ofWH {l : Launch} {y : MethodName} {ws ws' : List Cond} {rm : Room} {Pc : Array Value → State → Prop} {Qc : Array Value → State → Outcome → State → Prop} {XC : String → State → State → Prop} {mc ms : Nat} {free : Addr → Prop} {cc : ByteArray} {maxL : Nat} {ret : Option FieldType} {hh : List (Nat × Nat × Nat × Nat)}
    (hy : plainName y.cls = true) (hw : ws = Cond.codeWith y cc maxL ret hh :: ws')
    (body : ∀ p e s m args below meth c s₁, BodyLoose p l y (headSpec ws rm) cc maxL ret e s m args below meth c s₁ → c.maxLocals = maxL → Pc args s →
      W p l e (headSpec ws rm).room s m args below meth c s.heap [] 0 0 (vx_MQ below Qc XC args s mc ms free) (entryFrame m args maxL)) : vx_Met l y ws rm Pc Qc XC mc ms free := by
  refine MetFree.of_bodyS (code := cc) (maxLocals := maxL) (ret := ret) hy ?_ ?_
  · intro args s m h hn
    obtain ⟨m9, meth, c, hn9, h1, h2, h3, h4, -, h5, h6, -⟩ := Cond.codeWith_spec (atoms_spec (ws := ws) h _ (by rw [hw]; exact List.mem_cons_self))
    cases hn.symm.trans hn9
    exact ⟨meth, c, h1, h2, h3, h4, h5, h6⟩
  · intro p e s m args below meth c s₁ B hml hP _
    have hh0 : s₁.heap = s.heap := by rw [B.state]; rfl
    obtain ⟨t, a1, o, b1, b2, b3⟩ := body p e s m args below meth c s₁ B hml hP s₁ hh0 (Stand.of_body B)
    exact ⟨t, o, a1, b1, b2, b3⟩
/-! ===== END ===== -/
end
section
abbrev R_T : String := "PortDrawer$Tape"
def F_T : u_T := fun k => match k with
  | _ => ("PortDrawer$Tape", "x", "J", false)
def ft_T : Nat → FieldType := fun k => match k with
  | _ => .long
theorem nok_T : ∀ a, a < 1 → ∀ b, b < 1 → a ≠ b → (F_T a).2.1 ≠ (F_T b).2.1 := by decide +kernel
theorem tok_T : ∀ k, k < 1 → parseFieldDescriptor (F_T k).2.2.1 = some (ft_T k) := by decide +kernel
abbrev R_H : String := "PortDrawer$Harbour"
def F_H : u_T := fun k => match k with
  | 0 => ("PortDrawer$Harbour", "tape", "LPortDrawer$Tape;", true)
  | 1 => ("PortDrawer$Harbour", "kinds", "[I", true)
  | 2 => ("PortDrawer$Harbour", "values", "[I", true)
  | 3 => ("PortDrawer$Harbour", "references", "[I", true)
  | _ => ("PortDrawer$Harbour", "parts", "I", false)
def ft_H : Nat → FieldType := fun k => match k with
  | 0 => .object "PortDrawer$Tape"
  | 1 => .array .int
  | 2 => .array .int
  | 3 => .array .int
  | _ => .int
theorem nok_H : ∀ a, a < 5 → ∀ b, b < 5 → a ≠ b → (F_H a).2.1 ≠ (F_H b).2.1 := by decide +kernel
theorem tok_H : ∀ k, k < 5 → parseFieldDescriptor (F_H k).2.2.1 = some (ft_H k) := by decide +kernel
abbrev R_D : String := "PortDrawer"
def F_D : u_T := fun k => match k with
  | 0 => ("PortDrawer", "seed", "J", true)
  | 1 => ("PortDrawer", "harbour", "LPortDrawer$Harbour;", true)
  | 2 => ("PortDrawer", "otherHarbour", "LPortDrawer$Harbour;", true)
  | 3 => ("PortDrawer", "goingWith", "[J", true)
  | 4 => ("PortDrawer", "partsOfBit", "[J", true)
  | 5 => ("PortDrawer", "staying", "[Z", true)
  | _ => ("PortDrawer", "leftParts", "J", false)
def ft_D : Nat → FieldType := fun k => match k with
  | 0 => .long
  | 1 => .object "PortDrawer$Harbour"
  | 2 => .object "PortDrawer$Harbour"
  | 3 => .array .long
  | 4 => .array .long
  | 5 => .array .boolean
  | _ => .long
theorem nok_D : ∀ a, a < 7 → ∀ b, b < 7 → a ≠ b → (F_D a).2.1 ≠ (F_D b).2.1 := by decide +kernel
theorem tok_D : ∀ k, k < 7 → parseFieldDescriptor (F_D k).2.2.1 = some (ft_D k) := by decide +kernel
abbrev R_M : String := "PortDrawerModel"
def F_M : u_T := fun k => match k with
  | 0 => ("PortDrawerModel", "thrown", "I", false)
  | 1 => ("PortDrawerModel", "seed", "J", true)
  | 2 => ("PortDrawerModel", "tape", "J", false)
  | 3 => ("PortDrawerModel", "parts", "I", false)
  | 4 => ("PortDrawerModel", "kind", "[I", true)
  | 5 => ("PortDrawerModel", "value", "[I", true)
  | 6 => ("PortDrawerModel", "refers", "[I", true)
  | 7 => ("PortDrawerModel", "isLeft", "[Z", true)
  | 8 => ("PortDrawerModel", "stays", "[Z", true)
  | _ => ("PortDrawerModel", "goes", "[Z", true)
def ft_M : Nat → FieldType := fun k => match k with
  | 0 => .int
  | 1 => .long
  | 2 => .long
  | 3 => .int
  | 4 => .array .int
  | 5 => .array .int
  | 6 => .array .int
  | 7 => .array .boolean
  | 8 => .array .boolean
  | _ => .array .boolean
theorem nok_M : ∀ a, a < 10 → ∀ b, b < 10 → a ≠ b → (F_M a).2.1 ≠ (F_M b).2.1 := by decide +kernel
theorem tok_M : ∀ k, k < 10 → parseFieldDescriptor (F_M k).2.2.1 = some (ft_M k) := by decide +kernel
abbrev R_J : String := "java/lang/Long"
abbrev R_L : String := "PortDrawerLaw"
abbrev classes : List vw_C := [(R_T, F_T, 1), (R_H, F_H, 5), (R_D, F_D, 7), (R_M, F_M, 10)]
def tblG : List Cond := lw_tbl.filter goodWord
theorem tblG_in {w : Cond} (h : w ∈ tblG) : w ∈ lw_tbl := (List.mem_filter.mp h).1
theorem tblG_ok {w : Cond} (h : w ∈ tblG) : goodWord w = true := (List.mem_filter.mp h).2
theorem m_t {w : Cond} {i : Nat} (h : tables_1[i]? = some w) (hg : goodWord w = true) : w ∈ tblG := List.mem_filter.mpr ⟨List.mem_append_right _ (List.mem_of_getElem? h), hg⟩
theorem m_s {w : Cond} {i : Nat} (h : (k2_sels lw_privs)[i]? = some w) (hg : goodWord w = true) : w ∈ tblG := List.mem_filter.mpr ⟨List.mem_append_left _ (List.mem_of_getElem? h), hg⟩
theorem lay0_T : ∀ w ∈ u_ws R_T F_T 1, w ∈ tblG := List.forall_mem_cons.mpr ⟨m_t (i := 32) rfl rfl, fun _ h => absurd h List.not_mem_nil⟩
theorem lay_T (c : Cond) : ∀ w ∈ u_ws R_T F_T 1, w ∈ c :: tblG := fun w h => List.mem_cons_of_mem _ (lay0_T w h)
theorem lay0_H : ∀ w ∈ u_ws R_H F_H 5, w ∈ tblG := List.forall_mem_cons.mpr ⟨m_t (i := 44) rfl rfl, List.forall_mem_cons.mpr ⟨m_t (i := 46) rfl rfl, List.forall_mem_cons.mpr ⟨m_t (i := 48) rfl rfl, List.forall_mem_cons.mpr ⟨m_t (i := 50) rfl rfl, List.forall_mem_cons.mpr ⟨m_t (i := 52) rfl rfl, fun _ h => absurd h List.not_mem_nil⟩⟩⟩⟩⟩
theorem lay_H (c : Cond) : ∀ w ∈ u_ws R_H F_H 5, w ∈ c :: tblG := fun w h => List.mem_cons_of_mem _ (lay0_H w h)
theorem lay0_D : ∀ w ∈ u_ws R_D F_D 7, w ∈ tblG := List.forall_mem_cons.mpr ⟨m_t (i := 63) rfl rfl, List.forall_mem_cons.mpr ⟨m_t (i := 65) rfl rfl, List.forall_mem_cons.mpr ⟨m_t (i := 67) rfl rfl, List.forall_mem_cons.mpr ⟨m_t (i := 69) rfl rfl, List.forall_mem_cons.mpr ⟨m_t (i := 71) rfl rfl, List.forall_mem_cons.mpr ⟨m_t (i := 73) rfl rfl, List.forall_mem_cons.mpr ⟨m_t (i := 75) rfl rfl, fun _ h => absurd h List.not_mem_nil⟩⟩⟩⟩⟩⟩⟩
theorem lay_D (c : Cond) : ∀ w ∈ u_ws R_D F_D 7, w ∈ c :: tblG := fun w h => List.mem_cons_of_mem _ (lay0_D w h)
theorem lay0_M : ∀ w ∈ u_ws R_M F_M 10, w ∈ tblG := List.forall_mem_cons.mpr ⟨m_t (i := 346) rfl rfl, List.forall_mem_cons.mpr ⟨m_t (i := 348) rfl rfl, List.forall_mem_cons.mpr ⟨m_t (i := 350) rfl rfl, List.forall_mem_cons.mpr ⟨m_t (i := 352) rfl rfl, List.forall_mem_cons.mpr ⟨m_t (i := 354) rfl rfl, List.forall_mem_cons.mpr ⟨m_t (i := 356) rfl rfl, List.forall_mem_cons.mpr ⟨m_t (i := 358) rfl rfl, List.forall_mem_cons.mpr ⟨m_t (i := 360) rfl rfl, List.forall_mem_cons.mpr ⟨m_t (i := 362) rfl rfl, List.forall_mem_cons.mpr ⟨m_t (i := 364) rfl rfl, fun _ h => absurd h List.not_mem_nil⟩⟩⟩⟩⟩⟩⟩⟩⟩⟩
theorem lay_M (c : Cond) : ∀ w ∈ u_ws R_M F_M 10, w ∈ c :: tblG := fun w h => List.mem_cons_of_mem _ (lay0_M w h)
def NWl : List Cond := [(Jvm.Cond.methodLinkNest "PortDrawer" (9 : Nat) ({ cls := "PortDrawer$Harbour", name := "<init>", desc := "()V" } : Jvm.MethodName) "PortDrawer"), (Jvm.Cond.methodLinkNest "PortDrawer$Harbour" (11 : Nat) ({ cls := "PortDrawer$Tape", name := "<init>", desc := "()V" } : Jvm.MethodName) "PortDrawer"), (Jvm.Cond.fieldLinkNest "PortDrawer" (74 : Nat) "PortDrawer$Harbour" "kinds" "[I" "PortDrawer"), (Jvm.Cond.fieldLinkNest "PortDrawer" (82 : Nat) "PortDrawer$Harbour" "values" "[I" "PortDrawer"), (Jvm.Cond.fieldLinkNest "PortDrawer" (85 : Nat) "PortDrawer$Harbour" "references" "[I" "PortDrawer"), (Jvm.Cond.fieldLinkNest "PortDrawer" (62 : Nat) "PortDrawer$Harbour" "parts" "I" "PortDrawer"), (Jvm.Cond.methodLinkNest "PortDrawer" (78 : Nat) ({ cls := "PortDrawer$Harbour", name := "ofKindAheadOf", desc := "(II)I" } : Jvm.MethodName) "PortDrawer"), (Jvm.Cond.castable "java/lang/IllegalArgumentException" "java/lang/IllegalArgumentException"), (Jvm.Cond.declares ({ cls := "java/lang/RuntimeException", name := "<init>", desc := "()V" } : Jvm.MethodName)), (Jvm.Cond.declares ({ cls := "java/lang/RuntimeException", name := "<init>", desc := "(Ljava/lang/String;)V" } : Jvm.MethodName)), (Jvm.Cond.declares ({ cls := "java/lang/Exception", name := "<init>", desc := "()V" } : Jvm.MethodName)), (Jvm.Cond.declares ({ cls := "java/lang/Exception", name := "<init>", desc := "(Ljava/lang/String;)V" } : Jvm.MethodName)), (Jvm.Cond.declares ({ cls := "java/lang/Throwable", name := "<init>", desc := "()V" } : Jvm.MethodName)), (Jvm.Cond.declares ({ cls := "java/lang/Throwable", name := "<init>", desc := "(Ljava/lang/String;)V" } : Jvm.MethodName)), (Jvm.Cond.methodLinkNest "PortDrawer" (48 : Nat) ({ cls := "PortDrawer$Harbour", name := "fill", desc := "(JI)V" } : Jvm.MethodName) "PortDrawer"), (Jvm.Cond.methodLinkNest "PortDrawer$Harbour" (32 : Nat) ({ cls := "PortDrawer$Tape", name := "rewind", desc := "(J)V" } : Jvm.MethodName) "PortDrawer"), (Jvm.Cond.methodLinkNest "PortDrawer$Harbour" (40 : Nat) ({ cls := "PortDrawer$Tape", name := "numberBelow", desc := "(I)I" } : Jvm.MethodName) "PortDrawer"), (Jvm.Cond.methodLinkNest "PortDrawer$Harbour" (50 : Nat) ({ cls := "PortDrawer", name := "mayRefer", desc := "(II)Z" } : Jvm.MethodName) "PortDrawer"), (Jvm.Cond.methodLinkNest "PortDrawer" (66 : Nat) ({ cls := "PortDrawer$Harbour", name := "has", desc := "(I)Z" } : Jvm.MethodName) "PortDrawer"), (Jvm.Cond.methodLinkNest "PortDrawer" (99 : Nat) ({ cls := "PortDrawer$Harbour", name := "isFittingAct", desc := "(I)Z" } : Jvm.MethodName) "PortDrawer"), (Jvm.Cond.castable "java/lang/IndexOutOfBoundsException" "java/lang/IndexOutOfBoundsException"), (Jvm.Cond.methodLinkNest "PortDrawer" (94 : Nat) ({ cls := "PortDrawer$Harbour", name := "isAct", desc := "(I)Z" } : Jvm.MethodName) "PortDrawer"), (Jvm.Cond.methodLinkNest "PortDrawer" (125 : Nat) ({ cls := "PortDrawer$Harbour", name := "isLike", desc := "(LPortDrawer$Harbour;)Z" } : Jvm.MethodName) "PortDrawer")]
def txl : List (Nat × String) := [(43, "the size is not 0 .. 40"), (71, "no such part"), (92, "no such what"), (97, "no such act"), (123, "no such part is left")]
theorem big_w {c : Cond} : ∀ w ∈ tblG, w ∈ c :: tblG := fun _ h => List.mem_cons_of_mem _ h
theorem g_c {big : List Cond} (hb : ∀ w ∈ tblG, w ∈ big) {c : Cond} (hc : c ∈ tblG) : GoodIn big (c :: tblG) := fun w h => (List.mem_cons.mp h).elim (fun e => ⟨hb w (e ▸ hc), good_of_word (tblG_ok (e ▸ hc))⟩) (fun h => ⟨hb w h, good_of_word (tblG_ok h)⟩)
theorem g_1 {big : List Cond} (hb : ∀ w ∈ tblG, w ∈ big) {c : Cond} {ws : List Cond} (hc : c ∈ tblG) (h : GoodIn big ws) : GoodIn big (c :: ws) := fun w hw => (List.mem_cons.mp hw).elim (fun e => ⟨hb w (e ▸ hc), good_of_word (tblG_ok (e ▸ hc))⟩) (h w)
theorem g_V {big : List Cond} (hb : ∀ w ∈ tblG, w ∈ big) {own : String} {idx : Nat} {C : String} {y : MethodName} {c : Cond} (h1 : Cond.methodLink own idx y ∈ tblG) (h2 : Cond.instanceMethod y ∈ tblG) (h3 : Cond.selects C y y ∈ tblG) (h4 : Cond.initialized C ∈ tblG) (hc : c ∈ tblG) : GoodIn big (wsV own idx C y (c :: tblG)) := g_1 hb h1 (g_1 hb h2 (g_1 hb h3 (g_1 hb h4 (g_c hb hc))))
theorem g_S {big : List Cond} (hb : ∀ w ∈ tblG, w ∈ big) {own : String} {idx : Nat} {y : MethodName} {c : Cond} (h1 : Cond.methodLink own idx y ∈ tblG) (h2 : Cond.static y ∈ tblG) (h4 : Cond.initialized y.cls ∈ tblG) (hc : c ∈ tblG) : GoodIn big (va_wsS own idx y (c :: tblG)) := g_1 hb h1 (g_1 hb h2 (g_1 hb h4 (g_c hb hc)))
theorem g_SW {big : List Cond} (hb : ∀ w ∈ tblG, w ∈ big) {own : String} {idx : Nat} {y : MethodName} {c : Cond} (h1 : Cond.methodLink own idx y ∈ tblG) (h2 : Cond.static y ∈ tblG) (h4 : Cond.initialized y.cls ∈ tblG) (hc : c ∈ tblG) : GoodIn big (va_wsS own idx y (c :: tblG)) := g_S hb h1 h2 h4 hc
abbrev b_J_bitCount : ByteArray := prog_9_method_50_code
abbrev y_J_bitCount : MethodName := ⟨"java/lang/Long", "bitCount", "(J)I"⟩
abbrev w_J_bitCount : List Cond := .code y_J_bitCount b_J_bitCount 2 (Option.some Jvm.ClassFile.FieldType.int) :: tblG
abbrev b_T_init : ByteArray := prog_3_method_1_code
abbrev y_T_init : MethodName := ⟨"PortDrawer$Tape", "<init>", "()V"⟩
abbrev w_T_init : List Cond := .code y_T_init b_T_init 1 (Option.none : Option Jvm.ClassFile.FieldType) :: tblG
abbrev b_T_rewind : ByteArray := prog_3_method_2_code
abbrev y_T_rewind : MethodName := ⟨"PortDrawer$Tape", "rewind", "(J)V"⟩
abbrev w_T_rewind : List Cond := .code y_T_rewind b_T_rewind 3 (Option.none : Option Jvm.ClassFile.FieldType) :: tblG
abbrev b_T_numberBelow : ByteArray := prog_3_method_3_code
abbrev y_T_numberBelow : MethodName := ⟨"PortDrawer$Tape", "numberBelow", "(I)I"⟩
abbrev w_T_numberBelow : List Cond := .code y_T_numberBelow b_T_numberBelow 2 (Option.some Jvm.ClassFile.FieldType.int) :: tblG
abbrev b_H_init : ByteArray := prog_2_method_1_code
abbrev y_H_init : MethodName := ⟨"PortDrawer$Harbour", "<init>", "()V"⟩
abbrev w_H_init : List Cond := .code y_H_init b_H_init 1 (Option.none : Option Jvm.ClassFile.FieldType) :: tblG
abbrev b_D_mayRefer : ByteArray := prog_1_method_24_code
abbrev y_D_mayRefer : MethodName := ⟨"PortDrawer", "mayRefer", "(II)Z"⟩
abbrev w_D_mayRefer : List Cond := .code y_D_mayRefer b_D_mayRefer 2 (Option.some Jvm.ClassFile.FieldType.boolean) :: tblG
abbrev b_H_has : ByteArray := prog_2_method_6_code
abbrev y_H_has : MethodName := ⟨"PortDrawer$Harbour", "has", "(I)Z"⟩
abbrev w_H_has : List Cond := .code y_H_has b_H_has 2 (Option.some Jvm.ClassFile.FieldType.boolean) :: tblG
abbrev b_H_isAct : ByteArray := prog_2_method_7_code
abbrev y_H_isAct : MethodName := ⟨"PortDrawer$Harbour", "isAct", "(I)Z"⟩
abbrev w_H_isAct : List Cond := .code y_H_isAct b_H_isAct 2 (Option.some Jvm.ClassFile.FieldType.boolean) :: tblG
abbrev b_H_isFittingAct : ByteArray := prog_2_method_8_code
abbrev y_H_isFittingAct : MethodName := ⟨"PortDrawer$Harbour", "isFittingAct", "(I)Z"⟩
abbrev w_H_isFittingAct : List Cond := .code y_H_isFittingAct b_H_isFittingAct 3 (Option.some Jvm.ClassFile.FieldType.boolean) :: tblG
abbrev b_H_ofKindAheadOf : ByteArray := prog_2_method_9_code
abbrev y_H_ofKindAheadOf : MethodName := ⟨"PortDrawer$Harbour", "ofKindAheadOf", "(II)I"⟩
abbrev w_H_ofKindAheadOf : List Cond := .code y_H_ofKindAheadOf b_H_ofKindAheadOf 5 (Option.some Jvm.ClassFile.FieldType.int) :: tblG
abbrev b_H_partsToReferTo : ByteArray := prog_2_method_5_code
abbrev y_H_partsToReferTo : MethodName := ⟨"PortDrawer$Harbour", "partsToReferTo", "(I)I"⟩
abbrev w_H_partsToReferTo : List Cond := .code y_H_partsToReferTo b_H_partsToReferTo 4 (Option.some Jvm.ClassFile.FieldType.int) :: tblG
abbrev b_H_drawReference : ByteArray := prog_2_method_4_code
abbrev y_H_drawReference : MethodName := ⟨"PortDrawer$Harbour", "drawReference", "(I)I"⟩
abbrev w_H_drawReference : List Cond := .code y_H_drawReference b_H_drawReference 5 (Option.some Jvm.ClassFile.FieldType.int) :: tblG
abbrev b_H_addPart : ByteArray := prog_2_method_3_code
abbrev y_H_addPart : MethodName := ⟨"PortDrawer$Harbour", "addPart", "(I)V"⟩
abbrev w_H_addPart : List Cond := .code y_H_addPart b_H_addPart 2 (Option.none : Option Jvm.ClassFile.FieldType) :: tblG
abbrev b_H_fill : ByteArray := prog_2_method_2_code
abbrev y_H_fill : MethodName := ⟨"PortDrawer$Harbour", "fill", "(JI)V"⟩
abbrev w_H_fill : List Cond := .code y_H_fill b_H_fill 5 (Option.none : Option Jvm.ClassFile.FieldType) :: tblG
abbrev b_H_isLike : ByteArray := prog_2_method_10_code
abbrev y_H_isLike : MethodName := ⟨"PortDrawer$Harbour", "isLike", "(LPortDrawer$Harbour;)Z"⟩
abbrev w_H_isLike : List Cond := .code y_H_isLike b_H_isLike 3 (Option.some Jvm.ClassFile.FieldType.boolean) :: tblG
abbrev b_D_isIn : ByteArray := prog_1_method_22_code
abbrev y_D_isIn : MethodName := ⟨"PortDrawer", "isIn", "(JI)Z"⟩
abbrev w_D_isIn : List Cond := .code y_D_isIn b_D_isIn 3 (Option.some Jvm.ClassFile.FieldType.boolean) :: tblG
abbrev b_D_isSize : ByteArray := prog_1_method_23_code
abbrev y_D_isSize : MethodName := ⟨"PortDrawer", "isSize", "(I)Z"⟩
abbrev w_D_isSize : List Cond := .code y_D_isSize b_D_isSize 1 (Option.some Jvm.ClassFile.FieldType.boolean) :: tblG
abbrev b_D_allParts : ByteArray := prog_1_method_15_code
abbrev y_D_allParts : MethodName := ⟨"PortDrawer", "allParts", "()J"⟩
abbrev w_D_allParts : List Cond := .code y_D_allParts b_D_allParts 1 (Option.some Jvm.ClassFile.FieldType.long) :: tblG
abbrev b_D_leftWithout : ByteArray := prog_1_method_16_code
abbrev y_D_leftWithout : MethodName := ⟨"PortDrawer", "leftWithout", "(I)J"⟩
abbrev w_D_leftWithout : List Cond := .code y_D_leftWithout b_D_leftWithout 2 (Option.some Jvm.ClassFile.FieldType.long) :: tblG
abbrev b_D_verdictOf : ByteArray := prog_1_method_18_code
abbrev y_D_verdictOf : MethodName := ⟨"PortDrawer", "verdictOf", "(J)I"⟩
abbrev w_D_verdictOf : List Cond := .code y_D_verdictOf b_D_verdictOf 5 (Option.some Jvm.ClassFile.FieldType.int) :: tblG
abbrev b_D_staysWith : ByteArray := prog_1_method_17_code
abbrev y_D_staysWith : MethodName := ⟨"PortDrawer", "staysWith", "(J)Z"⟩
abbrev w_D_staysWith : List Cond := .code y_D_staysWith b_D_staysWith 3 (Option.some Jvm.ClassFile.FieldType.boolean) :: tblG
abbrev b_D_firstThatMayGo : ByteArray := prog_1_method_19_code
abbrev y_D_firstThatMayGo : MethodName := ⟨"PortDrawer", "firstThatMayGo", "()I"⟩
abbrev w_D_firstThatMayGo : List Cond := .code y_D_firstThatMayGo b_D_firstThatMayGo 4 (Option.some Jvm.ClassFile.FieldType.int) :: tblG
abbrev b_D_verdictsThatStay : ByteArray := prog_1_method_14_code
abbrev y_D_verdictsThatStay : MethodName := ⟨"PortDrawer", "verdictsThatStay", "()I"⟩
abbrev w_D_verdictsThatStay : List Cond := .code y_D_verdictsThatStay b_D_verdictsThatStay 3 (Option.some Jvm.ClassFile.FieldType.int) :: tblG
abbrev b_D_countOfKind : ByteArray := prog_1_method_13_code
abbrev y_D_countOfKind : MethodName := ⟨"PortDrawer", "countOfKind", "(I)I"⟩
abbrev w_D_countOfKind : List Cond := .code y_D_countOfKind b_D_countOfKind 2 (Option.some Jvm.ClassFile.FieldType.int) :: tblG
abbrev b_D_now : ByteArray := prog_1_method_6_code
abbrev y_D_now : MethodName := ⟨"PortDrawer", "now", "()I"⟩
abbrev w_D_now : List Cond := .code y_D_now b_D_now 1 (Option.some Jvm.ClassFile.FieldType.int) :: tblG
abbrev b_D_left : ByteArray := prog_1_method_8_code
abbrev y_D_left : MethodName := ⟨"PortDrawer", "left", "(I)I"⟩
abbrev w_D_left : List Cond := .code y_D_left b_D_left 4 (Option.some Jvm.ClassFile.FieldType.int) :: tblG
abbrev b_D_minimal : ByteArray := prog_1_method_9_code
abbrev y_D_minimal : MethodName := ⟨"PortDrawer", "minimal", "()Z"⟩
abbrev w_D_minimal : List Cond := .code y_D_minimal b_D_minimal 1 (Option.some Jvm.ClassFile.FieldType.boolean) :: tblG
abbrev b_D_verdict : ByteArray := prog_1_method_5_code
abbrev y_D_verdict : MethodName := ⟨"PortDrawer", "verdict", "(IZ)Z"⟩
abbrev w_D_verdict : List Cond := .code y_D_verdict b_D_verdict 3 (Option.some Jvm.ClassFile.FieldType.boolean) :: tblG
abbrev b_D_noteGoingWith : ByteArray := prog_1_method_20_code
abbrev y_D_noteGoingWith : MethodName := ⟨"PortDrawer", "noteGoingWith", "()V"⟩
abbrev w_D_noteGoingWith : List Cond := .code y_D_noteGoingWith b_D_noteGoingWith 3 (Option.none : Option Jvm.ClassFile.FieldType) :: tblG
abbrev b_D_notePartsOfBits : ByteArray := prog_1_method_21_code
abbrev y_D_notePartsOfBits : MethodName := ⟨"PortDrawer", "notePartsOfBits", "()V"⟩
abbrev w_D_notePartsOfBits : List Cond := .code y_D_notePartsOfBits b_D_notePartsOfBits 3 (Option.none : Option Jvm.ClassFile.FieldType) :: tblG
abbrev b_D_shorter : ByteArray := prog_1_method_7_code
abbrev y_D_shorter : MethodName := ⟨"PortDrawer", "shorter", "()I"⟩
abbrev w_D_shorter : List Cond := .code y_D_shorter b_D_shorter 3 (Option.some Jvm.ClassFile.FieldType.int) :: tblG
abbrev b_D_count : ByteArray := prog_1_method_12_code
abbrev y_D_count : MethodName := ⟨"PortDrawer", "count", "(I)I"⟩
abbrev w_D_count : List Cond := .code y_D_count b_D_count 2 (Option.some Jvm.ClassFile.FieldType.int) :: tblG
abbrev b_D_draw : ByteArray := prog_1_method_2_code
abbrev y_D_draw : MethodName := ⟨"PortDrawer", "draw", "(I)I"⟩
abbrev w_D_draw : List Cond := .code y_D_draw b_D_draw 2 (Option.some Jvm.ClassFile.FieldType.int) :: tblG
abbrev b_D_part : ByteArray := prog_1_method_3_code
abbrev y_D_part : MethodName := ⟨"PortDrawer", "part", "(II)I"⟩
abbrev w_D_part : List Cond := .code y_D_part b_D_part 3 (Option.some Jvm.ClassFile.FieldType.int) :: tblG
abbrev b_D_fits : ByteArray := prog_1_method_4_code
abbrev y_D_fits : MethodName := ⟨"PortDrawer", "fits", "(I)Z"⟩
abbrev w_D_fits : List Cond := .code y_D_fits b_D_fits 2 (Option.some Jvm.ClassFile.FieldType.boolean) :: tblG
abbrev b_D_without : ByteArray := prog_1_method_10_code
abbrev y_D_without : MethodName := ⟨"PortDrawer", "without", "(I)I"⟩
abbrev w_D_without : List Cond := .code y_D_without b_D_without 3 (Option.some Jvm.ClassFile.FieldType.int) :: tblG
abbrev b_D_same : ByteArray := prog_1_method_11_code
abbrev y_D_same : MethodName := ⟨"PortDrawer", "same", "(JI)Z"⟩
abbrev w_D_same : List Cond := .code y_D_same b_D_same 4 (Option.some Jvm.ClassFile.FieldType.boolean) :: tblG
abbrev b_D_init : ByteArray := prog_1_method_1_code
abbrev y_D_init : MethodName := ⟨"PortDrawer", "<init>", "(J)V"⟩
abbrev w_D_init : List Cond := .code y_D_init b_D_init 3 (Option.none : Option Jvm.ClassFile.FieldType) :: tblG
abbrev b_M_thrown : ByteArray := prog_5_method_2_code
abbrev y_M_thrown : MethodName := ⟨"PortDrawerModel", "thrown", "()I"⟩
abbrev w_M_thrown : List Cond := .code y_M_thrown b_M_thrown 1 (Option.some Jvm.ClassFile.FieldType.int) :: tblG
abbrev b_M_refuse : ByteArray := prog_5_method_3_code
abbrev y_M_refuse : MethodName := ⟨"PortDrawerModel", "refuse", "(I)I"⟩
abbrev w_M_refuse : List Cond := .code y_M_refuse b_M_refuse 2 (Option.some Jvm.ClassFile.FieldType.int) :: tblG
abbrev b_M_in_ : ByteArray := prog_5_method_4_code
abbrev y_M_in_ : MethodName := ⟨"PortDrawerModel", "in", "(III)Z"⟩
abbrev w_M_in_ : List Cond := .code y_M_in_ b_M_in_ 3 (Option.some Jvm.ClassFile.FieldType.boolean) :: tblG
abbrev b_M_isPart : ByteArray := prog_5_method_5_code
abbrev y_M_isPart : MethodName := ⟨"PortDrawerModel", "isPart", "(I)Z"⟩
abbrev w_M_isPart : List Cond := .code y_M_isPart b_M_isPart 2 (Option.some Jvm.ClassFile.FieldType.boolean) :: tblG
abbrev b_M_number : ByteArray := prog_5_method_6_code
abbrev y_M_number : MethodName := ⟨"PortDrawerModel", "number", "(I)I"⟩
abbrev w_M_number : List Cond := .code y_M_number b_M_number 2 (Option.some Jvm.ClassFile.FieldType.int) :: tblG
abbrev b_M_mayRefer : ByteArray := prog_5_method_7_code
abbrev y_M_mayRefer : MethodName := ⟨"PortDrawerModel", "mayRefer", "(II)Z"⟩
abbrev w_M_mayRefer : List Cond := .code y_M_mayRefer b_M_mayRefer 2 (Option.some Jvm.ClassFile.FieldType.boolean) :: tblG
abbrev b_M_reference : ByteArray := prog_5_method_8_code
abbrev y_M_reference : MethodName := ⟨"PortDrawerModel", "reference", "(II)I"⟩
abbrev w_M_reference : List Cond := .code y_M_reference b_M_reference 8 (Option.some Jvm.ClassFile.FieldType.int) :: tblG
abbrev b_M_draws : ByteArray := prog_5_method_9_code
abbrev y_M_draws : MethodName := ⟨"PortDrawerModel", "draws", "(JII)V"⟩
abbrev w_M_draws : List Cond := .code y_M_draws b_M_draws 7 (Option.none : Option Jvm.ClassFile.FieldType) :: tblG
abbrev b_M_all : ByteArray := prog_5_method_11_code
abbrev y_M_all : MethodName := ⟨"PortDrawerModel", "all", "()V"⟩
abbrev w_M_all : List Cond := .code y_M_all b_M_all 2 (Option.none : Option Jvm.ClassFile.FieldType) :: tblG
abbrev b_M_none : ByteArray := prog_5_method_17_code
abbrev y_M_none : MethodName := ⟨"PortDrawerModel", "none", "()V"⟩
abbrev w_M_none : List Cond := .code y_M_none b_M_none 2 (Option.none : Option Jvm.ClassFile.FieldType) :: tblG
abbrev b_M_leaves : ByteArray := prog_5_method_23_code
abbrev y_M_leaves : MethodName := ⟨"PortDrawerModel", "leaves", "()V"⟩
abbrev w_M_leaves : List Cond := .code y_M_leaves b_M_leaves 2 (Option.none : Option Jvm.ClassFile.FieldType) :: tblG
abbrev b_M_marks : ByteArray := prog_5_method_18_code
abbrev y_M_marks : MethodName := ⟨"PortDrawerModel", "marks", "(I)I"⟩
abbrev w_M_marks : List Cond := .code y_M_marks b_M_marks 4 (Option.some Jvm.ClassFile.FieldType.int) :: tblG
abbrev b_M_many : ByteArray := prog_5_method_19_code
abbrev y_M_many : MethodName := ⟨"PortDrawerModel", "many", "()I"⟩
abbrev w_M_many : List Cond := .code y_M_many b_M_many 3 (Option.some Jvm.ClassFile.FieldType.int) :: tblG
abbrev b_M_isFit : ByteArray := prog_5_method_13_code
abbrev y_M_isFit : MethodName := ⟨"PortDrawerModel", "isFit", "(I)Z"⟩
abbrev w_M_isFit : List Cond := .code y_M_isFit b_M_isFit 2 (Option.some Jvm.ClassFile.FieldType.boolean) :: tblG
abbrev b_M_judged : ByteArray := prog_5_method_16_code
abbrev y_M_judged : MethodName := ⟨"PortDrawerModel", "judged", "()I"⟩
abbrev w_M_judged : List Cond := .code y_M_judged b_M_judged 3 (Option.some Jvm.ClassFile.FieldType.int) :: tblG
abbrev b_M_mayGo : ByteArray := prog_5_method_21_code
abbrev y_M_mayGo : MethodName := ⟨"PortDrawerModel", "mayGo", "(I)Z"⟩
abbrev w_M_mayGo : List Cond := .code y_M_mayGo b_M_mayGo 2 (Option.some Jvm.ClassFile.FieldType.boolean) :: tblG
abbrev b_M_first : ByteArray := prog_5_method_22_code
abbrev y_M_first : MethodName := ⟨"PortDrawerModel", "first", "()I"⟩
abbrev w_M_first : List Cond := .code y_M_first b_M_first 2 (Option.some Jvm.ClassFile.FieldType.int) :: tblG
abbrev b_M_now : ByteArray := prog_5_method_20_code
abbrev y_M_now : MethodName := ⟨"PortDrawerModel", "now", "()I"⟩
abbrev w_M_now : List Cond := .code y_M_now b_M_now 1 (Option.some Jvm.ClassFile.FieldType.int) :: tblG
abbrev b_M_shorter : ByteArray := prog_5_method_24_code
abbrev y_M_shorter : MethodName := ⟨"PortDrawerModel", "shorter", "()I"⟩
abbrev w_M_shorter : List Cond := .code y_M_shorter b_M_shorter 1 (Option.some Jvm.ClassFile.FieldType.int) :: tblG
abbrev b_M_left : ByteArray := prog_5_method_25_code
abbrev y_M_left : MethodName := ⟨"PortDrawerModel", "left", "(I)I"⟩
abbrev w_M_left : List Cond := .code y_M_left b_M_left 4 (Option.some Jvm.ClassFile.FieldType.int) :: tblG
abbrev b_M_minimal : ByteArray := prog_5_method_26_code
abbrev y_M_minimal : MethodName := ⟨"PortDrawerModel", "minimal", "()Z"⟩
abbrev w_M_minimal : List Cond := .code y_M_minimal b_M_minimal 1 (Option.some Jvm.ClassFile.FieldType.boolean) :: tblG
abbrev b_M_verdict : ByteArray := prog_5_method_15_code
abbrev y_M_verdict : MethodName := ⟨"PortDrawerModel", "verdict", "(IZ)Z"⟩
abbrev w_M_verdict : List Cond := .code y_M_verdict b_M_verdict 3 (Option.some Jvm.ClassFile.FieldType.boolean) :: tblG
abbrev b_M_ofKind : ByteArray := prog_5_method_29_code
abbrev y_M_ofKind : MethodName := ⟨"PortDrawerModel", "ofKind", "(I)I"⟩
abbrev w_M_ofKind : List Cond := .code y_M_ofKind b_M_ofKind 4 (Option.some Jvm.ClassFile.FieldType.int) :: tblG
abbrev b_M_init : ByteArray := prog_5_method_1_code
abbrev y_M_init : MethodName := ⟨"PortDrawerModel", "<init>", "(J)V"⟩
abbrev w_M_init : List Cond := .code y_M_init b_M_init 3 (Option.none : Option Jvm.ClassFile.FieldType) :: tblG
abbrev b_M_draw : ByteArray := prog_5_method_10_code
abbrev y_M_draw : MethodName := ⟨"PortDrawerModel", "draw", "(I)I"⟩
abbrev w_M_draw : List Cond := .code y_M_draw b_M_draw 2 (Option.some Jvm.ClassFile.FieldType.int) :: tblG
abbrev b_M_same : ByteArray := prog_5_method_12_code
abbrev y_M_same : MethodName := ⟨"PortDrawerModel", "same", "(JI)Z"⟩
abbrev w_M_same : List Cond := .code y_M_same b_M_same 6 (Option.some Jvm.ClassFile.FieldType.boolean) :: tblG
abbrev b_M_fits : ByteArray := prog_5_method_14_code
abbrev y_M_fits : MethodName := ⟨"PortDrawerModel", "fits", "(I)Z"⟩
abbrev w_M_fits : List Cond := .code y_M_fits b_M_fits 2 (Option.some Jvm.ClassFile.FieldType.boolean) :: tblG
abbrev b_M_without : ByteArray := prog_5_method_27_code
abbrev y_M_without : MethodName := ⟨"PortDrawerModel", "without", "(I)I"⟩
abbrev w_M_without : List Cond := .code y_M_without b_M_without 3 (Option.some Jvm.ClassFile.FieldType.int) :: tblG
abbrev b_M_part : ByteArray := prog_5_method_28_code
abbrev y_M_part : MethodName := ⟨"PortDrawerModel", "part", "(II)I"⟩
abbrev w_M_part : List Cond := .code y_M_part b_M_part 5 (Option.some Jvm.ClassFile.FieldType.int) :: tblG
abbrev b_M_count : ByteArray := prog_5_method_30_code
abbrev y_M_count : MethodName := ⟨"PortDrawerModel", "count", "(I)I"⟩
abbrev w_M_count : List Cond := .code y_M_count b_M_count 5 (Option.some Jvm.ClassFile.FieldType.int) :: tblG
abbrev b_L_draw : ByteArray := method_3_code
abbrev y_L_draw : MethodName := ⟨"PortDrawerLaw", "draw", "(LPortDrawer;I[J)I"⟩
abbrev w_L_draw : List Cond := .codeWith y_L_draw b_L_draw 4 (Option.some Jvm.ClassFile.FieldType.int) [((0 : Nat), (9 : Nat), (12 : Nat), (13 : Nat))] :: tblG
abbrev b_L_part : ByteArray := method_4_code
abbrev y_L_part : MethodName := ⟨"PortDrawerLaw", "part", "(LPortDrawer;II[J)I"⟩
abbrev w_L_part : List Cond := .codeWith y_L_part b_L_part 5 (Option.some Jvm.ClassFile.FieldType.int) [((0 : Nat), (10 : Nat), (13 : Nat), (19 : Nat))] :: tblG
abbrev b_L_fits : ByteArray := method_5_code
abbrev y_L_fits : MethodName := ⟨"PortDrawerLaw", "fits", "(LPortDrawer;I[J)I"⟩
abbrev w_L_fits : List Cond := .codeWith y_L_fits b_L_fits 4 (Option.some Jvm.ClassFile.FieldType.int) [((0 : Nat), (16 : Nat), (19 : Nat), (13 : Nat))] :: tblG
abbrev b_L_without : ByteArray := method_6_code
abbrev y_L_without : MethodName := ⟨"PortDrawerLaw", "without", "(LPortDrawer;I[J)I"⟩
abbrev w_L_without : List Cond := .codeWith y_L_without b_L_without 4 (Option.some Jvm.ClassFile.FieldType.int) [((0 : Nat), (9 : Nat), (12 : Nat), (13 : Nat))] :: tblG
abbrev b_L_same : ByteArray := method_7_code
abbrev y_L_same : MethodName := ⟨"PortDrawerLaw", "same", "(LPortDrawer;JI[J)I"⟩
abbrev w_L_same : List Cond := .codeWith y_L_same b_L_same 6 (Option.some Jvm.ClassFile.FieldType.int) [((0 : Nat), (18 : Nat), (21 : Nat), (13 : Nat))] :: tblG
end
section
/-! FORMS OF CONTRACTS: readers (ro), writers (wr), those that may throw (wx). NWl: words across nests and casts; TX: the texts of the exceptions -/
def nk9 : Cond → Bool
  | .fieldLinkNest .. => true
  | .methodLinkNest .. => true
  | .castable .. => true
  | .declares .. => true
  | _ => false
theorem nk9_warm {w : Cond} {s U : State} (hk : nk9 w = true) (hW : s.WarmedH U.vm) (h : va_Nw w s) : va_Nw w U := by
  cases w <;> first | exact va_Nw.warmF hW h | exact va_Nw.warmM hW h | exact va_Nw.warmC hW h | exact va_Nw.warmD hW h | (exfalso; simp [nk9] at hk)
theorem NWl_k : ∀ w ∈ NWl, nk9 w = true := by decide +kernel
theorem NWl_t : ∀ w ∈ NWl, w.onTables = true := by decide +kernel
def NW (U : State) : Prop := ∀ w ∈ NWl, va_Nw w U
theorem NW.same {u U : State} (h : u.vm = U.vm) (hN : NW u) : NW U := fun w hw => va_Nw.same (NWl_t w hw) h (hN w hw)
theorem NW.warm {s U : State} (hW : s.WarmedH U.vm) (hN : NW s) : NW U := fun w hw => nk9_warm (NWl_k w hw) hW (hN w hw)
theorem NW.use {U : State} {A : Array Value} (hN : NW U) {w : Cond} (hw : w ∈ NWl) : w.before A U = true := va_Nw.use (NWl_t w hw) (hN w hw)
def TX (sa : Nat → Nat) (U : State) : Prop := ∀ q ∈ txl, vk_R R_D q.1 q.2 (sa q.1) U
theorem TX.same {sa : Nat → Nat} {u U : State} (h : U.vm = u.vm) (hT : TX sa u) : TX sa U := fun q hq => vk_R.same h (hT q hq)
theorem TX.warm {sa : Nat → Nat} {s U : State} (hW : s.WarmedH U.vm) (hT : TX sa s) : TX sa U := fun q hq => vk_R.warm hW (hT q hq)
section Forms
variable {dC : Nat → ClassId} {dI : Nat → Nat → Nat} {s : State} {H : Heap} {ws : va_W} {tys : List (ClassId × FieldType)} {C : String} {b : Addr} {As : List Value}
abbrev ro_P (dC : Nat → ClassId) (dI : Nat → Nat → Nat) (av : List Value) (ws : va_W) (tys : List (ClassId × FieldType)) : Array Value → State → Prop :=
  va_Pc av (fun U => va_P (dC, dI) classes ws U.heap ∧ va_K (dC, dI) classes tys U ∧ NW U)
theorem ro_blind {av : List Value} : FrameBlind (ro_P dC dI av ws tys) := fun a U g mk q => by
  obtain ⟨q0, qP, qK, qN⟩ := q
  exact ⟨q0, qP, va_K.moved (u := U) (U := U.calling g mk a) (Vm.Alike.refl U.vm) qK, NW.same (u := U) (U := U.calling g mk a) rfl qN⟩
theorem ro_V (hP : va_P (dC, dI) classes ws H) (hK : va_K (dC, dI) classes tys s) (hN : NW s) (hr : ∃ cellB : Cell, H[b]? = some cellB ∧ cellB.vm.isStatics = false ∧ s.vm.findClass C = some cellB.cls) : PreV s H C b (ro_P dC dI (.ref b :: As) ws tys) As :=
  ⟨ro_blind, hr, fun U hU hW => ⟨rfl, by rw [hU]; exact hP, va_K.moved hW.alike hK, NW.warm hW hN⟩⟩
theorem ro_S (hP : va_P (dC, dI) classes ws H) (hK : va_K (dC, dI) classes tys s) (hN : NW s) : PreS s H (ro_P dC dI As ws tys) As :=
  ⟨ro_blind, fun U hU hW => ⟨rfl, by rw [hU]; exact hP, va_K.moved hW.alike hK, NW.warm hW hN⟩⟩
abbrev wr_P (dC : Nat → ClassId) (dI : Nat → Nat → Nat) (av : List Value) (ws : va_W) (tys : List (ClassId × FieldType)) (sz : Nat) : Array Value → State → Prop :=
  va_Pc av (fun U => U.heap.size = sz ∧ va_P (dC, dI) classes ws U.heap ∧ va_K (dC, dI) classes tys U ∧ va_D (fun _ => True) ws ∧ NW U)
abbrev wr_B (dC : Nat → ClassId) (dI : Nat → Nat → Nat) (A : Nat → Prop) (ws : va_W) (tys : List (ClassId × FieldType)) (t : State) : Prop :=
  va_P (dC, dI) classes ws t.heap ∧ va_K (dC, dI) classes tys t ∧ va_D A ws
theorem wr_blind {av : List Value} {sz : Nat} : FrameBlind (wr_P dC dI av ws tys sz) := fun a U g mk q => by
  obtain ⟨q0, q1, qP, qK, qD, qN⟩ := q
  exact ⟨q0, q1, qP, va_K.moved (u := U) (U := U.calling g mk a) (Vm.Alike.refl U.vm) qK, qD, NW.same (u := U) (U := U.calling g mk a) rfl qN⟩
theorem wr_V {A : Nat → Prop} (hP : va_P (dC, dI) classes ws H) (hK : va_K (dC, dI) classes tys s) (hD : va_D A ws) (hN : NW s) (hr : ∃ cellB : Cell, H[b]? = some cellB ∧ cellB.vm.isStatics = false ∧ s.vm.findClass C = some cellB.cls) : PreV s H C b (wr_P dC dI (.ref b :: As) ws tys H.size) As :=
  ⟨wr_blind, hr, fun U hU hW => ⟨rfl, by rw [hU], by rw [hU]; exact hP, va_K.moved hW.alike hK, hD.weaken (fun _ _ _ _ => trivial), NW.warm hW hN⟩⟩
theorem wr_S {A : Nat → Prop} (hP : va_P (dC, dI) classes ws H) (hK : va_K (dC, dI) classes tys s) (hD : va_D A ws) (hN : NW s) : PreS s H (wr_P dC dI As ws tys H.size) As :=
  ⟨wr_blind, fun U hU hW => ⟨rfl, by rw [hU], by rw [hU]; exact hP, va_K.moved hW.alike hK, hD.weaken (fun _ _ _ _ => trivial), NW.warm hW hN⟩⟩
abbrev zqU (A : Nat → Prop) (U : State) (H : Heap) : Prop := vx_Zq Bundle.tN "UNASSIGNED_STACK" Bundle.steD A U H ∧ vx_Zq Bundle.tN "SUPPRESSED_SENTINEL" Bundle.listD A U H
abbrev wx_P (dC : Nat → ClassId) (dI : Nat → Nat → Nat) (av : List Value) (ws : va_W) (tys : List (ClassId × FieldType)) (sa : Nat → Nat) (sz : Nat) : Array Value → State → Prop :=
  va_Pc av (fun U => U.heap.size = sz ∧ va_P (dC, dI) classes ws U.heap ∧ va_K (dC, dI) classes tys U ∧ va_D (fun _ => True) ws ∧ NW U ∧ TX sa U ∧ zqU (va_A ws sz) U U.heap)
theorem wx_blind {av : List Value} {sz : Nat} {sa : Nat → Nat} : FrameBlind (wx_P dC dI av ws tys sa sz) := fun a U g mk q => by
  obtain ⟨q0, q1, qP, qK, qD, qN, qT, qU, qZ⟩ := q
  exact ⟨q0, q1, qP, va_K.moved (u := U) (U := U.calling g mk a) (Vm.Alike.refl U.vm) qK, qD, NW.same (u := U) (U := U.calling g mk a) rfl qN, TX.same (u := U) (U := U.calling g mk a) rfl qT, vx_Zq.moved (u := U) (U := U.calling g mk a) (Vm.Alike.refl U.vm) qU, vx_Zq.moved (u := U) (U := U.calling g mk a) (Vm.Alike.refl U.vm) qZ⟩
theorem zq_go {A : Nat → Prop} {H0 : Heap} {locs : List Loc} {U : State} (h : zqU A s H0) (hS : va_S A H0 H locs) (hF : ∀ q, va_A ws H.size q → A q) (hU : U.heap = H) (hW : s.WarmedH U.vm) : zqU (va_A ws H.size) U U.heap := by
  rw [hU]
  exact ⟨((vx_Zq.kept h.1 (fun a h1 h2 => hS.2.1 a h1 h2)).narrow hF).moved hW.alike, ((vx_Zq.kept h.2 (fun a h1 h2 => hS.2.1 a h1 h2)).narrow hF).moved hW.alike⟩
theorem wx_V {A : Nat → Prop} {sa : Nat → Nat} {H0 : Heap} {locs : List Loc} (hP : va_P (dC, dI) classes ws H) (hK : va_K (dC, dI) classes tys s) (hD : va_D A ws) (hN : NW s) (hT : TX sa s) (hZ : zqU A s H0) (hS : va_S A H0 H locs) (hF : ∀ q, va_A ws H.size q → A q) (hr : ∃ cellB : Cell, H[b]? = some cellB ∧ cellB.vm.isStatics = false ∧ s.vm.findClass C = some cellB.cls) : PreV s H C b (wx_P dC dI (.ref b :: As) ws tys sa H.size) As :=
  ⟨wx_blind, hr, fun U hU hW => ⟨rfl, by rw [hU], by rw [hU]; exact hP, va_K.moved hW.alike hK, hD.weaken (fun _ _ _ _ => trivial), NW.warm hW hN, TX.warm hW hT, zq_go hZ hS hF hU hW⟩⟩
theorem wx_S {A : Nat → Prop} {sa : Nat → Nat} {H0 : Heap} {locs : List Loc} (hP : va_P (dC, dI) classes ws H) (hK : va_K (dC, dI) classes tys s) (hD : va_D A ws) (hN : NW s) (hT : TX sa s) (hZ : zqU A s H0) (hS : va_S A H0 H locs) (hF : ∀ q, va_A ws H.size q → A q) : PreS s H (wx_P dC dI As ws tys sa H.size) As :=
  ⟨wx_blind, fun U hU hW => ⟨rfl, by rw [hU], by rw [hU]; exact hP, va_K.moved hW.alike hK, hD.weaken (fun _ _ _ _ => trivial), NW.warm hW hN, TX.warm hW hT, zq_go hZ hS hF hU hW⟩⟩
abbrev wx_X (dC : Nat → ClassId) (dI : Nat → Nat → Nat) (E9 : String) (A : Nat → Prop) (ws : va_W) (tys : List (ClassId × FieldType)) : String → State → State → Prop :=
  vx_X (fun _ : Unit => True) (fun E (_ : Unit) t => E = E9 ∧ wr_B dC dI A ws tys t) A
end Forms
theorem hat_ok {args : Array Value} {s : State} {c : Cond} {L : List Cond} (hts : ∀ w ∈ c :: tblG, w.before args s = true) (hN : NW s) (h1 : ∀ w ∈ L.filter goodWord, w ∈ lw_tbl) (h2 : ∀ w ∈ L.filter (fun w => !goodWord w), w ∈ NWl) : ∀ w ∈ L, w.before args s = true := by
  intro w hw
  cases hg : goodWord w
  · exact hN.use (h2 w (List.mem_filter.mpr ⟨hw, by rw [hg]; rfl⟩))
  · exact hts w (List.mem_cons_of_mem _ (List.mem_filter.mpr ⟨h1 w (List.mem_filter.mpr ⟨hw, hg⟩), hg⟩))
end
section
/-! PURE: booleans as ints, counting, the first place, choices -/
def bI (b : Bool) : Int32 := cond b (nI 1) (nI 0)
theorem bI_t {b : Bool} (h : ¬ bI b = 0) : b = true := by
  cases b
  · exact absurd rfl h
  · rfl
theorem bI_f {b : Bool} (h : bI b = 0) : b = false := by
  cases b
  · rfl
  · exact absurd h (by decide)
theorem bI_nar (b : Bool) : narrow .boolean (.int (bI b)) = .int (bI b) := by cases b <;> rfl
theorem bI_fit (b : Bool) : fits .boolean (.int (bI b)) = true := by cases b <;> rfl
theorem bI_vp (b : Bool) : vp_nar .boolean (bI b) = bI b := by cases b <;> rfl
theorem bI_inj {a b : Bool} : bI a = bI b ↔ a = b := by
  cases a <;> cases b <;> simp [bI] <;> decide
theorem lc_eq {x y : Int64} : lg_cmp x y = 0 ↔ x = y := by
  unfold lg_cmp
  by_cases h1 : x > y
  · rw [if_pos h1]
    refine ⟨fun h => absurd h (by decide), fun h => ?_⟩
    subst h
    exact absurd h1 Int64.lt_irrefl
  · rw [if_neg h1]
    by_cases h2 : x = y
    · rw [if_pos h2]; exact ⟨fun _ => h2, fun _ => rfl⟩
    · rw [if_neg h2]; exact ⟨fun h => absurd h (by decide), fun h => absurd h h2⟩
theorem nI_z {a : Nat} (h : a < 2 ^ 31) : nI a = 0 ↔ a = 0 := by
  rw [← nI_0, nI_eq h (by omega)]
theorem sw_eq {x y : Int32} {k : Int} (h : x.toInt = k) (h2 : y.toInt = k) : x = y := Int32.toInt_inj.mp (h.trans h2.symm)
def bF (S : Nat → Bool) : Nat → Int32 := fun j => bI (S j)
def uB (S : Nat → Bool) (k : Nat) (b : Bool) : Nat → Bool := fun j => if j = k then b else S j
theorem bF_up (S : Nat → Bool) (k : Nat) (b : Bool) : upd (bF S) k (bI b) = bF (uB S k b) := by
  funext j
  unfold upd bF uB
  by_cases h : j = k <;> simp [h]
/-- how many places below n have P -/
def cnt (P : Nat → Bool) : Nat → Nat
  | 0 => 0
  | n + 1 => cnt P n + (P n).toNat
theorem cnt_t {P : Nat → Bool} {n : Nat} (h : P n = true) : cnt P (n + 1) = cnt P n + 1 := by simp [cnt, h]
theorem cnt_f {P : Nat → Bool} {n : Nat} (h : P n = false) : cnt P (n + 1) = cnt P n := by simp [cnt, h]
theorem cnt_le (P : Nat → Bool) : ∀ n, cnt P n ≤ n
  | 0 => Nat.le_refl 0
  | n + 1 => by
    have h := cnt_le P n
    cases hp : P n
    · rw [cnt_f hp]; omega
    · rw [cnt_t hp]; omega
theorem cnt_mono (P : Nat → Bool) {a : Nat} : ∀ {n}, a ≤ n → cnt P a ≤ cnt P n := by
  intro n h
  induction n with
  | zero => rw [Nat.le_zero.mp h]; exact Nat.le_refl _
  | succ n ih =>
    rcases Nat.lt_or_ge n a with q | q
    · have : a = n + 1 := by omega
      rw [this]; exact Nat.le_refl _
    · exact Nat.le_trans (ih q) (Nat.le_add_right (cnt P n) (P n).toNat)
theorem cnt_congr {P Q : Nat → Bool} : ∀ {n}, (∀ j, j < n → P j = Q j) → cnt P n = cnt Q n
  | 0, _ => rfl
  | n + 1, h => by
    unfold cnt
    rw [cnt_congr (n := n) (fun j hj => h j (by omega)), h n (by omega)]
theorem cnt_all {n : Nat} : ∀ {P : Nat → Bool}, (∀ j, j < n → P j = true) → cnt P n = n := by
  intro P h
  induction n with
  | zero => rfl
  | succ n ih => rw [cnt_t (h n (by omega)), ih (fun j hj => h j (by omega))]
theorem cnt_0 {n : Nat} : ∀ {P : Nat → Bool}, (∀ j, j < n → P j = false) → cnt P n = 0 := by
  intro P h
  induction n with
  | zero => rfl
  | succ n ih => rw [cnt_f (h n (by omega)), ih (fun j hj => h j (by omega))]
theorem cnt_pos {P : Nat → Bool} {n j : Nat} (hj : j < n) (h : P j = true) : 0 < cnt P n := by
  have h1 := cnt_mono P (a := j + 1) (n := n) hj
  rw [cnt_t h] at h1
  omega
/-- P has no more places than Q: strictly fewer if Q has one that P has not -/
theorem cnt_sub {P Q : Nat → Bool} : ∀ {n}, (∀ j, j < n → P j = true → Q j = true) → cnt P n ≤ cnt Q n
  | 0, _ => Nat.le_refl 0
  | n + 1, h => by
    have h1 := cnt_sub (n := n) (fun j hj => h j (by omega))
    have h2 := h n (by omega)
    unfold cnt
    cases hp : P n
    · simp; omega
    · rw [h2 hp]; simp; exact h1
theorem cnt_lt {P Q : Nat → Bool} {n i : Nat} (h : ∀ j, j < n → P j = true → Q j = true) (hi : i < n) (hq : Q i = true) (hp : P i = false) : cnt P n < cnt Q n := by
  induction n with
  | zero => exact absurd hi (Nat.not_lt_zero _)
  | succ n ih =>
    by_cases e : i = n
    · subst e
      have h1 := cnt_sub (n := i) (P := P) (Q := Q) (fun j hj => h j (by omega))
      rw [cnt_t hq, cnt_f hp]
      omega
    · have h1 := ih (fun j hj => h j (by omega)) (by omega)
      have h2 := h n (by omega)
      unfold cnt
      cases hp2 : P n
      · simp; omega
      · rw [h2 hp2]; simp; exact h1
/-- the first place below n that has Q -/
def fst9 (Q : Nat → Bool) : Nat → Option Nat
  | 0 => none
  | n + 1 => match fst9 Q n with
    | some i => some i
    | none => if Q n = true then some n else none
theorem fst9_none {Q : Nat → Bool} : ∀ {n}, (∀ a, a < n → Q a = false) → fst9 Q n = none
  | 0, _ => rfl
  | n + 1, h => by
    unfold fst9
    rw [fst9_none (n := n) (fun a ha => h a (by omega)), h n (by omega)]
    rfl
theorem fst9_some {Q : Nat → Bool} {i : Nat} (hq : Q i = true) (hb : ∀ a, a < i → Q a = false) : ∀ {n}, i < n → fst9 Q n = some i := by
  intro n h
  induction n with
  | zero => exact absurd h (Nat.not_lt_zero _)
  | succ n ih =>
    unfold fst9
    by_cases e : i = n
    · subst e
      rw [fst9_none hb, hq]
      rfl
    · rw [ih (by omega)]
theorem fst9_spec {Q : Nat → Bool} {i : Nat} : ∀ {n}, fst9 Q n = some i → i < n ∧ Q i = true ∧ ∀ a, a < i → Q a = false := by
  intro n h
  by_cases hx : ∃ k, k < n ∧ Q k = true
  · obtain ⟨k, hk, hl⟩ := pk_least (fun k => k < n ∧ Q k = true) hx
    have e : fst9 Q n = some k := fst9_some hk.2 (fun a ha => by
      cases hq : Q a
      · rfl
      · exact absurd ⟨by omega, hq⟩ (hl a ha)) hk.1
    rw [h] at e
    cases e
    exact ⟨hk.1, hk.2, fun a ha => by
      cases hq : Q a
      · rfl
      · exact absurd ⟨by omega, hq⟩ (hl a ha)⟩
  · rw [fst9_none (fun a ha => by
      cases hq : Q a
      · rfl
      · exact absurd ⟨a, ha, hq⟩ hx)] at h
    cases h
theorem fst9_no {Q : Nat → Bool} {n : Nat} (h : fst9 Q n = none) : ∀ a, a < n → Q a = false := by
  intro a ha
  cases hq : Q a
  · rfl
  · exfalso
    obtain ⟨k, hk, hl⟩ := pk_least (fun k => k < n ∧ Q k = true) ⟨a, ha, hq⟩
    have e : fst9 Q n = some k := fst9_some hk.2 (fun b hb => by
      cases hq : Q b
      · rfl
      · exact absurd ⟨by omega, hq⟩ (hl b hb)) hk.1
    rw [h] at e
    cases e
theorem fst9_congr {P Q : Nat → Bool} : ∀ {n}, (∀ j, j < n → P j = Q j) → fst9 P n = fst9 Q n
  | 0, _ => rfl
  | n + 1, h => by
    unfold fst9
    rw [fst9_congr (n := n) (fun j hj => h j (by omega)), h n (by omega)]
def oI : Option Nat → Int32
  | none => -1
  | some i => nI i
theorem oI_m1 {o : Option Nat} (h : ∀ i, o = some i → i < 2 ^ 31) : oI o = -1 ↔ o = none := by
  cases o with
  | none => exact ⟨fun _ => rfl, fun _ => rfl⟩
  | some i =>
    refine ⟨fun e => ?_, fun e => by cases e⟩
    have h1 := nI_toInt (h i rfl)
    have e2 : nI i = -1 := e
    rw [e2] at h1
    have h3 : (-1 : Int32).toInt = -1 := by decide
    omega
/-- is x a place below n -/
def hB (n : Nat) (x : Int32) : Bool := !(decide (x < 0)) && !(decide (nI n ≤ x))
theorem hB_of {n : Nat} {x : Int32} (h : hB n x = true) (hn : n < 2 ^ 31) : ∃ j, j < n ∧ x = nI j := by
  unfold hB at h
  simp only [Bool.and_eq_true, Bool.not_eq_true', decide_eq_false_iff_not] at h
  rcases pk_ix x hn with q | q | q
  · exact absurd q h.1
  · exact absurd q h.2
  · exact q
theorem hB_nI {n j : Nat} (h : j < n) (hn : n < 2 ^ 31) : hB n (nI j) = true := by
  unfold hB
  rw [decide_eq_false (nI_pos (by omega)), decide_eq_false (nI_ge h hn)]
  rfl
theorem hB_m1 (n : Nat) : hB n (-1) = false := by
  unfold hB
  rw [decide_eq_true (by decide)]
  rfl
theorem hB_in {n : Nat} {x : Int32} (h : hB n x = true) (hn : n ≤ 43) : vp_in x 43 := by
  obtain ⟨j, hj, rfl⟩ := hB_of h (by omega)
  exact vp_in_nI (by omega) (by omega)
end
section
/-! families out of kit/laws/BITS.to-paste, whole -/
/-! ===== Int32 by its bits: bt x i ===== -/
def bt (x : Int32) (i : Nat) : Bool := x.toBitVec.getLsbD i
theorem b_ext {x y : Int32} (h : ∀ i, i < 32 → bt x i = bt y i) : x = y := Int32.toBitVec_inj.mp (BitVec.eq_of_getLsbD_eq (fun i hi => h i hi))
theorem b_or (x y : Int32) (i : Nat) : bt (x ||| y) i = (bt x i || bt y i) := by unfold bt; rw [Int32.toBitVec_or, BitVec.getLsbD_or]
theorem b_and (x y : Int32) (i : Nat) : bt (x &&& y) i = (bt x i && bt y i) := by unfold bt; rw [Int32.toBitVec_and, BitVec.getLsbD_and]
theorem b_xor (x y : Int32) (i : Nat) : bt (x ^^^ y) i = (bt x i ^^ bt y i) := by unfold bt; rw [Int32.toBitVec_xor, BitVec.getLsbD_xor]
theorem b_big {x : Int32} {i : Nat} (h : 32 ≤ i) : bt x i = false := BitVec.getLsbD_of_ge _ _ h
theorem b_255 (i : Nat) : bt 255 i = decide (i < 8) := by
  rcases Nat.lt_or_ge i 32 with h | h
  · exact (by decide +kernel : ∀ i, i < 32 → bt 255 i = decide (i < 8)) i h
  · rw [b_big h, decide_eq_false (by omega)]
theorem b_65535 (i : Nat) : bt 65535 i = decide (i < 16) := by
  rcases Nat.lt_or_ge i 32 with h | h
  · exact (by decide +kernel : ∀ i, i < 32 → bt 65535 i = decide (i < 16)) i h
  · rw [b_big h, decide_eq_false (by omega)]
theorem b_m1 : ∀ i, i < 32 → bt (-1) i = true := by decide +kernel
theorem b_0 (i : Nat) : bt 0 i = false := BitVec.getLsbD_zero
theorem s_l : ∀ n, n < 32 → ((nI n &&& 31).toBitVec.smod 32).toNat = n := by decide +kernel
theorem s_u : ∀ n, n < 32 → (((nI n).toUInt32 &&& Int32.toUInt32 31).toBitVec % 32).toNat = n := by decide +kernel
theorem b_shl (n : Nat) (hn : n < 32) (x : Int32) {i : Nat} (hi : i < 32) : bt (x <<< (nI n &&& 31)) i = (decide (n ≤ i) && bt x (i - n)) := by
  unfold bt
  rw [Int32.toBitVec_shiftLeft]
  show (x.toBitVec <<< ((nI n &&& 31).toBitVec.smod 32).toNat).getLsbD i = _
  rw [s_l n hn, BitVec.getLsbD_shiftLeft]
  rcases Nat.lt_or_ge i n with h | h
  · simp [h, Nat.not_le.mpr h]
  · simp [hi, h, Nat.not_lt.mpr h]
theorem b_ushr (n : Nat) (hn : n < 32) (x : Int32) (i : Nat) : bt ((x.toUInt32 >>> ((nI n).toUInt32 &&& Int32.toUInt32 31)).toInt32) i = bt x (n + i) := by
  show (x.toUInt32 >>> ((nI n).toUInt32 &&& Int32.toUInt32 31)).toBitVec.getLsbD i = x.toUInt32.toBitVec.getLsbD (n + i)
  rw [UInt32.toBitVec_shiftRight]
  show (x.toUInt32.toBitVec >>> (((nI n).toUInt32 &&& Int32.toUInt32 31).toBitVec % 32).toNat).getLsbD i = _
  rw [s_u n hn, BitVec.getLsbD_ushiftRight]
theorem b_sshr (n : Nat) (hn : n < 32) (x : Int32) {i : Nat} (hi : i < 32) : bt (x >>> (nI n &&& 31)) i = if n + i < 32 then bt x (n + i) else bt x 31 := by
  unfold bt
  rw [Int32.toBitVec_shiftRight]
  show (x.toBitVec.sshiftRight ((nI n &&& 31).toBitVec.smod 32).toNat).getLsbD i = _
  rw [s_l n hn, BitVec.getLsbD_sshiftRight, BitVec.msb_eq_getLsbD_last]
  simp [hi]
theorem b_shl8 (x : Int32) {i : Nat} (hi : i < 32) : bt (x <<< ((8 : Int32) &&& 31)) i = (decide (8 ≤ i) && bt x (i - 8)) := b_shl 8 (by omega) x hi
theorem b_shl16 (x : Int32) {i : Nat} (hi : i < 32) : bt (x <<< ((16 : Int32) &&& 31)) i = (decide (16 ≤ i) && bt x (i - 16)) := b_shl 16 (by omega) x hi
theorem b_shl24 (x : Int32) {i : Nat} (hi : i < 32) : bt (x <<< ((24 : Int32) &&& 31)) i = (decide (24 ≤ i) && bt x (i - 24)) := b_shl 24 (by omega) x hi
theorem b_sshr8 (x : Int32) {i : Nat} (hi : i < 32) : bt (x >>> ((8 : Int32) &&& 31)) i = if 8 + i < 32 then bt x (8 + i) else bt x 31 := b_sshr 8 (by omega) x hi
/-! ===== Int64 as a set of bits: test, set, clear ===== -/
theorem ts_nf {x : Bool} (h : ¬ x = false) : x = true := by cases x <;> first | rfl | exact absurd rfl h
theorem ts_nt {x : Bool} (h : ¬ x = true) : x = false := by cases x <;> first | rfl | exact absurd rfl h
theorem ts_bit {w : Int64} {s : UInt64} {j : Nat} (hj : j < 64) (hs : s.toNat = j) : ((w.toUInt64 >>> s).toInt64 &&& 1) = 0 ↔ w.toBitVec.getLsbD j = false := by
  have e : (w.toUInt64 >>> s).toInt64.toBitVec = w.toBitVec >>> j := by
    apply BitVec.eq_of_toNat_eq
    show (w.toUInt64 >>> s).toNat = _
    rw [UInt64.toNat_shiftRight, hs, Nat.mod_eq_of_lt hj, BitVec.toNat_ushiftRight]
    rfl
  rw [← Int64.toBitVec_inj, Int64.toBitVec_and, e]
  show w.toBitVec >>> j &&& 1#64 = 0#64 ↔ _
  constructor
  · intro h
    have t := congrArg (fun x => x.getLsbD 0) h
    simpa using t
  · intro h
    apply BitVec.eq_of_getLsbD_eq
    intro i hi
    cases i with
    | zero => simp [h]
    | succ i => simp
theorem ts_or {w m : Int64} {j : Nat} (hj : j < 64) (hm : m.toBitVec = BitVec.twoPow 64 j) : (w ||| m) = w ↔ w.toBitVec.getLsbD j = true := by
  rw [← Int64.toBitVec_inj, Int64.toBitVec_or, hm]
  constructor
  · intro h
    have t := congrArg (fun x => x.getLsbD j) h
    simp only [BitVec.getLsbD_or, BitVec.getLsbD_twoPow] at t
    simpa [hj] using t.symm
  · intro h
    apply BitVec.eq_of_getLsbD_eq
    intro i hi
    rw [BitVec.getLsbD_or, BitVec.getLsbD_twoPow]
    by_cases e : j = i
    · subst e; rw [h, Bool.true_or]
    · simp [e]
theorem ts_and {w m : Int64} {j : Nat} (hj : j < 64) (hm : m.toBitVec = BitVec.twoPow 64 j) : (w &&& (m ^^^ (-1))) = w ↔ w.toBitVec.getLsbD j = false := by
  have ha : (-1 : Int64).toBitVec = BitVec.allOnes 64 := by decide
  rw [← Int64.toBitVec_inj, Int64.toBitVec_and, Int64.toBitVec_xor, hm, ha]
  constructor
  · intro h
    have t := congrArg (fun x => x.getLsbD j) h
    simp only [BitVec.getLsbD_and, BitVec.getLsbD_xor, BitVec.getLsbD_twoPow, BitVec.getLsbD_allOnes] at t
    simpa [hj] using t.symm
  · intro h
    apply BitVec.eq_of_getLsbD_eq
    intro i hi
    rw [BitVec.getLsbD_and, BitVec.getLsbD_xor, BitVec.getLsbD_twoPow, BitVec.getLsbD_allOnes]
    by_cases e : j = i
    · subst e; rw [h, Bool.false_and]
    · simp [e, hi]
/-! ===== lN n to 2^64: shifts, and, or, masks, one bit ===== -/
theorem wb_tb (n : Nat) : (lN n).toBitVec = BitVec.ofNat 64 n := rfl
theorem wb_inj {a b : Int64} (h : a.toBitVec = b.toBitVec) : a = b := Int64.toBitVec_inj.mp h
theorem wb_tn {n : Nat} (h : n < 2 ^ 64) : (lN n).toBitVec.toNat = n := by rw [wb_tb, BitVec.toNat_ofNat, Nat.mod_eq_of_lt h]
theorem wb_of (x : Int64) : ∃ n, n < 2 ^ 64 ∧ x = lN n := ⟨x.toBitVec.toNat, x.toBitVec.isLt, wb_inj (by rw [wb_tb]; simp)⟩
theorem wb_of32 (x : Int32) : ∃ n, n < 2 ^ 32 ∧ x = nI n := ⟨x.toBitVec.toNat, x.toBitVec.isLt, Int32.toBitVec_inj.mp (by show _ = BitVec.ofNat 32 _; simp)⟩
theorem wb_c : ∀ k, k < 64 → ((nI k).toInt64 &&& 63) = lN k := by decide +kernel
theorem wb_cu : ∀ k, k < 64 → ((nI k).toInt64.toUInt64 &&& Int64.toUInt64 63) = UInt64.ofNat k := by decide +kernel
theorem wb_sm : ∀ k, k < 64 → (BitVec.ofNat 64 k).smod 64 = BitVec.ofNat 64 k := by decide +kernel
theorem wb_pw {a b : Nat} (h : a ≤ b) : 2 ^ b = 2 ^ a * 2 ^ (b - a) := by rw [← Nat.pow_add]; congr 1; omega
theorem wb_lt2 {a b : Nat} (h : a < b) : 2 ^ a < 2 ^ b := Nat.pow_lt_pow_right (by decide) h
theorem wb_mod (n : Nat) : lN n = lN (n % 2 ^ 64) := wb_inj (by rw [wb_tb, wb_tb]; apply BitVec.eq_of_toNat_eq; rw [BitVec.toNat_ofNat, BitVec.toNat_ofNat, Nat.mod_mod])
theorem wb_shr {n k : Nat} (hn : n < 2 ^ 64) (hk : k < 64) : ((lN n).toUInt64 >>> ((nI k).toInt64.toUInt64 &&& Int64.toUInt64 63)).toInt64 = lN (n / 2 ^ k) := by
  rw [wb_cu k hk]
  apply wb_inj
  apply BitVec.eq_of_toNat_eq
  show ((lN n).toUInt64 >>> UInt64.ofNat k).toNat = (BitVec.ofNat 64 _).toNat
  have h1 : (UInt64.ofNat k).toNat = k := by
    show (BitVec.ofNat 64 k).toNat = k
    rw [BitVec.toNat_ofNat, Nat.mod_eq_of_lt (by omega)]
  have h2 : (lN n).toUInt64.toNat = n := wb_tn hn
  rw [UInt64.toNat_shiftRight, h1, h2, Nat.mod_eq_of_lt hk, Nat.shiftRight_eq_div_pow, BitVec.toNat_ofNat, Nat.mod_eq_of_lt (Nat.lt_of_le_of_lt (Nat.div_le_self _ _) hn)]
theorem wb_shl (n : Nat) {k : Nat} (hk : k < 64) : lN n <<< ((nI k).toInt64 &&& 63) = lN (n * 2 ^ k) := by
  rw [wb_c k hk]
  apply wb_inj
  rw [Int64.toBitVec_shiftLeft, wb_tb, wb_tb, wb_tb, wb_sm k hk]
  apply BitVec.eq_of_toNat_eq
  rw [BitVec.shiftLeft_eq', BitVec.toNat_shiftLeft, BitVec.toNat_ofNat, BitVec.toNat_ofNat, BitVec.toNat_ofNat, Nat.mod_eq_of_lt (show k < 2 ^ 64 by omega), Nat.shiftLeft_eq, Nat.mul_mod, Nat.mod_mod, ← Nat.mul_mod]
theorem wb_and {a b : Nat} (ha : a < 2 ^ 64) (hb : b < 2 ^ 64) : lN a &&& lN b = lN (a &&& b) := by
  apply wb_inj
  rw [Int64.toBitVec_and, wb_tb, wb_tb, wb_tb]
  apply BitVec.eq_of_toNat_eq
  rw [BitVec.toNat_and, BitVec.toNat_ofNat, BitVec.toNat_ofNat, BitVec.toNat_ofNat, Nat.mod_eq_of_lt ha, Nat.mod_eq_of_lt hb, Nat.mod_eq_of_lt (Nat.and_lt_two_pow _ hb)]
theorem wb_or {a b : Nat} (ha : a < 2 ^ 64) (hb : b < 2 ^ 64) : lN a ||| lN b = lN (a ||| b) := by
  apply wb_inj
  rw [Int64.toBitVec_or, wb_tb, wb_tb, wb_tb]
  apply BitVec.eq_of_toNat_eq
  rw [BitVec.toNat_or, BitVec.toNat_ofNat, BitVec.toNat_ofNat, BitVec.toNat_ofNat, Nat.mod_eq_of_lt ha, Nat.mod_eq_of_lt hb, Nat.mod_eq_of_lt (Nat.or_lt_two_pow ha hb)]
theorem wb_mask {n k : Nat} (hn : n < 2 ^ 64) (hk : k < 64) : lN n &&& lN (2 ^ k - 1) = lN (n % 2 ^ k) := by
  rw [wb_and hn (by have := wb_lt2 hk; omega), Nat.and_two_pow_sub_one_eq_mod]
theorem wb_a1 {n : Nat} (hn : n < 2 ^ 64) : lN n &&& 1 = lN (n % 2) := wb_mask (k := 1) hn (by decide)
theorem wb_bit {n k : Nat} (hn : n < 2 ^ 64) (hk : k < 64) : ((lN n).toUInt64 >>> ((nI k).toInt64.toUInt64 &&& Int64.toUInt64 63)).toInt64 &&& 1 = lN (n / 2 ^ k % 2) := by
  rw [wb_shr hn hk, wb_a1 (Nat.lt_of_le_of_lt (Nat.div_le_self _ _) hn)]
theorem wb_xor {q k : Nat} (hk : k < 63) (h : 2 ^ k ≤ q) (h2 : q < 2 ^ (k + 1)) : lN q ^^^ lN (2 ^ k) = lN (q - 2 ^ k) := by
  obtain ⟨r, rfl⟩ : ∃ r, q = 2 ^ k + r := ⟨q - 2 ^ k, by omega⟩
  have hr : r < 2 ^ k := by rw [Nat.pow_succ] at h2; omega
  have hx : (2 ^ k + r) ^^^ 2 ^ k = r := by
    apply Nat.eq_of_testBit_eq
    intro i
    rw [Nat.testBit_xor, Nat.testBit_two_pow]
    rcases Nat.lt_trichotomy i k with h | h | h
    · rw [Nat.testBit_two_pow_add_gt h]
      simp [show ¬ k = i by omega]
    · subst h
      rw [Nat.testBit_two_pow_add_eq]
      simp
    · have a1 : 2 ^ (k + 1) ≤ 2 ^ i := Nat.pow_le_pow_right (by decide) h
      rw [Nat.testBit_lt_two_pow (show 2 ^ k + r < 2 ^ i by omega), Nat.testBit_lt_two_pow (show r < 2 ^ i by omega)]
      simp [show ¬ k = i by omega]
  have b1 := wb_lt2 (show k + 1 < 64 by omega)
  have b2 := wb_lt2 (show k < 64 by omega)
  apply wb_inj
  rw [Int64.toBitVec_xor, wb_tb, wb_tb, wb_tb]
  apply BitVec.eq_of_toNat_eq
  rw [BitVec.toNat_xor, BitVec.toNat_ofNat, BitVec.toNat_ofNat, BitVec.toNat_ofNat, Nat.mod_eq_of_lt (by omega : 2 ^ k + r < 2 ^ 64), Nat.mod_eq_of_lt b2, hx, Nat.add_sub_cancel_left, Nat.mod_eq_of_lt (by omega)]
end
section
/-! PURE: a long as a set of bits; how many bits -/
def wbit (w : Int64) (j : Nat) : Bool := w.toBitVec.getLsbD j
theorem wbit_ext {x y : Int64} (h : ∀ j, j < 64 → wbit x j = wbit y j) : x = y := Int64.toBitVec_inj.mp (BitVec.eq_of_getLsbD_eq (fun i hi => h i hi))
theorem wbit_or (x y : Int64) (j : Nat) : wbit (x ||| y) j = (wbit x j || wbit y j) := by unfold wbit; rw [Int64.toBitVec_or, BitVec.getLsbD_or]
theorem wbit_and (x y : Int64) (j : Nat) : wbit (x &&& y) j = (wbit x j && wbit y j) := by unfold wbit; rw [Int64.toBitVec_and, BitVec.getLsbD_and]
theorem wbit_xor (x y : Int64) (j : Nat) : wbit (x ^^^ y) j = (wbit x j ^^ wbit y j) := by unfold wbit; rw [Int64.toBitVec_xor, BitVec.getLsbD_xor]
theorem wbit_big {x : Int64} {j : Nat} (h : 64 ≤ j) : wbit x j = false := BitVec.getLsbD_of_ge _ _ h
theorem wbit_0 (j : Nat) : wbit 0 j = false := BitVec.getLsbD_zero
theorem wbit_m1 : ∀ j, j < 64 → wbit (-1) j = true := by decide +kernel
theorem wbit_no (x y : Int64) {j : Nat} (h : j < 64) : wbit (x &&& (y ^^^ (-1))) j = (wbit x j && !wbit y j) := by
  rw [wbit_and, wbit_xor, wbit_m1 j h]
  cases wbit y j <;> rfl
theorem wbit_one : ∀ i, i < 64 → ∀ j, j < 64 → wbit ((1 : Int64) <<< ((nI i).toInt64 &&& 63)) j = decide (j = i) := by decide +kernel
theorem wbit_all : ∀ n, n < 64 → ∀ j, j < 64 → wbit (((1 : Int64) <<< ((nI n).toInt64 &&& 63)) - 1) j = decide (j < n) := by decide +kernel
theorem wbit_tst (w : Int64) {i : Nat} (hi : i < 64) : ((w.toUInt64 >>> ((nI i).toInt64.toUInt64 &&& Int64.toUInt64 63)).toInt64 &&& 1) = 0 ↔ wbit w i = false :=
  ts_bit hi (by rw [wb_cu i hi]; exact Nat.mod_eq_of_lt (by omega))
theorem wbit_z {w : Int64} : w = 0 ↔ ∀ j, j < 64 → wbit w j = false := by
  refine ⟨fun h j _ => by rw [h]; exact wbit_0 j, fun h => wbit_ext (fun j hj => by rw [h j hj, wbit_0])⟩
theorem wbit_lN {n : Nat} (h : n < 2 ^ 64) (j : Nat) : wbit (lN n) j = n.testBit j := by
  unfold wbit
  rw [BitVec.getLsbD, wb_tn h]
/-! how many bits: the library's way, byte by byte -/
def mk9 (b : Nat) : Nat → Nat
  | 0 => 0
  | k + 1 => 256 * mk9 b k + b
theorem and8 {a p : Nat} (ha : a < 256) (hp : p < 256) (m q : Nat) : (256 * m + a) &&& (256 * q + p) = 256 * (m &&& q) + (a &&& p) := by
  have hap : a &&& p < 2 ^ 8 := Nat.and_lt_two_pow a hp
  apply Nat.eq_of_testBit_eq
  intro i
  rw [Nat.testBit_and, show 256 * m + a = 2 ^ 8 * m + a from rfl, show 256 * q + p = 2 ^ 8 * q + p from rfl, show 256 * (m &&& q) + (a &&& p) = 2 ^ 8 * (m &&& q) + (a &&& p) from rfl,
    Nat.testBit_two_pow_mul_add _ ha, Nat.testBit_two_pow_mul_add _ hp, Nat.testBit_two_pow_mul_add _ hap]
  by_cases h : i < 8
  · rw [if_pos h, if_pos h, if_pos h, Nat.testBit_and]
  · rw [if_neg h, if_neg h, if_neg h, Nat.testBit_and]
def s19 (k n : Nat) : Nat := n - ((n / 2) &&& mk9 0x55 k)
def s29 (k n : Nat) : Nat := (n &&& mk9 0x33 k) + ((n / 4) &&& mk9 0x33 k)
def s39 (k n : Nat) : Nat := (n + n / 16) &&& mk9 0x0f k
theorem b19 : ∀ a, a < 256 → ∀ z, z < 2 → (128 * z + a / 2) &&& 0x55 = (a / 2) &&& 0x55 := by decide +kernel
theorem b29 : ∀ a, a < 256 → ∀ z, z < 4 → (64 * z + a / 4) &&& 0x33 = (a / 4) &&& 0x33 := by decide +kernel
theorem s19_1 (a : Nat) : s19 1 a = a - ((a / 2) &&& 0x55) := rfl
theorem s29_1 (a : Nat) : s29 1 a = (a &&& 0x33) + ((a / 4) &&& 0x33) := rfl
theorem s19_s (k m a : Nat) (ha : a < 256) : s19 (k + 1) (256 * m + a) = 256 * s19 k m + s19 1 a := by
  have e : (256 * m + a) / 2 = 256 * (m / 2) + (128 * (m % 2) + a / 2) := by omega
  have h1 : m / 2 &&& mk9 0x55 k ≤ m / 2 := Nat.and_le_left
  have h2 : a / 2 &&& 0x55 ≤ a / 2 := Nat.and_le_left
  rw [s19_1]
  show 256 * m + a - ((256 * m + a) / 2 &&& (256 * mk9 0x55 k + 0x55)) = 256 * (m - (m / 2 &&& mk9 0x55 k)) + (a - (a / 2 &&& 0x55))
  rw [e, and8 (by omega) (by decide), b19 a ha (m % 2) (Nat.mod_lt _ (by decide))]
  omega
theorem s29_s (k m a : Nat) (ha : a < 256) : s29 (k + 1) (256 * m + a) = 256 * s29 k m + s29 1 a := by
  have e : (256 * m + a) / 4 = 256 * (m / 4) + (64 * (m % 4) + a / 4) := by omega
  rw [s29_1]
  show (256 * m + a &&& (256 * mk9 0x33 k + 0x33)) + ((256 * m + a) / 4 &&& (256 * mk9 0x33 k + 0x33)) = 256 * ((m &&& mk9 0x33 k) + (m / 4 &&& mk9 0x33 k)) + ((a &&& 0x33) + (a / 4 &&& 0x33))
  rw [e, and8 ha (by decide), and8 (by omega) (by decide), b29 a ha (m % 4) (Nat.mod_lt _ (by decide))]
  omega
/-- the bits of a byte -/
def pb9 (a : Nat) : Nat := cnt a.testBit 8
def t29 (k n : Nat) : Nat := s29 k (s19 k n)
theorem t29_b : ∀ a, a < 256 → s19 1 a < 256 ∧ t29 1 a ≤ 0x44 ∧ t29 1 a % 16 ≤ 4 ∧ (t29 1 a + t29 1 a / 16) % 16 = pb9 a := by decide +kernel
theorem t29_s (k m a : Nat) (ha : a < 256) : t29 (k + 1) (256 * m + a) = 256 * t29 k m + t29 1 a := by
  unfold t29
  rw [s19_s k m a ha, s29_s k _ _ (t29_b a ha).1]
theorem t29_m : ∀ k n, t29 k n % 16 ≤ 4
  | 0, n => by
    have e : t29 0 n = 0 := by
      show (n - (n / 2 &&& 0) &&& 0) + ((n - (n / 2 &&& 0)) / 4 &&& 0) = 0
      simp
    rw [e]; decide
  | k + 1, n => by
    have e : n = 256 * (n / 256) + n % 256 := by omega
    have h := t29_b (n % 256) (Nat.mod_lt _ (by decide))
    rw [e, t29_s k _ _ (Nat.mod_lt _ (by decide))]
    omega
/-- the bytes' numbers of bits, side by side -/
def T9 : Nat → Nat → Nat
  | 0, _ => 0
  | k + 1, n => 256 * T9 k (n / 256) + pb9 (n % 256)
theorem s39_T : ∀ k n, s39 k (t29 k n) = T9 k n
  | 0, n => by
    show (_ &&& 0) = 0
    simp
  | k + 1, n => by
    have ha : n % 256 < 256 := Nat.mod_lt _ (by decide)
    have hb := t29_b (n % 256) ha
    have hm := t29_m k (n / 256)
    have ih := s39_T k (n / 256)
    have e : n = 256 * (n / 256) + n % 256 := by omega
    have e1 : t29 (k + 1) n = 256 * t29 k (n / 256) + t29 1 (n % 256) := by
      conv => lhs; rw [e]
      exact t29_s k _ _ ha
    rw [e1]
    unfold T9
    rw [← ih, ← hb.2.2.2]
    generalize t29 k (n / 256) = m at hm ⊢
    generalize t29 1 (n % 256) = a at hb ⊢
    show (256 * m + a + (256 * m + a) / 16) &&& (256 * mk9 0x0f k + 0x0f) = 256 * ((m + m / 16) &&& mk9 0x0f k) + (a + a / 16) % 16
    have e2 : 256 * m + a + (256 * m + a) / 16 = 256 * (m + m / 16) + (a + a / 16 + 16 * (m % 16)) := by omega
    rw [e2, and8 (by omega) (by decide), show (0x0f : Nat) = 2 ^ 4 - 1 from rfl, Nat.and_two_pow_sub_one_eq_mod (a + a / 16 + 16 * (m % 16)) 4]
    omega
theorem pb9_le (a : Nat) : pb9 a ≤ 8 := cnt_le _ 8
/-- the sum of the bytes' numbers -/
def S9 : Nat → Nat → Nat
  | 0, _ => 0
  | k + 1, n => S9 k (n / 256) + pb9 (n % 256)
theorem f9a {u v c : Nat} (e : u = 256 * v + c) (g : c ≤ 32) : u / 256 = v := by omega
theorem f9b {X Y a b : Nat} (e : X = 65536 * Y + (256 * a + b)) (ha : a ≤ 16) (hb : b ≤ 16) : X / 65536 = Y := by omega
theorem f9c {X0 X1 X2 X3 X4 a0 a1 a2 a3 : Nat} (e0 : X0 = 256 * X1 + a0) (e1 : X1 = 256 * X2 + a1) (e2 : X2 = 256 * X3 + a2) (e3 : X3 = 256 * X4 + a3) (g0 : a0 ≤ 32) (g1 : a1 ≤ 32) (g2 : a2 ≤ 32) (g3 : a3 ≤ 32) : X0 / 4294967296 = X4 := by
  have y : X0 = 4294967296 * X4 + (16777216 * a3 + 65536 * a2 + 256 * a1 + a0) := by omega
  clear e0 e1 e2 e3
  omega
theorem f9d {u0 u1 u2 c0 c1 u3 c2 : Nat} (e0 : u0 = 256 * u1 + c0) (e1 : u1 = 256 * u2 + c1) (e2 : u2 = 256 * u3 + c2) : u0 + u1 = 65536 * (u2 + u3) + (256 * (c1 + c2) + (c0 + c1)) := by omega
theorem f9e {u0 u1 u2 u3 u4 c0 c1 c2 c3 : Nat} (e0 : u0 = 256 * u1 + c0) (e1 : u1 = 256 * u2 + c1) (e2 : u2 = 256 * u3 + c2) (e3 : u3 = 256 * u4 + c3) : u0 + u1 + (u2 + u3) = 256 * (u1 + u2 + (u3 + u4)) + (c0 + c1 + c2 + c3) := by omega
theorem f9f {u v c b : Nat} (e : u = 256 * v + c) (g : c ≤ 8) (h : v + 1 ≤ b) : u + 1 ≤ 256 * b := by omega
theorem f9g {u0 u1 u2 u3 u4 u5 u6 u7 : Nat} (b0 : u0 + 1 ≤ 648518346341351424) (b1 : u1 + 1 ≤ 2533274790395904) (b2 : u2 + 1 ≤ 2533274790395904) (b3 : u3 + 1 ≤ 2533274790395904) (b4 : u4 + 1 ≤ 2533274790395904) (b5 : u5 + 1 ≤ 2533274790395904) (b6 : u6 + 1 ≤ 2533274790395904) (b7 : u7 + 1 ≤ 2533274790395904) : u0 < 18446744073709551616 ∧ u0 + u1 < 18446744073709551616 ∧ u0 + u1 + (u2 + u3) < 18446744073709551616 ∧ u0 + u1 + (u2 + u3) + (u4 + u5 + (u6 + u7)) < 18446744073709551616 := by omega
theorem f9h {u0 u1 u2 u3 u4 u5 u6 u7 c0 c1 c2 c3 c4 c5 c6 c7 : Nat} (e0 : u0 = 256 * u1 + c0) (e1 : u1 = 256 * u2 + c1) (e2 : u2 = 256 * u3 + c2) (e3 : u3 = 256 * u4 + c3) (e4 : u4 = 256 * u5 + c4) (e5 : u5 = 256 * u6 + c5) (e6 : u6 = 256 * u7 + c6) (e7 : u7 = c7) : u0 + u1 + (u2 + u3) + (u4 + u5 + (u6 + u7)) = 128 * (2 * (u1 + u2 + u3 + u4 + u5 + u6 + u7)) + (c7 + c6 + c5 + c4 + c3 + c2 + c1 + c0) := by omega
theorem f9i {X Y z : Nat} (e : X = 128 * Y + z) (h : z ≤ 64) : X % 128 = z := by omega
theorem T9_s (k n : Nat) : T9 (k + 1) n = 256 * T9 k (n / 256) + pb9 (n % 256) := rfl
theorem T9_1 (n : Nat) : T9 1 n = pb9 (n % 256) := by rw [T9_s 0, show T9 0 (n / 256) = 0 from rfl]; omega
theorem S9_s (k n : Nat) : S9 (k + 1) n = S9 k (n / 256) + pb9 (n % 256) := rfl
theorem S9_1 (n : Nat) : S9 1 n = pb9 (n % 256) := by rw [S9_s 0, show S9 0 (n / 256) = 0 from rfl]; omega
theorem fold9 (n : Nat) : T9 8 n < 18446744073709551616 ∧ T9 8 n + T9 8 n / 256 < 18446744073709551616 ∧ T9 8 n + T9 8 n / 256 + (T9 8 n + T9 8 n / 256) / 65536 < 18446744073709551616 ∧ ∃ z, T9 8 n + T9 8 n / 256 + (T9 8 n + T9 8 n / 256) / 65536 + (T9 8 n + T9 8 n / 256 + (T9 8 n + T9 8 n / 256) / 65536) / 4294967296 = z ∧ z < 18446744073709551616 ∧ z % 128 = S9 8 n := by
  have e0 := T9_s 7 n
  have e1 := T9_s 6 (n / 256)
  have e2 := T9_s 5 (n / 256 / 256)
  have e3 := T9_s 4 (n / 256 / 256 / 256)
  have e4 := T9_s 3 (n / 256 / 256 / 256 / 256)
  have e5 := T9_s 2 (n / 256 / 256 / 256 / 256 / 256)
  have e6 := T9_s 1 (n / 256 / 256 / 256 / 256 / 256 / 256)
  have e7 := T9_1 (n / 256 / 256 / 256 / 256 / 256 / 256 / 256)
  have es : S9 8 n = pb9 (n / 256 / 256 / 256 / 256 / 256 / 256 / 256 % 256) + pb9 (n / 256 / 256 / 256 / 256 / 256 / 256 % 256) + pb9 (n / 256 / 256 / 256 / 256 / 256 % 256) + pb9 (n / 256 / 256 / 256 / 256 % 256) + pb9 (n / 256 / 256 / 256 % 256) + pb9 (n / 256 / 256 % 256) + pb9 (n / 256 % 256) + pb9 (n % 256) := by
    rw [S9_s 7, S9_s 6, S9_s 5, S9_s 4, S9_s 3, S9_s 2, S9_s 1, S9_1]
  rw [es]
  have g0 := pb9_le (n % 256)
  have g1 := pb9_le (n / 256 % 256)
  have g2 := pb9_le (n / 256 / 256 % 256)
  have g3 := pb9_le (n / 256 / 256 / 256 % 256)
  have g4 := pb9_le (n / 256 / 256 / 256 / 256 % 256)
  have g5 := pb9_le (n / 256 / 256 / 256 / 256 / 256 % 256)
  have g6 := pb9_le (n / 256 / 256 / 256 / 256 / 256 / 256 % 256)
  have g7 := pb9_le (n / 256 / 256 / 256 / 256 / 256 / 256 / 256 % 256)
  clear es
  generalize pb9 (n % 256) = c0 at e0 g0 ⊢
  generalize pb9 (n / 256 % 256) = c1 at e1 g1 ⊢
  generalize pb9 (n / 256 / 256 % 256) = c2 at e2 g2 ⊢
  generalize pb9 (n / 256 / 256 / 256 % 256) = c3 at e3 g3 ⊢
  generalize pb9 (n / 256 / 256 / 256 / 256 % 256) = c4 at e4 g4 ⊢
  generalize pb9 (n / 256 / 256 / 256 / 256 / 256 % 256) = c5 at e5 g5 ⊢
  generalize pb9 (n / 256 / 256 / 256 / 256 / 256 / 256 % 256) = c6 at e6 g6 ⊢
  generalize pb9 (n / 256 / 256 / 256 / 256 / 256 / 256 / 256 % 256) = c7 at e7 g7 ⊢
  generalize T9 1 (n / 256 / 256 / 256 / 256 / 256 / 256 / 256) = u7 at e6 e7
  generalize T9 2 (n / 256 / 256 / 256 / 256 / 256 / 256) = u6 at e5 e6
  generalize T9 3 (n / 256 / 256 / 256 / 256 / 256) = u5 at e4 e5
  generalize T9 4 (n / 256 / 256 / 256 / 256) = u4 at e3 e4
  generalize T9 5 (n / 256 / 256 / 256) = u3 at e2 e3
  generalize T9 6 (n / 256 / 256) = u2 at e1 e2
  generalize T9 7 (n / 256) = u1 at e0 e1
  generalize T9 8 n = u0 at e0 ⊢
  have d1 : u0 / 256 = u1 := f9a e0 (by omega)
  have d2 : (u0 + u1) / 65536 = u2 + u3 := f9b (f9d e0 e1 e2) (by omega) (by omega)
  have d3 : (u0 + u1 + (u2 + u3)) / 4294967296 = u4 + u5 + (u6 + u7) := f9c (f9e e0 e1 e2 e3) (f9e e1 e2 e3 e4) (f9e e2 e3 e4 e5) (f9e e3 e4 e5 e6) (by omega) (by omega) (by omega) (by omega)
  have b7 : u7 + 1 ≤ 9 := by rw [e7]; omega
  have b6 := f9f e6 g6 b7
  have b5 := f9f e5 g5 b6
  have b4 := f9f e4 g4 b5
  have b3 := f9f e3 g3 b4
  have b2 := f9f e2 g2 b3
  have b1 := f9f e1 g1 b2
  have b0 := f9f e0 g0 b1
  obtain ⟨k0, k1, k2, k3⟩ := f9g (u0 := u0) (u1 := u1) (u2 := u2) (u3 := u3) (u4 := u4) (u5 := u5) (u6 := u6) (u7 := u7) (Nat.le_trans b0 (by decide)) (Nat.le_trans b1 (by decide)) (Nat.le_trans b2 (by decide)) (Nat.le_trans b3 (by decide)) (Nat.le_trans b4 (by decide)) (Nat.le_trans b5 (by decide)) (Nat.le_trans b6 (by decide)) (Nat.le_trans b7 (by decide))
  rw [d1, d2, d3]
  exact ⟨k0, k1, k2, _, rfl, k3, f9i (f9h e0 e1 e2 e3 e4 e5 e6 e7) (by omega)⟩
theorem cnt_add (P : Nat → Bool) (a : Nat) : ∀ b, cnt P (a + b) = cnt P a + cnt (fun j => P (a + j)) b
  | 0 => rfl
  | b + 1 => by
    show cnt P (a + b) + (P (a + b)).toNat = cnt P a + (cnt (fun j => P (a + j)) b + (P (a + b)).toNat)
    rw [cnt_add P a b]
    omega
theorem S9_cnt : ∀ k n, S9 k n = cnt n.testBit (8 * k)
  | 0, _ => rfl
  | k + 1, n => by
    have ha : n % 256 < 2 ^ 8 := Nat.mod_lt _ (by decide)
    have e : n = 2 ^ 8 * (n / 256) + n % 256 := by omega
    show S9 k (n / 256) + pb9 (n % 256) = _
    rw [S9_cnt k, show 8 * (k + 1) = 8 + 8 * k by omega, cnt_add]
    have h1 : cnt n.testBit 8 = pb9 (n % 256) := cnt_congr (fun j hj => by
      conv => lhs; rw [e]
      rw [Nat.testBit_two_pow_mul_add _ ha, if_pos hj])
    have h2 : cnt (fun j => n.testBit (8 + j)) (8 * k) = cnt (n / 256).testBit (8 * k) := cnt_congr (fun j _ => by
      show n.testBit (8 + j) = _
      conv => lhs; rw [e]
      rw [Nat.testBit_two_pow_mul_add _ ha, if_neg (by omega)]
      congr 1
      omega)
    rw [h1, h2]
    omega
/-- Long.bitCount, as its rows have it -/
def bc1 (x : Int64) : Int64 := x - ((x.toUInt64 >>> ((nI 1).toInt64.toUInt64 &&& Int64.toUInt64 63)).toInt64 &&& 6148914691236517205)
def bc2 (x : Int64) : Int64 := (x &&& 3689348814741910323) + ((x.toUInt64 >>> ((nI 2).toInt64.toUInt64 &&& Int64.toUInt64 63)).toInt64 &&& 3689348814741910323)
def bc3 (x : Int64) : Int64 := (x + (x.toUInt64 >>> ((nI 4).toInt64.toUInt64 &&& Int64.toUInt64 63)).toInt64) &&& 1085102592571150095
def bcS (k : Nat) (x : Int64) : Int64 := x + (x.toUInt64 >>> ((nI k).toInt64.toUInt64 &&& Int64.toUInt64 63)).toInt64
theorem mk55 : mk9 0x55 8 = 6148914691236517205 := by decide +kernel
theorem mk33 : mk9 0x33 8 = 3689348814741910323 := by decide +kernel
theorem mk0f : mk9 0x0f 8 = 1085102592571150095 := by decide +kernel
theorem bc1_N {n : Nat} (h : n < 2 ^ 64) : bc1 (lN n) = lN (s19 8 n) := by
  unfold bc1 s19
  rw [wb_shr h (by decide), show (6148914691236517205 : Int64) = lN 6148914691236517205 from rfl, wb_and (Nat.lt_of_le_of_lt (Nat.div_le_self _ _) h) (by decide), mk55]
  exact lN_sub (Nat.le_trans Nat.and_le_left (Nat.div_le_self _ _))
theorem bc2_N {n : Nat} (h : n < 2 ^ 64) : bc2 (lN n) = lN (s29 8 n) := by
  unfold bc2 s29
  rw [wb_shr h (by decide), show (3689348814741910323 : Int64) = lN 3689348814741910323 from rfl, wb_and (Nat.lt_of_le_of_lt (Nat.div_le_self _ _) h) (by decide), wb_and h (by decide), mk33]
  exact lN_add _ _
theorem bc3_N {n : Nat} (h : n < 2 ^ 64) (h2 : n + n / 16 < 2 ^ 64) : bc3 (lN n) = lN (s39 8 n) := by
  unfold bc3 s39
  rw [wb_shr h (by decide), show (1085102592571150095 : Int64) = lN 1085102592571150095 from rfl, lN_add, mk0f]
  exact wb_and h2 (by decide)
theorem bcS_N {n k : Nat} (h : n < 2 ^ 64) (hk : k < 64) : bcS k (lN n) = lN (n + n / 2 ^ k) := by
  unfold bcS
  rw [wb_shr h hk]
  exact lN_add _ _
theorem t29_le : ∀ k n, 15 * t29 k n + 4 ≤ 4 * 256 ^ k
  | 0, n => by
    have e : t29 0 n = 0 := by
      show (n - (n / 2 &&& 0) &&& 0) + ((n - (n / 2 &&& 0)) / 4 &&& 0) = 0
      simp
    rw [e]; decide
  | k + 1, n => by
    have ha : n % 256 < 256 := Nat.mod_lt _ (by decide)
    have hb := t29_b (n % 256) ha
    have e : n = 256 * (n / 256) + n % 256 := by omega
    have e1 : t29 (k + 1) n = 256 * t29 k (n / 256) + t29 1 (n % 256) := by
      conv => lhs; rw [e]
      exact t29_s k _ _ ha
    have ih := t29_le k (n / 256)
    rw [e1, Nat.pow_succ]
    have h2 := hb.2.1
    clear hb
    generalize t29 k (n / 256) = u at ih ⊢
    generalize t29 1 (n % 256) = v at h2 ⊢
    generalize 256 ^ k = z at ih ⊢
    omega
theorem s19_lt {n : Nat} (h : n < 2 ^ 64) : s19 8 n < 2 ^ 64 := Nat.lt_of_le_of_lt (Nat.sub_le _ _) h
theorem bits9 (x : Int64) : (bcS 32 (bcS 16 (bcS 8 (bc3 (bc2 (bc1 x)))))).toInt32 &&& nI 127 = nI (cnt (wbit x) 64) := by
  obtain ⟨n, hn, rfl⟩ := wb_of x
  have h1 := t29_le 8 n
  have hp : (256 : Nat) ^ 8 = 2 ^ 64 := by decide
  rw [hp] at h1
  rw [bc1_N hn, bc2_N (s19_lt hn)]
  show (bcS 32 (bcS 16 (bcS 8 (bc3 (lN (t29 8 n)))))).toInt32 &&& nI 127 = _
  rw [bc3_N (by omega) (by omega), s39_T]
  obtain ⟨am, a4, a5, z, hz, a6, e6⟩ := fold9 n
  rw [bcS_N am (by decide), show (2 : Nat) ^ 8 = 256 from rfl, bcS_N a4 (by decide), show (2 : Nat) ^ 16 = 65536 from rfl, bcS_N a5 (by decide), show (2 : Nat) ^ 32 = 4294967296 from rfl, lN_i, hz]
  have e7 : nI z &&& nI 127 = nI (z % 128) := by
    rw [pk_and (nI z) 7 (m := nI 127) (by decide)]
    congr 1
    show (BitVec.ofNat 32 z).toNat % 2 ^ 7 = z % 128
    rw [BitVec.toNat_ofNat]
    omega
  rw [e7, e6, S9_cnt]
  congr 1
  exact cnt_congr (fun j _ => (wbit_lN hn j).symm)
end
section
/-! PURE: what the methods of PortDrawer answer and leave, as functions of the numbers in their cells -/
def nx9 (x : Int64) : Int64 := x * 6364136223846793005 + 1442695040888963407
def hi9 (x : Int64) : Nat := x.toBitVec.toNat / 2 ^ 33
def nbX (x : Int64) (q : Nat) : Int64 := if q = 0 then x else nx9 x
def nbI (x : Int64) (q : Nat) : Int32 := if q = 0 then -1 else nI (hi9 (nx9 x) % q)
theorem hi9_lt (x : Int64) : hi9 x < 2 ^ 31 := by
  unfold hi9
  have := x.toBitVec.isLt
  omega
theorem hi9_sh (x : Int64) : ((x.toUInt64 >>> ((nI 33).toInt64.toUInt64 &&& Int64.toUInt64 63)).toInt64).toInt32 = nI (hi9 x) := by
  obtain ⟨n, hn, rfl⟩ := wb_of x
  rw [wb_shr hn (by decide), lN_i]
  unfold hi9
  rw [wb_tn hn]
theorem nb_rem (x : Int64) {q : Nat} (h0 : 0 < q) (hq : q < 2 ^ 31) : nI (hi9 x) - nI (hi9 x) / nI q * nI q = nI (hi9 x % q) := pk_rem (hi9_lt x) h0 hq
/-- may a part of kind k refer to one of kind t -/
def mR (k t : Int32) : Bool :=
  if k = nI 1 then decide (t = nI 0) else if k = nI 3 then decide (t = nI 0) else if k = nI 4 then decide (t = nI 2)
  else if k = nI 5 then (decide (t = nI 1) || decide (t = nI 3) || decide (t = nI 4)) else if k = nI 6 then (decide (t = nI 4) || decide (t = nI 5)) else false
def mP (K : Nat → Int32) (kd : Int32) : Nat → Bool := fun j => mR kd (K j)
def rm2 (x : Int32) : Int32 := x - x / nI 2 * nI 2
def aB (n : Nat) (K : Nat → Int32) (x : Int32) : Bool := hB n x && decide (K x.toNatClampNeg = nI 5)
def fB (n : Nat) (K V R : Nat → Int32) (x : Int32) : Bool := aB n K x && (hB n (R x.toNatClampNeg) && decide (rm2 (V (R x.toNatClampNeg).toNatClampNeg) = rm2 (V x.toNatClampNeg)))
def kP (K : Nat → Int32) (kd : Int32) : Nat → Bool := fun j => decide (K j = kd)
def dQ (P : Nat → Bool) (pick : Int32) : Nat → Bool := fun a => P a && decide (nI (cnt P a) = pick)
/-- what a part of kind kd refers to -/
def rfI (K : Nat → Int32) (n : Nat) (kd : Int32) (x : Int64) : Int32 := oI (fst9 (dQ (mP K kd) (nbI x (cnt (mP K kd) n))) n)
def rfX (K : Nat → Int32) (n : Nat) (kd : Int32) (x : Int64) : Int64 := nbX x (cnt (mP K kd) n)
abbrev HS : Type := Int64 × (Nat → Int32) × (Nat → Int32) × (Nat → Int32)
def adS (kd : Int32) (n : Nat) (t : HS) : HS := (rfX (upd t.2.1 n kd) n kd (nbX t.1 100), upd t.2.1 n kd, upd t.2.2.1 n (nbI t.1 100), upd t.2.2.2 n (rfI (upd t.2.1 n kd) n kd (nbX t.1 100)))
def fl3 (t : HS) : HS := adS (nI 2) 2 (adS (nI 1) 1 (adS (nI 0) 0 t))
def flL (t : HS) : Nat → HS
  | 0 => t
  | j + 1 => adS (nbI (flL t j).1 7) (j + 3) (nbX (flL t j).1 7, (flL t j).2)
def flS (sd : Int64) (K V R : Nat → Int32) (z : Nat) : HS := flL (fl3 (sd, K, V, R)) z
def eq3 (K V R K' V' R' : Nat → Int32) : Nat → Bool := fun j => decide (K j = K' j) && (decide (V j = V' j) && decide (R j = R' j))
def lkB (n n' : Nat) (K V R K' V' R' : Nat → Int32) : Bool := decide (n' = n) && (fst9 (fun j => !(eq3 K V R K' V' R' j)) n).isNone
def szB (x : Int32) : Bool := !(decide (x < 0)) && !(decide (nI 40 < x))
def allW (n : Nat) : Int64 := ((1 : Int64) <<< ((nI n).toInt64 &&& 63)) - 1
def noW (w g : Int64) : Int64 := w &&& (g ^^^ (-1))
def vdL (v : Int64) (B : Nat → Int64) : Nat → Int32
  | 0 => nI 0
  | k + 1 => if v &&& B k = 0 then vdL v B k else vdL v B k ||| (nI 1 <<< (nI k &&& 31))
def vdI (v : Int64) (B : Nat → Int64) : Int32 := vdL v B 8
theorem vdL_bt (v : Int64) (B : Nat → Int64) : ∀ k, k ≤ 32 → ∀ i, i < 32 → bt (vdL v B k) i = (decide (i < k) && !decide (v &&& B i = 0))
  | 0, _, i, _ => by
    rw [show vdL v B 0 = 0 from rfl, b_0]
    simp
  | k + 1, hk, i, hi => by
    have ih := vdL_bt v B k (by omega) i hi
    unfold vdL
    by_cases h : v &&& B k = 0
    · rw [if_pos h, ih]
      by_cases e : i = k
      · subst e; simp [h]
      · have : (i < k + 1) = (i < k) := by apply propext; omega
        simp [this]
    · rw [if_neg h, b_or, ih]
      have h1 : bt (nI 1 <<< (nI k &&& 31)) i = decide (i = k) := by
        rw [b_shl k (by omega) (nI 1) hi]
        have : ∀ j, j < 32 → bt (nI 1) j = decide (j = 0) := by decide +kernel
        by_cases e : k ≤ i
        · rw [this (i - k) (by omega)]
          by_cases e2 : i = k
          · subst e2; simp
          · simp [e, e2]; omega
        · simp [e]; omega
      rw [h1]
      by_cases e : i = k
      · subst e; simp [h]
      · have : (i < k + 1) = (i < k) := by apply propext; omega
        simp [this, e]
/-- an int whose bits from k on are 0 is a number below 2^k -/
theorem bt_lt {x : Int32} {k : Nat} (hk : k ≤ 31) (h : ∀ i, i < 32 → k ≤ i → bt x i = false) : ∃ j, j < 2 ^ k ∧ x = nI j := by
  refine ⟨x.toBitVec.toNat, ?_, ?_⟩
  · apply Nat.lt_pow_two_of_testBit
    intro i hi
    by_cases e : i < 32
    · exact h i e hi
    · exact Nat.testBit_lt_two_pow (Nat.lt_of_lt_of_le x.toBitVec.isLt (Nat.pow_le_pow_right (by decide) (by omega)))
  · apply Int32.toBitVec_inj.1
    show x.toBitVec = BitVec.ofNat 32 x.toBitVec.toNat
    simp
theorem vdI_lt (v : Int64) (B : Nat → Int64) : ∃ j, j < 256 ∧ vdI v B = nI j := by
  refine bt_lt (k := 8) (by decide) (fun i hi h => ?_)
  unfold vdI
  rw [vdL_bt v B 8 (by decide) i hi, decide_eq_false (by omega)]
  rfl
theorem vdI_in (v : Int64) (B : Nat → Int64) : vp_in (vdI v B) 256 := by
  obtain ⟨j, h, e⟩ := vdI_lt v B
  rw [e]
  exact vp_in_nI h (by decide)
def syB (S : Nat → Bool) (B : Nat → Int64) (v : Int64) : Bool := S (vdI v B).toNatClampNeg
def mgB (S : Nat → Bool) (G B : Nat → Int64) (w : Int64) : Nat → Bool := fun a => wbit w a && (!decide (noW w (G a) = 0) && syB S B (noW w (G a)))
def fgO (S : Nat → Bool) (G B : Nat → Int64) (n : Nat) (w : Int64) : Option Nat := fst9 (mgB S G B w) n
def onL (G : Nat → Int64) : Nat → Nat → Int64
  | 0 => G
  | i + 1 => vp_updL (onL G i) i ((1 : Int64) <<< ((nI i).toInt64 &&& 63))
def goS (n : Nat) (R : Nat → Int32) (i : Nat) (g : Nat → Int64) : Nat → Int64 := if hB n (R i) = true then vp_updL g (R i).toNatClampNeg (g (R i).toNatClampNeg ||| g i) else g
/-- the rows behind the parts from i on -/
def goL (n : Nat) (R : Nat → Int32) (g : Nat → Int64) : Nat → Nat → Int64
  | 0 => g
  | k + 1 => goS n R (n - (k + 1)) (goL n R g k)
def gwG (n : Nat) (R : Nat → Int32) (G : Nat → Int64) : Nat → Int64 := goL n R (onL G n) n
def zeL (B : Nat → Int64) : Nat → Nat → Int64
  | 0 => B
  | i + 1 => vp_updL (zeL B i) i 0
def kiB (k : Int32) : Bool := !(decide (k < 0)) && !(decide (nI 7 ≤ k))
def p1S (K V : Nat → Int32) (i : Nat) (b : Nat → Int64) : Nat → Int64 := if (!(decide (V i < nI 50)) && kiB (K i)) = true then vp_updL b (K i).toNatClampNeg (b (K i).toNatClampNeg ||| ((1 : Int64) <<< ((nI i).toInt64 &&& 63))) else b
def p2S (n : Nat) (K V R : Nat → Int32) (i : Nat) (b : Nat → Int64) : Nat → Int64 := if fB n K V R (nI i) = true then vp_updL b 7 (b 7 ||| ((1 : Int64) <<< ((nI i).toInt64 &&& 63))) else b
def pbL (n : Nat) (K V R : Nat → Int32) (B : Nat → Int64) : Nat → Nat → Int64
  | 0 => B
  | i + 1 => p2S n K V R i (p1S K V i (pbL n K V R B i))
def pbB (n : Nat) (K V R : Nat → Int32) (B : Nat → Int64) : Nat → Int64 := pbL n K V R (zeL B 8) n
/-- shorter: at most k turns -/
def shW (S : Nat → Bool) (G B : Nat → Int64) (n : Nat) : Nat → Int64 → Int64
  | 0, w => w
  | k + 1, w => match fgO S G B n w with
    | none => w
    | some i => shW S G B n k (noW w (G i))
def lfQ (w : Int64) (p : Int32) : Nat → Bool := fun a => wbit w a && decide (nI (cnt (wbit w) a) = p)
theorem aB_h {n : Nat} {K : Nat → Int32} {x : Int32} (h : aB n K x = true) : hB n x = true := by
  unfold aB at h
  exact (Bool.and_eq_true_iff.mp h).1
theorem mR_1 (t : Int32) : mR (nI 1) t = decide (t = nI 0) := by unfold mR; rw [if_pos rfl]
theorem mR_2 (t : Int32) : mR (nI 2) t = false := by
  unfold mR
  rw [if_neg (by decide), if_neg (by decide), if_neg (by decide), if_neg (by decide), if_neg (by decide)]
theorem mR_3 (t : Int32) : mR (nI 3) t = decide (t = nI 0) := by unfold mR; rw [if_neg (by decide), if_pos rfl]
theorem mR_4 (t : Int32) : mR (nI 4) t = decide (t = nI 2) := by unfold mR; rw [if_neg (by decide), if_neg (by decide), if_pos rfl]
theorem mR_5 (t : Int32) : mR (nI 5) t = (decide (t = nI 1) || decide (t = nI 3) || decide (t = nI 4)) := by
  unfold mR; rw [if_neg (by decide), if_neg (by decide), if_neg (by decide), if_pos rfl]
theorem mR_6 (t : Int32) : mR (nI 6) t = (decide (t = nI 4) || decide (t = nI 5)) := by
  unfold mR; rw [if_neg (by decide), if_neg (by decide), if_neg (by decide), if_neg (by decide), if_pos rfl]
theorem mR_o {k t : Int32} (h : k.toInt < 1 ∨ 6 < k.toInt) : mR k t = false := by
  have e : ∀ j, 1 ≤ j → j ≤ 6 → ¬ k = nI j := by
    intro j h1 h2 e
    rw [e, nI_toInt (by omega)] at h
    omega
  unfold mR
  rw [if_neg (e 1 (by omega) (by omega)), if_neg (e 3 (by omega) (by omega)), if_neg (e 4 (by omega) (by omega)), if_neg (e 5 (by omega) (by omega)), if_neg (e 6 (by omega) (by omega))]
theorem lkB_no {n n' i : Nat} {K V R K' V' R' : Nat → Int32} (_ : n' = n) (hi : i < n) (h : eq3 K V R K' V' R' i = false) : nI 0 = bI (lkB n n' K V R K' V' R') := by
  have h1 : (fst9 (fun j => !(eq3 K V R K' V' R' j)) n).isNone = false := by
    cases e : fst9 (fun j => !(eq3 K V R K' V' R' j)) n with
    | none =>
      have := fst9_no e i hi
      rw [h] at this
      cases this
    | some k => rfl
  unfold lkB
  rw [h1, Bool.and_false]
  rfl
def ckI (n : Nat) (K : Nat → Int32) (p : Int32) : Int32 := if p < nI 10 ∨ ¬ p < nI 17 then -1 else nI (cnt (kP K (p - nI 10)) n)
def mnB (S : Nat → Bool) (G B : Nat → Int64) (n : Nat) (w : Int64) : Bool := !decide (w = 0) && (syB S B w && decide (oI (fgO S G B n w) = -1))
def veO (S : Nat → Bool) (p : Int32) (z : Bool) : Bool := !(decide (p < 0)) && (!(decide (nI 256 ≤ p)) && !(decide (S p.toNatClampNeg = z)))
def veS (S : Nat → Bool) (p : Int32) (z : Bool) : Nat → Bool := if veO S p z = true then uB S p.toNatClampNeg z else S
theorem in_of {x : Int32} {n : Nat} (h0 : ¬ x < 0) (h1 : ¬ nI n ≤ x) (hn : n < 2 ^ 31) : vp_in x n := by
  rcases pk_ix x hn with q | q | ⟨j, hj, rfl⟩
  · exact absurd q h0
  · exact absurd q h1
  · exact vp_in_nI hj hn
theorem in_78 {x : Int32} (h0 : ¬ x < 0) (h1 : ¬ nI 7 ≤ x) : vp_in x 8 := by
  rcases pk_ix x (n := 7) (by decide) with q | q | ⟨j, hj, rfl⟩
  · exact absurd q h0
  · exact absurd q h1
  · exact vp_in_nI (by omega) (by decide)
theorem dn_lt {k : Nat} (h : k ≤ 43) : (nI k) - (nI 1) < 0 ↔ k = 0 := by
  rcases k with _ | k
  · exact ⟨fun _ => rfl, fun _ => by decide⟩
  · have e : nI (k + 1) - nI 1 = nI k := nI_pred k
    rw [e]
    exact ⟨fun z => absurd z (nI_pos (by omega)), fun z => by omega⟩
theorem dn_inc (k : Nat) : nI k + (-1) = nI k - nI 1 := by
  rw [Int32.sub_eq_add_neg]
  rfl
theorem goL_f {n k r : Nat} {R : Nat → Int32} {g : Nat → Int64} (h : k + 1 + r = n) (c : hB n (R k) = false) : goL n R g (r + 1) = goL n R g r := by
  show goS n R (n - (r + 1)) (goL n R g r) = _
  rw [show n - (r + 1) = k by omega]
  unfold goS
  rw [c]
  rfl
theorem goL_t {n k r : Nat} {R : Nat → Int32} {g : Nat → Int64} (h : k + 1 + r = n) (c : hB n (R k) = true) : goL n R g (r + 1) = vp_updL (goL n R g r) (R k).toNatClampNeg (goL n R g r (R k).toNatClampNeg ||| goL n R g r k) := by
  show goS n R (n - (r + 1)) (goL n R g r) = _
  rw [show n - (r + 1) = k by omega]
  unfold goS
  rw [if_pos c]
def shO (S : Nat → Bool) (G B : Nat → Int64) (n : Nat) (w : Int64) : Int64 := if syB S B w = true then shW S G B n 43 w else allW n
theorem fgO_lt {S : Nat → Bool} {G B : Nat → Int64} {n i : Nat} {w : Int64} (h : fgO S G B n w = some i) : i < n := (fst9_spec h).1
theorem fg_some {S : Nat → Bool} {G B : Nat → Int64} {n : Nat} {w : Int64} (h : ¬ oI (fgO S G B n w) = -1) : ∃ i, i < n ∧ fgO S G B n w = some i := by
  cases e : fgO S G B n w with
  | none => rw [e] at h; exact absurd rfl h
  | some i => exact ⟨i, fgO_lt e, rfl⟩
theorem shW_s {S : Nat → Bool} {G B : Nat → Int64} {n r i : Nat} {v : Int64} (h : r < 43) (ho : fgO S G B n v = some i) : shW S G B n (43 - r) v = shW S G B n (43 - (r + 1)) (noW v (G i)) := by
  rw [show 43 - r = (43 - (r + 1)) + 1 by omega]
  show (match fgO S G B n v with | none => v | some i => shW S G B n (43 - (r + 1)) (noW v (G i))) = _
  rw [ho]
theorem shO_v {S : Nat → Bool} {G B : Nat → Int64} {n r : Nat} {v w : Int64} (hs : syB S B w = true) (h : shW S G B n (43 - r) v = shW S G B n 43 w) (ho : r = 43 ∨ oI (fgO S G B n v) = -1) (hn : n ≤ 43) : v = shO S G B n w := by
  unfold shO
  rw [if_pos hs, ← h]
  rcases ho with e | e
  · rw [e]; rfl
  · have e2 : fgO S G B n v = none := (oI_m1 (fun i hi => by have := fgO_lt hi; omega)).mp e
    cases hk : 43 - r with
    | zero => rfl
    | succ k =>
      show v = (match fgO S G B n v with | none => v | some i => shW S G B n k (noW v (G i)))
      rw [e2]
def ptI (K V R : Nat → Int32) (w : Int64) (i : Nat) (p : Int32) : Int32 := if p = nI 0 then K i else if p = nI 1 then nI (cnt (kP K (K i)) i) else if p = nI 2 then V i else if p = nI 3 then R i else bI (wbit w i)
section Pt
variable {K V R : Nat → Int32} {w : Int64} {i : Nat}
theorem pt_0 : ptI K V R w i (nI 0) = K i := by unfold ptI; rw [if_pos rfl]
theorem pt_1 : ptI K V R w i (nI 1) = nI (cnt (kP K (K i)) i) := by unfold ptI; rw [if_neg (by decide), if_pos rfl]
theorem pt_2 : ptI K V R w i (nI 2) = V i := by unfold ptI; rw [if_neg (by decide), if_neg (by decide), if_pos rfl]
theorem pt_3 : ptI K V R w i (nI 3) = R i := by unfold ptI; rw [if_neg (by decide), if_neg (by decide), if_neg (by decide), if_pos rfl]
theorem pt_4 : ptI K V R w i (nI 4) = bI (wbit w i) := by unfold ptI; rw [if_neg (by decide), if_neg (by decide), if_neg (by decide), if_neg (by decide)]
end Pt
theorem szB_nI {z : Nat} (h : z ≤ 40) : szB (nI z) = true := by
  unfold szB
  rw [decide_eq_false (nI_pos (by omega)), decide_eq_false (nI_nlt h (by decide))]
  rfl
theorem szB_of {x : Int32} (h : szB x = true) : ∃ z, z ≤ 40 ∧ x = nI z := by
  unfold szB at h
  simp only [Bool.and_eq_true, Bool.not_eq_true', decide_eq_false_iff_not] at h
  obtain ⟨j, hj, rfl⟩ := nI_of h.1
  have h2 := (not_congr (nI_ltI (by decide) hj)).mp h.2
  exact ⟨j, by omega, rfl⟩
def ctI (n : Nat) (K : Nat → Int32) (B : Nat → Int64) (S : Nat → Bool) (w : Int64) (p : Int32) : Int32 := if p = nI 0 then nI n else if p = nI 1 then nI (cnt (wbit w) 64) else if p = nI 2 then nI (cnt (kP K (nI 5)) n) else if p = nI 3 then nI (cnt (wbit (B 7)) 64) else if p = nI 4 then nI (cnt S 256) else ckI n K p
section Ct
variable {n : Nat} {K : Nat → Int32} {B : Nat → Int64} {S : Nat → Bool} {w : Int64} {p : Int32}
theorem ct_0 : ctI n K B S w (nI 0) = nI n := by unfold ctI; rw [if_pos rfl]
theorem ct_1 : ctI n K B S w (nI 1) = nI (cnt (wbit w) 64) := by unfold ctI; rw [if_neg (by decide), if_pos rfl]
theorem ct_2 : ctI n K B S w (nI 2) = nI (cnt (kP K (nI 5)) n) := by unfold ctI; rw [if_neg (by decide), if_neg (by decide), if_pos rfl]
theorem ct_3 : ctI n K B S w (nI 3) = nI (cnt (wbit (B 7)) 64) := by unfold ctI; rw [if_neg (by decide), if_neg (by decide), if_neg (by decide), if_pos rfl]
theorem ct_4 : ctI n K B S w (nI 4) = nI (cnt S 256) := by unfold ctI; rw [if_neg (by decide), if_neg (by decide), if_neg (by decide), if_neg (by decide), if_pos rfl]
theorem ct_o (h : p.toInt < 0 ∨ 4 < p.toInt) : ctI n K B S w p = ckI n K p := by
  have e : ∀ j, j ≤ 4 → ¬ p = nI j := by
    intro j h2 e
    rw [e, nI_toInt (by omega)] at h
    omega
  unfold ctI
  rw [if_neg (e 0 (by omega)), if_neg (e 1 (by omega)), if_neg (e 2 (by omega)), if_neg (e 3 (by omega)), if_neg (e 4 (by omega))]
end Ct
theorem vdL_z {v : Int64} {B : Nat → Int64} {k : Nat} (h : v &&& B k = 0) : vdL v B (k + 1) = vdL v B k := if_pos h
theorem vdL_n {v : Int64} {B : Nat → Int64} {k : Nat} (h : ¬ v &&& B k = 0) : vdL v B (k + 1) = vdL v B k ||| (nI 1 <<< (nI k &&& 31)) := if_neg h
end
section
/-! PURE: what goes with a part, bit by bit; which parts have a verdict's bit -/
def gwI (n : Nat) (R : Nat → Int32) (k t : Nat) (m : Nat) : Bool :=
  decide (m = t) || (decide (k ≤ m) && (hB n (R m) && (if h : (R m).toNatClampNeg < m then gwI n R k t (R m).toNatClampNeg else false)))
termination_by m
def rOK (n : Nat) (R : Nat → Int32) : Prop := ∀ m, m < n → hB n (R m) = true → (R m).toNatClampNeg < m
theorem gwI_lt {n k t m : Nat} {R : Nat → Int32} (h : m < k) : gwI n R k t m = decide (m = t) := by
  rw [gwI, decide_eq_false (by omega : ¬ k ≤ m)]
  simp
theorem gwI_f {n k t m : Nat} {R : Nat → Int32} (h : hB n (R m) = false) : gwI n R k t m = decide (m = t) := by
  rw [gwI, h]
  simp
theorem gwI_t {n k t m : Nat} {R : Nat → Int32} (hk : k ≤ m) (h : hB n (R m) = true) (hl : (R m).toNatClampNeg < m) : gwI n R k t m = (decide (m = t) || gwI n R k t (R m).toNatClampNeg) := by
  rw [gwI, h, decide_eq_true hk, dif_pos hl]
  simp
theorem gwI_step {n k t : Nat} {R : Nat → Int32} (hR : rOK n R) (hk : k < n) : ∀ m, m < n → gwI n R k t m = (gwI n R (k + 1) t m || (decide (t = (R k).toNatClampNeg) && (hB n (R k) && gwI n R (k + 1) k m))) := by
  intro m
  induction m using Nat.strongRecOn with
  | ind m ih =>
    intro hm
    rcases Nat.lt_trichotomy m k with h | h | h
    · rw [gwI_lt h, gwI_lt (by omega), gwI_lt (by omega), decide_eq_false (by omega : ¬ m = k)]
      simp
    · subst h
      rw [gwI_lt (k := m + 1) (t := t) (by omega), gwI_lt (k := m + 1) (t := m) (by omega), decide_eq_true (rfl : m = m)]
      cases hb : hB n (R m)
      · rw [gwI_f hb]; simp
      · have hl := hR m hm hb
        rw [gwI_t (Nat.le_refl m) hb hl, gwI_lt hl]
        have e : decide ((R m).toNatClampNeg = t) = decide (t = (R m).toNatClampNeg) := by
          by_cases e : t = (R m).toNatClampNeg
          · rw [decide_eq_true e, decide_eq_true e.symm]
          · rw [decide_eq_false e, decide_eq_false (fun z => e z.symm)]
        rw [e]
        simp
    · cases hb : hB n (R m)
      · rw [gwI_f hb, gwI_f hb, gwI_f hb, decide_eq_false (by omega : ¬ m = k)]
        simp
      · have hl := hR m hm hb
        rw [gwI_t (by omega) hb hl, gwI_t (k := k + 1) (t := t) (by omega) hb hl, gwI_t (k := k + 1) (t := k) (by omega) hb hl, decide_eq_false (by omega : ¬ m = k), ih _ hl (by omega)]
        generalize gwI n R (k + 1) t (R m).toNatClampNeg = a
        generalize gwI n R (k + 1) k (R m).toNatClampNeg = b
        generalize decide (m = t) = c
        generalize decide (t = (R k).toNatClampNeg) = d
        generalize hB n (R k) = e
        cases a <;> cases b <;> cases c <;> cases d <;> cases e <;> rfl
theorem onL_at (G : Nat → Int64) : ∀ i t, t < i → onL G i t = ((1 : Int64) <<< ((nI t).toInt64 &&& 63))
  | 0, t, h => absurd h (Nat.not_lt_zero _)
  | i + 1, t, h => by
    show vp_updL (onL G i) i ((1 : Int64) <<< ((nI i).toInt64 &&& 63)) t = _
    by_cases e : t = i
    · subst e; exact pk_uLs
    · rw [pk_uLn e]; exact onL_at G i t (by omega)
theorem goL_bit {n : Nat} {R : Nat → Int32} {G : Nat → Int64} (hn : n ≤ 43) (hR : rOK n R) : ∀ r k, k + r = n → ∀ t, t < n → ∀ m, m < 64 → wbit (goL n R (onL G n) r t) m = (decide (m < n) && gwI n R k t m) := by
  intro r
  induction r with
  | zero =>
    intro k hk t ht m hm
    show wbit (onL G n t) m = _
    rw [onL_at G n t ht, wbit_one t (by omega) m hm]
    by_cases h : m < n
    · rw [gwI_lt (by omega), decide_eq_true h]; rfl
    · rw [decide_eq_false h, decide_eq_false (by omega)]; rfl
  | succ r ih =>
    intro k hk t ht m hm
    have h0 := ih (k + 1) (by omega)
    by_cases h : m < n
    · have hs := gwI_step (t := t) hR (by omega : k < n) m h
      cases hb : hB n (R k)
      · rw [goL_f (by omega : k + 1 + r = n) hb, h0 t ht m hm, hs, hb]
        simp
      · have hl := hR k (by omega) hb
        rw [goL_t (by omega : k + 1 + r = n) hb, hs, hb]
        by_cases e : t = (R k).toNatClampNeg
        · rw [← e, pk_uLs, wbit_or, h0 t ht m hm, h0 k (by omega) m hm, decide_eq_true h, decide_eq_true (rfl : t = t)]
          simp
        · rw [pk_uLn e, h0 t ht m hm, decide_eq_false e]
          simp
    · rw [decide_eq_false h]
      cases hb : hB n (R k)
      · rw [goL_f (by omega : k + 1 + r = n) hb, h0 t ht m hm, decide_eq_false h]
        simp
      · have hl := hR k (by omega) hb
        rw [goL_t (by omega : k + 1 + r = n) hb]
        by_cases e : t = (R k).toNatClampNeg
        · rw [← e, pk_uLs, wbit_or, h0 t ht m hm, h0 k (by omega) m hm, decide_eq_false h]
          simp
        · rw [pk_uLn e, h0 t ht m hm, decide_eq_false h]
          simp
theorem gwG_bit {n : Nat} {R : Nat → Int32} {G : Nat → Int64} (hn : n ≤ 43) (hR : rOK n R) {t m : Nat} (ht : t < n) (hm : m < 64) : wbit (gwG n R G t) m = (decide (m < n) && gwI n R 0 t m) := goL_bit hn hR n 0 (by omega) t ht m hm
theorem zeL_at (B : Nat → Int64) : ∀ i b, b < i → zeL B i b = 0
  | 0, _, h => absurd h (Nat.not_lt_zero _)
  | i + 1, b, h => by
    show vp_updL (zeL B i) i 0 b = 0
    by_cases e : b = i
    · subst e; exact pk_uLs
    · rw [pk_uLn e]; exact zeL_at B i b (by omega)
theorem kiB_of {k : Int32} (h : kiB k = true) : ∃ j, j < 7 ∧ k = nI j := hB_of (n := 7) h (by decide)
/-- has part i the verdict's bit b -/
def pq9 (n : Nat) (K V R : Nat → Int32) (b i : Nat) : Bool := if b = 7 then fB n K V R (nI i) else (!(decide (V i < nI 50)) && decide (K i = nI b))
theorem p1S_7 (K V : Nat → Int32) (i : Nat) (g : Nat → Int64) : p1S K V i g 7 = g 7 := by
  unfold p1S
  by_cases h : (!(decide (V i < nI 50)) && kiB (K i)) = true
  · rw [if_pos h]
    obtain ⟨j, hj, e⟩ := kiB_of (Bool.and_eq_true_iff.mp h).2
    rw [e, nI_clamp (by omega), pk_uLn (by omega)]
  · rw [if_neg h]
theorem p1S_b {K V : Nat → Int32} {i b : Nat} {g : Nat → Int64} (hb : b < 7) (m : Nat) : wbit (p1S K V i g b) m = (wbit (g b) m || ((!(decide (V i < nI 50)) && decide (K i = nI b)) && wbit ((1 : Int64) <<< ((nI i).toInt64 &&& 63)) m)) := by
  unfold p1S
  by_cases h : (!(decide (V i < nI 50)) && kiB (K i)) = true
  · rw [if_pos h]
    obtain ⟨h1, h2⟩ := Bool.and_eq_true_iff.mp h
    obtain ⟨j, hj, e⟩ := kiB_of h2
    rw [h1, e, nI_clamp (by omega)]
    by_cases e2 : b = j
    · subst e2
      rw [pk_uLs, wbit_or, decide_eq_true (rfl : nI b = nI b)]
      simp
    · rw [pk_uLn e2, decide_eq_false (fun z => e2 ((nI_eq (by omega) (by omega)).mp z).symm)]
      simp
  · rw [if_neg h]
    have h3 : (!(decide (V i < nI 50)) && decide (K i = nI b)) = false := by
      cases hv : (!(decide (V i < nI 50)))
      · rfl
      · rw [hv] at h
        by_cases e : K i = nI b
        · exfalso
          apply h
          rw [e]
          exact hB_nI (n := 7) hb (by decide)
        · rw [decide_eq_false e]; rfl
    rw [h3]
    simp
theorem p2S_b {n : Nat} {K V R : Nat → Int32} {i b : Nat} {g : Nat → Int64} (hb : b < 7) : p2S n K V R i g b = g b := by
  unfold p2S
  by_cases h : fB n K V R (nI i) = true
  · rw [if_pos h, pk_uLn (by omega)]
  · rw [if_neg h]
theorem p2S_7 {n : Nat} {K V R : Nat → Int32} {i : Nat} {g : Nat → Int64} (m : Nat) : wbit (p2S n K V R i g 7) m = (wbit (g 7) m || (fB n K V R (nI i) && wbit ((1 : Int64) <<< ((nI i).toInt64 &&& 63)) m)) := by
  unfold p2S
  cases h : fB n K V R (nI i)
  · simp
  · rw [if_pos rfl, pk_uLs, wbit_or]
    simp
theorem pbL_bit {n : Nat} {K V R : Nat → Int32} {B : Nat → Int64} {b : Nat} (hb : b < 8) : ∀ i0, i0 ≤ 43 → ∀ m, m < 64 → wbit (pbL n K V R (zeL B 8) i0 b) m = (decide (m < i0) && pq9 n K V R b m) := by
  intro i0
  induction i0 with
  | zero =>
    intro _ m _
    show wbit (zeL B 8 b) m = _
    rw [zeL_at B 8 b hb, wbit_0]
    simp
  | succ i ih =>
    intro hi m hm
    have h0 := ih (by omega) m hm
    show wbit (p2S n K V R i (p1S K V i (pbL n K V R (zeL B 8) i)) b) m = _
    have hone := wbit_one i (by omega) m hm
    have hsp : (decide (m < i + 1) && pq9 n K V R b m) = ((decide (m < i) && pq9 n K V R b m) || (pq9 n K V R b i && decide (m = i))) := by
      rcases Nat.lt_trichotomy m i with h | h | h
      · rw [decide_eq_true (by omega : m < i + 1), decide_eq_true h, decide_eq_false (by omega : ¬ m = i)]
        simp
      · subst h
        rw [decide_eq_true (by omega : m < m + 1), decide_eq_false (by omega : ¬ m < m), decide_eq_true rfl]
        simp
      · rw [decide_eq_false (by omega : ¬ m < i + 1), decide_eq_false (by omega : ¬ m < i), decide_eq_false (by omega : ¬ m = i)]
        simp
    rw [hsp]
    by_cases e : b = 7
    · subst e
      rw [p2S_7, p1S_7, h0, hone]
      rfl
    · rw [p2S_b (by omega), p1S_b (by omega), h0, hone]
      unfold pq9
      rw [if_neg e, if_neg e]
theorem pbB_bit {n : Nat} {K V R : Nat → Int32} {B : Nat → Int64} {b m : Nat} (hn : n ≤ 43) (hb : b < 8) (hm : m < 64) : wbit (pbB n K V R B b) m = (decide (m < n) && pq9 n K V R b m) := pbL_bit hb n hn m hm
/-- has some place below n Q -/
def anB (Q : Nat → Bool) (n : Nat) : Bool := decide (0 < cnt Q n)
theorem anB_t {Q : Nat → Bool} {n i : Nat} (hi : i < n) (h : Q i = true) : anB Q n = true := decide_eq_true (cnt_pos hi h)
theorem anB_f {Q : Nat → Bool} {n : Nat} (h : ∀ i, i < n → Q i = false) : anB Q n = false := by
  unfold anB
  rw [cnt_0 h]
  rfl
theorem anB_of {Q : Nat → Bool} {n : Nat} (h : anB Q n = true) : ∃ i, i < n ∧ Q i = true := by
  cases e : fst9 Q n with
  | none => rw [anB_f (fst9_no e)] at h; cases h
  | some i => exact ⟨i, (fst9_spec e).1, (fst9_spec e).2.1⟩
theorem anB_congr {P Q : Nat → Bool} {n : Nat} (h : ∀ j, j < n → P j = Q j) : anB P n = anB Q n := by
  unfold anB
  rw [cnt_congr h]
theorem and_z {v u : Int64} {n : Nat} {P Q : Nat → Bool} (hn : n ≤ 64) (hv : ∀ m, m < 64 → wbit v m = (decide (m < n) && P m)) (hu : ∀ m, m < 64 → wbit u m = (decide (m < n) && Q m)) : decide (v &&& u = 0) = !(anB (fun m => P m && Q m) n) := by
  cases e : anB (fun m => P m && Q m) n
  · have h : v &&& u = 0 := wbit_z.mpr (fun m hm => by
      rw [wbit_and, hv m hm, hu m hm]
      by_cases h : m < n
      · cases hp : P m <;> cases hq : Q m <;> simp
        rw [anB_t (Q := fun m => P m && Q m) h (by simp [hp, hq])] at e
        cases e
      · rw [decide_eq_false h]; rfl)
    rw [decide_eq_true h]
    rfl
  · obtain ⟨i, hi, h⟩ := anB_of e
    have h2 : ¬ v &&& u = 0 := fun z => by
      have h3 := wbit_z.mp z i (by omega)
      rw [wbit_and, hv i (by omega), hu i (by omega), decide_eq_true hi] at h3
      simp only [Bool.true_and] at h3
      rw [h] at h3
      cases h3
    rw [decide_eq_false h2]
    rfl
end
section
/-! PURE: what the methods of the reference answer and leave -/
def fF : Nat → Bool := fun _ => false
theorem ar_at {D : va_G} {cl : List vw_C} {a : Nat} {cA : ClassId} {n : Nat} {f g : Nat → Int32} {H : Heap} (he : ∀ j, j < n → f j = g j) (h : va_at D cl (a, .inl (cA, n, .inl f)) H) : va_at D cl (a, .inl (cA, n, .inl g)) H := by
  have e : vp_cell cA (n, .inl f) = vp_cell cA (n, .inl g) := by
    show arrV cA n (fun j => Value.int (f j)) = arrV cA n (fun j => Value.int (g j))
    unfold arrV
    congr 1
    congr 1
    funext j
    show Value.int (f j.val) = Value.int (g j.val)
    rw [he j.val j.isLt]
  exact h.trans (congrArg some e)
theorem ar_P {D : va_G} {cl : List vw_C} {ws : va_W} {H : Heap} (hP : va_P D cl ws H) (k : Nat) {a : Nat} {cA : ClassId} {n : Nat} {f g : Nat → Int32} (hk : ws[k]? = some (a, .inl (cA, n, .inl f))) (he : ∀ j, j < n → f j = g j) : va_P D cl (ws.set k (a, .inl (cA, n, .inl g))) H := by
  intro i q hq
  by_cases e : i = k
  · subst e
    have hlt : i < ws.length := (List.getElem?_eq_some_iff.mp hk).1
    rw [List.getElem?_set_self hlt] at hq
    cases hq
    exact ar_at he (hP i _ hk)
  · rw [List.getElem?_set_ne (fun z => e z.symm)] at hq
    exact hP i q hq
theorem ar_D {A : Nat → Prop} {ws : va_W} (hD : va_D A ws) (k : Nat) {a : Nat} {e e' : va_E} (hk : ws[k]? = some (a, e)) : va_D A (ws.set k (a, e')) := by
  have hlt : k < ws.length := (List.getElem?_eq_some_iff.mp hk).1
  have h : ∀ (i : Nat) (q : Nat × va_E), (ws.set k (a, e'))[i]? = some q → ∃ q' : Nat × va_E, ws[i]? = some q' ∧ q'.1 = q.1 := by
    intro i q hq
    by_cases z : i = k
    · subst z
      rw [List.getElem?_set_self hlt] at hq
      cases hq
      exact ⟨_, hk, rfl⟩
    · rw [List.getElem?_set_ne (fun y => z y.symm)] at hq
      exact ⟨q, hq, rfl⟩
  refine ⟨fun i j p q hp hq e => ?_, fun i q hq => ?_⟩
  · obtain ⟨p', hp', ep⟩ := h i p hp
    obtain ⟨q', hq', eq⟩ := h j q hq
    exact hD.1 i j p' q' hp' hq' (by rw [ep, eq]; exact e)
  · obtain ⟨q', hq', eq⟩ := h i q hq
    rw [← eq]
    exact hD.2 i q' hq'
def rfK (n : Nat) (R : Nat → Int32) : Prop := ∀ i, i < n → R i = -1 ∨ ∃ r, r < i ∧ R i = nI r
def kdK (n : Nat) (K : Nat → Int32) : Prop := ∀ i, i < n → ∃ k, k < 7 ∧ K i = nI k
theorem rfK_in {n i m : Nat} {R : Nat → Int32} (h : rfK n R) (hi : i < n) (hn : n ≤ m) (hm : m < 2 ^ 31) (hr : ¬ R i = -1) : vp_in (R i) m := by
  rcases h i hi with e | ⟨r, h1, e⟩
  · exact absurd e hr
  · rw [e]; exact vp_in_nI (by omega) hm
def ft9 (V R : Nat → Int32) (i : Nat) : Bool := !decide (R i = -1) && decide (rm2 (V (R i).toNatClampNeg) = rm2 (V i))
def inB (v a b : Int32) : Bool := !decide (v < a) && !decide (b < v)
def jdA (K V : Nat → Int32) (i : Nat) (v : Int32) : Int32 := v ||| (if V i < nI 50 then nI 0 else nI 1 <<< (K i &&& 31))
def jdS (K V R : Nat → Int32) (i : Nat) (v : Int32) : Int32 := jdA K V i v ||| (if (decide (K i = nI 5) && ft9 V R i) = true then nI 128 else nI 0)
def jdL (K V R : Nat → Int32) (L G : Nat → Bool) : Nat → Int32
  | 0 => nI 0
  | i + 1 => if (L i && !G i) = true then jdS K V R i (jdL K V R L G i) else jdL K V R L G i
theorem jdL_t {K V R : Nat → Int32} {L G : Nat → Bool} {i : Nat} (h1 : L i = true) (h2 : G i = false) : jdS K V R i (jdL K V R L G i) = jdL K V R L G (i + 1) := (if_pos (by rw [h1, h2]; rfl)).symm
theorem jdL_f1 {K V R : Nat → Int32} {L G : Nat → Bool} {i : Nat} (h1 : L i = false) : jdL K V R L G i = jdL K V R L G (i + 1) := (if_neg (by rw [h1]; simp)).symm
theorem jdL_f2 {K V R : Nat → Int32} {L G : Nat → Bool} {i : Nat} (h2 : G i = true) : jdL K V R L G i = jdL K V R L G (i + 1) := (if_neg (by rw [h2]; cases L i <;> decide)).symm
/-- which bit of a verdict part i gives -/
def jq9 (K V R : Nat → Int32) (b i : Nat) : Bool := (!(decide (V i < nI 50)) && decide (K i = nI b)) || (decide (b = 7) && (decide (K i = nI 5) && ft9 V R i))
theorem jdL_bt {n : Nat} {K V R : Nat → Int32} {L G : Nat → Bool} (hk : kdK n K) : ∀ m, m ≤ n → ∀ b, b < 32 → bt (jdL K V R L G m) b = anB (fun i => (L i && !G i) && jq9 K V R b i) m := by
  intro m
  induction m with
  | zero =>
    intro _ b _
    rw [show jdL K V R L G 0 = 0 from rfl, b_0]
    rfl
  | succ i ih =>
    intro hm b hb
    have h0 := ih (by omega) b hb
    have ha : anB (fun i => (L i && !G i) && jq9 K V R b i) (i + 1) = (anB (fun i => (L i && !G i) && jq9 K V R b i) i || ((L i && !G i) && jq9 K V R b i)) := by
      cases e : ((L i && !G i) && jq9 K V R b i)
      · unfold anB
        rw [cnt_f (P := fun i => (L i && !G i) && jq9 K V R b i) e, Bool.or_false]
      · rw [anB_t (Q := fun i => (L i && !G i) && jq9 K V R b i) (Nat.lt_succ_self i) e, Bool.or_true]
    rw [ha]
    by_cases hc : (L i && !G i) = true
    · rw [show jdL K V R L G (i + 1) = jdS K V R i (jdL K V R L G i) from if_pos hc, hc]
      unfold jdS jdA
      rw [b_or, b_or, h0]
      obtain ⟨k, hk7, ek⟩ := hk i (by omega)
      have h1 : bt (if V i < nI 50 then nI 0 else nI 1 <<< (K i &&& 31)) b = (!(decide (V i < nI 50)) && decide (K i = nI b)) := by
        by_cases hv : V i < nI 50
        · rw [if_pos hv, decide_eq_true hv, show nI 0 = 0 from rfl, b_0]; rfl
        · rw [if_neg hv, decide_eq_false hv, ek, b_shl k (by omega) (nI 1) hb]
          have hone : ∀ j, j < 32 → bt (nI 1) j = decide (j = 0) := by decide +kernel
          by_cases e : k ≤ b
          · rw [hone (b - k) (by omega)]
            by_cases e2 : b = k
            · subst e2; simp
            · rw [decide_eq_false (by omega : ¬ b - k = 0), decide_eq_false (fun z => e2 ((nI_eq (by omega) (by omega)).mp z).symm)]; simp
          · rw [decide_eq_false e, decide_eq_false (fun z => e (by have := (nI_eq (by omega) (by omega)).mp z; omega))]; rfl
      have h2 : bt (if (decide (K i = nI 5) && ft9 V R i) = true then nI 128 else nI 0) b = (decide (b = 7) && (decide (K i = nI 5) && ft9 V R i)) := by
        cases hq : (decide (K i = nI 5) && ft9 V R i)
        · rw [if_neg (by decide), show nI 0 = 0 from rfl, b_0]; simp
        · rw [if_pos rfl]
          have h128 : ∀ j, j < 32 → bt (nI 128) j = decide (j = 7) := by decide +kernel
          rw [h128 b hb]; simp
      rw [h1, h2]
      unfold jq9
      simp [Bool.or_assoc]
    · rw [show jdL K V R L G (i + 1) = jdL K V R L G i from if_neg hc, h0]
      have : (L i && !G i) = false := by cases z : (L i && !G i); rfl; exact absurd z hc
      rw [this]; simp
theorem jdL_lt {n : Nat} {K V R : Nat → Int32} {L G : Nat → Bool} (hk : kdK n K) : ∃ j, j < 256 ∧ jdL K V R L G n = nI j := by
  refine bt_lt (k := 8) (by decide) (fun b hb h8 => ?_)
  rw [jdL_bt hk n (Nat.le_refl n) b hb]
  refine anB_f (fun i hi => ?_)
  obtain ⟨k, hk7, ek⟩ := hk i hi
  show ((L i && !G i) && jq9 K V R b i) = false
  unfold jq9
  rw [ek, decide_eq_false (fun z => by have := (nI_eq (by omega) (by omega)).mp z; omega : ¬ nI k = nI b), decide_eq_false (by omega : ¬ b = 7)]
  simp
theorem jdL_in {n : Nat} {K V R : Nat → Int32} {L G : Nat → Bool} (hk : kdK n K) : vp_in (jdL K V R L G n) 256 := by
  obtain ⟨j, h, e⟩ := jdL_lt (V := V) (R := R) (L := L) (G := G) hk
  rw [e]; exact vp_in_nI h (by decide)
def nzF (i : Nat) (G : Nat → Bool) : Nat → Bool := fun j => if j < i then false else G j
theorem nzF_s (i : Nat) (G : Nat → Bool) : uB (nzF i G) i false = nzF (i + 1) G := by
  funext j
  unfold uB nzF
  by_cases e : j = i
  · subst e; simp
  · by_cases h : j < i
    · simp [e, h]; omega
    · have : ¬ j < i + 1 := by omega
      simp [e, h, this]
def alF (n i : Nat) (L : Nat → Bool) : Nat → Bool := fun j => if j < i then decide (j < n) else L j
theorem alF_s (n i : Nat) (L : Nat → Bool) {b : Bool} (hb : b = decide (i < n)) : uB (alF n i L) i b = alF n (i + 1) L := by
  funext j
  unfold uB alF
  by_cases e : j = i
  · subst e; simp [hb]
  · by_cases h : j < i
    · have : j < i + 1 := by omega
      simp [e, h, this]
    · have : ¬ j < i + 1 := by omega
      simp [e, h, this]
def lvF (i : Nat) (L G : Nat → Bool) : Nat → Bool := fun j => if j < i then (L j && !G j) else L j
theorem lvF_s (i : Nat) (L G : Nat → Bool) {b : Bool} (hb : b = (L i && !G i)) : uB (lvF i L G) i b = lvF (i + 1) L G := by
  funext j
  unfold uB lvF
  by_cases e : j = i
  · subst e; simp [hb]
  · by_cases h : j < i
    · have : j < i + 1 := by omega
      simp [e, h, this]
    · have : ¬ j < i + 1 := by omega
      simp [e, h, this]
theorem lvF_at (i : Nat) (L G : Nat → Bool) : lvF i L G i = L i := if_neg (Nat.lt_irrefl i)
theorem lvF_0 (L G : Nat → Bool) : lvF 0 L G = L := by
  funext j
  exact if_neg (Nat.not_lt_zero j)
theorem alF_0 (n : Nat) (L : Nat → Bool) : alF n 0 L = L := by
  funext j
  exact if_neg (Nat.not_lt_zero j)
theorem nzF_0 (G : Nat → Bool) : nzF 0 G = G := by
  funext j
  exact if_neg (Nat.not_lt_zero j)
/-- does part j go with part i, by those left -/
def mkB (R : Nat → Int32) (L : Nat → Bool) (i : Nat) (j : Nat) : Bool :=
  decide (j = i) || (decide (i ≤ j) && (L j && (!decide (R j = -1) && (if h : (R j).toNatClampNeg < j then mkB R L i (R j).toNatClampNeg else false))))
termination_by j
theorem mkB_lt {R : Nat → Int32} {L : Nat → Bool} {i j : Nat} (h : j < i) : mkB R L i j = false := by
  rw [mkB, decide_eq_false (by omega : ¬ j = i), decide_eq_false (by omega : ¬ i ≤ j)]
  rfl
theorem mkB_i (R : Nat → Int32) (L : Nat → Bool) (i : Nat) : mkB R L i i = true := by
  rw [mkB, decide_eq_true rfl]
  rfl
theorem mkB_L {R : Nat → Int32} {L : Nat → Bool} {i j : Nat} (h : ¬ j = i) (hl : L j = false) : mkB R L i j = false := by
  rw [mkB, decide_eq_false h, hl]
  simp
theorem mkB_N {R : Nat → Int32} {L : Nat → Bool} {i j : Nat} (h : ¬ j = i) (hr : R j = -1) : mkB R L i j = false := by
  rw [mkB, decide_eq_false h, decide_eq_true hr]
  simp
theorem mkB_R {R : Nat → Int32} {L : Nat → Bool} {i j : Nat} (h : ¬ j = i) (hij : i ≤ j) (hl : L j = true) (hr : ¬ R j = -1) (hlt : (R j).toNatClampNeg < j) : mkB R L i j = mkB R L i (R j).toNatClampNeg := by
  rw [mkB, decide_eq_false h, decide_eq_true hij, hl, decide_eq_false hr, dif_pos hlt]
  simp
def mkF (R : Nat → Int32) (L : Nat → Bool) (i k : Nat) : Nat → Bool := fun j => if j < k then mkB R L i j else false
theorem mkF_0 (R : Nat → Int32) (L : Nat → Bool) (i : Nat) : fF = mkF R L i i := by
  funext j
  unfold fF mkF
  by_cases h : j < i
  · rw [if_pos h, mkB_lt h]
  · rw [if_neg h]
theorem mkF_s {R : Nat → Int32} {L : Nat → Bool} {i k : Nat} {b : Bool} (hb : b = mkB R L i k) : uB (mkF R L i k) k b = mkF R L i (k + 1) := by
  funext j
  unfold uB mkF
  by_cases e : j = k
  · subst e; simp [hb]
  · by_cases h : j < k
    · have : j < k + 1 := by omega
      simp [e, h, this]
    · have : ¬ j < k + 1 := by omega
      simp [e, h, this]
theorem mkF_at {R : Nat → Int32} {L : Nat → Bool} {i k j : Nat} (h : j < k) : mkF R L i k j = mkB R L i j := if_pos h
theorem mkB_0 (R : Nat → Int32) (L : Nat → Bool) (i : Nat) : cnt (mkB R L i) i = 0 := cnt_0 (fun _ h => mkB_lt h)
def mgM (n : Nat) (K V R : Nat → Int32) (S L : Nat → Bool) : Nat → Bool := fun i => L i && (decide (cnt (mkB R L i) n < cnt L n) && S (jdL K V R L (mkF R L i n) n).toNatClampNeg)
def mgO (n : Nat) (K V R : Nat → Int32) (S L : Nat → Bool) : Option Nat := fst9 (mgM n K V R S L) n
def gaS (n : Nat) (R : Nat → Int32) (L : Nat → Bool) (i : Nat) (G : Nat → Bool) : Nat → Bool := if L i = true then mkF R L i n else G
def gaF (n : Nat) (R : Nat → Int32) (L G : Nat → Bool) : Nat → Nat → Bool
  | 0 => G
  | k + 1 => gaS n R L k (gaF n R L G k)
def gaE (n : Nat) (K V R : Nat → Int32) (S L G : Nat → Bool) : Nat → Bool := match mgO n K V R S L with
  | some i => mkF R L i n
  | none => gaF n R L G n
def shL (n : Nat) (K V R : Nat → Int32) (S : Nat → Bool) : Nat → (Nat → Bool) → Nat → Bool
  | 0, L => L
  | f + 1, L => match mgO n K V R S L with
    | none => L
    | some i => shL n K V R S f (lvF n L (mkF R L i n))
def shE (n : Nat) (K V R : Nat → Int32) (S L : Nat → Bool) : Nat → Bool := if S (jdL K V R L fF n).toNatClampNeg = true then shL n K V R S (n + 1) L else alF n 43 L
theorem mgO_lt {n : Nat} {K V R : Nat → Int32} {S L : Nat → Bool} {i : Nat} (h : mgO n K V R S L = some i) : i < n ∧ L i = true := by
  have h1 := fst9_spec h
  refine ⟨h1.1, ?_⟩
  have h2 := h1.2.1
  unfold mgM at h2
  exact (Bool.and_eq_true_iff.mp h2).1
theorem lv_less {n : Nat} {R : Nat → Int32} {L : Nat → Bool} {i : Nat} (hi : i < n) (hl : L i = true) : cnt (lvF n L (mkF R L i n)) n < cnt L n := by
  refine cnt_lt (i := i) (fun j hj h => ?_) hi hl ?_
  · unfold lvF at h
    rw [if_pos hj] at h
    exact (Bool.and_eq_true_iff.mp h).1
  · unfold lvF
    rw [if_pos hi, mkF_at hi, mkB_i]
    simp
theorem shL_s {n f : Nat} {K V R : Nat → Int32} {S L : Nat → Bool} {i : Nat} (h : mgO n K V R S L = some i) : shL n K V R S (f + 1) L = shL n K V R S f (lvF n L (mkF R L i n)) := by
  show (match mgO n K V R S L with | none => L | some i => shL n K V R S f (lvF n L (mkF R L i n))) = _
  rw [h]
theorem shL_n {n f : Nat} {K V R : Nat → Int32} {S L : Nat → Bool} (h : mgO n K V R S L = none) : shL n K V R S f L = L := by
  cases f with
  | zero => rfl
  | succ f =>
    show (match mgO n K V R S L with | none => L | some i => shL n K V R S f (lvF n L (mkF R L i n))) = _
    rw [h]
theorem mg_lt0 {n : Nat} {K V R : Nat → Int32} {S L : Nat → Bool} (hn : n ≤ 43) : oI (mgO n K V R S L) < 0 ↔ mgO n K V R S L = none := by
  cases e : mgO n K V R S L with
  | none => exact ⟨fun _ => rfl, fun _ => by decide⟩
  | some i => exact ⟨fun z => absurd z (nI_pos (by have := (mgO_lt e).1; omega)), fun z => by cases z⟩
def shf (K : Nat → Int32) (f : Nat) : Nat → Int32 := fun j => K (f + j)
def adM (f : Nat) (kd : Int32) (k : Nat) (t : HS) : HS := (rfX (shf (upd t.2.1 (f + k) kd) f) k kd (nbX t.1 100), upd t.2.1 (f + k) kd, upd t.2.2.1 (f + k) (nbI t.1 100), upd t.2.2.2 (f + k) (rfI (shf (upd t.2.1 (f + k) kd) f) k kd (nbX t.1 100)))
def drM (f : Nat) (t : HS) : Nat → HS
  | 0 => t
  | k + 1 => adM f (if k < 3 then nI k else nbI (drM f t k).1 7) k (if k < 3 then (drM f t k).1 else nbX (drM f t k).1 7, (drM f t k).2)
theorem dQ_once {P : Nat → Bool} {pick : Int32} {a b : Nat} (hab : a < b) (hb : b < 2 ^ 31) (h1 : dQ P pick a = true) (h2 : dQ P pick b = true) : False := by
  unfold dQ at h1 h2
  simp only [Bool.and_eq_true, decide_eq_true_eq] at h1 h2
  have e := h1.2.trans h2.2.symm
  have hb1 := cnt_le P b
  have ha1 := cnt_le P a
  have e2 := (nI_eq (by omega) (by omega)).mp e
  have h3 := cnt_mono P (a := a + 1) (n := b) hab
  rw [cnt_t h1.1] at h3
  omega
theorem fst9_up {P : Nat → Bool} {pick : Int32} {i : Nat} (hi : i < 2 ^ 31) (h : dQ P pick i = true) : fst9 (dQ P pick) (i + 1) = some i := by
  refine fst9_some h (fun a ha => ?_) (Nat.lt_succ_self i)
  cases e : dQ P pick a
  · rfl
  · exact (dQ_once ha hi e h).elim
theorem fst9_st {Q : Nat → Bool} {i : Nat} (h : Q i = false) : fst9 Q (i + 1) = fst9 Q i := by
  show (match fst9 Q i with | some i => some i | none => if Q i = true then some i else none) = fst9 Q i
  rw [h]
  cases fst9 Q i <;> rfl
theorem pk_0 {p : Int32} {a : Nat} : p - nI a = 0 ↔ nI a = p := by
  constructor
  · intro h
    have : p = nI a := by
      have h2 : p - nI a + nI a = 0 + nI a := by rw [h]
      rwa [Int32.sub_add_cancel, Int32.zero_add] at h2
    exact this.symm
  · intro h
    rw [h, Int32.sub_self]
theorem pk_1 (p : Int32) (a : Nat) : p - nI a - nI 1 = p - nI (a + 1) := by
  rw [← nI_add, Int32.sub_eq_add_neg, Int32.sub_eq_add_neg, Int32.sub_eq_add_neg, Int32.neg_add, Int32.add_assoc, Int32.sub_eq_add_neg (-nI a)]
theorem pk_z (p : Int32) : p - nI 0 = p := by
  rw [nI_0, Int32.sub_zero]
theorem nb_lrem (x : Int64) {q : Nat} (h0 : 0 < q) (hq : q < 2 ^ 31) : (lN (hi9 x) - lN (hi9 x) / lN q * lN q).toInt32 = nI (hi9 x % q) := by
  rw [pk_lRem (Nat.lt_trans (hi9_lt x) (by decide)) h0 (by omega), lN_i]
theorem hi9_shl (x : Int64) : (x.toUInt64 >>> ((nI 33).toInt64.toUInt64 &&& Int64.toUInt64 63)).toInt64 = lN (hi9 x) := by
  obtain ⟨n, hn, rfl⟩ := wb_of x
  rw [wb_shr hn (by decide)]
  unfold hi9
  rw [wb_tn hn]
theorem lN_nz {q : Nat} (h0 : 0 < q) (hq : q < 2 ^ 31) : ¬ lN q = 0 := fun h => by
  have h2 : lN q = lN 0 := h
  have := (lN_eq hq (by decide)).mp h2
  omega
theorem rf_sub (f i : Nat) : nI (f + i) - nI f = nI i := by
  rw [pk_sub (by omega)]
  congr 1
  omega
theorem nI_le0 {a : Nat} (h : a < 2 ^ 31) : nI a ≤ 0 ↔ a = 0 := by
  rw [← nI_0, nI_leI h (by decide)]
  omega
theorem pk_0n {p : Int32} {a : Nat} : p - nI a = nI 0 ↔ nI a = p := pk_0
theorem rfK_lt {n k : Nat} {R : Nat → Int32} (h : rfK n R) (hk : k < n) (hn : n ≤ 43) (hr : ¬ R k = -1) : (R k).toNatClampNeg < k := by
  rcases h k hk with e | ⟨r, h1, e⟩
  · exact absurd e hr
  · rw [e, nI_clamp (by omega)]; exact h1
theorem hB_i86 {n : Nat} {x : Int32} (h : hB n x = true) (hn : n ≤ 43) : vp_in x 86 := by
  obtain ⟨j, hj, rfl⟩ := hB_of h (by omega)
  exact vp_in_nI (by omega) (by omega)
theorem in_sz {z : Nat} (h : z ≤ 40) : inB (nI z) (nI 0) (nI 40) = true := szB_nI h
theorem in255 {p : Int32} (h : inB p (nI 0) (nI 255) = true) : ¬ p < 0 ∧ ¬ nI 256 ≤ p := by
  unfold inB at h
  simp only [Bool.and_eq_true, Bool.not_eq_true', decide_eq_false_iff_not] at h
  have h1 : ¬ p < 0 := h.1
  obtain ⟨j, hj, rfl⟩ := nI_of h1
  have h2 := (not_congr (nI_ltI (by decide) hj)).mp h.2
  exact ⟨h1, nI_ge (by omega) (by decide)⟩
theorem veO_f {S : Nat → Bool} {p : Int32} {z : Bool} (h : inB p (nI 0) (nI 255) = false) : veO S p z = false := by
  cases e : veO S p z
  · rfl
  · exfalso
    unfold veO at e
    simp only [Bool.and_eq_true, Bool.not_eq_true', decide_eq_false_iff_not] at e
    have h1 : ¬ p < 0 := e.1
    obtain ⟨j, hj, rfl⟩ := nI_of h1
    have h2 := (not_congr (nI_leI (by decide) hj)).mp e.2.1
    have h3 : inB (nI j) (nI 0) (nI 255) = true := by
      unfold inB
      rw [decide_eq_false (show ¬ nI j < nI 0 from h1), decide_eq_false (nI_nlt (by omega) (by decide))]
      rfl
    rw [h3] at h
    cases h
def alB (Q : Nat → Bool) (i : Nat) : Bool := (fst9 (fun j => !(Q j)) i).isNone
theorem alB_s (Q : Nat → Bool) (i : Nat) : alB Q (i + 1) = (alB Q i && Q i) := by
  unfold alB
  show (match fst9 (fun j => !(Q j)) i with | some i => some i | none => if (!(Q i)) = true then some i else none).isNone = _
  cases fst9 (fun j => !(Q j)) i with
  | some a => rfl
  | none => cases Q i <;> rfl
theorem ga_some {n i : Nat} {K V R : Nat → Int32} {S L G : Nat → Bool} (hi : i < n) (hno : ∀ a, a < i → mgM n K V R S L a = false) (h : mgM n K V R S L i = true) : gaS n R L i (gaF n R L G i) = gaE n K V R S L G := by
  have e : mgO n K V R S L = some i := fst9_some h hno hi
  unfold gaE
  rw [e]
  exact if_pos (mgO_lt e).2
theorem ga_none {n : Nat} {K V R : Nat → Int32} {S L G : Nat → Bool} (hno : ∀ a, a < n → mgM n K V R S L a = false) : gaF n R L G n = gaE n K V R S L G := by
  have e : mgO n K V R S L = none := fst9_none hno
  unfold gaE
  rw [e]
theorem gaE_s {n i : Nat} {K V R : Nat → Int32} {S L G : Nat → Bool} (h : mgO n K V R S L = some i) : gaE n K V R S L G = mkF R L i n := by
  unfold gaE
  rw [h]
theorem mg_some {n : Nat} {K V R : Nat → Int32} {S L : Nat → Bool} (hn : n ≤ 43) (h : ¬ oI (mgO n K V R S L) < 0) : ∃ i, mgO n K V R S L = some i := by
  cases e : mgO n K V R S L with
  | none => exact absurd ((mg_lt0 hn).mpr e) h
  | some i => exact ⟨i, rfl⟩
theorem shE_v {n f : Nat} {K V R : Nat → Int32} {S L L1 : Nat → Bool} (hs : S (jdL K V R L fF n).toNatClampNeg = true) (h : shL n K V R S f L1 = shL n K V R S (n + 1) L) (ho : mgO n K V R S L1 = none) : L1 = shE n K V R S L := by
  unfold shE
  rw [if_pos hs, ← h, shL_n ho]
theorem shE_a {n : Nat} {K V R : Nat → Int32} {S L : Nat → Bool} (hs : S (jdL K V R L fF n).toNatClampNeg = false) : alF n 43 L = shE n K V R S L := by
  unfold shE
  rw [if_neg (by rw [hs]; decide)]
theorem alF_cnt {n : Nat} {L : Nat → Bool} (hn : n ≤ 43) : cnt (alF n 43 L) n = n := cnt_all (fun j hj => by
  unfold alF
  rw [if_pos (by omega), decide_eq_true hj])
def mnM (n : Nat) (K V R : Nat → Int32) (S L : Nat → Bool) : Bool := decide (0 < cnt L n) && (S (jdL K V R L fF n).toNatClampNeg && decide (mgO n K V R S L = none))
theorem mg_ge0 {n : Nat} {K V R : Nat → Int32} {S L : Nat → Bool} (hn : n ≤ 43) : 0 ≤ oI (mgO n K V R S L) ↔ ¬ mgO n K V R S L = none := by
  cases e : mgO n K V R S L with
  | none => exact ⟨fun z => absurd z (by decide), fun z => absurd rfl z⟩
  | some i => exact ⟨fun _ => (fun z => by cases z), fun _ => nI_pos' (by have := (mgO_lt e).1; omega)⟩
def pmI (K V R : Nat → Int32) (L : Nat → Bool) (i : Nat) (p : Int32) : Int32 := if p = nI 0 then K i else if p = nI 1 then nI (cnt (kP K (K i)) i) else if p = nI 2 then V i else if p = nI 3 then R i else bI (L i)
theorem in4 {p : Int32} : inB p (nI 0) (nI 4) = true ↔ ¬ (p.toInt < 0 ∨ 4 < p.toInt) := by
  unfold inB
  simp only [Bool.and_eq_true, Bool.not_eq_true', decide_eq_false_iff_not, Int32.lt_iff_toInt_lt]
  rw [show (nI 0).toInt = 0 from rfl, show (nI 4).toInt = 4 from rfl]
  omega
def cfI (n : Nat) (K V R : Nat → Int32) : Nat → Bool := fun j => decide (K j = nI 5) && ft9 V R j
def cmI (n : Nat) (K V R : Nat → Int32) (L S : Nat → Bool) (p : Int32) : Int32 := if p < nI 10 then (if p = nI 0 then nI n else if p = nI 1 then nI (cnt L n) else if p = nI 2 then nI (cnt (kP K (nI 5)) n) else if p = nI 3 then nI (cnt (cfI n K V R) n) else if p = nI 4 then nI (cnt S 256) else -1) else if p < nI 17 then nI (cnt (kP K (p - nI 10)) n) else -1
section Cm
variable {n : Nat} {K V R : Nat → Int32} {L S : Nat → Bool} {p : Int32}
theorem cm_0 : cmI n K V R L S (nI 0) = nI n := by unfold cmI; rw [if_pos (by decide), if_pos rfl]
theorem cm_1 : cmI n K V R L S (nI 1) = nI (cnt L n) := by unfold cmI; rw [if_pos (by decide), if_neg (by decide), if_pos rfl]
theorem cm_2 : cmI n K V R L S (nI 2) = nI (cnt (kP K (nI 5)) n) := by unfold cmI; rw [if_pos (by decide), if_neg (by decide), if_neg (by decide), if_pos rfl]
theorem cm_3 : cmI n K V R L S (nI 3) = nI (cnt (cfI n K V R) n) := by unfold cmI; rw [if_pos (by decide), if_neg (by decide), if_neg (by decide), if_neg (by decide), if_pos rfl]
theorem cm_4 : cmI n K V R L S (nI 4) = nI (cnt S 256) := by unfold cmI; rw [if_pos (by decide), if_neg (by decide), if_neg (by decide), if_neg (by decide), if_neg (by decide), if_pos rfl]
theorem cm_o (h10 : p < nI 10) (h : p.toInt < 0 ∨ 4 < p.toInt) : cmI n K V R L S p = -1 := by
  have e : ∀ j, j ≤ 4 → ¬ p = nI j := by
    intro j h2 e
    rw [e, nI_toInt (by omega)] at h
    omega
  unfold cmI
  rw [if_pos h10, if_neg (e 0 (by omega)), if_neg (e 1 (by omega)), if_neg (e 2 (by omega)), if_neg (e 3 (by omega)), if_neg (e 4 (by omega))]
theorem cm_k (h10 : ¬ p < nI 10) (h17 : ¬ nI 17 ≤ p) : cmI n K V R L S p = nI (cnt (kP K (p - nI 10)) n) := by
  unfold cmI
  rw [if_neg h10, if_pos (Int32.not_le.mp h17)]
theorem cm_n (h10 : ¬ p < nI 10) (h17 : nI 17 ≤ p) : cmI n K V R L S p = -1 := by
  unfold cmI
  rw [if_neg h10, if_neg (Int32.not_lt.mpr h17)]
end Cm
def bL (b : Bool) : Int64 := cond b 1 0
end
section
/-! PURE: the cells of the one and of the reference tell the same -/
def agr (n : Nat) (K V R K' V' R' : Nat → Int32) : Prop := ∀ j, j < n → K j = K' j ∧ V j = V' j ∧ R j = R' j
theorem rf_hB {n i : Nat} {R : Nat → Int32} (hn : n ≤ 43) (hR : rfK n R) (hi : i < n) : hB n (R i) = !decide (R i = -1) := by
  rcases hR i hi with e | ⟨r, h1, e⟩
  · rw [e, hB_m1]; rfl
  · rw [e, hB_nI (by omega) (by omega)]
    have h2 : ¬ nI r = -1 := fun z => by
      have h3 := nI_toInt (n := r) (by omega)
      rw [z] at h3
      have h4 : (-1 : Int32).toInt = -1 := by decide
      omega
    rw [decide_eq_false h2]; rfl
theorem rf_OK {n : Nat} {R : Nat → Int32} (hn : n ≤ 43) (hR : rfK n R) : rOK n R := by
  intro m hm h
  rw [rf_hB hn hR hm] at h
  simp only [Bool.not_eq_true', decide_eq_false_iff_not] at h
  exact rfK_lt hR hm hn h
theorem rfK_congr {n : Nat} {R R' : Nat → Int32} (h : ∀ j, j < n → R j = R' j) (hR : rfK n R') : rfK n R := fun i hi => by rw [h i hi]; exact hR i hi
theorem fB_ft {n i : Nat} {K V R : Nat → Int32} (hn : n ≤ 43) (hR : rfK n R) (hi : i < n) : fB n K V R (nI i) = (decide (K i = nI 5) && ft9 V R i) := by
  unfold fB aB ft9
  rw [nI_clamp (by omega), hB_nI hi (by omega), rf_hB hn hR hi, Bool.true_and]
theorem ft_congr {n i : Nat} {V R V' R' : Nat → Int32} (hn : n ≤ 43) (hR : rfK n R') (hi : i < n) (hv : ∀ j, j < n → V j = V' j) (hr : ∀ j, j < n → R j = R' j) : ft9 V R i = ft9 V' R' i := by
  unfold ft9
  rw [hr i hi, hv i hi]
  rcases hR i hi with e | ⟨r, h1, e⟩
  · rw [e]; rfl
  · rw [e, nI_clamp (by omega), hv r (by omega)]
theorem pq_jq {n b m : Nat} {K V R K' V' R' : Nat → Int32} (hn : n ≤ 43) (ha : agr n K V R K' V' R') (hR : rfK n R') (hk : kdK n K') (hb : b < 8) (hm : m < n) : pq9 n K V R b m = jq9 K' V' R' b m := by
  have hr : ∀ j, j < n → R j = R' j := fun j hj => (ha j hj).2.2
  have hv : ∀ j, j < n → V j = V' j := fun j hj => (ha j hj).2.1
  obtain ⟨k, hk7, ek⟩ := hk m hm
  unfold pq9 jq9
  by_cases e : b = 7
  · subst e
    rw [if_pos rfl, fB_ft hn (rfK_congr hr hR) hm, (ha m hm).1, ft_congr hn hR hm hv hr, ek, decide_eq_false (fun z => by have := (nI_eq (by omega) (by omega)).mp z; omega : ¬ nI k = nI 7)]
    simp
  · rw [if_neg e, (ha m hm).1, (ha m hm).2.1, decide_eq_false e]
    simp
theorem jq_big {n b m : Nat} {K V R : Nat → Int32} (hk : kdK n K) (hb : 8 ≤ b) (hb2 : b < 32) (hm : m < n) : jq9 K V R b m = false := by
  obtain ⟨k, hk7, ek⟩ := hk m hm
  unfold jq9
  rw [ek, decide_eq_false (fun z => by have := (nI_eq (by omega) (by omega)).mp z; omega : ¬ nI k = nI b), decide_eq_false (by omega : ¬ b = 7)]
  simp
/-- the verdict of a set of parts -/
theorem vd_jd {n : Nat} {K V R K' V' R' : Nat → Int32} {B : Nat → Int64} {v : Int64} {P L G : Nat → Bool} (hn : n ≤ 43) (ha : agr n K V R K' V' R') (hR : rfK n R') (hk : kdK n K')
    (hB8 : ∀ b, b < 8 → ∀ m, m < 64 → wbit (B b) m = (decide (m < n) && pq9 n K V R b m)) (hv : ∀ m, m < 64 → wbit v m = (decide (m < n) && P m)) (hP : ∀ m, m < n → P m = (L m && !G m)) : vdI v B = jdL K' V' R' L G n := by
  refine b_ext (fun b hb => ?_)
  rw [jdL_bt hk n (Nat.le_refl n) b hb]
  unfold vdI
  rw [vdL_bt v B 8 (by decide) b hb]
  by_cases h : b < 8
  · rw [decide_eq_true h, Bool.true_and, and_z (by omega) hv (hB8 b h), Bool.not_not]
    exact anB_congr (fun m hm => by rw [hP m hm, pq_jq hn ha hR hk h hm])
  · rw [decide_eq_false h, Bool.false_and, anB_f]
    intro i hi
    rw [jq_big hk (by omega) hb hi, Bool.and_false]
def clo (n : Nat) (R : Nat → Int32) (L : Nat → Bool) : Prop := ∀ m, m < n → L m = true → R m = -1 ∨ L (R m).toNatClampNeg = true
theorem gw_mk {n i : Nat} {R R' : Nat → Int32} {L : Nat → Bool} (hn : n ≤ 43) (hr : ∀ j, j < n → R j = R' j) (hR : rfK n R') (hc : clo n R' L) : ∀ m, m < n → L m = true → gwI n R 0 i m = mkB R' L i m := by
  intro m
  induction m using Nat.strongRecOn with
  | ind m ih =>
    intro hm hl
    have hR0 : rfK n R := rfK_congr hr hR
    by_cases hx : R' m = -1
    · have hb : hB n (R m) = false := by rw [rf_hB hn hR0 hm, hr m hm, decide_eq_true hx]; rfl
      rw [gwI_f hb]
      by_cases e : m = i
      · subst e; rw [mkB_i, decide_eq_true rfl]
      · rw [mkB_N e hx, decide_eq_false e]
    · have hb : hB n (R m) = true := by rw [rf_hB hn hR0 hm, hr m hm, decide_eq_false hx]; rfl
      have hlt : (R' m).toNatClampNeg < m := rfK_lt hR hm hn hx
      have hl2 : L (R' m).toNatClampNeg = true := (hc m hm hl).resolve_left hx
      have h1 := ih _ hlt (by omega) hl2
      rw [gwI_t (Nat.zero_le m) hb (by rw [hr m hm]; exact hlt), hr m hm, h1]
      by_cases e : m = i
      · subst e; rw [mkB_i, decide_eq_true rfl]; rfl
      · rw [decide_eq_false e, Bool.false_or]
        by_cases hi : i ≤ m
        · exact (mkB_R e hi hl hx hlt).symm
        · rw [mkB_lt (by omega), mkB_lt (by omega)]
theorem mk_L {R : Nat → Int32} {L : Nat → Bool} {i m : Nat} (hi : L i = true) (h : mkB R L i m = true) : L m = true := by
  by_cases e : m = i
  · rw [e]; exact hi
  · cases hl : L m
    · rw [mkB_L e hl] at h; cases h
    · rfl
theorem cnt_w {w : Int64} {n : Nat} {L : Nat → Bool} (hn : n ≤ 64) (h : ∀ m, m < 64 → wbit w m = (decide (m < n) && L m)) : cnt (wbit w) 64 = cnt L n := by
  have e : (64 : Nat) = n + (64 - n) := by omega
  rw [e, cnt_add, cnt_0 (n := 64 - n), Nat.add_zero]
  · exact cnt_congr (fun j hj => by rw [h j (by omega), decide_eq_true hj, Bool.true_and])
  · intro j hj
    show wbit w (n + j) = false
    rw [h (n + j) (by omega), decide_eq_false (by omega), Bool.false_and]
theorem cnt_wa {w : Int64} {n a : Nat} {L : Nat → Bool} (hn : n ≤ 64) (ha : a ≤ n) (h : ∀ m, m < 64 → wbit w m = (decide (m < n) && L m)) : cnt (wbit w) a = cnt L a := cnt_congr (fun j hj => by rw [h j (by omega), decide_eq_true (by omega), Bool.true_and])
theorem cnt_split {L M : Nat → Bool} : ∀ {n}, (∀ j, j < n → M j = true → L j = true) → cnt L n = cnt (fun j => L j && !M j) n + cnt M n
  | 0, _ => rfl
  | n + 1, h => by
    have ih := cnt_split (n := n) (fun j hj => h j (by omega))
    have h2 := h n (by omega)
    show cnt L n + (L n).toNat = cnt (fun j => L j && !M j) n + (L n && !M n).toNat + (cnt M n + (M n).toNat)
    cases hm : M n
    · cases L n <;> simp <;> omega
    · rw [h2 hm]; simp; omega
theorem w_0 {w : Int64} {n : Nat} {L : Nat → Bool} (hn : n ≤ 64) (h : ∀ m, m < 64 → wbit w m = (decide (m < n) && L m)) : w = 0 ↔ cnt L n = 0 := by
  constructor
  · intro e
    refine cnt_0 (fun j hj => ?_)
    have h1 := h j (by omega)
    rw [e, wbit_0, decide_eq_true hj, Bool.true_and] at h1
    exact h1.symm
  · intro e
    refine wbit_z.mpr (fun m hm => ?_)
    rw [h m hm]
    by_cases hx : m < n
    · cases hl : L m
      · simp
      · have := cnt_pos hx hl; omega
    · rw [decide_eq_false hx, Bool.false_and]
section Sync
variable {n : Nat} {K V R K' V' R' : Nat → Int32} {G B : Nat → Int64} {w : Int64} {L S : Nat → Bool}
def bitW (n : Nat) (w : Int64) (L : Nat → Bool) : Prop := ∀ m, m < 64 → wbit w m = (decide (m < n) && L m)
def INV (n : Nat) (K V R : Nat → Int32) (G B : Nat → Int64) (w : Int64) (K' V' R' : Nat → Int32) (L : Nat → Bool) : Prop :=
  n ≤ 43 ∧ agr n K V R K' V' R' ∧ rfK n R' ∧ kdK n K' ∧ (∀ t, t < n → ∀ m, m < 64 → wbit (G t) m = (decide (m < n) && gwI n R 0 t m)) ∧ (∀ b, b < 8 → ∀ m, m < 64 → wbit (B b) m = (decide (m < n) && pq9 n K V R b m)) ∧ bitW n w L ∧ clo n R' L
theorem INV.lr (h : INV n K V R G B w K' V' R' L) {i : Nat} (hi : i < n) (hl : L i = true) : INV n K V R G B (noW w (G i)) K' V' R' (lvF n L (mkF R' L i n)) := by
  obtain ⟨hn, ha, hR, hk, hG, hB8, hw, hc⟩ := h
  have hr : ∀ j, j < n → R j = R' j := fun j hj => (ha j hj).2.2
  refine ⟨hn, ha, hR, hk, hG, hB8, ?_, ?_⟩
  · intro m hm
    unfold noW
    rw [wbit_no _ _ hm, hw m hm, hG i hi m hm]
    by_cases hx : m < n
    · rw [decide_eq_true hx]
      unfold lvF
      rw [if_pos hx, mkF_at hx]
      cases hm2 : L m
      · simp
      · rw [gw_mk hn hr hR hc m hx hm2]
        simp
    · rw [decide_eq_false hx]; simp
  · intro m hm h
    unfold lvF at h ⊢
    rw [if_pos hm, mkF_at hm] at h
    obtain ⟨h1, h2⟩ := Bool.and_eq_true_iff.mp h
    rcases hc m hm h1 with e | e
    · exact Or.inl e
    · by_cases hx : R' m = -1
      · exact Or.inl hx
      · right
        have hlt : (R' m).toNatClampNeg < m := rfK_lt hR hm hn hx
        have hlt2 : (R' m).toNatClampNeg < n := by omega
        rw [if_pos hlt2, e, mkF_at hlt2]
        cases hmk : mkB R' L i (R' m).toNatClampNeg
        · rfl
        · exfalso
          have hmi : ¬ m = i := fun z => by rw [z, mkB_i] at h2; cases h2
          have hge : i ≤ (R' m).toNatClampNeg := by
            rcases Nat.lt_or_ge (R' m).toNatClampNeg i with q | q
            · rw [mkB_lt q] at hmk; cases hmk
            · exact q
          rw [mkB_R hmi (by omega) h1 hx hlt, hmk] at h2
          cases h2
theorem INV.lrcnt (_ : INV n K V R G B w K' V' R' L) {i : Nat} (hl : L i = true) : cnt L n = cnt (lvF n L (mkF R' L i n)) n + cnt (mkB R' L i) n := by
  rw [cnt_split (L := L) (M := mkB R' L i) (fun j _ h => mk_L hl h)]
  congr 1
  exact cnt_congr (fun j hj => by
    show (L j && !mkB R' L i j) = lvF n L (mkF R' L i n) j
    unfold lvF
    rw [if_pos hj, mkF_at hj])
theorem INV.vd (h : INV n K V R G B w K' V' R' L) : vdI w B = jdL K' V' R' L fF n := by
  obtain ⟨hn, ha, hR, hk, hG, hB8, hw, hc⟩ := h
  exact vd_jd hn ha hR hk hB8 hw (fun m _ => by simp [fF])
theorem INV.vdl (h : INV n K V R G B w K' V' R' L) {i : Nat} (hi : i < n) (hl : L i = true) : vdI (noW w (G i)) B = jdL K' V' R' L (mkF R' L i n) n := by
  obtain ⟨hn, ha, hR, hk, hG, hB8, hw, hc⟩ := h.lr hi hl
  exact vd_jd hn ha hR hk hB8 hw (fun m hm => by unfold lvF; rw [if_pos hm])
theorem INV.cw (h : INV n K V R G B w K' V' R' L) : cnt (wbit w) 64 = cnt L n := cnt_w (by have := h.1; omega) h.2.2.2.2.2.2.1
theorem INV.mg (h : INV n K V R G B w K' V' R' L) {a : Nat} (ha : a < n) : mgB S G B w a = mgM n K' V' R' S L a := by
  have hn := h.1
  have hw := h.2.2.2.2.2.2.1 a (by omega)
  rw [decide_eq_true ha, Bool.true_and] at hw
  unfold mgB mgM
  rw [hw]
  cases hl : L a
  · rw [Bool.false_and, Bool.false_and]
  · have h2 := h.lr ha hl
    have hc := h.lrcnt (i := a) hl
    have hz := w_0 (by omega) h2.2.2.2.2.2.2.1
    unfold syB
    rw [h.vdl ha hl]
    have e : (!decide (noW w (G a) = 0)) = decide (cnt (mkB R' L a) n < cnt L n) := by
      by_cases hx : noW w (G a) = 0
      · have := hz.mp hx
        rw [decide_eq_true hx, decide_eq_false (by omega)]; rfl
      · have : ¬ cnt (lvF n L (mkF R' L a n)) n = 0 := fun z => hx (hz.mpr z)
        rw [decide_eq_false hx, decide_eq_true (by omega)]; rfl
    rw [e]
theorem INV.fg (h : INV n K V R G B w K' V' R' L) : fgO S G B n w = mgO n K' V' R' S L := fst9_congr (fun _ hj => h.mg hj)
theorem sh_sync : ∀ (k : Nat) (w : Int64) (L : Nat → Bool), INV n K V R G B w K' V' R' L → INV n K V R G B (shW S G B n k w) K' V' R' (shL n K' V' R' S k L)
  | 0, _, _, h => h
  | k + 1, w, L, h => by
    show INV n K V R G B (match fgO S G B n w with | none => w | some i => shW S G B n k (noW w (G i))) K' V' R' (match mgO n K' V' R' S L with | none => L | some i => shL n K' V' R' S k (lvF n L (mkF R' L i n)))
    rw [h.fg]
    cases e : mgO n K' V' R' S L with
    | none => exact h
    | some i => exact sh_sync k _ _ (h.lr (mgO_lt e).1 (mgO_lt e).2)
theorem shL_fuel : ∀ (f f' : Nat) (L : Nat → Bool), cnt L n ≤ f → cnt L n ≤ f' → shL n K' V' R' S f L = shL n K' V' R' S f' L
  | 0, f', L, h, _ => by
    have e : mgO n K' V' R' S L = none := fst9_none (fun a ha => by
      cases hl : L a
      · unfold mgM; rw [hl]; rfl
      · have := cnt_pos ha hl; omega)
    rw [shL_n e, shL_n e]
  | f + 1, f', L, h, h' => by
    cases e : mgO n K' V' R' S L with
    | none => rw [shL_n e, shL_n e]
    | some i =>
      have h1 := mgO_lt e
      have h2 := lv_less (R := R') h1.1 h1.2
      cases f' with
      | zero => omega
      | succ g =>
        rw [shL_s e, shL_s e]
        exact shL_fuel f g _ (by omega) (by omega)
theorem INV.all (h : INV n K V R G B w K' V' R' L) : INV n K V R G B (allW n) K' V' R' (alF n 43 L) := by
  obtain ⟨hn, ha, hR, hk, hG, hB8, hw, hc⟩ := h
  refine ⟨hn, ha, hR, hk, hG, hB8, ?_, ?_⟩
  · intro m hm
    unfold allW
    rw [wbit_all n (by omega) m hm]
    by_cases hx : m < n
    · unfold alF; rw [if_pos (by omega), decide_eq_true hx]; rfl
    · rw [decide_eq_false hx, Bool.false_and]
  · intro m hm _
    rcases hR m hm with e | ⟨r, h1, e⟩
    · exact Or.inl e
    · right
      rw [e, nI_clamp (by omega)]
      unfold alF
      rw [if_pos (by omega), decide_eq_true (by omega)]
theorem INV.sh (h : INV n K V R G B w K' V' R' L) : INV n K V R G B (shO S G B n w) K' V' R' (shE n K' V' R' S L) := by
  unfold shO shE syB
  rw [h.vd]
  cases hs : S (jdL K' V' R' L fF n).toNatClampNeg
  · rw [if_neg (by decide), if_neg (by decide)]
    exact h.all
  · rw [if_pos rfl, if_pos rfl, shL_fuel (n + 1) 43 L (by have := cnt_le L n; omega) (by have := cnt_le L n; have := h.1; omega)]
    exact sh_sync 43 w L h
theorem INV.lf (h : INV n K V R G B w K' V' R' L) (p : Int32) : fst9 (lfQ w p) n = fst9 (dQ L p) n := fst9_congr (fun a ha => by
  have hn := h.1
  have hw := h.2.2.2.2.2.2.1
  unfold lfQ dQ
  rw [hw a (by omega), decide_eq_true ha, Bool.true_and, cnt_wa (by omega) (by omega : a ≤ n) hw])
theorem INV.mn (h : INV n K V R G B w K' V' R' L) : mnB S G B n w = mnM n K' V' R' S L := by
  have hn := h.1
  have hz := w_0 (by omega) h.2.2.2.2.2.2.1
  unfold mnB mnM syB
  rw [h.vd, h.fg]
  have e1 : (!decide (w = 0)) = decide (0 < cnt L n) := by
    by_cases hx : w = 0
    · have := hz.mp hx
      rw [decide_eq_true hx, decide_eq_false (by omega)]; rfl
    · have : ¬ cnt L n = 0 := fun z => hx (hz.mpr z)
      rw [decide_eq_false hx, decide_eq_true (by omega)]; rfl
  have e2 : decide (oI (mgO n K' V' R' S L) = -1) = decide (mgO n K' V' R' S L = none) := by
    have := oI_m1 (o := mgO n K' V' R' S L) (fun i hi => by have := (mgO_lt hi).1; omega)
    by_cases hx : mgO n K' V' R' S L = none
    · rw [decide_eq_true hx, decide_eq_true (this.mpr hx)]
    · rw [decide_eq_false hx, decide_eq_false (fun z => hx (this.mp z))]
  rw [e1, e2]
theorem INV.pt (h : INV n K V R G B w K' V' R' L) {i : Nat} (hi : i < n) (p : Int32) : ptI K V R w i p = pmI K' V' R' L i p := by
  have ha := h.2.1
  have hw := h.2.2.2.2.2.2.1 i (by have := h.1; omega)
  rw [decide_eq_true hi, Bool.true_and] at hw
  unfold ptI pmI
  rw [(ha i hi).1, (ha i hi).2.1, (ha i hi).2.2, hw, cnt_congr (P := kP K (K' i)) (Q := kP K' (K' i)) (fun j hj => by unfold kP; rw [(ha j (by omega)).1])]
theorem INV.wo (h : INV n K V R G B w K' V' R' L) {i : Nat} (hi : i < n) (hl : L i = true) : (nI (cnt (wbit w) 64)) - (nI (cnt (wbit (noW w (G i))) 64)) = nI (cnt (mkB R' L i) n) := by
  have hc := h.lrcnt (i := i) hl
  rw [h.cw, (h.lr hi hl).cw, pk_sub (by omega)]
  congr 1
  omega
theorem INV.ft (h : INV n K V R G B w K' V' R' L) {i : Nat} (hi : i < n) (h5 : K' i = nI 5) : fB n K V R (nI i) = ft9 V' R' i := by
  obtain ⟨hn, ha, hR, hk, hG, hB8, hw, hc⟩ := h
  have hr : ∀ j, j < n → R j = R' j := fun j hj => (ha j hj).2.2
  rw [fB_ft hn (rfK_congr hr hR) hi, (ha i hi).1, h5, decide_eq_true rfl, Bool.true_and, ft_congr hn hR hi (fun j hj => (ha j hj).2.1) hr]
theorem INV.ct (h : INV n K V R G B w K' V' R' L) (p : Int32) : ctI n K B S w p = cmI n K' V' R' L S p := by
  have hcw := h.cw
  obtain ⟨hn, ha, hR, hk, hG, hB8, hw, hc⟩ := h
  have hr : ∀ j, j < n → R j = R' j := fun j hj => (ha j hj).2.2
  have hkp : ∀ q, cnt (kP K q) n = cnt (kP K' q) n := fun q => cnt_congr (fun j hj => by unfold kP; rw [(ha j hj).1])
  have h7 : cnt (wbit (B 7)) 64 = cnt (cfI n K' V' R') n := by
    rw [cnt_w (by omega) (hB8 7 (by decide))]
    exact cnt_congr (fun j hj => by
      unfold pq9 cfI
      rw [if_pos rfl, fB_ft hn (rfK_congr hr hR) hj, (ha j hj).1, ft_congr hn hR hj (fun j hj => (ha j hj).2.1) hr])
  by_cases h4 : p.toInt < 0 ∨ 4 < p.toInt
  · rw [ct_o h4]
    unfold ckI
    by_cases h10 : p < nI 10
    · rw [cm_o h10 h4, if_pos (Or.inl h10)]
    · by_cases h17 : nI 17 ≤ p
      · rw [cm_n h10 h17, if_pos (Or.inr (Int32.not_lt.mpr h17))]
      · rw [cm_k h10 h17, if_neg (fun z => z.elim h10 (fun y => y (Int32.not_le.mp h17))), hkp]
  · have hcase : ∃ j, j < 5 ∧ p = nI j := by
      refine ⟨p.toInt.toNat, by omega, sw_eq (k := p.toInt) rfl ?_⟩
      rw [nI_toInt (by omega)]
      omega
    obtain ⟨j, hj, rfl⟩ := hcase
    rcases (by omega : j = 0 ∨ j = 1 ∨ j = 2 ∨ j = 3 ∨ j = 4) with rfl | rfl | rfl | rfl | rfl
    · rw [ct_0, cm_0]
    · rw [ct_1, cm_1, hcw]
    · rw [ct_2, cm_2, hkp]
    · rw [ct_3, cm_3, h7]
    · rw [ct_4, cm_4]
end Sync
/-! the drawing: the one's parts and the reference's -/
def clS (t : HS) : Nat → HS
  | 0 => t
  | k + 1 => adS (if k < 3 then nI k else nbI (clS t k).1 7) k (if k < 3 then (clS t k).1 else nbX (clS t k).1 7, (clS t k).2)
theorem clS_s (t : HS) (k : Nat) : clS t (k + 1) = adS (if k < 3 then nI k else nbI (clS t k).1 7) k (if k < 3 then (clS t k).1 else nbX (clS t k).1 7, (clS t k).2) := rfl
theorem clS_3 (t : HS) : clS t 3 = fl3 t := by
  rw [clS_s t 2, if_pos (by decide), if_pos (by decide), clS_s t 1, if_pos (by decide), if_pos (by decide), clS_s t 0, if_pos (by decide), if_pos (by decide)]
  rfl
theorem flL_cl (t : HS) : ∀ j, flL (fl3 t) j = clS t (j + 3)
  | 0 => (clS_3 t).symm
  | j + 1 => by
    show adS (nbI (flL (fl3 t) j).1 7) (j + 3) (nbX (flL (fl3 t) j).1 7, (flL (fl3 t) j).2) = clS t (j + 3 + 1)
    rw [flL_cl t j, clS_s t (j + 3), if_neg (by omega), if_neg (by omega)]
theorem flS_cl (sd : Int64) (K V R : Nat → Int32) (z : Nat) : flS sd K V R z = clS (sd, K, V, R) (z + 3) := flL_cl _ z
theorem mP_congr {K K' : Nat → Int32} {kd : Int32} {n : Nat} (h : ∀ j, j < n → K j = K' j) : ∀ j, j < n → mP K kd j = mP K' kd j := fun j hj => by unfold mP; rw [h j hj]
theorem rfX_congr {K K' : Nat → Int32} {kd : Int32} {n : Nat} {x : Int64} (h : ∀ j, j < n → K j = K' j) : rfX K n kd x = rfX K' n kd x := by
  unfold rfX
  rw [cnt_congr (mP_congr h)]
theorem rfI_congr {K K' : Nat → Int32} {kd : Int32} {n : Nat} {x : Int64} (h : ∀ j, j < n → K j = K' j) : rfI K n kd x = rfI K' n kd x := by
  unfold rfI
  rw [cnt_congr (mP_congr h)]
  congr 1
  refine fst9_congr (fun a ha => ?_)
  unfold dQ
  rw [mP_congr h a ha, cnt_congr (fun j hj => mP_congr h j (by omega))]
def agS (f k : Nat) (t u : HS) : Prop := t.1 = u.1 ∧ ∀ j, j < k → t.2.1 j = u.2.1 (f + j) ∧ t.2.2.1 j = u.2.2.1 (f + j) ∧ t.2.2.2 j = u.2.2.2 (f + j)
theorem agS_s {f k : Nat} {t u : HS} {kd : Int32} (h : agS f k t u) : agS f (k + 1) (adS kd k t) (adM f kd k u) := by
  obtain ⟨hx, h⟩ := h
  have hK : ∀ j, j < k → upd t.2.1 k kd j = shf (upd u.2.1 (f + k) kd) f j := fun j hj => by
    unfold shf
    rw [pk_un (by omega), pk_un (by omega), (h j hj).1]
  have e1 : rfX (upd t.2.1 k kd) k kd (nbX t.1 100) = rfX (shf (upd u.2.1 (f + k) kd) f) k kd (nbX u.1 100) := by rw [hx]; exact rfX_congr hK
  have e2 : rfI (upd t.2.1 k kd) k kd (nbX t.1 100) = rfI (shf (upd u.2.1 (f + k) kd) f) k kd (nbX u.1 100) := by rw [hx]; exact rfI_congr hK
  refine ⟨e1, fun j hj => ?_⟩
  show upd t.2.1 k kd j = upd u.2.1 (f + k) kd (f + j) ∧ upd t.2.2.1 k (nbI t.1 100) j = upd u.2.2.1 (f + k) (nbI u.1 100) (f + j) ∧ upd t.2.2.2 k (rfI (upd t.2.1 k kd) k kd (nbX t.1 100)) j = upd u.2.2.2 (f + k) (rfI (shf (upd u.2.1 (f + k) kd) f) k kd (nbX u.1 100)) (f + j)
  by_cases e : j = k
  · subst e
    rw [pk_us, pk_us, pk_us, pk_us, pk_us, pk_us, hx, ← e2, hx]
    exact ⟨rfl, rfl, rfl⟩
  · rw [pk_un e, pk_un (by omega), pk_un e, pk_un (by omega), pk_un e, pk_un (by omega)]
    exact h j (by omega)
theorem cl_dr {f : Nat} {t u : HS} (h : t.1 = u.1) : ∀ k, agS f k (clS t k) (drM f u k)
  | 0 => ⟨h, fun _ h => absurd h (Nat.not_lt_zero _)⟩
  | k + 1 => by
    have ih := cl_dr (f := f) h k
    show agS f (k + 1) (adS (if k < 3 then nI k else nbI (clS t k).1 7) k (if k < 3 then (clS t k).1 else nbX (clS t k).1 7, (clS t k).2)) (adM f (if k < 3 then nI k else nbI (drM f u k).1 7) k (if k < 3 then (drM f u k).1 else nbX (drM f u k).1 7, (drM f u k).2))
    rw [ih.1]
    exact agS_s ⟨rfl, ih.2⟩
theorem dr_low {f : Nat} {u : HS} : ∀ k j, j < f → (drM f u k).2.1 j = u.2.1 j ∧ (drM f u k).2.2.1 j = u.2.2.1 j ∧ (drM f u k).2.2.2 j = u.2.2.2 j
  | 0, _, _ => ⟨rfl, rfl, rfl⟩
  | k + 1, j, hj => by
    have ih := dr_low (u := u) k j hj
    refine ⟨?_, ?_, ?_⟩
    · exact (pk_un (by omega)).trans ih.1
    · exact (pk_un (by omega)).trans ih.2.1
    · exact (pk_un (by omega)).trans ih.2.2
theorem cl_ok (t : HS) : ∀ k i, i < k → (∃ q, q < 7 ∧ (clS t k).2.1 i = nI q) ∧ ((clS t k).2.2.2 i = -1 ∨ ∃ r, r < i ∧ (clS t k).2.2.2 i = nI r)
  | 0, i, h => absurd h (Nat.not_lt_zero i)
  | k + 1, i, h => by
    by_cases e : i = k
    · subst e
      refine ⟨?_, ?_⟩
      · show ∃ q, q < 7 ∧ upd (clS t i).2.1 i (if i < 3 then nI i else nbI (clS t i).1 7) i = nI q
        rw [pk_us]
        by_cases h3 : i < 3
        · rw [if_pos h3]; exact ⟨i, by omega, rfl⟩
        · rw [if_neg h3]
          unfold nbI
          rw [if_neg (by decide)]
          exact ⟨_, Nat.mod_lt _ (by decide), rfl⟩
      · rw [clS_s]
        generalize (if i < 3 then nI i else nbI (clS t i).1 7) = kd
        generalize ((if i < 3 then (clS t i).1 else nbX (clS t i).1 7), (clS t i).2) = u
        show upd u.2.2.2 i (rfI (upd u.2.1 i kd) i kd (nbX u.1 100)) i = -1 ∨ ∃ r, r < i ∧ upd u.2.2.2 i (rfI (upd u.2.1 i kd) i kd (nbX u.1 100)) i = nI r
        rw [pk_us]
        unfold rfI
        cases hx : fst9 (dQ (mP (upd u.2.1 i kd) kd) (nbI (nbX u.1 100) (cnt (mP (upd u.2.1 i kd) kd) i))) i with
        | none => exact Or.inl rfl
        | some r => exact Or.inr ⟨r, (fst9_spec hx).1, rfl⟩
    · have ih := cl_ok t k i (by omega)
      refine ⟨?_, ?_⟩
      · obtain ⟨q, h1, h2⟩ := ih.1
        exact ⟨q, h1, (pk_un e).trans h2⟩
      · rcases ih.2 with h1 | ⟨r, h1, h2⟩
        · exact Or.inl ((pk_un e).trans h1)
        · exact Or.inr ⟨r, h1, (pk_un e).trans h2⟩
theorem INV_draw {sd : Int64} {K V R K' V' R' : Nat → Int32} {G B : Nat → Int64} {L : Nat → Bool} {z : Nat} (hz : z ≤ 40) :
    INV (z + 3) (flS sd K V R z).2.1 (flS sd K V R z).2.2.1 (flS sd K V R z).2.2.2 (gwG (z + 3) (flS sd K V R z).2.2.2 G) (pbB (z + 3) (flS sd K V R z).2.1 (flS sd K V R z).2.2.1 (flS sd K V R z).2.2.2 B) (allW (z + 3))
      (drM 0 (sd, K', V', R') (z + 3)).2.1 (drM 0 (sd, K', V', R') (z + 3)).2.2.1 (drM 0 (sd, K', V', R') (z + 3)).2.2.2 (alF (z + 3) 43 L) := by
  rw [flS_cl]
  have hc := cl_dr (f := 0) (t := (sd, K, V, R)) (u := (sd, K', V', R')) rfl (z + 3)
  have ho := cl_ok (sd, K, V, R) (z + 3)
  have ha : agr (z + 3) (clS (sd, K, V, R) (z + 3)).2.1 (clS (sd, K, V, R) (z + 3)).2.2.1 (clS (sd, K, V, R) (z + 3)).2.2.2 (drM 0 (sd, K', V', R') (z + 3)).2.1 (drM 0 (sd, K', V', R') (z + 3)).2.2.1 (drM 0 (sd, K', V', R') (z + 3)).2.2.2 := fun j hj => by
    have := hc.2 j hj
    rw [Nat.zero_add] at this
    exact this
  have hr0 : rfK (z + 3) (clS (sd, K, V, R) (z + 3)).2.2.2 := fun i hi => (ho i hi).2
  have hr : rfK (z + 3) (drM 0 (sd, K', V', R') (z + 3)).2.2.2 := rfK_congr (fun j hj => (ha j hj).2.2.symm) hr0
  have hk : kdK (z + 3) (drM 0 (sd, K', V', R') (z + 3)).2.1 := fun i hi => by
    rw [← (ha i hi).1]
    exact (ho i hi).1
  refine ⟨by omega, ha, hr, hk, fun t ht m hm => gwG_bit (by omega) (rf_OK (by omega) hr0) ht hm, fun b hb m hm => pbB_bit (by omega) hb hm, fun m hm => ?_, fun m hm _ => ?_⟩
  · unfold allW
    rw [wbit_all (z + 3) (by omega) m hm]
    by_cases hx : m < z + 3
    · unfold alF; rw [if_pos (by omega), decide_eq_true hx]; rfl
    · rw [decide_eq_false hx, Bool.false_and]
  · rcases hr m hm with e | ⟨r, h1, e⟩
    · exact Or.inl e
    · right
      rw [e, nI_clamp (by omega)]
      unfold alF
      rw [if_pos (by omega), decide_eq_true (by omega)]
theorem INV_same {n : Nat} {K V R K' V' R' : Nat → Int32} {ot : Int64} {K2 V2 R2 : Nat → Int32} {z : Nat} (hn : n ≤ 43) (ha : agr n K V R K' V' R') :
    lkB n (z + 3) K V R (flS ot K2 V2 R2 z).2.1 (flS ot K2 V2 R2 z).2.2.1 (flS ot K2 V2 R2 z).2.2.2 =
      (decide (n = z + 3) && alB (eq3 (drM 43 (ot, K', V', R') (z + 3)).2.1 (drM 43 (ot, K', V', R') (z + 3)).2.2.1 (drM 43 (ot, K', V', R') (z + 3)).2.2.2 (shf (drM 43 (ot, K', V', R') (z + 3)).2.1 43) (shf (drM 43 (ot, K', V', R') (z + 3)).2.2.1 43) (shf (drM 43 (ot, K', V', R') (z + 3)).2.2.2 43)) n) := by
  rw [flS_cl]
  have hc := cl_dr (f := 43) (t := (ot, K2, V2, R2)) (u := (ot, K', V', R')) rfl (z + 3)
  unfold lkB alB
  by_cases e : n = z + 3
  · rw [decide_eq_true e, decide_eq_true e.symm]
    congr 2
    refine fst9_congr (fun j hj => ?_)
    have h1 := ha j hj
    have h2 := hc.2 j (by omega)
    have h3 := dr_low (f := 43) (u := (ot, K', V', R')) (z + 3) j (by omega)
    show (!(eq3 K V R _ _ _ j)) = (!(eq3 _ _ _ _ _ _ j))
    unfold eq3 shf
    rw [h1.1, h1.2.1, h1.2.2, h2.1, h2.2.1, h2.2.2, h3.1, h3.2.1, h3.2.2]
  · rw [decide_eq_false e, decide_eq_false (fun z => e z.symm)]
    rfl
theorem INV_0 : INV 0 (fun _ => 0) (fun _ => 0) (fun _ => 0) (fun _ => 0) (fun _ => 0) 0 (fun _ => 0) (fun _ => 0) (fun _ => 0) fF := by
  refine ⟨by omega, fun j h => absurd h (Nat.not_lt_zero j), fun j h => absurd h (Nat.not_lt_zero j), fun j h => absurd h (Nat.not_lt_zero j), fun j h => absurd h (Nat.not_lt_zero j), fun b _ m _ => ?_, fun m _ => ?_, fun j h => absurd h (Nat.not_lt_zero j)⟩
  · show wbit 0 m = _
    rw [wbit_0]
    simp
  · rw [wbit_0]
    simp
end
