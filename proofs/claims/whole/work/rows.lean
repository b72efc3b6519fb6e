section
-- ===== PART A: goes FIRST, ahead of the names: the tables' words, and 'selects' of the private methods out of them =====
/-- a private method of a class that the tables say can be made, by its rows of tables_1 -/
def lw_okq (q : MethodName × Nat) : Prop := (q.1.cls ≠ "java/lang/invoke/MethodHandle" ∧ q.1.cls ≠ "java/lang/invoke/VarHandle") ∧ Cond.instantiable q.1.cls q.2 ∈ tables_1 ∧ Cond.privateMethod q.1 ∈ tables_1 ∧ Cond.instanceMethod q.1 ∈ tables_1
theorem lw_p0 : lw_okq (⟨"PortDrawer", "verdictOf", "(J)I"⟩, 7) := ⟨⟨by decide +kernel, by decide +kernel⟩, List.mem_of_getElem? (i := 12) (by decide +kernel), List.mem_of_getElem? (i := 89) (by decide +kernel), List.mem_of_getElem? (i := 90) (by decide +kernel)⟩
theorem lw_p1 : lw_okq (⟨"PortDrawer", "staysWith", "(J)Z"⟩, 7) := ⟨⟨by decide +kernel, by decide +kernel⟩, List.mem_of_getElem? (i := 12) (by decide +kernel), List.mem_of_getElem? (i := 97) (by decide +kernel), List.mem_of_getElem? (i := 98) (by decide +kernel)⟩
theorem lw_p2 : lw_okq (⟨"PortDrawer", "allParts", "()J"⟩, 7) := ⟨⟨by decide +kernel, by decide +kernel⟩, List.mem_of_getElem? (i := 12) (by decide +kernel), List.mem_of_getElem? (i := 101) (by decide +kernel), List.mem_of_getElem? (i := 102) (by decide +kernel)⟩
theorem lw_p3 : lw_okq (⟨"PortDrawer", "firstThatMayGo", "()I"⟩, 7) := ⟨⟨by decide +kernel, by decide +kernel⟩, List.mem_of_getElem? (i := 12) (by decide +kernel), List.mem_of_getElem? (i := 111) (by decide +kernel), List.mem_of_getElem? (i := 112) (by decide +kernel)⟩
theorem lw_p4 : lw_okq (⟨"PortDrawer", "leftWithout", "(I)J"⟩, 7) := ⟨⟨by decide +kernel, by decide +kernel⟩, List.mem_of_getElem? (i := 12) (by decide +kernel), List.mem_of_getElem? (i := 118) (by decide +kernel), List.mem_of_getElem? (i := 119) (by decide +kernel)⟩
theorem lw_p5 : lw_okq (⟨"PortDrawer$Harbour", "ofKindAheadOf", "(II)I"⟩, 5) := ⟨⟨by decide +kernel, by decide +kernel⟩, List.mem_of_getElem? (i := 20) (by decide +kernel), List.mem_of_getElem? (i := 135) (by decide +kernel), List.mem_of_getElem? (i := 136) (by decide +kernel)⟩
theorem lw_p6 : lw_okq (⟨"PortDrawer", "verdictsThatStay", "()I"⟩, 7) := ⟨⟨by decide +kernel, by decide +kernel⟩, List.mem_of_getElem? (i := 12) (by decide +kernel), List.mem_of_getElem? (i := 139) (by decide +kernel), List.mem_of_getElem? (i := 140) (by decide +kernel)⟩
theorem lw_p7 : lw_okq (⟨"PortDrawer", "countOfKind", "(I)I"⟩, 7) := ⟨⟨by decide +kernel, by decide +kernel⟩, List.mem_of_getElem? (i := 12) (by decide +kernel), List.mem_of_getElem? (i := 143) (by decide +kernel), List.mem_of_getElem? (i := 144) (by decide +kernel)⟩
theorem lw_p8 : lw_okq (⟨"java/lang/Throwable", "fillInStackTrace", "(I)Ljava/lang/Throwable;"⟩, 6) := ⟨⟨by decide +kernel, by decide +kernel⟩, List.mem_of_getElem? (i := 198) (by decide +kernel), List.mem_of_getElem? (i := 196) (by decide +kernel), List.mem_of_getElem? (i := 197) (by decide +kernel)⟩
theorem lw_p9 : lw_okq (⟨"PortDrawer$Harbour", "fill", "(JI)V"⟩, 5) := ⟨⟨by decide +kernel, by decide +kernel⟩, List.mem_of_getElem? (i := 20) (by decide +kernel), List.mem_of_getElem? (i := 228) (by decide +kernel), List.mem_of_getElem? (i := 229) (by decide +kernel)⟩
theorem lw_p10 : lw_okq (⟨"PortDrawer$Tape", "rewind", "(J)V"⟩, 1) := ⟨⟨by decide +kernel, by decide +kernel⟩, List.mem_of_getElem? (i := 26) (by decide +kernel), List.mem_of_getElem? (i := 232) (by decide +kernel), List.mem_of_getElem? (i := 233) (by decide +kernel)⟩
theorem lw_p11 : lw_okq (⟨"PortDrawer$Harbour", "addPart", "(I)V"⟩, 5) := ⟨⟨by decide +kernel, by decide +kernel⟩, List.mem_of_getElem? (i := 20) (by decide +kernel), List.mem_of_getElem? (i := 236) (by decide +kernel), List.mem_of_getElem? (i := 237) (by decide +kernel)⟩
theorem lw_p12 : lw_okq (⟨"PortDrawer$Tape", "numberBelow", "(I)I"⟩, 1) := ⟨⟨by decide +kernel, by decide +kernel⟩, List.mem_of_getElem? (i := 26) (by decide +kernel), List.mem_of_getElem? (i := 240) (by decide +kernel), List.mem_of_getElem? (i := 241) (by decide +kernel)⟩
theorem lw_p13 : lw_okq (⟨"PortDrawer$Harbour", "drawReference", "(I)I"⟩, 5) := ⟨⟨by decide +kernel, by decide +kernel⟩, List.mem_of_getElem? (i := 20) (by decide +kernel), List.mem_of_getElem? (i := 246) (by decide +kernel), List.mem_of_getElem? (i := 247) (by decide +kernel)⟩
theorem lw_p14 : lw_okq (⟨"PortDrawer$Harbour", "partsToReferTo", "(I)I"⟩, 5) := ⟨⟨by decide +kernel, by decide +kernel⟩, List.mem_of_getElem? (i := 20) (by decide +kernel), List.mem_of_getElem? (i := 250) (by decide +kernel), List.mem_of_getElem? (i := 251) (by decide +kernel)⟩
theorem lw_p15 : lw_okq (⟨"PortDrawer", "noteGoingWith", "()V"⟩, 7) := ⟨⟨by decide +kernel, by decide +kernel⟩, List.mem_of_getElem? (i := 12) (by decide +kernel), List.mem_of_getElem? (i := 257) (by decide +kernel), List.mem_of_getElem? (i := 258) (by decide +kernel)⟩
def lw_privs_1 : List (MethodName × Nat) := [(⟨"PortDrawer", "verdictOf", "(J)I"⟩, 7), (⟨"PortDrawer", "staysWith", "(J)Z"⟩, 7), (⟨"PortDrawer", "allParts", "()J"⟩, 7), (⟨"PortDrawer", "firstThatMayGo", "()I"⟩, 7), (⟨"PortDrawer", "leftWithout", "(I)J"⟩, 7), (⟨"PortDrawer$Harbour", "ofKindAheadOf", "(II)I"⟩, 5), (⟨"PortDrawer", "verdictsThatStay", "()I"⟩, 7), (⟨"PortDrawer", "countOfKind", "(I)I"⟩, 7), (⟨"java/lang/Throwable", "fillInStackTrace", "(I)Ljava/lang/Throwable;"⟩, 6), (⟨"PortDrawer$Harbour", "fill", "(JI)V"⟩, 5), (⟨"PortDrawer$Tape", "rewind", "(J)V"⟩, 1), (⟨"PortDrawer$Harbour", "addPart", "(I)V"⟩, 5), (⟨"PortDrawer$Tape", "numberBelow", "(I)I"⟩, 1), (⟨"PortDrawer$Harbour", "drawReference", "(I)I"⟩, 5), (⟨"PortDrawer$Harbour", "partsToReferTo", "(I)I"⟩, 5), (⟨"PortDrawer", "noteGoingWith", "()V"⟩, 7)]
theorem lw_r1 : ∀ q ∈ lw_privs_1, lw_okq q := List.forall_mem_cons.mpr ⟨lw_p0, List.forall_mem_cons.mpr ⟨lw_p1, List.forall_mem_cons.mpr ⟨lw_p2, List.forall_mem_cons.mpr ⟨lw_p3, List.forall_mem_cons.mpr ⟨lw_p4, List.forall_mem_cons.mpr ⟨lw_p5, List.forall_mem_cons.mpr ⟨lw_p6, List.forall_mem_cons.mpr ⟨lw_p7, List.forall_mem_cons.mpr ⟨lw_p8, List.forall_mem_cons.mpr ⟨lw_p9, List.forall_mem_cons.mpr ⟨lw_p10, List.forall_mem_cons.mpr ⟨lw_p11, List.forall_mem_cons.mpr ⟨lw_p12, List.forall_mem_cons.mpr ⟨lw_p13, List.forall_mem_cons.mpr ⟨lw_p14, List.forall_mem_cons.mpr ⟨lw_p15, fun _ h => absurd h List.not_mem_nil⟩⟩⟩⟩⟩⟩⟩⟩⟩⟩⟩⟩⟩⟩⟩⟩
theorem lw_p16 : lw_okq (⟨"PortDrawer$Harbour", "has", "(I)Z"⟩, 5) := ⟨⟨by decide +kernel, by decide +kernel⟩, List.mem_of_getElem? (i := 20) (by decide +kernel), List.mem_of_getElem? (i := 261) (by decide +kernel), List.mem_of_getElem? (i := 262) (by decide +kernel)⟩
theorem lw_p17 : lw_okq (⟨"PortDrawer", "notePartsOfBits", "()V"⟩, 7) := ⟨⟨by decide +kernel, by decide +kernel⟩, List.mem_of_getElem? (i := 12) (by decide +kernel), List.mem_of_getElem? (i := 265) (by decide +kernel), List.mem_of_getElem? (i := 266) (by decide +kernel)⟩
theorem lw_p18 : lw_okq (⟨"PortDrawer$Harbour", "isFittingAct", "(I)Z"⟩, 5) := ⟨⟨by decide +kernel, by decide +kernel⟩, List.mem_of_getElem? (i := 20) (by decide +kernel), List.mem_of_getElem? (i := 269) (by decide +kernel), List.mem_of_getElem? (i := 270) (by decide +kernel)⟩
theorem lw_p19 : lw_okq (⟨"PortDrawer$Harbour", "isAct", "(I)Z"⟩, 5) := ⟨⟨by decide +kernel, by decide +kernel⟩, List.mem_of_getElem? (i := 20) (by decide +kernel), List.mem_of_getElem? (i := 273) (by decide +kernel), List.mem_of_getElem? (i := 274) (by decide +kernel)⟩
theorem lw_p20 : lw_okq (⟨"PortDrawer$Harbour", "isLike", "(LPortDrawer$Harbour;)Z"⟩, 5) := ⟨⟨by decide +kernel, by decide +kernel⟩, List.mem_of_getElem? (i := 20) (by decide +kernel), List.mem_of_getElem? (i := 327) (by decide +kernel), List.mem_of_getElem? (i := 328) (by decide +kernel)⟩
theorem lw_p21 : lw_okq (⟨"PortDrawerModel", "refuse", "(I)I"⟩, 10) := ⟨⟨by decide +kernel, by decide +kernel⟩, List.mem_of_getElem? (i := 331) (by decide +kernel), List.mem_of_getElem? (i := 379) (by decide +kernel), List.mem_of_getElem? (i := 380) (by decide +kernel)⟩
theorem lw_p22 : lw_okq (⟨"PortDrawerModel", "draws", "(JII)V"⟩, 10) := ⟨⟨by decide +kernel, by decide +kernel⟩, List.mem_of_getElem? (i := 331) (by decide +kernel), List.mem_of_getElem? (i := 383) (by decide +kernel), List.mem_of_getElem? (i := 384) (by decide +kernel)⟩
theorem lw_p23 : lw_okq (⟨"PortDrawerModel", "number", "(I)I"⟩, 10) := ⟨⟨by decide +kernel, by decide +kernel⟩, List.mem_of_getElem? (i := 331) (by decide +kernel), List.mem_of_getElem? (i := 387) (by decide +kernel), List.mem_of_getElem? (i := 388) (by decide +kernel)⟩
theorem lw_p24 : lw_okq (⟨"PortDrawerModel", "reference", "(II)I"⟩, 10) := ⟨⟨by decide +kernel, by decide +kernel⟩, List.mem_of_getElem? (i := 331) (by decide +kernel), List.mem_of_getElem? (i := 393) (by decide +kernel), List.mem_of_getElem? (i := 394) (by decide +kernel)⟩
theorem lw_p25 : lw_okq (⟨"PortDrawerModel", "all", "()V"⟩, 10) := ⟨⟨by decide +kernel, by decide +kernel⟩, List.mem_of_getElem? (i := 331) (by decide +kernel), List.mem_of_getElem? (i := 400) (by decide +kernel), List.mem_of_getElem? (i := 401) (by decide +kernel)⟩
theorem lw_p26 : lw_okq (⟨"PortDrawerModel", "isPart", "(I)Z"⟩, 10) := ⟨⟨by decide +kernel, by decide +kernel⟩, List.mem_of_getElem? (i := 331) (by decide +kernel), List.mem_of_getElem? (i := 412) (by decide +kernel), List.mem_of_getElem? (i := 413) (by decide +kernel)⟩
theorem lw_p27 : lw_okq (⟨"PortDrawerModel", "isFit", "(I)Z"⟩, 10) := ⟨⟨by decide +kernel, by decide +kernel⟩, List.mem_of_getElem? (i := 331) (by decide +kernel), List.mem_of_getElem? (i := 416) (by decide +kernel), List.mem_of_getElem? (i := 417) (by decide +kernel)⟩
theorem lw_p28 : lw_okq (⟨"PortDrawerModel", "none", "()V"⟩, 10) := ⟨⟨by decide +kernel, by decide +kernel⟩, List.mem_of_getElem? (i := 331) (by decide +kernel), List.mem_of_getElem? (i := 428) (by decide +kernel), List.mem_of_getElem? (i := 429) (by decide +kernel)⟩
theorem lw_p29 : lw_okq (⟨"PortDrawerModel", "judged", "()I"⟩, 10) := ⟨⟨by decide +kernel, by decide +kernel⟩, List.mem_of_getElem? (i := 331) (by decide +kernel), List.mem_of_getElem? (i := 432) (by decide +kernel), List.mem_of_getElem? (i := 433) (by decide +kernel)⟩
theorem lw_p30 : lw_okq (⟨"PortDrawerModel", "first", "()I"⟩, 10) := ⟨⟨by decide +kernel, by decide +kernel⟩, List.mem_of_getElem? (i := 331) (by decide +kernel), List.mem_of_getElem? (i := 440) (by decide +kernel), List.mem_of_getElem? (i := 441) (by decide +kernel)⟩
theorem lw_p31 : lw_okq (⟨"PortDrawerModel", "mayGo", "(I)Z"⟩, 10) := ⟨⟨by decide +kernel, by decide +kernel⟩, List.mem_of_getElem? (i := 331) (by decide +kernel), List.mem_of_getElem? (i := 444) (by decide +kernel), List.mem_of_getElem? (i := 445) (by decide +kernel)⟩
def lw_privs_2 : List (MethodName × Nat) := [(⟨"PortDrawer$Harbour", "has", "(I)Z"⟩, 5), (⟨"PortDrawer", "notePartsOfBits", "()V"⟩, 7), (⟨"PortDrawer$Harbour", "isFittingAct", "(I)Z"⟩, 5), (⟨"PortDrawer$Harbour", "isAct", "(I)Z"⟩, 5), (⟨"PortDrawer$Harbour", "isLike", "(LPortDrawer$Harbour;)Z"⟩, 5), (⟨"PortDrawerModel", "refuse", "(I)I"⟩, 10), (⟨"PortDrawerModel", "draws", "(JII)V"⟩, 10), (⟨"PortDrawerModel", "number", "(I)I"⟩, 10), (⟨"PortDrawerModel", "reference", "(II)I"⟩, 10), (⟨"PortDrawerModel", "all", "()V"⟩, 10), (⟨"PortDrawerModel", "isPart", "(I)Z"⟩, 10), (⟨"PortDrawerModel", "isFit", "(I)Z"⟩, 10), (⟨"PortDrawerModel", "none", "()V"⟩, 10), (⟨"PortDrawerModel", "judged", "()I"⟩, 10), (⟨"PortDrawerModel", "first", "()I"⟩, 10), (⟨"PortDrawerModel", "mayGo", "(I)Z"⟩, 10)]
theorem lw_r2 : ∀ q ∈ lw_privs_2, lw_okq q := List.forall_mem_cons.mpr ⟨lw_p16, List.forall_mem_cons.mpr ⟨lw_p17, List.forall_mem_cons.mpr ⟨lw_p18, List.forall_mem_cons.mpr ⟨lw_p19, List.forall_mem_cons.mpr ⟨lw_p20, List.forall_mem_cons.mpr ⟨lw_p21, List.forall_mem_cons.mpr ⟨lw_p22, List.forall_mem_cons.mpr ⟨lw_p23, List.forall_mem_cons.mpr ⟨lw_p24, List.forall_mem_cons.mpr ⟨lw_p25, List.forall_mem_cons.mpr ⟨lw_p26, List.forall_mem_cons.mpr ⟨lw_p27, List.forall_mem_cons.mpr ⟨lw_p28, List.forall_mem_cons.mpr ⟨lw_p29, List.forall_mem_cons.mpr ⟨lw_p30, List.forall_mem_cons.mpr ⟨lw_p31, fun _ h => absurd h List.not_mem_nil⟩⟩⟩⟩⟩⟩⟩⟩⟩⟩⟩⟩⟩⟩⟩⟩
theorem lw_p32 : lw_okq (⟨"PortDrawerModel", "marks", "(I)I"⟩, 10) := ⟨⟨by decide +kernel, by decide +kernel⟩, List.mem_of_getElem? (i := 331) (by decide +kernel), List.mem_of_getElem? (i := 448) (by decide +kernel), List.mem_of_getElem? (i := 449) (by decide +kernel)⟩
theorem lw_p33 : lw_okq (⟨"PortDrawerModel", "many", "()I"⟩, 10) := ⟨⟨by decide +kernel, by decide +kernel⟩, List.mem_of_getElem? (i := 331) (by decide +kernel), List.mem_of_getElem? (i := 452) (by decide +kernel), List.mem_of_getElem? (i := 453) (by decide +kernel)⟩
theorem lw_p34 : lw_okq (⟨"PortDrawerModel", "leaves", "()V"⟩, 10) := ⟨⟨by decide +kernel, by decide +kernel⟩, List.mem_of_getElem? (i := 331) (by decide +kernel), List.mem_of_getElem? (i := 456) (by decide +kernel), List.mem_of_getElem? (i := 457) (by decide +kernel)⟩
theorem lw_p35 : lw_okq (⟨"PortDrawerModel", "ofKind", "(I)I"⟩, 10) := ⟨⟨by decide +kernel, by decide +kernel⟩, List.mem_of_getElem? (i := 331) (by decide +kernel), List.mem_of_getElem? (i := 480) (by decide +kernel), List.mem_of_getElem? (i := 481) (by decide +kernel)⟩
def lw_privs_3 : List (MethodName × Nat) := [(⟨"PortDrawerModel", "marks", "(I)I"⟩, 10), (⟨"PortDrawerModel", "many", "()I"⟩, 10), (⟨"PortDrawerModel", "leaves", "()V"⟩, 10), (⟨"PortDrawerModel", "ofKind", "(I)I"⟩, 10)]
theorem lw_r3 : ∀ q ∈ lw_privs_3, lw_okq q := List.forall_mem_cons.mpr ⟨lw_p32, List.forall_mem_cons.mpr ⟨lw_p33, List.forall_mem_cons.mpr ⟨lw_p34, List.forall_mem_cons.mpr ⟨lw_p35, fun _ h => absurd h List.not_mem_nil⟩⟩⟩⟩
def lw_privs : List (MethodName × Nat) := lw_privs_1 ++ (lw_privs_2 ++ (lw_privs_3))
def lw_tbl : List Cond := k2_sels lw_privs ++ tables_1
theorem lw_privs_ok : ∀ q ∈ lw_privs, lw_okq q := by
  show ∀ q ∈ lw_privs_1 ++ (lw_privs_2 ++ (lw_privs_3)), lw_okq q
  exact List.forall_mem_append.mpr ⟨lw_r1, List.forall_mem_append.mpr ⟨lw_r2, lw_r3⟩⟩
end
section
/-! ===== BEGIN words of one list among another's, by their places ===== -/
theorem goodIn_r {big : List Cond} (ws : List Cond) (ps : List Nat) (hp : ws = ps.filterMap (fun i => big[i]?)) (h : ws.all goodWord = true) : GoodIn big ws := by
  intro w hw
  have h1 := List.all_eq_true.mp h w hw
  rw [hp] at hw
  obtain ⟨i, -, hi⟩ := List.mem_filterMap.mp hw
  have hm : w ∈ big := by first | exact List.mem_of_getElem? hi | exact List.getElem?_mem hi
  exact ⟨hm, good_of_word h1⟩
theorem goodIn_app {big a b : List Cond} (ha : GoodIn big a) (hb : GoodIn big b) : GoodIn big (a ++ b) := fun w h => (List.mem_append.mp h).elim (ha w) (hb w)
theorem goodIn_ca {big a b : List Cond} {c : Cond} (ha : GoodIn big (c :: a)) (hb : GoodIn big b) : GoodIn big (c :: (a ++ b)) := fun w h => (List.mem_cons.mp h).elim (fun e => ha w (List.mem_cons.mpr (Or.inl e))) (fun h => (List.mem_append.mp h).elim (fun h => ha w (List.mem_cons.mpr (Or.inr h))) (hb w))
theorem goodIn_sub {big ws : List Cond} (hm : ∀ w ∈ ws, w ∈ big) (h : ws.all goodWord = true) : GoodIn big ws := fun w hw => ⟨hm w hw, good_of_word (List.all_eq_true.mp h w hw)⟩
/-! ===== END ===== -/

/-! ===== BEGIN exceptions that leave a method, and their catching by the caller (launches without stack traces) ===== -/
section VXA
/-! The laws vx_back, vx_callV, vx_callS, vx_callSW, vx_throw0, vx_throwS follow proofs of the library, with one case more: JvmDerived/Free/Laws.lean (Back.of_free), Shelf42/LK1.lean (callV, callS), Shelf/KitTraced.lean (throwNew0V, throwNewS). -/
/-- where a method has thrown q: the class by its name, the cell, what was written, the world -/
def vx_T (XC : String → State → State → Prop) (st : State) (q : Addr) (t : State) (mc ms : Nat) (free : Addr → Prop) : Prop :=
  ∃ (E : String) (ce : Cell) (L : List Loc), XC E st t ∧ t.heap[q]? = some ce ∧ ce.vm = .none ∧ st.vm.findClass E = some ce.cls ∧ st.WarmedH t.vm ∧ st.sameButNew ({ t with vm := st.vm } : State) L mc ms ∧ ∀ z ∈ L, free z.base
def vx_Q (Qc : Array Value → State → Outcome → State → Prop) (XC : String → State → State → Prop) (mc ms : Nat) (free : Addr → Prop) : Array Value → State → Outcome → State → Prop := fun a st o t =>
  (Qc a st o t ∧ ∃ L, FrameEnd st o t L mc ms ∧ ∀ q ∈ L, free q.base) ∨ ∃ q, o = .threw q ∧ vx_T XC st q t mc ms free
/-- a callee that returns or throws -/
def vx_Met (l : Launch) (y : MethodName) (ws : List Cond) (rm : Room) (Pc : Array Value → State → Prop) (Qc : Array Value → State → Outcome → State → Prop) (XC : String → State → State → Prop) (mc ms : Nat) (free : Addr → Prop) : Prop :=
  MetFree l y (headSpec ws rm) Pc (fun _ _ _ _ _ => True) (vx_Q Qc XC mc ms free)
def vx_Post (XC : String → State → State → Prop) (mc ms : Nat) (free : Addr → Prop) : Pt → Array Value → Addr → Pt → Prop := fun A a q B =>
  ∃ (g : JFrame) (mk : MethodId) (t : State) (L : List Loc) (E : String) (ce : Cell), B.U.heap = t.heap ∧ B.U.vm = t.vm ∧ XC E (A.U.calling g mk a) t ∧ t.heap[q]? = some ce ∧ ce.vm = .none ∧ A.U.vm.findClass E = some ce.cls ∧ B.locs = A.locs ++ L ∧ (∀ z ∈ L, free z.base) ∧ B.cells = A.cells + mc ∧ B.slots = A.slots + ms
def vx_Back (l : Launch) (R : Room) (p : Program) (e : Env) (below : List Frame) (s : State) (sargs : Array Value) (y : MethodName) (len W9 : Nat)
    (Pre : Pt → Array Value → Prop) (Post : Pt → Array Value → Option Value → Pt → Prop) (PostX : Pt → Array Value → Addr → Pt → Prop) : Prop :=
  ∀ (m : MethodId) (meth : Method) (c : Code) (A : Pt) (g : JFrame) (ig : Instr) (mk : MethodId) (a : Array Value),
    Stand p l e R s m sargs below meth c A.U A.locs A.cells A.slots → g.method = m → g.locals.size = c.maxLocals → decode c.code g.pc = .ok (ig, len) →
    2 * g.monitorRoom + (g.stack.map fun v => v.category).sum ≤ W9 → A.U.methodNamed? y = some mk → Pre A a →
    (∃ (v : Option Value) (B : Pt), Stand p l e R s m sargs below meth c B.U B.locs B.cells B.slots ∧ Post A a v B ∧
      Steps p.tables e below (doInvoke e (A.U.setTop g) [] mk a).1 (B.U.setTop { g with pc := g.pc + len, stack := v.toList ++ g.stack })) ∨
    (∃ (q : Addr) (B : Pt), Stand p l e R s m sargs below meth c B.U B.locs B.cells B.slots ∧ PostX A a q B ∧
      Steps p.tables e below (doInvoke e (A.U.setTop g) [] mk a).1 ((B.U.setTop g).pushFrame (.throwing q)))
section Payer
variable {l : Launch} {R : Room} {p : Program} {e : Env} {below : List Frame} {s : State} {sargs : Array Value} {y : MethodName} {len W9 : Nat}
theorem vx_back {ws : List Cond} {rm : Room} {Pc : Array Value → State → Prop} {Qc : Array Value → State → Outcome → State → Prop} {XC : String → State → State → Prop} {mc ms : Nat} {free : Addr → Prop} {bytes : ByteArray} {maxL : Nat} {ret : Option FieldType}
    (hM : vx_Met l y ws rm Pc Qc XC mc ms free) (hblind : FrameBlind Pc) (hrc : rm.cells = mc) (hrs : rm.slots = ms)
    (hframes : rm.frames + 1 ≤ R.frames) (hlocals : W9 + (maxL + 11) + rm.locals ≤ R.locals)
    (hws : ∀ w ∈ ws, ∀ a' U, s.WarmedH U.vm → w.before a' U = true) (hcode : Cond.code y bytes maxL ret ∈ ws) (hinit : ∀ a' U, s.WarmedH U.vm → (Cond.initialized y.cls).before a' U = true) :
    vx_Back l R p e below s sargs y len W9 (PreOf R mc ms Pc) (PostOf Qc mc ms free) (vx_Post XC mc ms free) := by
  intro m meth c A g ig mk a X hg hsize hdg hW hn hp
  have h1 : (headSpec ws rm).pre.before a A.U = true := atoms_intro fun w hw => hws w hw _ _ X.warmed
  have h2 : (Cond.code y bytes maxL ret).before a A.U = true := hws _ hcode _ _ X.warmed
  have h3 : (Cond.initialized y.cls).before a A.U = true := hinit _ _ X.warmed
  have h4 : A.cells + (headSpec ws rm).room.cells ≤ R.cells := by rw [show (headSpec ws rm).room.cells = mc from hrc]; exact hp.1
  have h5 : A.slots + (headSpec ws rm).room.slots ≤ R.slots := by rw [show (headSpec ws rm).room.slots = ms from hrs]; exact hp.2.1
  have hPc : Pc a (A.U.calling g mk a) := hblind _ _ _ _ hp.2.2
  obtain ⟨U, Ls, c0, s0⟩ := A
  dsimp only [Pt.U, Pt.locs, Pt.cells, Pt.slots] at h1 h2 h3 h4 h5 X hn hPc ⊢
  obtain ⟨methY, cY, hmY, hcY, -, hlY, -, -, -, -⟩ := Cond.code_spec hn h2
  obtain ⟨kY, hkY, -⟩ := className_of_methodNamed hn
  have hinitY : kY.init = .initialized := Cond.initialized_spec (findClass_of_methodNamed hn) hkY h3
  have h : At U g.method c below := by rw [hg]; exact X.here
  have hlocals9 : W9 + (maxL + 11) + (headSpec ws rm).room.locals ≤ R.locals := hlocals
  have happ : (headSpec ws rm).appliesLoose y e.platform (U.calling g mk a) = true :=
    Spec.appliesLoose_calling (g := g) h hdg hn hkY hinitY
      (X.room_calling (g := g) (R' := (headSpec ws rm).room) hsize hmY hcY hframes (by rw [hlY]; omega) h4 h5) h1
  obtain ⟨mid, hmid⟩ := h.above
  have hfr : (U.setTop g).frames = (.java g :: mid) ++ below := by rw [State.frames_setTop' g h.top, hmid]; rfl
  obtain ⟨o, s₂, hsteps, -, hend, hq⟩ := Steps.callFree hM p X.admits X.cas X.clock (acts := []) hfr happ hPc trivial
  have hq' : vx_Q Qc XC mc ms free a (U.calling g mk a) o s₂ := hq
  rw [State.frames_setTop' g h.top] at hend
  obtain ⟨g₀, hg0⟩ := Option.isSome_iff_exists.mp h.top
  obtain ⟨r, hr⟩ := State.topJava?_eq_some.mp hg0
  have hr' : (({ U with heap := s₂.heap, slotsUsed := s₂.slotsUsed } : State).setVm s₂.vm).frames = .java g₀ :: r := hr
  rcases hq' with ⟨hqc, L, hfe, hL⟩ | ⟨q, rfl, E, ce, L, hx, hce, hcv, hcl, hW₂, hsm, hL⟩
  · obtain ⟨⟨v, rfl⟩, hW₂, e2, q2, q3, q4, q5, q6⟩ := id hfe
    have e3 : s₂ = ({ (U.calling g mk a).setFrames s₂.frames with heap := s₂.heap, slotsUsed := s₂.slotsUsed } : State).setVm s₂.vm := by
      have : s₂ = ({ s₂ with vm := (U.calling g mk a).vm } : State).setVm s₂.vm := rfl
      rw [e2] at this
      exact this
    obtain ⟨c₂, i₂, len₂, hc₂, hd₂, hf₂⟩ := hend
    have hW' : U.WarmedH s₂.vm := hW₂
    have hcc : c₂ = c := by
      have h1 : s₂.code? g.method = U.code? g.method := by
        rw [State.code?_eq, State.code?_eq, hW'.alike.method?]
      exact Option.some.inj (hc₂.symm.trans (h1.trans h.code))
    subst hcc
    have hlen : len₂ = len := by rw [hdg] at hd₂; cases hd₂; rfl
    subst hlen
    have hs₂ : s₂ = (({ U with heap := s₂.heap, slotsUsed := s₂.slotsUsed } : State).setVm s₂.vm).setTop { g with pc := g.pc + len₂, stack := v.toList ++ g.stack } := by
      refine e3.trans ?_
      rw [hf₂, State.calling_eq h.top, State.setFrames_setFrames, State.setTop_of_frames _ hr', hr]
      rfl
    have hsame : U.sameButNew ({ U with heap := s₂.heap, slotsUsed := s₂.slotsUsed } : State) L mc ms := by
      refine ⟨?_, q2, q3, q4, q5, q6⟩
      obtain ⟨t, ht, -⟩ := State.frames_cons hr
      show ({ U with heap := s₂.heap, slotsUsed := s₂.slotsUsed } : State) = { U.setFrames U.frames with heap := s₂.heap, slotsUsed := s₂.slotsUsed }
      rw [State.setFrames_self ht]
    subst hg
    refine Or.inl ⟨v, ⟨(({ U with heap := s₂.heap, slotsUsed := s₂.slotsUsed } : State).setVm s₂.vm), Ls ++ L, c0 + mc, s0 + ms⟩,
      ⟨X.admits, X.cas, X.clock, X.frames, X.room, X.hears, X.method, X.code, (X.here.setHeapUsed s₂.heap s₂.slotsUsed).setVm hW'.alike, X.tail, State.WarmedH.trans X.warmed hW', X.limits, X.bytes, X.same.trans (hsame.setVm s.vm)⟩,
      ⟨g, mk, s₂, L, rfl, rfl, hqc, rfl, hL, rfl, rfl⟩, ?_⟩
    show Steps p.tables e below _ ((({ U with heap := s₂.heap, slotsUsed := s₂.slotsUsed } : State).setVm s₂.vm).setTop { g with pc := g.pc + len₂, stack := v.toList ++ g.stack })
    rw [← hs₂]
    exact hsteps
  · obtain ⟨e2, q2, q3, q4, q5, q6⟩ := id hsm
    have e3 : s₂ = ({ (U.calling g mk a).setFrames s₂.frames with heap := s₂.heap, slotsUsed := s₂.slotsUsed } : State).setVm s₂.vm := by
      have : s₂ = ({ s₂ with vm := (U.calling g mk a).vm } : State).setVm s₂.vm := rfl
      rw [e2] at this
      exact this
    have hf₂ : s₂.frames = .throwing q :: .java g :: U.frames.tail := hend
    have hW' : U.WarmedH s₂.vm := hW₂
    have hs₂ : s₂ = ((({ U with heap := s₂.heap, slotsUsed := s₂.slotsUsed } : State).setVm s₂.vm).setTop g).pushFrame (.throwing q) := by
      refine e3.trans ?_
      rw [hf₂, State.calling_eq h.top, State.setFrames_setFrames, State.pushFrame, State.frames_setTop _ hr', State.setTop_of_frames _ hr', State.setFrames_setFrames, hr]
      rfl
    have hsame : U.sameButNew ({ U with heap := s₂.heap, slotsUsed := s₂.slotsUsed } : State) L mc ms := by
      refine ⟨?_, q2, q3, q4, q5, q6⟩
      obtain ⟨t, ht, -⟩ := State.frames_cons hr
      show ({ U with heap := s₂.heap, slotsUsed := s₂.slotsUsed } : State) = { U.setFrames U.frames with heap := s₂.heap, slotsUsed := s₂.slotsUsed }
      rw [State.setFrames_self ht]
    subst hg
    refine Or.inr ⟨q, ⟨(({ U with heap := s₂.heap, slotsUsed := s₂.slotsUsed } : State).setVm s₂.vm), Ls ++ L, c0 + mc, s0 + ms⟩,
      ⟨X.admits, X.cas, X.clock, X.frames, X.room, X.hears, X.method, X.code, (X.here.setHeapUsed s₂.heap s₂.slotsUsed).setVm hW'.alike, X.tail, State.WarmedH.trans X.warmed hW', X.limits, X.bytes, X.same.trans (hsame.setVm s.vm)⟩,
      ⟨g, mk, s₂, L, E, ce, rfl, rfl, hx, hce, hcv, hcl, rfl, hL, rfl, rfl⟩, ?_⟩
    show Steps p.tables e below _ (((({ U with heap := s₂.heap, slotsUsed := s₂.slotsUsed } : State).setVm s₂.vm).setTop g).pushFrame (.throwing q))
    rw [← hs₂]
    exact hsteps
end Payer
section Calls
variable {p : Program} {l : Launch} {e : Env} {R : Room} {s : State} {m : MethodId} {args : Array Value} {below : List Frame} {meth : Method} {c : Code} {T : State} {locs : List Loc} {cells slots : Nat}
theorem vx_callV (X : Stand p l e R s m args below meth c T locs cells slots) (hexec : p.tables.exec = Jvm.exec) {own C : String} {index : Nat} {y : MethodName} {bytes : ByteArray} {maxL : Nat} {ret : Option FieldType}
    (hown : s.vm.findClass own = some m.cls) (hlink : (Cond.methodLink own index y).before args s = true) (hinst : (Cond.instanceMethod y).before args s = true) (hsel : (Cond.selects C y y).before args s = true)
    (hcode : (Cond.code y bytes maxL ret).before args s = true) (hy : y.cls ≠ "java/lang/invoke/MethodHandle" ∧ y.cls ≠ "java/lang/invoke/VarHandle")
    {W9 : Nat} {Pre : Pt → Array Value → Prop} {Post : Pt → Array Value → Option Value → Pt → Prop} {PostX : Pt → Array Value → Addr → Pt → Prop} (hK : vx_Back l R p e below s args y 3 W9 Pre Post PostX)
    {b : Addr} {cellB : Cell} (hcell : T.heap[b]? = some cellB) (hobj : cellB.vm.isStatics = false) (hcls : s.vm.findClass C = some cellB.cls)
    {g : JFrame} (hg : g.method = m) (hsize : g.locals.size = c.maxLocals) {argsL rest : List Value} (hlen : ∀ sig, parseMethodDescriptor y.desc = some sig → argsL.length = sig.parameters.length)
    (hstack : g.stack = argsL.reverse ++ .ref b :: rest) (hW : 2 * g.monitorRoom + (rest.map fun v => v.category).sum ≤ W9) (hdg : decode c.code g.pc = .ok (.invokevirtual index, 3))
    (hpre : ∀ vm₁, s.WarmedH vm₁ → Pre ⟨T.setVm vm₁, locs, cells, slots⟩ (Value.ref b :: argsL).toArray) :
    (∃ (v : Option Value) (vm₁ : Vm) (B : Pt), s.WarmedH vm₁ ∧ Stand p l e R s m args below meth c B.U B.locs B.cells B.slots ∧ Post ⟨T.setVm vm₁, locs, cells, slots⟩ (Value.ref b :: argsL).toArray v B ∧
      ∀ target, Steps p.tables e below (B.U.setTop { g with pc := g.pc + 3, stack := v.toList ++ rest }) target → Steps p.tables e below (T.setTop g) target) ∨
    (∃ (q : Addr) (vm₁ : Vm) (B : Pt), s.WarmedH vm₁ ∧ Stand p l e R s m args below meth c B.U B.locs B.cells B.slots ∧ PostX ⟨T.setVm vm₁, locs, cells, slots⟩ (Value.ref b :: argsL).toArray q B ∧
      Steps p.tables e below (T.setTop g) ((B.U.setTop { g with stack := rest }).pushFrame (.throwing q))) := by
  obtain ⟨mk, methM, hnamed, hmethM, hstM, habM⟩ := Cond.instanceMethod_spec hinst
  obtain ⟨methM', cM, hmethM', -, -, -, -, -, -, hsigM⟩ := Cond.code_spec hnamed hcode
  cases hmethM.symm.trans hmethM'
  obtain ⟨c2, r2, m2, q1, q2, q3, q4, kP, hkP, hkPi⟩ := Cond.selects_spec hsel
  cases hcls.symm.trans q1
  cases (State.methodFound?_of_named hnamed hy).symm.trans q2
  cases hnamed.symm.trans q3
  have hselP : selectMethod e.platform s.vm cellB.cls mk = .method mk := by rw [Launch.admits_selectMethod X.admits]; exact q4
  obtain ⟨vm₁, X₁, hstep₁⟩ := X.invokevirtual hexec hown hlink hnamed hmethM hstM hkP hkPi hy (a := b) (cell := cellB) hcell
    (fun z h => by rw [h] at hobj; cases hobj) hselP hmethM habM hkP hkPi (g := g) hg (argsL := argsL) (rest := rest) (hlen _ hsigM) hstack hdg
  rcases hK m meth c ⟨T.setVm vm₁, locs, cells, slots⟩ { g with stack := rest } (.invokevirtual index) mk (Value.ref b :: argsL).toArray X₁ hg hsize hdg hW (X₁.named hnamed) (hpre vm₁ X₁.warmed) with ⟨v, B, X', hpost, hsteps⟩ | ⟨q, B, X', hpost, hsteps⟩
  · exact Or.inl ⟨v, vm₁, B, X₁.warmed, X', hpost, fun target h => hstep₁ _ fun acts => by rw [doInvoke_state]; exact hsteps.trans h⟩
  · exact Or.inr ⟨q, vm₁, B, X₁.warmed, X', hpost, hstep₁ _ fun acts => by rw [doInvoke_state]; exact hsteps⟩
theorem vx_callS (X : Stand p l e R s m args below meth c T locs cells slots) (hexec : p.tables.exec = Jvm.exec) {own : String} {index : Nat} {y : MethodName} {bytes : ByteArray} {maxL : Nat} {ret : Option FieldType}
    (hown : s.vm.findClass own = some m.cls) (hlink : (Cond.methodLink own index y).before args s = true) (hstat : (Cond.static y).before args s = true) (hinit : (Cond.initialized y.cls).before args s = true)
    (hcode : (Cond.code y bytes maxL ret).before args s = true) (hy : y.cls ≠ "java/lang/invoke/MethodHandle" ∧ y.cls ≠ "java/lang/invoke/VarHandle")
    {W9 : Nat} {Pre : Pt → Array Value → Prop} {Post : Pt → Array Value → Option Value → Pt → Prop} {PostX : Pt → Array Value → Addr → Pt → Prop} (hK : vx_Back l R p e below s args y 3 W9 Pre Post PostX)
    {g : JFrame} (hg : g.method = m) (hsize : g.locals.size = c.maxLocals) {argsL rest : List Value} (hlen : ∀ sig, parseMethodDescriptor y.desc = some sig → argsL.length = sig.parameters.length)
    (hstack : g.stack = argsL.reverse ++ rest) (hW : 2 * g.monitorRoom + (rest.map fun v => v.category).sum ≤ W9) (hdg : decode c.code g.pc = .ok (.invokestatic index, 3))
    (hpre : ∀ vm₁, s.WarmedH vm₁ → Pre ⟨T.setVm vm₁, locs, cells, slots⟩ argsL.toArray) :
    (∃ (v : Option Value) (vm₁ : Vm) (B : Pt), s.WarmedH vm₁ ∧ Stand p l e R s m args below meth c B.U B.locs B.cells B.slots ∧ Post ⟨T.setVm vm₁, locs, cells, slots⟩ argsL.toArray v B ∧
      ∀ target, Steps p.tables e below (B.U.setTop { g with pc := g.pc + 3, stack := v.toList ++ rest }) target → Steps p.tables e below (T.setTop g) target) ∨
    (∃ (q : Addr) (vm₁ : Vm) (B : Pt), s.WarmedH vm₁ ∧ Stand p l e R s m args below meth c B.U B.locs B.cells B.slots ∧ PostX ⟨T.setVm vm₁, locs, cells, slots⟩ argsL.toArray q B ∧
      Steps p.tables e below (T.setTop g) ((B.U.setTop { g with stack := rest }).pushFrame (.throwing q))) := by
  obtain ⟨mk, hnamed⟩ := Cond.code_named hcode
  obtain ⟨methM, cM, hmethM, -, -, -, -, -, -, hsigM⟩ := Cond.code_spec hnamed hcode
  have hstatic : methM.isStatic = true := Cond.static_spec hnamed hmethM hstat
  obtain ⟨kP, hkP, -⟩ := className_of_methodNamed hnamed
  have hinitP : kP.init = .initialized := Cond.initialized_spec (findClass_of_methodNamed hnamed) hkP hinit
  obtain ⟨vm₁, X₁, hstep₁⟩ := X.invokestatic hexec hown hlink hnamed hmethM hstatic hkP hinitP hy (g := g) hg (argsL := argsL) (rest := rest) (hlen _ hsigM) hstack hdg
  rcases hK m meth c ⟨T.setVm vm₁, locs, cells, slots⟩ { g with stack := rest } (.invokestatic index) mk argsL.toArray X₁ hg hsize hdg hW (X₁.named hnamed) (hpre vm₁ X₁.warmed) with ⟨v, B, X', hpost, hsteps⟩ | ⟨q, B, X', hpost, hsteps⟩
  · exact Or.inl ⟨v, vm₁, B, X₁.warmed, X', hpost, fun target h => hstep₁ _ fun acts => by rw [doInvoke_state]; exact hsteps.trans h⟩
  · exact Or.inr ⟨q, vm₁, B, X₁.warmed, X', hpost, hstep₁ _ fun acts => by rw [doInvoke_state]; exact hsteps⟩
end Calls
theorem vx_cls {s : State} {T : State} {vm₁ : Vm} {E : String} {k : ClassId} (hW : s.WarmedH vm₁) (h : (T.setVm vm₁).vm.findClass E = some k) : s.vm.findClass E = some k := by
  have h1 : vm₁.findClass E = some k := h
  rw [hW.alike.findClass] at h1
  exact h1
/-- the method's frame g, with q thrown over it -/
def vx_W (p : Program) (l : Launch) (e : Env) (R : Room) (s : State) (m : MethodId) (args : Array Value) (below : List Frame) (meth : Method) (c : Code) (H : Heap) (locs : List Loc) (cells slots : Nat) (Q : State → Prop) (g : JFrame) (q : Addr) : Prop :=
  ∀ T : State, T.heap = H → Stand p l e R s m args below meth c T locs cells slots → ∃ t, Steps p.tables e below ((T.setTop g).pushFrame (.throwing q)) t ∧ Q t
def vx_Run (p : Program) (l : Launch) (e : Env) (R : Room) (s : State) (m : MethodId) (args : Array Value) (below : List Frame) (meth : Method) (c : Code) (H : Heap) (locs : List Loc) (cells slots mc ms : Nat) (g : JFrame) (rest : List Value) (Qa : State → Outcome → State → Prop) (XC : String → State → State → Prop) (free : Addr → Prop) : Prop :=
  ∀ T : State, T.heap = H → Stand p l e R s m args below meth c T locs cells slots →
    (∃ (v : Option Value) (st₀ t T' : State) (L : List Loc), st₀.heap = H ∧ Stand p l e R s m args below meth c T' (locs ++ L) (cells + mc) (slots + ms) ∧ (∀ q ∈ L, free q.base) ∧ T'.heap = t.heap ∧ T'.vm = t.vm ∧ Qa st₀ (.returned v) t ∧
      Goes p e below T g T' { g with pc := g.pc + 3, stack := v.toList ++ rest }) ∨
    (∃ (q : Addr) (st₀ t T' : State) (L : List Loc) (E : String) (ce : Cell), st₀.heap = H ∧ Stand p l e R s m args below meth c T' (locs ++ L) (cells + mc) (slots + ms) ∧ (∀ z ∈ L, free z.base) ∧ T'.heap = t.heap ∧ T'.vm = t.vm ∧ XC E st₀ t ∧ t.heap[q]? = some ce ∧ ce.vm = .none ∧ s.vm.findClass E = some ce.cls ∧
      Steps p.tables e below (T.setTop g) ((T'.setTop { g with stack := rest }).pushFrame (.throwing q)))
def vx_X {S : Type} (px : S → Prop) (B : String → S → State → Prop) (A : Nat → Prop) : String → State → State → Prop := fun E st t => ∃ u : S, px u ∧ B E u t ∧ va_F A st t
section Runs
variable {p : Program} {l : Launch} {e : Env} {R : Room} {s : State} {m : MethodId} {args : Array Value} {below : List Frame} {meth : Method} {c : Code} {H : Heap} {locs : List Loc} {cells slots : Nat}
variable {y : MethodName} {bytes cc : ByteArray} {maxL nL mc ms n index : Nat} {ret : Option FieldType} {ws : List Cond} {rm : Room} {Pc : Array Value → State → Prop} {Qc : Array Value → State → Outcome → State → Prop} {XC : String → State → State → Prop} {free : Addr → Prop} {Ts : List Cond} {own C : String} {b : Addr} {As rest : List Value} {g : JFrame}
theorem vx_callBack (cb : CallB R s args own index y bytes maxL ret ws rm mc ms n) (hM : vx_Met l y ws rm Pc Qc XC mc ms free) (hbl : FrameBlind Pc) : vx_Back l R p e below s args y 3 8 (PreOf R mc ms Pc) (PostOf Qc mc ms free) (vx_Post XC mc ms free) := by
  obtain ⟨hrc, hrs, hfr, hlo, hws, hcw, -, hini, -⟩ := cb
  exact vx_back (bytes := bytes) (maxL := maxL) (ret := ret) hM hbl hrc hrs hfr hlo hws hcw (fun a' U hW => word_at hW (Or.inl (by first | rfl | simp [Cond.onTables, Cond.keeps, Cond.steady])) hini)
theorem vx_runV (S : CallFix p m c cc nL s args Ts own) (hM : vx_Met l y ws rm Pc Qc XC mc ms free) (cw : CallW R s args own C index y bytes maxL ret ws rm mc ms n) (hp : PreV s H C b Pc As)
    (hg : g.method = m) (hn : As.length = n) (hsize : g.locals.size = nL) (hstack : g.stack = As.reverse ++ .ref b :: rest) (hW : 2 * g.monitorRoom + (rest.map fun v => v.category).sum ≤ 8) (hdg : decode cc g.pc = .ok (.invokevirtual index, 3)) (hf : cells + mc ≤ R.cells ∧ slots + ms ≤ R.slots) :
    vx_Run p l e R s m args below meth c H locs cells slots mc ms g rest (Qc (Value.ref b :: As).toArray) XC free := by
  have hK : vx_Back l R p e below s args y 3 8 (PreOf R mc ms Pc) (PostOf Qc mc ms free) (vx_Post XC mc ms free) := vx_callBack cw.1 hM hp.1
  obtain ⟨⟨-, -, -, -, -, -, hcode, -, hy, hlen, hl⟩, hin, hse⟩ := cw
  obtain ⟨hx, hb, hml, ho, -⟩ := S
  obtain ⟨-, ⟨cellB, hcB, hoB, hclB⟩, hPc⟩ := hp
  intro T hT X
  rcases vx_callV X hx (C := C) (bytes := bytes) (maxL := maxL) (ret := ret) ho hl hin hse hcode hy hK (by rw [hT]; exact hcB) hoB hclB hg (hsize.trans hml.symm) (argsL := As) (rest := rest) (fun sig h => hn.trans (hlen sig h)) hstack hW (by rw [hb]; exact hdg)
    (fun vm₁ hW₁ => ⟨hf.1, hf.2, hPc (T.setVm vm₁) hT hW₁⟩) with ⟨v, vm₁, ⟨U', l2, c2, s2⟩, hW₁, X', ⟨g', mk, t, L, e1, e2, hq, h1, hL, h2, h3⟩, st⟩ | ⟨q, vm₁, ⟨U', l2, c2, s2⟩, hW₁, X', ⟨g', mk, t, L, E, ce, e1, e2, hq, hce, hcv, hcl, h1, hL, h2, h3⟩, st⟩
  · dsimp only [Pt.U, Pt.locs, Pt.cells, Pt.slots] at X' e1 e2 h1 h2 h3 st
    subst h1; subst h2; subst h3
    exact Or.inl ⟨v, (T.setVm vm₁).calling g' mk (Value.ref b :: As).toArray, t, U', L, hT, X', hL, e1, e2, hq, st⟩
  · dsimp only [Pt.U, Pt.locs, Pt.cells, Pt.slots] at X' e1 e2 h1 h2 h3 st hcl
    subst h1; subst h2; subst h3
    exact Or.inr ⟨q, (T.setVm vm₁).calling g' mk (Value.ref b :: As).toArray, t, U', L, E, ce, hT, X', hL, e1, e2, hq, hce, hcv, vx_cls hW₁ hcl, st⟩
theorem vx_runS (S : CallFix p m c cc nL s args Ts own) (hM : vx_Met l y ws rm Pc Qc XC mc ms free) (cw : CallB R s args own index y bytes maxL ret ws rm mc ms n ∧ (Cond.static y).before args s = true) (hp : PreS s H Pc As)
    (hg : g.method = m) (hn : As.length = n) (hsize : g.locals.size = nL) (hstack : g.stack = As.reverse ++ rest) (hW : 2 * g.monitorRoom + (rest.map fun v => v.category).sum ≤ 8) (hdg : decode cc g.pc = .ok (.invokestatic index, 3)) (hf : cells + mc ≤ R.cells ∧ slots + ms ≤ R.slots) :
    vx_Run p l e R s m args below meth c H locs cells slots mc ms g rest (Qc As.toArray) XC free := by
  have hK : vx_Back l R p e below s args y 3 8 (PreOf R mc ms Pc) (PostOf Qc mc ms free) (vx_Post XC mc ms free) := vx_callBack cw.1 hM hp.1
  obtain ⟨⟨-, -, -, -, -, -, hcode, hini, hy, hlen, hl⟩, hstt⟩ := cw
  obtain ⟨hx, hb, hml, ho, -⟩ := S
  intro T hT X
  rcases vx_callS X hx (bytes := bytes) (maxL := maxL) (ret := ret) ho hl hstt hini hcode hy hK hg (hsize.trans hml.symm) (argsL := As) (rest := rest) (fun sig h => hn.trans (hlen sig h)) hstack hW (by rw [hb]; exact hdg)
    (fun vm₁ hW₁ => ⟨hf.1, hf.2, hp.2 (T.setVm vm₁) hT hW₁⟩) with ⟨v, vm₁, ⟨U', l2, c2, s2⟩, hW₁, X', ⟨g', mk, t, L, e1, e2, hq, h1, hL, h2, h3⟩, st⟩ | ⟨q, vm₁, ⟨U', l2, c2, s2⟩, hW₁, X', ⟨g', mk, t, L, E, ce, e1, e2, hq, hce, hcv, hcl, h1, hL, h2, h3⟩, st⟩
  · dsimp only [Pt.U, Pt.locs, Pt.cells, Pt.slots] at X' e1 e2 h1 h2 h3 st
    subst h1; subst h2; subst h3
    exact Or.inl ⟨v, (T.setVm vm₁).calling g' mk As.toArray, t, U', L, hT, X', hL, e1, e2, hq, st⟩
  · dsimp only [Pt.U, Pt.locs, Pt.cells, Pt.slots] at X' e1 e2 h1 h2 h3 st hcl
    subst h1; subst h2; subst h3
    exact Or.inr ⟨q, (T.setVm vm₁).calling g' mk As.toArray, t, U', L, E, ce, hT, X', hL, e1, e2, hq, hce, hcv, vx_cls hW₁ hcl, st⟩
end Runs
section Rows
variable {p : Program} {l : Launch} {e : Env} {R : Room} {s : State} {m : MethodId} {args : Array Value} {below : List Frame} {meth : Method} {c : Code} {H : Heap} {locs : List Loc} {cells slots : Nat} {Q : State → Prop}
variable {mc ms : Nat} {free : Addr → Prop} {A0 A1 : Nat → Prop} {H0 : Heap} {a : Array Value} {pc : Nat} {ls : Array Slot} {st0 rest : List Value}
theorem vx_keep {st₀ t T' : State} {L : List Loc} (h0 : st₀.heap = H) (e1 : T'.heap = t.heap) (hS : va_S A0 H0 H locs) (hA : ∀ q, q < H.size → A1 q → A0 q) (hf : ∀ q, free q → A0 q) (hL : ∀ q ∈ L, free q.base) (hF : va_F A1 st₀ t) :
    H.size ≤ T'.heap.size ∧ (∀ q : Nat, q < H.size → ¬ A1 q → T'.heap[q]? = H[q]?) ∧ va_S A0 H0 T'.heap (locs ++ L) := by
  obtain ⟨hz, hk⟩ := hF
  rw [h0] at hz hk
  exact ⟨by rw [e1]; exact hz, fun q h1 h2 => by rw [e1]; exact hk q h1 h2,
    ⟨Nat.le_trans hS.1 (by rw [e1]; exact hz), fun q h1 h2 => by rw [e1, hk q (Nat.lt_of_lt_of_le h1 hS.1) (fun z => h2 (hA q (Nat.lt_of_lt_of_le h1 hS.1) z))]; exact hS.2.1 q h1 h2, fun q hq => by
      rcases List.mem_append.mp hq with h | h
      · exact hS.2.2 q h
      · exact hf _ (hL q h)⟩⟩
theorem vx_calli {S SX : Type} {post : Int32 → S → Prop} {px : SX → Prop} {B : S → State → Prop} {BX : String → SX → State → Prop} {AX : Nat → Prop} (hr : vx_Run p l e R s m args below meth c H locs cells slots mc ms (F0 m pc ls st0) rest (va_Qi post B A1 a) (vx_X px BX AX) free) (hS : va_S A0 H0 H locs) (hA : ∀ q, q < H.size → A1 q → A0 q) (hf : ∀ q, free q → A0 q) (hAX : ∀ q, q < H.size → AX q → A0 q)
    (kx : ∀ (E : String) (ce : Cell) (q9 : Addr) (u : SX) (t : State) (H1 : Heap) (locs1 : List Loc), t.heap = H1 → s.vm.Alike t.vm → px u → BX E u t → H.size ≤ H1.size → (∀ q : Nat, q < H.size → ¬ AX q → H1[q]? = H[q]?) → va_S A0 H0 H1 locs1 → H1[q9]? = some ce → ce.vm = .none → s.vm.findClass E = some ce.cls → vx_W p l e R s m args below meth c H1 locs1 (cells + mc) (slots + ms) Q (F0 m pc ls rest) q9)
    (kk : ∀ (r : Int32) (u : S) (t : State) (H1 : Heap) (locs1 : List Loc), t.heap = H1 → s.vm.Alike t.vm → post r u → B u t → H.size ≤ H1.size → (∀ q : Nat, q < H.size → ¬ A1 q → H1[q]? = H[q]?) → va_S A0 H0 H1 locs1 → W p l e R s m args below meth c H1 locs1 (cells + mc) (slots + ms) Q (F0 m (pc + 3) ls (.int r :: rest))) : W p l e R s m args below meth c H locs cells slots Q (F0 m pc ls st0) := by
  intro T hT X
  rcases hr T hT X with ⟨v, st₀, t, T', L, h0, X', hL, e1, e2, ⟨⟨r, u, hv, hp, hb⟩, hF⟩, st⟩ | ⟨q, st₀, t, T', L, E, ce, h0, X', hL, e1, e2, ⟨u, hp, hb, hF⟩, hce, hcv, hcl, st⟩
  · cases hv
    obtain ⟨k1, k2, k3⟩ := vx_keep h0 e1 hS hA hf hL hF
    obtain ⟨t2, a1, b1⟩ := kk r u t T'.heap (locs ++ L) e1.symm (by rw [← e2]; exact X'.warmed.alike) hp hb k1 k2 k3 T' rfl X'
    exact ⟨t2, st t2 a1, b1⟩
  · obtain ⟨k1, k2, k3⟩ := vx_keep h0 e1 hS hAX hf hL hF
    obtain ⟨t2, a1, b1⟩ := kx E ce q u t T'.heap (locs ++ L) e1.symm (by rw [← e2]; exact X'.warmed.alike) hp hb k1 k2 k3 (by rw [e1]; exact hce) hcv hcl T' rfl X'
    exact ⟨t2, st.trans a1, b1⟩
theorem vx_calll {S SX : Type} {post : Int64 → S → Prop} {px : SX → Prop} {B : S → State → Prop} {BX : String → SX → State → Prop} {AX : Nat → Prop} (hr : vx_Run p l e R s m args below meth c H locs cells slots mc ms (F0 m pc ls st0) rest (va_Ql post B A1 a) (vx_X px BX AX) free) (hS : va_S A0 H0 H locs) (hA : ∀ q, q < H.size → A1 q → A0 q) (hf : ∀ q, free q → A0 q) (hAX : ∀ q, q < H.size → AX q → A0 q)
    (kx : ∀ (E : String) (ce : Cell) (q9 : Addr) (u : SX) (t : State) (H1 : Heap) (locs1 : List Loc), t.heap = H1 → s.vm.Alike t.vm → px u → BX E u t → H.size ≤ H1.size → (∀ q : Nat, q < H.size → ¬ AX q → H1[q]? = H[q]?) → va_S A0 H0 H1 locs1 → H1[q9]? = some ce → ce.vm = .none → s.vm.findClass E = some ce.cls → vx_W p l e R s m args below meth c H1 locs1 (cells + mc) (slots + ms) Q (F0 m pc ls rest) q9)
    (kk : ∀ (r : Int64) (u : S) (t : State) (H1 : Heap) (locs1 : List Loc), t.heap = H1 → s.vm.Alike t.vm → post r u → B u t → H.size ≤ H1.size → (∀ q : Nat, q < H.size → ¬ A1 q → H1[q]? = H[q]?) → va_S A0 H0 H1 locs1 → W p l e R s m args below meth c H1 locs1 (cells + mc) (slots + ms) Q (F0 m (pc + 3) ls (.long r :: rest))) : W p l e R s m args below meth c H locs cells slots Q (F0 m pc ls st0) := by
  intro T hT X
  rcases hr T hT X with ⟨v, st₀, t, T', L, h0, X', hL, e1, e2, ⟨⟨r, u, hv, hp, hb⟩, hF⟩, st⟩ | ⟨q, st₀, t, T', L, E, ce, h0, X', hL, e1, e2, ⟨u, hp, hb, hF⟩, hce, hcv, hcl, st⟩
  · cases hv
    obtain ⟨k1, k2, k3⟩ := vx_keep h0 e1 hS hA hf hL hF
    obtain ⟨t2, a1, b1⟩ := kk r u t T'.heap (locs ++ L) e1.symm (by rw [← e2]; exact X'.warmed.alike) hp hb k1 k2 k3 T' rfl X'
    exact ⟨t2, st t2 a1, b1⟩
  · obtain ⟨k1, k2, k3⟩ := vx_keep h0 e1 hS hAX hf hL hF
    obtain ⟨t2, a1, b1⟩ := kx E ce q u t T'.heap (locs ++ L) e1.symm (by rw [← e2]; exact X'.warmed.alike) hp hb k1 k2 k3 (by rw [e1]; exact hce) hcv hcl T' rfl X'
    exact ⟨t2, st.trans a1, b1⟩
theorem vx_callf {S SX : Type} {post : UInt32 → S → Prop} {px : SX → Prop} {B : S → State → Prop} {BX : String → SX → State → Prop} {AX : Nat → Prop} (hr : vx_Run p l e R s m args below meth c H locs cells slots mc ms (F0 m pc ls st0) rest (va_Qf post B A1 a) (vx_X px BX AX) free) (hS : va_S A0 H0 H locs) (hA : ∀ q, q < H.size → A1 q → A0 q) (hf : ∀ q, free q → A0 q) (hAX : ∀ q, q < H.size → AX q → A0 q)
    (kx : ∀ (E : String) (ce : Cell) (q9 : Addr) (u : SX) (t : State) (H1 : Heap) (locs1 : List Loc), t.heap = H1 → s.vm.Alike t.vm → px u → BX E u t → H.size ≤ H1.size → (∀ q : Nat, q < H.size → ¬ AX q → H1[q]? = H[q]?) → va_S A0 H0 H1 locs1 → H1[q9]? = some ce → ce.vm = .none → s.vm.findClass E = some ce.cls → vx_W p l e R s m args below meth c H1 locs1 (cells + mc) (slots + ms) Q (F0 m pc ls rest) q9)
    (kk : ∀ (r : UInt32) (u : S) (t : State) (H1 : Heap) (locs1 : List Loc), t.heap = H1 → s.vm.Alike t.vm → post r u → B u t → H.size ≤ H1.size → (∀ q : Nat, q < H.size → ¬ A1 q → H1[q]? = H[q]?) → va_S A0 H0 H1 locs1 → W p l e R s m args below meth c H1 locs1 (cells + mc) (slots + ms) Q (F0 m (pc + 3) ls (.float r :: rest))) : W p l e R s m args below meth c H locs cells slots Q (F0 m pc ls st0) := by
  intro T hT X
  rcases hr T hT X with ⟨v, st₀, t, T', L, h0, X', hL, e1, e2, ⟨⟨r, u, hv, hp, hb⟩, hF⟩, st⟩ | ⟨q, st₀, t, T', L, E, ce, h0, X', hL, e1, e2, ⟨u, hp, hb, hF⟩, hce, hcv, hcl, st⟩
  · cases hv
    obtain ⟨k1, k2, k3⟩ := vx_keep h0 e1 hS hA hf hL hF
    obtain ⟨t2, a1, b1⟩ := kk r u t T'.heap (locs ++ L) e1.symm (by rw [← e2]; exact X'.warmed.alike) hp hb k1 k2 k3 T' rfl X'
    exact ⟨t2, st t2 a1, b1⟩
  · obtain ⟨k1, k2, k3⟩ := vx_keep h0 e1 hS hAX hf hL hF
    obtain ⟨t2, a1, b1⟩ := kx E ce q u t T'.heap (locs ++ L) e1.symm (by rw [← e2]; exact X'.warmed.alike) hp hb k1 k2 k3 (by rw [e1]; exact hce) hcv hcl T' rfl X'
    exact ⟨t2, st.trans a1, b1⟩
theorem vx_calld {S SX : Type} {post : UInt64 → S → Prop} {px : SX → Prop} {B : S → State → Prop} {BX : String → SX → State → Prop} {AX : Nat → Prop} (hr : vx_Run p l e R s m args below meth c H locs cells slots mc ms (F0 m pc ls st0) rest (va_Qd post B A1 a) (vx_X px BX AX) free) (hS : va_S A0 H0 H locs) (hA : ∀ q, q < H.size → A1 q → A0 q) (hf : ∀ q, free q → A0 q) (hAX : ∀ q, q < H.size → AX q → A0 q)
    (kx : ∀ (E : String) (ce : Cell) (q9 : Addr) (u : SX) (t : State) (H1 : Heap) (locs1 : List Loc), t.heap = H1 → s.vm.Alike t.vm → px u → BX E u t → H.size ≤ H1.size → (∀ q : Nat, q < H.size → ¬ AX q → H1[q]? = H[q]?) → va_S A0 H0 H1 locs1 → H1[q9]? = some ce → ce.vm = .none → s.vm.findClass E = some ce.cls → vx_W p l e R s m args below meth c H1 locs1 (cells + mc) (slots + ms) Q (F0 m pc ls rest) q9)
    (kk : ∀ (r : UInt64) (u : S) (t : State) (H1 : Heap) (locs1 : List Loc), t.heap = H1 → s.vm.Alike t.vm → post r u → B u t → H.size ≤ H1.size → (∀ q : Nat, q < H.size → ¬ A1 q → H1[q]? = H[q]?) → va_S A0 H0 H1 locs1 → W p l e R s m args below meth c H1 locs1 (cells + mc) (slots + ms) Q (F0 m (pc + 3) ls (.double r :: rest))) : W p l e R s m args below meth c H locs cells slots Q (F0 m pc ls st0) := by
  intro T hT X
  rcases hr T hT X with ⟨v, st₀, t, T', L, h0, X', hL, e1, e2, ⟨⟨r, u, hv, hp, hb⟩, hF⟩, st⟩ | ⟨q, st₀, t, T', L, E, ce, h0, X', hL, e1, e2, ⟨u, hp, hb, hF⟩, hce, hcv, hcl, st⟩
  · cases hv
    obtain ⟨k1, k2, k3⟩ := vx_keep h0 e1 hS hA hf hL hF
    obtain ⟨t2, a1, b1⟩ := kk r u t T'.heap (locs ++ L) e1.symm (by rw [← e2]; exact X'.warmed.alike) hp hb k1 k2 k3 T' rfl X'
    exact ⟨t2, st t2 a1, b1⟩
  · obtain ⟨k1, k2, k3⟩ := vx_keep h0 e1 hS hAX hf hL hF
    obtain ⟨t2, a1, b1⟩ := kx E ce q u t T'.heap (locs ++ L) e1.symm (by rw [← e2]; exact X'.warmed.alike) hp hb k1 k2 k3 (by rw [e1]; exact hce) hcv hcl T' rfl X'
    exact ⟨t2, st.trans a1, b1⟩
theorem vx_callv {S SX : Type} {post : S → Prop} {px : SX → Prop} {B : S → State → Prop} {BX : String → SX → State → Prop} {AX : Nat → Prop} (hr : vx_Run p l e R s m args below meth c H locs cells slots mc ms (F0 m pc ls st0) rest (va_Qv post B A1 a) (vx_X px BX AX) free) (hS : va_S A0 H0 H locs) (hA : ∀ q, q < H.size → A1 q → A0 q) (hf : ∀ q, free q → A0 q) (hAX : ∀ q, q < H.size → AX q → A0 q)
    (kx : ∀ (E : String) (ce : Cell) (q9 : Addr) (u : SX) (t : State) (H1 : Heap) (locs1 : List Loc), t.heap = H1 → s.vm.Alike t.vm → px u → BX E u t → H.size ≤ H1.size → (∀ q : Nat, q < H.size → ¬ AX q → H1[q]? = H[q]?) → va_S A0 H0 H1 locs1 → H1[q9]? = some ce → ce.vm = .none → s.vm.findClass E = some ce.cls → vx_W p l e R s m args below meth c H1 locs1 (cells + mc) (slots + ms) Q (F0 m pc ls rest) q9)
    (kk : ∀ (u : S) (t : State) (H1 : Heap) (locs1 : List Loc), t.heap = H1 → s.vm.Alike t.vm → post u → B u t → H.size ≤ H1.size → (∀ q : Nat, q < H.size → ¬ A1 q → H1[q]? = H[q]?) → va_S A0 H0 H1 locs1 → W p l e R s m args below meth c H1 locs1 (cells + mc) (slots + ms) Q (F0 m (pc + 3) ls (rest))) : W p l e R s m args below meth c H locs cells slots Q (F0 m pc ls st0) := by
  intro T hT X
  rcases hr T hT X with ⟨v, st₀, t, T', L, h0, X', hL, e1, e2, ⟨⟨u, hv, hp, hb⟩, hF⟩, st⟩ | ⟨q, st₀, t, T', L, E, ce, h0, X', hL, e1, e2, ⟨u, hp, hb, hF⟩, hce, hcv, hcl, st⟩
  · cases hv
    obtain ⟨k1, k2, k3⟩ := vx_keep h0 e1 hS hA hf hL hF
    obtain ⟨t2, a1, b1⟩ := kk u t T'.heap (locs ++ L) e1.symm (by rw [← e2]; exact X'.warmed.alike) hp hb k1 k2 k3 T' rfl X'
    exact ⟨t2, st t2 a1, b1⟩
  · obtain ⟨k1, k2, k3⟩ := vx_keep h0 e1 hS hAX hf hL hF
    obtain ⟨t2, a1, b1⟩ := kx E ce q u t T'.heap (locs ++ L) e1.symm (by rw [← e2]; exact X'.warmed.alike) hp hb k1 k2 k3 (by rw [e1]; exact hce) hcv hcl T' rfl X'
    exact ⟨t2, st.trans a1, b1⟩
/-- caught by the row x of this method's table; the rows ahead don't take it -/
theorem vx_catch {own name : String} {E : String} {ce : Cell} {q : Addr} (hown : s.vm.findClass own = some m.cls) (pre : List ExceptionTableEntry) (x : ExceptionTableEntry) (suf : List ExceptionTableEntry) (hsplit : c.exceptionTable.toList = pre ++ x :: suf)
    (hpass : ∀ z ∈ pre, covers z pc = false ∨ (z.catchType ≠ 0 ∧ ∃ nm : String, (Cond.classLink own z.catchType nm).before args s = true ∧ va_Nc E nm s)) (hx : covers x pc = true) (h0 : x.catchType ≠ 0)
    (hlink : (Cond.classLink own x.catchType name).before args s = true) (hcast : (Cond.castable E name).before args s = true) (hcell : H[q]? = some ce) (hv : ce.vm = .none) (hcl : s.vm.findClass E = some ce.cls)
    (kk : W p l e R s m args below meth c H locs cells slots Q (F0 m x.handlerPc ls [.ref q])) : vx_W p l e R s m args below meth c H locs cells slots Q (F0 m pc ls rest) q := by
  intro T hT X
  have hpl : e.platform.magicAccessors = ({} : Platform).magicAccessors := by rw [X.admits.platform]
  obtain ⟨c3, c4, hc3, hc4, hasg⟩ := Cond.castable_spec hcast
  cases Option.some.inj (hc3.symm.trans hcl)
  obtain ⟨c5, hc5, hcl5⟩ := Cond.classLink_spec hown hlink e.platform hpl
  cases Option.some.inj (hc4.symm.trans hc5)
  obtain ⟨vm', X', st⟩ := X.thenCaughtThrough q (g := F0 m pc ls rest) rfl (Steps.refl _) (by rw [hT]; exact hcell) (by rw [hv]; rfl) (by obtain ⟨k9, h9, -⟩ := Vm.findClass_spec hcl; exact ⟨k9, h9⟩) pre x suf hsplit
    (fun z hz => by
      rcases hpass z hz with h | ⟨hz0, nm, hl1, hn1⟩
      · exact Or.inl h
      · obtain ⟨c6, hc6, hcl6⟩ := Cond.classLink_spec hown hl1 e.platform hpl
        obtain ⟨a8, b8, h1, h2, h3⟩ := hn1
        cases Option.some.inj (h1.symm.trans hcl)
        cases Option.some.inj (h2.symm.trans hc6)
        exact Or.inr ⟨hz0, _, hcl6, h3⟩) hx (Or.inr ⟨h0, c4, hcl5, hasg⟩)
  obtain ⟨t, a1, b1⟩ := kk (T.setVm vm') hT X'
  exact ⟨t, st.trans a1, b1⟩
end Rows
section Ends
variable {p : Program} {l : Launch} {e : Env} {R : Room} {s : State} {m : MethodId} {args : Array Value} {below : List Frame} {meth : Method} {c : Code} {H : Heap} {locs : List Loc} {cells slots : Nat} {Q : State → Prop}
variable {mc ms : Nat} {free : Addr → Prop} {A0 A1 : Nat → Prop} {H0 : Heap} {a : Array Value} {ls : Array Slot} {st0 rest : List Value}
variable {Qc : Array Value → State → Outcome → State → Prop} {XC : String → State → State → Prop}
/-- what a body that may throw owes at its end -/
def vx_MQ (below : List Frame) (Qc : Array Value → State → Outcome → State → Prop) (XC : String → State → State → Prop) (a : Array Value) (s : State) (mc ms : Nat) (free : Addr → Prop) : State → Prop := fun t =>
  ∃ o, t.status = .running ∧ Ended t below o ∧ vx_Q Qc XC mc ms free a s o t
theorem vx_ret {g : JFrame} {mc ms : Nat} (k : W p l e R s m args below meth c H locs cells slots (MQ below Qc args s mc ms free) g) : W p l e R s m args below meth c H locs cells slots (vx_MQ below Qc XC args s mc ms free) g := by
  intro T hT X
  obtain ⟨t, a1, o, b1, b2, b3, b4⟩ := k T hT X
  exact ⟨t, a1, o, b1, b2, Or.inl ⟨b3, b4⟩⟩
/-- not caught here: it goes on to the caller -/
theorem vx_widen {g : JFrame} {q : Addr} {k n : Nat} (h1 : cells ≤ k) (h2 : slots ≤ n) (kk : vx_W p l e R s m args below meth c H locs k n Q g q) : vx_W p l e R s m args below meth c H locs cells slots Q g q := fun T hT X => kk T hT (stand_widen X h1 h2)
theorem vx_out {pc : Nat} {E : String} {ce : Cell} {q : Addr} {mc ms : Nat} (hout : ∀ x ∈ c.exceptionTable.toList, covers x pc = false) (hlocks : meth.locks = false) (hcell : H[q]? = some ce) (hv : ce.vm = .none) (hcl : s.vm.findClass E = some ce.cls)
    (hx : ∀ t : State, t.heap = H → s.vm.Alike t.vm → XC E s t) (hf : ∀ z ∈ locs, free z.base) (hc : cells ≤ mc) (hs : slots ≤ ms) :
    vx_W p l e R s m args below meth c H locs cells slots (vx_MQ below Qc XC args s mc ms free) (F0 m pc ls rest) q := by
  intro T hT X
  obtain ⟨st1, hrun, hend, hW, hsm⟩ := X.leaveThrown q (g := F0 m pc ls rest) rfl rfl rfl hout hlocks
  have hcell9 : (T.setFrames (.throwing q :: below)).heap[q]? = some ce := by
    show T.heap[q]? = some ce
    rw [hT]; exact hcell
  exact ⟨_, st1, .threw q, hrun, hend, Or.inr ⟨q, rfl, E, ce, locs, hx _ hT hW.alike, hcell9, hv, hcl, hW, hsm.mono hc hs, hf⟩⟩
theorem vx_frame {U : State} {k n : Nat} (h : s.sameButNew ({ U with vm := s.vm } : State) locs k n) : s.heap.size ≤ U.heap.size ∧ ∀ q : Nat, q < s.heap.size → (∀ z ∈ locs, z.base ≠ q) → U.heap[q]? = s.heap[q]? := by
  obtain ⟨-, h2, -, -, -, h6⟩ := h
  refine ⟨h2, fun q hq hz => ?_⟩
  obtain ⟨c9, e1, e2, e3, e4⟩ := h6 q _ (Array.getElem?_eq_getElem hq)
  have hs : c9.slots = (s.heap[q]).slots := Array.ext_getElem? fun i => e4 i fun hm => hz _ hm rfl
  have h9 : c9 = s.heap[q] := by
    rw [hs] at e2
    exact e2
  have e5 : U.heap[q]? = some c9 := e1
  rw [e5, h9, Array.getElem?_eq_getElem hq]
/-- the words of a throw but the four that speak of the heap -/
def vx_no (w : Cond) : Bool := decide (w ≠ .isRef (.static Bundle.tN "UNASSIGNED_STACK" Bundle.steD)) && decide (w ≠ .isRef (.static Bundle.tN "SUPPRESSED_SENTINEL" Bundle.listD)) && decide (w ≠ .laysStatic Bundle.tN "UNASSIGNED_STACK" Bundle.steD) && decide (w ≠ .laysStatic Bundle.tN "SUPPRESSED_SENTINEL" Bundle.listD)
def vx_at0 (own : String) (ic : Nat) (X : String) (names : List String) : List Cond := (Bundle.ownAtoms0 own ic X names).filter vx_no
def vx_atS (own : String) (ic : Nat) (X : String) (names : List String) : List Cond := (Bundle.ownAtoms own ic X names).filter vx_no
/-- a word that the tables alone decide, or a good one -/
def vx_ot (w : Cond) : Bool := w.onTables || goodWord w
theorem vx_ot_at {args a' : Array Value} {s U : State} {w : Cond} (hW : s.WarmedH U.vm) (hvm : s.vm = U.vm) (hg : vx_ot w = true) (h : w.before args s = true) : w.before a' U = true := by
  simp only [vx_ot, Bool.or_eq_true] at hg
  rcases hg with hg | hg
  · exact va_tabs hg hvm h
  · exact word_at hW (good_of_word hg) h
/-- a list's words: the good ones out of the method's own list, the others by premises of their own -/
theorem vx_hat {args : Array Value} {s : State} {L B : List Cond} (h1 : ∀ w ∈ L.filter goodWord, w.before args s = true) (h2 : ∀ w ∈ L.filter (fun w => !goodWord w), w ∈ B) (h3 : ∀ w ∈ B, w.before args s = true) : ∀ w ∈ L, w.before args s = true := by
  intro w hw
  by_cases g : goodWord w = true
  · exact h1 w (List.mem_filter.mpr ⟨hw, g⟩)
  · refine h3 w (h2 w (List.mem_filter.mpr ⟨hw, ?_⟩))
    show (!goodWord w) = true
    cases hgw : goodWord w
    · rfl
    · exact absurd hgw g
theorem vx_c {args : Array Value} {s : State} {w : Cond} {B : List Cond} (h : w.before args s = true) (t : ∀ w ∈ B, w.before args s = true) : ∀ w' ∈ w :: B, w'.before args s = true := fun w' h' => (List.mem_cons.mp h').elim (fun e => by rw [e]; exact h) (t w')
theorem vx_n {args : Array Value} {s : State} : ∀ w ∈ ([] : List Cond), w.before args s = true := fun _ h => nomatch h
theorem vx_own {args : Array Value} {s : State} {L : List Cond} (h1 : ∀ w ∈ L.filter vx_no, w.before args s = true)
    (hU : (Cond.isRef (.static Bundle.tN "UNASSIGNED_STACK" Bundle.steD)).before args s = true) (hN : (Cond.isRef (.static Bundle.tN "SUPPRESSED_SENTINEL" Bundle.listD)).before args s = true)
    (lU : (Cond.laysStatic Bundle.tN "UNASSIGNED_STACK" Bundle.steD).before args s = true) (lN : (Cond.laysStatic Bundle.tN "SUPPRESSED_SENTINEL" Bundle.listD).before args s = true) : ∀ w ∈ L, w.before args s = true := by
  intro w hw
  by_cases e1 : w = .isRef (.static Bundle.tN "UNASSIGNED_STACK" Bundle.steD)
  · rw [e1]; exact hU
  · by_cases e2 : w = .isRef (.static Bundle.tN "SUPPRESSED_SENTINEL" Bundle.listD)
    · rw [e2]; exact hN
    · by_cases e3 : w = .laysStatic Bundle.tN "UNASSIGNED_STACK" Bundle.steD
      · rw [e3]; exact lU
      · by_cases e4 : w = .laysStatic Bundle.tN "SUPPRESSED_SENTINEL" Bundle.listD
        · rw [e4]; exact lN
        · exact h1 w (List.mem_filter.mpr ⟨hw, by unfold vx_no; rw [decide_eq_true e1, decide_eq_true e2, decide_eq_true e3, decide_eq_true e4]; rfl⟩)
/-- where a static field lies, its class's statics cell in H -/
def vx_L (C n d : String) (A : Nat → Prop) (U : State) (H : Heap) : Prop := ∃ (c : ClassId) (k : Class) (i : Nat) (f : Field) (a : Nat) (cell : Cell), U.vm.findClass C = some c ∧ U.fieldFound? C n d = some (c, k, i, f) ∧ f.isStatic = true ∧ k.statics = some a ∧ H[a]? = some cell ∧ cell.vm.isStatics = true ∧ cell.cls = c ∧ f.slot < cell.slots.size ∧ k.staticTypes[f.slot]? = some f.type ∧ ¬ A a
theorem vx_L.moved {C n d : String} {A : Nat → Prop} {u U : State} {H : Heap} (hvm : u.vm.Alike U.vm) (h : vx_L C n d A u H) : vx_L C n d A U H := by
  obtain ⟨c, k, i, f, a, cell, h1, h2, h3, h4, h5, h6, h7, h8, h9, h10⟩ := h
  obtain ⟨k', hi', he⟩ := State.fieldFound?_setVm hvm h2
  exact ⟨c, k', i, f, a, cell, by rw [hvm.findClass]; exact h1, hi', h3, by rw [he]; exact h4, h5, h6, h7, h8, by rw [he]; exact h9, h10⟩
theorem vx_L.kept {C n d : String} {A : Nat → Prop} {U : State} {H H1 : Heap} (h : vx_L C n d A U H) (hq : ∀ a : Nat, a < H.size → ¬ A a → H1[a]? = H[a]?) : vx_L C n d A U H1 := by
  obtain ⟨c, k, i, f, a, cell, h1, h2, h3, h4, h5, h6, h7, h8, h9, h10⟩ := h
  exact ⟨c, k, i, f, a, cell, h1, h2, h3, h4, by rw [hq a (Array.getElem?_eq_some_iff.mp h5).1 h10]; exact h5, h6, h7, h8, h9, h10⟩
theorem vx_L.narrow {C n d : String} {A B : Nat → Prop} {U : State} {H : Heap} (h : vx_L C n d A U H) (hAB : ∀ q, B q → A q) : vx_L C n d B U H := by
  obtain ⟨c, k, i, f, a, cell, h1, h2, h3, h4, h5, h6, h7, h8, h9, h10⟩ := h
  exact ⟨c, k, i, f, a, cell, h1, h2, h3, h4, h5, h6, h7, h8, h9, fun z => h10 (hAB _ z)⟩
theorem vx_L.word {C n d : String} {A : Nat → Prop} {s : State} {args : Array Value} (h : vx_L C n d A s s.heap) : (Cond.laysStatic C n d).before args s = true := by
  obtain ⟨c, k, i, f, a, cell, h1, h2, h3, h4, h5, h6, h7, h8, h9, -⟩ := h
  show (Cond.laysStatic C n d).holds args s none s [] = true
  exact Cond.laysStatic_of h1 h2 h3 h4 h5 h6 h7 h8 h9
/-- .. and what it holds: null or some reference -/
def vx_Zq (C n d : String) (A : Nat → Prop) (U : State) (H : Heap) : Prop := va_Zq C n d A U H ∧ vx_L C n d A U H
theorem vx_Zq.moved {C n d : String} {A : Nat → Prop} {u U : State} {H : Heap} (hvm : u.vm.Alike U.vm) (h : vx_Zq C n d A u H) : vx_Zq C n d A U H := ⟨va_Zq.moved hvm h.1, vx_L.moved hvm h.2⟩
theorem vx_Zq.kept {C n d : String} {A : Nat → Prop} {U : State} {H H1 : Heap} (h : vx_Zq C n d A U H) (hq : ∀ a : Nat, a < H.size → ¬ A a → H1[a]? = H[a]?) : vx_Zq C n d A U H1 := ⟨va_Zq.kept h.1 hq, vx_L.kept h.2 hq⟩
theorem vx_Zq.narrow {C n d : String} {A B : Nat → Prop} {U : State} {H : Heap} (h : vx_Zq C n d A U H) (hAB : ∀ q, B q → A q) : vx_Zq C n d B U H := ⟨va_Zq.narrow h.1 hAB, vx_L.narrow h.2 hAB⟩
theorem vx_Zqof {args : Array Value} {s : State} {C n d : String} {A : Nat → Prop} (hl : (Cond.laysStatic C n d).before args s = true) (hini : (Cond.initialized C).before args s = true) (h : (Cond.isRef (.static C n d)).before args s = true) (hA : ∀ a : Nat, a < s.heap.size → ¬ A a) : vx_Zq C n d A s s.heap := by
  refine ⟨va_Zqof hl hini h hA, ?_⟩
  obtain ⟨c, k, i, f, a, cell, h1, h2, h3, h4, h5, h6, h7, h8, h9⟩ := Cond.laysStatic_spec hl
  exact ⟨c, k, i, f, a, cell, h1, h2, h3, h4, h5, h6, h7, h8, h9, hA a (Array.getElem?_eq_some_iff.mp h5).1⟩
theorem vx_isRef {C n d : String} {v : Value} {A : Nat → Prop} {s : State} {args : Array Value} (h : va_Z C n d v A s s.heap) (hv : v.isRef = true) : (Cond.isRef (.static C n d)).before args s = true := by
  obtain ⟨cf, kf, fi, f, a, cell, h1, h2, h3, h4, h5, h6, h7, -⟩ := h
  have he : (Term.static C n d).eval args s none [] s = some v := by
    simp [Term.eval, State.fieldNamed?, h1, h2, h4, h5, h6, h7]
  simp only [Cond.before, Cond.holds, Cond.value, he]
  cases v <;> simp_all [Value.isRef]
theorem vx_isRefq {C n d : String} {A : Nat → Prop} {s : State} {args : Array Value} (h : va_Zq C n d A s s.heap) : (Cond.isRef (.static C n d)).before args s = true := by
  rcases h with h | ⟨t, h⟩
  · exact vx_isRef h rfl
  · exact vx_isRef h rfl
/-- the same frame, seen from here: as if the method were called anew in this heap -/
theorem vx_rebase {T : State} (X : Stand p l e R s m args below meth c T locs cells slots) {R' : Room} (hf : R'.frames ≤ R.frames) (hl : R'.locals ≤ R.locals) (hc : cells + R'.cells ≤ R.cells) (hs : slots + R'.slots ≤ R.slots) :
    Stand p l e R' ((T.setVm s.vm).setFrames (.invoking m args :: below)) m args below meth c T [] 0 0 := by
  have htop : (T.setVm s.vm).topJava?.isSome := X.here.top
  have hF : ((T.setVm s.vm).setFrames (.invoking m args :: below)).frames = .invoking m args :: below := State.frames_setFrames _ (State.cur_lt_of_top htop)
  obtain ⟨g₀, hg0⟩ := Option.isSome_iff_exists.mp htop
  obtain ⟨r, hr⟩ := State.topJava?_eq_some.mp hg0
  have hl9 : e.platform.stackLimits (T.setVm s.vm).me = e.platform.stackLimits s.me := X.limits
  have hb9 : (T.setVm s.vm).me.stackBytes = s.me.stackBytes := X.bytes
  refine ⟨X.admits, X.cas, X.clock, hF, ?_, X.hears, X.method, X.code, X.here, X.tail, X.warmed, ?_, ?_, ?_⟩
  · have h := X.room
    have hU : ((T.setVm s.vm).setFrames (.invoking m args :: below)).localsInUse = s.localsInUse := by
      rw [State.localsInUse_invoking hF (meth := meth) (c := c) X.method X.code, State.localsInUse_invoking X.frames X.method X.code]
    simp only [State.hasRoom, Bool.and_eq_true, decide_eq_true_eq] at h ⊢
    obtain ⟨⟨⟨⟨h1, h2, h3, h4, h5, h6⟩, h7⟩, h8⟩, h9⟩ := h
    rw [X.frames, List.length_cons] at h2 h3
    have q1 := X.heapSize
    have q2 := X.used
    simp only [hF, hU, List.length_cons, State.stackLimits_setFrames, State.stackBytes_setFrames, hl9, hb9]
    refine ⟨⟨⟨⟨by omega, by omega, by omega, by omega, by omega, h6⟩, ?_⟩, ?_⟩, X.book⟩
    · show T.heap.size + R'.cells ≤ e.platform.maxCells
      omega
    · show T.slotsUsed + R'.slots ≤ e.platform.maxSlots
      omega
  · rw [State.stackLimits_setFrames]; rfl
  · rw [State.stackBytes_setFrames]; rfl
  · refine ⟨?_, Nat.le_refl _, Nat.le_refl _, ?_, ?_, fun a c9 h9 => ⟨c9, h9, rfl, rfl, fun _ _ => rfl⟩⟩
    · obtain ⟨t, ht, -⟩ := State.frames_cons hr
      show T.setVm s.vm = { ((T.setVm s.vm).setFrames (.invoking m args :: below)).setFrames (T.setVm s.vm).frames with heap := T.heap, slotsUsed := T.slotsUsed }
      rw [State.setFrames_setFrames, State.setFrames_self ht]
      rfl
    · show T.slotsUsed = T.slotsUsed + ((T.heap.toList.drop T.heap.size).map (·.slots.size)).sum
      rw [List.drop_eq_nil_of_le (Nat.le_of_eq Array.length_toList)]
      rfl
    · show ((T.heap.toList.drop T.heap.size).map (·.slots.size)).sum ≤ 0
      rw [List.drop_eq_nil_of_le (Nat.le_of_eq Array.length_toList)]
      exact Nat.le_refl _
/-- 'throw new E()': new; dup; invokespecial; athrow -/
theorem vx_throw0 {cc : ByteArray} {pc : Nat} (hexec : p.tables.exec = Jvm.exec) (hb : c.code = cc) (hl : l.stackTraces = false) {own cls : String} {names : List String} {ik ic mc ms : Nat} {A : Nat → Prop}
    (hown : s.vm.findClass own = some m.cls) (hcls : Bundle.fit cls = true) (hnames : ∀ n ∈ names, Bundle.fit n = true)
    (hk : (Cond.classLink own ik cls).before args s = true) (hini : (Cond.initialized cls).before args s = true) (hat : ∀ w ∈ vx_at0 own ic cls names, w.before args s = true)
    (hgood : ∀ w ∈ Cond.classLink own ik cls :: Cond.initialized cls :: vx_at0 own ic cls names, vx_ot w = true)
    (hU : vx_Zq Bundle.tN "UNASSIGNED_STACK" Bundle.steD A s s.heap) (hN : vx_Zq Bundle.tN "SUPPRESSED_SENTINEL" Bundle.listD A s s.heap) (hS : va_S A s.heap H locs) (hsize : ls.size = c.maxLocals)
    (d0 : decode cc pc = .ok (.new ik, 3)) (d3 : decode cc (pc + 3) = .ok (.dup, 1)) (d4 : decode cc (pc + 4) = .ok (.invokespecial ic, 3)) (d7 : decode cc (pc + 7) = .ok (.athrow, 1))
    (hout : ∀ x ∈ c.exceptionTable.toList, covers x (pc + 7) = false)
    (hRframes : names.length + 3 < R.frames) (hRlocals : (rest.map fun v => v.category).sum + (13 * (names.length + 1) + 42) ≤ R.locals) (hRcells : cells + 1 ≤ R.cells) (hRslots : slots + 6 ≤ R.slots) (hlocks : meth.locks = false)
    (hx : ∀ t : State, s.vm.Alike t.vm → H.size ≤ t.heap.size → (∀ q : Nat, q < H.size → t.heap[q]? = H[q]?) → XC cls s t)
    (hf : ∀ z ∈ locs, free z.base) (hc : cells + 1 ≤ mc) (hs : slots + 6 ≤ ms) :
    W p l e R s m args below meth c H locs cells slots (vx_MQ below Qc XC args s mc ms free) (F0 m pc ls rest) := by
  intro T hT X
  have htr : e.platform.stackTraces = false := (show e.platform.stackTraces = l.stackTraces by rw [X.admits.platform]).trans hl
  have Y := vx_rebase X (R' := { frames := R.frames, locals := R.locals, cells := 1, slots := 6 }) (Nat.le_refl _) (Nat.le_refl _) hRcells hRslots
  obtain ⟨s', hA⟩ : ∃ z, z = (T.setVm s.vm).setFrames (.invoking m args :: below) := ⟨_, rfl⟩
  rw [← hA] at Y
  have hvm : s'.vm = s.vm := by rw [hA]; rfl
  have hhp : s'.heap = H := by rw [hA]; exact hT
  have hW0 : s.WarmedH s'.vm := by rw [hvm]; exact State.WarmedH.refl s
  have hat' : ∀ w ∈ vx_at0 own ic cls names, w.before args s' = true := fun w hw => vx_ot_at hW0 hvm.symm (hgood w (List.mem_cons_of_mem _ (List.mem_cons_of_mem _ hw))) (hat w hw)
  have hk' : (Cond.classLink own ik cls).before args s' = true := vx_ot_at hW0 hvm.symm (hgood _ List.mem_cons_self) hk
  have hini' : (Cond.initialized cls).before args s' = true := vx_ot_at hW0 hvm.symm (hgood _ (List.mem_cons_of_mem _ List.mem_cons_self)) hini
  have hU' : vx_Zq Bundle.tN "UNASSIGNED_STACK" Bundle.steD A s' s'.heap := by rw [hhp]; exact vx_Zq.moved hW0.alike (hU.kept hS.2.1)
  have hN' : vx_Zq Bundle.tN "SUPPRESSED_SENTINEL" Bundle.listD A s' s'.heap := by rw [hhp]; exact vx_Zq.moved hW0.alike (hN.kept hS.2.1)
  have h : ∀ w ∈ Bundle.ownAtoms0 own ic cls names, w.before args s' = true := vx_own hat' (vx_isRefq hU'.1) (vx_isRefq hN'.1) hU'.2.word hN'.2.word
  have hown' : s'.vm.findClass own = some m.cls := by rw [hvm]; exact hown
  have hins : (Cond.instantiable cls 6).before args s' = true := h _ (by simp [Bundle.ownAtoms0])
  obtain ⟨vm₁, cX, kX, hfX, hkX, -, -, X₁, st1⟩ := Y.newCold hexec (own := own) (C := cls) (index := ik) (n := 6) hown' hk' hins hini'
    (g := F0 m pc ls rest) rfl (by rw [hb]; exact d0) (Nat.le_refl _) (Nat.le_refl _)
  generalize hT1 : (T.setVm vm₁).pushCell { cls := cX, slots := kX.instanceTypes.map defaultValue, vm := .none } = T1 at X₁ st1
  have hcat : (Value.ref T.heap.size).category = 1 := rfl
  have hcellA : T1.heap[T.heap.size]? = some (freshCell cX kX) := by rw [← hT1]; exact State.heap_pushCell_size _ _
  have d3' : decode c.code (pc + 3) = .ok (.dup, 1) := by rw [hb]; exact d3
  obtain ⟨U, hsteps, hrun, hend, hW, hsame, ce, hce, hO⟩ := X₁.ctorThrow0 hexec htr (own := own) (cls := cls) (names := names) (ic := ic) hown' hcls hnames h (fun x hx => nomatch hx) hfX hkX hcellA (by rw [hhp, hT]; exact Nat.le_refl _)
    (g := { method := m, pc := pc + 4, locals := ls, stack := .ref T.heap.size :: .ref T.heap.size :: rest, locked := none }) rfl hsize rfl rfl (rest := rest) rfl
    (by rw [hb]; exact d4) (by rw [hb]; exact d7) hout hRframes (by simp only [List.map_cons, List.sum_cons, hcat]; omega) hlocks
  obtain ⟨f1, f2⟩ := vx_frame hsame
  rw [hhp] at f1 f2
  have hWs : s.WarmedH U.vm := State.WarmedH.trans hW0 hW
  have hcl : s.vm.findClass cls = some ce.cls := by
    have h9 := hO.cls
    rw [hvm] at h9
    exact h9
  have hall : s.sameButNew ({ U with vm := s.vm } : State) locs mc ms := by
    subst hA
    obtain ⟨e1, e2⟩ := hsame
    rw [State.setFrames_setFrames] at e1
    have h2 : (T.setVm s.vm).sameButNew ({ U with vm := s.vm } : State) [] (0 + 1) (0 + 6) := ⟨e1, e2⟩
    have h3 := X.same.trans h2
    rw [List.append_nil] at h3
    exact h3.mono hc hs
  refine ⟨U, ?_, .threw T.heap.size, hrun, hend, Or.inr ⟨T.heap.size, rfl, cls, ce, locs, hx U hWs.alike f1 (fun q hq => f2 q hq (fun z hz => nomatch hz)), hce, hO.vm, hcl, hWs, hall, hf⟩⟩
  refine st1 _ ?_
  show Steps p.tables e below (T1.setTop { method := m, pc := pc + 3, locals := ls, stack := .ref T.heap.size :: rest, locked := none }) _
  jvm_step X₁.here [X₁.here.top, hexec, d3', Value.category]
  exact hsteps
/-- 'throw new E("text")': new; dup; ldc; invokespecial; athrow -/
theorem vx_throwS {cc : ByteArray} {pc : Nat} (hexec : p.tables.exec = Jvm.exec) (hb : c.code = cc) (hl : l.stackTraces = false) {own cls text : String} {names : List String} {ik is ic mc ms sa : Nat} {A : Nat → Prop}
    (hown : s.vm.findClass own = some m.cls) (hcls : Bundle.fit cls = true) (hnames : ∀ n ∈ names, Bundle.fit n = true)
    (hk : (Cond.classLink own ik cls).before args s = true) (hini : (Cond.initialized cls).before args s = true) (hstr : vk_R own is text sa s) (hat : ∀ w ∈ vx_atS own ic cls names, w.before args s = true)
    (hgood : ∀ w ∈ Cond.classLink own ik cls :: Cond.initialized cls :: vx_atS own ic cls names, vx_ot w = true)
    (hU : vx_Zq Bundle.tN "UNASSIGNED_STACK" Bundle.steD A s s.heap) (hN : vx_Zq Bundle.tN "SUPPRESSED_SENTINEL" Bundle.listD A s s.heap) (hS : va_S A s.heap H locs) (hsize : ls.size = c.maxLocals)
    (d0 : decode cc pc = .ok (.new ik, 3)) (d3 : decode cc (pc + 3) = .ok (.dup, 1)) (d4 : decode cc (pc + 4) = .ok (.ldc is, 2)) (d6 : decode cc (pc + 6) = .ok (.invokespecial ic, 3)) (d9 : decode cc (pc + 9) = .ok (.athrow, 1))
    (hout : ∀ x ∈ c.exceptionTable.toList, covers x (pc + 9) = false)
    (hRframes : names.length + 3 < R.frames) (hRlocals : (rest.map fun v => v.category).sum + (13 * (names.length + 1) + 43) ≤ R.locals) (hRcells : cells + 1 ≤ R.cells) (hRslots : slots + 6 ≤ R.slots) (hlocks : meth.locks = false)
    (hx : ∀ t : State, s.vm.Alike t.vm → H.size ≤ t.heap.size → (∀ q : Nat, q < H.size → t.heap[q]? = H[q]?) → XC cls s t)
    (hf : ∀ z ∈ locs, free z.base) (hc : cells + 1 ≤ mc) (hs : slots + 6 ≤ ms) :
    W p l e R s m args below meth c H locs cells slots (vx_MQ below Qc XC args s mc ms free) (F0 m pc ls rest) := by
  intro T hT X
  have htr : e.platform.stackTraces = false := (show e.platform.stackTraces = l.stackTraces by rw [X.admits.platform]).trans hl
  have Y := vx_rebase X (R' := { frames := R.frames, locals := R.locals, cells := 1, slots := 6 }) (Nat.le_refl _) (Nat.le_refl _) hRcells hRslots
  obtain ⟨s', hA⟩ : ∃ z, z = (T.setVm s.vm).setFrames (.invoking m args :: below) := ⟨_, rfl⟩
  rw [← hA] at Y
  have hvm : s'.vm = s.vm := by rw [hA]; rfl
  have hhp : s'.heap = H := by rw [hA]; exact hT
  have hW0 : s.WarmedH s'.vm := by rw [hvm]; exact State.WarmedH.refl s
  have hat' : ∀ w ∈ vx_atS own ic cls names, w.before args s' = true := fun w hw => vx_ot_at hW0 hvm.symm (hgood w (List.mem_cons_of_mem _ (List.mem_cons_of_mem _ hw))) (hat w hw)
  have hk' : (Cond.classLink own ik cls).before args s' = true := vx_ot_at hW0 hvm.symm (hgood _ List.mem_cons_self) hk
  have hini' : (Cond.initialized cls).before args s' = true := vx_ot_at hW0 hvm.symm (hgood _ (List.mem_cons_of_mem _ List.mem_cons_self)) hini
  have hU' : vx_Zq Bundle.tN "UNASSIGNED_STACK" Bundle.steD A s' s'.heap := by rw [hhp]; exact vx_Zq.moved hW0.alike (hU.kept hS.2.1)
  have hN' : vx_Zq Bundle.tN "SUPPRESSED_SENTINEL" Bundle.listD A s' s'.heap := by rw [hhp]; exact vx_Zq.moved hW0.alike (hN.kept hS.2.1)
  have h : ∀ w ∈ Bundle.ownAtoms own ic cls names, w.before args s' = true := vx_own hat' (vx_isRefq hU'.1) (vx_isRefq hN'.1) hU'.2.word hN'.2.word
  have hown' : s'.vm.findClass own = some m.cls := by rw [hvm]; exact hown
  have hins : (Cond.instantiable cls 6).before args s' = true := h _ (by simp [Bundle.ownAtoms])
  obtain ⟨vm₁, cX, kX, hfX, hkX, -, -, X₁, st1⟩ := Y.newCold hexec (own := own) (C := cls) (index := ik) (n := 6) hown' hk' hins hini'
    (g := F0 m pc ls rest) rfl (by rw [hb]; exact d0) (Nat.le_refl _) (Nat.le_refl _)
  generalize hT1 : (T.setVm vm₁).pushCell { cls := cX, slots := kX.instanceTypes.map defaultValue, vm := .none } = T1 at X₁ st1
  have hcat : (Value.ref T.heap.size).category = 1 := rfl
  have hcellA : T1.heap[T.heap.size]? = some (freshCell cX kX) := by rw [← hT1]; exact State.heap_pushCell_size _ _
  have d3' : decode c.code (pc + 3) = .ok (.dup, 1) := by rw [hb]; exact d3
  have d4' : decode c.code (pc + 4) = .ok (.ldc is, 2) := by rw [hb]; exact d4
  have hstr' : vk_R own is text sa s' := vk_R.warm hW0 hstr
  obtain ⟨U, hsteps, hrun, hend, hW, hsame, ce, hce, hO⟩ := X₁.ctorThrowS hexec htr (own := own) (cls := cls) (names := names) (ic := ic) hown' hcls hnames h (fun x hx => nomatch hx) hfX hkX hcellA (by rw [hhp, hT]; exact Nat.le_refl _) (msg := .ref sa) rfl
    (g := { method := m, pc := pc + 6, locals := ls, stack := .ref sa :: .ref T.heap.size :: .ref T.heap.size :: rest, locked := none }) rfl hsize rfl rfl (rest := rest) rfl
    (by rw [hb]; exact d6) (by rw [hb]; exact d9) hout hRframes (by simp only [List.map_cons, List.sum_cons, hcat]; omega) hlocks
  obtain ⟨f1, f2⟩ := vx_frame hsame
  rw [hhp] at f1 f2
  have hWs : s.WarmedH U.vm := State.WarmedH.trans hW0 hW
  have hcl : s.vm.findClass cls = some ce.cls := by
    have h9 := hO.cls
    rw [hvm] at h9
    exact h9
  have hall : s.sameButNew ({ U with vm := s.vm } : State) locs mc ms := by
    subst hA
    obtain ⟨e1, e2⟩ := hsame
    rw [State.setFrames_setFrames] at e1
    have h2 : (T.setVm s.vm).sameButNew ({ U with vm := s.vm } : State) [] (0 + 1) (0 + 6) := ⟨e1, e2⟩
    have h3 := X.same.trans h2
    rw [List.append_nil] at h3
    exact h3.mono hc hs
  refine ⟨U, ?_, .threw T.heap.size, hrun, hend, Or.inr ⟨T.heap.size, rfl, cls, ce, locs, hx U hWs.alike f1 (fun q hq => f2 q hq (fun z hz => nomatch hz)), hce, hO.vm, hcl, hWs, hall, hf⟩⟩
  refine st1 _ ?_
  show Steps p.tables e below (T1.setTop { method := m, pc := pc + 3, locals := ls, stack := .ref T.heap.size :: rest, locked := none }) _
  jvm_step X₁.here [X₁.here.top, hexec, d3', Value.category]
  exact X₁.ldcString hexec (own := own) (text := text) (index := is) (a := sa) hown' hstr'.1 hstr'.2
    (g := { method := m, pc := pc + 4, locals := ls, stack := .ref T.heap.size :: .ref T.heap.size :: rest, locked := none }) rfl d4' _ hsteps
/-- 'throw new E("text")', the text by a wide index -/
theorem vx_throwSW {cc : ByteArray} {pc : Nat} (hexec : p.tables.exec = Jvm.exec) (hb : c.code = cc) (hl : l.stackTraces = false) {own cls text : String} {names : List String} {ik is ic mc ms sa : Nat} {A : Nat → Prop}
    (hown : s.vm.findClass own = some m.cls) (hcls : Bundle.fit cls = true) (hnames : ∀ n ∈ names, Bundle.fit n = true)
    (hk : (Cond.classLink own ik cls).before args s = true) (hini : (Cond.initialized cls).before args s = true) (hstr : vk_R own is text sa s) (hat : ∀ w ∈ vx_atS own ic cls names, w.before args s = true)
    (hgood : ∀ w ∈ Cond.classLink own ik cls :: Cond.initialized cls :: vx_atS own ic cls names, vx_ot w = true)
    (hU : vx_Zq Bundle.tN "UNASSIGNED_STACK" Bundle.steD A s s.heap) (hN : vx_Zq Bundle.tN "SUPPRESSED_SENTINEL" Bundle.listD A s s.heap) (hS : va_S A s.heap H locs) (hsize : ls.size = c.maxLocals)
    (d0 : decode cc pc = .ok (.new ik, 3)) (d3 : decode cc (pc + 3) = .ok (.dup, 1)) (d4 : decode cc (pc + 4) = .ok (.ldc_w is, 3)) (d7 : decode cc (pc + 7) = .ok (.invokespecial ic, 3)) (d10 : decode cc (pc + 10) = .ok (.athrow, 1))
    (hout : ∀ x ∈ c.exceptionTable.toList, covers x (pc + 10) = false)
    (hRframes : names.length + 3 < R.frames) (hRlocals : (rest.map fun v => v.category).sum + (13 * (names.length + 1) + 43) ≤ R.locals) (hRcells : cells + 1 ≤ R.cells) (hRslots : slots + 6 ≤ R.slots) (hlocks : meth.locks = false)
    (hx : ∀ t : State, s.vm.Alike t.vm → H.size ≤ t.heap.size → (∀ q : Nat, q < H.size → t.heap[q]? = H[q]?) → XC cls s t)
    (hf : ∀ z ∈ locs, free z.base) (hc : cells + 1 ≤ mc) (hs : slots + 6 ≤ ms) :
    W p l e R s m args below meth c H locs cells slots (vx_MQ below Qc XC args s mc ms free) (F0 m pc ls rest) := by
  intro T hT X
  have htr : e.platform.stackTraces = false := (show e.platform.stackTraces = l.stackTraces by rw [X.admits.platform]).trans hl
  have Y := vx_rebase X (R' := { frames := R.frames, locals := R.locals, cells := 1, slots := 6 }) (Nat.le_refl _) (Nat.le_refl _) hRcells hRslots
  obtain ⟨s', hA⟩ : ∃ z, z = (T.setVm s.vm).setFrames (.invoking m args :: below) := ⟨_, rfl⟩
  rw [← hA] at Y
  have hvm : s'.vm = s.vm := by rw [hA]; rfl
  have hhp : s'.heap = H := by rw [hA]; exact hT
  have hW0 : s.WarmedH s'.vm := by rw [hvm]; exact State.WarmedH.refl s
  have hat' : ∀ w ∈ vx_atS own ic cls names, w.before args s' = true := fun w hw => vx_ot_at hW0 hvm.symm (hgood w (List.mem_cons_of_mem _ (List.mem_cons_of_mem _ hw))) (hat w hw)
  have hk' : (Cond.classLink own ik cls).before args s' = true := vx_ot_at hW0 hvm.symm (hgood _ List.mem_cons_self) hk
  have hini' : (Cond.initialized cls).before args s' = true := vx_ot_at hW0 hvm.symm (hgood _ (List.mem_cons_of_mem _ List.mem_cons_self)) hini
  have hU' : vx_Zq Bundle.tN "UNASSIGNED_STACK" Bundle.steD A s' s'.heap := by rw [hhp]; exact vx_Zq.moved hW0.alike (hU.kept hS.2.1)
  have hN' : vx_Zq Bundle.tN "SUPPRESSED_SENTINEL" Bundle.listD A s' s'.heap := by rw [hhp]; exact vx_Zq.moved hW0.alike (hN.kept hS.2.1)
  have h : ∀ w ∈ Bundle.ownAtoms own ic cls names, w.before args s' = true := vx_own hat' (vx_isRefq hU'.1) (vx_isRefq hN'.1) hU'.2.word hN'.2.word
  have hown' : s'.vm.findClass own = some m.cls := by rw [hvm]; exact hown
  have hins : (Cond.instantiable cls 6).before args s' = true := h _ (by simp [Bundle.ownAtoms])
  obtain ⟨vm₁, cX, kX, hfX, hkX, -, -, X₁, st1⟩ := Y.newCold hexec (own := own) (C := cls) (index := ik) (n := 6) hown' hk' hins hini'
    (g := F0 m pc ls rest) rfl (by rw [hb]; exact d0) (Nat.le_refl _) (Nat.le_refl _)
  generalize hT1 : (T.setVm vm₁).pushCell { cls := cX, slots := kX.instanceTypes.map defaultValue, vm := .none } = T1 at X₁ st1
  have hcat : (Value.ref T.heap.size).category = 1 := rfl
  have hcellA : T1.heap[T.heap.size]? = some (freshCell cX kX) := by rw [← hT1]; exact State.heap_pushCell_size _ _
  have d3' : decode c.code (pc + 3) = .ok (.dup, 1) := by rw [hb]; exact d3
  have d4' : decode c.code (pc + 4) = .ok (.ldc_w is, 3) := by rw [hb]; exact d4
  have hstr' : vk_R own is text sa s' := vk_R.warm hW0 hstr
  obtain ⟨U, hsteps, hrun, hend, hW, hsame, ce, hce, hO⟩ := X₁.ctorThrowS hexec htr (own := own) (cls := cls) (names := names) (ic := ic) hown' hcls hnames h (fun x hx => nomatch hx) hfX hkX hcellA (by rw [hhp, hT]; exact Nat.le_refl _) (msg := .ref sa) rfl
    (g := { method := m, pc := pc + 7, locals := ls, stack := .ref sa :: .ref T.heap.size :: .ref T.heap.size :: rest, locked := none }) rfl hsize rfl rfl (rest := rest) rfl
    (by rw [hb]; exact d7) (by rw [hb]; exact d10) hout hRframes (by simp only [List.map_cons, List.sum_cons, hcat]; omega) hlocks
  obtain ⟨f1, f2⟩ := vx_frame hsame
  rw [hhp] at f1 f2
  have hWs : s.WarmedH U.vm := State.WarmedH.trans hW0 hW
  have hcl : s.vm.findClass cls = some ce.cls := by
    have h9 := hO.cls
    rw [hvm] at h9
    exact h9
  have hall : s.sameButNew ({ U with vm := s.vm } : State) locs mc ms := by
    subst hA
    obtain ⟨e1, e2⟩ := hsame
    rw [State.setFrames_setFrames] at e1
    have h2 : (T.setVm s.vm).sameButNew ({ U with vm := s.vm } : State) [] (0 + 1) (0 + 6) := ⟨e1, e2⟩
    have h3 := X.same.trans h2
    rw [List.append_nil] at h3
    exact h3.mono hc hs
  refine ⟨U, ?_, .threw T.heap.size, hrun, hend, Or.inr ⟨T.heap.size, rfl, cls, ce, locs, hx U hWs.alike f1 (fun q hq => f2 q hq (fun z hz => nomatch hz)), hce, hO.vm, hcl, hWs, hall, hf⟩⟩
  refine st1 _ ?_
  show Steps p.tables e below (T1.setTop { method := m, pc := pc + 3, locals := ls, stack := .ref T.heap.size :: rest, locked := none }) _
  jvm_step X₁.here [X₁.here.top, hexec, d3', Value.category]
  exact X₁.ldcStringW hexec (own := own) (text := text) (index := is) (a := sa) hown' hstr'.1 hstr'.2
    (g := { method := m, pc := pc + 4, locals := ls, stack := .ref T.heap.size :: .ref T.heap.size :: rest, locked := none }) rfl d4' _ hsteps
end Ends
section Bodies
variable {l : Launch}
theorem vx_ofW {y : MethodName} {ws ws' : List Cond} {rm : Room} {Pc : Array Value → State → Prop} {Qc : Array Value → State → Outcome → State → Prop} {XC : String → State → State → Prop} {mc ms : Nat} {free : Addr → Prop} {cc : ByteArray} {maxL : Nat} {ret : Option FieldType}
    (hy : plainName y.cls = true) (hw : ws = Cond.code y cc maxL ret :: ws')
    (body : ∀ p e s m args below meth c s₁, BodyLoose p l y (headSpec ws rm) cc maxL ret e s m args below meth c s₁ → c.maxLocals = maxL → (∀ x ∈ c.exceptionTable.toList, False) → Pc args s →
      W p l e (headSpec ws rm).room s m args below meth c s.heap [] 0 0 (vx_MQ below Qc XC args s mc ms free) (entryFrame m args maxL)) : vx_Met l y ws rm Pc Qc XC mc ms free := by
  refine MetFree.of_bodyS (code := cc) (maxLocals := maxL) (ret := ret) hy ?_ ?_
  · intro args s m h hn
    obtain ⟨meth, c, h1, h2, h3, h4, h5, h6, -, -⟩ := Cond.code_spec hn (atoms_spec (ws := ws) h _ (by rw [hw]; exact List.mem_cons_self))
    exact ⟨meth, c, h1, h2, h3, h4, h5, h6⟩
  · intro p e s m args below meth c s₁ B hml hP _
    have hh0 : s₁.heap = s.heap := by rw [B.state]; rfl
    have ht : ∀ x ∈ c.exceptionTable.toList, False := by
      obtain ⟨meth9, c9, h1, h2, -, -, -, -, h7, -⟩ := Cond.code_spec B.named (atoms_spec (ws := ws) B.pre _ (by rw [hw]; exact List.mem_cons_self))
      cases Option.some.inj (h1.symm.trans B.method)
      cases Option.some.inj (h2.symm.trans (Stand.of_body B).code)
      intro x hx
      rw [Array.isEmpty_iff.mp h7] at hx
      cases hx
    obtain ⟨t, a1, o, b1, b2, b3⟩ := body p e s m args below meth c s₁ B hml ht hP s₁ hh0 (Stand.of_body B)
    exact ⟨t, o, a1, b1, b2, b3⟩
/-- the table of a body with handlers -/
theorem vx_table {p : Program} {x y : MethodName} {S : Spec} {cc bytes : ByteArray} {maxL maxL' : Nat} {ret ret' : Option FieldType} {e : Env} {s s₁ : State} {m : MethodId} {args : Array Value} {below : List Frame} {meth : Method} {c : Code} {hh : List (Nat × Nat × Nat × Nat)}
    (B : BodyLoose p l y S cc maxL ret e s m args below meth c s₁) (h : (Cond.codeWith y bytes maxL' ret' hh).before args s = true) : c.exceptionTable.toList = tableOf hh := by
  obtain ⟨m9, meth9, c9, hn9, h1, h2, -, -, h6, -⟩ := Cond.codeWith_spec h
  cases Option.some.inj (hn9.symm.trans B.named)
  cases Option.some.inj (h1.symm.trans B.method)
  cases Option.some.inj (h2.symm.trans (Stand.of_body B).code)
  rw [← h6, table_eq]
end Bodies
end VXA
/-! ===== END ===== -/
/-! ===== BEGIN a static call of a method with an exception table ===== -/
section VXS
variable {p : Program} {l : Launch} {e : Env} {R : Room} {s : State} {m : MethodId} {args : Array Value} {below : List Frame} {meth : Method} {c : Code} {T : State} {H : Heap} {locs : List Loc} {cells slots : Nat}
abbrev vx_CSW (R : Room) (s : State) (args : Array Value) (own : String) (index : Nat) (y : MethodName) (bytes : ByteArray) (maxL : Nat) (ret : Option FieldType) (hh : List (Nat × Nat × Nat × Nat)) (ws : List Cond) (rm : Room) (mc ms n : Nat) : Prop :=
  (rm.cells = mc ∧ rm.slots = ms ∧ rm.frames + 1 ≤ R.frames ∧ 8 + (maxL + 11) + rm.locals ≤ R.locals ∧ (∀ w ∈ ws, ∀ (a' : Array Value) (U : State), s.WarmedH U.vm → w.before a' U = true) ∧ Cond.codeWith y bytes maxL ret hh ∈ ws) ∧
  (Cond.codeWith y bytes maxL ret hh).before args s = true ∧ (Cond.initialized y.cls).before args s = true ∧ (y.cls ≠ "java/lang/invoke/MethodHandle" ∧ y.cls ≠ "java/lang/invoke/VarHandle") ∧
  (∀ sig, parseMethodDescriptor y.desc = some sig → n = sig.parameters.length) ∧ (Cond.methodLink own index y).before args s = true ∧ (Cond.static y).before args s = true
theorem vx_cwSW {own : String} {index maxL mc ms : Nat} {y : MethodName} {bytes : ByteArray} {ret : Option FieldType} {hh : List (Nat × Nat × Nat × Nat)} {Ts ws ws' : List Cond} {rm : Room} (n : Nat) (ht : ∀ w ∈ Ts, w.before args s = true) (hT : GoodIn Ts (va_wsS own index y ws)) (hw : ws = Cond.codeWith y bytes maxL ret hh :: ws') (hrc : rm.cells = mc) (hrs : rm.slots = ms)
    (hd : y.cls ≠ "java/lang/invoke/MethodHandle" ∧ y.cls ≠ "java/lang/invoke/VarHandle" ∧ (parseMethodDescriptor y.desc).map (fun d => d.parameters.length) = some n) (hR : rm.frames + 1 ≤ R.frames ∧ 8 + (maxL + 11) + rm.locals ≤ R.locals) :
    vx_CSW R s args own index y bytes maxL ret hh ws rm mc ms n := by
  have ok : ∀ w ∈ va_wsS own index y ws, w.before args s = true := fun w h => ht w (hT w h).1
  have hG : GoodIn Ts ws := fun w h => hT w (by unfold va_wsS; exact List.mem_append_right _ h)
  have hc : Cond.codeWith y bytes maxL ret hh ∈ ws := by rw [hw]; exact List.mem_cons_self
  refine ⟨⟨hrc, hrs, hR.1, hR.2, pay_in ht hG, hc⟩, ht _ (hG _ hc).1, ok _ (by simp [va_wsS]), ⟨hd.1, hd.2.1⟩, fun sig h => ?_, ok _ (by simp [va_wsS]), ok _ (by simp [va_wsS])⟩
  have h2 := hd.2.2
  rw [h] at h2
  exact (Option.some.inj h2).symm
theorem vx_callSW (X : Stand p l e R s m args below meth c T locs cells slots) (hexec : p.tables.exec = Jvm.exec) {own : String} {index : Nat} {y : MethodName} {bytes : ByteArray} {maxL : Nat} {ret : Option FieldType} {hh : List (Nat × Nat × Nat × Nat)}
    (hown : s.vm.findClass own = some m.cls) (hlink : (Cond.methodLink own index y).before args s = true) (hstat : (Cond.static y).before args s = true) (hinit : (Cond.initialized y.cls).before args s = true)
    (hcode : (Cond.codeWith y bytes maxL ret hh).before args s = true) (hy : y.cls ≠ "java/lang/invoke/MethodHandle" ∧ y.cls ≠ "java/lang/invoke/VarHandle")
    {W9 : Nat} {Pre : Pt → Array Value → Prop} {Post : Pt → Array Value → Option Value → Pt → Prop} (hK : Back l R p e below s args y 3 W9 Pre Post)
    {g : JFrame} (hg : g.method = m) (hsize : g.locals.size = c.maxLocals) {argsL rest : List Value} (hlen : ∀ sig, parseMethodDescriptor y.desc = some sig → argsL.length = sig.parameters.length)
    (hstack : g.stack = argsL.reverse ++ rest) (hW : 2 * g.monitorRoom + (rest.map fun v => v.category).sum ≤ W9) (hdg : decode c.code g.pc = .ok (.invokestatic index, 3))
    (hpre : ∀ vm₁, s.WarmedH vm₁ → Pre ⟨T.setVm vm₁, locs, cells, slots⟩ argsL.toArray) :
    ∃ (v : Option Value) (vm₁ : Vm) (B : Pt), s.WarmedH vm₁ ∧ Stand p l e R s m args below meth c B.U B.locs B.cells B.slots ∧ Post ⟨T.setVm vm₁, locs, cells, slots⟩ argsL.toArray v B ∧
      ∀ target, Steps p.tables e below (B.U.setTop { g with pc := g.pc + 3, stack := v.toList ++ rest }) target → Steps p.tables e below (T.setTop g) target := by
  obtain ⟨mk, methM, cM, hnamed, hmethM, -, -, -, -, -, -, hsigM⟩ := Cond.codeWith_spec hcode
  have hstatic : methM.isStatic = true := Cond.static_spec hnamed hmethM hstat
  obtain ⟨kP, hkP, -⟩ := className_of_methodNamed hnamed
  have hinitP : kP.init = .initialized := Cond.initialized_spec (findClass_of_methodNamed hnamed) hkP hinit
  obtain ⟨vm₁, X₁, hstep₁⟩ := X.invokestatic hexec hown hlink hnamed hmethM hstatic hkP hinitP hy (g := g) hg (argsL := argsL) (rest := rest) (hlen _ hsigM) hstack hdg
  obtain ⟨v, B, X', hpost, hsteps⟩ := hK m meth c ⟨T.setVm vm₁, locs, cells, slots⟩ { g with stack := rest } (.invokestatic index) mk argsL.toArray X₁ hg hsize hdg hW (X₁.named hnamed) (hpre vm₁ X₁.warmed)
  exact ⟨v, vm₁, B, X₁.warmed, X', hpost, fun target h => hstep₁ _ fun acts => by rw [doInvoke_state]; exact hsteps.trans h⟩
theorem vx_runSW {y : MethodName} {bytes cc : ByteArray} {maxL nL mc ms n index : Nat} {ret : Option FieldType} {hh : List (Nat × Nat × Nat × Nat)} {ws : List Cond} {rm : Room} {Pc : Array Value → State → Prop} {Qc : Array Value → State → Outcome → State → Prop} {free : Addr → Prop} {Ts : List Cond} {own : String} {As rest : List Value} {g : JFrame}
    (S : CallFix p m c cc nL s args Ts own) (hM : Met l y ws rm Pc Qc mc ms free) (cw : vx_CSW R s args own index y bytes maxL ret hh ws rm mc ms n) (hp : PreS s H Pc As)
    (hg : g.method = m) (hn : As.length = n) (hsize : g.locals.size = nL) (hstack : g.stack = As.reverse ++ rest) (hW : 2 * g.monitorRoom + (rest.map fun v => v.category).sum ≤ 8) (hdg : decode cc g.pc = .ok (.invokestatic index, 3)) (hf : cells + mc ≤ R.cells ∧ slots + ms ≤ R.slots) :
    va_Run p l e R s m args below meth c H locs cells slots mc ms g rest (Qc As.toArray) (free) := by
  obtain ⟨⟨hrc, hrs, hfr, hlo, hws, hcw⟩, hcode, hini, hy, hlen, hl, hstt⟩ := cw
  have hK : Back l R p e below s args y 3 8 (PreOf R mc ms Pc) (PostOf Qc mc ms free) := va_backW (hh := hh) (bytes := bytes) (maxL := maxL) (ret := ret) hM hp.1 hrc hrs hfr hlo hws hcw (fun a' U hW => word_at hW (Or.inl (by first | rfl | simp [Cond.onTables, Cond.keeps, Cond.steady])) hini)
  obtain ⟨hx, hb, hml, ho, -⟩ := S
  intro T hT X
  obtain ⟨v, vm₁, ⟨U', l2, c2, s2⟩, hW₁, X', ⟨g', mk, t, L, e1, e2, hq, h1, hL, h2, h3⟩, st⟩ := vx_callSW X hx (hh := hh) (bytes := bytes) (maxL := maxL) (ret := ret) ho hl hstt hini hcode hy hK hg (hsize.trans hml.symm) (argsL := As) (rest := rest) (fun sig h => hn.trans (hlen sig h)) hstack hW (by rw [hb]; exact hdg)
    (fun vm₁ hW₁ => ⟨hf.1, hf.2, hp.2 (T.setVm vm₁) hT hW₁⟩)
  dsimp only [Pt.U, Pt.locs, Pt.cells, Pt.slots] at X' e1 e2 h1 h2 h3 st
  subst h1; subst h2; subst h3
  exact ⟨v, (T.setVm vm₁).calling g' mk As.toArray, t, U', L, hT, X', hL, e1, e2, hq, st⟩
/-- not caught here, past rows that name other classes: it goes on to the caller -/
theorem vx_outP {p : Program} {l : Launch} {e : Env} {R : Room} {s : State} {m : MethodId} {args : Array Value} {below : List Frame} {meth : Method} {c : Code} {H : Heap} {locs : List Loc} {cells slots : Nat} {free : Addr → Prop} {ls : Array Slot} {rest : List Value} {Qc : Array Value → State → Outcome → State → Prop} {XC : String → State → State → Prop}
    {pc : Nat} {own E : String} {ce : Cell} {q : Addr} {mc ms : Nat} (hown : s.vm.findClass own = some m.cls) (hlocks : meth.locks = false)
    (hpass : ∀ z ∈ c.exceptionTable.toList, covers z pc = false ∨ (z.catchType ≠ 0 ∧ ∃ nm : String, (Cond.classLink own z.catchType nm).before args s = true ∧ va_Nc E nm s)) (hcell : H[q]? = some ce) (hv : ce.vm = .none) (hcl : s.vm.findClass E = some ce.cls)
    (hx : ∀ t : State, t.heap = H → s.vm.Alike t.vm → XC E s t) (hf : ∀ z ∈ locs, free z.base) (hc : cells ≤ mc) (hs : slots ≤ ms) :
    vx_W p l e R s m args below meth c H locs cells slots (vx_MQ below Qc XC args s mc ms free) (F0 m pc ls rest) q := by
  intro T hT X
  have hpl : e.platform.magicAccessors = ({} : Platform).magicAccessors := by rw [X.admits.platform]
  obtain ⟨vm', hW', X', st⟩ := X.outThrough hlocks q (g := F0 m pc ls rest) rfl rfl rfl (cell := ce) (by rw [hT]; exact hcell) (by rw [hv]; rfl)
    (by obtain ⟨k9, h9, -⟩ := Vm.findClass_spec hcl; exact ⟨k9, h9⟩) (fun z hz => by
      rcases hpass z hz with h | ⟨hz0, nm, hl1, hn1⟩
      · exact Or.inl h
      · obtain ⟨c6, hc6, hcl6⟩ := Cond.classLink_spec hown hl1 e.platform hpl
        obtain ⟨a8, b8, h1, h2, h3⟩ := hn1
        cases Option.some.inj (h1.symm.trans hcl)
        cases Option.some.inj (h2.symm.trans hc6)
        exact Or.inr ⟨hz0, _, hcl6, h3⟩)
  obtain ⟨g₀, hfr⟩ := X'.frames_eq
  have hcell9 : ((T.setVm vm').setFrames (.throwing q :: below)).heap[q]? = some ce := by
    show T.heap[q]? = some ce
    rw [hT]; exact hcell
  have hend : Ended ((T.setVm vm').setFrames (.throwing q :: below)) below (.threw q) := State.frames_setFrames _ (State.cur_lt_of_frames hfr)
  refine ⟨(T.setVm vm').setFrames (.throwing q :: below), ?_, .threw q, X'.here.running, hend, Or.inr ⟨q, rfl, E, ce, locs, hx _ hT (X'.ends _).1.alike, hcell9, hv, hcl, (X'.ends _).1, (X'.ends _).2.mono hc hs, hf⟩⟩
  rw [X.pushThrowing_eq]
  exact st
/-- a thing of a world lies in the heap -/
theorem vx_lt {D : va_G} {cl : List vw_C} {ws : va_W} {H1 : Heap} (h : va_P D cl ws H1) {k : Nat} {q : Nat × va_E} (hk : ws[k]? = some q) : q.1 < H1.size := (h k q hk).lt
end VXS
/-! ===== END ===== -/
/-! ===== BEGIN methods with a table of their own: called by a name, returning or throwing ===== -/
section VXH
/-! vx_backW, vx_callVX, vx_callSX, vx_callVW, vx_runVW, vx_runVX, vx_runSX, vx_ofWH follow the same proofs as their sisters above (Free/Laws.lean, Shelf42/LK1.lean); vx_outP calls Shelf42/NT130.lean (outThrough). -/
section
variable {l : Launch} {R : Room} {p : Program} {e : Env} {below : List Frame} {s : State} {sargs : Array Value} {y : MethodName} {len W9 : Nat}
theorem vx_backW {ws : List Cond} {rm : Room} {Pc : Array Value → State → Prop} {Qc : Array Value → State → Outcome → State → Prop} {XC : String → State → State → Prop} {mc ms : Nat} {free : Addr → Prop} {bytes : ByteArray} {maxL : Nat} {ret : Option FieldType} {hh : List (Nat × Nat × Nat × Nat)}
    (hM : vx_Met l y ws rm Pc Qc XC mc ms free) (hblind : FrameBlind Pc) (hrc : rm.cells = mc) (hrs : rm.slots = ms)
    (hframes : rm.frames + 1 ≤ R.frames) (hlocals : W9 + (maxL + 11) + rm.locals ≤ R.locals)
    (hws : ∀ w ∈ ws, ∀ a' U, s.WarmedH U.vm → w.before a' U = true) (hcode : Cond.codeWith y bytes maxL ret hh ∈ ws) (hinit : ∀ a' U, s.WarmedH U.vm → (Cond.initialized y.cls).before a' U = true) :
    vx_Back l R p e below s sargs y len W9 (PreOf R mc ms Pc) (PostOf Qc mc ms free) (vx_Post XC mc ms free) := by
  intro m meth c A g ig mk a X hg hsize hdg hW hn hp
  have h1 : (headSpec ws rm).pre.before a A.U = true := atoms_intro fun w hw => hws w hw _ _ X.warmed
  have h2 : (Cond.codeWith y bytes maxL ret hh).before a A.U = true := hws _ hcode _ _ X.warmed
  have h3 : (Cond.initialized y.cls).before a A.U = true := hinit _ _ X.warmed
  have h4 : A.cells + (headSpec ws rm).room.cells ≤ R.cells := by rw [show (headSpec ws rm).room.cells = mc from hrc]; exact hp.1
  have h5 : A.slots + (headSpec ws rm).room.slots ≤ R.slots := by rw [show (headSpec ws rm).room.slots = ms from hrs]; exact hp.2.1
  have hPc : Pc a (A.U.calling g mk a) := hblind _ _ _ _ hp.2.2
  obtain ⟨U, Ls, c0, s0⟩ := A
  dsimp only [Pt.U, Pt.locs, Pt.cells, Pt.slots] at h1 h2 h3 h4 h5 X hn hPc ⊢
  obtain ⟨m9, methY, cY, hn9, hmY, hcY, -, hlY, -⟩ := Cond.codeWith_spec h2
  cases Option.some.inj (hn9.symm.trans hn)
  obtain ⟨kY, hkY, -⟩ := className_of_methodNamed hn
  have hinitY : kY.init = .initialized := Cond.initialized_spec (findClass_of_methodNamed hn) hkY h3
  have h : At U g.method c below := by rw [hg]; exact X.here
  have hlocals9 : W9 + (maxL + 11) + (headSpec ws rm).room.locals ≤ R.locals := hlocals
  have happ : (headSpec ws rm).appliesLoose y e.platform (U.calling g mk a) = true :=
    Spec.appliesLoose_calling (g := g) h hdg hn hkY hinitY
      (X.room_calling (g := g) (R' := (headSpec ws rm).room) hsize hmY hcY hframes (by rw [hlY]; omega) h4 h5) h1
  obtain ⟨mid, hmid⟩ := h.above
  have hfr : (U.setTop g).frames = (.java g :: mid) ++ below := by rw [State.frames_setTop' g h.top, hmid]; rfl
  obtain ⟨o, s₂, hsteps, -, hend, hq⟩ := Steps.callFree hM p X.admits X.cas X.clock (acts := []) hfr happ hPc trivial
  have hq' : vx_Q Qc XC mc ms free a (U.calling g mk a) o s₂ := hq
  rw [State.frames_setTop' g h.top] at hend
  obtain ⟨g₀, hg0⟩ := Option.isSome_iff_exists.mp h.top
  obtain ⟨r, hr⟩ := State.topJava?_eq_some.mp hg0
  have hr' : (({ U with heap := s₂.heap, slotsUsed := s₂.slotsUsed } : State).setVm s₂.vm).frames = .java g₀ :: r := hr
  rcases hq' with ⟨hqc, L, hfe, hL⟩ | ⟨q, rfl, E, ce, L, hx, hce, hcv, hcl, hW₂, hsm, hL⟩
  · obtain ⟨⟨v, rfl⟩, hW₂, e2, q2, q3, q4, q5, q6⟩ := id hfe
    have e3 : s₂ = ({ (U.calling g mk a).setFrames s₂.frames with heap := s₂.heap, slotsUsed := s₂.slotsUsed } : State).setVm s₂.vm := by
      have : s₂ = ({ s₂ with vm := (U.calling g mk a).vm } : State).setVm s₂.vm := rfl
      rw [e2] at this
      exact this
    obtain ⟨c₂, i₂, len₂, hc₂, hd₂, hf₂⟩ := hend
    have hW' : U.WarmedH s₂.vm := hW₂
    have hcc : c₂ = c := by
      have h1 : s₂.code? g.method = U.code? g.method := by
        rw [State.code?_eq, State.code?_eq, hW'.alike.method?]
      exact Option.some.inj (hc₂.symm.trans (h1.trans h.code))
    subst hcc
    have hlen : len₂ = len := by rw [hdg] at hd₂; cases hd₂; rfl
    subst hlen
    have hs₂ : s₂ = (({ U with heap := s₂.heap, slotsUsed := s₂.slotsUsed } : State).setVm s₂.vm).setTop { g with pc := g.pc + len₂, stack := v.toList ++ g.stack } := by
      refine e3.trans ?_
      rw [hf₂, State.calling_eq h.top, State.setFrames_setFrames, State.setTop_of_frames _ hr', hr]
      rfl
    have hsame : U.sameButNew ({ U with heap := s₂.heap, slotsUsed := s₂.slotsUsed } : State) L mc ms := by
      refine ⟨?_, q2, q3, q4, q5, q6⟩
      obtain ⟨t, ht, -⟩ := State.frames_cons hr
      show ({ U with heap := s₂.heap, slotsUsed := s₂.slotsUsed } : State) = { U.setFrames U.frames with heap := s₂.heap, slotsUsed := s₂.slotsUsed }
      rw [State.setFrames_self ht]
    subst hg
    refine Or.inl ⟨v, ⟨(({ U with heap := s₂.heap, slotsUsed := s₂.slotsUsed } : State).setVm s₂.vm), Ls ++ L, c0 + mc, s0 + ms⟩,
      ⟨X.admits, X.cas, X.clock, X.frames, X.room, X.hears, X.method, X.code, (X.here.setHeapUsed s₂.heap s₂.slotsUsed).setVm hW'.alike, X.tail, State.WarmedH.trans X.warmed hW', X.limits, X.bytes, X.same.trans (hsame.setVm s.vm)⟩,
      ⟨g, mk, s₂, L, rfl, rfl, hqc, rfl, hL, rfl, rfl⟩, ?_⟩
    show Steps p.tables e below _ ((({ U with heap := s₂.heap, slotsUsed := s₂.slotsUsed } : State).setVm s₂.vm).setTop { g with pc := g.pc + len₂, stack := v.toList ++ g.stack })
    rw [← hs₂]
    exact hsteps
  · obtain ⟨e2, q2, q3, q4, q5, q6⟩ := id hsm
    have e3 : s₂ = ({ (U.calling g mk a).setFrames s₂.frames with heap := s₂.heap, slotsUsed := s₂.slotsUsed } : State).setVm s₂.vm := by
      have : s₂ = ({ s₂ with vm := (U.calling g mk a).vm } : State).setVm s₂.vm := rfl
      rw [e2] at this
      exact this
    have hf₂ : s₂.frames = .throwing q :: .java g :: U.frames.tail := hend
    have hW' : U.WarmedH s₂.vm := hW₂
    have hs₂ : s₂ = ((({ U with heap := s₂.heap, slotsUsed := s₂.slotsUsed } : State).setVm s₂.vm).setTop g).pushFrame (.throwing q) := by
      refine e3.trans ?_
      rw [hf₂, State.calling_eq h.top, State.setFrames_setFrames, State.pushFrame, State.frames_setTop _ hr', State.setTop_of_frames _ hr', State.setFrames_setFrames, hr]
      rfl
    have hsame : U.sameButNew ({ U with heap := s₂.heap, slotsUsed := s₂.slotsUsed } : State) L mc ms := by
      refine ⟨?_, q2, q3, q4, q5, q6⟩
      obtain ⟨t, ht, -⟩ := State.frames_cons hr
      show ({ U with heap := s₂.heap, slotsUsed := s₂.slotsUsed } : State) = { U.setFrames U.frames with heap := s₂.heap, slotsUsed := s₂.slotsUsed }
      rw [State.setFrames_self ht]
    subst hg
    refine Or.inr ⟨q, ⟨(({ U with heap := s₂.heap, slotsUsed := s₂.slotsUsed } : State).setVm s₂.vm), Ls ++ L, c0 + mc, s0 + ms⟩,
      ⟨X.admits, X.cas, X.clock, X.frames, X.room, X.hears, X.method, X.code, (X.here.setHeapUsed s₂.heap s₂.slotsUsed).setVm hW'.alike, X.tail, State.WarmedH.trans X.warmed hW', X.limits, X.bytes, X.same.trans (hsame.setVm s.vm)⟩,
      ⟨g, mk, s₂, L, E, ce, rfl, rfl, hx, hce, hcv, hcl, rfl, hL, rfl, rfl⟩, ?_⟩
    show Steps p.tables e below _ (((({ U with heap := s₂.heap, slotsUsed := s₂.slotsUsed } : State).setVm s₂.vm).setTop g).pushFrame (.throwing q))
    rw [← hs₂]
    exact hsteps
end
variable {p : Program} {l : Launch} {e : Env} {R : Room} {s : State} {m : MethodId} {args : Array Value} {below : List Frame} {meth : Method} {c : Code} {T : State} {H : Heap} {locs : List Loc} {cells slots : Nat}
theorem vx_callVX (X : Stand p l e R s m args below meth c T locs cells slots) (hexec : p.tables.exec = Jvm.exec) {own C : String} {index : Nat} {y : MethodName} {bytes : ByteArray} {maxL : Nat} {ret : Option FieldType} {hh : List (Nat × Nat × Nat × Nat)}
    (hown : s.vm.findClass own = some m.cls) (hlink : (Cond.methodLink own index y).before args s = true) (hinst : (Cond.instanceMethod y).before args s = true) (hsel : (Cond.selects C y y).before args s = true)
    (hcode : (Cond.codeWith y bytes maxL ret hh).before args s = true) (hy : y.cls ≠ "java/lang/invoke/MethodHandle" ∧ y.cls ≠ "java/lang/invoke/VarHandle")
    {W9 : Nat} {Pre : Pt → Array Value → Prop} {Post : Pt → Array Value → Option Value → Pt → Prop} {PostX : Pt → Array Value → Addr → Pt → Prop} (hK : vx_Back l R p e below s args y 3 W9 Pre Post PostX)
    {b : Addr} {cellB : Cell} (hcell : T.heap[b]? = some cellB) (hobj : cellB.vm.isStatics = false) (hcls : s.vm.findClass C = some cellB.cls)
    {g : JFrame} (hg : g.method = m) (hsize : g.locals.size = c.maxLocals) {argsL rest : List Value} (hlen : ∀ sig, parseMethodDescriptor y.desc = some sig → argsL.length = sig.parameters.length)
    (hstack : g.stack = argsL.reverse ++ .ref b :: rest) (hW : 2 * g.monitorRoom + (rest.map fun v => v.category).sum ≤ W9) (hdg : decode c.code g.pc = .ok (.invokevirtual index, 3))
    (hpre : ∀ vm₁, s.WarmedH vm₁ → Pre ⟨T.setVm vm₁, locs, cells, slots⟩ (Value.ref b :: argsL).toArray) :
    (∃ (v : Option Value) (vm₁ : Vm) (B : Pt), s.WarmedH vm₁ ∧ Stand p l e R s m args below meth c B.U B.locs B.cells B.slots ∧ Post ⟨T.setVm vm₁, locs, cells, slots⟩ (Value.ref b :: argsL).toArray v B ∧
      ∀ target, Steps p.tables e below (B.U.setTop { g with pc := g.pc + 3, stack := v.toList ++ rest }) target → Steps p.tables e below (T.setTop g) target) ∨
    (∃ (q : Addr) (vm₁ : Vm) (B : Pt), s.WarmedH vm₁ ∧ Stand p l e R s m args below meth c B.U B.locs B.cells B.slots ∧ PostX ⟨T.setVm vm₁, locs, cells, slots⟩ (Value.ref b :: argsL).toArray q B ∧
      Steps p.tables e below (T.setTop g) ((B.U.setTop { g with stack := rest }).pushFrame (.throwing q))) := by
  obtain ⟨mk, methM, hnamed, hmethM, hstM, habM⟩ := Cond.instanceMethod_spec hinst
  obtain ⟨m8, methM', cM, hn8, hmethM', -, -, -, -, -, -, hsigM⟩ := Cond.codeWith_spec hcode
  cases Option.some.inj (hn8.symm.trans hnamed)
  cases hmethM.symm.trans hmethM'
  obtain ⟨c2, r2, m2, q1, q2, q3, q4, kP, hkP, hkPi⟩ := Cond.selects_spec hsel
  cases hcls.symm.trans q1
  cases (State.methodFound?_of_named hnamed hy).symm.trans q2
  cases hnamed.symm.trans q3
  have hselP : selectMethod e.platform s.vm cellB.cls mk = .method mk := by rw [Launch.admits_selectMethod X.admits]; exact q4
  obtain ⟨vm₁, X₁, hstep₁⟩ := X.invokevirtual hexec hown hlink hnamed hmethM hstM hkP hkPi hy (a := b) (cell := cellB) hcell
    (fun z h => by rw [h] at hobj; cases hobj) hselP hmethM habM hkP hkPi (g := g) hg (argsL := argsL) (rest := rest) (hlen _ hsigM) hstack hdg
  rcases hK m meth c ⟨T.setVm vm₁, locs, cells, slots⟩ { g with stack := rest } (.invokevirtual index) mk (Value.ref b :: argsL).toArray X₁ hg hsize hdg hW (X₁.named hnamed) (hpre vm₁ X₁.warmed) with ⟨v, B, X', hpost, hsteps⟩ | ⟨q, B, X', hpost, hsteps⟩
  · exact Or.inl ⟨v, vm₁, B, X₁.warmed, X', hpost, fun target h => hstep₁ _ fun acts => by rw [doInvoke_state]; exact hsteps.trans h⟩
  · exact Or.inr ⟨q, vm₁, B, X₁.warmed, X', hpost, hstep₁ _ fun acts => by rw [doInvoke_state]; exact hsteps⟩
theorem vx_callSX (X : Stand p l e R s m args below meth c T locs cells slots) (hexec : p.tables.exec = Jvm.exec) {own : String} {index : Nat} {y : MethodName} {bytes : ByteArray} {maxL : Nat} {ret : Option FieldType} {hh : List (Nat × Nat × Nat × Nat)}
    (hown : s.vm.findClass own = some m.cls) (hlink : (Cond.methodLink own index y).before args s = true) (hstat : (Cond.static y).before args s = true) (hinit : (Cond.initialized y.cls).before args s = true)
    (hcode : (Cond.codeWith y bytes maxL ret hh).before args s = true) (hy : y.cls ≠ "java/lang/invoke/MethodHandle" ∧ y.cls ≠ "java/lang/invoke/VarHandle")
    {W9 : Nat} {Pre : Pt → Array Value → Prop} {Post : Pt → Array Value → Option Value → Pt → Prop} {PostX : Pt → Array Value → Addr → Pt → Prop} (hK : vx_Back l R p e below s args y 3 W9 Pre Post PostX)
    {g : JFrame} (hg : g.method = m) (hsize : g.locals.size = c.maxLocals) {argsL rest : List Value} (hlen : ∀ sig, parseMethodDescriptor y.desc = some sig → argsL.length = sig.parameters.length)
    (hstack : g.stack = argsL.reverse ++ rest) (hW : 2 * g.monitorRoom + (rest.map fun v => v.category).sum ≤ W9) (hdg : decode c.code g.pc = .ok (.invokestatic index, 3))
    (hpre : ∀ vm₁, s.WarmedH vm₁ → Pre ⟨T.setVm vm₁, locs, cells, slots⟩ argsL.toArray) :
    (∃ (v : Option Value) (vm₁ : Vm) (B : Pt), s.WarmedH vm₁ ∧ Stand p l e R s m args below meth c B.U B.locs B.cells B.slots ∧ Post ⟨T.setVm vm₁, locs, cells, slots⟩ argsL.toArray v B ∧
      ∀ target, Steps p.tables e below (B.U.setTop { g with pc := g.pc + 3, stack := v.toList ++ rest }) target → Steps p.tables e below (T.setTop g) target) ∨
    (∃ (q : Addr) (vm₁ : Vm) (B : Pt), s.WarmedH vm₁ ∧ Stand p l e R s m args below meth c B.U B.locs B.cells B.slots ∧ PostX ⟨T.setVm vm₁, locs, cells, slots⟩ argsL.toArray q B ∧
      Steps p.tables e below (T.setTop g) ((B.U.setTop { g with stack := rest }).pushFrame (.throwing q))) := by
  obtain ⟨mk, methM, cM, hnamed, hmethM, -, -, -, -, -, -, hsigM⟩ := Cond.codeWith_spec hcode
  have hstatic : methM.isStatic = true := Cond.static_spec hnamed hmethM hstat
  obtain ⟨kP, hkP, -⟩ := className_of_methodNamed hnamed
  have hinitP : kP.init = .initialized := Cond.initialized_spec (findClass_of_methodNamed hnamed) hkP hinit
  obtain ⟨vm₁, X₁, hstep₁⟩ := X.invokestatic hexec hown hlink hnamed hmethM hstatic hkP hinitP hy (g := g) hg (argsL := argsL) (rest := rest) (hlen _ hsigM) hstack hdg
  rcases hK m meth c ⟨T.setVm vm₁, locs, cells, slots⟩ { g with stack := rest } (.invokestatic index) mk argsL.toArray X₁ hg hsize hdg hW (X₁.named hnamed) (hpre vm₁ X₁.warmed) with ⟨v, B, X', hpost, hsteps⟩ | ⟨q, B, X', hpost, hsteps⟩
  · exact Or.inl ⟨v, vm₁, B, X₁.warmed, X', hpost, fun target h => hstep₁ _ fun acts => by rw [doInvoke_state]; exact hsteps.trans h⟩
  · exact Or.inr ⟨q, vm₁, B, X₁.warmed, X', hpost, hstep₁ _ fun acts => by rw [doInvoke_state]; exact hsteps⟩
theorem vx_callVW (X : Stand p l e R s m args below meth c T locs cells slots) (hexec : p.tables.exec = Jvm.exec) {own C : String} {index : Nat} {y : MethodName} {bytes : ByteArray} {maxL : Nat} {ret : Option FieldType} {hh : List (Nat × Nat × Nat × Nat)}
    (hown : s.vm.findClass own = some m.cls) (hlink : (Cond.methodLink own index y).before args s = true) (hinst : (Cond.instanceMethod y).before args s = true) (hsel : (Cond.selects C y y).before args s = true)
    (hcode : (Cond.codeWith y bytes maxL ret hh).before args s = true) (hy : y.cls ≠ "java/lang/invoke/MethodHandle" ∧ y.cls ≠ "java/lang/invoke/VarHandle")
    {W9 : Nat} {Pre : Pt → Array Value → Prop} {Post : Pt → Array Value → Option Value → Pt → Prop} (hK : Back l R p e below s args y 3 W9 Pre Post)
    {b : Addr} {cellB : Cell} (hcell : T.heap[b]? = some cellB) (hobj : cellB.vm.isStatics = false) (hcls : s.vm.findClass C = some cellB.cls)
    {g : JFrame} (hg : g.method = m) (hsize : g.locals.size = c.maxLocals) {argsL rest : List Value} (hlen : ∀ sig, parseMethodDescriptor y.desc = some sig → argsL.length = sig.parameters.length)
    (hstack : g.stack = argsL.reverse ++ .ref b :: rest) (hW : 2 * g.monitorRoom + (rest.map fun v => v.category).sum ≤ W9) (hdg : decode c.code g.pc = .ok (.invokevirtual index, 3))
    (hpre : ∀ vm₁, s.WarmedH vm₁ → Pre ⟨T.setVm vm₁, locs, cells, slots⟩ (Value.ref b :: argsL).toArray) :
    ∃ (v : Option Value) (vm₁ : Vm) (B : Pt), s.WarmedH vm₁ ∧ Stand p l e R s m args below meth c B.U B.locs B.cells B.slots ∧ Post ⟨T.setVm vm₁, locs, cells, slots⟩ (Value.ref b :: argsL).toArray v B ∧
      ∀ target, Steps p.tables e below (B.U.setTop { g with pc := g.pc + 3, stack := v.toList ++ rest }) target → Steps p.tables e below (T.setTop g) target := by
  obtain ⟨mk, methM, hnamed, hmethM, hstM, habM⟩ := Cond.instanceMethod_spec hinst
  obtain ⟨m8, methM', cM, hn8, hmethM', -, -, -, -, -, -, hsigM⟩ := Cond.codeWith_spec hcode
  cases Option.some.inj (hn8.symm.trans hnamed)
  cases hmethM.symm.trans hmethM'
  obtain ⟨c2, r2, m2, q1, q2, q3, q4, kP, hkP, hkPi⟩ := Cond.selects_spec hsel
  cases hcls.symm.trans q1
  cases (State.methodFound?_of_named hnamed hy).symm.trans q2
  cases hnamed.symm.trans q3
  have hselP : selectMethod e.platform s.vm cellB.cls mk = .method mk := by rw [Launch.admits_selectMethod X.admits]; exact q4
  obtain ⟨vm₁, X₁, hstep₁⟩ := X.invokevirtual hexec hown hlink hnamed hmethM hstM hkP hkPi hy (a := b) (cell := cellB) hcell
    (fun z h => by rw [h] at hobj; cases hobj) hselP hmethM habM hkP hkPi (g := g) hg (argsL := argsL) (rest := rest) (hlen _ hsigM) hstack hdg
  obtain ⟨v, B, X', hpost, hsteps⟩ := hK m meth c ⟨T.setVm vm₁, locs, cells, slots⟩ { g with stack := rest } (.invokevirtual index) mk (Value.ref b :: argsL).toArray X₁ hg hsize hdg hW (X₁.named hnamed) (hpre vm₁ X₁.warmed)
  exact ⟨v, vm₁, B, X₁.warmed, X', hpost, fun target h => hstep₁ _ fun acts => by rw [doInvoke_state]; exact hsteps.trans h⟩
abbrev vx_CVW (R : Room) (s : State) (args : Array Value) (own C : String) (index : Nat) (y : MethodName) (bytes : ByteArray) (maxL : Nat) (ret : Option FieldType) (hh : List (Nat × Nat × Nat × Nat)) (ws : List Cond) (rm : Room) (mc ms n : Nat) : Prop :=
  (rm.cells = mc ∧ rm.slots = ms ∧ rm.frames + 1 ≤ R.frames ∧ 8 + (maxL + 11) + rm.locals ≤ R.locals ∧ (∀ w ∈ ws, ∀ (a' : Array Value) (U : State), s.WarmedH U.vm → w.before a' U = true) ∧ Cond.codeWith y bytes maxL ret hh ∈ ws) ∧
  (Cond.codeWith y bytes maxL ret hh).before args s = true ∧ (Cond.initialized y.cls).before args s = true ∧ (y.cls ≠ "java/lang/invoke/MethodHandle" ∧ y.cls ≠ "java/lang/invoke/VarHandle") ∧
  (∀ sig, parseMethodDescriptor y.desc = some sig → n = sig.parameters.length) ∧ (Cond.methodLink own index y).before args s = true ∧ (Cond.instanceMethod y).before args s = true ∧ (Cond.selects C y y).before args s = true
theorem vx_cwVW {own C : String} {index maxL mc ms : Nat} {y : MethodName} {bytes : ByteArray} {ret : Option FieldType} {hh : List (Nat × Nat × Nat × Nat)} {Ts ws ws' : List Cond} {rm : Room} (n : Nat) (ht : ∀ w ∈ Ts, w.before args s = true) (hT : GoodIn Ts (wsV own index C y ws)) (hw : ws = Cond.codeWith y bytes maxL ret hh :: ws') (hrc : rm.cells = mc) (hrs : rm.slots = ms)
    (hd : y.cls = C ∧ y.cls ≠ "java/lang/invoke/MethodHandle" ∧ y.cls ≠ "java/lang/invoke/VarHandle" ∧ (parseMethodDescriptor y.desc).map (fun d => d.parameters.length) = some n) (hR : rm.frames + 1 ≤ R.frames ∧ 8 + (maxL + 11) + rm.locals ≤ R.locals) :
    vx_CVW R s args own C index y bytes maxL ret hh ws rm mc ms n := by
  obtain ⟨hC, hd⟩ := hd
  subst hC
  have ok : ∀ w ∈ wsV own index y.cls y ws, w.before args s = true := fun w h => ht w (hT w h).1
  have hG : GoodIn Ts ws := fun w h => hT w (by unfold wsV; exact List.mem_append_right _ h)
  have hc : Cond.codeWith y bytes maxL ret hh ∈ ws := by rw [hw]; exact List.mem_cons_self
  refine ⟨⟨hrc, hrs, hR.1, hR.2, pay_in ht hG, hc⟩, ht _ (hG _ hc).1, ok _ (by simp [wsV]), ⟨hd.1, hd.2.1⟩, fun sig h => ?_, ok _ (by simp [wsV]), ok _ (by simp [wsV]), ok _ (by simp [wsV])⟩
  have h2 := hd.2.2
  rw [h] at h2
  exact (Option.some.inj h2).symm
theorem vx_runVW {y : MethodName} {bytes cc : ByteArray} {maxL nL mc ms n index : Nat} {ret : Option FieldType} {hh : List (Nat × Nat × Nat × Nat)} {ws : List Cond} {rm : Room} {Pc : Array Value → State → Prop} {Qc : Array Value → State → Outcome → State → Prop} {free : Addr → Prop} {Ts : List Cond} {own C : String} {b : Addr} {As rest : List Value} {g : JFrame}
    (S : CallFix p m c cc nL s args Ts own) (hM : Met l y ws rm Pc Qc mc ms free) (cw : vx_CVW R s args own C index y bytes maxL ret hh ws rm mc ms n) (hp : PreV s H C b Pc As)
    (hg : g.method = m) (hn : As.length = n) (hsize : g.locals.size = nL) (hstack : g.stack = As.reverse ++ .ref b :: rest) (hW : 2 * g.monitorRoom + (rest.map fun v => v.category).sum ≤ 8) (hdg : decode cc g.pc = .ok (.invokevirtual index, 3)) (hf : cells + mc ≤ R.cells ∧ slots + ms ≤ R.slots) :
    va_Run p l e R s m args below meth c H locs cells slots mc ms g rest (Qc (Value.ref b :: As).toArray) free := by
  obtain ⟨⟨hrc, hrs, hfr, hlo, hws, hcw⟩, hcode, hini, hy, hlen, hl, hin, hse⟩ := cw
  have hK : Back l R p e below s args y 3 8 (PreOf R mc ms Pc) (PostOf Qc mc ms free) := va_backW (hh := hh) (bytes := bytes) (maxL := maxL) (ret := ret) hM hp.1 hrc hrs hfr hlo hws hcw (fun a' U hW => word_at hW (Or.inl (by first | rfl | simp [Cond.onTables, Cond.keeps, Cond.steady])) hini)
  obtain ⟨hx, hb, hml, ho, -⟩ := S
  obtain ⟨-, ⟨cellB, hcB, hoB, hclB⟩, hPc⟩ := hp
  intro T hT X
  obtain ⟨v, vm₁, ⟨U', l2, c2, s2⟩, hW₁, X', ⟨g', mk, t, L, e1, e2, hq, h1, hL, h2, h3⟩, st⟩ := vx_callVW X hx (C := C) (hh := hh) (bytes := bytes) (maxL := maxL) (ret := ret) ho hl hin hse hcode hy hK (by rw [hT]; exact hcB) hoB hclB hg (hsize.trans hml.symm) (argsL := As) (rest := rest) (fun sig h => hn.trans (hlen sig h)) hstack hW (by rw [hb]; exact hdg)
    (fun vm₁ hW₁ => ⟨hf.1, hf.2, hPc (T.setVm vm₁) hT hW₁⟩)
  dsimp only [Pt.U, Pt.locs, Pt.cells, Pt.slots] at X' e1 e2 h1 h2 h3 st
  subst h1; subst h2; subst h3
  exact ⟨v, (T.setVm vm₁).calling g' mk (Value.ref b :: As).toArray, t, U', L, hT, X', hL, e1, e2, hq, st⟩
section
variable {y : MethodName} {bytes cc : ByteArray} {maxL nL mc ms n index : Nat} {ret : Option FieldType} {ws : List Cond} {rm : Room} {Pc : Array Value → State → Prop} {Qc : Array Value → State → Outcome → State → Prop} {XC : String → State → State → Prop} {free : Addr → Prop} {Ts : List Cond} {own C : String} {b : Addr} {As rest : List Value} {g : JFrame}
theorem vx_runVX {hh : List (Nat × Nat × Nat × Nat)} (S : CallFix p m c cc nL s args Ts own) (hM : vx_Met l y ws rm Pc Qc XC mc ms free) (cw : vx_CVW R s args own C index y bytes maxL ret hh ws rm mc ms n) (hp : PreV s H C b Pc As)
    (hg : g.method = m) (hn : As.length = n) (hsize : g.locals.size = nL) (hstack : g.stack = As.reverse ++ .ref b :: rest) (hW : 2 * g.monitorRoom + (rest.map fun v => v.category).sum ≤ 8) (hdg : decode cc g.pc = .ok (.invokevirtual index, 3)) (hf : cells + mc ≤ R.cells ∧ slots + ms ≤ R.slots) :
    vx_Run p l e R s m args below meth c H locs cells slots mc ms g rest (Qc (Value.ref b :: As).toArray) XC free := by
  obtain ⟨⟨hrc, hrs, hfr, hlo, hws, hcw⟩, hcode, hini, hy, hlen, hl, hin, hse⟩ := cw
  have hK : vx_Back l R p e below s args y 3 8 (PreOf R mc ms Pc) (PostOf Qc mc ms free) (vx_Post XC mc ms free) := vx_backW (hh := hh) (bytes := bytes) (maxL := maxL) (ret := ret) hM hp.1 hrc hrs hfr hlo hws hcw (fun a' U hW => word_at hW (Or.inl (by first | rfl | simp [Cond.onTables, Cond.keeps, Cond.steady])) hini)
  obtain ⟨hx, hb, hml, ho, -⟩ := S
  obtain ⟨-, ⟨cellB, hcB, hoB, hclB⟩, hPc⟩ := hp
  intro T hT X
  rcases vx_callVX X hx (C := C) (hh := hh) (bytes := bytes) (maxL := maxL) (ret := ret) ho hl hin hse hcode hy hK (by rw [hT]; exact hcB) hoB hclB hg (hsize.trans hml.symm) (argsL := As) (rest := rest) (fun sig h => hn.trans (hlen sig h)) hstack hW (by rw [hb]; exact hdg)
    (fun vm₁ hW₁ => ⟨hf.1, hf.2, hPc (T.setVm vm₁) hT hW₁⟩) with ⟨v, vm₁, ⟨U', l2, c2, s2⟩, hW₁, X', ⟨g', mk, t, L, e1, e2, hq, h1, hL, h2, h3⟩, st⟩ | ⟨q, vm₁, ⟨U', l2, c2, s2⟩, hW₁, X', ⟨g', mk, t, L, E, ce, e1, e2, hq, hce, hcv, hcl, h1, hL, h2, h3⟩, st⟩
  · dsimp only [Pt.U, Pt.locs, Pt.cells, Pt.slots] at X' e1 e2 h1 h2 h3 st
    subst h1; subst h2; subst h3
    exact Or.inl ⟨v, (T.setVm vm₁).calling g' mk (Value.ref b :: As).toArray, t, U', L, hT, X', hL, e1, e2, hq, st⟩
  · dsimp only [Pt.U, Pt.locs, Pt.cells, Pt.slots] at X' e1 e2 h1 h2 h3 st hcl
    subst h1; subst h2; subst h3
    exact Or.inr ⟨q, (T.setVm vm₁).calling g' mk (Value.ref b :: As).toArray, t, U', L, E, ce, hT, X', hL, e1, e2, hq, hce, hcv, vx_cls hW₁ hcl, st⟩
theorem vx_runSX {hh : List (Nat × Nat × Nat × Nat)} (S : CallFix p m c cc nL s args Ts own) (hM : vx_Met l y ws rm Pc Qc XC mc ms free) (cw : vx_CSW R s args own index y bytes maxL ret hh ws rm mc ms n) (hp : PreS s H Pc As)
    (hg : g.method = m) (hn : As.length = n) (hsize : g.locals.size = nL) (hstack : g.stack = As.reverse ++ rest) (hW : 2 * g.monitorRoom + (rest.map fun v => v.category).sum ≤ 8) (hdg : decode cc g.pc = .ok (.invokestatic index, 3)) (hf : cells + mc ≤ R.cells ∧ slots + ms ≤ R.slots) :
    vx_Run p l e R s m args below meth c H locs cells slots mc ms g rest (Qc As.toArray) XC free := by
  obtain ⟨⟨hrc, hrs, hfr, hlo, hws, hcw⟩, hcode, hini, hy, hlen, hl, hstt⟩ := cw
  have hK : vx_Back l R p e below s args y 3 8 (PreOf R mc ms Pc) (PostOf Qc mc ms free) (vx_Post XC mc ms free) := vx_backW (hh := hh) (bytes := bytes) (maxL := maxL) (ret := ret) hM hp.1 hrc hrs hfr hlo hws hcw (fun a' U hW => word_at hW (Or.inl (by first | rfl | simp [Cond.onTables, Cond.keeps, Cond.steady])) hini)
  obtain ⟨hx, hb, hml, ho, -⟩ := S
  intro T hT X
  rcases vx_callSX X hx (hh := hh) (bytes := bytes) (maxL := maxL) (ret := ret) ho hl hstt hini hcode hy hK hg (hsize.trans hml.symm) (argsL := As) (rest := rest) (fun sig h => hn.trans (hlen sig h)) hstack hW (by rw [hb]; exact hdg)
    (fun vm₁ hW₁ => ⟨hf.1, hf.2, hp.2 (T.setVm vm₁) hT hW₁⟩) with ⟨v, vm₁, ⟨U', l2, c2, s2⟩, hW₁, X', ⟨g', mk, t, L, e1, e2, hq, h1, hL, h2, h3⟩, st⟩ | ⟨q, vm₁, ⟨U', l2, c2, s2⟩, hW₁, X', ⟨g', mk, t, L, E, ce, e1, e2, hq, hce, hcv, hcl, h1, hL, h2, h3⟩, st⟩
  · dsimp only [Pt.U, Pt.locs, Pt.cells, Pt.slots] at X' e1 e2 h1 h2 h3 st
    subst h1; subst h2; subst h3
    exact Or.inl ⟨v, (T.setVm vm₁).calling g' mk As.toArray, t, U', L, hT, X', hL, e1, e2, hq, st⟩
  · dsimp only [Pt.U, Pt.locs, Pt.cells, Pt.slots] at X' e1 e2 h1 h2 h3 st hcl
    subst h1; subst h2; subst h3
    exact Or.inr ⟨q, (T.setVm vm₁).calling g' mk As.toArray, t, U', L, E, ce, hT, X', hL, e1, e2, hq, hce, hcv, vx_cls hW₁ hcl, st⟩
end
end VXH
theorem vx_ofWH {l : Launch} {y : MethodName} {ws ws' : List Cond} {rm : Room} {Pc : Array Value → State → Prop} {Qc : Array Value → State → Outcome → State → Prop} {XC : String → State → State → Prop} {mc ms : Nat} {free : Addr → Prop} {cc : ByteArray} {maxL : Nat} {ret : Option FieldType} {hh : List (Nat × Nat × Nat × Nat)}
    (hy : plainName y.cls = true) (hw : ws = Cond.codeWith y cc maxL ret hh :: ws')
    (body : ∀ p e s m args below meth c s₁, BodyLoose p l y (headSpec ws rm) cc maxL ret e s m args below meth c s₁ → c.maxLocals = maxL → Pc args s →
      W p l e (headSpec ws rm).room s m args below meth c s.heap [] 0 0 (vx_MQ below Qc XC args s mc ms free) (entryFrame m args maxL)) : vx_Met l y ws rm Pc Qc XC mc ms free := by
  refine MetFree.of_bodyS (code := cc) (maxLocals := maxL) (ret := ret) hy ?_ ?_
  · intro args s m h hn
    obtain ⟨m9, meth, c, hn9, h1, h2, h3, h4, -, h5, h6, -⟩ := Cond.codeWith_spec (atoms_spec (ws := ws) h _ (by rw [hw]; exact List.mem_cons_self))
    cases hn.symm.trans hn9
    exact ⟨meth, c, h1, h2, h3, h4, h5, h6⟩
  · intro p e s m args below meth c s₁ B hml hP _
    have hh0 : s₁.heap = s.heap := by rw [B.state]; rfl
    obtain ⟨t, a1, o, b1, b2, b3⟩ := body p e s m args below meth c s₁ B hml hP s₁ hh0 (Stand.of_body B)
    exact ⟨t, o, a1, b1, b2, b3⟩
/-! ===== END ===== -/
end
section
abbrev R_T : String := "PortDrawer$Tape"
def F_T : u_T := fun k => match k with
  | _ => ("PortDrawer$Tape", "x", "J", false)
def ft_T : Nat → FieldType := fun k => match k with
  | _ => .long
theorem nok_T : ∀ a, a < 1 → ∀ b, b < 1 → a ≠ b → (F_T a).2.1 ≠ (F_T b).2.1 := by decide +kernel
theorem tok_T : ∀ k, k < 1 → parseFieldDescriptor (F_T k).2.2.1 = some (ft_T k) := by decide +kernel
abbrev R_H : String := "PortDrawer$Harbour"
def F_H : u_T := fun k => match k with
  | 0 => ("PortDrawer$Harbour", "tape", "LPortDrawer$Tape;", true)
  | 1 => ("PortDrawer$Harbour", "kinds", "[I", true)
  | 2 => ("PortDrawer$Harbour", "values", "[I", true)
  | 3 => ("PortDrawer$Harbour", "references", "[I", true)
  | _ => ("PortDrawer$Harbour", "parts", "I", false)
def ft_H : Nat → FieldType := fun k => match k with
  | 0 => .object "PortDrawer$Tape"
  | 1 => .array .int
  | 2 => .array .int
  | 3 => .array .int
  | _ => .int
theorem nok_H : ∀ a, a < 5 → ∀ b, b < 5 → a ≠ b → (F_H a).2.1 ≠ (F_H b).2.1 := by decide +kernel
theorem tok_H : ∀ k, k < 5 → parseFieldDescriptor (F_H k).2.2.1 = some (ft_H k) := by decide +kernel
abbrev R_D : String := "PortDrawer"
def F_D : u_T := fun k => match k with
  | 0 => ("PortDrawer", "seed", "J", true)
  | 1 => ("PortDrawer", "harbour", "LPortDrawer$Harbour;", true)
  | 2 => ("PortDrawer", "otherHarbour", "LPortDrawer$Harbour;", true)
  | 3 => ("PortDrawer", "goingWith", "[J", true)
  | 4 => ("PortDrawer", "partsOfBit", "[J", true)
  | 5 => ("PortDrawer", "staying", "[Z", true)
  | _ => ("PortDrawer", "leftParts", "J", false)
def ft_D : Nat → FieldType := fun k => match k with
  | 0 => .long
  | 1 => .object "PortDrawer$Harbour"
  | 2 => .object "PortDrawer$Harbour"
  | 3 => .array .long
  | 4 => .array .long
  | 5 => .array .boolean
  | _ => .long
theorem nok_D : ∀ a, a < 7 → ∀ b, b < 7 → a ≠ b → (F_D a).2.1 ≠ (F_D b).2.1 := by decide +kernel
theorem tok_D : ∀ k, k < 7 → parseFieldDescriptor (F_D k).2.2.1 = some (ft_D k) := by decide +kernel
abbrev R_M : String := "PortDrawerModel"
def F_M : u_T := fun k => match k with
  | 0 => ("PortDrawerModel", "thrown", "I", false)
  | 1 => ("PortDrawerModel", "seed", "J", true)
  | 2 => ("PortDrawerModel", "tape", "J", false)
  | 3 => ("PortDrawerModel", "parts", "I", false)
  | 4 => ("PortDrawerModel", "kind", "[I", true)
  | 5 => ("PortDrawerModel", "value", "[I", true)
  | 6 => ("PortDrawerModel", "refers", "[I", true)
  | 7 => ("PortDrawerModel", "isLeft", "[Z", true)
  | 8 => ("PortDrawerModel", "stays", "[Z", true)
  | _ => ("PortDrawerModel", "goes", "[Z", true)
def ft_M : Nat → FieldType := fun k => match k with
  | 0 => .int
  | 1 => .long
  | 2 => .long
  | 3 => .int
  | 4 => .array .int
  | 5 => .array .int
  | 6 => .array .int
  | 7 => .array .boolean
  | 8 => .array .boolean
  | _ => .array .boolean
theorem nok_M : ∀ a, a < 10 → ∀ b, b < 10 → a ≠ b → (F_M a).2.1 ≠ (F_M b).2.1 := by decide +kernel
theorem tok_M : ∀ k, k < 10 → parseFieldDescriptor (F_M k).2.2.1 = some (ft_M k) := by decide +kernel
abbrev R_J : String := "java/lang/Long"
abbrev R_L : String := "PortDrawerLaw"
abbrev classes : List vw_C := [(R_T, F_T, 1), (R_H, F_H, 5), (R_D, F_D, 7), (R_M, F_M, 10)]
def tblG : List Cond := lw_tbl.filter goodWord
theorem tblG_in {w : Cond} (h : w ∈ tblG) : w ∈ lw_tbl := (List.mem_filter.mp h).1
theorem tblG_ok {w : Cond} (h : w ∈ tblG) : goodWord w = true := (List.mem_filter.mp h).2
theorem m_t {w : Cond} {i : Nat} (h : tables_1[i]? = some w) (hg : goodWord w = true) : w ∈ tblG := List.mem_filter.mpr ⟨List.mem_append_right _ (List.mem_of_getElem? h), hg⟩
theorem m_s {w : Cond} {i : Nat} (h : (k2_sels lw_privs)[i]? = some w) (hg : goodWord w = true) : w ∈ tblG := List.mem_filter.mpr ⟨List.mem_append_left _ (List.mem_of_getElem? h), hg⟩
theorem lay0_T : ∀ w ∈ u_ws R_T F_T 1, w ∈ tblG := List.forall_mem_cons.mpr ⟨m_t (i := 32) rfl rfl, fun _ h => absurd h List.not_mem_nil⟩
theorem lay_T (c : Cond) : ∀ w ∈ u_ws R_T F_T 1, w ∈ c :: tblG := fun w h => List.mem_cons_of_mem _ (lay0_T w h)
theorem lay0_H : ∀ w ∈ u_ws R_H F_H 5, w ∈ tblG := List.forall_mem_cons.mpr ⟨m_t (i := 44) rfl rfl, List.forall_mem_cons.mpr ⟨m_t (i := 46) rfl rfl, List.forall_mem_cons.mpr ⟨m_t (i := 48) rfl rfl, List.forall_mem_cons.mpr ⟨m_t (i := 50) rfl rfl, List.forall_mem_cons.mpr ⟨m_t (i := 52) rfl rfl, fun _ h => absurd h List.not_mem_nil⟩⟩⟩⟩⟩
theorem lay_H (c : Cond) : ∀ w ∈ u_ws R_H F_H 5, w ∈ c :: tblG := fun w h => List.mem_cons_of_mem _ (lay0_H w h)
theorem lay0_D : ∀ w ∈ u_ws R_D F_D 7, w ∈ tblG := List.forall_mem_cons.mpr ⟨m_t (i := 63) rfl rfl, List.forall_mem_cons.mpr ⟨m_t (i := 65) rfl rfl, List.forall_mem_cons.mpr ⟨m_t (i := 67) rfl rfl, List.forall_mem_cons.mpr ⟨m_t (i := 69) rfl rfl, List.forall_mem_cons.mpr ⟨m_t (i := 71) rfl rfl, List.forall_mem_cons.mpr ⟨m_t (i := 73) rfl rfl, List.forall_mem_cons.mpr ⟨m_t (i := 75) rfl rfl, fun _ h => absurd h List.not_mem_nil⟩⟩⟩⟩⟩⟩⟩
theorem lay_D (c : Cond) : ∀ w ∈ u_ws R_D F_D 7, w ∈ c :: tblG := fun w h => List.mem_cons_of_mem _ (lay0_D w h)
theorem lay0_M : ∀ w ∈ u_ws R_M F_M 10, w ∈ tblG := List.forall_mem_cons.mpr ⟨m_t (i := 346) rfl rfl, List.forall_mem_cons.mpr ⟨m_t (i := 348) rfl rfl, List.forall_mem_cons.mpr ⟨m_t (i := 350) rfl rfl, List.forall_mem_cons.mpr ⟨m_t (i := 352) rfl rfl, List.forall_mem_cons.mpr ⟨m_t (i := 354) rfl rfl, List.forall_mem_cons.mpr ⟨m_t (i := 356) rfl rfl, List.forall_mem_cons.mpr ⟨m_t (i := 358) rfl rfl, List.forall_mem_cons.mpr ⟨m_t (i := 360) rfl rfl, List.forall_mem_cons.mpr ⟨m_t (i := 362) rfl rfl, List.forall_mem_cons.mpr ⟨m_t (i := 364) rfl rfl, fun _ h => absurd h List.not_mem_nil⟩⟩⟩⟩⟩⟩⟩⟩⟩⟩
theorem lay_M (c : Cond) : ∀ w ∈ u_ws R_M F_M 10, w ∈ c :: tblG := fun w h => List.mem_cons_of_mem _ (lay0_M w h)
def NWl : List Cond := [(Jvm.Cond.methodLinkNest "PortDrawer" (9 : Nat) ({ cls := "PortDrawer$Harbour", name := "<init>", desc := "()V" } : Jvm.MethodName) "PortDrawer"), (Jvm.Cond.methodLinkNest "PortDrawer$Harbour" (11 : Nat) ({ cls := "PortDrawer$Tape", name := "<init>", desc := "()V" } : Jvm.MethodName) "PortDrawer"), (Jvm.Cond.fieldLinkNest "PortDrawer" (74 : Nat) "PortDrawer$Harbour" "kinds" "[I" "PortDrawer"), (Jvm.Cond.fieldLinkNest "PortDrawer" (82 : Nat) "PortDrawer$Harbour" "values" "[I" "PortDrawer"), (Jvm.Cond.fieldLinkNest "PortDrawer" (85 : Nat) "PortDrawer$Harbour" "references" "[I" "PortDrawer"), (Jvm.Cond.fieldLinkNest "PortDrawer" (62 : Nat) "PortDrawer$Harbour" "parts" "I" "PortDrawer"), (Jvm.Cond.methodLinkNest "PortDrawer" (78 : Nat) ({ cls := "PortDrawer$Harbour", name := "ofKindAheadOf", desc := "(II)I" } : Jvm.MethodName) "PortDrawer"), (Jvm.Cond.castable "java/lang/IllegalArgumentException" "java/lang/IllegalArgumentException"), (Jvm.Cond.declares ({ cls := "java/lang/RuntimeException", name := "<init>", desc := "()V" } : Jvm.MethodName)), (Jvm.Cond.declares ({ cls := "java/lang/RuntimeException", name := "<init>", desc := "(Ljava/lang/String;)V" } : Jvm.MethodName)), (Jvm.Cond.declares ({ cls := "java/lang/Exception", name := "<init>", desc := "()V" } : Jvm.MethodName)), (Jvm.Cond.declares ({ cls := "java/lang/Exception", name := "<init>", desc := "(Ljava/lang/String;)V" } : Jvm.MethodName)), (Jvm.Cond.declares ({ cls := "java/lang/Throwable", name := "<init>", desc := "()V" } : Jvm.MethodName)), (Jvm.Cond.declares ({ cls := "java/lang/Throwable", name := "<init>", desc := "(Ljava/lang/String;)V" } : Jvm.MethodName)), (Jvm.Cond.methodLinkNest "PortDrawer" (48 : Nat) ({ cls := "PortDrawer$Harbour", name := "fill", desc := "(JI)V" } : Jvm.MethodName) "PortDrawer"), (Jvm.Cond.methodLinkNest "PortDrawer$Harbour" (32 : Nat) ({ cls := "PortDrawer$Tape", name := "rewind", desc := "(J)V" } : Jvm.MethodName) "PortDrawer"), (Jvm.Cond.methodLinkNest "PortDrawer$Harbour" (40 : Nat) ({ cls := "PortDrawer$Tape", name := "numberBelow", desc := "(I)I" } : Jvm.MethodName) "PortDrawer"), (Jvm.Cond.methodLinkNest "PortDrawer$Harbour" (50 : Nat) ({ cls := "PortDrawer", name := "mayRefer", desc := "(II)Z" } : Jvm.MethodName) "PortDrawer"), (Jvm.Cond.methodLinkNest "PortDrawer" (66 : Nat) ({ cls := "PortDrawer$Harbour", name := "has", desc := "(I)Z" } : Jvm.MethodName) "PortDrawer"), (Jvm.Cond.methodLinkNest "PortDrawer" (99 : Nat) ({ cls := "PortDrawer$Harbour", name := "isFittingAct", desc := "(I)Z" } : Jvm.MethodName) "PortDrawer"), (Jvm.Cond.castable "java/lang/IndexOutOfBoundsException" "java/lang/IndexOutOfBoundsException"), (Jvm.Cond.methodLinkNest "PortDrawer" (94 : Nat) ({ cls := "PortDrawer$Harbour", name := "isAct", desc := "(I)Z" } : Jvm.MethodName) "PortDrawer"), (Jvm.Cond.methodLinkNest "PortDrawer" (125 : Nat) ({ cls := "PortDrawer$Harbour", name := "isLike", desc := "(LPortDrawer$Harbour;)Z" } : Jvm.MethodName) "PortDrawer")]
def txl : List (Nat × String) := [(43, "the size is not 0 .. 40"), (71, "no such part"), (92, "no such what"), (97, "no such act"), (123, "no such part is left")]
theorem big_w {c : Cond} : ∀ w ∈ tblG, w ∈ c :: tblG := fun _ h => List.mem_cons_of_mem _ h
theorem g_c {big : List Cond} (hb : ∀ w ∈ tblG, w ∈ big) {c : Cond} (hc : c ∈ tblG) : GoodIn big (c :: tblG) := fun w h => (List.mem_cons.mp h).elim (fun e => ⟨hb w (e ▸ hc), good_of_word (tblG_ok (e ▸ hc))⟩) (fun h => ⟨hb w h, good_of_word (tblG_ok h)⟩)
theorem g_1 {big : List Cond} (hb : ∀ w ∈ tblG, w ∈ big) {c : Cond} {ws : List Cond} (hc : c ∈ tblG) (h : GoodIn big ws) : GoodIn big (c :: ws) := fun w hw => (List.mem_cons.mp hw).elim (fun e => ⟨hb w (e ▸ hc), good_of_word (tblG_ok (e ▸ hc))⟩) (h w)
theorem g_V {big : List Cond} (hb : ∀ w ∈ tblG, w ∈ big) {own : String} {idx : Nat} {C : String} {y : MethodName} {c : Cond} (h1 : Cond.methodLink own idx y ∈ tblG) (h2 : Cond.instanceMethod y ∈ tblG) (h3 : Cond.selects C y y ∈ tblG) (h4 : Cond.initialized C ∈ tblG) (hc : c ∈ tblG) : GoodIn big (wsV own idx C y (c :: tblG)) := g_1 hb h1 (g_1 hb h2 (g_1 hb h3 (g_1 hb h4 (g_c hb hc))))
theorem g_S {big : List Cond} (hb : ∀ w ∈ tblG, w ∈ big) {own : String} {idx : Nat} {y : MethodName} {c : Cond} (h1 : Cond.methodLink own idx y ∈ tblG) (h2 : Cond.static y ∈ tblG) (h4 : Cond.initialized y.cls ∈ tblG) (hc : c ∈ tblG) : GoodIn big (va_wsS own idx y (c :: tblG)) := g_1 hb h1 (g_1 hb h2 (g_1 hb h4 (g_c hb hc)))
abbrev b_J_bitCount : ByteArray := prog_9_method_50_code
abbrev y_J_bitCount : MethodName := ⟨"java/lang/Long", "bitCount", "(J)I"⟩
abbrev w_J_bitCount : List Cond := .code y_J_bitCount b_J_bitCount 2 (Option.some Jvm.ClassFile.FieldType.int) :: tblG
abbrev b_T_init : ByteArray := prog_3_method_1_code
abbrev y_T_init : MethodName := ⟨"PortDrawer$Tape", "<init>", "()V"⟩
abbrev w_T_init : List Cond := .code y_T_init b_T_init 1 (Option.none : Option Jvm.ClassFile.FieldType) :: tblG
abbrev b_T_rewind : ByteArray := prog_3_method_2_code
abbrev y_T_rewind : MethodName := ⟨"PortDrawer$Tape", "rewind", "(J)V"⟩
abbrev w_T_rewind : List Cond := .code y_T_rewind b_T_rewind 3 (Option.none : Option Jvm.ClassFile.FieldType) :: tblG
abbrev b_T_numberBelow : ByteArray := prog_3_method_3_code
abbrev y_T_numberBelow : MethodName := ⟨"PortDrawer$Tape", "numberBelow", "(I)I"⟩
abbrev w_T_numberBelow : List Cond := .code y_T_numberBelow b_T_numberBelow 2 (Option.some Jvm.ClassFile.FieldType.int) :: tblG
abbrev b_H_init : ByteArray := prog_2_method_1_code
abbrev y_H_init : MethodName := ⟨"PortDrawer$Harbour", "<init>", "()V"⟩
abbrev w_H_init : List Cond := .code y_H_init b_H_init 1 (Option.none : Option Jvm.ClassFile.FieldType) :: tblG
abbrev b_D_mayRefer : ByteArray := prog_1_method_24_code
abbrev y_D_mayRefer : MethodName := ⟨"PortDrawer", "mayRefer", "(II)Z"⟩
abbrev w_D_mayRefer : List Cond := .code y_D_mayRefer b_D_mayRefer 2 (Option.some Jvm.ClassFile.FieldType.boolean) :: tblG
abbrev b_H_has : ByteArray := prog_2_method_6_code
abbrev y_H_has : MethodName := ⟨"PortDrawer$Harbour", "has", "(I)Z"⟩
abbrev w_H_has : List Cond := .code y_H_has b_H_has 2 (Option.some Jvm.ClassFile.FieldType.boolean) :: tblG
abbrev b_H_isAct : ByteArray := prog_2_method_7_code
abbrev y_H_isAct : MethodName := ⟨"PortDrawer$Harbour", "isAct", "(I)Z"⟩
abbrev w_H_isAct : List Cond := .code y_H_isAct b_H_isAct 2 (Option.some Jvm.ClassFile.FieldType.boolean) :: tblG
abbrev b_H_isFittingAct : ByteArray := prog_2_method_8_code
abbrev y_H_isFittingAct : MethodName := ⟨"PortDrawer$Harbour", "isFittingAct", "(I)Z"⟩
abbrev w_H_isFittingAct : List Cond := .code y_H_isFittingAct b_H_isFittingAct 3 (Option.some Jvm.ClassFile.FieldType.boolean) :: tblG
abbrev b_H_ofKindAheadOf : ByteArray := prog_2_method_9_code
abbrev y_H_ofKindAheadOf : MethodName := ⟨"PortDrawer$Harbour", "ofKindAheadOf", "(II)I"⟩
abbrev w_H_ofKindAheadOf : List Cond := .code y_H_ofKindAheadOf b_H_ofKindAheadOf 5 (Option.some Jvm.ClassFile.FieldType.int) :: tblG
abbrev b_H_partsToReferTo : ByteArray := prog_2_method_5_code
abbrev y_H_partsToReferTo : MethodName := ⟨"PortDrawer$Harbour", "partsToReferTo", "(I)I"⟩
abbrev w_H_partsToReferTo : List Cond := .code y_H_partsToReferTo b_H_partsToReferTo 4 (Option.some Jvm.ClassFile.FieldType.int) :: tblG
abbrev b_H_drawReference : ByteArray := prog_2_method_4_code
abbrev y_H_drawReference : MethodName := ⟨"PortDrawer$Harbour", "drawReference", "(I)I"⟩
abbrev w_H_drawReference : List Cond := .code y_H_drawReference b_H_drawReference 5 (Option.some Jvm.ClassFile.FieldType.int) :: tblG
abbrev b_H_addPart : ByteArray := prog_2_method_3_code
abbrev y_H_addPart : MethodName := ⟨"PortDrawer$Harbour", "addPart", "(I)V"⟩
abbrev w_H_addPart : List Cond := .code y_H_addPart b_H_addPart 2 (Option.none : Option Jvm.ClassFile.FieldType) :: tblG
abbrev b_H_fill : ByteArray := prog_2_method_2_code
abbrev y_H_fill : MethodName := ⟨"PortDrawer$Harbour", "fill", "(JI)V"⟩
abbrev w_H_fill : List Cond := .code y_H_fill b_H_fill 5 (Option.none : Option Jvm.ClassFile.FieldType) :: tblG
abbrev b_H_isLike : ByteArray := prog_2_method_10_code
abbrev y_H_isLike : MethodName := ⟨"PortDrawer$Harbour", "isLike", "(LPortDrawer$Harbour;)Z"⟩
abbrev w_H_isLike : List Cond := .code y_H_isLike b_H_isLike 3 (Option.some Jvm.ClassFile.FieldType.boolean) :: tblG
abbrev b_D_isIn : ByteArray := prog_1_method_22_code
abbrev y_D_isIn : MethodName := ⟨"PortDrawer", "isIn", "(JI)Z"⟩
abbrev w_D_isIn : List Cond := .code y_D_isIn b_D_isIn 3 (Option.some Jvm.ClassFile.FieldType.boolean) :: tblG
abbrev b_D_isSize : ByteArray := prog_1_method_23_code
abbrev y_D_isSize : MethodName := ⟨"PortDrawer", "isSize", "(I)Z"⟩
abbrev w_D_isSize : List Cond := .code y_D_isSize b_D_isSize 1 (Option.some Jvm.ClassFile.FieldType.boolean) :: tblG
abbrev b_D_allParts : ByteArray := prog_1_method_15_code
abbrev y_D_allParts : MethodName := ⟨"PortDrawer", "allParts", "()J"⟩
abbrev w_D_allParts : List Cond := .code y_D_allParts b_D_allParts 1 (Option.some Jvm.ClassFile.FieldType.long) :: tblG
abbrev b_D_leftWithout : ByteArray := prog_1_method_16_code
abbrev y_D_leftWithout : MethodName := ⟨"PortDrawer", "leftWithout", "(I)J"⟩
abbrev w_D_leftWithout : List Cond := .code y_D_leftWithout b_D_leftWithout 2 (Option.some Jvm.ClassFile.FieldType.long) :: tblG
abbrev b_D_verdictOf : ByteArray := prog_1_method_18_code
abbrev y_D_verdictOf : MethodName := ⟨"PortDrawer", "verdictOf", "(J)I"⟩
abbrev w_D_verdictOf : List Cond := .code y_D_verdictOf b_D_verdictOf 5 (Option.some Jvm.ClassFile.FieldType.int) :: tblG
abbrev b_D_staysWith : ByteArray := prog_1_method_17_code
abbrev y_D_staysWith : MethodName := ⟨"PortDrawer", "staysWith", "(J)Z"⟩
abbrev w_D_staysWith : List Cond := .code y_D_staysWith b_D_staysWith 3 (Option.some Jvm.ClassFile.FieldType.boolean) :: tblG
abbrev b_D_firstThatMayGo : ByteArray := prog_1_method_19_code
abbrev y_D_firstThatMayGo : MethodName := ⟨"PortDrawer", "firstThatMayGo", "()I"⟩
abbrev w_D_firstThatMayGo : List Cond := .code y_D_firstThatMayGo b_D_firstThatMayGo 4 (Option.some Jvm.ClassFile.FieldType.int) :: tblG
abbrev b_D_verdictsThatStay : ByteArray := prog_1_method_14_code
abbrev y_D_verdictsThatStay : MethodName := ⟨"PortDrawer", "verdictsThatStay", "()I"⟩
abbrev w_D_verdictsThatStay : List Cond := .code y_D_verdictsThatStay b_D_verdictsThatStay 3 (Option.some Jvm.ClassFile.FieldType.int) :: tblG
abbrev b_D_countOfKind : ByteArray := prog_1_method_13_code
abbrev y_D_countOfKind : MethodName := ⟨"PortDrawer", "countOfKind", "(I)I"⟩
abbrev w_D_countOfKind : List Cond := .code y_D_countOfKind b_D_countOfKind 2 (Option.some Jvm.ClassFile.FieldType.int) :: tblG
abbrev b_D_now : ByteArray := prog_1_method_6_code
abbrev y_D_now : MethodName := ⟨"PortDrawer", "now", "()I"⟩
abbrev w_D_now : List Cond := .code y_D_now b_D_now 1 (Option.some Jvm.ClassFile.FieldType.int) :: tblG
abbrev b_D_left : ByteArray := prog_1_method_8_code
abbrev y_D_left : MethodName := ⟨"PortDrawer", "left", "(I)I"⟩
abbrev w_D_left : List Cond := .code y_D_left b_D_left 4 (Option.some Jvm.ClassFile.FieldType.int) :: tblG
abbrev b_D_minimal : ByteArray := prog_1_method_9_code
abbrev y_D_minimal : MethodName := ⟨"PortDrawer", "minimal", "()Z"⟩
abbrev w_D_minimal : List Cond := .code y_D_minimal b_D_minimal 1 (Option.some Jvm.ClassFile.FieldType.boolean) :: tblG
abbrev b_D_verdict : ByteArray := prog_1_method_5_code
abbrev y_D_verdict : MethodName := ⟨"PortDrawer", "verdict", "(IZ)Z"⟩
abbrev w_D_verdict : List Cond := .code y_D_verdict b_D_verdict 3 (Option.some Jvm.ClassFile.FieldType.boolean) :: tblG
abbrev b_D_noteGoingWith : ByteArray := prog_1_method_20_code
abbrev y_D_noteGoingWith : MethodName := ⟨"PortDrawer", "noteGoingWith", "()V"⟩
abbrev w_D_noteGoingWith : List Cond := .code y_D_noteGoingWith b_D_noteGoingWith 3 (Option.none : Option Jvm.ClassFile.FieldType) :: tblG
abbrev b_D_notePartsOfBits : ByteArray := prog_1_method_21_code
abbrev y_D_notePartsOfBits : MethodName := ⟨"PortDrawer", "notePartsOfBits", "()V"⟩
abbrev w_D_notePartsOfBits : List Cond := .code y_D_notePartsOfBits b_D_notePartsOfBits 3 (Option.none : Option Jvm.ClassFile.FieldType) :: tblG
abbrev b_D_shorter : ByteArray := prog_1_method_7_code
abbrev y_D_shorter : MethodName := ⟨"PortDrawer", "shorter", "()I"⟩
abbrev w_D_shorter : List Cond := .code y_D_shorter b_D_shorter 3 (Option.some Jvm.ClassFile.FieldType.int) :: tblG
abbrev b_D_count : ByteArray := prog_1_method_12_code
abbrev y_D_count : MethodName := ⟨"PortDrawer", "count", "(I)I"⟩
abbrev w_D_count : List Cond := .code y_D_count b_D_count 2 (Option.some Jvm.ClassFile.FieldType.int) :: tblG
abbrev b_D_draw : ByteArray := prog_1_method_2_code
abbrev y_D_draw : MethodName := ⟨"PortDrawer", "draw", "(I)I"⟩
abbrev w_D_draw : List Cond := .code y_D_draw b_D_draw 2 (Option.some Jvm.ClassFile.FieldType.int) :: tblG
abbrev b_D_part : ByteArray := prog_1_method_3_code
abbrev y_D_part : MethodName := ⟨"PortDrawer", "part", "(II)I"⟩
abbrev w_D_part : List Cond := .code y_D_part b_D_part 3 (Option.some Jvm.ClassFile.FieldType.int) :: tblG
abbrev b_D_fits : ByteArray := prog_1_method_4_code
abbrev y_D_fits : MethodName := ⟨"PortDrawer", "fits", "(I)Z"⟩
abbrev w_D_fits : List Cond := .code y_D_fits b_D_fits 2 (Option.some Jvm.ClassFile.FieldType.boolean) :: tblG
abbrev b_D_without : ByteArray := prog_1_method_10_code
abbrev y_D_without : MethodName := ⟨"PortDrawer", "without", "(I)I"⟩
abbrev w_D_without : List Cond := .code y_D_without b_D_without 3 (Option.some Jvm.ClassFile.FieldType.int) :: tblG
abbrev b_D_same : ByteArray := prog_1_method_11_code
abbrev y_D_same : MethodName := ⟨"PortDrawer", "same", "(JI)Z"⟩
abbrev w_D_same : List Cond := .code y_D_same b_D_same 4 (Option.some Jvm.ClassFile.FieldType.boolean) :: tblG
abbrev b_D_init : ByteArray := prog_1_method_1_code
abbrev y_D_init : MethodName := ⟨"PortDrawer", "<init>", "(J)V"⟩
abbrev w_D_init : List Cond := .code y_D_init b_D_init 3 (Option.none : Option Jvm.ClassFile.FieldType) :: tblG
abbrev b_M_thrown : ByteArray := prog_5_method_2_code
abbrev y_M_thrown : MethodName := ⟨"PortDrawerModel", "thrown", "()I"⟩
abbrev w_M_thrown : List Cond := .code y_M_thrown b_M_thrown 1 (Option.some Jvm.ClassFile.FieldType.int) :: tblG
abbrev b_M_refuse : ByteArray := prog_5_method_3_code
abbrev y_M_refuse : MethodName := ⟨"PortDrawerModel", "refuse", "(I)I"⟩
abbrev w_M_refuse : List Cond := .code y_M_refuse b_M_refuse 2 (Option.some Jvm.ClassFile.FieldType.int) :: tblG
abbrev b_M_in_ : ByteArray := prog_5_method_4_code
abbrev y_M_in_ : MethodName := ⟨"PortDrawerModel", "in", "(III)Z"⟩
abbrev w_M_in_ : List Cond := .code y_M_in_ b_M_in_ 3 (Option.some Jvm.ClassFile.FieldType.boolean) :: tblG
abbrev b_M_isPart : ByteArray := prog_5_method_5_code
abbrev y_M_isPart : MethodName := ⟨"PortDrawerModel", "isPart", "(I)Z"⟩
abbrev w_M_isPart : List Cond := .code y_M_isPart b_M_isPart 2 (Option.some Jvm.ClassFile.FieldType.boolean) :: tblG
abbrev b_M_number : ByteArray := prog_5_method_6_code
abbrev y_M_number : MethodName := ⟨"PortDrawerModel", "number", "(I)I"⟩
abbrev w_M_number : List Cond := .code y_M_number b_M_number 2 (Option.some Jvm.ClassFile.FieldType.int) :: tblG
abbrev b_M_mayRefer : ByteArray := prog_5_method_7_code
abbrev y_M_mayRefer : MethodName := ⟨"PortDrawerModel", "mayRefer", "(II)Z"⟩
abbrev w_M_mayRefer : List Cond := .code y_M_mayRefer b_M_mayRefer 2 (Option.some Jvm.ClassFile.FieldType.boolean) :: tblG
abbrev b_M_reference : ByteArray := prog_5_method_8_code
abbrev y_M_reference : MethodName := ⟨"PortDrawerModel", "reference", "(II)I"⟩
abbrev w_M_reference : List Cond := .code y_M_reference b_M_reference 8 (Option.some Jvm.ClassFile.FieldType.int) :: tblG
abbrev b_M_draws : ByteArray := prog_5_method_9_code
abbrev y_M_draws : MethodName := ⟨"PortDrawerModel", "draws", "(JII)V"⟩
abbrev w_M_draws : List Cond := .code y_M_draws b_M_draws 7 (Option.none : Option Jvm.ClassFile.FieldType) :: tblG
abbrev b_M_all : ByteArray := prog_5_method_11_code
abbrev y_M_all : MethodName := ⟨"PortDrawerModel", "all", "()V"⟩
abbrev w_M_all : List Cond := .code y_M_all b_M_all 2 (Option.none : Option Jvm.ClassFile.FieldType) :: tblG
abbrev b_M_none : ByteArray := prog_5_method_17_code
abbrev y_M_none : MethodName := ⟨"PortDrawerModel", "none", "()V"⟩
abbrev w_M_none : List Cond := .code y_M_none b_M_none 2 (Option.none : Option Jvm.ClassFile.FieldType) :: tblG
abbrev b_M_leaves : ByteArray := prog_5_method_23_code
abbrev y_M_leaves : MethodName := ⟨"PortDrawerModel", "leaves", "()V"⟩
abbrev w_M_leaves : List Cond := .code y_M_leaves b_M_leaves 2 (Option.none : Option Jvm.ClassFile.FieldType) :: tblG
abbrev b_M_marks : ByteArray := prog_5_method_18_code
abbrev y_M_marks : MethodName := ⟨"PortDrawerModel", "marks", "(I)I"⟩
abbrev w_M_marks : List Cond := .code y_M_marks b_M_marks 4 (Option.some Jvm.ClassFile.FieldType.int) :: tblG
abbrev b_M_many : ByteArray := prog_5_method_19_code
abbrev y_M_many : MethodName := ⟨"PortDrawerModel", "many", "()I"⟩
abbrev w_M_many : List Cond := .code y_M_many b_M_many 3 (Option.some Jvm.ClassFile.FieldType.int) :: tblG
abbrev b_M_isFit : ByteArray := prog_5_method_13_code
abbrev y_M_isFit : MethodName := ⟨"PortDrawerModel", "isFit", "(I)Z"⟩
abbrev w_M_isFit : List Cond := .code y_M_isFit b_M_isFit 2 (Option.some Jvm.ClassFile.FieldType.boolean) :: tblG
abbrev b_M_judged : ByteArray := prog_5_method_16_code
abbrev y_M_judged : MethodName := ⟨"PortDrawerModel", "judged", "()I"⟩
abbrev w_M_judged : List Cond := .code y_M_judged b_M_judged 3 (Option.some Jvm.ClassFile.FieldType.int) :: tblG
abbrev b_M_mayGo : ByteArray := prog_5_method_21_code
abbrev y_M_mayGo : MethodName := ⟨"PortDrawerModel", "mayGo", "(I)Z"⟩
abbrev w_M_mayGo : List Cond := .code y_M_mayGo b_M_mayGo 2 (Option.some Jvm.ClassFile.FieldType.boolean) :: tblG
abbrev b_M_first : ByteArray := prog_5_method_22_code
abbrev y_M_first : MethodName := ⟨"PortDrawerModel", "first", "()I"⟩
abbrev w_M_first : List Cond := .code y_M_first b_M_first 2 (Option.some Jvm.ClassFile.FieldType.int) :: tblG
abbrev b_M_now : ByteArray := prog_5_method_20_code
abbrev y_M_now : MethodName := ⟨"PortDrawerModel", "now", "()I"⟩
abbrev w_M_now : List Cond := .code y_M_now b_M_now 1 (Option.some Jvm.ClassFile.FieldType.int) :: tblG
abbrev b_M_shorter : ByteArray := prog_5_method_24_code
abbrev y_M_shorter : MethodName := ⟨"PortDrawerModel", "shorter", "()I"⟩
abbrev w_M_shorter : List Cond := .code y_M_shorter b_M_shorter 1 (Option.some Jvm.ClassFile.FieldType.int) :: tblG
abbrev b_M_left : ByteArray := prog_5_method_25_code
abbrev y_M_left : MethodName := ⟨"PortDrawerModel", "left", "(I)I"⟩
abbrev w_M_left : List Cond := .code y_M_left b_M_left 4 (Option.some Jvm.ClassFile.FieldType.int) :: tblG
abbrev b_M_minimal : ByteArray := prog_5_method_26_code
abbrev y_M_minimal : MethodName := ⟨"PortDrawerModel", "minimal", "()Z"⟩
abbrev w_M_minimal : List Cond := .code y_M_minimal b_M_minimal 1 (Option.some Jvm.ClassFile.FieldType.boolean) :: tblG
abbrev b_M_verdict : ByteArray := prog_5_method_15_code
abbrev y_M_verdict : MethodName := ⟨"PortDrawerModel", "verdict", "(IZ)Z"⟩
abbrev w_M_verdict : List Cond := .code y_M_verdict b_M_verdict 3 (Option.some Jvm.ClassFile.FieldType.boolean) :: tblG
abbrev b_M_ofKind : ByteArray := prog_5_method_29_code
abbrev y_M_ofKind : MethodName := ⟨"PortDrawerModel", "ofKind", "(I)I"⟩
abbrev w_M_ofKind : List Cond := .code y_M_ofKind b_M_ofKind 4 (Option.some Jvm.ClassFile.FieldType.int) :: tblG
abbrev b_M_init : ByteArray := prog_5_method_1_code
abbrev y_M_init : MethodName := ⟨"PortDrawerModel", "<init>", "(J)V"⟩
abbrev w_M_init : List Cond := .code y_M_init b_M_init 3 (Option.none : Option Jvm.ClassFile.FieldType) :: tblG
abbrev b_M_draw : ByteArray := prog_5_method_10_code
abbrev y_M_draw : MethodName := ⟨"PortDrawerModel", "draw", "(I)I"⟩
abbrev w_M_draw : List Cond := .code y_M_draw b_M_draw 2 (Option.some Jvm.ClassFile.FieldType.int) :: tblG
abbrev b_M_same : ByteArray := prog_5_method_12_code
abbrev y_M_same : MethodName := ⟨"PortDrawerModel", "same", "(JI)Z"⟩
abbrev w_M_same : List Cond := .code y_M_same b_M_same 6 (Option.some Jvm.ClassFile.FieldType.boolean) :: tblG
abbrev b_M_fits : ByteArray := prog_5_method_14_code
abbrev y_M_fits : MethodName := ⟨"PortDrawerModel", "fits", "(I)Z"⟩
abbrev w_M_fits : List Cond := .code y_M_fits b_M_fits 2 (Option.some Jvm.ClassFile.FieldType.boolean) :: tblG
abbrev b_M_without : ByteArray := prog_5_method_27_code
abbrev y_M_without : MethodName := ⟨"PortDrawerModel", "without", "(I)I"⟩
abbrev w_M_without : List Cond := .code y_M_without b_M_without 3 (Option.some Jvm.ClassFile.FieldType.int) :: tblG
abbrev b_M_part : ByteArray := prog_5_method_28_code
abbrev y_M_part : MethodName := ⟨"PortDrawerModel", "part", "(II)I"⟩
abbrev w_M_part : List Cond := .code y_M_part b_M_part 5 (Option.some Jvm.ClassFile.FieldType.int) :: tblG
abbrev b_M_count : ByteArray := prog_5_method_30_code
abbrev y_M_count : MethodName := ⟨"PortDrawerModel", "count", "(I)I"⟩
abbrev w_M_count : List Cond := .code y_M_count b_M_count 5 (Option.some Jvm.ClassFile.FieldType.int) :: tblG
end
section
/-! FORMS OF CONTRACTS: readers (ro), writers (wr), those that may throw (wx). NWl: words across nests and casts; TX: the texts of the exceptions -/
def nk9 : Cond → Bool
  | .fieldLinkNest .. => true
  | .methodLinkNest .. => true
  | .castable .. => true
  | .declares .. => true
  | _ => false
theorem nk9_warm {w : Cond} {s U : State} (hk : nk9 w = true) (hW : s.WarmedH U.vm) (h : va_Nw w s) : va_Nw w U := by
  cases w <;> first | exact va_Nw.warmF hW h | exact va_Nw.warmM hW h | exact va_Nw.warmC hW h | exact va_Nw.warmD hW h | (exfalso; simp [nk9] at hk)
theorem NWl_k : ∀ w ∈ NWl, nk9 w = true := by decide +kernel
theorem NWl_t : ∀ w ∈ NWl, w.onTables = true := by decide +kernel
def NW (U : State) : Prop := ∀ w ∈ NWl, va_Nw w U
theorem NW.same {u U : State} (h : u.vm = U.vm) (hN : NW u) : NW U := fun w hw => va_Nw.same (NWl_t w hw) h (hN w hw)
theorem NW.warm {s U : State} (hW : s.WarmedH U.vm) (hN : NW s) : NW U := fun w hw => nk9_warm (NWl_k w hw) hW (hN w hw)
theorem NW.use {U : State} {A : Array Value} (hN : NW U) {w : Cond} (hw : w ∈ NWl) : w.before A U = true := va_Nw.use (NWl_t w hw) (hN w hw)
def TX (sa : Nat → Nat) (U : State) : Prop := ∀ q ∈ txl, vk_R R_D q.1 q.2 (sa q.1) U
theorem TX.same {sa : Nat → Nat} {u U : State} (h : U.vm = u.vm) (hT : TX sa u) : TX sa U := fun q hq => vk_R.same h (hT q hq)
theorem TX.warm {sa : Nat → Nat} {s U : State} (hW : s.WarmedH U.vm) (hT : TX sa s) : TX sa U := fun q hq => vk_R.warm hW (hT q hq)
section Forms
variable {dC : Nat → ClassId} {dI : Nat → Nat → Nat} {s : State} {H : Heap} {ws : va_W} {tys : List (ClassId × FieldType)} {C : String} {b : Addr} {As : List Value}
abbrev ro_P (dC : Nat → ClassId) (dI : Nat → Nat → Nat) (av : List Value) (ws : va_W) (tys : List (ClassId × FieldType)) : Array Value → State → Prop :=
  va_Pc av (fun U => va_P (dC, dI) classes ws U.heap ∧ va_K (dC, dI) classes tys U ∧ NW U)
theorem ro_blind {av : List Value} : FrameBlind (ro_P dC dI av ws tys) := fun a U g mk q => by
  obtain ⟨q0, qP, qK, qN⟩ := q
  exact ⟨q0, qP, va_K.moved (u := U) (U := U.calling g mk a) (Vm.Alike.refl U.vm) qK, NW.same (u := U) (U := U.calling g mk a) rfl qN⟩
theorem ro_V (hP : va_P (dC, dI) classes ws H) (hK : va_K (dC, dI) classes tys s) (hN : NW s) (hr : ∃ cellB : Cell, H[b]? = some cellB ∧ cellB.vm.isStatics = false ∧ s.vm.findClass C = some cellB.cls) : PreV s H C b (ro_P dC dI (.ref b :: As) ws tys) As :=
  ⟨ro_blind, hr, fun U hU hW => ⟨rfl, by rw [hU]; exact hP, va_K.moved hW.alike hK, NW.warm hW hN⟩⟩
theorem ro_S (hP : va_P (dC, dI) classes ws H) (hK : va_K (dC, dI) classes tys s) (hN : NW s) : PreS s H (ro_P dC dI As ws tys) As :=
  ⟨ro_blind, fun U hU hW => ⟨rfl, by rw [hU]; exact hP, va_K.moved hW.alike hK, NW.warm hW hN⟩⟩
abbrev wr_P (dC : Nat → ClassId) (dI : Nat → Nat → Nat) (av : List Value) (ws : va_W) (tys : List (ClassId × FieldType)) (sz : Nat) : Array Value → State → Prop :=
  va_Pc av (fun U => U.heap.size = sz ∧ va_P (dC, dI) classes ws U.heap ∧ va_K (dC, dI) classes tys U ∧ va_D (fun _ => True) ws ∧ NW U)
abbrev wr_B (dC : Nat → ClassId) (dI : Nat → Nat → Nat) (A : Nat → Prop) (ws : va_W) (tys : List (ClassId × FieldType)) (t : State) : Prop :=
  va_P (dC, dI) classes ws t.heap ∧ va_K (dC, dI) classes tys t ∧ va_D A ws
theorem wr_blind {av : List Value} {sz : Nat} : FrameBlind (wr_P dC dI av ws tys sz) := fun a U g mk q => by
  obtain ⟨q0, q1, qP, qK, qD, qN⟩ := q
  exact ⟨q0, q1, qP, va_K.moved (u := U) (U := U.calling g mk a) (Vm.Alike.refl U.vm) qK, qD, NW.same (u := U) (U := U.calling g mk a) rfl qN⟩
theorem wr_V {A : Nat → Prop} (hP : va_P (dC, dI) classes ws H) (hK : va_K (dC, dI) classes tys s) (hD : va_D A ws) (hN : NW s) (hr : ∃ cellB : Cell, H[b]? = some cellB ∧ cellB.vm.isStatics = false ∧ s.vm.findClass C = some cellB.cls) : PreV s H C b (wr_P dC dI (.ref b :: As) ws tys H.size) As :=
  ⟨wr_blind, hr, fun U hU hW => ⟨rfl, by rw [hU], by rw [hU]; exact hP, va_K.moved hW.alike hK, hD.weaken (fun _ _ _ _ => trivial), NW.warm hW hN⟩⟩
theorem wr_S {A : Nat → Prop} (hP : va_P (dC, dI) classes ws H) (hK : va_K (dC, dI) classes tys s) (hD : va_D A ws) (hN : NW s) : PreS s H (wr_P dC dI As ws tys H.size) As :=
  ⟨wr_blind, fun U hU hW => ⟨rfl, by rw [hU], by rw [hU]; exact hP, va_K.moved hW.alike hK, hD.weaken (fun _ _ _ _ => trivial), NW.warm hW hN⟩⟩
abbrev zqU (A : Nat → Prop) (U : State) (H : Heap) : Prop := vx_Zq Bundle.tN "UNASSIGNED_STACK" Bundle.steD A U H ∧ vx_Zq Bundle.tN "SUPPRESSED_SENTINEL" Bundle.listD A U H
abbrev wx_P (dC : Nat → ClassId) (dI : Nat → Nat → Nat) (av : List Value) (ws : va_W) (tys : List (ClassId × FieldType)) (sa : Nat → Nat) (sz : Nat) : Array Value → State → Prop :=
  va_Pc av (fun U => U.heap.size = sz ∧ va_P (dC, dI) classes ws U.heap ∧ va_K (dC, dI) classes tys U ∧ va_D (fun _ => True) ws ∧ NW U ∧ TX sa U ∧ zqU (va_A ws sz) U U.heap)
theorem wx_blind {av : List Value} {sz : Nat} {sa : Nat → Nat} : FrameBlind (wx_P dC dI av ws tys sa sz) := fun a U g mk q => by
  obtain ⟨q0, q1, qP, qK, qD, qN, qT, qU, qZ⟩ := q
  exact ⟨q0, q1, qP, va_K.moved (u := U) (U := U.calling g mk a) (Vm.Alike.refl U.vm) qK, qD, NW.same (u := U) (U := U.calling g mk a) rfl qN, TX.same (u := U) (U := U.calling g mk a) rfl qT, vx_Zq.moved (u := U) (U := U.calling g mk a) (Vm.Alike.refl U.vm) qU, vx_Zq.moved (u := U) (U := U.calling g mk a) (Vm.Alike.refl U.vm) qZ⟩
theorem zq_go {A : Nat → Prop} {H0 : Heap} {locs : List Loc} {U : State} (h : zqU A s H0) (hS : va_S A H0 H locs) (hF : ∀ q, va_A ws H.size q → A q) (hU : U.heap = H) (hW : s.WarmedH U.vm) : zqU (va_A ws H.size) U U.heap := by
  rw [hU]
  exact ⟨((vx_Zq.kept h.1 (fun a h1 h2 => hS.2.1 a h1 h2)).narrow hF).moved hW.alike, ((vx_Zq.kept h.2 (fun a h1 h2 => hS.2.1 a h1 h2)).narrow hF).moved hW.alike⟩
theorem wx_V {A : Nat → Prop} {sa : Nat → Nat} {H0 : Heap} {locs : List Loc} (hP : va_P (dC, dI) classes ws H) (hK : va_K (dC, dI) classes tys s) (hD : va_D A ws) (hN : NW s) (hT : TX sa s) (hZ : zqU A s H0) (hS : va_S A H0 H locs) (hF : ∀ q, va_A ws H.size q → A q) (hr : ∃ cellB : Cell, H[b]? = some cellB ∧ cellB.vm.isStatics = false ∧ s.vm.findClass C = some cellB.cls) : PreV s H C b (wx_P dC dI (.ref b :: As) ws tys sa H.size) As :=
  ⟨wx_blind, hr, fun U hU hW => ⟨rfl, by rw [hU], by rw [hU]; exact hP, va_K.moved hW.alike hK, hD.weaken (fun _ _ _ _ => trivial), NW.warm hW hN, TX.warm hW hT, zq_go hZ hS hF hU hW⟩⟩
theorem wx_S {A : Nat → Prop} {sa : Nat → Nat} {H0 : Heap} {locs : List Loc} (hP : va_P (dC, dI) classes ws H) (hK : va_K (dC, dI) classes tys s) (hD : va_D A ws) (hN : NW s) (hT : TX sa s) (hZ : zqU A s H0) (hS : va_S A H0 H locs) (hF : ∀ q, va_A ws H.size q → A q) : PreS s H (wx_P dC dI As ws tys sa H.size) As :=
  ⟨wx_blind, fun U hU hW => ⟨rfl, by rw [hU], by rw [hU]; exact hP, va_K.moved hW.alike hK, hD.weaken (fun _ _ _ _ => trivial), NW.warm hW hN, TX.warm hW hT, zq_go hZ hS hF hU hW⟩⟩
abbrev wx_X (dC : Nat → ClassId) (dI : Nat → Nat → Nat) (E9 : String) (A : Nat → Prop) (ws : va_W) (tys : List (ClassId × FieldType)) : String → State → State → Prop :=
  vx_X (fun _ : Unit => True) (fun E (_ : Unit) t => E = E9 ∧ wr_B dC dI A ws tys t) A
end Forms
theorem hat_ok {args : Array Value} {s : State} {c : Cond} {L : List Cond} (hts : ∀ w ∈ c :: tblG, w.before args s = true) (hN : NW s) (h1 : ∀ w ∈ L.filter goodWord, w ∈ lw_tbl) (h2 : ∀ w ∈ L.filter (fun w => !goodWord w), w ∈ NWl) : ∀ w ∈ L, w.before args s = true := by
  intro w hw
  cases hg : goodWord w
  · exact hN.use (h2 w (List.mem_filter.mpr ⟨hw, by rw [hg]; rfl⟩))
  · exact hts w (List.mem_cons_of_mem _ (List.mem_filter.mpr ⟨h1 w (List.mem_filter.mpr ⟨hw, hg⟩), hg⟩))
end
section
/-! PURE: booleans as ints, counting, the first place, choices -/
def bI (b : Bool) : Int32 := cond b (nI 1) (nI 0)
theorem bI_t {b : Bool} (h : ¬ bI b = 0) : b = true := by
  cases b
  · exact absurd rfl h
  · rfl
theorem bI_f {b : Bool} (h : bI b = 0) : b = false := by
  cases b
  · rfl
  · exact absurd h (by decide)
theorem bI_nar (b : Bool) : narrow .boolean (.int (bI b)) = .int (bI b) := by cases b <;> rfl
theorem bI_fit (b : Bool) : fits .boolean (.int (bI b)) = true := by cases b <;> rfl
theorem bI_vp (b : Bool) : vp_nar .boolean (bI b) = bI b := by cases b <;> rfl
theorem bI_inj {a b : Bool} : bI a = bI b ↔ a = b := by
  cases a <;> cases b <;> simp [bI] <;> decide
theorem lc_eq {x y : Int64} : lg_cmp x y = 0 ↔ x = y := by
  unfold lg_cmp
  by_cases h1 : x > y
  · rw [if_pos h1]
    refine ⟨fun h => absurd h (by decide), fun h => ?_⟩
    subst h
    exact absurd h1 Int64.lt_irrefl
  · rw [if_neg h1]
    by_cases h2 : x = y
    · rw [if_pos h2]; exact ⟨fun _ => h2, fun _ => rfl⟩
    · rw [if_neg h2]; exact ⟨fun h => absurd h (by decide), fun h => absurd h h2⟩
theorem nI_z {a : Nat} (h : a < 2 ^ 31) : nI a = 0 ↔ a = 0 := by
  rw [← nI_0, nI_eq h (by omega)]
theorem sw_eq {x y : Int32} {k : Int} (h : x.toInt = k) (h2 : y.toInt = k) : x = y := Int32.toInt_inj.mp (h.trans h2.symm)
def bF (S : Nat → Bool) : Nat → Int32 := fun j => bI (S j)
def uB (S : Nat → Bool) (k : Nat) (b : Bool) : Nat → Bool := fun j => if j = k then b else S j
theorem bF_up (S : Nat → Bool) (k : Nat) (b : Bool) : upd (bF S) k (bI b) = bF (uB S k b) := by
  funext j
  unfold upd bF uB
  by_cases h : j = k <;> simp [h]
/-- how many places below n have P -/
def cnt (P : Nat → Bool) : Nat → Nat
  | 0 => 0
  | n + 1 => cnt P n + (P n).toNat
theorem cnt_t {P : Nat → Bool} {n : Nat} (h : P n = true) : cnt P (n + 1) = cnt P n + 1 := by simp [cnt, h]
theorem cnt_f {P : Nat → Bool} {n : Nat} (h : P n = false) : cnt P (n + 1) = cnt P n := by simp [cnt, h]
theorem cnt_le (P : Nat → Bool) : ∀ n, cnt P n ≤ n
  | 0 => Nat.le_refl 0
  | n + 1 => by
    have h := cnt_le P n
    cases hp : P n
    · rw [cnt_f hp]; omega
    · rw [cnt_t hp]; omega
theorem cnt_mono (P : Nat → Bool) {a : Nat} : ∀ {n}, a ≤ n → cnt P a ≤ cnt P n := by
  intro n h
  induction n with
  | zero => rw [Nat.le_zero.mp h]; exact Nat.le_refl _
  | succ n ih =>
    rcases Nat.lt_or_ge n a with q | q
    · have : a = n + 1 := by omega
      rw [this]; exact Nat.le_refl _
    · exact Nat.le_trans (ih q) (Nat.le_add_right (cnt P n) (P n).toNat)
theorem cnt_congr {P Q : Nat → Bool} : ∀ {n}, (∀ j, j < n → P j = Q j) → cnt P n = cnt Q n
  | 0, _ => rfl
  | n + 1, h => by
    unfold cnt
    rw [cnt_congr (n := n) (fun j hj => h j (by omega)), h n (by omega)]
theorem cnt_all {n : Nat} : ∀ {P : Nat → Bool}, (∀ j, j < n → P j = true) → cnt P n = n := by
  intro P h
  induction n with
  | zero => rfl
  | succ n ih => rw [cnt_t (h n (by omega)), ih (fun j hj => h j (by omega))]
theorem cnt_0 {n : Nat} : ∀ {P : Nat → Bool}, (∀ j, j < n → P j = false) → cnt P n = 0 := by
  intro P h
  induction n with
  | zero => rfl
  | succ n ih => rw [cnt_f (h n (by omega)), ih (fun j hj => h j (by omega))]
theorem cnt_pos {P : Nat → Bool} {n j : Nat} (hj : j < n) (h : P j = true) : 0 < cnt P n := by
  have h1 := cnt_mono P (a := j + 1) (n := n) hj
  rw [cnt_t h] at h1
  omega
/-- P has no more places than Q: strictly fewer if Q has one that P has not -/
theorem cnt_sub {P Q : Nat → Bool} : ∀ {n}, (∀ j, j < n → P j = true → Q j = true) → cnt P n ≤ cnt Q n
  | 0, _ => Nat.le_refl 0
  | n + 1, h => by
    have h1 := cnt_sub (n := n) (fun j hj => h j (by omega))
    have h2 := h n (by omega)
    unfold cnt
    cases hp : P n
    · simp; omega
    · rw [h2 hp]; simp; exact h1
theorem cnt_lt {P Q : Nat → Bool} {n i : Nat} (h : ∀ j, j < n → P j = true → Q j = true) (hi : i < n) (hq : Q i = true) (hp : P i = false) : cnt P n < cnt Q n := by
  induction n with
  | zero => exact absurd hi (Nat.not_lt_zero _)
  | succ n ih =>
    by_cases e : i = n
    · subst e
      have h1 := cnt_sub (n := i) (P := P) (Q := Q) (fun j hj => h j (by omega))
      rw [cnt_t hq, cnt_f hp]
      omega
    · have h1 := ih (fun j hj => h j (by omega)) (by omega)
      have h2 := h n (by omega)
      unfold cnt
      cases hp2 : P n
      · simp; omega
      · rw [h2 hp2]; simp; exact h1
/-- the first place below n that has Q -/
def fst9 (Q : Nat → Bool) : Nat → Option Nat
  | 0 => none
  | n + 1 => match fst9 Q n with
    | some i => some i
    | none => if Q n = true then some n else none
theorem fst9_none {Q : Nat → Bool} : ∀ {n}, (∀ a, a < n → Q a = false) → fst9 Q n = none
  | 0, _ => rfl
  | n + 1, h => by
    unfold fst9
    rw [fst9_none (n := n) (fun a ha => h a (by omega)), h n (by omega)]
    rfl
theorem fst9_some {Q : Nat → Bool} {i : Nat} (hq : Q i = true) (hb : ∀ a, a < i → Q a = false) : ∀ {n}, i < n → fst9 Q n = some i := by
  intro n h
  induction n with
  | zero => exact absurd h (Nat.not_lt_zero _)
  | succ n ih =>
    unfold fst9
    by_cases e : i = n
    · subst e
      rw [fst9_none hb, hq]
      rfl
    · rw [ih (by omega)]
theorem fst9_spec {Q : Nat → Bool} {i : Nat} : ∀ {n}, fst9 Q n = some i → i < n ∧ Q i = true ∧ ∀ a, a < i → Q a = false := by
  intro n h
  by_cases hx : ∃ k, k < n ∧ Q k = true
  · obtain ⟨k, hk, hl⟩ := pk_least (fun k => k < n ∧ Q k = true) hx
    have e : fst9 Q n = some k := fst9_some hk.2 (fun a ha => by
      cases hq : Q a
      · rfl
      · exact absurd ⟨by omega, hq⟩ (hl a ha)) hk.1
    rw [h] at e
    cases e
    exact ⟨hk.1, hk.2, fun a ha => by
      cases hq : Q a
      · rfl
      · exact absurd ⟨by omega, hq⟩ (hl a ha)⟩
  · rw [fst9_none (fun a ha => by
      cases hq : Q a
      · rfl
      · exact absurd ⟨a, ha, hq⟩ hx)] at h
    cases h
theorem fst9_no {Q : Nat → Bool} {n : Nat} (h : fst9 Q n = none) : ∀ a, a < n → Q a = false := by
  intro a ha
  cases hq : Q a
  · rfl
  · exfalso
    obtain ⟨k, hk, hl⟩ := pk_least (fun k => k < n ∧ Q k = true) ⟨a, ha, hq⟩
    have e : fst9 Q n = some k := fst9_some hk.2 (fun b hb => by
      cases hq : Q b
      · rfl
      · exact absurd ⟨by omega, hq⟩ (hl b hb)) hk.1
    rw [h] at e
    cases e
theorem fst9_congr {P Q : Nat → Bool} : ∀ {n}, (∀ j, j < n → P j = Q j) → fst9 P n = fst9 Q n
  | 0, _ => rfl
  | n + 1, h => by
    unfold fst9
    rw [fst9_congr (n := n) (fun j hj => h j (by omega)), h n (by omega)]
def oI : Option Nat → Int32
  | none => -1
  | some i => nI i
theorem oI_m1 {o : Option Nat} (h : ∀ i, o = some i → i < 2 ^ 31) : oI o = -1 ↔ o = none := by
  cases o with
  | none => exact ⟨fun _ => rfl, fun _ => rfl⟩
  | some i =>
    refine ⟨fun e => ?_, fun e => by cases e⟩
    have h1 := nI_toInt (h i rfl)
    have e2 : nI i = -1 := e
    rw [e2] at h1
    have h3 : (-1 : Int32).toInt = -1 := by decide
    omega
/-- is x a place below n -/
def hB (n : Nat) (x : Int32) : Bool := !(decide (x < 0)) && !(decide (nI n ≤ x))
theorem hB_of {n : Nat} {x : Int32} (h : hB n x = true) (hn : n < 2 ^ 31) : ∃ j, j < n ∧ x = nI j := by
  unfold hB at h
  simp only [Bool.and_eq_true, Bool.not_eq_true', decide_eq_false_iff_not] at h
  rcases pk_ix x hn with q | q | q
  · exact absurd q h.1
  · exact absurd q h.2
  · exact q
theorem hB_nI {n j : Nat} (h : j < n) (hn : n < 2 ^ 31) : hB n (nI j) = true := by
  unfold hB
  rw [decide_eq_false (nI_pos (by omega)), decide_eq_false (nI_ge h hn)]
  rfl
theorem hB_m1 (n : Nat) : hB n (-1) = false := by
  unfold hB
  rw [decide_eq_true (by decide)]
  rfl
theorem hB_in {n : Nat} {x : Int32} (h : hB n x = true) (hn : n ≤ 43) : vp_in x 43 := by
  obtain ⟨j, hj, rfl⟩ := hB_of h (by omega)
  exact vp_in_nI (by omega) (by omega)
end
section
/-! families out of kit/laws/BITS.to-paste, whole -/
/-! ===== Int32 by its bits: bt x i ===== -/
def bt (x : Int32) (i : Nat) : Bool := x.toBitVec.getLsbD i
theorem b_ext {x y : Int32} (h : ∀ i, i < 32 → bt x i = bt y i) : x = y := Int32.toBitVec_inj.mp (BitVec.eq_of_getLsbD_eq (fun i hi => h i hi))
theorem b_or (x y : Int32) (i : Nat) : bt (x ||| y) i = (bt x i || bt y i) := by unfold bt; rw [Int32.toBitVec_or, BitVec.getLsbD_or]
theorem b_and (x y : Int32) (i : Nat) : bt (x &&& y) i = (bt x i && bt y i) := by unfold bt; rw [Int32.toBitVec_and, BitVec.getLsbD_and]
theorem b_xor (x y : Int32) (i : Nat) : bt (x ^^^ y) i = (bt x i ^^ bt y i) := by unfold bt; rw [Int32.toBitVec_xor, BitVec.getLsbD_xor]
theorem b_big {x : Int32} {i : Nat} (h : 32 ≤ i) : bt x i = false := BitVec.getLsbD_of_ge _ _ h
theorem b_255 (i : Nat) : bt 255 i = decide (i < 8) := by
  rcases Nat.lt_or_ge i 32 with h | h
  · exact (by decide +kernel : ∀ i, i < 32 → bt 255 i = decide (i < 8)) i h
  · rw [b_big h, decide_eq_false (by omega)]
theorem b_65535 (i : Nat) : bt 65535 i = decide (i < 16) := by
  rcases Nat.lt_or_ge i 32 with h | h
  · exact (by decide +kernel : ∀ i, i < 32 → bt 65535 i = decide (i < 16)) i h
  · rw [b_big h, decide_eq_false (by omega)]
theorem b_m1 : ∀ i, i < 32 → bt (-1) i = true := by decide +kernel
theorem b_0 (i : Nat) : bt 0 i = false := BitVec.getLsbD_zero
theorem s_l : ∀ n, n < 32 → ((nI n &&& 31).toBitVec.smod 32).toNat = n := by decide +kernel
theorem s_u : ∀ n, n < 32 → (((nI n).toUInt32 &&& Int32.toUInt32 31).toBitVec % 32).toNat = n := by decide +kernel
theorem b_shl (n : Nat) (hn : n < 32) (x : Int32) {i : Nat} (hi : i < 32) : bt (x <<< (nI n &&& 31)) i = (decide (n ≤ i) && bt x (i - n)) := by
  unfold bt
  rw [Int32.toBitVec_shiftLeft]
  show (x.toBitVec <<< ((nI n &&& 31).toBitVec.smod 32).toNat).getLsbD i = _
  rw [s_l n hn, BitVec.getLsbD_shiftLeft]
  rcases Nat.lt_or_ge i n with h | h
  · simp [h, Nat.not_le.mpr h]
  · simp [hi, h, Nat.not_lt.mpr h]
theorem b_ushr (n : Nat) (hn : n < 32) (x : Int32) (i : Nat) : bt ((x.toUInt32 >>> ((nI n).toUInt32 &&& Int32.toUInt32 31)).toInt32) i = bt x (n + i) := by
  show (x.toUInt32 >>> ((nI n).toUInt32 &&& Int32.toUInt32 31)).toBitVec.getLsbD i = x.toUInt32.toBitVec.getLsbD (n + i)
  rw [UInt32.toBitVec_shiftRight]
  show (x.toUInt32.toBitVec >>> (((nI n).toUInt32 &&& Int32.toUInt32 31).toBitVec % 32).toNat).getLsbD i = _
  rw [s_u n hn, BitVec.getLsbD_ushiftRight]
theorem b_sshr (n : Nat) (hn : n < 32) (x : Int32) {i : Nat} (hi : i < 32) : bt (x >>> (nI n &&& 31)) i = if n + i < 32 then bt x (n + i) else bt x 31 := by
  unfold bt
  rw [Int32.toBitVec_shiftRight]
  show (x.toBitVec.sshiftRight ((nI n &&& 31).toBitVec.smod 32).toNat).getLsbD i = _
  rw [s_l n hn, BitVec.getLsbD_sshiftRight, BitVec.msb_eq_getLsbD_last]
  simp [hi]
theorem b_shl8 (x : Int32) {i : Nat} (hi : i < 32) : bt (x <<< ((8 : Int32) &&& 31)) i = (decide (8 ≤ i) && bt x (i - 8)) := b_shl 8 (by omega) x hi
theorem b_shl16 (x : Int32) {i : Nat} (hi : i < 32) : bt (x <<< ((16 : Int32) &&& 31)) i = (decide (16 ≤ i) && bt x (i - 16)) := b_shl 16 (by omega) x hi
theorem b_shl24 (x : Int32) {i : Nat} (hi : i < 32) : bt (x <<< ((24 : Int32) &&& 31)) i = (decide (24 ≤ i) && bt x (i - 24)) := b_shl 24 (by omega) x hi
theorem b_sshr8 (x : Int32) {i : Nat} (hi : i < 32) : bt (x >>> ((8 : Int32) &&& 31)) i = if 8 + i < 32 then bt x (8 + i) else bt x 31 := b_sshr 8 (by omega) x hi
/-! ===== Int64 as a set of bits: test, set, clear ===== -/
theorem ts_nf {x : Bool} (h : ¬ x = false) : x = true := by cases x <;> first | rfl | exact absurd rfl h
theorem ts_nt {x : Bool} (h : ¬ x = true) : x = false := by cases x <;> first | rfl | exact absurd rfl h
theorem ts_bit {w : Int64} {s : UInt64} {j : Nat} (hj : j < 64) (hs : s.toNat = j) : ((w.toUInt64 >>> s).toInt64 &&& 1) = 0 ↔ w.toBitVec.getLsbD j = false := by
  have e : (w.toUInt64 >>> s).toInt64.toBitVec = w.toBitVec >>> j := by
    apply BitVec.eq_of_toNat_eq
    show (w.toUInt64 >>> s).toNat = _
    rw [UInt64.toNat_shiftRight, hs, Nat.mod_eq_of_lt hj, BitVec.toNat_ushiftRight]
    rfl
  rw [← Int64.toBitVec_inj, Int64.toBitVec_and, e]
  show w.toBitVec >>> j &&& 1#64 = 0#64 ↔ _
  constructor
  · intro h
    have t := congrArg (fun x => x.getLsbD 0) h
    simpa using t
  · intro h
    apply BitVec.eq_of_getLsbD_eq
    intro i hi
    cases i with
    | zero => simp [h]
    | succ i => simp
theorem ts_or {w m : Int64} {j : Nat} (hj : j < 64) (hm : m.toBitVec = BitVec.twoPow 64 j) : (w ||| m) = w ↔ w.toBitVec.getLsbD j = true := by
  rw [← Int64.toBitVec_inj, Int64.toBitVec_or, hm]
  constructor
  · intro h
    have t := congrArg (fun x => x.getLsbD j) h
    simp only [BitVec.getLsbD_or, BitVec.getLsbD_twoPow] at t
    simpa [hj] using t.symm
  · intro h
    apply BitVec.eq_of_getLsbD_eq
    intro i hi
    rw [BitVec.getLsbD_or, BitVec.getLsbD_twoPow]
    by_cases e : j = i
    · subst e; rw [h, Bool.true_or]
    · simp [e]
theorem ts_and {w m : Int64} {j : Nat} (hj : j < 64) (hm : m.toBitVec = BitVec.twoPow 64 j) : (w &&& (m ^^^ (-1))) = w ↔ w.toBitVec.getLsbD j = false := by
  have ha : (-1 : Int64).toBitVec = BitVec.allOnes 64 := by decide
  rw [← Int64.toBitVec_inj, Int64.toBitVec_and, Int64.toBitVec_xor, hm, ha]
  constructor
  · intro h
    have t := congrArg (fun x => x.getLsbD j) h
    simp only [BitVec.getLsbD_and, BitVec.getLsbD_xor, BitVec.getLsbD_twoPow, BitVec.getLsbD_allOnes] at t
    simpa [hj] using t.symm
  · intro h
    apply BitVec.eq_of_getLsbD_eq
    intro i hi
    rw [BitVec.getLsbD_and, BitVec.getLsbD_xor, BitVec.getLsbD_twoPow, BitVec.getLsbD_allOnes]
    by_cases e : j = i
    · subst e; rw [h, Bool.false_and]
    · simp [e, hi]
/-! ===== lN n to 2^64: shifts, and, or, masks, one bit ===== -/
theorem wb_tb (n : Nat) : (lN n).toBitVec = BitVec.ofNat 64 n := rfl
theorem wb_inj {a b : Int64} (h : a.toBitVec = b.toBitVec) : a = b := Int64.toBitVec_inj.mp h
theorem wb_tn {n : Nat} (h : n < 2 ^ 64) : (lN n).toBitVec.toNat = n := by rw [wb_tb, BitVec.toNat_ofNat, Nat.mod_eq_of_lt h]
theorem wb_of (x : Int64) : ∃ n, n < 2 ^ 64 ∧ x = lN n := ⟨x.toBitVec.toNat, x.toBitVec.isLt, wb_inj (by rw [wb_tb]; simp)⟩
theorem wb_of32 (x : Int32) : ∃ n, n < 2 ^ 32 ∧ x = nI n := ⟨x.toBitVec.toNat, x.toBitVec.isLt, Int32.toBitVec_inj.mp (by show _ = BitVec.ofNat 32 _; simp)⟩
theorem wb_c : ∀ k, k < 64 → ((nI k).toInt64 &&& 63) = lN k := by decide +kernel
theorem wb_cu : ∀ k, k < 64 → ((nI k).toInt64.toUInt64 &&& Int64.toUInt64 63) = UInt64.ofNat k := by decide +kernel
theorem wb_sm : ∀ k, k < 64 → (BitVec.ofNat 64 k).smod 64 = BitVec.ofNat 64 k := by decide +kernel
theorem wb_pw {a b : Nat} (h : a ≤ b) : 2 ^ b = 2 ^ a * 2 ^ (b - a) := by rw [← Nat.pow_add]; congr 1; omega
theorem wb_lt2 {a b : Nat} (h : a < b) : 2 ^ a < 2 ^ b := Nat.pow_lt_pow_right (by decide) h
theorem wb_mod (n : Nat) : lN n = lN (n % 2 ^ 64) := wb_inj (by rw [wb_tb, wb_tb]; apply BitVec.eq_of_toNat_eq; rw [BitVec.toNat_ofNat, BitVec.toNat_ofNat, Nat.mod_mod])
theorem wb_shr {n k : Nat} (hn : n < 2 ^ 64) (hk : k < 64) : ((lN n).toUInt64 >>> ((nI k).toInt64.toUInt64 &&& Int64.toUInt64 63)).toInt64 = lN (n / 2 ^ k) := by
  rw [wb_cu k hk]
  apply wb_inj
  apply BitVec.eq_of_toNat_eq
  show ((lN n).toUInt64 >>> UInt64.ofNat k).toNat = (BitVec.ofNat 64 _).toNat
  have h1 : (UInt64.ofNat k).toNat = k := by
    show (BitVec.ofNat 64 k).toNat = k
    rw [BitVec.toNat_ofNat, Nat.mod_eq_of_lt (by omega)]
  have h2 : (lN n).toUInt64.toNat = n := wb_tn hn
  rw [UInt64.toNat_shiftRight, h1, h2, Nat.mod_eq_of_lt hk, Nat.shiftRight_eq_div_pow, BitVec.toNat_ofNat, Nat.mod_eq_of_lt (Nat.lt_of_le_of_lt (Nat.div_le_self _ _) hn)]
theorem wb_shl (n : Nat) {k : Nat} (hk : k < 64) : lN n <<< ((nI k).toInt64 &&& 63) = lN (n * 2 ^ k) := by
  rw [wb_c k hk]
  apply wb_inj
  rw [Int64.toBitVec_shiftLeft, wb_tb, wb_tb, wb_tb, wb_sm k hk]
  apply BitVec.eq_of_toNat_eq
  rw [BitVec.shiftLeft_eq', BitVec.toNat_shiftLeft, BitVec.toNat_ofNat, BitVec.toNat_ofNat, BitVec.toNat_ofNat, Nat.mod_eq_of_lt (show k < 2 ^ 64 by omega), Nat.shiftLeft_eq, Nat.mul_mod, Nat.mod_mod, ← Nat.mul_mod]
theorem wb_and {a b : Nat} (ha : a < 2 ^ 64) (hb : b < 2 ^ 64) : lN a &&& lN b = lN (a &&& b) := by
  apply wb_inj
  rw [Int64.toBitVec_and, wb_tb, wb_tb, wb_tb]
  apply BitVec.eq_of_toNat_eq
  rw [BitVec.toNat_and, BitVec.toNat_ofNat, BitVec.toNat_ofNat, BitVec.toNat_ofNat, Nat.mod_eq_of_lt ha, Nat.mod_eq_of_lt hb, Nat.mod_eq_of_lt (Nat.and_lt_two_pow _ hb)]
theorem wb_or {a b : Nat} (ha : a < 2 ^ 64) (hb : b < 2 ^ 64) : lN a ||| lN b = lN (a ||| b) := by
  apply wb_inj
  rw [Int64.toBitVec_or, wb_tb, wb_tb, wb_tb]
  apply BitVec.eq_of_toNat_eq
  rw [BitVec.toNat_or, BitVec.toNat_ofNat, BitVec.toNat_ofNat, BitVec.toNat_ofNat, Nat.mod_eq_of_lt ha, Nat.mod_eq_of_lt hb, Nat.mod_eq_of_lt (Nat.or_lt_two_pow ha hb)]
theorem wb_mask {n k : Nat} (hn : n < 2 ^ 64) (hk : k < 64) : lN n &&& lN (2 ^ k - 1) = lN (n % 2 ^ k) := by
  rw [wb_and hn (by have := wb_lt2 hk; omega), Nat.and_two_pow_sub_one_eq_mod]
theorem wb_a1 {n : Nat} (hn : n < 2 ^ 64) : lN n &&& 1 = lN (n % 2) := wb_mask (k := 1) hn (by decide)
theorem wb_bit {n k : Nat} (hn : n < 2 ^ 64) (hk : k < 64) : ((lN n).toUInt64 >>> ((nI k).toInt64.toUInt64 &&& Int64.toUInt64 63)).toInt64 &&& 1 = lN (n / 2 ^ k % 2) := by
  rw [wb_shr hn hk, wb_a1 (Nat.lt_of_le_of_lt (Nat.div_le_self _ _) hn)]
theorem wb_xor {q k : Nat} (hk : k < 63) (h : 2 ^ k ≤ q) (h2 : q < 2 ^ (k + 1)) : lN q ^^^ lN (2 ^ k) = lN (q - 2 ^ k) := by
  obtain ⟨r, rfl⟩ : ∃ r, q = 2 ^ k + r := ⟨q - 2 ^ k, by omega⟩
  have hr : r < 2 ^ k := by rw [Nat.pow_succ] at h2; omega
  have hx : (2 ^ k + r) ^^^ 2 ^ k = r := by
    apply Nat.eq_of_testBit_eq
    intro i
    rw [Nat.testBit_xor, Nat.testBit_two_pow]
    rcases Nat.lt_trichotomy i k with h | h | h
    · rw [Nat.testBit_two_pow_add_gt h]
      simp [show ¬ k = i by omega]
    · subst h
      rw [Nat.testBit_two_pow_add_eq]
      simp
    · have a1 : 2 ^ (k + 1) ≤ 2 ^ i := Nat.pow_le_pow_right (by decide) h
      rw [Nat.testBit_lt_two_pow (show 2 ^ k + r < 2 ^ i by omega), Nat.testBit_lt_two_pow (show r < 2 ^ i by omega)]
      simp [show ¬ k = i by omega]
  have b1 := wb_lt2 (show k + 1 < 64 by omega)
  have b2 := wb_lt2 (show k < 64 by omega)
  apply wb_inj
  rw [Int64.toBitVec_xor, wb_tb, wb_tb, wb_tb]
  apply BitVec.eq_of_toNat_eq
  rw [BitVec.toNat_xor, BitVec.toNat_ofNat, BitVec.toNat_ofNat, BitVec.toNat_ofNat, Nat.mod_eq_of_lt (by omega : 2 ^ k + r < 2 ^ 64), Nat.mod_eq_of_lt b2, hx, Nat.add_sub_cancel_left, Nat.mod_eq_of_lt (by omega)]
end
section
/-! PURE: a long as a set of bits; how many bits -/
def wbit (w : Int64) (j : Nat) : Bool := w.toBitVec.getLsbD j
theorem wbit_ext {x y : Int64} (h : ∀ j, j < 64 → wbit x j = wbit y j) : x = y := Int64.toBitVec_inj.mp (BitVec.eq_of_getLsbD_eq (fun i hi => h i hi))
theorem wbit_or (x y : Int64) (j : Nat) : wbit (x ||| y) j = (wbit x j || wbit y j) := by unfold wbit; rw [Int64.toBitVec_or, BitVec.getLsbD_or]
theorem wbit_and (x y : Int64) (j : Nat) : wbit (x &&& y) j = (wbit x j && wbit y j) := by unfold wbit; rw [Int64.toBitVec_and, BitVec.getLsbD_and]
theorem wbit_xor (x y : Int64) (j : Nat) : wbit (x ^^^ y) j = (wbit x j ^^ wbit y j) := by unfold wbit; rw [Int64.toBitVec_xor, BitVec.getLsbD_xor]
theorem wbit_big {x : Int64} {j : Nat} (h : 64 ≤ j) : wbit x j = false := BitVec.getLsbD_of_ge _ _ h
theorem wbit_0 (j : Nat) : wbit 0 j = false := BitVec.getLsbD_zero
theorem wbit_m1 : ∀ j, j < 64 → wbit (-1) j = true := by decide +kernel
theorem wbit_no (x y : Int64) {j : Nat} (h : j < 64) : wbit (x &&& (y ^^^ (-1))) j = (wbit x j && !wbit y j) := by
  rw [wbit_and, wbit_xor, wbit_m1 j h]
  cases wbit y j <;> rfl
theorem wbit_one : ∀ i, i < 64 → ∀ j, j < 64 → wbit ((1 : Int64) <<< ((nI i).toInt64 &&& 63)) j = decide (j = i) := by decide +kernel
theorem wbit_all : ∀ n, n < 64 → ∀ j, j < 64 → wbit (((1 : Int64) <<< ((nI n).toInt64 &&& 63)) - 1) j = decide (j < n) := by decide +kernel
theorem wbit_tst (w : Int64) {i : Nat} (hi : i < 64) : ((w.toUInt64 >>> ((nI i).toInt64.toUInt64 &&& Int64.toUInt64 63)).toInt64 &&& 1) = 0 ↔ wbit w i = false :=
  ts_bit hi (by rw [wb_cu i hi]; exact Nat.mod_eq_of_lt (by omega))
theorem wbit_z {w : Int64} : w = 0 ↔ ∀ j, j < 64 → wbit w j = false := by
  refine ⟨fun h j _ => by rw [h]; exact wbit_0 j, fun h => wbit_ext (fun j hj => by rw [h j hj, wbit_0])⟩
theorem wbit_lN {n : Nat} (h : n < 2 ^ 64) (j : Nat) : wbit (lN n) j = n.testBit j := by
  unfold wbit
  rw [BitVec.getLsbD, wb_tn h]
/-! how many bits: the library's way, byte by byte -/
def mk9 (b : Nat) : Nat → Nat
  | 0 => 0
  | k + 1 => 256 * mk9 b k + b
theorem and8 {a p : Nat} (ha : a < 256) (hp : p < 256) (m q : Nat) : (256 * m + a) &&& (256 * q + p) = 256 * (m &&& q) + (a &&& p) := by
  have hap : a &&& p < 2 ^ 8 := Nat.and_lt_two_pow a hp
  apply Nat.eq_of_testBit_eq
  intro i
  rw [Nat.testBit_and, show 256 * m + a = 2 ^ 8 * m + a from rfl, show 256 * q + p = 2 ^ 8 * q + p from rfl, show 256 * (m &&& q) + (a &&& p) = 2 ^ 8 * (m &&& q) + (a &&& p) from rfl,
    Nat.testBit_two_pow_mul_add _ ha, Nat.testBit_two_pow_mul_add _ hp, Nat.testBit_two_pow_mul_add _ hap]
  by_cases h : i < 8
  · rw [if_pos h, if_pos h, if_pos h, Nat.testBit_and]
  · rw [if_neg h, if_neg h, if_neg h, Nat.testBit_and]
def s19 (k n : Nat) : Nat := n - ((n / 2) &&& mk9 0x55 k)
def s29 (k n : Nat) : Nat := (n &&& mk9 0x33 k) + ((n / 4) &&& mk9 0x33 k)
def s39 (k n : Nat) : Nat := (n + n / 16) &&& mk9 0x0f k
theorem b19 : ∀ a, a < 256 → ∀ z, z < 2 → (128 * z + a / 2) &&& 0x55 = (a / 2) &&& 0x55 := by decide +kernel
theorem b29 : ∀ a, a < 256 → ∀ z, z < 4 → (64 * z + a / 4) &&& 0x33 = (a / 4) &&& 0x33 := by decide +kernel
theorem s19_1 (a : Nat) : s19 1 a = a - ((a / 2) &&& 0x55) := rfl
theorem s29_1 (a : Nat) : s29 1 a = (a &&& 0x33) + ((a / 4) &&& 0x33) := rfl
theorem s19_s (k m a : Nat) (ha : a < 256) : s19 (k + 1) (256 * m + a) = 256 * s19 k m + s19 1 a := by
  have e : (256 * m + a) / 2 = 256 * (m / 2) + (128 * (m % 2) + a / 2) := by omega
  have h1 : m / 2 &&& mk9 0x55 k ≤ m / 2 := Nat.and_le_left
  have h2 : a / 2 &&& 0x55 ≤ a / 2 := Nat.and_le_left
  rw [s19_1]
  show 256 * m + a - ((256 * m + a) / 2 &&& (256 * mk9 0x55 k + 0x55)) = 256 * (m - (m / 2 &&& mk9 0x55 k)) + (a - (a / 2 &&& 0x55))
  rw [e, and8 (by omega) (by decide), b19 a ha (m % 2) (Nat.mod_lt _ (by decide))]
  omega
theorem s29_s (k m a : Nat) (ha : a < 256) : s29 (k + 1) (256 * m + a) = 256 * s29 k m + s29 1 a := by
  have e : (256 * m + a) / 4 = 256 * (m / 4) + (64 * (m % 4) + a / 4) := by omega
  rw [s29_1]
  show (256 * m + a &&& (256 * mk9 0x33 k + 0x33)) + ((256 * m + a) / 4 &&& (256 * mk9 0x33 k + 0x33)) = 256 * ((m &&& mk9 0x33 k) + (m / 4 &&& mk9 0x33 k)) + ((a &&& 0x33) + (a / 4 &&& 0x33))
  rw [e, and8 ha (by decide), and8 (by omega) (by decide), b29 a ha (m % 4) (Nat.mod_lt _ (by decide))]
  omega
/-- the bits of a byte -/
def pb9 (a : Nat) : Nat := cnt a.testBit 8
def t29 (k n : Nat) : Nat := s29 k (s19 k n)
theorem t29_b : ∀ a, a < 256 → s19 1 a < 256 ∧ t29 1 a ≤ 0x44 ∧ t29 1 a % 16 ≤ 4 ∧ (t29 1 a + t29 1 a / 16) % 16 = pb9 a := by decide +kernel
theorem t29_s (k m a : Nat) (ha : a < 256) : t29 (k + 1) (256 * m + a) = 256 * t29 k m + t29 1 a := by
  unfold t29
  rw [s19_s k m a ha, s29_s k _ _ (t29_b a ha).1]
theorem t29_m : ∀ k n, t29 k n % 16 ≤ 4
  | 0, n => by
    have e : t29 0 n = 0 := by
      show (n - (n / 2 &&& 0) &&& 0) + ((n - (n / 2 &&& 0)) / 4 &&& 0) = 0
      simp
    rw [e]; decide
  | k + 1, n => by
    have e : n = 256 * (n / 256) + n % 256 := by omega
    have h := t29_b (n % 256) (Nat.mod_lt _ (by decide))
    rw [e, t29_s k _ _ (Nat.mod_lt _ (by decide))]
    omega
/-- the bytes' numbers of bits, side by side -/
def T9 : Nat → Nat → Nat
  | 0, _ => 0
  | k + 1, n => 256 * T9 k (n / 256) + pb9 (n % 256)
theorem s39_T : ∀ k n, s39 k (t29 k n) = T9 k n
  | 0, n => by
    show (_ &&& 0) = 0
    simp
  | k + 1, n => by
    have ha : n % 256 < 256 := Nat.mod_lt _ (by decide)
    have hb := t29_b (n % 256) ha
    have hm := t29_m k (n / 256)
    have ih := s39_T k (n / 256)
    have e : n = 256 * (n / 256) + n % 256 := by omega
    have e1 : t29 (k + 1) n = 256 * t29 k (n / 256) + t29 1 (n % 256) := by
      conv => lhs; rw [e]
      exact t29_s k _ _ ha
    rw [e1]
    unfold T9
    rw [← ih, ← hb.2.2.2]
    generalize t29 k (n / 256) = m at hm ⊢
    generalize t29 1 (n % 256) = a at hb ⊢
    show (256 * m + a + (256 * m + a) / 16) &&& (256 * mk9 0x0f k + 0x0f) = 256 * ((m + m / 16) &&& mk9 0x0f k) + (a + a / 16) % 16
    have e2 : 256 * m + a + (256 * m + a) / 16 = 256 * (m + m / 16) + (a + a / 16 + 16 * (m % 16)) := by omega
    rw [e2, and8 (by omega) (by decide), show (0x0f : Nat) = 2 ^ 4 - 1 from rfl, Nat.and_two_pow_sub_one_eq_mod (a + a / 16 + 16 * (m % 16)) 4]
    omega
theorem pb9_le (a : Nat) : pb9 a ≤ 8 := cnt_le _ 8
/-- the sum of the bytes' numbers -/
def S9 : Nat → Nat → Nat
  | 0, _ => 0
  | k + 1, n => S9 k (n / 256) + pb9 (n % 256)
theorem f9a {u v c : Nat} (e : u = 256 * v + c) (g : c ≤ 32) : u / 256 = v := by omega
theorem f9b {X Y a b : Nat} (e : X = 65536 * Y + (256 * a + b)) (ha : a ≤ 16) (hb : b ≤ 16) : X / 65536 = Y := by omega
theorem f9c {X0 X1 X2 X3 X4 a0 a1 a2 a3 : Nat} (e0 : X0 = 256 * X1 + a0) (e1 : X1 = 256 * X2 + a1) (e2 : X2 = 256 * X3 + a2) (e3 : X3 = 256 * X4 + a3) (g0 : a0 ≤ 32) (g1 : a1 ≤ 32) (g2 : a2 ≤ 32) (g3 : a3 ≤ 32) : X0 / 4294967296 = X4 := by
  have y : X0 = 4294967296 * X4 + (16777216 * a3 + 65536 * a2 + 256 * a1 + a0) := by omega
  clear e0 e1 e2 e3
  omega
theorem f9d {u0 u1 u2 c0 c1 u3 c2 : Nat} (e0 : u0 = 256 * u1 + c0) (e1 : u1 = 256 * u2 + c1) (e2 : u2 = 256 * u3 + c2) : u0 + u1 = 65536 * (u2 + u3) + (256 * (c1 + c2) + (c0 + c1)) := by omega
theorem f9e {u0 u1 u2 u3 u4 c0 c1 c2 c3 : Nat} (e0 : u0 = 256 * u1 + c0) (e1 : u1 = 256 * u2 + c1) (e2 : u2 = 256 * u3 + c2) (e3 : u3 = 256 * u4 + c3) : u0 + u1 + (u2 + u3) = 256 * (u1 + u2 + (u3 + u4)) + (c0 + c1 + c2 + c3) := by omega
theorem f9f {u v c b : Nat} (e : u = 256 * v + c) (g : c ≤ 8) (h : v + 1 ≤ b) : u + 1 ≤ 256 * b := by omega
theorem f9g {u0 u1 u2 u3 u4 u5 u6 u7 : Nat} (b0 : u0 + 1 ≤ 648518346341351424) (b1 : u1 + 1 ≤ 2533274790395904) (b2 : u2 + 1 ≤ 2533274790395904) (b3 : u3 + 1 ≤ 2533274790395904) (b4 : u4 + 1 ≤ 2533274790395904) (b5 : u5 + 1 ≤ 2533274790395904) (b6 : u6 + 1 ≤ 2533274790395904) (b7 : u7 + 1 ≤ 2533274790395904) : u0 < 18446744073709551616 ∧ u0 + u1 < 18446744073709551616 ∧ u0 + u1 + (u2 + u3) < 18446744073709551616 ∧ u0 + u1 + (u2 + u3) + (u4 + u5 + (u6 + u7)) < 18446744073709551616 := by omega
theorem f9h {u0 u1 u2 u3 u4 u5 u6 u7 c0 c1 c2 c3 c4 c5 c6 c7 : Nat} (e0 : u0 = 256 * u1 + c0) (e1 : u1 = 256 * u2 + c1) (e2 : u2 = 256 * u3 + c2) (e3 : u3 = 256 * u4 + c3) (e4 : u4 = 256 * u5 + c4) (e5 : u5 = 256 * u6 + c5) (e6 : u6 = 256 * u7 + c6) (e7 : u7 = c7) : u0 + u1 + (u2 + u3) + (u4 + u5 + (u6 + u7)) = 128 * (2 * (u1 + u2 + u3 + u4 + u5 + u6 + u7)) + (c7 + c6 + c5 + c4 + c3 + c2 + c1 + c0) := by omega
theorem f9i {X Y z : Nat} (e : X = 128 * Y + z) (h : z ≤ 64) : X % 128 = z := by omega
theorem T9_s (k n : Nat) : T9 (k + 1) n = 256 * T9 k (n / 256) + pb9 (n % 256) := rfl
theorem T9_1 (n : Nat) : T9 1 n = pb9 (n % 256) := by rw [T9_s 0, show T9 0 (n / 256) = 0 from rfl]; omega
theorem S9_s (k n : Nat) : S9 (k + 1) n = S9 k (n / 256) + pb9 (n % 256) := rfl
theorem S9_1 (n : Nat) : S9 1 n = pb9 (n % 256) := by rw [S9_s 0, show S9 0 (n / 256) = 0 from rfl]; omega
theorem fold9 (n : Nat) : T9 8 n < 18446744073709551616 ∧ T9 8 n + T9 8 n / 256 < 18446744073709551616 ∧ T9 8 n + T9 8 n / 256 + (T9 8 n + T9 8 n / 256) / 65536 < 18446744073709551616 ∧ ∃ z, T9 8 n + T9 8 n / 256 + (T9 8 n + T9 8 n / 256) / 65536 + (T9 8 n + T9 8 n / 256 + (T9 8 n + T9 8 n / 256) / 65536) / 4294967296 = z ∧ z < 18446744073709551616 ∧ z % 128 = S9 8 n := by
  have e0 := T9_s 7 n
  have e1 := T9_s 6 (n / 256)
  have e2 := T9_s 5 (n / 256 / 256)
  have e3 := T9_s 4 (n / 256 / 256 / 256)
  have e4 := T9_s 3 (n / 256 / 256 / 256 / 256)
  have e5 := T9_s 2 (n / 256 / 256 / 256 / 256 / 256)
  have e6 := T9_s 1 (n / 256 / 256 / 256 / 256 / 256 / 256)
  have e7 := T9_1 (n / 256 / 256 / 256 / 256 / 256 / 256 / 256)
  have es : S9 8 n = pb9 (n / 256 / 256 / 256 / 256 / 256 / 256 / 256 % 256) + pb9 (n / 256 / 256 / 256 / 256 / 256 / 256 % 256) + pb9 (n / 256 / 256 / 256 / 256 / 256 % 256) + pb9 (n / 256 / 256 / 256 / 256 % 256) + pb9 (n / 256 / 256 / 256 % 256) + pb9 (n / 256 / 256 % 256) + pb9 (n / 256 % 256) + pb9 (n % 256) := by
    rw [S9_s 7, S9_s 6, S9_s 5, S9_s 4, S9_s 3, S9_s 2, S9_s 1, S9_1]
  rw [es]
  have g0 := pb9_le (n % 256)
  have g1 := pb9_le (n / 256 % 256)
  have g2 := pb9_le (n / 256 / 256 % 256)
  have g3 := pb9_le (n / 256 / 256 / 256 % 256)
  have g4 := pb9_le (n / 256 / 256 / 256 / 256 % 256)
  have g5 := pb9_le (n / 256 / 256 / 256 / 256 / 256 % 256)
  have g6 := pb9_le (n / 256 / 256 / 256 / 256 / 256 / 256 % 256)
  have g7 := pb9_le (n / 256 / 256 / 256 / 256 / 256 / 256 / 256 % 256)
  clear es
  generalize pb9 (n % 256) = c0 at e0 g0 ⊢
  generalize pb9 (n / 256 % 256) = c1 at e1 g1 ⊢
  generalize pb9 (n / 256 / 256 % 256) = c2 at e2 g2 ⊢
  generalize pb9 (n / 256 / 256 / 256 % 256) = c3 at e3 g3 ⊢
  generalize pb9 (n / 256 / 256 / 256 / 256 % 256) = c4 at e4 g4 ⊢
  generalize pb9 (n / 256 / 256 / 256 / 256 / 256 % 256) = c5 at e5 g5 ⊢
  generalize pb9 (n / 256 / 256 / 256 / 256 / 256 / 256 % 256) = c6 at e6 g6 ⊢
  generalize pb9 (n / 256 / 256 / 256 / 256 / 256 / 256 / 256 % 256) = c7 at e7 g7 ⊢
  generalize T9 1 (n / 256 / 256 / 256 / 256 / 256 / 256 / 256) = u7 at e6 e7
  generalize T9 2 (n / 256 / 256 / 256 / 256 / 256 / 256) = u6 at e5 e6
  generalize T9 3 (n / 256 / 256 / 256 / 256 / 256) = u5 at e4 e5
  generalize T9 4 (n / 256 / 256 / 256 / 256) = u4 at e3 e4
  generalize T9 5 (n / 256 / 256 / 256) = u3 at e2 e3
  generalize T9 6 (n / 256 / 256) = u2 at e1 e2
  generalize T9 7 (n / 256) = u1 at e0 e1
  generalize T9 8 n = u0 at e0 ⊢
  have d1 : u0 / 256 = u1 := f9a e0 (by omega)
  have d2 : (u0 + u1) / 65536 = u2 + u3 := f9b (f9d e0 e1 e2) (by omega) (by omega)
  have d3 : (u0 + u1 + (u2 + u3)) / 4294967296 = u4 + u5 + (u6 + u7) := f9c (f9e e0 e1 e2 e3) (f9e e1 e2 e3 e4) (f9e e2 e3 e4 e5) (f9e e3 e4 e5 e6) (by omega) (by omega) (by omega) (by omega)
  have b7 : u7 + 1 ≤ 9 := by rw [e7]; omega
  have b6 := f9f e6 g6 b7
  have b5 := f9f e5 g5 b6
  have b4 := f9f e4 g4 b5
  have b3 := f9f e3 g3 b4
  have b2 := f9f e2 g2 b3
  have b1 := f9f e1 g1 b2
  have b0 := f9f e0 g0 b1
  obtain ⟨k0, k1, k2, k3⟩ := f9g (u0 := u0) (u1 := u1) (u2 := u2) (u3 := u3) (u4 := u4) (u5 := u5) (u6 := u6) (u7 := u7) (Nat.le_trans b0 (by decide)) (Nat.le_trans b1 (by decide)) (Nat.le_trans b2 (by decide)) (Nat.le_trans b3 (by decide)) (Nat.le_trans b4 (by decide)) (Nat.le_trans b5 (by decide)) (Nat.le_trans b6 (by decide)) (Nat.le_trans b7 (by decide))
  rw [d1, d2, d3]
  exact ⟨k0, k1, k2, _, rfl, k3, f9i (f9h e0 e1 e2 e3 e4 e5 e6 e7) (by omega)⟩
theorem cnt_add (P : Nat → Bool) (a : Nat) : ∀ b, cnt P (a + b) = cnt P a + cnt (fun j => P (a + j)) b
  | 0 => rfl
  | b + 1 => by
    show cnt P (a + b) + (P (a + b)).toNat = cnt P a + (cnt (fun j => P (a + j)) b + (P (a + b)).toNat)
    rw [cnt_add P a b]
    omega
theorem S9_cnt : ∀ k n, S9 k n = cnt n.testBit (8 * k)
  | 0, _ => rfl
  | k + 1, n => by
    have ha : n % 256 < 2 ^ 8 := Nat.mod_lt _ (by decide)
    have e : n = 2 ^ 8 * (n / 256) + n % 256 := by omega
    show S9 k (n / 256) + pb9 (n % 256) = _
    rw [S9_cnt k, show 8 * (k + 1) = 8 + 8 * k by omega, cnt_add]
    have h1 : cnt n.testBit 8 = pb9 (n % 256) := cnt_congr (fun j hj => by
      conv => lhs; rw [e]
      rw [Nat.testBit_two_pow_mul_add _ ha, if_pos hj])
    have h2 : cnt (fun j => n.testBit (8 + j)) (8 * k) = cnt (n / 256).testBit (8 * k) := cnt_congr (fun j _ => by
      show n.testBit (8 + j) = _
      conv => lhs; rw [e]
      rw [Nat.testBit_two_pow_mul_add _ ha, if_neg (by omega)]
      congr 1
      omega)
    rw [h1, h2]
    omega
/-- Long.bitCount, as its rows have it -/
def bc1 (x : Int64) : Int64 := x - ((x.toUInt64 >>> ((nI 1).toInt64.toUInt64 &&& Int64.toUInt64 63)).toInt64 &&& 6148914691236517205)
def bc2 (x : Int64) : Int64 := (x &&& 3689348814741910323) + ((x.toUInt64 >>> ((nI 2).toInt64.toUInt64 &&& Int64.toUInt64 63)).toInt64 &&& 3689348814741910323)
def bc3 (x : Int64) : Int64 := (x + (x.toUInt64 >>> ((nI 4).toInt64.toUInt64 &&& Int64.toUInt64 63)).toInt64) &&& 1085102592571150095
def bcS (k : Nat) (x : Int64) : Int64 := x + (x.toUInt64 >>> ((nI k).toInt64.toUInt64 &&& Int64.toUInt64 63)).toInt64
theorem mk55 : mk9 0x55 8 = 6148914691236517205 := by decide +kernel
theorem mk33 : mk9 0x33 8 = 3689348814741910323 := by decide +kernel
theorem mk0f : mk9 0x0f 8 = 1085102592571150095 := by decide +kernel
theorem bc1_N {n : Nat} (h : n < 2 ^ 64) : bc1 (lN n) = lN (s19 8 n) := by
  unfold bc1 s19
  rw [wb_shr h (by decide), show (6148914691236517205 : Int64) = lN 6148914691236517205 from rfl, wb_and (Nat.lt_of_le_of_lt (Nat.div_le_self _ _) h) (by decide), mk55]
  exact lN_sub (Nat.le_trans Nat.and_le_left (Nat.div_le_self _ _))
theorem bc2_N {n : Nat} (h : n < 2 ^ 64) : bc2 (lN n) = lN (s29 8 n) := by
  unfold bc2 s29
  rw [wb_shr h (by decide), show (3689348814741910323 : Int64) = lN 3689348814741910323 from rfl, wb_and (Nat.lt_of_le_of_lt (Nat.div_le_self _ _) h) (by decide), wb_and h (by decide), mk33]
  exact lN_add _ _
theorem bc3_N {n : Nat} (h : n < 2 ^ 64) (h2 : n + n / 16 < 2 ^ 64) : bc3 (lN n) = lN (s39 8 n) := by
  unfold bc3 s39
  rw [wb_shr h (by decide), show (1085102592571150095 : Int64) = lN 1085102592571150095 from rfl, lN_add, mk0f]
  exact wb_and h2 (by decide)
theorem bcS_N {n k : Nat} (h : n < 2 ^ 64) (hk : k < 64) : bcS k (lN n) = lN (n + n / 2 ^ k) := by
  unfold bcS
  rw [wb_shr h hk]
  exact lN_add _ _
theorem t29_le : ∀ k n, 15 * t29 k n + 4 ≤ 4 * 256 ^ k
  | 0, n => by
    have e : t29 0 n = 0 := by
      show (n - (n / 2 &&& 0) &&& 0) + ((n - (n / 2 &&& 0)) / 4 &&& 0) = 0
      simp
    rw [e]; decide
  | k + 1, n => by
    have ha : n % 256 < 256 := Nat.mod_lt _ (by decide)
    have hb := t29_b (n % 256) ha
    have e : n = 256 * (n / 256) + n % 256 := by omega
    have e1 : t29 (k + 1) n = 256 * t29 k (n / 256) + t29 1 (n % 256) := by
      conv => lhs; rw [e]
      exact t29_s k _ _ ha
    have ih := t29_le k (n / 256)
    rw [e1, Nat.pow_succ]
    have h2 := hb.2.1
    clear hb
    generalize t29 k (n / 256) = u at ih ⊢
    generalize t29 1 (n % 256) = v at h2 ⊢
    generalize 256 ^ k = z at ih ⊢
    omega
theorem s19_lt {n : Nat} (h : n < 2 ^ 64) : s19 8 n < 2 ^ 64 := Nat.lt_of_le_of_lt (Nat.sub_le _ _) h
theorem bits9 (x : Int64) : (bcS 32 (bcS 16 (bcS 8 (bc3 (bc2 (bc1 x)))))).toInt32 &&& nI 127 = nI (cnt (wbit x) 64) := by
  obtain ⟨n, hn, rfl⟩ := wb_of x
  have h1 := t29_le 8 n
  have hp : (256 : Nat) ^ 8 = 2 ^ 64 := by decide
  rw [hp] at h1
  rw [bc1_N hn, bc2_N (s19_lt hn)]
  show (bcS 32 (bcS 16 (bcS 8 (bc3 (lN (t29 8 n)))))).toInt32 &&& nI 127 = _
  rw [bc3_N (by omega) (by omega), s39_T]
  obtain ⟨am, a4, a5, z, hz, a6, e6⟩ := fold9 n
  rw [bcS_N am (by decide), show (2 : Nat) ^ 8 = 256 from rfl, bcS_N a4 (by decide), show (2 : Nat) ^ 16 = 65536 from rfl, bcS_N a5 (by decide), show (2 : Nat) ^ 32 = 4294967296 from rfl, lN_i, hz]
  have e7 : nI z &&& nI 127 = nI (z % 128) := by
    rw [pk_and (nI z) 7 (m := nI 127) (by decide)]
    congr 1
    show (BitVec.ofNat 32 z).toNat % 2 ^ 7 = z % 128
    rw [BitVec.toNat_ofNat]
    omega
  rw [e7, e6, S9_cnt]
  congr 1
  exact cnt_congr (fun j _ => (wbit_lN hn j).symm)
end
section
/-! PURE: what the methods of PortDrawer answer and leave, as functions of the numbers in their cells -/
def nx9 (x : Int64) : Int64 := x * 6364136223846793005 + 1442695040888963407
def hi9 (x : Int64) : Nat := x.toBitVec.toNat / 2 ^ 33
def nbX (x : Int64) (q : Nat) : Int64 := if q = 0 then x else nx9 x
def nbI (x : Int64) (q : Nat) : Int32 := if q = 0 then -1 else nI (hi9 (nx9 x) % q)
theorem hi9_lt (x : Int64) : hi9 x < 2 ^ 31 := by
  unfold hi9
  have := x.toBitVec.isLt
  omega
theorem hi9_sh (x : Int64) : ((x.toUInt64 >>> ((nI 33).toInt64.toUInt64 &&& Int64.toUInt64 63)).toInt64).toInt32 = nI (hi9 x) := by
  obtain ⟨n, hn, rfl⟩ := wb_of x
  rw [wb_shr hn (by decide), lN_i]
  unfold hi9
  rw [wb_tn hn]
theorem nb_rem (x : Int64) {q : Nat} (h0 : 0 < q) (hq : q < 2 ^ 31) : nI (hi9 x) - nI (hi9 x) / nI q * nI q = nI (hi9 x % q) := pk_rem (hi9_lt x) h0 hq
/-- may a part of kind k refer to one of kind t -/
def mR (k t : Int32) : Bool :=
  if k = nI 1 then decide (t = nI 0) else if k = nI 3 then decide (t = nI 0) else if k = nI 4 then decide (t = nI 2)
  else if k = nI 5 then (decide (t = nI 1) || decide (t = nI 3) || decide (t = nI 4)) else if k = nI 6 then (decide (t = nI 4) || decide (t = nI 5)) else false
def mP (K : Nat → Int32) (kd : Int32) : Nat → Bool := fun j => mR kd (K j)
def rm2 (x : Int32) : Int32 := x - x / nI 2 * nI 2
def aB (n : Nat) (K : Nat → Int32) (x : Int32) : Bool := hB n x && decide (K x.toNatClampNeg = nI 5)
def fB (n : Nat) (K V R : Nat → Int32) (x : Int32) : Bool := aB n K x && (hB n (R x.toNatClampNeg) && decide (rm2 (V (R x.toNatClampNeg).toNatClampNeg) = rm2 (V x.toNatClampNeg)))
def kP (K : Nat → Int32) (kd : Int32) : Nat → Bool := fun j => decide (K j = kd)
def dQ (P : Nat → Bool) (pick : Int32) : Nat → Bool := fun a => P a && decide (nI (cnt P a) = pick)
/-- what a part of kind kd refers to -/
def rfI (K : Nat → Int32) (n : Nat) (kd : Int32) (x : Int64) : Int32 := oI (fst9 (dQ (mP K kd) (nbI x (cnt (mP K kd) n))) n)
def rfX (K : Nat → Int32) (n : Nat) (kd : Int32) (x : Int64) : Int64 := nbX x (cnt (mP K kd) n)
abbrev HS : Type := Int64 × (Nat → Int32) × (Nat → Int32) × (Nat → Int32)
def adS (kd : Int32) (n : Nat) (t : HS) : HS := (rfX (upd t.2.1 n kd) n kd (nbX t.1 100), upd t.2.1 n kd, upd t.2.2.1 n (nbI t.1 100), upd t.2.2.2 n (rfI (upd t.2.1 n kd) n kd (nbX t.1 100)))
def fl3 (t : HS) : HS := adS (nI 2) 2 (adS (nI 1) 1 (adS (nI 0) 0 t))
def flL (t : HS) : Nat → HS
  | 0 => t
  | j + 1 => adS (nbI (flL t j).1 7) (j + 3) (nbX (flL t j).1 7, (flL t j).2)
def flS (sd : Int64) (K V R : Nat → Int32) (z : Nat) : HS := flL (fl3 (sd, K, V, R)) z
def eq3 (K V R K' V' R' : Nat → Int32) : Nat → Bool := fun j => decide (K j = K' j) && (decide (V j = V' j) && decide (R j = R' j))
def lkB (n n' : Nat) (K V R K' V' R' : Nat → Int32) : Bool := decide (n' = n) && (fst9 (fun j => !(eq3 K V R K' V' R' j)) n).isNone
def szB (x : Int32) : Bool := !(decide (x < 0)) && !(decide (nI 40 < x))
def allW (n : Nat) : Int64 := ((1 : Int64) <<< ((nI n).toInt64 &&& 63)) - 1
def noW (w g : Int64) : Int64 := w &&& (g ^^^ (-1))
def vdL (v : Int64) (B : Nat → Int64) : Nat → Int32
  | 0 => nI 0
  | k + 1 => if v &&& B k = 0 then vdL v B k else vdL v B k ||| (nI 1 <<< (nI k &&& 31))
def vdI (v : Int64) (B : Nat → Int64) : Int32 := vdL v B 8
theorem vdL_bt (v : Int64) (B : Nat → Int64) : ∀ k, k ≤ 32 → ∀ i, i < 32 → bt (vdL v B k) i = (decide (i < k) && !decide (v &&& B i = 0))
  | 0, _, i, _ => by
    rw [show vdL v B 0 = 0 from rfl, b_0]
    simp
  | k + 1, hk, i, hi => by
    have ih := vdL_bt v B k (by omega) i hi
    unfold vdL
    by_cases h : v &&& B k = 0
    · rw [if_pos h, ih]
      by_cases e : i = k
      · subst e; simp [h]
      · have : (i < k + 1) = (i < k) := by apply propext; omega
        simp [this]
    · rw [if_neg h, b_or, ih]
      have h1 : bt (nI 1 <<< (nI k &&& 31)) i = decide (i = k) := by
        rw [b_shl k (by omega) (nI 1) hi]
        have : ∀ j, j < 32 → bt (nI 1) j = decide (j = 0) := by decide +kernel
        by_cases e : k ≤ i
        · rw [this (i - k) (by omega)]
          by_cases e2 : i = k
          · subst e2; simp
          · simp [e, e2]; omega
        · simp [e]; omega
      rw [h1]
      by_cases e : i = k
      · subst e; simp [h]
      · have : (i < k + 1) = (i < k) := by apply propext; omega
        simp [this, e]
/-- an int whose bits from k on are 0 is a number below 2^k -/
theorem bt_lt {x : Int32} {k : Nat} (hk : k ≤ 31) (h : ∀ i, i < 32 → k ≤ i → bt x i = false) : ∃ j, j < 2 ^ k ∧ x = nI j := by
  refine ⟨x.toBitVec.toNat, ?_, ?_⟩
  · apply Nat.lt_pow_two_of_testBit
    intro i hi
    by_cases e : i < 32
    · exact h i e hi
    · exact Nat.testBit_lt_two_pow (Nat.lt_of_lt_of_le x.toBitVec.isLt (Nat.pow_le_pow_right (by decide) (by omega)))
  · apply Int32.toBitVec_inj.1
    show x.toBitVec = BitVec.ofNat 32 x.toBitVec.toNat
    simp
theorem vdI_lt (v : Int64) (B : Nat → Int64) : ∃ j, j < 256 ∧ vdI v B = nI j := by
  refine bt_lt (k := 8) (by decide) (fun i hi h => ?_)
  unfold vdI
  rw [vdL_bt v B 8 (by decide) i hi, decide_eq_false (by omega)]
  rfl
theorem vdI_in (v : Int64) (B : Nat → Int64) : vp_in (vdI v B) 256 := by
  obtain ⟨j, h, e⟩ := vdI_lt v B
  rw [e]
  exact vp_in_nI h (by decide)
def syB (S : Nat → Bool) (B : Nat → Int64) (v : Int64) : Bool := S (vdI v B).toNatClampNeg
def mgB (S : Nat → Bool) (G B : Nat → Int64) (w : Int64) : Nat → Bool := fun a => wbit w a && (!decide (noW w (G a) = 0) && syB S B (noW w (G a)))
def fgO (S : Nat → Bool) (G B : Nat → Int64) (n : Nat) (w : Int64) : Option Nat := fst9 (mgB S G B w) n
def onL (G : Nat → Int64) : Nat → Nat → Int64
  | 0 => G
  | i + 1 => vp_updL (onL G i) i ((1 : Int64) <<< ((nI i).toInt64 &&& 63))
def goS (n : Nat) (R : Nat → Int32) (i : Nat) (g : Nat → Int64) : Nat → Int64 := if hB n (R i) = true then vp_updL g (R i).toNatClampNeg (g (R i).toNatClampNeg ||| g i) else g
/-- the rows behind the parts from i on -/
def goL (n : Nat) (R : Nat → Int32) (g : Nat → Int64) : Nat → Nat → Int64
  | 0 => g
  | k + 1 => goS n R (n - (k + 1)) (goL n R g k)
def gwG (n : Nat) (R : Nat → Int32) (G : Nat → Int64) : Nat → Int64 := goL n R (onL G n) n
def zeL (B : Nat → Int64) : Nat → Nat → Int64
  | 0 => B
  | i + 1 => vp_updL (zeL B i) i 0
def kiB (k : Int32) : Bool := !(decide (k < 0)) && !(decide (nI 7 ≤ k))
def p1S (K V : Nat → Int32) (i : Nat) (b : Nat → Int64) : Nat → Int64 := if (!(decide (V i < nI 50)) && kiB (K i)) = true then vp_updL b (K i).toNatClampNeg (b (K i).toNatClampNeg ||| ((1 : Int64) <<< ((nI i).toInt64 &&& 63))) else b
def p2S (n : Nat) (K V R : Nat → Int32) (i : Nat) (b : Nat → Int64) : Nat → Int64 := if fB n K V R (nI i) = true then vp_updL b 7 (b 7 ||| ((1 : Int64) <<< ((nI i).toInt64 &&& 63))) else b
def pbL (n : Nat) (K V R : Nat → Int32) (B : Nat → Int64) : Nat → Nat → Int64
  | 0 => B
  | i + 1 => p2S n K V R i (p1S K V i (pbL n K V R B i))
def pbB (n : Nat) (K V R : Nat → Int32) (B : Nat → Int64) : Nat → Int64 := pbL n K V R (zeL B 8) n
/-- shorter: at most k turns -/
def shW (S : Nat → Bool) (G B : Nat → Int64) (n : Nat) : Nat → Int64 → Int64
  | 0, w => w
  | k + 1, w => match fgO S G B n w with
    | none => w
    | some i => shW S G B n k (noW w (G i))
def lfQ (w : Int64) (p : Int32) : Nat → Bool := fun a => wbit w a && decide (nI (cnt (wbit w) a) = p)
theorem aB_h {n : Nat} {K : Nat → Int32} {x : Int32} (h : aB n K x = true) : hB n x = true := by
  unfold aB at h
  exact (Bool.and_eq_true_iff.mp h).1
theorem mR_1 (t : Int32) : mR (nI 1) t = decide (t = nI 0) := by unfold mR; rw [if_pos rfl]
theorem mR_2 (t : Int32) : mR (nI 2) t = false := by
  unfold mR
  rw [if_neg (by decide), if_neg (by decide), if_neg (by decide), if_neg (by decide), if_neg (by decide)]
theorem mR_3 (t : Int32) : mR (nI 3) t = decide (t = nI 0) := by unfold mR; rw [if_neg (by decide), if_pos rfl]
theorem mR_4 (t : Int32) : mR (nI 4) t = decide (t = nI 2) := by unfold mR; rw [if_neg (by decide), if_neg (by decide), if_pos rfl]
theorem mR_5 (t : Int32) : mR (nI 5) t = (decide (t = nI 1) || decide (t = nI 3) || decide (t = nI 4)) := by
  unfold mR; rw [if_neg (by decide), if_neg (by decide), if_neg (by decide), if_pos rfl]
theorem mR_6 (t : Int32) : mR (nI 6) t = (decide (t = nI 4) || decide (t = nI 5)) := by
  unfold mR; rw [if_neg (by decide), if_neg (by decide), if_neg (by decide), if_neg (by decide), if_pos rfl]
theorem mR_o {k t : Int32} (h : k.toInt < 1 ∨ 6 < k.toInt) : mR k t = false := by
  have e : ∀ j, 1 ≤ j → j ≤ 6 → ¬ k = nI j := by
    intro j h1 h2 e
    rw [e, nI_toInt (by omega)] at h
    omega
  unfold mR
  rw [if_neg (e 1 (by omega) (by omega)), if_neg (e 3 (by omega) (by omega)), if_neg (e 4 (by omega) (by omega)), if_neg (e 5 (by omega) (by omega)), if_neg (e 6 (by omega) (by omega))]
theorem lkB_no {n n' i : Nat} {K V R K' V' R' : Nat → Int32} (_ : n' = n) (hi : i < n) (h : eq3 K V R K' V' R' i = false) : nI 0 = bI (lkB n n' K V R K' V' R') := by
  have h1 : (fst9 (fun j => !(eq3 K V R K' V' R' j)) n).isNone = false := by
    cases e : fst9 (fun j => !(eq3 K V R K' V' R' j)) n with
    | none =>
      have := fst9_no e i hi
      rw [h] at this
      cases this
    | some k => rfl
  unfold lkB
  rw [h1, Bool.and_false]
  rfl
def ckI (n : Nat) (K : Nat → Int32) (p : Int32) : Int32 := if p < nI 10 ∨ ¬ p < nI 17 then -1 else nI (cnt (kP K (p - nI 10)) n)
def mnB (S : Nat → Bool) (G B : Nat → Int64) (n : Nat) (w : Int64) : Bool := !decide (w = 0) && (syB S B w && decide (oI (fgO S G B n w) = -1))
def veO (S : Nat → Bool) (p : Int32) (z : Bool) : Bool := !(decide (p < 0)) && (!(decide (nI 256 ≤ p)) && !(decide (S p.toNatClampNeg = z)))
def veS (S : Nat → Bool) (p : Int32) (z : Bool) : Nat → Bool := if veO S p z = true then uB S p.toNatClampNeg z else S
theorem in_of {x : Int32} {n : Nat} (h0 : ¬ x < 0) (h1 : ¬ nI n ≤ x) (hn : n < 2 ^ 31) : vp_in x n := by
  rcases pk_ix x hn with q | q | ⟨j, hj, rfl⟩
  · exact absurd q h0
  · exact absurd q h1
  · exact vp_in_nI hj hn
theorem in_78 {x : Int32} (h0 : ¬ x < 0) (h1 : ¬ nI 7 ≤ x) : vp_in x 8 := by
  rcases pk_ix x (n := 7) (by decide) with q | q | ⟨j, hj, rfl⟩
  · exact absurd q h0
  · exact absurd q h1
  · exact vp_in_nI (by omega) (by decide)
theorem dn_lt {k : Nat} (h : k ≤ 43) : (nI k) - (nI 1) < 0 ↔ k = 0 := by
  rcases k with _ | k
  · exact ⟨fun _ => rfl, fun _ => by decide⟩
  · have e : nI (k + 1) - nI 1 = nI k := nI_pred k
    rw [e]
    exact ⟨fun z => absurd z (nI_pos (by omega)), fun z => by omega⟩
theorem dn_inc (k : Nat) : nI k + (-1) = nI k - nI 1 := by
  rw [Int32.sub_eq_add_neg]
  rfl
theorem goL_f {n k r : Nat} {R : Nat → Int32} {g : Nat → Int64} (h : k + 1 + r = n) (c : hB n (R k) = false) : goL n R g (r + 1) = goL n R g r := by
  show goS n R (n - (r + 1)) (goL n R g r) = _
  rw [show n - (r + 1) = k by omega]
  unfold goS
  rw [c]
  rfl
theorem goL_t {n k r : Nat} {R : Nat → Int32} {g : Nat → Int64} (h : k + 1 + r = n) (c : hB n (R k) = true) : goL n R g (r + 1) = vp_updL (goL n R g r) (R k).toNatClampNeg (goL n R g r (R k).toNatClampNeg ||| goL n R g r k) := by
  show goS n R (n - (r + 1)) (goL n R g r) = _
  rw [show n - (r + 1) = k by omega]
  unfold goS
  rw [if_pos c]
def shO (S : Nat → Bool) (G B : Nat → Int64) (n : Nat) (w : Int64) : Int64 := if syB S B w = true then shW S G B n 43 w else allW n
theorem fgO_lt {S : Nat → Bool} {G B : Nat → Int64} {n i : Nat} {w : Int64} (h : fgO S G B n w = some i) : i < n := (fst9_spec h).1
theorem fg_some {S : Nat → Bool} {G B : Nat → Int64} {n : Nat} {w : Int64} (h : ¬ oI (fgO S G B n w) = -1) : ∃ i, i < n ∧ fgO S G B n w = some i := by
  cases e : fgO S G B n w with
  | none => rw [e] at h; exact absurd rfl h
  | some i => exact ⟨i, fgO_lt e, rfl⟩
theorem shW_s {S : Nat → Bool} {G B : Nat → Int64} {n r i : Nat} {v : Int64} (h : r < 43) (ho : fgO S G B n v = some i) : shW S G B n (43 - r) v = shW S G B n (43 - (r + 1)) (noW v (G i)) := by
  rw [show 43 - r = (43 - (r + 1)) + 1 by omega]
  show (match fgO S G B n v with | none => v | some i => shW S G B n (43 - (r + 1)) (noW v (G i))) = _
  rw [ho]
theorem shO_v {S : Nat → Bool} {G B : Nat → Int64} {n r : Nat} {v w : Int64} (hs : syB S B w = true) (h : shW S G B n (43 - r) v = shW S G B n 43 w) (ho : r = 43 ∨ oI (fgO S G B n v) = -1) (hn : n ≤ 43) : v = shO S G B n w := by
  unfold shO
  rw [if_pos hs, ← h]
  rcases ho with e | e
  · rw [e]; rfl
  · have e2 : fgO S G B n v = none := (oI_m1 (fun i hi => by have := fgO_lt hi; omega)).mp e
    cases hk : 43 - r with
    | zero => rfl
    | succ k =>
      show v = (match fgO S G B n v with | none => v | some i => shW S G B n k (noW v (G i)))
      rw [e2]
def ptI (K V R : Nat → Int32) (w : Int64) (i : Nat) (p : Int32) : Int32 := if p = nI 0 then K i else if p = nI 1 then nI (cnt (kP K (K i)) i) else if p = nI 2 then V i else if p = nI 3 then R i else bI (wbit w i)
section Pt
variable {K V R : Nat → Int32} {w : Int64} {i : Nat}
theorem pt_0 : ptI K V R w i (nI 0) = K i := by unfold ptI; rw [if_pos rfl]
theorem pt_1 : ptI K V R w i (nI 1) = nI (cnt (kP K (K i)) i) := by unfold ptI; rw [if_neg (by decide), if_pos rfl]
theorem pt_2 : ptI K V R w i (nI 2) = V i := by unfold ptI; rw [if_neg (by decide), if_neg (by decide), if_pos rfl]
theorem pt_3 : ptI K V R w i (nI 3) = R i := by unfold ptI; rw [if_neg (by decide), if_neg (by decide), if_neg (by decide), if_pos rfl]
theorem pt_4 : ptI K V R w i (nI 4) = bI (wbit w i) := by unfold ptI; rw [if_neg (by decide), if_neg (by decide), if_neg (by decide), if_neg (by decide)]
end Pt
theorem szB_nI {z : Nat} (h : z ≤ 40) : szB (nI z) = true := by
  unfold szB
  rw [decide_eq_false (nI_pos (by omega)), decide_eq_false (nI_nlt h (by decide))]
  rfl
theorem szB_of {x : Int32} (h : szB x = true) : ∃ z, z ≤ 40 ∧ x = nI z := by
  unfold szB at h
  simp only [Bool.and_eq_true, Bool.not_eq_true', decide_eq_false_iff_not] at h
  obtain ⟨j, hj, rfl⟩ := nI_of h.1
  have h2 := (not_congr (nI_ltI (by decide) hj)).mp h.2
  exact ⟨j, by omega, rfl⟩
def ctI (n : Nat) (K : Nat → Int32) (B : Nat → Int64) (S : Nat → Bool) (w : Int64) (p : Int32) : Int32 := if p = nI 0 then nI n else if p = nI 1 then nI (cnt (wbit w) 64) else if p = nI 2 then nI (cnt (kP K (nI 5)) n) else if p = nI 3 then nI (cnt (wbit (B 7)) 64) else if p = nI 4 then nI (cnt S 256) else ckI n K p
section Ct
variable {n : Nat} {K : Nat → Int32} {B : Nat → Int64} {S : Nat → Bool} {w : Int64} {p : Int32}
theorem ct_0 : ctI n K B S w (nI 0) = nI n := by unfold ctI; rw [if_pos rfl]
theorem ct_1 : ctI n K B S w (nI 1) = nI (cnt (wbit w) 64) := by unfold ctI; rw [if_neg (by decide), if_pos rfl]
theorem ct_2 : ctI n K B S w (nI 2) = nI (cnt (kP K (nI 5)) n) := by unfold ctI; rw [if_neg (by decide), if_neg (by decide), if_pos rfl]
theorem ct_3 : ctI n K B S w (nI 3) = nI (cnt (wbit (B 7)) 64) := by unfold ctI; rw [if_neg (by decide), if_neg (by decide), if_neg (by decide), if_pos rfl]
theorem ct_4 : ctI n K B S w (nI 4) = nI (cnt S 256) := by unfold ctI; rw [if_neg (by decide), if_neg (by decide), if_neg (by decide), if_neg (by decide), if_pos rfl]
theorem ct_o (h : p.toInt < 0 ∨ 4 < p.toInt) : ctI n K B S w p = ckI n K p := by
  have e : ∀ j, j ≤ 4 → ¬ p = nI j := by
    intro j h2 e
    rw [e, nI_toInt (by omega)] at h
    omega
  unfold ctI
  rw [if_neg (e 0 (by omega)), if_neg (e 1 (by omega)), if_neg (e 2 (by omega)), if_neg (e 3 (by omega)), if_neg (e 4 (by omega))]
end Ct
theorem vdL_z {v : Int64} {B : Nat → Int64} {k : Nat} (h : v &&& B k = 0) : vdL v B (k + 1) = vdL v B k := if_pos h
theorem vdL_n {v : Int64} {B : Nat → Int64} {k : Nat} (h : ¬ v &&& B k = 0) : vdL v B (k + 1) = vdL v B k ||| (nI 1 <<< (nI k &&& 31)) := if_neg h
end
section
/-! PURE: what goes with a part, bit by bit; which parts have a verdict's bit -/
def gwI (n : Nat) (R : Nat → Int32) (k t : Nat) (m : Nat) : Bool :=
  decide (m = t) || (decide (k ≤ m) && (hB n (R m) && (if h : (R m).toNatClampNeg < m then gwI n R k t (R m).toNatClampNeg else false)))
termination_by m
def rOK (n : Nat) (R : Nat → Int32) : Prop := ∀ m, m < n → hB n (R m) = true → (R m).toNatClampNeg < m
theorem gwI_lt {n k t m : Nat} {R : Nat → Int32} (h : m < k) : gwI n R k t m = decide (m = t) := by
  rw [gwI, decide_eq_false (by omega : ¬ k ≤ m)]
  simp
theorem gwI_f {n k t m : Nat} {R : Nat → Int32} (h : hB n (R m) = false) : gwI n R k t m = decide (m = t) := by
  rw [gwI, h]
  simp
theorem gwI_t {n k t m : Nat} {R : Nat → Int32} (hk : k ≤ m) (h : hB n (R m) = true) (hl : (R m).toNatClampNeg < m) : gwI n R k t m = (decide (m = t) || gwI n R k t (R m).toNatClampNeg) := by
  rw [gwI, h, decide_eq_true hk, dif_pos hl]
  simp
theorem gwI_step {n k t : Nat} {R : Nat → Int32} (hR : rOK n R) (hk : k < n) : ∀ m, m < n → gwI n R k t m = (gwI n R (k + 1) t m || (decide (t = (R k).toNatClampNeg) && (hB n (R k) && gwI n R (k + 1) k m))) := by
  intro m
  induction m using Nat.strongRecOn with
  | ind m ih =>
    intro hm
    rcases Nat.lt_trichotomy m k with h | h | h
    · rw [gwI_lt h, gwI_lt (by omega), gwI_lt (by omega), decide_eq_false (by omega : ¬ m = k)]
      simp
    · subst h
      rw [gwI_lt (k := m + 1) (t := t) (by omega), gwI_lt (k := m + 1) (t := m) (by omega), decide_eq_true (rfl : m = m)]
      cases hb : hB n (R m)
      · rw [gwI_f hb]; simp
      · have hl := hR m hm hb
        rw [gwI_t (Nat.le_refl m) hb hl, gwI_lt hl]
        have e : decide ((R m).toNatClampNeg = t) = decide (t = (R m).toNatClampNeg) := by
          by_cases e : t = (R m).toNatClampNeg
          · rw [decide_eq_true e, decide_eq_true e.symm]
          · rw [decide_eq_false e, decide_eq_false (fun z => e z.symm)]
        rw [e]
        simp
    · cases hb : hB n (R m)
      · rw [gwI_f hb, gwI_f hb, gwI_f hb, decide_eq_false (by omega : ¬ m = k)]
        simp
      · have hl := hR m hm hb
        rw [gwI_t (by omega) hb hl, gwI_t (k := k + 1) (t := t) (by omega) hb hl, gwI_t (k := k + 1) (t := k) (by omega) hb hl, decide_eq_false (by omega : ¬ m = k), ih _ hl (by omega)]
        generalize gwI n R (k + 1) t (R m).toNatClampNeg = a
        generalize gwI n R (k + 1) k (R m).toNatClampNeg = b
        generalize decide (m = t) = c
        generalize decide (t = (R k).toNatClampNeg) = d
        generalize hB n (R k) = e
        cases a <;> cases b <;> cases c <;> cases d <;> cases e <;> rfl
theorem onL_at (G : Nat → Int64) : ∀ i t, t < i → onL G i t = ((1 : Int64) <<< ((nI t).toInt64 &&& 63))
  | 0, t, h => absurd h (Nat.not_lt_zero _)
  | i + 1, t, h => by
    show vp_updL (onL G i) i ((1 : Int64) <<< ((nI i).toInt64 &&& 63)) t = _
    by_cases e : t = i
    · subst e; exact pk_uLs
    · rw [pk_uLn e]; exact onL_at G i t (by omega)
theorem goL_bit {n : Nat} {R : Nat → Int32} {G : Nat → Int64} (hn : n ≤ 43) (hR : rOK n R) : ∀ r k, k + r = n → ∀ t, t < n → ∀ m, m < 64 → wbit (goL n R (onL G n) r t) m = (decide (m < n) && gwI n R k t m) := by
  intro r
  induction r with
  | zero =>
    intro k hk t ht m hm
    show wbit (onL G n t) m = _
    rw [onL_at G n t ht, wbit_one t (by omega) m hm]
    by_cases h : m < n
    · rw [gwI_lt (by omega), decide_eq_true h]; rfl
    · rw [decide_eq_false h, decide_eq_false (by omega)]; rfl
  | succ r ih =>
    intro k hk t ht m hm
    have h0 := ih (k + 1) (by omega)
    by_cases h : m < n
    · have hs := gwI_step (t := t) hR (by omega : k < n) m h
      cases hb : hB n (R k)
      · rw [goL_f (by omega : k + 1 + r = n) hb, h0 t ht m hm, hs, hb]
        simp
      · have hl := hR k (by omega) hb
        rw [goL_t (by omega : k + 1 + r = n) hb, hs, hb]
        by_cases e : t = (R k).toNatClampNeg
        · rw [← e, pk_uLs, wbit_or, h0 t ht m hm, h0 k (by omega) m hm, decide_eq_true h, decide_eq_true (rfl : t = t)]
          simp
        · rw [pk_uLn e, h0 t ht m hm, decide_eq_false e]
          simp
    · rw [decide_eq_false h]
      cases hb : hB n (R k)
      · rw [goL_f (by omega : k + 1 + r = n) hb, h0 t ht m hm, decide_eq_false h]
        simp
      · have hl := hR k (by omega) hb
        rw [goL_t (by omega : k + 1 + r = n) hb]
        by_cases e : t = (R k).toNatClampNeg
        · rw [← e, pk_uLs, wbit_or, h0 t ht m hm, h0 k (by omega) m hm, decide_eq_false h]
          simp
        · rw [pk_uLn e, h0 t ht m hm, decide_eq_false h]
          simp
theorem gwG_bit {n : Nat} {R : Nat → Int32} {G : Nat → Int64} (hn : n ≤ 43) (hR : rOK n R) {t m : Nat} (ht : t < n) (hm : m < 64) : wbit (gwG n R G t) m = (decide (m < n) && gwI n R 0 t m) := goL_bit hn hR n 0 (by omega) t ht m hm
theorem zeL_at (B : Nat → Int64) : ∀ i b, b < i → zeL B i b = 0
  | 0, _, h => absurd h (Nat.not_lt_zero _)
  | i + 1, b, h => by
    show vp_updL (zeL B i) i 0 b = 0
    by_cases e : b = i
    · subst e; exact pk_uLs
    · rw [pk_uLn e]; exact zeL_at B i b (by omega)
theorem kiB_of {k : Int32} (h : kiB k = true) : ∃ j, j < 7 ∧ k = nI j := hB_of (n := 7) h (by decide)
/-- has part i the verdict's bit b -/
def pq9 (n : Nat) (K V R : Nat → Int32) (b i : Nat) : Bool := if b = 7 then fB n K V R (nI i) else (!(decide (V i < nI 50)) && decide (K i = nI b))
theorem p1S_7 (K V : Nat → Int32) (i : Nat) (g : Nat → Int64) : p1S K V i g 7 = g 7 := by
  unfold p1S
  by_cases h : (!(decide (V i < nI 50)) && kiB (K i)) = true
  · rw [if_pos h]
    obtain ⟨j, hj, e⟩ := kiB_of (Bool.and_eq_true_iff.mp h).2
    rw [e, nI_clamp (by omega), pk_uLn (by omega)]
  · rw [if_neg h]
theorem p1S_b {K V : Nat → Int32} {i b : Nat} {g : Nat → Int64} (hb : b < 7) (m : Nat) : wbit (p1S K V i g b) m = (wbit (g b) m || ((!(decide (V i < nI 50)) && decide (K i = nI b)) && wbit ((1 : Int64) <<< ((nI i).toInt64 &&& 63)) m)) := by
  unfold p1S
  by_cases h : (!(decide (V i < nI 50)) && kiB (K i)) = true
  · rw [if_pos h]
    obtain ⟨h1, h2⟩ := Bool.and_eq_true_iff.mp h
    obtain ⟨j, hj, e⟩ := kiB_of h2
    rw [h1, e, nI_clamp (by omega)]
    by_cases e2 : b = j
    · subst e2
      rw [pk_uLs, wbit_or, decide_eq_true (rfl : nI b = nI b)]
      simp
    · rw [pk_uLn e2, decide_eq_false (fun z => e2 ((nI_eq (by omega) (by omega)).mp z).symm)]
      simp
  · rw [if_neg h]
    have h3 : (!(decide (V i < nI 50)) && decide (K i = nI b)) = false := by
      cases hv : (!(decide (V i < nI 50)))
      · rfl
      · rw [hv] at h
        by_cases e : K i = nI b
        · exfalso
          apply h
          rw [e]
          exact hB_nI (n := 7) hb (by decide)
        · rw [decide_eq_false e]; rfl
    rw [h3]
    simp
theorem p2S_b {n : Nat} {K V R : Nat → Int32} {i b : Nat} {g : Nat → Int64} (hb : b < 7) : p2S n K V R i g b = g b := by
  unfold p2S
  by_cases h : fB n K V R (nI i) = true
  · rw [if_pos h, pk_uLn (by omega)]
  · rw [if_neg h]
theorem p2S_7 {n : Nat} {K V R : Nat → Int32} {i : Nat} {g : Nat → Int64} (m : Nat) : wbit (p2S n K V R i g 7) m = (wbit (g 7) m || (fB n K V R (nI i) && wbit ((1 : Int64) <<< ((nI i).toInt64 &&& 63)) m)) := by
  unfold p2S
  cases h : fB n K V R (nI i)
  · simp
  · rw [if_pos rfl, pk_uLs, wbit_or]
    simp
theorem pbL_bit {n : Nat} {K V R : Nat → Int32} {B : Nat → Int64} {b : Nat} (hb : b < 8) : ∀ i0, i0 ≤ 43 → ∀ m, m < 64 → wbit (pbL n K V R (zeL B 8) i0 b) m = (decide (m < i0) && pq9 n K V R b m) := by
  intro i0
  induction i0 with
  | zero =>
    intro _ m _
    show wbit (zeL B 8 b) m = _
    rw [zeL_at B 8 b hb, wbit_0]
    simp
  | succ i ih =>
    intro hi m hm
    have h0 := ih (by omega) m hm
    show wbit (p2S n K V R i (p1S K V i (pbL n K V R (zeL B 8) i)) b) m = _
    have hone := wbit_one i (by omega) m hm
    have hsp : (decide (m < i + 1) && pq9 n K V R b m) = ((decide (m < i) && pq9 n K V R b m) || (pq9 n K V R b i && decide (m = i))) := by
      rcases Nat.lt_trichotomy m i with h | h | h
      · rw [decide_eq_true (by omega : m < i + 1), decide_eq_true h, decide_eq_false (by omega : ¬ m = i)]
        simp
      · subst h
        rw [decide_eq_true (by omega : m < m + 1), decide_eq_false (by omega : ¬ m < m), decide_eq_true rfl]
        simp
      · rw [decide_eq_false (by omega : ¬ m < i + 1), decide_eq_false (by omega : ¬ m < i), decide_eq_false (by omega : ¬ m = i)]
        simp
    rw [hsp]
    by_cases e : b = 7
    · subst e
      rw [p2S_7, p1S_7, h0, hone]
      rfl
    · rw [p2S_b (by omega), p1S_b (by omega), h0, hone]
      unfold pq9
      rw [if_neg e, if_neg e]
theorem pbB_bit {n : Nat} {K V R : Nat → Int32} {B : Nat → Int64} {b m : Nat} (hn : n ≤ 43) (hb : b < 8) (hm : m < 64) : wbit (pbB n K V R B b) m = (decide (m < n) && pq9 n K V R b m) := pbL_bit hb n hn m hm
/-- has some place below n Q -/
def anB (Q : Nat → Bool) (n : Nat) : Bool := decide (0 < cnt Q n)
theorem anB_t {Q : Nat → Bool} {n i : Nat} (hi : i < n) (h : Q i = true) : anB Q n = true := decide_eq_true (cnt_pos hi h)
theorem anB_f {Q : Nat → Bool} {n : Nat} (h : ∀ i, i < n → Q i = false) : anB Q n = false := by
  unfold anB
  rw [cnt_0 h]
  rfl
theorem anB_of {Q : Nat → Bool} {n : Nat} (h : anB Q n = true) : ∃ i, i < n ∧ Q i = true := by
  cases e : fst9 Q n with
  | none => rw [anB_f (fst9_no e)] at h; cases h
  | some i => exact ⟨i, (fst9_spec e).1, (fst9_spec e).2.1⟩
theorem anB_congr {P Q : Nat → Bool} {n : Nat} (h : ∀ j, j < n → P j = Q j) : anB P n = anB Q n := by
  unfold anB
  rw [cnt_congr h]
theorem and_z {v u : Int64} {n : Nat} {P Q : Nat → Bool} (hn : n ≤ 64) (hv : ∀ m, m < 64 → wbit v m = (decide (m < n) && P m)) (hu : ∀ m, m < 64 → wbit u m = (decide (m < n) && Q m)) : decide (v &&& u = 0) = !(anB (fun m => P m && Q m) n) := by
  cases e : anB (fun m => P m && Q m) n
  · have h : v &&& u = 0 := wbit_z.mpr (fun m hm => by
      rw [wbit_and, hv m hm, hu m hm]
      by_cases h : m < n
      · cases hp : P m <;> cases hq : Q m <;> simp
        rw [anB_t (Q := fun m => P m && Q m) h (by simp [hp, hq])] at e
        cases e
      · rw [decide_eq_false h]; rfl)
    rw [decide_eq_true h]
    rfl
  · obtain ⟨i, hi, h⟩ := anB_of e
    have h2 : ¬ v &&& u = 0 := fun z => by
      have h3 := wbit_z.mp z i (by omega)
      rw [wbit_and, hv i (by omega), hu i (by omega), decide_eq_true hi] at h3
      simp only [Bool.true_and] at h3
      rw [h] at h3
      cases h3
    rw [decide_eq_false h2]
    rfl
end
section
/-! PURE: what the methods of the reference answer and leave -/
def fF : Nat → Bool := fun _ => false
theorem ar_at {D : va_G} {cl : List vw_C} {a : Nat} {cA : ClassId} {n : Nat} {f g : Nat → Int32} {H : Heap} (he : ∀ j, j < n → f j = g j) (h : va_at D cl (a, .inl (cA, n, .inl f)) H) : va_at D cl (a, .inl (cA, n, .inl g)) H := by
  have e : vp_cell cA (n, .inl f) = vp_cell cA (n, .inl g) := by
    show arrV cA n (fun j => Value.int (f j)) = arrV cA n (fun j => Value.int (g j))
    unfold arrV
    congr 1
    congr 1
    funext j
    show Value.int (f j.val) = Value.int (g j.val)
    rw [he j.val j.isLt]
  exact h.trans (congrArg some e)
theorem ar_P {D : va_G} {cl : List vw_C} {ws : va_W} {H : Heap} (hP : va_P D cl ws H) (k : Nat) {a : Nat} {cA : ClassId} {n : Nat} {f g : Nat → Int32} (hk : ws[k]? = some (a, .inl (cA, n, .inl f))) (he : ∀ j, j < n → f j = g j) : va_P D cl (ws.set k (a, .inl (cA, n, .inl g))) H := by
  intro i q hq
  by_cases e : i = k
  · subst e
    have hlt : i < ws.length := (List.getElem?_eq_some_iff.mp hk).1
    rw [List.getElem?_set_self hlt] at hq
    cases hq
    exact ar_at he (hP i _ hk)
  · rw [List.getElem?_set_ne (fun z => e z.symm)] at hq
    exact hP i q hq
theorem ar_D {A : Nat → Prop} {ws : va_W} (hD : va_D A ws) (k : Nat) {a : Nat} {e e' : va_E} (hk : ws[k]? = some (a, e)) : va_D A (ws.set k (a, e')) := by
  have hlt : k < ws.length := (List.getElem?_eq_some_iff.mp hk).1
  have h : ∀ (i : Nat) (q : Nat × va_E), (ws.set k (a, e'))[i]? = some q → ∃ q' : Nat × va_E, ws[i]? = some q' ∧ q'.1 = q.1 := by
    intro i q hq
    by_cases z : i = k
    · subst z
      rw [List.getElem?_set_self hlt] at hq
      cases hq
      exact ⟨_, hk, rfl⟩
    · rw [List.getElem?_set_ne (fun y => z y.symm)] at hq
      exact ⟨q, hq, rfl⟩
  refine ⟨fun i j p q hp hq e => ?_, fun i q hq => ?_⟩
  · obtain ⟨p', hp', ep⟩ := h i p hp
    obtain ⟨q', hq', eq⟩ := h j q hq
    exact hD.1 i j p' q' hp' hq' (by rw [ep, eq]; exact e)
  · obtain ⟨q', hq', eq⟩ := h i q hq
    rw [← eq]
    exact hD.2 i q' hq'
def rfK (n : Nat) (R : Nat → Int32) : Prop := ∀ i, i < n → R i = -1 ∨ ∃ r, r < i ∧ R i = nI r
def kdK (n : Nat) (K : Nat → Int32) : Prop := ∀ i, i < n → ∃ k, k < 7 ∧ K i = nI k
theorem rfK_in {n i m : Nat} {R : Nat → Int32} (h : rfK n R) (hi : i < n) (hn : n ≤ m) (hm : m < 2 ^ 31) (hr : ¬ R i = -1) : vp_in (R i) m := by
  rcases h i hi with e | ⟨r, h1, e⟩
  · exact absurd e hr
  · rw [e]; exact vp_in_nI (by omega) hm
def ft9 (V R : Nat → Int32) (i : Nat) : Bool := !decide (R i = -1) && decide (rm2 (V (R i).toNatClampNeg) = rm2 (V i))
def inB (v a b : Int32) : Bool := !decide (v < a) && !decide (b < v)
def jdA (K V : Nat → Int32) (i : Nat) (v : Int32) : Int32 := v ||| (if V i < nI 50 then nI 0 else nI 1 <<< (K i &&& 31))
def jdS (K V R : Nat → Int32) (i : Nat) (v : Int32) : Int32 := jdA K V i v ||| (if (decide (K i = nI 5) && ft9 V R i) = true then nI 128 else nI 0)
def jdL (K V R : Nat → Int32) (L G : Nat → Bool) : Nat → Int32
  | 0 => nI 0
  | i + 1 => if (L i && !G i) = true then jdS K V R i (jdL K V R L G i) else jdL K V R L G i
theorem jdL_t {K V R : Nat → Int32} {L G : Nat → Bool} {i : Nat} (h1 : L i = true) (h2 : G i = false) : jdS K V R i (jdL K V R L G i) = jdL K V R L G (i + 1) := (if_pos (by rw [h1, h2]; rfl)).symm
theorem jdL_f1 {K V R : Nat → Int32} {L G : Nat → Bool} {i : Nat} (h1 : L i = false) : jdL K V R L G i = jdL K V R L G (i + 1) := (if_neg (by rw [h1]; simp)).symm
theorem jdL_f2 {K V R : Nat → Int32} {L G : Nat → Bool} {i : Nat} (h2 : G i = true) : jdL K V R L G i = jdL K V R L G (i + 1) := (if_neg (by rw [h2]; cases L i <;> decide)).symm
/-- which bit of a verdict part i gives -/
def jq9 (K V R : Nat → Int32) (b i : Nat) : Bool := (!(decide (V i < nI 50)) && decide (K i = nI b)) || (decide (b = 7) && (decide (K i = nI 5) && ft9 V R i))
theorem jdL_bt {n : Nat} {K V R : Nat → Int32} {L G : Nat → Bool} (hk : kdK n K) : ∀ m, m ≤ n → ∀ b, b < 32 → bt (jdL K V R L G m) b = anB (fun i => (L i && !G i) && jq9 K V R b i) m := by
  intro m
  induction m with
  | zero =>
    intro _ b _
    rw [show jdL K V R L G 0 = 0 from rfl, b_0]
    rfl
  | succ i ih =>
    intro hm b hb
    have h0 := ih (by omega) b hb
    have ha : anB (fun i => (L i && !G i) && jq9 K V R b i) (i + 1) = (anB (fun i => (L i && !G i) && jq9 K V R b i) i || ((L i && !G i) && jq9 K V R b i)) := by
      cases e : ((L i && !G i) && jq9 K V R b i)
      · unfold anB
        rw [cnt_f (P := fun i => (L i && !G i) && jq9 K V R b i) e, Bool.or_false]
      · rw [anB_t (Q := fun i => (L i && !G i) && jq9 K V R b i) (Nat.lt_succ_self i) e, Bool.or_true]
    rw [ha]
    by_cases hc : (L i && !G i) = true
    · rw [show jdL K V R L G (i + 1) = jdS K V R i (jdL K V R L G i) from if_pos hc, hc]
      unfold jdS jdA
      rw [b_or, b_or, h0]
      obtain ⟨k, hk7, ek⟩ := hk i (by omega)
      have h1 : bt (if V i < nI 50 then nI 0 else nI 1 <<< (K i &&& 31)) b = (!(decide (V i < nI 50)) && decide (K i = nI b)) := by
        by_cases hv : V i < nI 50
        · rw [if_pos hv, decide_eq_true hv, show nI 0 = 0 from rfl, b_0]; rfl
        · rw [if_neg hv, decide_eq_false hv, ek, b_shl k (by omega) (nI 1) hb]
          have hone : ∀ j, j < 32 → bt (nI 1) j = decide (j = 0) := by decide +kernel
          by_cases e : k ≤ b
          · rw [hone (b - k) (by omega)]
            by_cases e2 : b = k
            · subst e2; simp
            · rw [decide_eq_false (by omega : ¬ b - k = 0), decide_eq_false (fun z => e2 ((nI_eq (by omega) (by omega)).mp z).symm)]; simp
          · rw [decide_eq_false e, decide_eq_false (fun z => e (by have := (nI_eq (by omega) (by omega)).mp z; omega))]; rfl
      have h2 : bt (if (decide (K i = nI 5) && ft9 V R i) = true then nI 128 else nI 0) b = (decide (b = 7) && (decide (K i = nI 5) && ft9 V R i)) := by
        cases hq : (decide (K i = nI 5) && ft9 V R i)
        · rw [if_neg (by decide), show nI 0 = 0 from rfl, b_0]; simp
        · rw [if_pos rfl]
          have h128 : ∀ j, j < 32 → bt (nI 128) j = decide (j = 7) := by decide +kernel
          rw [h128 b hb]; simp
      rw [h1, h2]
      unfold jq9
      simp [Bool.or_assoc]
    · rw [show jdL K V R L G (i + 1) = jdL K V R L G i from if_neg hc, h0]
      have : (L i && !G i) = false := by cases z : (L i && !G i); rfl; exact absurd z hc
      rw [this]; simp
theorem jdL_lt {n : Nat} {K V R : Nat → Int32} {L G : Nat → Bool} (hk : kdK n K) : ∃ j, j < 256 ∧ jdL K V R L G n = nI j := by
  refine bt_lt (k := 8) (by decide) (fun b hb h8 => ?_)
  rw [jdL_bt hk n (Nat.le_refl n) b hb]
  refine anB_f (fun i hi => ?_)
  obtain ⟨k, hk7, ek⟩ := hk i hi
  show ((L i && !G i) && jq9 K V R b i) = false
  unfold jq9
  rw [ek, decide_eq_false (fun z => by have := (nI_eq (by omega) (by omega)).mp z; omega : ¬ nI k = nI b), decide_eq_false (by omega : ¬ b = 7)]
  simp
theorem jdL_in {n : Nat} {K V R : Nat → Int32} {L G : Nat → Bool} (hk : kdK n K) : vp_in (jdL K V R L G n) 256 := by
  obtain ⟨j, h, e⟩ := jdL_lt (V := V) (R := R) (L := L) (G := G) hk
  rw [e]; exact vp_in_nI h (by decide)
def nzF (i : Nat) (G : Nat → Bool) : Nat → Bool := fun j => if j < i then false else G j
theorem nzF_s (i : Nat) (G : Nat → Bool) : uB (nzF i G) i false = nzF (i + 1) G := by
  funext j
  unfold uB nzF
  by_cases e : j = i
  · subst e; simp
  · by_cases h : j < i
    · simp [e, h]; omega
    · have : ¬ j < i + 1 := by omega
      simp [e, h, this]
def alF (n i : Nat) (L : Nat → Bool) : Nat → Bool := fun j => if j < i then decide (j < n) else L j
theorem alF_s (n i : Nat) (L : Nat → Bool) {b : Bool} (hb : b = decide (i < n)) : uB (alF n i L) i b = alF n (i + 1) L := by
  funext j
  unfold uB alF
  by_cases e : j = i
  · subst e; simp [hb]
  · by_cases h : j < i
    · have : j < i + 1 := by omega
      simp [e, h, this]
    · have : ¬ j < i + 1 := by omega
      simp [e, h, this]
def lvF (i : Nat) (L G : Nat → Bool) : Nat → Bool := fun j => if j < i then (L j && !G j) else L j
theorem lvF_s (i : Nat) (L G : Nat → Bool) {b : Bool} (hb : b = (L i && !G i)) : uB (lvF i L G) i b = lvF (i + 1) L G := by
  funext j
  unfold uB lvF
  by_cases e : j = i
  · subst e; simp [hb]
  · by_cases h : j < i
    · have : j < i + 1 := by omega
      simp [e, h, this]
    · have : ¬ j < i + 1 := by omega
      simp [e, h, this]
theorem lvF_at (i : Nat) (L G : Nat → Bool) : lvF i L G i = L i := if_neg (Nat.lt_irrefl i)
theorem lvF_0 (L G : Nat → Bool) : lvF 0 L G = L := by
  funext j
  exact if_neg (Nat.not_lt_zero j)
theorem alF_0 (n : Nat) (L : Nat → Bool) : alF n 0 L = L := by
  funext j
  exact if_neg (Nat.not_lt_zero j)
theorem nzF_0 (G : Nat → Bool) : nzF 0 G = G := by
  funext j
  exact if_neg (Nat.not_lt_zero j)
/-- does part j go with part i, by those left -/
def mkB (R : Nat → Int32) (L : Nat → Bool) (i : Nat) (j : Nat) : Bool :=
  decide (j = i) || (decide (i ≤ j) && (L j && (!decide (R j = -1) && (if h : (R j).toNatClampNeg < j then mkB R L i (R j).toNatClampNeg else false))))
termination_by j
theorem mkB_lt {R : Nat → Int32} {L : Nat → Bool} {i j : Nat} (h : j < i) : mkB R L i j = false := by
  rw [mkB, decide_eq_false (by omega : ¬ j = i), decide_eq_false (by omega : ¬ i ≤ j)]
  rfl
theorem mkB_i (R : Nat → Int32) (L : Nat → Bool) (i : Nat) : mkB R L i i = true := by
  rw [mkB, decide_eq_true rfl]
  rfl
theorem mkB_L {R : Nat → Int32} {L : Nat → Bool} {i j : Nat} (h : ¬ j = i) (hl : L j = false) : mkB R L i j = false := by
  rw [mkB, decide_eq_false h, hl]
  simp
theorem mkB_N {R : Nat → Int32} {L : Nat → Bool} {i j : Nat} (h : ¬ j = i) (hr : R j = -1) : mkB R L i j = false := by
  rw [mkB, decide_eq_false h, decide_eq_true hr]
  simp
theorem mkB_R {R : Nat → Int32} {L : Nat → Bool} {i j : Nat} (h : ¬ j = i) (hij : i ≤ j) (hl : L j = true) (hr : ¬ R j = -1) (hlt : (R j).toNatClampNeg < j) : mkB R L i j = mkB R L i (R j).toNatClampNeg := by
  rw [mkB, decide_eq_false h, decide_eq_true hij, hl, decide_eq_false hr, dif_pos hlt]
  simp
def mkF (R : Nat → Int32) (L : Nat → Bool) (i k : Nat) : Nat → Bool := fun j => if j < k then mkB R L i j else false
theorem mkF_0 (R : Nat → Int32) (L : Nat → Bool) (i : Nat) : fF = mkF R L i i := by
  funext j
  unfold fF mkF
  by_cases h : j < i
  · rw [if_pos h, mkB_lt h]
  · rw [if_neg h]
theorem mkF_s {R : Nat → Int32} {L : Nat → Bool} {i k : Nat} {b : Bool} (hb : b = mkB R L i k) : uB (mkF R L i k) k b = mkF R L i (k + 1) := by
  funext j
  unfold uB mkF
  by_cases e : j = k
  · subst e; simp [hb]
  · by_cases h : j < k
    · have : j < k + 1 := by omega
      simp [e, h, this]
    · have : ¬ j < k + 1 := by omega
      simp [e, h, this]
theorem mkF_at {R : Nat → Int32} {L : Nat → Bool} {i k j : Nat} (h : j < k) : mkF R L i k j = mkB R L i j := if_pos h
theorem mkB_0 (R : Nat → Int32) (L : Nat → Bool) (i : Nat) : cnt (mkB R L i) i = 0 := cnt_0 (fun _ h => mkB_lt h)
def mgM (n : Nat) (K V R : Nat → Int32) (S L : Nat → Bool) : Nat → Bool := fun i => L i && (decide (cnt (mkB R L i) n < cnt L n) && S (jdL K V R L (mkF R L i n) n).toNatClampNeg)
def mgO (n : Nat) (K V R : Nat → Int32) (S L : Nat → Bool) : Option Nat := fst9 (mgM n K V R S L) n
def gaS (n : Nat) (R : Nat → Int32) (L : Nat → Bool) (i : Nat) (G : Nat → Bool) : Nat → Bool := if L i = true then mkF R L i n else G
def gaF (n : Nat) (R : Nat → Int32) (L G : Nat → Bool) : Nat → Nat → Bool
  | 0 => G
  | k + 1 => gaS n R L k (gaF n R L G k)
def gaE (n : Nat) (K V R : Nat → Int32) (S L G : Nat → Bool) : Nat → Bool := match mgO n K V R S L with
  | some i => mkF R L i n
  | none => gaF n R L G n
def shL (n : Nat) (K V R : Nat → Int32) (S : Nat → Bool) : Nat → (Nat → Bool) → Nat → Bool
  | 0, L => L
  | f + 1, L => match mgO n K V R S L with
    | none => L
    | some i => shL n K V R S f (lvF n L (mkF R L i n))
def shE (n : Nat) (K V R : Nat → Int32) (S L : Nat → Bool) : Nat → Bool := if S (jdL K V R L fF n).toNatClampNeg = true then shL n K V R S (n + 1) L else alF n 43 L
theorem mgO_lt {n : Nat} {K V R : Nat → Int32} {S L : Nat → Bool} {i : Nat} (h : mgO n K V R S L = some i) : i < n ∧ L i = true := by
  have h1 := fst9_spec h
  refine ⟨h1.1, ?_⟩
  have h2 := h1.2.1
  unfold mgM at h2
  exact (Bool.and_eq_true_iff.mp h2).1
theorem lv_less {n : Nat} {R : Nat → Int32} {L : Nat → Bool} {i : Nat} (hi : i < n) (hl : L i = true) : cnt (lvF n L (mkF R L i n)) n < cnt L n := by
  refine cnt_lt (i := i) (fun j hj h => ?_) hi hl ?_
  · unfold lvF at h
    rw [if_pos hj] at h
    exact (Bool.and_eq_true_iff.mp h).1
  · unfold lvF
    rw [if_pos hi, mkF_at hi, mkB_i]
    simp
theorem shL_s {n f : Nat} {K V R : Nat → Int32} {S L : Nat → Bool} {i : Nat} (h : mgO n K V R S L = some i) : shL n K V R S (f + 1) L = shL n K V R S f (lvF n L (mkF R L i n)) := by
  show (match mgO n K V R S L with | none => L | some i => shL n K V R S f (lvF n L (mkF R L i n))) = _
  rw [h]
theorem shL_n {n f : Nat} {K V R : Nat → Int32} {S L : Nat → Bool} (h : mgO n K V R S L = none) : shL n K V R S f L = L := by
  cases f with
  | zero => rfl
  | succ f =>
    show (match mgO n K V R S L with | none => L | some i => shL n K V R S f (lvF n L (mkF R L i n))) = _
    rw [h]
theorem mg_lt0 {n : Nat} {K V R : Nat → Int32} {S L : Nat → Bool} (hn : n ≤ 43) : oI (mgO n K V R S L) < 0 ↔ mgO n K V R S L = none := by
  cases e : mgO n K V R S L with
  | none => exact ⟨fun _ => rfl, fun _ => by decide⟩
  | some i => exact ⟨fun z => absurd z (nI_pos (by have := (mgO_lt e).1; omega)), fun z => by cases z⟩
def shf (K : Nat → Int32) (f : Nat) : Nat → Int32 := fun j => K (f + j)
def adM (f : Nat) (kd : Int32) (k : Nat) (t : HS) : HS := (rfX (shf (upd t.2.1 (f + k) kd) f) k kd (nbX t.1 100), upd t.2.1 (f + k) kd, upd t.2.2.1 (f + k) (nbI t.1 100), upd t.2.2.2 (f + k) (rfI (shf (upd t.2.1 (f + k) kd) f) k kd (nbX t.1 100)))
def drM (f : Nat) (t : HS) : Nat → HS
  | 0 => t
  | k + 1 => adM f (if k < 3 then nI k else nbI (drM f t k).1 7) k (if k < 3 then (drM f t k).1 else nbX (drM f t k).1 7, (drM f t k).2)
theorem dQ_once {P : Nat → Bool} {pick : Int32} {a b : Nat} (hab : a < b) (hb : b < 2 ^ 31) (h1 : dQ P pick a = true) (h2 : dQ P pick b = true) : False := by
  unfold dQ at h1 h2
  simp only [Bool.and_eq_true, decide_eq_true_eq] at h1 h2
  have e := h1.2.trans h2.2.symm
  have hb1 := cnt_le P b
  have ha1 := cnt_le P a
  have e2 := (nI_eq (by omega) (by omega)).mp e
  have h3 := cnt_mono P (a := a + 1) (n := b) hab
  rw [cnt_t h1.1] at h3
  omega
theorem fst9_up {P : Nat → Bool} {pick : Int32} {i : Nat} (hi : i < 2 ^ 31) (h : dQ P pick i = true) : fst9 (dQ P pick) (i + 1) = some i := by
  refine fst9_some h (fun a ha => ?_) (Nat.lt_succ_self i)
  cases e : dQ P pick a
  · rfl
  · exact (dQ_once ha hi e h).elim
theorem fst9_st {Q : Nat → Bool} {i : Nat} (h : Q i = false) : fst9 Q (i + 1) = fst9 Q i := by
  show (match fst9 Q i with | some i => some i | none => if Q i = true then some i else none) = fst9 Q i
  rw [h]
  cases fst9 Q i <;> rfl
theorem pk_0 {p : Int32} {a : Nat} : p - nI a = 0 ↔ nI a = p := by
  constructor
  · intro h
    have : p = nI a := by
      have h2 : p - nI a + nI a = 0 + nI a := by rw [h]
      rwa [Int32.sub_add_cancel, Int32.zero_add] at h2
    exact this.symm
  · intro h
    rw [h, Int32.sub_self]
theorem pk_1 (p : Int32) (a : Nat) : p - nI a - nI 1 = p - nI (a + 1) := by
  rw [← nI_add, Int32.sub_eq_add_neg, Int32.sub_eq_add_neg, Int32.sub_eq_add_neg, Int32.neg_add, Int32.add_assoc, Int32.sub_eq_add_neg (-nI a)]
theorem pk_z (p : Int32) : p - nI 0 = p := by
  rw [nI_0, Int32.sub_zero]
theorem nb_lrem (x : Int64) {q : Nat} (h0 : 0 < q) (hq : q < 2 ^ 31) : (lN (hi9 x) - lN (hi9 x) / lN q * lN q).toInt32 = nI (hi9 x % q) := by
  rw [pk_lRem (Nat.lt_trans (hi9_lt x) (by decide)) h0 (by omega), lN_i]
theorem hi9_shl (x : Int64) : (x.toUInt64 >>> ((nI 33).toInt64.toUInt64 &&& Int64.toUInt64 63)).toInt64 = lN (hi9 x) := by
  obtain ⟨n, hn, rfl⟩ := wb_of x
  rw [wb_shr hn (by decide)]
  unfold hi9
  rw [wb_tn hn]
theorem lN_nz {q : Nat} (h0 : 0 < q) (hq : q < 2 ^ 31) : ¬ lN q = 0 := fun h => by
  have h2 : lN q = lN 0 := h
  have := (lN_eq hq (by decide)).mp h2
  omega
theorem rf_sub (f i : Nat) : nI (f + i) - nI f = nI i := by
  rw [pk_sub (by omega)]
  congr 1
  omega
theorem nI_le0 {a : Nat} (h : a < 2 ^ 31) : nI a ≤ 0 ↔ a = 0 := by
  rw [← nI_0, nI_leI h (by decide)]
  omega
theorem pk_0n {p : Int32} {a : Nat} : p - nI a = nI 0 ↔ nI a = p := pk_0
theorem rfK_lt {n k : Nat} {R : Nat → Int32} (h : rfK n R) (hk : k < n) (hn : n ≤ 43) (hr : ¬ R k = -1) : (R k).toNatClampNeg < k := by
  rcases h k hk with e | ⟨r, h1, e⟩
  · exact absurd e hr
  · rw [e, nI_clamp (by omega)]; exact h1
theorem hB_i86 {n : Nat} {x : Int32} (h : hB n x = true) (hn : n ≤ 43) : vp_in x 86 := by
  obtain ⟨j, hj, rfl⟩ := hB_of h (by omega)
  exact vp_in_nI (by omega) (by omega)
theorem in_sz {z : Nat} (h : z ≤ 40) : inB (nI z) (nI 0) (nI 40) = true := szB_nI h
theorem in255 {p : Int32} (h : inB p (nI 0) (nI 255) = true) : ¬ p < 0 ∧ ¬ nI 256 ≤ p := by
  unfold inB at h
  simp only [Bool.and_eq_true, Bool.not_eq_true', decide_eq_false_iff_not] at h
  have h1 : ¬ p < 0 := h.1
  obtain ⟨j, hj, rfl⟩ := nI_of h1
  have h2 := (not_congr (nI_ltI (by decide) hj)).mp h.2
  exact ⟨h1, nI_ge (by omega) (by decide)⟩
theorem veO_f {S : Nat → Bool} {p : Int32} {z : Bool} (h : inB p (nI 0) (nI 255) = false) : veO S p z = false := by
  cases e : veO S p z
  · rfl
  · exfalso
    unfold veO at e
    simp only [Bool.and_eq_true, Bool.not_eq_true', decide_eq_false_iff_not] at e
    have h1 : ¬ p < 0 := e.1
    obtain ⟨j, hj, rfl⟩ := nI_of h1
    have h2 := (not_congr (nI_leI (by decide) hj)).mp e.2.1
    have h3 : inB (nI j) (nI 0) (nI 255) = true := by
      unfold inB
      rw [decide_eq_false (show ¬ nI j < nI 0 from h1), decide_eq_false (nI_nlt (by omega) (by decide))]
      rfl
    rw [h3] at h
    cases h
def alB (Q : Nat → Bool) (i : Nat) : Bool := (fst9 (fun j => !(Q j)) i).isNone
theorem alB_s (Q : Nat → Bool) (i : Nat) : alB Q (i + 1) = (alB Q i && Q i) := by
  unfold alB
  show (match fst9 (fun j => !(Q j)) i with | some i => some i | none => if (!(Q i)) = true then some i else none).isNone = _
  cases fst9 (fun j => !(Q j)) i with
  | some a => rfl
  | none => cases Q i <;> rfl
theorem ga_some {n i : Nat} {K V R : Nat → Int32} {S L G : Nat → Bool} (hi : i < n) (hno : ∀ a, a < i → mgM n K V R S L a = false) (h : mgM n K V R S L i = true) : gaS n R L i (gaF n R L G i) = gaE n K V R S L G := by
  have e : mgO n K V R S L = some i := fst9_some h hno hi
  unfold gaE
  rw [e]
  exact if_pos (mgO_lt e).2
theorem ga_none {n : Nat} {K V R : Nat → Int32} {S L G : Nat → Bool} (hno : ∀ a, a < n → mgM n K V R S L a = false) : gaF n R L G n = gaE n K V R S L G := by
  have e : mgO n K V R S L = none := fst9_none hno
  unfold gaE
  rw [e]
theorem gaE_s {n i : Nat} {K V R : Nat → Int32} {S L G : Nat → Bool} (h : mgO n K V R S L = some i) : gaE n K V R S L G = mkF R L i n := by
  unfold gaE
  rw [h]
theorem mg_some {n : Nat} {K V R : Nat → Int32} {S L : Nat → Bool} (hn : n ≤ 43) (h : ¬ oI (mgO n K V R S L) < 0) : ∃ i, mgO n K V R S L = some i := by
  cases e : mgO n K V R S L with
  | none => exact absurd ((mg_lt0 hn).mpr e) h
  | some i => exact ⟨i, rfl⟩
theorem shE_v {n f : Nat} {K V R : Nat → Int32} {S L L1 : Nat → Bool} (hs : S (jdL K V R L fF n).toNatClampNeg = true) (h : shL n K V R S f L1 = shL n K V R S (n + 1) L) (ho : mgO n K V R S L1 = none) : L1 = shE n K V R S L := by
  unfold shE
  rw [if_pos hs, ← h, shL_n ho]
theorem shE_a {n : Nat} {K V R : Nat → Int32} {S L : Nat → Bool} (hs : S (jdL K V R L fF n).toNatClampNeg = false) : alF n 43 L = shE n K V R S L := by
  unfold shE
  rw [if_neg (by rw [hs]; decide)]
theorem alF_cnt {n : Nat} {L : Nat → Bool} (hn : n ≤ 43) : cnt (alF n 43 L) n = n := cnt_all (fun j hj => by
  unfold alF
  rw [if_pos (by omega), decide_eq_true hj])
def mnM (n : Nat) (K V R : Nat → Int32) (S L : Nat → Bool) : Bool := decide (0 < cnt L n) && (S (jdL K V R L fF n).toNatClampNeg && decide (mgO n K V R S L = none))
theorem mg_ge0 {n : Nat} {K V R : Nat → Int32} {S L : Nat → Bool} (hn : n ≤ 43) : 0 ≤ oI (mgO n K V R S L) ↔ ¬ mgO n K V R S L = none := by
  cases e : mgO n K V R S L with
  | none => exact ⟨fun z => absurd z (by decide), fun z => absurd rfl z⟩
  | some i => exact ⟨fun _ => (fun z => by cases z), fun _ => nI_pos' (by have := (mgO_lt e).1; omega)⟩
def pmI (K V R : Nat → Int32) (L : Nat → Bool) (i : Nat) (p : Int32) : Int32 := if p = nI 0 then K i else if p = nI 1 then nI (cnt (kP K (K i)) i) else if p = nI 2 then V i else if p = nI 3 then R i else bI (L i)
theorem in4 {p : Int32} : inB p (nI 0) (nI 4) = true ↔ ¬ (p.toInt < 0 ∨ 4 < p.toInt) := by
  unfold inB
  simp only [Bool.and_eq_true, Bool.not_eq_true', decide_eq_false_iff_not, Int32.lt_iff_toInt_lt]
  rw [show (nI 0).toInt = 0 from rfl, show (nI 4).toInt = 4 from rfl]
  omega
def cfI (n : Nat) (K V R : Nat → Int32) : Nat → Bool := fun j => decide (K j = nI 5) && ft9 V R j
def cmI (n : Nat) (K V R : Nat → Int32) (L S : Nat → Bool) (p : Int32) : Int32 := if p < nI 10 then (if p = nI 0 then nI n else if p = nI 1 then nI (cnt L n) else if p = nI 2 then nI (cnt (kP K (nI 5)) n) else if p = nI 3 then nI (cnt (cfI n K V R) n) else if p = nI 4 then nI (cnt S 256) else -1) else if p < nI 17 then nI (cnt (kP K (p - nI 10)) n) else -1
section Cm
variable {n : Nat} {K V R : Nat → Int32} {L S : Nat → Bool} {p : Int32}
theorem cm_0 : cmI n K V R L S (nI 0) = nI n := by unfold cmI; rw [if_pos (by decide), if_pos rfl]
theorem cm_1 : cmI n K V R L S (nI 1) = nI (cnt L n) := by unfold cmI; rw [if_pos (by decide), if_neg (by decide), if_pos rfl]
theorem cm_2 : cmI n K V R L S (nI 2) = nI (cnt (kP K (nI 5)) n) := by unfold cmI; rw [if_pos (by decide), if_neg (by decide), if_neg (by decide), if_pos rfl]
theorem cm_3 : cmI n K V R L S (nI 3) = nI (cnt (cfI n K V R) n) := by unfold cmI; rw [if_pos (by decide), if_neg (by decide), if_neg (by decide), if_neg (by decide), if_pos rfl]
theorem cm_4 : cmI n K V R L S (nI 4) = nI (cnt S 256) := by unfold cmI; rw [if_pos (by decide), if_neg (by decide), if_neg (by decide), if_neg (by decide), if_neg (by decide), if_pos rfl]
theorem cm_o (h10 : p < nI 10) (h : p.toInt < 0 ∨ 4 < p.toInt) : cmI n K V R L S p = -1 := by
  have e : ∀ j, j ≤ 4 → ¬ p = nI j := by
    intro j h2 e
    rw [e, nI_toInt (by omega)] at h
    omega
  unfold cmI
  rw [if_pos h10, if_neg (e 0 (by omega)), if_neg (e 1 (by omega)), if_neg (e 2 (by omega)), if_neg (e 3 (by omega)), if_neg (e 4 (by omega))]
theorem cm_k (h10 : ¬ p < nI 10) (h17 : ¬ nI 17 ≤ p) : cmI n K V R L S p = nI (cnt (kP K (p - nI 10)) n) := by
  unfold cmI
  rw [if_neg h10, if_pos (Int32.not_le.mp h17)]
theorem cm_n (h10 : ¬ p < nI 10) (h17 : nI 17 ≤ p) : cmI n K V R L S p = -1 := by
  unfold cmI
  rw [if_neg h10, if_neg (Int32.not_lt.mpr h17)]
end Cm
end
section
theorem m_336 : (Jvm.Cond.fieldLink "PortDrawerModel" (33 : Nat) "PortDrawerModel" "thrown" "I") ∈ tblG := m_t (i := 336) rfl rfl
theorem m_339 : (Jvm.Cond.fieldLink "PortDrawerModel" (37 : Nat) "PortDrawerModel" "parts" "I") ∈ tblG := m_t (i := 339) rfl rfl
theorem m_338 : (Jvm.Cond.fieldLink "PortDrawerModel" (40 : Nat) "PortDrawerModel" "tape" "J") ∈ tblG := m_t (i := 338) rfl rfl
theorem m_390 : (Jvm.Cond.constantLong "PortDrawerModel" (43 : Nat) (6364136223846793005 : Int64)) ∈ tblG := m_t (i := 390) rfl rfl
theorem m_391 : (Jvm.Cond.constantLong "PortDrawerModel" (45 : Nat) (1442695040888963407 : Int64)) ∈ tblG := m_t (i := 391) rfl rfl
theorem m_342 : (Jvm.Cond.fieldLink "PortDrawerModel" (16 : Nat) "PortDrawerModel" "refers" "[I") ∈ tblG := m_t (i := 342) rfl rfl
theorem m_341 : (Jvm.Cond.fieldLink "PortDrawerModel" (13 : Nat) "PortDrawerModel" "value" "[I") ∈ tblG := m_t (i := 341) rfl rfl
theorem m_340 : (Jvm.Cond.fieldLink "PortDrawerModel" (7 : Nat) "PortDrawerModel" "kind" "[I") ∈ tblG := m_t (i := 340) rfl rfl
theorem m_343 : (Jvm.Cond.fieldLink "PortDrawerModel" (19 : Nat) "PortDrawerModel" "isLeft" "[Z") ∈ tblG := m_t (i := 343) rfl rfl
theorem d_M_thrown_0 : decode b_M_thrown 0 = .ok (.aload_n 0, 1) := by decide +kernel
theorem d_M_thrown_1 : decode b_M_thrown 1 = .ok (.getfield 33, 3) := by decide +kernel
theorem d_M_thrown_4 : decode b_M_thrown 4 = .ok (.ireturn, 1) := by decide +kernel
theorem d_M_refuse_0 : decode b_M_refuse 0 = .ok (.aload_n 0, 1) := by decide +kernel
theorem d_M_refuse_1 : decode b_M_refuse 1 = .ok (.iload_n 1, 1) := by decide +kernel
theorem d_M_refuse_2 : decode b_M_refuse 2 = .ok (.putfield 33, 3) := by decide +kernel
theorem d_M_refuse_5 : decode b_M_refuse 5 = .ok (.iconst 0, 1) := by decide +kernel
theorem d_M_refuse_6 : decode b_M_refuse 6 = .ok (.ireturn, 1) := by decide +kernel
theorem d_M_in__0 : decode b_M_in_ 0 = .ok (.iload_n 0, 1) := by decide +kernel
theorem d_M_in__1 : decode b_M_in_ 1 = .ok (.iload_n 1, 1) := by decide +kernel
theorem d_M_in__2 : decode b_M_in_ 2 = .ok (.if_icmp .lt 12, 3) := by decide +kernel
theorem d_M_in__5 : decode b_M_in_ 5 = .ok (.iload_n 0, 1) := by decide +kernel
theorem d_M_in__6 : decode b_M_in_ 6 = .ok (.iload_n 2, 1) := by decide +kernel
theorem d_M_in__7 : decode b_M_in_ 7 = .ok (.if_icmp .gt 7, 3) := by decide +kernel
theorem d_M_in__10 : decode b_M_in_ 10 = .ok (.iconst 1, 1) := by decide +kernel
theorem d_M_in__11 : decode b_M_in_ 11 = .ok (.goto 4, 3) := by decide +kernel
theorem d_M_in__14 : decode b_M_in_ 14 = .ok (.iconst 0, 1) := by decide +kernel
theorem d_M_in__15 : decode b_M_in_ 15 = .ok (.ireturn, 1) := by decide +kernel
theorem d_M_isPart_0 : decode b_M_isPart 0 = .ok (.iload_n 1, 1) := by decide +kernel
theorem d_M_isPart_1 : decode b_M_isPart 1 = .ok (.ifCond .lt 15, 3) := by decide +kernel
theorem d_M_isPart_4 : decode b_M_isPart 4 = .ok (.iload_n 1, 1) := by decide +kernel
theorem d_M_isPart_5 : decode b_M_isPart 5 = .ok (.aload_n 0, 1) := by decide +kernel
theorem d_M_isPart_6 : decode b_M_isPart 6 = .ok (.getfield 37, 3) := by decide +kernel
theorem d_M_isPart_9 : decode b_M_isPart 9 = .ok (.if_icmp .ge 7, 3) := by decide +kernel
theorem d_M_isPart_12 : decode b_M_isPart 12 = .ok (.iconst 1, 1) := by decide +kernel
theorem d_M_isPart_13 : decode b_M_isPart 13 = .ok (.goto 4, 3) := by decide +kernel
theorem d_M_isPart_16 : decode b_M_isPart 16 = .ok (.iconst 0, 1) := by decide +kernel
theorem d_M_isPart_17 : decode b_M_isPart 17 = .ok (.ireturn, 1) := by decide +kernel
theorem d_M_number_0 : decode b_M_number 0 = .ok (.aload_n 0, 1) := by decide +kernel
theorem d_M_number_1 : decode b_M_number 1 = .ok (.aload_n 0, 1) := by decide +kernel
theorem d_M_number_2 : decode b_M_number 2 = .ok (.getfield 40, 3) := by decide +kernel
theorem d_M_number_5 : decode b_M_number 5 = .ok (.ldc2_w 43, 3) := by decide +kernel
theorem d_M_number_8 : decode b_M_number 8 = .ok (.lmul, 1) := by decide +kernel
theorem d_M_number_9 : decode b_M_number 9 = .ok (.ldc2_w 45, 3) := by decide +kernel
theorem d_M_number_12 : decode b_M_number 12 = .ok (.ladd, 1) := by decide +kernel
theorem d_M_number_13 : decode b_M_number 13 = .ok (.putfield 40, 3) := by decide +kernel
theorem d_M_number_16 : decode b_M_number 16 = .ok (.aload_n 0, 1) := by decide +kernel
theorem d_M_number_17 : decode b_M_number 17 = .ok (.getfield 40, 3) := by decide +kernel
theorem d_M_number_20 : decode b_M_number 20 = .ok (.bipush 33, 2) := by decide +kernel
theorem d_M_number_22 : decode b_M_number 22 = .ok (.lushr, 1) := by decide +kernel
theorem d_M_number_23 : decode b_M_number 23 = .ok (.iload_n 1, 1) := by decide +kernel
theorem d_M_number_24 : decode b_M_number 24 = .ok (.i2l, 1) := by decide +kernel
theorem d_M_number_25 : decode b_M_number 25 = .ok (.lrem, 1) := by decide +kernel
theorem d_M_number_26 : decode b_M_number 26 = .ok (.l2i, 1) := by decide +kernel
theorem d_M_number_27 : decode b_M_number 27 = .ok (.ireturn, 1) := by decide +kernel
theorem d_M_mayRefer_0 : decode b_M_mayRefer 0 = .ok (.iload_n 0, 1) := by decide +kernel
theorem d_M_mayRefer_1 : decode b_M_mayRefer 1 = .ok (.tableswitch 97 1 6 #[39, 97, 39, 49, 60, 81], 39) := by decide +kernel
theorem d_M_mayRefer_40 : decode b_M_mayRefer 40 = .ok (.iload_n 1, 1) := by decide +kernel
theorem d_M_mayRefer_41 : decode b_M_mayRefer 41 = .ok (.ifCond .ne 7, 3) := by decide +kernel
theorem d_M_mayRefer_44 : decode b_M_mayRefer 44 = .ok (.iconst 1, 1) := by decide +kernel
theorem d_M_mayRefer_45 : decode b_M_mayRefer 45 = .ok (.goto 4, 3) := by decide +kernel
theorem d_M_mayRefer_48 : decode b_M_mayRefer 48 = .ok (.iconst 0, 1) := by decide +kernel
theorem d_M_mayRefer_49 : decode b_M_mayRefer 49 = .ok (.ireturn, 1) := by decide +kernel
theorem d_M_mayRefer_50 : decode b_M_mayRefer 50 = .ok (.iload_n 1, 1) := by decide +kernel
theorem d_M_mayRefer_51 : decode b_M_mayRefer 51 = .ok (.iconst 2, 1) := by decide +kernel
theorem d_M_mayRefer_52 : decode b_M_mayRefer 52 = .ok (.if_icmp .ne 7, 3) := by decide +kernel
theorem d_M_mayRefer_55 : decode b_M_mayRefer 55 = .ok (.iconst 1, 1) := by decide +kernel
theorem d_M_mayRefer_56 : decode b_M_mayRefer 56 = .ok (.goto 4, 3) := by decide +kernel
theorem d_M_mayRefer_59 : decode b_M_mayRefer 59 = .ok (.iconst 0, 1) := by decide +kernel
theorem d_M_mayRefer_60 : decode b_M_mayRefer 60 = .ok (.ireturn, 1) := by decide +kernel
theorem d_M_mayRefer_61 : decode b_M_mayRefer 61 = .ok (.iload_n 1, 1) := by decide +kernel
theorem d_M_mayRefer_62 : decode b_M_mayRefer 62 = .ok (.iconst 1, 1) := by decide +kernel
theorem d_M_mayRefer_63 : decode b_M_mayRefer 63 = .ok (.if_icmp .eq 13, 3) := by decide +kernel
theorem d_M_mayRefer_66 : decode b_M_mayRefer 66 = .ok (.iload_n 1, 1) := by decide +kernel
theorem d_M_mayRefer_67 : decode b_M_mayRefer 67 = .ok (.iconst 3, 1) := by decide +kernel
theorem d_M_mayRefer_68 : decode b_M_mayRefer 68 = .ok (.if_icmp .eq 8, 3) := by decide +kernel
theorem d_M_mayRefer_71 : decode b_M_mayRefer 71 = .ok (.iload_n 1, 1) := by decide +kernel
theorem d_M_mayRefer_72 : decode b_M_mayRefer 72 = .ok (.iconst 4, 1) := by decide +kernel
theorem d_M_mayRefer_73 : decode b_M_mayRefer 73 = .ok (.if_icmp .ne 7, 3) := by decide +kernel
theorem d_M_mayRefer_76 : decode b_M_mayRefer 76 = .ok (.iconst 1, 1) := by decide +kernel
theorem d_M_mayRefer_77 : decode b_M_mayRefer 77 = .ok (.goto 4, 3) := by decide +kernel
theorem d_M_mayRefer_80 : decode b_M_mayRefer 80 = .ok (.iconst 0, 1) := by decide +kernel
theorem d_M_mayRefer_81 : decode b_M_mayRefer 81 = .ok (.ireturn, 1) := by decide +kernel
theorem d_M_mayRefer_82 : decode b_M_mayRefer 82 = .ok (.iload_n 1, 1) := by decide +kernel
theorem d_M_mayRefer_83 : decode b_M_mayRefer 83 = .ok (.iconst 4, 1) := by decide +kernel
theorem d_M_mayRefer_84 : decode b_M_mayRefer 84 = .ok (.if_icmp .eq 8, 3) := by decide +kernel
theorem d_M_mayRefer_87 : decode b_M_mayRefer 87 = .ok (.iload_n 1, 1) := by decide +kernel
theorem d_M_mayRefer_88 : decode b_M_mayRefer 88 = .ok (.iconst 5, 1) := by decide +kernel
theorem d_M_mayRefer_89 : decode b_M_mayRefer 89 = .ok (.if_icmp .ne 7, 3) := by decide +kernel
theorem d_M_mayRefer_92 : decode b_M_mayRefer 92 = .ok (.iconst 1, 1) := by decide +kernel
theorem d_M_mayRefer_93 : decode b_M_mayRefer 93 = .ok (.goto 4, 3) := by decide +kernel
theorem d_M_mayRefer_96 : decode b_M_mayRefer 96 = .ok (.iconst 0, 1) := by decide +kernel
theorem d_M_mayRefer_97 : decode b_M_mayRefer 97 = .ok (.ireturn, 1) := by decide +kernel
theorem d_M_mayRefer_98 : decode b_M_mayRefer 98 = .ok (.iconst 0, 1) := by decide +kernel
theorem d_M_mayRefer_99 : decode b_M_mayRefer 99 = .ok (.ireturn, 1) := by decide +kernel
theorem d_M_isFit_0 : decode b_M_isFit 0 = .ok (.aload_n 0, 1) := by decide +kernel
theorem d_M_isFit_1 : decode b_M_isFit 1 = .ok (.getfield 16, 3) := by decide +kernel
theorem d_M_isFit_4 : decode b_M_isFit 4 = .ok (.iload_n 1, 1) := by decide +kernel
theorem d_M_isFit_5 : decode b_M_isFit 5 = .ok (.iaload, 1) := by decide +kernel
theorem d_M_isFit_6 : decode b_M_isFit 6 = .ok (.iconst (-1), 1) := by decide +kernel
theorem d_M_isFit_7 : decode b_M_isFit 7 = .ok (.if_icmp .eq 31, 3) := by decide +kernel
theorem d_M_isFit_10 : decode b_M_isFit 10 = .ok (.aload_n 0, 1) := by decide +kernel
theorem d_M_isFit_11 : decode b_M_isFit 11 = .ok (.getfield 13, 3) := by decide +kernel
theorem d_M_isFit_14 : decode b_M_isFit 14 = .ok (.aload_n 0, 1) := by decide +kernel
theorem d_M_isFit_15 : decode b_M_isFit 15 = .ok (.getfield 16, 3) := by decide +kernel
theorem d_M_isFit_18 : decode b_M_isFit 18 = .ok (.iload_n 1, 1) := by decide +kernel
theorem d_M_isFit_19 : decode b_M_isFit 19 = .ok (.iaload, 1) := by decide +kernel
theorem d_M_isFit_20 : decode b_M_isFit 20 = .ok (.iaload, 1) := by decide +kernel
theorem d_M_isFit_21 : decode b_M_isFit 21 = .ok (.iconst 2, 1) := by decide +kernel
theorem d_M_isFit_22 : decode b_M_isFit 22 = .ok (.irem, 1) := by decide +kernel
theorem d_M_isFit_23 : decode b_M_isFit 23 = .ok (.aload_n 0, 1) := by decide +kernel
theorem d_M_isFit_24 : decode b_M_isFit 24 = .ok (.getfield 13, 3) := by decide +kernel
theorem d_M_isFit_27 : decode b_M_isFit 27 = .ok (.iload_n 1, 1) := by decide +kernel
theorem d_M_isFit_28 : decode b_M_isFit 28 = .ok (.iaload, 1) := by decide +kernel
theorem d_M_isFit_29 : decode b_M_isFit 29 = .ok (.iconst 2, 1) := by decide +kernel
theorem d_M_isFit_30 : decode b_M_isFit 30 = .ok (.irem, 1) := by decide +kernel
theorem d_M_isFit_31 : decode b_M_isFit 31 = .ok (.if_icmp .ne 7, 3) := by decide +kernel
theorem d_M_isFit_34 : decode b_M_isFit 34 = .ok (.iconst 1, 1) := by decide +kernel
theorem d_M_isFit_35 : decode b_M_isFit 35 = .ok (.goto 4, 3) := by decide +kernel
theorem d_M_isFit_38 : decode b_M_isFit 38 = .ok (.iconst 0, 1) := by decide +kernel
theorem d_M_isFit_39 : decode b_M_isFit 39 = .ok (.ireturn, 1) := by decide +kernel
theorem d_M_ofKind_0 : decode b_M_ofKind 0 = .ok (.iconst 0, 1) := by decide +kernel
theorem d_M_ofKind_1 : decode b_M_ofKind 1 = .ok (.istore_n 2, 1) := by decide +kernel
theorem d_M_ofKind_2 : decode b_M_ofKind 2 = .ok (.iconst 0, 1) := by decide +kernel
theorem d_M_ofKind_3 : decode b_M_ofKind 3 = .ok (.istore_n 3, 1) := by decide +kernel
theorem d_M_ofKind_4 : decode b_M_ofKind 4 = .ok (.iload_n 3, 1) := by decide +kernel
theorem d_M_ofKind_5 : decode b_M_ofKind 5 = .ok (.aload_n 0, 1) := by decide +kernel
theorem d_M_ofKind_6 : decode b_M_ofKind 6 = .ok (.getfield 37, 3) := by decide +kernel
theorem d_M_ofKind_9 : decode b_M_ofKind 9 = .ok (.if_icmp .ge 27, 3) := by decide +kernel
theorem d_M_ofKind_12 : decode b_M_ofKind 12 = .ok (.iload_n 2, 1) := by decide +kernel
theorem d_M_ofKind_13 : decode b_M_ofKind 13 = .ok (.aload_n 0, 1) := by decide +kernel
theorem d_M_ofKind_14 : decode b_M_ofKind 14 = .ok (.getfield 7, 3) := by decide +kernel
theorem d_M_ofKind_17 : decode b_M_ofKind 17 = .ok (.iload_n 3, 1) := by decide +kernel
theorem d_M_ofKind_18 : decode b_M_ofKind 18 = .ok (.iaload, 1) := by decide +kernel
theorem d_M_ofKind_19 : decode b_M_ofKind 19 = .ok (.iload_n 1, 1) := by decide +kernel
theorem d_M_ofKind_20 : decode b_M_ofKind 20 = .ok (.if_icmp .ne 7, 3) := by decide +kernel
theorem d_M_ofKind_23 : decode b_M_ofKind 23 = .ok (.iconst 1, 1) := by decide +kernel
theorem d_M_ofKind_24 : decode b_M_ofKind 24 = .ok (.goto 4, 3) := by decide +kernel
theorem d_M_ofKind_27 : decode b_M_ofKind 27 = .ok (.iconst 0, 1) := by decide +kernel
theorem d_M_ofKind_28 : decode b_M_ofKind 28 = .ok (.iadd, 1) := by decide +kernel
theorem d_M_ofKind_29 : decode b_M_ofKind 29 = .ok (.istore_n 2, 1) := by decide +kernel
theorem d_M_ofKind_30 : decode b_M_ofKind 30 = .ok (.iinc 3 1, 3) := by decide +kernel
theorem d_M_ofKind_33 : decode b_M_ofKind 33 = .ok (.goto (-29), 3) := by decide +kernel
theorem d_M_ofKind_36 : decode b_M_ofKind 36 = .ok (.iload_n 2, 1) := by decide +kernel
theorem d_M_ofKind_37 : decode b_M_ofKind 37 = .ok (.ireturn, 1) := by decide +kernel
theorem d_M_many_0 : decode b_M_many 0 = .ok (.iconst 0, 1) := by decide +kernel
theorem d_M_many_1 : decode b_M_many 1 = .ok (.istore_n 1, 1) := by decide +kernel
theorem d_M_many_2 : decode b_M_many 2 = .ok (.iconst 0, 1) := by decide +kernel
theorem d_M_many_3 : decode b_M_many 3 = .ok (.istore_n 2, 1) := by decide +kernel
theorem d_M_many_4 : decode b_M_many 4 = .ok (.iload_n 2, 1) := by decide +kernel
theorem d_M_many_5 : decode b_M_many 5 = .ok (.aload_n 0, 1) := by decide +kernel
theorem d_M_many_6 : decode b_M_many 6 = .ok (.getfield 37, 3) := by decide +kernel
theorem d_M_many_9 : decode b_M_many 9 = .ok (.if_icmp .ge 26, 3) := by decide +kernel
theorem d_M_many_12 : decode b_M_many 12 = .ok (.iload_n 1, 1) := by decide +kernel
theorem d_M_many_13 : decode b_M_many 13 = .ok (.aload_n 0, 1) := by decide +kernel
theorem d_M_many_14 : decode b_M_many 14 = .ok (.getfield 19, 3) := by decide +kernel
theorem d_M_many_17 : decode b_M_many 17 = .ok (.iload_n 2, 1) := by decide +kernel
theorem d_M_many_18 : decode b_M_many 18 = .ok (.baload, 1) := by decide +kernel
theorem d_M_many_19 : decode b_M_many 19 = .ok (.ifCond .eq 7, 3) := by decide +kernel
theorem d_M_many_22 : decode b_M_many 22 = .ok (.iconst 1, 1) := by decide +kernel
theorem d_M_many_23 : decode b_M_many 23 = .ok (.goto 4, 3) := by decide +kernel
theorem d_M_many_26 : decode b_M_many 26 = .ok (.iconst 0, 1) := by decide +kernel
theorem d_M_many_27 : decode b_M_many 27 = .ok (.iadd, 1) := by decide +kernel
theorem d_M_many_28 : decode b_M_many 28 = .ok (.istore_n 1, 1) := by decide +kernel
theorem d_M_many_29 : decode b_M_many 29 = .ok (.iinc 2 1, 3) := by decide +kernel
theorem d_M_many_32 : decode b_M_many 32 = .ok (.goto (-28), 3) := by decide +kernel
theorem d_M_many_35 : decode b_M_many 35 = .ok (.iload_n 1, 1) := by decide +kernel
theorem d_M_many_36 : decode b_M_many 36 = .ok (.ireturn, 1) := by decide +kernel
set_option maxHeartbeats 4000000 in
set_option maxRecDepth 100000 in
/-- reference: thrown -/
theorem c_M_thrown (l : Launch) (dC : Nat → ClassId) (dI : Nat → Nat → Nat) (jm ik iv ir il iy ig : Nat) (n : Nat) (th : Int32) (sd tp : Int64)   : Met l y_M_thrown w_M_thrown ({ frames := 0, cells := 0, slots := 0, locals := 0 }) (ro_P dC dI [.ref jm] [(jm, .inr (3, [.int th, .long sd, .long tp, .int (nI n), .ref ik, .ref iv, .ref ir, .ref il, .ref iy, .ref ig]))] []) (vp_Si (fun r => r = th)) 0 0 (fun _ => False) := by
  refine Met.ofW (cc := b_M_thrown) (maxL := 1) (ret := (Option.some Jvm.ClassFile.FieldType.int)) (by decide) rfl ?_
  intro p e s m args below meth c s₁ B0 hml hv0
  obtain ⟨rfl, hP, hK, hN⟩ := hv0
  have hx := B0.exec
  have hb := B0.bytes
  have hr := B0.returns
  have hts := atoms_spec (ws := w_M_thrown) B0.pre
  have hown : s.vm.findClass R_M = some m.cls := findClass_of_methodNamed B0.named
  have hlocks := B0.notSynchronized
  have hP : va_P (dC, dI) classes [(jm, .inr (3, [.int th, .long sd, .long tp, .int (nI n), .ref ik, .ref iv, .ref ir, .ref il, .ref iy, .ref ig]))] s.heap := hP
  have hl := lv_entry ([.ref jm]) (n := 1) (Nat.le_of_ble_eq_true rfl)
  rw [lg_entry_eq]
  generalize (lg_sl ([.ref jm]) ++ List.replicate (1 - (lg_sl ([.ref jm])).length) Slot.unset).toArray = ls at hl ⊢
  have hl : lv_has ls 1 [(0, .ref jm)] := hl
  refine lv_aload_n hx hb d_M_thrown_0 rfl (lv_at hl 0 rfl) ?_
  refine va_get (D := (dC, dI)) (ci := 3) (v := .int th) (C := R_M) (T := F_M) (N := 10) hx hb hts (lay_M _) hown hK hP 0 rfl rfl 0 (by decide) (hts _ (List.mem_cons_of_mem _ m_336)) (fun _ h9 => h9) rfl d_M_thrown_1 ?_
  exact W.iret (v := th) hx hb hr (fun t ht hW => ⟨th, rfl, rfl, ht⟩) (fun _ h => nomatch h) d_M_thrown_4
set_option maxHeartbeats 4000000 in
set_option maxRecDepth 100000 in
/-- reference: refuse -/
theorem c_M_refuse (l : Launch) (dC : Nat → ClassId) (dI : Nat → Nat → Nat) (jm ik iv ir il iy ig : Nat) (n : Nat) (th : Int32) (sd tp : Int64) (p0 : Int32)  (sz : Nat) : Met l y_M_refuse w_M_refuse ({ frames := 0, cells := 0, slots := 0, locals := 0 }) (wr_P dC dI [.ref jm, .int p0] [(jm, .inr (3, [.int th, .long sd, .long tp, .int (nI n), .ref ik, .ref iv, .ref ir, .ref il, .ref iy, .ref ig]))] [] sz) (va_Qi (fun (r : Int32) (_ : Unit) => r = nI 0) (fun (u : Unit) => wr_B dC dI (va_A [(jm, .inr (3, [.int th, .long sd, .long tp, .int (nI n), .ref ik, .ref iv, .ref ir, .ref il, .ref iy, .ref ig]))] sz) [(jm, .inr (3, [.int p0, .long sd, .long tp, .int (nI n), .ref ik, .ref iv, .ref ir, .ref il, .ref iy, .ref ig]))] []) (va_A [(jm, .inr (3, [.int th, .long sd, .long tp, .int (nI n), .ref ik, .ref iv, .ref ir, .ref il, .ref iy, .ref ig]))] sz)) 0 0 (va_A [(jm, .inr (3, [.int th, .long sd, .long tp, .int (nI n), .ref ik, .ref iv, .ref ir, .ref il, .ref iy, .ref ig]))] sz) := by
  refine Met.ofW (cc := b_M_refuse) (maxL := 2) (ret := (Option.some Jvm.ClassFile.FieldType.int)) (by decide) rfl ?_
  intro p e s m args below meth c s₁ B0 hml hv0
  obtain ⟨rfl, hsz, hP, hK, hD0, hN⟩ := hv0
  have hx := B0.exec
  have hb := B0.bytes
  have hr := B0.returns
  have hts := atoms_spec (ws := w_M_refuse) B0.pre
  have hown : s.vm.findClass R_M = some m.cls := findClass_of_methodNamed B0.named
  have hlocks := B0.notSynchronized
  subst hsz
  have hD := hD0.self (sz := s.heap.size)
  generalize hAe : va_A [(jm, .inr (3, [.int th, .long sd, .long tp, .int (nI n), .ref ik, .ref iv, .ref ir, .ref il, .ref iy, .ref ig]))] s.heap.size = A at hD ⊢
  have hA : ∀ q : Nat, s.heap.size ≤ q → A q := fun q h => by rw [← hAe]; exact Or.inr h
  have hS : va_S A s.heap s.heap [] := va_S.rf
  have hP : va_P (dC, dI) classes [(jm, .inr (3, [.int th, .long sd, .long tp, .int (nI n), .ref ik, .ref iv, .ref ir, .ref il, .ref iy, .ref ig]))] s.heap := hP
  have hl := lv_entry ([.ref jm, .int p0]) (n := 2) (Nat.le_of_ble_eq_true rfl)
  rw [lg_entry_eq]
  generalize (lg_sl ([.ref jm, .int p0]) ++ List.replicate (2 - (lg_sl ([.ref jm, .int p0])).length) Slot.unset).toArray = ls at hl ⊢
  have hl : lv_has ls 2 [(0, .ref jm), (1, .int p0)] := hl
  refine lv_aload_n hx hb d_M_refuse_0 rfl (lv_at hl 0 rfl) ?_
  refine lv_iload_n hx hb d_M_refuse_1 rfl (lv_at hl 1 rfl) ?_
  refine va_put (D := (dC, dI)) (ci := 3) (v := .int p0) (ty := .int) (C := R_M) (T := F_M) (N := 10) hx hb hts (lay_M _) ft_M tok_M nok_M hown hK hP hD hS 0 rfl rfl 0 (by decide) (hts _ (List.mem_cons_of_mem _ m_336)) (fun _ h9 => h9) rfl (by decide +kernel) rfl rfl (Nat.le_of_ble_eq_true rfl) d_M_refuse_2 (fun H locs hP hD hS => ?_)
  have hP : va_P (dC, dI) classes [(jm, .inr (3, [.int p0, .long sd, .long tp, .int (nI n), .ref ik, .ref iv, .ref ir, .ref il, .ref iy, .ref ig]))] H := hP
  have hD : va_D A [(jm, .inr (3, [.int p0, .long sd, .long tp, .int (nI n), .ref ik, .ref iv, .ref ir, .ref il, .ref iy, .ref ig]))] := hD
  refine lv_iconst (v := nI 0) hx hb d_M_refuse_5 (by decide +kernel) ?_
  have hP9 := hP.sub (ws' := [(jm, .inr (3, [.int p0, .long sd, .long tp, .int (nI n), .ref ik, .ref iv, .ref ir, .ref il, .ref iy, .ref ig]))]) [0] rfl
  have hD9 := hD.sub (ws' := [(jm, .inr (3, [.int p0, .long sd, .long tp, .int (nI n), .ref ik, .ref iv, .ref ir, .ref il, .ref iy, .ref ig]))]) [0] (by decide) rfl
  have hK9 := hK.sub (tys' := []) [] rfl
  exact W.iret (v := nI 0) hx hb hr (fun t ht hW => ⟨⟨nI 0, (), rfl, rfl, by rw [ht]; exact hP9, va_K.moved hW.alike hK9, hD9⟩, hS.F ht⟩) hS.2.2 d_M_refuse_6
set_option maxHeartbeats 4000000 in
set_option maxRecDepth 100000 in
/-- reference: in -/
theorem c_M_in_ (l : Launch) (dC : Nat → ClassId) (dI : Nat → Nat → Nat) (v0 a0 b0 : Int32)  : Met l y_M_in_ w_M_in_ ({ frames := 0, cells := 0, slots := 0, locals := 0 }) (ro_P dC dI [.int v0, .int a0, .int b0] [] []) (vp_Si (fun r => r = bI (inB v0 a0 b0))) 0 0 (fun _ => False) := by
  refine Met.ofW (cc := b_M_in_) (maxL := 3) (ret := (Option.some Jvm.ClassFile.FieldType.boolean)) (by decide) rfl ?_
  intro p e s m args below meth c s₁ B0 hml hv0
  obtain ⟨rfl, hP, hK, hN⟩ := hv0
  have hx := B0.exec
  have hb := B0.bytes
  have hr := B0.returns
  have hts := atoms_spec (ws := w_M_in_) B0.pre
  have hown : s.vm.findClass R_M = some m.cls := findClass_of_methodNamed B0.named
  have hlocks := B0.notSynchronized
  have hP : va_P (dC, dI) classes [] s.heap := hP
  have hl := lv_entry ([.int v0, .int a0, .int b0]) (n := 3) (Nat.le_of_ble_eq_true rfl)
  rw [lg_entry_eq]
  generalize (lg_sl ([.int v0, .int a0, .int b0]) ++ List.replicate (3 - (lg_sl ([.int v0, .int a0, .int b0])).length) Slot.unset).toArray = ls at hl ⊢
  have hl : lv_has ls 3 [(0, .int v0), (1, .int a0), (2, .int b0)] := hl
  refine lv_iload_n hx hb d_M_in__0 rfl (lv_at hl 0 rfl) ?_
  refine lv_iload_n hx hb d_M_in__1 rfl (lv_at hl 1 rfl) ?_
  refine lv_icmp_lt (tgt := 14) hx hb d_M_in__2 (by decide) (fun c_2 => ?_) (fun c_2 => ?_)
  · skip
    refine lv_iconst (v := nI 0) hx hb d_M_in__14 (by decide +kernel) ?_
    exact W.zret (v := nI 0) (ty := .boolean) hx hb hr (by decide +kernel) (fun t ht hW => ⟨nI 0, rfl, (by simp [inB, bI, c_2]), ht⟩) (fun _ h => nomatch h) d_M_in__15
  · skip
    refine lv_iload_n hx hb d_M_in__5 rfl (lv_at hl 0 rfl) ?_
    refine lv_iload_n hx hb d_M_in__6 rfl (lv_at hl 2 rfl) ?_
    refine lv_icmp_gt (tgt := 14) hx hb d_M_in__7 (by decide) (fun c_7 => ?_) (fun c_7 => ?_)
    · skip
      refine lv_iconst (v := nI 0) hx hb d_M_in__14 (by decide +kernel) ?_
      exact W.zret (v := nI 0) (ty := .boolean) hx hb hr (by decide +kernel) (fun t ht hW => ⟨nI 0, rfl, (by simp [inB, bI, c_2, c_7]), ht⟩) (fun _ h => nomatch h) d_M_in__15
    · skip
      refine lv_iconst (v := nI 1) hx hb d_M_in__10 (by decide +kernel) ?_
      refine lv_goto (tgt := 15) hx hb d_M_in__11 (by decide) ?_
      exact W.zret (v := nI 1) (ty := .boolean) hx hb hr (by decide +kernel) (fun t ht hW => ⟨nI 1, rfl, (by simp [inB, bI, c_2, c_7]), ht⟩) (fun _ h => nomatch h) d_M_in__15
set_option maxHeartbeats 4000000 in
set_option maxRecDepth 100000 in
/-- reference: isPart -/
theorem c_M_isPart (l : Launch) (dC : Nat → ClassId) (dI : Nat → Nat → Nat) (jm ik iv ir il iy ig : Nat) (n : Nat) (th : Int32) (sd tp : Int64) (p0 : Int32)  : Met l y_M_isPart w_M_isPart ({ frames := 0, cells := 0, slots := 0, locals := 0 }) (ro_P dC dI [.ref jm, .int p0] [(jm, .inr (3, [.int th, .long sd, .long tp, .int (nI n), .ref ik, .ref iv, .ref ir, .ref il, .ref iy, .ref ig]))] []) (vp_Si (fun r => r = bI (hB n p0))) 0 0 (fun _ => False) := by
  refine Met.ofW (cc := b_M_isPart) (maxL := 2) (ret := (Option.some Jvm.ClassFile.FieldType.boolean)) (by decide) rfl ?_
  intro p e s m args below meth c s₁ B0 hml hv0
  obtain ⟨rfl, hP, hK, hN⟩ := hv0
  have hx := B0.exec
  have hb := B0.bytes
  have hr := B0.returns
  have hts := atoms_spec (ws := w_M_isPart) B0.pre
  have hown : s.vm.findClass R_M = some m.cls := findClass_of_methodNamed B0.named
  have hlocks := B0.notSynchronized
  have hP : va_P (dC, dI) classes [(jm, .inr (3, [.int th, .long sd, .long tp, .int (nI n), .ref ik, .ref iv, .ref ir, .ref il, .ref iy, .ref ig]))] s.heap := hP
  have hl := lv_entry ([.ref jm, .int p0]) (n := 2) (Nat.le_of_ble_eq_true rfl)
  rw [lg_entry_eq]
  generalize (lg_sl ([.ref jm, .int p0]) ++ List.replicate (2 - (lg_sl ([.ref jm, .int p0])).length) Slot.unset).toArray = ls at hl ⊢
  have hl : lv_has ls 2 [(0, .ref jm), (1, .int p0)] := hl
  refine lv_iload_n hx hb d_M_isPart_0 rfl (lv_at hl 1 rfl) ?_
  refine lv_if_lt (tgt := 16) hx hb d_M_isPart_1 (by decide) (fun c_1 => ?_) (fun c_1 => ?_)
  · skip
    refine lv_iconst (v := nI 0) hx hb d_M_isPart_16 (by decide +kernel) ?_
    exact W.zret (v := nI 0) (ty := .boolean) hx hb hr (by decide +kernel) (fun t ht hW => ⟨nI 0, rfl, (by simp [hB, bI, c_1]), ht⟩) (fun _ h => nomatch h) d_M_isPart_17
  · skip
    refine lv_iload_n hx hb d_M_isPart_4 rfl (lv_at hl 1 rfl) ?_
    refine lv_aload_n hx hb d_M_isPart_5 rfl (lv_at hl 0 rfl) ?_
    refine va_get (D := (dC, dI)) (ci := 3) (v := .int (nI n)) (C := R_M) (T := F_M) (N := 10) hx hb hts (lay_M _) hown hK hP 0 rfl rfl 3 (by decide) (hts _ (List.mem_cons_of_mem _ m_339)) (fun _ h9 => h9) rfl d_M_isPart_6 ?_
    refine lv_icmp_ge (tgt := 16) hx hb d_M_isPart_9 (by decide) (fun c_9 => ?_) (fun c_9 => ?_)
    · skip
      refine lv_iconst (v := nI 0) hx hb d_M_isPart_16 (by decide +kernel) ?_
      exact W.zret (v := nI 0) (ty := .boolean) hx hb hr (by decide +kernel) (fun t ht hW => ⟨nI 0, rfl, (by simp [hB, bI, c_1, c_9]), ht⟩) (fun _ h => nomatch h) d_M_isPart_17
    · skip
      refine lv_iconst (v := nI 1) hx hb d_M_isPart_12 (by decide +kernel) ?_
      refine lv_goto (tgt := 17) hx hb d_M_isPart_13 (by decide) ?_
      exact W.zret (v := nI 1) (ty := .boolean) hx hb hr (by decide +kernel) (fun t ht hW => ⟨nI 1, rfl, (by simp [hB, bI, c_1, c_9]), ht⟩) (fun _ h => nomatch h) d_M_isPart_17
set_option maxHeartbeats 4000000 in
set_option maxRecDepth 100000 in
/-- reference: number -/
theorem c_M_number (l : Launch) (dC : Nat → ClassId) (dI : Nat → Nat → Nat) (jm ik iv ir il iy ig : Nat) (n : Nat) (th : Int32) (sd tp : Int64) (q : Nat) (h0 : 0 < q) (hq : q < 2 ^ 31) (sz : Nat) : Met l y_M_number w_M_number ({ frames := 0, cells := 0, slots := 0, locals := 0 }) (wr_P dC dI [.ref jm, .int (nI q)] [(jm, .inr (3, [.int th, .long sd, .long tp, .int (nI n), .ref ik, .ref iv, .ref ir, .ref il, .ref iy, .ref ig]))] [] sz) (va_Qi (fun (r : Int32) (_ : Unit) => r = nbI tp q) (fun (u : Unit) => wr_B dC dI (va_A [(jm, .inr (3, [.int th, .long sd, .long tp, .int (nI n), .ref ik, .ref iv, .ref ir, .ref il, .ref iy, .ref ig]))] sz) [(jm, .inr (3, [.int th, .long sd, .long (nbX tp q), .int (nI n), .ref ik, .ref iv, .ref ir, .ref il, .ref iy, .ref ig]))] []) (va_A [(jm, .inr (3, [.int th, .long sd, .long tp, .int (nI n), .ref ik, .ref iv, .ref ir, .ref il, .ref iy, .ref ig]))] sz)) 0 0 (va_A [(jm, .inr (3, [.int th, .long sd, .long tp, .int (nI n), .ref ik, .ref iv, .ref ir, .ref il, .ref iy, .ref ig]))] sz) := by
  refine Met.ofW (cc := b_M_number) (maxL := 2) (ret := (Option.some Jvm.ClassFile.FieldType.int)) (by decide) rfl ?_
  intro p e s m args below meth c s₁ B0 hml hv0
  obtain ⟨rfl, hsz, hP, hK, hD0, hN⟩ := hv0
  have hx := B0.exec
  have hb := B0.bytes
  have hr := B0.returns
  have hts := atoms_spec (ws := w_M_number) B0.pre
  have hown : s.vm.findClass R_M = some m.cls := findClass_of_methodNamed B0.named
  have hlocks := B0.notSynchronized
  subst hsz
  have hD := hD0.self (sz := s.heap.size)
  generalize hAe : va_A [(jm, .inr (3, [.int th, .long sd, .long tp, .int (nI n), .ref ik, .ref iv, .ref ir, .ref il, .ref iy, .ref ig]))] s.heap.size = A at hD ⊢
  have hA : ∀ q : Nat, s.heap.size ≤ q → A q := fun q h => by rw [← hAe]; exact Or.inr h
  have hS : va_S A s.heap s.heap [] := va_S.rf
  have hP : va_P (dC, dI) classes [(jm, .inr (3, [.int th, .long sd, .long tp, .int (nI n), .ref ik, .ref iv, .ref ir, .ref il, .ref iy, .ref ig]))] s.heap := hP
  have hl := lv_entry ([.ref jm, .int (nI q)]) (n := 2) (Nat.le_of_ble_eq_true rfl)
  rw [lg_entry_eq]
  generalize (lg_sl ([.ref jm, .int (nI q)]) ++ List.replicate (2 - (lg_sl ([.ref jm, .int (nI q)])).length) Slot.unset).toArray = ls at hl ⊢
  have hl : lv_has ls 2 [(0, .ref jm), (1, .int (nI q))] := hl
  refine lv_aload_n hx hb d_M_number_0 rfl (lv_at hl 0 rfl) ?_
  refine lv_aload_n hx hb d_M_number_1 rfl (lv_at hl 0 rfl) ?_
  refine va_get (D := (dC, dI)) (ci := 3) (v := .long tp) (C := R_M) (T := F_M) (N := 10) hx hb hts (lay_M _) hown hK hP 0 rfl rfl 2 (by decide) (hts _ (List.mem_cons_of_mem _ m_338)) (fun _ h9 => h9) rfl d_M_number_2 ?_
  refine lv_ldc2 (v := 6364136223846793005) hx hb hown (hts _ (List.mem_cons_of_mem _ m_390)) d_M_number_5 ?_
  refine lv_lmul hx hb d_M_number_8 ?_
  refine lv_ldc2 (v := 1442695040888963407) hx hb hown (hts _ (List.mem_cons_of_mem _ m_391)) d_M_number_9 ?_
  refine lv_ladd hx hb d_M_number_12 ?_
  refine lv_topl (fun w_1 ew_1 => ?_)
  have ew_1 : (nbX tp q) = w_1 := (ew_1.trans (by unfold nbX; rw [if_neg (by omega)]; rfl)).symm
  subst ew_1
  refine va_put (D := (dC, dI)) (ci := 3) (v := .long (nbX tp q)) (ty := .long) (C := R_M) (T := F_M) (N := 10) hx hb hts (lay_M _) ft_M tok_M nok_M hown hK hP hD hS 0 rfl rfl 2 (by decide) (hts _ (List.mem_cons_of_mem _ m_338)) (fun _ h9 => h9) rfl (by decide +kernel) rfl rfl (Nat.le_of_ble_eq_true rfl) d_M_number_13 (fun H locs hP hD hS => ?_)
  have hP : va_P (dC, dI) classes [(jm, .inr (3, [.int th, .long sd, .long (nbX tp q), .int (nI n), .ref ik, .ref iv, .ref ir, .ref il, .ref iy, .ref ig]))] H := hP
  have hD : va_D A [(jm, .inr (3, [.int th, .long sd, .long (nbX tp q), .int (nI n), .ref ik, .ref iv, .ref ir, .ref il, .ref iy, .ref ig]))] := hD
  refine lv_aload_n hx hb d_M_number_16 rfl (lv_at hl 0 rfl) ?_
  refine va_get (D := (dC, dI)) (ci := 3) (v := .long (nbX tp q)) (C := R_M) (T := F_M) (N := 10) hx hb hts (lay_M _) hown hK hP 0 rfl rfl 2 (by decide) (hts _ (List.mem_cons_of_mem _ m_338)) (fun _ h9 => h9) rfl d_M_number_17 ?_
  refine lv_bipush (v := nI 33) hx hb d_M_number_20 (by decide +kernel) ?_
  refine lv_lushr hx hb d_M_number_22 rfl ?_
  refine lv_topl (fun w_2 ew_2 => ?_)
  have ew_2 : (lN (hi9 (nbX tp q))) = w_2 := (ew_2.trans (hi9_shl _)).symm
  subst ew_2
  refine lv_iload_n hx hb d_M_number_23 rfl (lv_at hl 1 rfl) ?_
  refine lv_i2l hx hb d_M_number_24 rfl ?_
  refine lv_topl (fun w_3 ew_3 => ?_)
  have ew_3 : (lN q) = w_3 := (ew_3.trans (nI_l hq)).symm
  subst ew_3
  refine lv_lrem hx hb d_M_number_25 (lN_nz h0 hq) ?_
  refine lv_l2i hx hb d_M_number_26 rfl ?_
  refine lv_topi (fun w_4 ew_4 => ?_)
  have ew_4 : (nbI tp q) = w_4 := (ew_4.trans (by rw [nb_lrem _ h0 hq]; unfold nbI nbX; rw [if_neg (by omega), if_neg (by omega)])).symm
  subst ew_4
  have hP9 := hP.sub (ws' := [(jm, .inr (3, [.int th, .long sd, .long (nbX tp q), .int (nI n), .ref ik, .ref iv, .ref ir, .ref il, .ref iy, .ref ig]))]) [0] rfl
  have hD9 := hD.sub (ws' := [(jm, .inr (3, [.int th, .long sd, .long (nbX tp q), .int (nI n), .ref ik, .ref iv, .ref ir, .ref il, .ref iy, .ref ig]))]) [0] (by decide) rfl
  have hK9 := hK.sub (tys' := []) [] rfl
  exact W.iret (v := nbI tp q) hx hb hr (fun t ht hW => ⟨⟨nbI tp q, (), rfl, rfl, by rw [ht]; exact hP9, va_K.moved hW.alike hK9, hD9⟩, hS.F ht⟩) hS.2.2 d_M_number_27
set_option maxHeartbeats 4000000 in
set_option maxRecDepth 100000 in
/-- reference: mayRefer -/
theorem c_M_mayRefer (l : Launch) (dC : Nat → ClassId) (dI : Nat → Nat → Nat) (kd tk : Int32)  : Met l y_M_mayRefer w_M_mayRefer ({ frames := 0, cells := 0, slots := 0, locals := 0 }) (ro_P dC dI [.int kd, .int tk] [] []) (vp_Si (fun r => r = bI (mR kd tk))) 0 0 (fun _ => False) := by
  refine Met.ofW (cc := b_M_mayRefer) (maxL := 2) (ret := (Option.some Jvm.ClassFile.FieldType.boolean)) (by decide) rfl ?_
  intro p e s m args below meth c s₁ B0 hml hv0
  obtain ⟨rfl, hP, hK, hN⟩ := hv0
  have hx := B0.exec
  have hb := B0.bytes
  have hr := B0.returns
  have hts := atoms_spec (ws := w_M_mayRefer) B0.pre
  have hown : s.vm.findClass R_M = some m.cls := findClass_of_methodNamed B0.named
  have hlocks := B0.notSynchronized
  have hP : va_P (dC, dI) classes [] s.heap := hP
  have hl := lv_entry ([.int kd, .int tk]) (n := 2) (Nat.le_of_ble_eq_true rfl)
  rw [lg_entry_eq]
  generalize (lg_sl ([.int kd, .int tk]) ++ List.replicate (2 - (lg_sl ([.int kd, .int tk])).length) Slot.unset).toArray = ls at hl ⊢
  have hl : lv_has ls 2 [(0, .int kd), (1, .int tk)] := hl
  refine lv_iload_n hx hb d_M_mayRefer_0 rfl (lv_at hl 0 rfl) ?_
  by_cases o_1 : kd.toInt < 1 ∨ 6 < kd.toInt
  · skip
    refine lv_tableOut (tgt := 98) hx hb d_M_mayRefer_1 o_1 (by decide) ?_
    have e_m : mR kd tk = false := mR_o o_1
    refine lv_iconst (v := nI 0) hx hb d_M_mayRefer_98 (by decide +kernel) ?_
    exact W.zret (v := nI 0) (ty := .boolean) hx hb hr (by decide +kernel) (fun t ht hW => ⟨nI 0, rfl, (by rw [e_m]; simp [bI]), ht⟩) (fun _ h => nomatch h) d_M_mayRefer_99
  · skip
    have o1_1 : ¬ kd.toInt < 1 := fun h => o_1 (Or.inl h)
    have o2_1 : ¬ 6 < kd.toInt := fun h => o_1 (Or.inr h)
    by_cases o_1_1 : kd.toInt = 1
    · skip
      have o3 : kd = nI 1 := sw_eq o_1_1 (by decide +kernel)
      refine lv_tableIn (tgt := 40) hx hb d_M_mayRefer_1 o1_1 o2_1 (by rw [o_1_1]; rfl) (by decide) ?_
      have e_m : mR kd tk = decide (tk = nI 0) := by rw [o3]; exact mR_1 tk
      refine lv_iload_n hx hb d_M_mayRefer_40 rfl (lv_at hl 1 rfl) ?_
      refine lv_if_ne (tgt := 48) hx hb d_M_mayRefer_41 (by decide) (fun c_41 => ?_) (fun c_41 => ?_)
      · skip
        rw [← nI_0] at c_41
        refine lv_iconst (v := nI 0) hx hb d_M_mayRefer_48 (by decide +kernel) ?_
        exact W.zret (v := nI 0) (ty := .boolean) hx hb hr (by decide +kernel) (fun t ht hW => ⟨nI 0, rfl, (by rw [e_m]; simp [bI, c_41]), ht⟩) (fun _ h => nomatch h) d_M_mayRefer_49
      · skip
        rw [← nI_0] at c_41
        refine lv_iconst (v := nI 1) hx hb d_M_mayRefer_44 (by decide +kernel) ?_
        refine lv_goto (tgt := 49) hx hb d_M_mayRefer_45 (by decide) ?_
        exact W.zret (v := nI 1) (ty := .boolean) hx hb hr (by decide +kernel) (fun t ht hW => ⟨nI 1, rfl, (by rw [e_m]; simp [bI, c_41]), ht⟩) (fun _ h => nomatch h) d_M_mayRefer_49
    · skip
      by_cases o_1_2 : kd.toInt = 2
      · skip
        have o3 : kd = nI 2 := sw_eq o_1_2 (by decide +kernel)
        refine lv_tableIn (tgt := 98) hx hb d_M_mayRefer_1 o1_1 o2_1 (by rw [o_1_2]; rfl) (by decide) ?_
        have e_m : mR kd tk = false := by rw [o3]; exact mR_2 tk
        refine lv_iconst (v := nI 0) hx hb d_M_mayRefer_98 (by decide +kernel) ?_
        exact W.zret (v := nI 0) (ty := .boolean) hx hb hr (by decide +kernel) (fun t ht hW => ⟨nI 0, rfl, (by rw [e_m]; simp [bI]), ht⟩) (fun _ h => nomatch h) d_M_mayRefer_99
      · skip
        by_cases o_1_3 : kd.toInt = 3
        · skip
          have o3 : kd = nI 3 := sw_eq o_1_3 (by decide +kernel)
          refine lv_tableIn (tgt := 40) hx hb d_M_mayRefer_1 o1_1 o2_1 (by rw [o_1_3]; rfl) (by decide) ?_
          have e_m : mR kd tk = decide (tk = nI 0) := by rw [o3]; exact mR_3 tk
          refine lv_iload_n hx hb d_M_mayRefer_40 rfl (lv_at hl 1 rfl) ?_
          refine lv_if_ne (tgt := 48) hx hb d_M_mayRefer_41 (by decide) (fun c_41 => ?_) (fun c_41 => ?_)
          · skip
            rw [← nI_0] at c_41
            refine lv_iconst (v := nI 0) hx hb d_M_mayRefer_48 (by decide +kernel) ?_
            exact W.zret (v := nI 0) (ty := .boolean) hx hb hr (by decide +kernel) (fun t ht hW => ⟨nI 0, rfl, (by rw [e_m]; simp [bI, c_41]), ht⟩) (fun _ h => nomatch h) d_M_mayRefer_49
          · skip
            rw [← nI_0] at c_41
            refine lv_iconst (v := nI 1) hx hb d_M_mayRefer_44 (by decide +kernel) ?_
            refine lv_goto (tgt := 49) hx hb d_M_mayRefer_45 (by decide) ?_
            exact W.zret (v := nI 1) (ty := .boolean) hx hb hr (by decide +kernel) (fun t ht hW => ⟨nI 1, rfl, (by rw [e_m]; simp [bI, c_41]), ht⟩) (fun _ h => nomatch h) d_M_mayRefer_49
        · skip
          by_cases o_1_4 : kd.toInt = 4
          · skip
            have o3 : kd = nI 4 := sw_eq o_1_4 (by decide +kernel)
            refine lv_tableIn (tgt := 50) hx hb d_M_mayRefer_1 o1_1 o2_1 (by rw [o_1_4]; rfl) (by decide) ?_
            have e_m : mR kd tk = decide (tk = nI 2) := by rw [o3]; exact mR_4 tk
            refine lv_iload_n hx hb d_M_mayRefer_50 rfl (lv_at hl 1 rfl) ?_
            refine lv_iconst (v := nI 2) hx hb d_M_mayRefer_51 (by decide +kernel) ?_
            refine lv_icmp_ne (tgt := 59) hx hb d_M_mayRefer_52 (by decide) (fun c_52 => ?_) (fun c_52 => ?_)
            · skip
              refine lv_iconst (v := nI 0) hx hb d_M_mayRefer_59 (by decide +kernel) ?_
              exact W.zret (v := nI 0) (ty := .boolean) hx hb hr (by decide +kernel) (fun t ht hW => ⟨nI 0, rfl, (by rw [e_m]; simp [bI, c_52]), ht⟩) (fun _ h => nomatch h) d_M_mayRefer_60
            · skip
              refine lv_iconst (v := nI 1) hx hb d_M_mayRefer_55 (by decide +kernel) ?_
              refine lv_goto (tgt := 60) hx hb d_M_mayRefer_56 (by decide) ?_
              exact W.zret (v := nI 1) (ty := .boolean) hx hb hr (by decide +kernel) (fun t ht hW => ⟨nI 1, rfl, (by rw [e_m]; simp [bI, c_52]), ht⟩) (fun _ h => nomatch h) d_M_mayRefer_60
          · skip
            by_cases o_1_5 : kd.toInt = 5
            · skip
              have o3 : kd = nI 5 := sw_eq o_1_5 (by decide +kernel)
              refine lv_tableIn (tgt := 61) hx hb d_M_mayRefer_1 o1_1 o2_1 (by rw [o_1_5]; rfl) (by decide) ?_
              have e_m : mR kd tk = (decide (tk = nI 1) || decide (tk = nI 3) || decide (tk = nI 4)) := by rw [o3]; exact mR_5 tk
              refine lv_iload_n hx hb d_M_mayRefer_61 rfl (lv_at hl 1 rfl) ?_
              refine lv_iconst (v := nI 1) hx hb d_M_mayRefer_62 (by decide +kernel) ?_
              refine lv_icmp_eq (tgt := 76) hx hb d_M_mayRefer_63 (by decide) (fun c_63 => ?_) (fun c_63 => ?_)
              · skip
                refine lv_iconst (v := nI 1) hx hb d_M_mayRefer_76 (by decide +kernel) ?_
                refine lv_goto (tgt := 81) hx hb d_M_mayRefer_77 (by decide) ?_
                exact W.zret (v := nI 1) (ty := .boolean) hx hb hr (by decide +kernel) (fun t ht hW => ⟨nI 1, rfl, (by rw [e_m]; simp [bI, c_63]), ht⟩) (fun _ h => nomatch h) d_M_mayRefer_81
              · skip
                refine lv_iload_n hx hb d_M_mayRefer_66 rfl (lv_at hl 1 rfl) ?_
                refine lv_iconst (v := nI 3) hx hb d_M_mayRefer_67 (by decide +kernel) ?_
                refine lv_icmp_eq (tgt := 76) hx hb d_M_mayRefer_68 (by decide) (fun c_68 => ?_) (fun c_68 => ?_)
                · skip
                  refine lv_iconst (v := nI 1) hx hb d_M_mayRefer_76 (by decide +kernel) ?_
                  refine lv_goto (tgt := 81) hx hb d_M_mayRefer_77 (by decide) ?_
                  exact W.zret (v := nI 1) (ty := .boolean) hx hb hr (by decide +kernel) (fun t ht hW => ⟨nI 1, rfl, (by rw [e_m]; simp [bI, c_63, c_68]), ht⟩) (fun _ h => nomatch h) d_M_mayRefer_81
                · skip
                  refine lv_iload_n hx hb d_M_mayRefer_71 rfl (lv_at hl 1 rfl) ?_
                  refine lv_iconst (v := nI 4) hx hb d_M_mayRefer_72 (by decide +kernel) ?_
                  refine lv_icmp_ne (tgt := 80) hx hb d_M_mayRefer_73 (by decide) (fun c_73 => ?_) (fun c_73 => ?_)
                  · skip
                    refine lv_iconst (v := nI 0) hx hb d_M_mayRefer_80 (by decide +kernel) ?_
                    exact W.zret (v := nI 0) (ty := .boolean) hx hb hr (by decide +kernel) (fun t ht hW => ⟨nI 0, rfl, (by rw [e_m]; simp [bI, c_63, c_68, c_73]), ht⟩) (fun _ h => nomatch h) d_M_mayRefer_81
                  · skip
                    refine lv_iconst (v := nI 1) hx hb d_M_mayRefer_76 (by decide +kernel) ?_
                    refine lv_goto (tgt := 81) hx hb d_M_mayRefer_77 (by decide) ?_
                    exact W.zret (v := nI 1) (ty := .boolean) hx hb hr (by decide +kernel) (fun t ht hW => ⟨nI 1, rfl, (by rw [e_m]; simp [bI, c_63, c_68, c_73]), ht⟩) (fun _ h => nomatch h) d_M_mayRefer_81
            · skip
              have o_1_6 : kd.toInt = 6 := by omega
              have o3 : kd = nI 6 := sw_eq o_1_6 (by decide +kernel)
              refine lv_tableIn (tgt := 82) hx hb d_M_mayRefer_1 o1_1 o2_1 (by rw [o_1_6]; rfl) (by decide) ?_
              have e_m : mR kd tk = (decide (tk = nI 4) || decide (tk = nI 5)) := by rw [o3]; exact mR_6 tk
              refine lv_iload_n hx hb d_M_mayRefer_82 rfl (lv_at hl 1 rfl) ?_
              refine lv_iconst (v := nI 4) hx hb d_M_mayRefer_83 (by decide +kernel) ?_
              refine lv_icmp_eq (tgt := 92) hx hb d_M_mayRefer_84 (by decide) (fun c_84 => ?_) (fun c_84 => ?_)
              · skip
                refine lv_iconst (v := nI 1) hx hb d_M_mayRefer_92 (by decide +kernel) ?_
                refine lv_goto (tgt := 97) hx hb d_M_mayRefer_93 (by decide) ?_
                exact W.zret (v := nI 1) (ty := .boolean) hx hb hr (by decide +kernel) (fun t ht hW => ⟨nI 1, rfl, (by rw [e_m]; simp [bI, c_84]), ht⟩) (fun _ h => nomatch h) d_M_mayRefer_97
              · skip
                refine lv_iload_n hx hb d_M_mayRefer_87 rfl (lv_at hl 1 rfl) ?_
                refine lv_iconst (v := nI 5) hx hb d_M_mayRefer_88 (by decide +kernel) ?_
                refine lv_icmp_ne (tgt := 96) hx hb d_M_mayRefer_89 (by decide) (fun c_89 => ?_) (fun c_89 => ?_)
                · skip
                  refine lv_iconst (v := nI 0) hx hb d_M_mayRefer_96 (by decide +kernel) ?_
                  exact W.zret (v := nI 0) (ty := .boolean) hx hb hr (by decide +kernel) (fun t ht hW => ⟨nI 0, rfl, (by rw [e_m]; simp [bI, c_84, c_89]), ht⟩) (fun _ h => nomatch h) d_M_mayRefer_97
                · skip
                  refine lv_iconst (v := nI 1) hx hb d_M_mayRefer_92 (by decide +kernel) ?_
                  refine lv_goto (tgt := 97) hx hb d_M_mayRefer_93 (by decide) ?_
                  exact W.zret (v := nI 1) (ty := .boolean) hx hb hr (by decide +kernel) (fun t ht hW => ⟨nI 1, rfl, (by rw [e_m]; simp [bI, c_84, c_89]), ht⟩) (fun _ h => nomatch h) d_M_mayRefer_97
set_option maxHeartbeats 4000000 in
set_option maxRecDepth 100000 in
/-- reference: isFit -/
theorem c_M_isFit (l : Launch) (dC : Nat → ClassId) (dI : Nat → Nat → Nat) (jm ik iv ir il iy ig : Nat) (n : Nat) (th : Int32) (sd tp : Int64) (dv dr : ClassId) (V R : Nat → Int32) (i : Nat) (hn : n ≤ 43) (hR : rfK n R) (hi : i < n) : Met l y_M_isFit w_M_isFit ({ frames := 0, cells := 0, slots := 0, locals := 0 }) (ro_P dC dI [.ref jm, .int (nI i)] [(jm, .inr (3, [.int th, .long sd, .long tp, .int (nI n), .ref ik, .ref iv, .ref ir, .ref il, .ref iy, .ref ig])), (iv, .inl (dv, 86, .inl V)), (ir, .inl (dr, 86, .inl R))] [(dv, .int), (dr, .int)]) (vp_Si (fun r => r = bI (ft9 V R i))) 0 0 (fun _ => False) := by
  refine Met.ofW (cc := b_M_isFit) (maxL := 2) (ret := (Option.some Jvm.ClassFile.FieldType.boolean)) (by decide) rfl ?_
  intro p e s m args below meth c s₁ B0 hml hv0
  obtain ⟨rfl, hP, hK, hN⟩ := hv0
  have hx := B0.exec
  have hb := B0.bytes
  have hr := B0.returns
  have hts := atoms_spec (ws := w_M_isFit) B0.pre
  have hown : s.vm.findClass R_M = some m.cls := findClass_of_methodNamed B0.named
  have hlocks := B0.notSynchronized
  have hP : va_P (dC, dI) classes [(jm, .inr (3, [.int th, .long sd, .long tp, .int (nI n), .ref ik, .ref iv, .ref ir, .ref il, .ref iy, .ref ig])), (iv, .inl (dv, 86, .inl V)), (ir, .inl (dr, 86, .inl R))] s.heap := hP
  have hl := lv_entry ([.ref jm, .int (nI i)]) (n := 2) (Nat.le_of_ble_eq_true rfl)
  rw [lg_entry_eq]
  generalize (lg_sl ([.ref jm, .int (nI i)]) ++ List.replicate (2 - (lg_sl ([.ref jm, .int (nI i)])).length) Slot.unset).toArray = ls at hl ⊢
  have hl : lv_has ls 2 [(0, .ref jm), (1, .int (nI i))] := hl
  refine lv_aload_n hx hb d_M_isFit_0 rfl (lv_at hl 0 rfl) ?_
  refine va_get (D := (dC, dI)) (ci := 3) (v := .ref ir) (C := R_M) (T := F_M) (N := 10) hx hb hts (lay_M _) hown hK hP 0 rfl rfl 6 (by decide) (hts _ (List.mem_cons_of_mem _ m_342)) (fun _ h9 => h9) rfl d_M_isFit_1 ?_
  refine lv_iload_n hx hb d_M_isFit_4 rfl (lv_at hl 1 rfl) ?_
  refine va_iald hx hb hK hP 2 1 rfl rfl (vp_in_nI (by omega) (by omega)) d_M_isFit_5 ?_
  refine lv_topi (fun w_1 ew_1 => ?_)
  rw [nI_clamp (by omega)] at ew_1
  have ew_1 := ew_1.symm
  subst ew_1
  refine lv_iconst (v := (-1)) hx hb d_M_isFit_6 (by decide +kernel) ?_
  refine lv_icmp_eq (tgt := 38) hx hb d_M_isFit_7 (by decide) (fun c_7 => ?_) (fun c_7 => ?_)
  · skip
    refine lv_iconst (v := nI 0) hx hb d_M_isFit_38 (by decide +kernel) ?_
    exact W.zret (v := nI 0) (ty := .boolean) hx hb hr (by decide +kernel) (fun t ht hW => ⟨nI 0, rfl, (by simp [ft9, bI, c_7]), ht⟩) (fun _ h => nomatch h) d_M_isFit_39
  · skip
    refine lv_aload_n hx hb d_M_isFit_10 rfl (lv_at hl 0 rfl) ?_
    refine va_get (D := (dC, dI)) (ci := 3) (v := .ref iv) (C := R_M) (T := F_M) (N := 10) hx hb hts (lay_M _) hown hK hP 0 rfl rfl 5 (by decide) (hts _ (List.mem_cons_of_mem _ m_341)) (fun _ h9 => h9) rfl d_M_isFit_11 ?_
    refine lv_aload_n hx hb d_M_isFit_14 rfl (lv_at hl 0 rfl) ?_
    refine va_get (D := (dC, dI)) (ci := 3) (v := .ref ir) (C := R_M) (T := F_M) (N := 10) hx hb hts (lay_M _) hown hK hP 0 rfl rfl 6 (by decide) (hts _ (List.mem_cons_of_mem _ m_342)) (fun _ h9 => h9) rfl d_M_isFit_15 ?_
    refine lv_iload_n hx hb d_M_isFit_18 rfl (lv_at hl 1 rfl) ?_
    refine va_iald hx hb hK hP 2 1 rfl rfl (vp_in_nI (by omega) (by omega)) d_M_isFit_19 ?_
    refine lv_topi (fun w_2 ew_2 => ?_)
    rw [nI_clamp (by omega)] at ew_2
    have ew_2 := ew_2.symm
    subst ew_2
    refine va_iald hx hb hK hP 1 0 rfl rfl (rfK_in hR hi (by omega) (by decide) c_7) d_M_isFit_20 ?_
    refine lv_iconst (v := nI 2) hx hb d_M_isFit_21 (by decide +kernel) ?_
    refine lv_irem hx hb d_M_isFit_22 (by decide +kernel) ?_
    refine lv_topi (fun w_3 ew_3 => ?_)
    have ew_3 : (rm2 (V (R i).toNatClampNeg)) = w_3 := (ew_3.trans (rfl)).symm
    subst ew_3
    refine lv_aload_n hx hb d_M_isFit_23 rfl (lv_at hl 0 rfl) ?_
    refine va_get (D := (dC, dI)) (ci := 3) (v := .ref iv) (C := R_M) (T := F_M) (N := 10) hx hb hts (lay_M _) hown hK hP 0 rfl rfl 5 (by decide) (hts _ (List.mem_cons_of_mem _ m_341)) (fun _ h9 => h9) rfl d_M_isFit_24 ?_
    refine lv_iload_n hx hb d_M_isFit_27 rfl (lv_at hl 1 rfl) ?_
    refine va_iald hx hb hK hP 1 0 rfl rfl (vp_in_nI (by omega) (by omega)) d_M_isFit_28 ?_
    refine lv_topi (fun w_4 ew_4 => ?_)
    rw [nI_clamp (by omega)] at ew_4
    have ew_4 := ew_4.symm
    subst ew_4
    refine lv_iconst (v := nI 2) hx hb d_M_isFit_29 (by decide +kernel) ?_
    refine lv_irem hx hb d_M_isFit_30 (by decide +kernel) ?_
    refine lv_topi (fun w_5 ew_5 => ?_)
    have ew_5 : (rm2 (V i)) = w_5 := (ew_5.trans (rfl)).symm
    subst ew_5
    refine lv_icmp_ne (tgt := 38) hx hb d_M_isFit_31 (by decide) (fun c_31 => ?_) (fun c_31 => ?_)
    · skip
      refine lv_iconst (v := nI 0) hx hb d_M_isFit_38 (by decide +kernel) ?_
      exact W.zret (v := nI 0) (ty := .boolean) hx hb hr (by decide +kernel) (fun t ht hW => ⟨nI 0, rfl, (by simp [ft9, bI, c_7, c_31]), ht⟩) (fun _ h => nomatch h) d_M_isFit_39
    · skip
      refine lv_iconst (v := nI 1) hx hb d_M_isFit_34 (by decide +kernel) ?_
      refine lv_goto (tgt := 39) hx hb d_M_isFit_35 (by decide) ?_
      exact W.zret (v := nI 1) (ty := .boolean) hx hb hr (by decide +kernel) (fun t ht hW => ⟨nI 1, rfl, (by simp [ft9, bI, c_7, c_31]), ht⟩) (fun _ h => nomatch h) d_M_isFit_39
set_option maxHeartbeats 4000000 in
set_option maxRecDepth 100000 in
/-- reference: ofKind -/
theorem c_M_ofKind (l : Launch) (dC : Nat → ClassId) (dI : Nat → Nat → Nat) (jm ik iv ir il iy ig : Nat) (n : Nat) (th : Int32) (sd tp : Int64) (dk : ClassId) (K : Nat → Int32) (kd : Int32) (hn : n ≤ 43) : Met l y_M_ofKind w_M_ofKind ({ frames := 0, cells := 0, slots := 0, locals := 0 }) (ro_P dC dI [.ref jm, .int kd] [(jm, .inr (3, [.int th, .long sd, .long tp, .int (nI n), .ref ik, .ref iv, .ref ir, .ref il, .ref iy, .ref ig])), (ik, .inl (dk, 86, .inl K))] [(dk, .int)]) (vp_Si (fun r => r = nI (cnt (kP K kd) n))) 0 0 (fun _ => False) := by
  refine Met.ofW (cc := b_M_ofKind) (maxL := 4) (ret := (Option.some Jvm.ClassFile.FieldType.int)) (by decide) rfl ?_
  intro p e s m args below meth c s₁ B0 hml hv0
  obtain ⟨rfl, hP, hK, hN⟩ := hv0
  have hx := B0.exec
  have hb := B0.bytes
  have hr := B0.returns
  have hts := atoms_spec (ws := w_M_ofKind) B0.pre
  have hown : s.vm.findClass R_M = some m.cls := findClass_of_methodNamed B0.named
  have hlocks := B0.notSynchronized
  have hP : va_P (dC, dI) classes [(jm, .inr (3, [.int th, .long sd, .long tp, .int (nI n), .ref ik, .ref iv, .ref ir, .ref il, .ref iy, .ref ig])), (ik, .inl (dk, 86, .inl K))] s.heap := hP
  have hl := lv_entry ([.ref jm, .int kd]) (n := 4) (Nat.le_of_ble_eq_true rfl)
  rw [lg_entry_eq]
  generalize (lg_sl ([.ref jm, .int kd]) ++ List.replicate (4 - (lg_sl ([.ref jm, .int kd])).length) Slot.unset).toArray = ls at hl ⊢
  have hl : lv_has ls 4 [(0, .ref jm), (1, .int kd)] := hl
  refine lv_iconst (v := nI 0) hx hb d_M_ofKind_0 (by decide +kernel) ?_
  refine lv_istore_n (lv' := [(2, .int (nI 0)), (0, .ref jm), (1, .int kd)]) hx hb d_M_ofKind_1 rfl hl (by decide) rfl (fun ls hl => ?_)
  refine lv_iconst (v := nI 0) hx hb d_M_ofKind_2 (by decide +kernel) ?_
  refine lv_istore_n (lv' := [(3, .int (nI 0)), (2, .int (nI 0)), (0, .ref jm), (1, .int kd)]) hx hb d_M_ofKind_3 rfl hl (by decide) rfl (fun ls hl => ?_)
  have lp_4 : ∀ (k9_4 : Nat), ∀ (i : Nat), n - i < k9_4 → (i ≤ n) → ∀ (ls : Array Slot), lv_has ls 4 [(0, .ref jm), (1, .int kd), (2, .int (nI (cnt (kP K kd) i))), (3, .int (nI i))] → W p l e (headSpec w_M_ofKind ({ frames := 0, cells := 0, slots := 0, locals := 0 })).room s m ([.ref jm, .int kd]).toArray below meth c s.heap [] 0 0 (MQ below (vp_Si (fun r => r = nI (cnt (kP K kd) n))) ([.ref jm, .int kd]).toArray s 0 0 (fun _ => False)) (F0 m 4 ls []) := by
    intro k9_4
    induction k9_4 with
    | zero =>
      intro i hk9
      exact absurd hk9 (Nat.not_lt_zero _)
    | succ k9_4 ih_4 =>
      intro i hk9_4 hi ls hl
      refine lv_iload_n hx hb d_M_ofKind_4 rfl (lv_at hl 3 rfl) ?_
      refine lv_aload_n hx hb d_M_ofKind_5 rfl (lv_at hl 0 rfl) ?_
      refine va_get (D := (dC, dI)) (ci := 3) (v := .int (nI n)) (C := R_M) (T := F_M) (N := 10) hx hb hts (lay_M _) hown hK hP 0 rfl rfl 3 (by decide) (hts _ (List.mem_cons_of_mem _ m_339)) (fun _ h9 => h9) rfl d_M_ofKind_6 ?_
      refine lv_icmp_ge (tgt := 36) hx hb d_M_ofKind_9 (by decide) (fun c_9 => ?_) (fun c_9 => ?_)
      · skip
        have c_9 := (nI_leI (by omega) (by omega)).mp c_9
        refine lv_iload_n hx hb d_M_ofKind_36 rfl (lv_at hl 2 rfl) ?_
        exact W.iret (v := nI (cnt (kP K kd) i)) hx hb hr (fun t ht hW => ⟨nI (cnt (kP K kd) i), rfl, (by rw [show i = n by omega]), ht⟩) (fun _ h => nomatch h) d_M_ofKind_37
      · skip
        have c_9 := (not_congr (nI_leI (by omega) (by omega))).mp c_9
        refine lv_iload_n hx hb d_M_ofKind_12 rfl (lv_at hl 2 rfl) ?_
        refine lv_aload_n hx hb d_M_ofKind_13 rfl (lv_at hl 0 rfl) ?_
        refine va_get (D := (dC, dI)) (ci := 3) (v := .ref ik) (C := R_M) (T := F_M) (N := 10) hx hb hts (lay_M _) hown hK hP 0 rfl rfl 4 (by decide) (hts _ (List.mem_cons_of_mem _ m_340)) (fun _ h9 => h9) rfl d_M_ofKind_14 ?_
        refine lv_iload_n hx hb d_M_ofKind_17 rfl (lv_at hl 3 rfl) ?_
        refine va_iald hx hb hK hP 1 0 rfl rfl (vp_in_nI (by omega) (by omega)) d_M_ofKind_18 ?_
        refine lv_topi (fun w_1 ew_1 => ?_)
        rw [nI_clamp (by omega)] at ew_1
        have ew_1 := ew_1.symm
        subst ew_1
        refine lv_iload_n hx hb d_M_ofKind_19 rfl (lv_at hl 1 rfl) ?_
        refine lv_icmp_ne (tgt := 27) hx hb d_M_ofKind_20 (by decide) (fun c_20 => ?_) (fun c_20 => ?_)
        · skip
          refine lv_iconst (v := nI 0) hx hb d_M_ofKind_27 (by decide +kernel) ?_
          refine lv_iadd hx hb d_M_ofKind_28 ?_
          refine lv_topi (fun w_2 ew_2 => ?_)
          have ew_2 : (nI (cnt (kP K kd) (i + 1))) = w_2 := (ew_2.trans (by first | (rw [cnt_t (P := kP K kd) (n := i) (decide_eq_true c_20)]; exact nI_add _ _) | (rw [cnt_f (P := kP K kd) (n := i) (decide_eq_false c_20)]; exact nI_add _ _))).symm
          subst ew_2
          refine lv_istore_n (lv' := [(2, .int (nI (cnt (kP K kd) (i + 1)))), (0, .ref jm), (1, .int kd), (3, .int (nI i))]) hx hb d_M_ofKind_29 rfl hl (by decide) rfl (fun ls hl => ?_)
          refine lv_iinc (v := nI (i + 1)) (lv' := [(3, .int (nI (i + 1))), (2, .int (nI (cnt (kP K kd) (i + 1)))), (0, .ref jm), (1, .int kd)]) hx hb d_M_ofKind_30 hl (k := 3) rfl (nI_1 _) (by decide) rfl (fun ls hl => ?_)
          refine lv_goto (tgt := 4) hx hb d_M_ofKind_33 (by decide) ?_
          exact ih_4 (i + 1) (by omega) (by first | assumption | omega) ls (lv_sub (l' := [(0, .ref jm), (1, .int kd), (2, .int (nI (cnt (kP K kd) (i + 1)))), (3, .int (nI (i + 1)))]) hl [2, 3, 1, 0] rfl)
        · skip
          refine lv_iconst (v := nI 1) hx hb d_M_ofKind_23 (by decide +kernel) ?_
          refine lv_goto (tgt := 28) hx hb d_M_ofKind_24 (by decide) ?_
          refine lv_iadd hx hb d_M_ofKind_28 ?_
          refine lv_topi (fun w_3 ew_3 => ?_)
          have ew_3 : (nI (cnt (kP K kd) (i + 1))) = w_3 := (ew_3.trans (by first | (rw [cnt_t (P := kP K kd) (n := i) (decide_eq_true c_20)]; exact nI_add _ _) | (rw [cnt_f (P := kP K kd) (n := i) (decide_eq_false c_20)]; exact nI_add _ _))).symm
          subst ew_3
          refine lv_istore_n (lv' := [(2, .int (nI (cnt (kP K kd) (i + 1)))), (0, .ref jm), (1, .int kd), (3, .int (nI i))]) hx hb d_M_ofKind_29 rfl hl (by decide) rfl (fun ls hl => ?_)
          refine lv_iinc (v := nI (i + 1)) (lv' := [(3, .int (nI (i + 1))), (2, .int (nI (cnt (kP K kd) (i + 1)))), (0, .ref jm), (1, .int kd)]) hx hb d_M_ofKind_30 hl (k := 3) rfl (nI_1 _) (by decide) rfl (fun ls hl => ?_)
          refine lv_goto (tgt := 4) hx hb d_M_ofKind_33 (by decide) ?_
          exact ih_4 (i + 1) (by omega) (by first | assumption | omega) ls (lv_sub (l' := [(0, .ref jm), (1, .int kd), (2, .int (nI (cnt (kP K kd) (i + 1)))), (3, .int (nI (i + 1)))]) hl [2, 3, 1, 0] rfl)
  exact lp_4 ((n - 0) + 1) 0 (by omega) (by first | assumption | omega) ls (lv_sub (l' := [(0, .ref jm), (1, .int kd), (2, .int (nI (cnt (kP K kd) 0))), (3, .int (nI 0))]) hl [2, 3, 1, 0] rfl)
set_option maxHeartbeats 4000000 in
set_option maxRecDepth 100000 in
/-- reference: many -/
theorem c_M_many (l : Launch) (dC : Nat → ClassId) (dI : Nat → Nat → Nat) (jm ik iv ir il iy ig : Nat) (n : Nat) (th : Int32) (sd tp : Int64) (dl : ClassId) (L : Nat → Bool) (hn : n ≤ 43) : Met l y_M_many w_M_many ({ frames := 0, cells := 0, slots := 0, locals := 0 }) (ro_P dC dI [.ref jm] [(jm, .inr (3, [.int th, .long sd, .long tp, .int (nI n), .ref ik, .ref iv, .ref ir, .ref il, .ref iy, .ref ig])), (il, .inl (dl, 43, .inl (bF L)))] [(dl, .boolean)]) (vp_Si (fun r => r = nI (cnt L n))) 0 0 (fun _ => False) := by
  refine Met.ofW (cc := b_M_many) (maxL := 3) (ret := (Option.some Jvm.ClassFile.FieldType.int)) (by decide) rfl ?_
  intro p e s m args below meth c s₁ B0 hml hv0
  obtain ⟨rfl, hP, hK, hN⟩ := hv0
  have hx := B0.exec
  have hb := B0.bytes
  have hr := B0.returns
  have hts := atoms_spec (ws := w_M_many) B0.pre
  have hown : s.vm.findClass R_M = some m.cls := findClass_of_methodNamed B0.named
  have hlocks := B0.notSynchronized
  have hP : va_P (dC, dI) classes [(jm, .inr (3, [.int th, .long sd, .long tp, .int (nI n), .ref ik, .ref iv, .ref ir, .ref il, .ref iy, .ref ig])), (il, .inl (dl, 43, .inl (bF L)))] s.heap := hP
  have hl := lv_entry ([.ref jm]) (n := 3) (Nat.le_of_ble_eq_true rfl)
  rw [lg_entry_eq]
  generalize (lg_sl ([.ref jm]) ++ List.replicate (3 - (lg_sl ([.ref jm])).length) Slot.unset).toArray = ls at hl ⊢
  have hl : lv_has ls 3 [(0, .ref jm)] := hl
  refine lv_iconst (v := nI 0) hx hb d_M_many_0 (by decide +kernel) ?_
  refine lv_istore_n (lv' := [(1, .int (nI 0)), (0, .ref jm)]) hx hb d_M_many_1 rfl hl (by decide) rfl (fun ls hl => ?_)
  refine lv_iconst (v := nI 0) hx hb d_M_many_2 (by decide +kernel) ?_
  refine lv_istore_n (lv' := [(2, .int (nI 0)), (1, .int (nI 0)), (0, .ref jm)]) hx hb d_M_many_3 rfl hl (by decide) rfl (fun ls hl => ?_)
  have lp_4 : ∀ (k9_4 : Nat), ∀ (i : Nat), n - i < k9_4 → (i ≤ n) → ∀ (ls : Array Slot), lv_has ls 3 [(0, .ref jm), (1, .int (nI (cnt L i))), (2, .int (nI i))] → W p l e (headSpec w_M_many ({ frames := 0, cells := 0, slots := 0, locals := 0 })).room s m ([.ref jm]).toArray below meth c s.heap [] 0 0 (MQ below (vp_Si (fun r => r = nI (cnt L n))) ([.ref jm]).toArray s 0 0 (fun _ => False)) (F0 m 4 ls []) := by
    intro k9_4
    induction k9_4 with
    | zero =>
      intro i hk9
      exact absurd hk9 (Nat.not_lt_zero _)
    | succ k9_4 ih_4 =>
      intro i hk9_4 hi ls hl
      refine lv_iload_n hx hb d_M_many_4 rfl (lv_at hl 2 rfl) ?_
      refine lv_aload_n hx hb d_M_many_5 rfl (lv_at hl 0 rfl) ?_
      refine va_get (D := (dC, dI)) (ci := 3) (v := .int (nI n)) (C := R_M) (T := F_M) (N := 10) hx hb hts (lay_M _) hown hK hP 0 rfl rfl 3 (by decide) (hts _ (List.mem_cons_of_mem _ m_339)) (fun _ h9 => h9) rfl d_M_many_6 ?_
      refine lv_icmp_ge (tgt := 35) hx hb d_M_many_9 (by decide) (fun c_9 => ?_) (fun c_9 => ?_)
      · skip
        have c_9 := (nI_leI (by omega) (by omega)).mp c_9
        refine lv_iload_n hx hb d_M_many_35 rfl (lv_at hl 1 rfl) ?_
        exact W.iret (v := nI (cnt L i)) hx hb hr (fun t ht hW => ⟨nI (cnt L i), rfl, (by rw [show i = n by omega]), ht⟩) (fun _ h => nomatch h) d_M_many_36
      · skip
        have c_9 := (not_congr (nI_leI (by omega) (by omega))).mp c_9
        refine lv_iload_n hx hb d_M_many_12 rfl (lv_at hl 1 rfl) ?_
        refine lv_aload_n hx hb d_M_many_13 rfl (lv_at hl 0 rfl) ?_
        refine va_get (D := (dC, dI)) (ci := 3) (v := .ref il) (C := R_M) (T := F_M) (N := 10) hx hb hts (lay_M _) hown hK hP 0 rfl rfl 7 (by decide) (hts _ (List.mem_cons_of_mem _ m_343)) (fun _ h9 => h9) rfl d_M_many_14 ?_
        refine lv_iload_n hx hb d_M_many_17 rfl (lv_at hl 2 rfl) ?_
        refine va_zald hx hb hK hP 1 0 rfl rfl (vp_in_nI (by omega) (by omega)) d_M_many_18 ?_
        refine lv_topi (fun w_1 ew_1 => ?_)
        have ew_1 : (bI (L i)) = w_1 := (ew_1.trans (by rw [nI_clamp (by omega)]; rfl)).symm
        subst ew_1
        refine lv_if_eq (tgt := 26) hx hb d_M_many_19 (by decide) (fun c_19 => ?_) (fun c_19 => ?_)
        · skip
          have c_19 := bI_f c_19
          refine lv_iconst (v := nI 0) hx hb d_M_many_26 (by decide +kernel) ?_
          refine lv_iadd hx hb d_M_many_27 ?_
          refine lv_topi (fun w_2 ew_2 => ?_)
          have ew_2 : (nI (cnt (L) (i + 1))) = w_2 := (ew_2.trans (by first | (rw [cnt_t (P := L) (n := i) c_19]; exact nI_add _ _) | (rw [cnt_f (P := L) (n := i) c_19]; exact nI_add _ _))).symm
          subst ew_2
          refine lv_istore_n (lv' := [(1, .int (nI (cnt (L) (i + 1)))), (0, .ref jm), (2, .int (nI i))]) hx hb d_M_many_28 rfl hl (by decide) rfl (fun ls hl => ?_)
          refine lv_iinc (v := nI (i + 1)) (lv' := [(2, .int (nI (i + 1))), (1, .int (nI (cnt (L) (i + 1)))), (0, .ref jm)]) hx hb d_M_many_29 hl (k := 2) rfl (nI_1 _) (by decide) rfl (fun ls hl => ?_)
          refine lv_goto (tgt := 4) hx hb d_M_many_32 (by decide) ?_
          exact ih_4 (i + 1) (by omega) (by first | assumption | omega) ls (lv_sub (l' := [(0, .ref jm), (1, .int (nI (cnt L (i + 1)))), (2, .int (nI (i + 1)))]) hl [2, 1, 0] rfl)
        · skip
          have c_19 := bI_t c_19
          refine lv_iconst (v := nI 1) hx hb d_M_many_22 (by decide +kernel) ?_
          refine lv_goto (tgt := 27) hx hb d_M_many_23 (by decide) ?_
          refine lv_iadd hx hb d_M_many_27 ?_
          refine lv_topi (fun w_3 ew_3 => ?_)
          have ew_3 : (nI (cnt (L) (i + 1))) = w_3 := (ew_3.trans (by first | (rw [cnt_t (P := L) (n := i) c_19]; exact nI_add _ _) | (rw [cnt_f (P := L) (n := i) c_19]; exact nI_add _ _))).symm
          subst ew_3
          refine lv_istore_n (lv' := [(1, .int (nI (cnt (L) (i + 1)))), (0, .ref jm), (2, .int (nI i))]) hx hb d_M_many_28 rfl hl (by decide) rfl (fun ls hl => ?_)
          refine lv_iinc (v := nI (i + 1)) (lv' := [(2, .int (nI (i + 1))), (1, .int (nI (cnt (L) (i + 1)))), (0, .ref jm)]) hx hb d_M_many_29 hl (k := 2) rfl (nI_1 _) (by decide) rfl (fun ls hl => ?_)
          refine lv_goto (tgt := 4) hx hb d_M_many_32 (by decide) ?_
          exact ih_4 (i + 1) (by omega) (by first | assumption | omega) ls (lv_sub (l' := [(0, .ref jm), (1, .int (nI (cnt L (i + 1)))), (2, .int (nI (i + 1)))]) hl [2, 1, 0] rfl)
  exact lp_4 ((n - 0) + 1) 0 (by omega) (by first | assumption | omega) ls (lv_sub (l' := [(0, .ref jm), (1, .int (nI (cnt L 0))), (2, .int (nI 0))]) hl [2, 1, 0] rfl)
end
section
theorem m_398 : (Jvm.Cond.code ({ cls := "PortDrawerModel", name := "mayRefer", desc := "(II)Z" } : Jvm.MethodName) prog_5_method_7_code (2 : Nat) (Option.some Jvm.ClassFile.FieldType.boolean)) ∈ tblG := m_t (i := 398) rfl rfl
theorem m_396 : (Jvm.Cond.methodLink "PortDrawerModel" (47 : Nat) ({ cls := "PortDrawerModel", name := "mayRefer", desc := "(II)Z" } : Jvm.MethodName)) ∈ tblG := m_t (i := 396) rfl rfl
theorem m_397 : (Jvm.Cond.static ({ cls := "PortDrawerModel", name := "mayRefer", desc := "(II)Z" } : Jvm.MethodName)) ∈ tblG := m_t (i := 397) rfl rfl
theorem m_4 : (Jvm.Cond.initialized "PortDrawerModel") ∈ tblG := m_t (i := 4) rfl rfl
theorem m_389 : (Jvm.Cond.code ({ cls := "PortDrawerModel", name := "number", desc := "(I)I" } : Jvm.MethodName) prog_5_method_6_code (2 : Nat) (Option.some Jvm.ClassFile.FieldType.int)) ∈ tblG := m_t (i := 389) rfl rfl
theorem ms_23 : Cond.selects "PortDrawerModel" ⟨"PortDrawerModel", "number", "(I)I"⟩ ⟨"PortDrawerModel", "number", "(I)I"⟩ ∈ tblG := m_s (i := 23) rfl rfl
theorem m_386 : (Jvm.Cond.methodLink "PortDrawerModel" (51 : Nat) ({ cls := "PortDrawerModel", name := "number", desc := "(I)I" } : Jvm.MethodName)) ∈ tblG := m_t (i := 386) rfl rfl
theorem m_388 : (Jvm.Cond.instanceMethod ({ cls := "PortDrawerModel", name := "number", desc := "(I)I" } : Jvm.MethodName)) ∈ tblG := m_t (i := 388) rfl rfl
theorem m_395 : (Jvm.Cond.code ({ cls := "PortDrawerModel", name := "reference", desc := "(II)I" } : Jvm.MethodName) prog_5_method_8_code (8 : Nat) (Option.some Jvm.ClassFile.FieldType.int)) ∈ tblG := m_t (i := 395) rfl rfl
theorem ms_24 : Cond.selects "PortDrawerModel" ⟨"PortDrawerModel", "reference", "(II)I"⟩ ⟨"PortDrawerModel", "reference", "(II)I"⟩ ∈ tblG := m_s (i := 24) rfl rfl
theorem m_392 : (Jvm.Cond.methodLink "PortDrawerModel" (55 : Nat) ({ cls := "PortDrawerModel", name := "reference", desc := "(II)I" } : Jvm.MethodName)) ∈ tblG := m_t (i := 392) rfl rfl
theorem m_394 : (Jvm.Cond.instanceMethod ({ cls := "PortDrawerModel", name := "reference", desc := "(II)I" } : Jvm.MethodName)) ∈ tblG := m_t (i := 394) rfl rfl
theorem m_345 : (Jvm.Cond.fieldLink "PortDrawerModel" (26 : Nat) "PortDrawerModel" "goes" "[Z") ∈ tblG := m_t (i := 345) rfl rfl
theorem d_M_reference_0 : decode b_M_reference 0 = .ok (.iconst 0, 1) := by decide +kernel
theorem d_M_reference_1 : decode b_M_reference 1 = .ok (.istore_n 3, 1) := by decide +kernel
theorem d_M_reference_2 : decode b_M_reference 2 = .ok (.iload_n 1, 1) := by decide +kernel
theorem d_M_reference_3 : decode b_M_reference 3 = .ok (.istore 4, 2) := by decide +kernel
theorem d_M_reference_5 : decode b_M_reference 5 = .ok (.iload 4, 2) := by decide +kernel
theorem d_M_reference_7 : decode b_M_reference 7 = .ok (.iload_n 2, 1) := by decide +kernel
theorem d_M_reference_8 : decode b_M_reference 8 = .ok (.if_icmp .ge 36, 3) := by decide +kernel
theorem d_M_reference_11 : decode b_M_reference 11 = .ok (.iload_n 3, 1) := by decide +kernel
theorem d_M_reference_12 : decode b_M_reference 12 = .ok (.aload_n 0, 1) := by decide +kernel
theorem d_M_reference_13 : decode b_M_reference 13 = .ok (.getfield 7, 3) := by decide +kernel
theorem d_M_reference_16 : decode b_M_reference 16 = .ok (.iload_n 2, 1) := by decide +kernel
theorem d_M_reference_17 : decode b_M_reference 17 = .ok (.iaload, 1) := by decide +kernel
theorem d_M_reference_18 : decode b_M_reference 18 = .ok (.aload_n 0, 1) := by decide +kernel
theorem d_M_reference_19 : decode b_M_reference 19 = .ok (.getfield 7, 3) := by decide +kernel
theorem d_M_reference_22 : decode b_M_reference 22 = .ok (.iload 4, 2) := by decide +kernel
theorem d_M_reference_24 : decode b_M_reference 24 = .ok (.iaload, 1) := by decide +kernel
theorem d_M_reference_25 : decode b_M_reference 25 = .ok (.invokestatic 47, 3) := by decide +kernel
theorem d_M_reference_28 : decode b_M_reference 28 = .ok (.ifCond .eq 7, 3) := by decide +kernel
theorem d_M_reference_31 : decode b_M_reference 31 = .ok (.iconst 1, 1) := by decide +kernel
theorem d_M_reference_32 : decode b_M_reference 32 = .ok (.goto 4, 3) := by decide +kernel
theorem d_M_reference_35 : decode b_M_reference 35 = .ok (.iconst 0, 1) := by decide +kernel
theorem d_M_reference_36 : decode b_M_reference 36 = .ok (.iadd, 1) := by decide +kernel
theorem d_M_reference_37 : decode b_M_reference 37 = .ok (.istore_n 3, 1) := by decide +kernel
theorem d_M_reference_38 : decode b_M_reference 38 = .ok (.iinc 4 1, 3) := by decide +kernel
theorem d_M_reference_41 : decode b_M_reference 41 = .ok (.goto (-36), 3) := by decide +kernel
theorem d_M_reference_44 : decode b_M_reference 44 = .ok (.iload_n 3, 1) := by decide +kernel
theorem d_M_reference_45 : decode b_M_reference 45 = .ok (.ifCond .le 11, 3) := by decide +kernel
theorem d_M_reference_48 : decode b_M_reference 48 = .ok (.aload_n 0, 1) := by decide +kernel
theorem d_M_reference_49 : decode b_M_reference 49 = .ok (.iload_n 3, 1) := by decide +kernel
theorem d_M_reference_50 : decode b_M_reference 50 = .ok (.invokevirtual 51, 3) := by decide +kernel
theorem d_M_reference_53 : decode b_M_reference 53 = .ok (.goto 4, 3) := by decide +kernel
theorem d_M_reference_56 : decode b_M_reference 56 = .ok (.iconst (-1), 1) := by decide +kernel
theorem d_M_reference_57 : decode b_M_reference 57 = .ok (.istore 4, 2) := by decide +kernel
theorem d_M_reference_59 : decode b_M_reference 59 = .ok (.iconst (-1), 1) := by decide +kernel
theorem d_M_reference_60 : decode b_M_reference 60 = .ok (.istore 5, 2) := by decide +kernel
theorem d_M_reference_62 : decode b_M_reference 62 = .ok (.iload_n 1, 1) := by decide +kernel
theorem d_M_reference_63 : decode b_M_reference 63 = .ok (.istore 6, 2) := by decide +kernel
theorem d_M_reference_65 : decode b_M_reference 65 = .ok (.iload 6, 2) := by decide +kernel
theorem d_M_reference_67 : decode b_M_reference 67 = .ok (.iload_n 2, 1) := by decide +kernel
theorem d_M_reference_68 : decode b_M_reference 68 = .ok (.if_icmp .ge 63, 3) := by decide +kernel
theorem d_M_reference_71 : decode b_M_reference 71 = .ok (.aload_n 0, 1) := by decide +kernel
theorem d_M_reference_72 : decode b_M_reference 72 = .ok (.getfield 7, 3) := by decide +kernel
theorem d_M_reference_75 : decode b_M_reference 75 = .ok (.iload_n 2, 1) := by decide +kernel
theorem d_M_reference_76 : decode b_M_reference 76 = .ok (.iaload, 1) := by decide +kernel
theorem d_M_reference_77 : decode b_M_reference 77 = .ok (.aload_n 0, 1) := by decide +kernel
theorem d_M_reference_78 : decode b_M_reference 78 = .ok (.getfield 7, 3) := by decide +kernel
theorem d_M_reference_81 : decode b_M_reference 81 = .ok (.iload 6, 2) := by decide +kernel
theorem d_M_reference_83 : decode b_M_reference 83 = .ok (.iaload, 1) := by decide +kernel
theorem d_M_reference_84 : decode b_M_reference 84 = .ok (.invokestatic 47, 3) := by decide +kernel
theorem d_M_reference_87 : decode b_M_reference 87 = .ok (.istore 7, 2) := by decide +kernel
theorem d_M_reference_89 : decode b_M_reference 89 = .ok (.iload 7, 2) := by decide +kernel
theorem d_M_reference_91 : decode b_M_reference 91 = .ok (.ifCond .eq 15, 3) := by decide +kernel
theorem d_M_reference_94 : decode b_M_reference 94 = .ok (.iload 4, 2) := by decide +kernel
theorem d_M_reference_96 : decode b_M_reference 96 = .ok (.ifCond .ne 10, 3) := by decide +kernel
theorem d_M_reference_99 : decode b_M_reference 99 = .ok (.iload 6, 2) := by decide +kernel
theorem d_M_reference_101 : decode b_M_reference 101 = .ok (.iload_n 1, 1) := by decide +kernel
theorem d_M_reference_102 : decode b_M_reference 102 = .ok (.isub, 1) := by decide +kernel
theorem d_M_reference_103 : decode b_M_reference 103 = .ok (.goto 5, 3) := by decide +kernel
theorem d_M_reference_106 : decode b_M_reference 106 = .ok (.iload 5, 2) := by decide +kernel
theorem d_M_reference_108 : decode b_M_reference 108 = .ok (.istore 5, 2) := by decide +kernel
theorem d_M_reference_110 : decode b_M_reference 110 = .ok (.iload 4, 2) := by decide +kernel
theorem d_M_reference_112 : decode b_M_reference 112 = .ok (.iload 7, 2) := by decide +kernel
theorem d_M_reference_114 : decode b_M_reference 114 = .ok (.ifCond .eq 7, 3) := by decide +kernel
theorem d_M_reference_117 : decode b_M_reference 117 = .ok (.iconst 1, 1) := by decide +kernel
theorem d_M_reference_118 : decode b_M_reference 118 = .ok (.goto 4, 3) := by decide +kernel
theorem d_M_reference_121 : decode b_M_reference 121 = .ok (.iconst 0, 1) := by decide +kernel
theorem d_M_reference_122 : decode b_M_reference 122 = .ok (.isub, 1) := by decide +kernel
theorem d_M_reference_123 : decode b_M_reference 123 = .ok (.istore 4, 2) := by decide +kernel
theorem d_M_reference_125 : decode b_M_reference 125 = .ok (.iinc 6 1, 3) := by decide +kernel
theorem d_M_reference_128 : decode b_M_reference 128 = .ok (.goto (-63), 3) := by decide +kernel
theorem d_M_reference_131 : decode b_M_reference 131 = .ok (.iload 5, 2) := by decide +kernel
theorem d_M_reference_133 : decode b_M_reference 133 = .ok (.ireturn, 1) := by decide +kernel
theorem d_M_draws_0 : decode b_M_draws 0 = .ok (.aload_n 0, 1) := by decide +kernel
theorem d_M_draws_1 : decode b_M_draws 1 = .ok (.lload_n 1, 1) := by decide +kernel
theorem d_M_draws_2 : decode b_M_draws 2 = .ok (.putfield 40, 3) := by decide +kernel
theorem d_M_draws_5 : decode b_M_draws 5 = .ok (.iconst 0, 1) := by decide +kernel
theorem d_M_draws_6 : decode b_M_draws 6 = .ok (.istore 5, 2) := by decide +kernel
theorem d_M_draws_8 : decode b_M_draws 8 = .ok (.iload 5, 2) := by decide +kernel
theorem d_M_draws_10 : decode b_M_draws 10 = .ok (.iload 4, 2) := by decide +kernel
theorem d_M_draws_12 : decode b_M_draws 12 = .ok (.iconst 3, 1) := by decide +kernel
theorem d_M_draws_13 : decode b_M_draws 13 = .ok (.iadd, 1) := by decide +kernel
theorem d_M_draws_14 : decode b_M_draws 14 = .ok (.if_icmp .ge 66, 3) := by decide +kernel
theorem d_M_draws_17 : decode b_M_draws 17 = .ok (.iload_n 3, 1) := by decide +kernel
theorem d_M_draws_18 : decode b_M_draws 18 = .ok (.iload 5, 2) := by decide +kernel
theorem d_M_draws_20 : decode b_M_draws 20 = .ok (.iadd, 1) := by decide +kernel
theorem d_M_draws_21 : decode b_M_draws 21 = .ok (.istore 6, 2) := by decide +kernel
theorem d_M_draws_23 : decode b_M_draws 23 = .ok (.aload_n 0, 1) := by decide +kernel
theorem d_M_draws_24 : decode b_M_draws 24 = .ok (.getfield 7, 3) := by decide +kernel
theorem d_M_draws_27 : decode b_M_draws 27 = .ok (.iload 6, 2) := by decide +kernel
theorem d_M_draws_29 : decode b_M_draws 29 = .ok (.iload 5, 2) := by decide +kernel
theorem d_M_draws_31 : decode b_M_draws 31 = .ok (.iconst 3, 1) := by decide +kernel
theorem d_M_draws_32 : decode b_M_draws 32 = .ok (.if_icmp .ge 8, 3) := by decide +kernel
theorem d_M_draws_35 : decode b_M_draws 35 = .ok (.iload 5, 2) := by decide +kernel
theorem d_M_draws_37 : decode b_M_draws 37 = .ok (.goto 9, 3) := by decide +kernel
theorem d_M_draws_40 : decode b_M_draws 40 = .ok (.aload_n 0, 1) := by decide +kernel
theorem d_M_draws_41 : decode b_M_draws 41 = .ok (.bipush 7, 2) := by decide +kernel
theorem d_M_draws_43 : decode b_M_draws 43 = .ok (.invokevirtual 51, 3) := by decide +kernel
theorem d_M_draws_46 : decode b_M_draws 46 = .ok (.iastore, 1) := by decide +kernel
theorem d_M_draws_47 : decode b_M_draws 47 = .ok (.aload_n 0, 1) := by decide +kernel
theorem d_M_draws_48 : decode b_M_draws 48 = .ok (.getfield 13, 3) := by decide +kernel
theorem d_M_draws_51 : decode b_M_draws 51 = .ok (.iload 6, 2) := by decide +kernel
theorem d_M_draws_53 : decode b_M_draws 53 = .ok (.aload_n 0, 1) := by decide +kernel
theorem d_M_draws_54 : decode b_M_draws 54 = .ok (.bipush 100, 2) := by decide +kernel
theorem d_M_draws_56 : decode b_M_draws 56 = .ok (.invokevirtual 51, 3) := by decide +kernel
theorem d_M_draws_59 : decode b_M_draws 59 = .ok (.iastore, 1) := by decide +kernel
theorem d_M_draws_60 : decode b_M_draws 60 = .ok (.aload_n 0, 1) := by decide +kernel
theorem d_M_draws_61 : decode b_M_draws 61 = .ok (.getfield 16, 3) := by decide +kernel
theorem d_M_draws_64 : decode b_M_draws 64 = .ok (.iload 6, 2) := by decide +kernel
theorem d_M_draws_66 : decode b_M_draws 66 = .ok (.aload_n 0, 1) := by decide +kernel
theorem d_M_draws_67 : decode b_M_draws 67 = .ok (.iload_n 3, 1) := by decide +kernel
theorem d_M_draws_68 : decode b_M_draws 68 = .ok (.iload 6, 2) := by decide +kernel
theorem d_M_draws_70 : decode b_M_draws 70 = .ok (.invokevirtual 55, 3) := by decide +kernel
theorem d_M_draws_73 : decode b_M_draws 73 = .ok (.iastore, 1) := by decide +kernel
theorem d_M_draws_74 : decode b_M_draws 74 = .ok (.iinc 5 1, 3) := by decide +kernel
theorem d_M_draws_77 : decode b_M_draws 77 = .ok (.goto (-69), 3) := by decide +kernel
theorem d_M_draws_80 : decode b_M_draws 80 = .ok (.return_, 1) := by decide +kernel
theorem d_M_all_0 : decode b_M_all 0 = .ok (.iconst 0, 1) := by decide +kernel
theorem d_M_all_1 : decode b_M_all 1 = .ok (.istore_n 1, 1) := by decide +kernel
theorem d_M_all_2 : decode b_M_all 2 = .ok (.iload_n 1, 1) := by decide +kernel
theorem d_M_all_3 : decode b_M_all 3 = .ok (.bipush 43, 2) := by decide +kernel
theorem d_M_all_5 : decode b_M_all 5 = .ok (.if_icmp .ge 28, 3) := by decide +kernel
theorem d_M_all_8 : decode b_M_all 8 = .ok (.aload_n 0, 1) := by decide +kernel
theorem d_M_all_9 : decode b_M_all 9 = .ok (.getfield 19, 3) := by decide +kernel
theorem d_M_all_12 : decode b_M_all 12 = .ok (.iload_n 1, 1) := by decide +kernel
theorem d_M_all_13 : decode b_M_all 13 = .ok (.iload_n 1, 1) := by decide +kernel
theorem d_M_all_14 : decode b_M_all 14 = .ok (.aload_n 0, 1) := by decide +kernel
theorem d_M_all_15 : decode b_M_all 15 = .ok (.getfield 37, 3) := by decide +kernel
theorem d_M_all_18 : decode b_M_all 18 = .ok (.if_icmp .ge 7, 3) := by decide +kernel
theorem d_M_all_21 : decode b_M_all 21 = .ok (.iconst 1, 1) := by decide +kernel
theorem d_M_all_22 : decode b_M_all 22 = .ok (.goto 4, 3) := by decide +kernel
theorem d_M_all_25 : decode b_M_all 25 = .ok (.iconst 0, 1) := by decide +kernel
theorem d_M_all_26 : decode b_M_all 26 = .ok (.bastore, 1) := by decide +kernel
theorem d_M_all_27 : decode b_M_all 27 = .ok (.iinc 1 1, 3) := by decide +kernel
theorem d_M_all_30 : decode b_M_all 30 = .ok (.goto (-28), 3) := by decide +kernel
theorem d_M_all_33 : decode b_M_all 33 = .ok (.return_, 1) := by decide +kernel
theorem d_M_none_0 : decode b_M_none 0 = .ok (.iconst 0, 1) := by decide +kernel
theorem d_M_none_1 : decode b_M_none 1 = .ok (.istore_n 1, 1) := by decide +kernel
theorem d_M_none_2 : decode b_M_none 2 = .ok (.iload_n 1, 1) := by decide +kernel
theorem d_M_none_3 : decode b_M_none 3 = .ok (.bipush 43, 2) := by decide +kernel
theorem d_M_none_5 : decode b_M_none 5 = .ok (.if_icmp .ge 16, 3) := by decide +kernel
theorem d_M_none_8 : decode b_M_none 8 = .ok (.aload_n 0, 1) := by decide +kernel
theorem d_M_none_9 : decode b_M_none 9 = .ok (.getfield 26, 3) := by decide +kernel
theorem d_M_none_12 : decode b_M_none 12 = .ok (.iload_n 1, 1) := by decide +kernel
theorem d_M_none_13 : decode b_M_none 13 = .ok (.iconst 0, 1) := by decide +kernel
theorem d_M_none_14 : decode b_M_none 14 = .ok (.bastore, 1) := by decide +kernel
theorem d_M_none_15 : decode b_M_none 15 = .ok (.iinc 1 1, 3) := by decide +kernel
theorem d_M_none_18 : decode b_M_none 18 = .ok (.goto (-16), 3) := by decide +kernel
theorem d_M_none_21 : decode b_M_none 21 = .ok (.return_, 1) := by decide +kernel
theorem d_M_leaves_0 : decode b_M_leaves 0 = .ok (.iconst 0, 1) := by decide +kernel
theorem d_M_leaves_1 : decode b_M_leaves 1 = .ok (.istore_n 1, 1) := by decide +kernel
theorem d_M_leaves_2 : decode b_M_leaves 2 = .ok (.iload_n 1, 1) := by decide +kernel
theorem d_M_leaves_3 : decode b_M_leaves 3 = .ok (.aload_n 0, 1) := by decide +kernel
theorem d_M_leaves_4 : decode b_M_leaves 4 = .ok (.getfield 37, 3) := by decide +kernel
theorem d_M_leaves_7 : decode b_M_leaves 7 = .ok (.if_icmp .ge 38, 3) := by decide +kernel
theorem d_M_leaves_10 : decode b_M_leaves 10 = .ok (.aload_n 0, 1) := by decide +kernel
theorem d_M_leaves_11 : decode b_M_leaves 11 = .ok (.getfield 19, 3) := by decide +kernel
theorem d_M_leaves_14 : decode b_M_leaves 14 = .ok (.iload_n 1, 1) := by decide +kernel
theorem d_M_leaves_15 : decode b_M_leaves 15 = .ok (.aload_n 0, 1) := by decide +kernel
theorem d_M_leaves_16 : decode b_M_leaves 16 = .ok (.getfield 19, 3) := by decide +kernel
theorem d_M_leaves_19 : decode b_M_leaves 19 = .ok (.iload_n 1, 1) := by decide +kernel
theorem d_M_leaves_20 : decode b_M_leaves 20 = .ok (.baload, 1) := by decide +kernel
theorem d_M_leaves_21 : decode b_M_leaves 21 = .ok (.ifCond .eq 16, 3) := by decide +kernel
theorem d_M_leaves_24 : decode b_M_leaves 24 = .ok (.aload_n 0, 1) := by decide +kernel
theorem d_M_leaves_25 : decode b_M_leaves 25 = .ok (.getfield 26, 3) := by decide +kernel
theorem d_M_leaves_28 : decode b_M_leaves 28 = .ok (.iload_n 1, 1) := by decide +kernel
theorem d_M_leaves_29 : decode b_M_leaves 29 = .ok (.baload, 1) := by decide +kernel
theorem d_M_leaves_30 : decode b_M_leaves 30 = .ok (.ifCond .ne 7, 3) := by decide +kernel
theorem d_M_leaves_33 : decode b_M_leaves 33 = .ok (.iconst 1, 1) := by decide +kernel
theorem d_M_leaves_34 : decode b_M_leaves 34 = .ok (.goto 4, 3) := by decide +kernel
theorem d_M_leaves_37 : decode b_M_leaves 37 = .ok (.iconst 0, 1) := by decide +kernel
theorem d_M_leaves_38 : decode b_M_leaves 38 = .ok (.bastore, 1) := by decide +kernel
theorem d_M_leaves_39 : decode b_M_leaves 39 = .ok (.iinc 1 1, 3) := by decide +kernel
theorem d_M_leaves_42 : decode b_M_leaves 42 = .ok (.goto (-40), 3) := by decide +kernel
theorem d_M_leaves_45 : decode b_M_leaves 45 = .ok (.return_, 1) := by decide +kernel
set_option maxHeartbeats 4000000 in
set_option maxRecDepth 100000 in
/-- reference: reference -/
theorem c_M_reference (l : Launch) (dC : Nat → ClassId) (dI : Nat → Nat → Nat) (jm ik iv ir il iy ig : Nat) (n : Nat) (th : Int32) (sd tp : Int64) (dk : ClassId) (K : Nat → Int32) (f j : Nat) (kd : Int32) (hf : f + j < 86) (hkd : K (f + j) = kd) (sz : Nat) : Met l y_M_reference w_M_reference ({ frames := 1, cells := 0, slots := 0, locals := 21 }) (wr_P dC dI [.ref jm, .int (nI f), .int (nI (f + j))] [(jm, .inr (3, [.int th, .long sd, .long tp, .int (nI n), .ref ik, .ref iv, .ref ir, .ref il, .ref iy, .ref ig])), (ik, .inl (dk, 86, .inl K))] [(dk, .int)] sz) (va_Qi (fun (r : Int32) (_ : Unit) => r = rfI (shf K f) j kd tp) (fun (u : Unit) => wr_B dC dI (va_A [(jm, .inr (3, [.int th, .long sd, .long tp, .int (nI n), .ref ik, .ref iv, .ref ir, .ref il, .ref iy, .ref ig])), (ik, .inl (dk, 86, .inl K))] sz) [(jm, .inr (3, [.int th, .long sd, .long (rfX (shf K f) j kd tp), .int (nI n), .ref ik, .ref iv, .ref ir, .ref il, .ref iy, .ref ig])), (ik, .inl (dk, 86, .inl K))] [(dk, .int)]) (va_A [(jm, .inr (3, [.int th, .long sd, .long tp, .int (nI n), .ref ik, .ref iv, .ref ir, .ref il, .ref iy, .ref ig])), (ik, .inl (dk, 86, .inl K))] sz)) 0 0 (va_A [(jm, .inr (3, [.int th, .long sd, .long tp, .int (nI n), .ref ik, .ref iv, .ref ir, .ref il, .ref iy, .ref ig])), (ik, .inl (dk, 86, .inl K))] sz) := by
  refine Met.ofW (cc := b_M_reference) (maxL := 8) (ret := (Option.some Jvm.ClassFile.FieldType.int)) (by decide) rfl ?_
  intro p e s m args below meth c s₁ B0 hml hv0
  obtain ⟨rfl, hsz, hP, hK, hD0, hN⟩ := hv0
  have hx := B0.exec
  have hb := B0.bytes
  have hr := B0.returns
  have hts := atoms_spec (ws := w_M_reference) B0.pre
  have hown : s.vm.findClass R_M = some m.cls := findClass_of_methodNamed B0.named
  have hlocks := B0.notSynchronized
  subst hsz
  have hD := hD0.self (sz := s.heap.size)
  generalize hAe : va_A [(jm, .inr (3, [.int th, .long sd, .long tp, .int (nI n), .ref ik, .ref iv, .ref ir, .ref il, .ref iy, .ref ig])), (ik, .inl (dk, 86, .inl K))] s.heap.size = A at hD ⊢
  have hA : ∀ q : Nat, s.heap.size ≤ q → A q := fun q h => by rw [← hAe]; exact Or.inr h
  have hS : va_S A s.heap s.heap [] := va_S.rf
  have hP : va_P (dC, dI) classes [(jm, .inr (3, [.int th, .long sd, .long tp, .int (nI n), .ref ik, .ref iv, .ref ir, .ref il, .ref iy, .ref ig])), (ik, .inl (dk, 86, .inl K))] s.heap := hP
  have hl := lv_entry ([.ref jm, .int (nI f), .int (nI (f + j))]) (n := 8) (Nat.le_of_ble_eq_true rfl)
  rw [lg_entry_eq]
  generalize (lg_sl ([.ref jm, .int (nI f), .int (nI (f + j))]) ++ List.replicate (8 - (lg_sl ([.ref jm, .int (nI f), .int (nI (f + j))])).length) Slot.unset).toArray = ls at hl ⊢
  have hl : lv_has ls 8 [(0, .ref jm), (1, .int (nI f)), (2, .int (nI (f + j)))] := hl
  have hcj := cnt_le (mP (shf K f) kd) j
  refine lv_iconst (v := nI 0) hx hb d_M_reference_0 (by decide +kernel) ?_
  refine lv_istore_n (lv' := [(3, .int (nI 0)), (0, .ref jm), (1, .int (nI f)), (2, .int (nI (f + j)))]) hx hb d_M_reference_1 rfl hl (by decide) rfl (fun ls hl => ?_)
  refine lv_iload_n hx hb d_M_reference_2 rfl (lv_at hl 2 rfl) ?_
  refine lv_istore (lv' := [(4, .int (nI f)), (3, .int (nI 0)), (0, .ref jm), (1, .int (nI f)), (2, .int (nI (f + j)))]) hx hb d_M_reference_3 hl (by decide) rfl (fun ls hl => ?_)
  have lp_5 : ∀ (k9_5 : Nat), ∀ (i : Nat), j - i < k9_5 → (i ≤ j) → ∀ (ls : Array Slot), lv_has ls 8 [(0, .ref jm), (1, .int (nI f)), (2, .int (nI (f + j))), (3, .int (nI (cnt (mP (shf K f) kd) i))), (4, .int (nI (f + i)))] → W p l e (headSpec w_M_reference ({ frames := 1, cells := 0, slots := 0, locals := 21 })).room s m ([.ref jm, .int (nI f), .int (nI (f + j))]).toArray below meth c s.heap [] 0 0 (MQ below (va_Qi (fun (r : Int32) (_ : Unit) => r = rfI (shf K f) j kd tp) (fun (u : Unit) => wr_B dC dI (A) [(jm, .inr (3, [.int th, .long sd, .long (rfX (shf K f) j kd tp), .int (nI n), .ref ik, .ref iv, .ref ir, .ref il, .ref iy, .ref ig])), (ik, .inl (dk, 86, .inl K))] [(dk, .int)]) (A)) ([.ref jm, .int (nI f), .int (nI (f + j))]).toArray s 0 0 A) (F0 m 5 ls []) := by
    intro k9_5
    induction k9_5 with
    | zero =>
      intro i hk9
      exact absurd hk9 (Nat.not_lt_zero _)
    | succ k9_5 ih_5 =>
      intro i hk9_5 hi ls hl
      have hci := cnt_le (mP (shf K f) kd) i
      refine lv_iload hx hb d_M_reference_5 (lv_at hl 4 rfl) ?_
      refine lv_iload_n hx hb d_M_reference_7 rfl (lv_at hl 2 rfl) ?_
      refine lv_icmp_ge (tgt := 44) hx hb d_M_reference_8 (by decide) (fun c_8 => ?_) (fun c_8 => ?_)
      · skip
        have c_8 := (nI_leI (by omega) (by omega)).mp c_8
        rw [show nI (cnt (mP (shf K f) kd) i) = nI (cnt (mP (shf K f) kd) j) from (by rw [show i = j by omega])] at hl
        refine lv_iload_n hx hb d_M_reference_44 rfl (lv_at hl 3 rfl) ?_
        refine lv_if_le (tgt := 56) hx hb d_M_reference_45 (by decide) (fun c_45 => ?_) (fun c_45 => ?_)
        · skip
          have c_45 := (nI_le0 (by omega)).mp c_45
          have e9 : tp = rfX (shf K f) j kd tp := by unfold rfX nbX; rw [if_pos c_45]
          rw [e9] at hP hD
          refine lv_iconst (v := (-1)) hx hb d_M_reference_56 (by decide +kernel) ?_
          refine lv_topi (fun w_1 ew_1 => ?_)
          have ew_1 : (nbI tp (cnt (mP (shf K f) kd) j)) = w_1 := (ew_1.trans (by unfold nbI; rw [if_pos c_45])).symm
          subst ew_1
          have lp_57 : ∀ (H : Heap) (locs : List Loc), va_P (dC, dI) classes [(jm, .inr (3, [.int th, .long sd, .long (rfX (shf K f) j kd tp), .int (nI n), .ref ik, .ref iv, .ref ir, .ref il, .ref iy, .ref ig])), (ik, .inl (dk, 86, .inl K))] H → va_D A [(jm, .inr (3, [.int th, .long sd, .long (rfX (shf K f) j kd tp), .int (nI n), .ref ik, .ref iv, .ref ir, .ref il, .ref iy, .ref ig])), (ik, .inl (dk, 86, .inl K))] → va_S A s.heap H locs → ∀ (ls : Array Slot), lv_has ls 8 [(0, .ref jm), (1, .int (nI f)), (2, .int (nI (f + j)))] → W p l e (headSpec w_M_reference ({ frames := 1, cells := 0, slots := 0, locals := 21 })).room s m ([.ref jm, .int (nI f), .int (nI (f + j))]).toArray below meth c H locs 0 0 (MQ below (va_Qi (fun (r : Int32) (_ : Unit) => r = rfI (shf K f) j kd tp) (fun (u : Unit) => wr_B dC dI (A) [(jm, .inr (3, [.int th, .long sd, .long (rfX (shf K f) j kd tp), .int (nI n), .ref ik, .ref iv, .ref ir, .ref il, .ref iy, .ref ig])), (ik, .inl (dk, 86, .inl K))] [(dk, .int)]) (A)) ([.ref jm, .int (nI f), .int (nI (f + j))]).toArray s 0 0 A) (F0 m 57 ls [.int (nbI tp (cnt (mP (shf K f) kd) j))]) := by
            intro   H locs hP hD hS ls hl
            refine lv_istore (lv' := [(4, .int (nbI tp (cnt (mP (shf K f) kd) j))), (0, .ref jm), (1, .int (nI f)), (2, .int (nI (f + j)))]) hx hb d_M_reference_57 hl (by decide) rfl (fun ls hl => ?_)
            refine lv_iconst (v := (-1)) hx hb d_M_reference_59 (by decide +kernel) ?_
            refine lv_istore (lv' := [(5, .int (-1)), (4, .int (nbI tp (cnt (mP (shf K f) kd) j))), (0, .ref jm), (1, .int (nI f)), (2, .int (nI (f + j)))]) hx hb d_M_reference_60 hl (by decide) rfl (fun ls hl => ?_)
            refine lv_iload_n hx hb d_M_reference_62 rfl (lv_at hl 3 rfl) ?_
            refine lv_istore (lv' := [(6, .int (nI f)), (5, .int (-1)), (4, .int (nbI tp (cnt (mP (shf K f) kd) j))), (0, .ref jm), (1, .int (nI f)), (2, .int (nI (f + j)))]) hx hb d_M_reference_63 hl (by decide) rfl (fun ls hl => ?_)
            rw [show nbI tp (cnt (mP (shf K f) kd) j) = (nbI tp (cnt (mP (shf K f) kd) j)) - (nI (cnt (mP (shf K f) kd) 0)) from (pk_z _).symm] at hl
            have lp_65 : ∀ (k9_65 : Nat), ∀ (i : Nat), j - i < k9_65 → (i ≤ j) → ∀ (ls : Array Slot), lv_has ls 8 [(0, .ref jm), (1, .int (nI f)), (2, .int (nI (f + j))), (4, .int ((nbI tp (cnt (mP (shf K f) kd) j)) - (nI (cnt (mP (shf K f) kd) i)))), (5, .int (oI (fst9 (dQ (mP (shf K f) kd) (nbI tp (cnt (mP (shf K f) kd) j))) i))), (6, .int (nI (f + i)))] → W p l e (headSpec w_M_reference ({ frames := 1, cells := 0, slots := 0, locals := 21 })).room s m ([.ref jm, .int (nI f), .int (nI (f + j))]).toArray below meth c H locs 0 0 (MQ below (va_Qi (fun (r : Int32) (_ : Unit) => r = rfI (shf K f) j kd tp) (fun (u : Unit) => wr_B dC dI (A) [(jm, .inr (3, [.int th, .long sd, .long (rfX (shf K f) j kd tp), .int (nI n), .ref ik, .ref iv, .ref ir, .ref il, .ref iy, .ref ig])), (ik, .inl (dk, 86, .inl K))] [(dk, .int)]) (A)) ([.ref jm, .int (nI f), .int (nI (f + j))]).toArray s 0 0 A) (F0 m 65 ls []) := by
              intro k9_65
              induction k9_65 with
              | zero =>
                intro i hk9
                exact absurd hk9 (Nat.not_lt_zero _)
              | succ k9_65 ih_65 =>
                intro i hk9_65 hi ls hl
                refine lv_iload hx hb d_M_reference_65 (lv_at hl 5 rfl) ?_
                refine lv_iload_n hx hb d_M_reference_67 rfl (lv_at hl 2 rfl) ?_
                refine lv_icmp_ge (tgt := 131) hx hb d_M_reference_68 (by decide) (fun c_68 => ?_) (fun c_68 => ?_)
                · skip
                  have c_68 := (nI_leI (by omega) (by omega)).mp c_68
                  refine lv_iload hx hb d_M_reference_131 (lv_at hl 4 rfl) ?_
                  have hP9 := hP.sub (ws' := [(jm, .inr (3, [.int th, .long sd, .long (rfX (shf K f) j kd tp), .int (nI n), .ref ik, .ref iv, .ref ir, .ref il, .ref iy, .ref ig])), (ik, .inl (dk, 86, .inl K))]) [0, 1] rfl
                  have hD9 := hD.sub (ws' := [(jm, .inr (3, [.int th, .long sd, .long (rfX (shf K f) j kd tp), .int (nI n), .ref ik, .ref iv, .ref ir, .ref il, .ref iy, .ref ig])), (ik, .inl (dk, 86, .inl K))]) [0, 1] (by decide) rfl
                  have hK9 := hK.sub (tys' := [(dk, .int)]) [0] rfl
                  exact W.iret (v := oI (fst9 (dQ (mP (shf K f) kd) (nbI tp (cnt (mP (shf K f) kd) j))) i)) hx hb hr (fun t ht hW => ⟨⟨oI (fst9 (dQ (mP (shf K f) kd) (nbI tp (cnt (mP (shf K f) kd) j))) i), (), rfl, (by rw [show i = j by omega]; rfl), by rw [ht]; exact hP9, va_K.moved hW.alike hK9, hD9⟩, hS.F ht⟩) hS.2.2 d_M_reference_133
                · skip
                  have c_68 := (not_congr (nI_leI (by omega) (by omega))).mp c_68
                  refine lv_aload_n hx hb d_M_reference_71 rfl (lv_at hl 0 rfl) ?_
                  refine va_get (D := (dC, dI)) (ci := 3) (v := .ref ik) (C := R_M) (T := F_M) (N := 10) hx hb hts (lay_M _) hown hK hP 0 rfl rfl 4 (by decide) (hts _ (List.mem_cons_of_mem _ m_340)) (fun _ h9 => h9) rfl d_M_reference_72 ?_
                  refine lv_iload_n hx hb d_M_reference_75 rfl (lv_at hl 2 rfl) ?_
                  refine va_iald hx hb hK hP 1 0 rfl rfl (vp_in_nI (by omega) (by omega)) d_M_reference_76 ?_
                  refine lv_topi (fun w_2 ew_2 => ?_)
                  have ew_2 : kd = w_2 := (ew_2.trans (by rw [nI_clamp (by omega)]; exact hkd)).symm
                  subst ew_2
                  refine lv_aload_n hx hb d_M_reference_77 rfl (lv_at hl 0 rfl) ?_
                  refine va_get (D := (dC, dI)) (ci := 3) (v := .ref ik) (C := R_M) (T := F_M) (N := 10) hx hb hts (lay_M _) hown hK hP 0 rfl rfl 4 (by decide) (hts _ (List.mem_cons_of_mem _ m_340)) (fun _ h9 => h9) rfl d_M_reference_78 ?_
                  refine lv_iload hx hb d_M_reference_81 (lv_at hl 5 rfl) ?_
                  refine va_iald hx hb hK hP 1 0 rfl rfl (vp_in_nI (by omega) (by omega)) d_M_reference_83 ?_
                  refine lv_topi (fun w_3 ew_3 => ?_)
                  rw [nI_clamp (by omega)] at ew_3
                  have ew_3 := ew_3.symm
                  subst ew_3
                  have hPc := hP.sub (ws' := []) [] rfl
                  have hKc := hK.sub (tys' := []) [] rfl
                  refine vp_callSi (W.runS (As := [.int kd, .int (K (f + i))]) (rest := []) ⟨hx, hb, hml, hown, hts⟩ (c_M_mayRefer l dC dI kd (K (f + i))) (va_cwS 2 hts (g_S big_w m_396 m_397 m_4 m_398) rfl rfl rfl (by decide +kernel) ⟨Nat.le_of_ble_eq_true rfl, Nat.le_of_ble_eq_true rfl⟩) (ro_S hPc hKc hN) rfl rfl hl.1 rfl (lv_room (Nat.le_of_ble_eq_true rfl)) d_M_reference_84 ⟨Nat.le_of_ble_eq_true rfl, Nat.le_of_ble_eq_true rfl⟩) (fun r_4 er_4 => ?_)
                  have er_4 := er_4.symm
                  subst er_4
                  refine lv_istore (lv' := [(7, .int (bI (mR kd (K (f + i))))), (0, .ref jm), (1, .int (nI f)), (2, .int (nI (f + j))), (4, .int ((nbI tp (cnt (mP (shf K f) kd) j)) - (nI (cnt (mP (shf K f) kd) i)))), (5, .int (oI (fst9 (dQ (mP (shf K f) kd) (nbI tp (cnt (mP (shf K f) kd) j))) i))), (6, .int (nI (f + i)))]) hx hb d_M_reference_87 hl (by decide) rfl (fun ls hl => ?_)
                  refine lv_iload hx hb d_M_reference_89 (lv_at hl 0 rfl) ?_
                  refine lv_if_eq (tgt := 106) hx hb d_M_reference_91 (by decide) (fun c_91 => ?_) (fun c_91 => ?_)
                  · skip
                    have c_91 := bI_f c_91
                    refine lv_iload hx hb d_M_reference_106 (lv_at hl 5 rfl) ?_
                    have hq9 : (dQ (mP (shf K f) kd) (nbI tp (cnt (mP (shf K f) kd) j))) i = false := by unfold dQ; rw [show (mP (shf K f) kd) i = false from c_91, Bool.false_and]
                    refine lv_topi (fun w_5 ew_5 => ?_)
                    have ew_5 : (oI (fst9 (dQ (mP (shf K f) kd) (nbI tp (cnt (mP (shf K f) kd) j))) (i + 1))) = w_5 := (ew_5.trans (by rw [fst9_st hq9])).symm
                    subst ew_5
                    refine lv_istore (lv' := [(5, .int (oI (fst9 (dQ (mP (shf K f) kd) (nbI tp (cnt (mP (shf K f) kd) j))) (i + 1)))), (7, .int (bI (mR kd (K (f + i))))), (0, .ref jm), (1, .int (nI f)), (2, .int (nI (f + j))), (4, .int ((nbI tp (cnt (mP (shf K f) kd) j)) - (nI (cnt (mP (shf K f) kd) i)))), (6, .int (nI (f + i)))]) hx hb d_M_reference_108 hl (by decide) rfl (fun ls hl => ?_)
                    refine lv_iload hx hb d_M_reference_110 (lv_at hl 5 rfl) ?_
                    refine lv_iload hx hb d_M_reference_112 (lv_at hl 1 rfl) ?_
                    refine lv_if_eq (tgt := 121) hx hb d_M_reference_114 (by decide) (fun c_114 => ?_) (fun c_114 => ?_)
                    · skip
                      have c_114 := bI_f c_114
                      refine lv_iconst (v := nI 0) hx hb d_M_reference_121 (by decide +kernel) ?_
                      refine lv_isub hx hb d_M_reference_122 ?_
                      refine lv_topi (fun w_6 ew_6 => ?_)
                      have ew_6 : ((nbI tp (cnt (mP (shf K f) kd) j)) - (nI (cnt (mP (shf K f) kd) (i + 1)))) = w_6 := (ew_6.trans (by first | (rw [cnt_t (P := mP (shf K f) kd) (n := i) c_114]; exact pk_1 _ _) | (rw [cnt_f (P := mP (shf K f) kd) (n := i) c_114]; exact pk_z _))).symm
                      subst ew_6
                      refine lv_istore (lv' := [(4, .int ((nbI tp (cnt (mP (shf K f) kd) j)) - (nI (cnt (mP (shf K f) kd) (i + 1))))), (5, .int (oI (fst9 (dQ (mP (shf K f) kd) (nbI tp (cnt (mP (shf K f) kd) j))) (i + 1)))), (7, .int (bI (mR kd (K (f + i))))), (0, .ref jm), (1, .int (nI f)), (2, .int (nI (f + j))), (6, .int (nI (f + i)))]) hx hb d_M_reference_123 hl (by decide) rfl (fun ls hl => ?_)
                      refine lv_iinc (v := nI (f + (i + 1))) (lv' := [(6, .int (nI (f + (i + 1)))), (4, .int ((nbI tp (cnt (mP (shf K f) kd) j)) - (nI (cnt (mP (shf K f) kd) (i + 1))))), (5, .int (oI (fst9 (dQ (mP (shf K f) kd) (nbI tp (cnt (mP (shf K f) kd) j))) (i + 1)))), (7, .int (bI (mR kd (K (f + i))))), (0, .ref jm), (1, .int (nI f)), (2, .int (nI (f + j)))]) hx hb d_M_reference_125 hl (k := 6) rfl (nI_1 (f + i)) (by decide) rfl (fun ls hl => ?_)
                      refine lv_goto (tgt := 65) hx hb d_M_reference_128 (by decide) ?_
                      exact ih_65 (i + 1) (by omega) (by omega) ls (lv_sub (l' := [(0, .ref jm), (1, .int (nI f)), (2, .int (nI (f + j))), (4, .int ((nbI tp (cnt (mP (shf K f) kd) j)) - (nI (cnt (mP (shf K f) kd) (i + 1))))), (5, .int (oI (fst9 (dQ (mP (shf K f) kd) (nbI tp (cnt (mP (shf K f) kd) j))) (i + 1)))), (6, .int (nI (f + (i + 1))))]) hl [4, 5, 6, 1, 2, 0] rfl)
                    · skip
                      have c_114 := bI_t c_114
                      exact absurd (c_91.symm.trans c_114) (by decide)
                  · skip
                    have c_91 := bI_t c_91
                    refine lv_iload hx hb d_M_reference_94 (lv_at hl 4 rfl) ?_
                    refine lv_if_ne (tgt := 106) hx hb d_M_reference_96 (by decide) (fun c_96 => ?_) (fun c_96 => ?_)
                    · skip
                      rw [← nI_0] at c_96
                      refine lv_iload hx hb d_M_reference_106 (lv_at hl 5 rfl) ?_
                      have hq9 : (dQ (mP (shf K f) kd) (nbI tp (cnt (mP (shf K f) kd) j))) i = false := by unfold dQ; rw [decide_eq_false (fun z => c_96 (pk_0n.mpr z)), Bool.and_false]
                      refine lv_topi (fun w_7 ew_7 => ?_)
                      have ew_7 : (oI (fst9 (dQ (mP (shf K f) kd) (nbI tp (cnt (mP (shf K f) kd) j))) (i + 1))) = w_7 := (ew_7.trans (by rw [fst9_st hq9])).symm
                      subst ew_7
                      refine lv_istore (lv' := [(5, .int (oI (fst9 (dQ (mP (shf K f) kd) (nbI tp (cnt (mP (shf K f) kd) j))) (i + 1)))), (7, .int (bI (mR kd (K (f + i))))), (0, .ref jm), (1, .int (nI f)), (2, .int (nI (f + j))), (4, .int ((nbI tp (cnt (mP (shf K f) kd) j)) - (nI (cnt (mP (shf K f) kd) i)))), (6, .int (nI (f + i)))]) hx hb d_M_reference_108 hl (by decide) rfl (fun ls hl => ?_)
                      refine lv_iload hx hb d_M_reference_110 (lv_at hl 5 rfl) ?_
                      refine lv_iload hx hb d_M_reference_112 (lv_at hl 1 rfl) ?_
                      refine lv_if_eq (tgt := 121) hx hb d_M_reference_114 (by decide) (fun c_114 => ?_) (fun c_114 => ?_)
                      · skip
                        have c_114 := bI_f c_114
                        exact absurd (c_91.symm.trans c_114) (by decide)
                      · skip
                        have c_114 := bI_t c_114
                        refine lv_iconst (v := nI 1) hx hb d_M_reference_117 (by decide +kernel) ?_
                        refine lv_goto (tgt := 122) hx hb d_M_reference_118 (by decide) ?_
                        refine lv_isub hx hb d_M_reference_122 ?_
                        refine lv_topi (fun w_8 ew_8 => ?_)
                        have ew_8 : ((nbI tp (cnt (mP (shf K f) kd) j)) - (nI (cnt (mP (shf K f) kd) (i + 1)))) = w_8 := (ew_8.trans (by first | (rw [cnt_t (P := mP (shf K f) kd) (n := i) c_114]; exact pk_1 _ _) | (rw [cnt_f (P := mP (shf K f) kd) (n := i) c_114]; exact pk_z _))).symm
                        subst ew_8
                        refine lv_istore (lv' := [(4, .int ((nbI tp (cnt (mP (shf K f) kd) j)) - (nI (cnt (mP (shf K f) kd) (i + 1))))), (5, .int (oI (fst9 (dQ (mP (shf K f) kd) (nbI tp (cnt (mP (shf K f) kd) j))) (i + 1)))), (7, .int (bI (mR kd (K (f + i))))), (0, .ref jm), (1, .int (nI f)), (2, .int (nI (f + j))), (6, .int (nI (f + i)))]) hx hb d_M_reference_123 hl (by decide) rfl (fun ls hl => ?_)
                        refine lv_iinc (v := nI (f + (i + 1))) (lv' := [(6, .int (nI (f + (i + 1)))), (4, .int ((nbI tp (cnt (mP (shf K f) kd) j)) - (nI (cnt (mP (shf K f) kd) (i + 1))))), (5, .int (oI (fst9 (dQ (mP (shf K f) kd) (nbI tp (cnt (mP (shf K f) kd) j))) (i + 1)))), (7, .int (bI (mR kd (K (f + i))))), (0, .ref jm), (1, .int (nI f)), (2, .int (nI (f + j)))]) hx hb d_M_reference_125 hl (k := 6) rfl (nI_1 (f + i)) (by decide) rfl (fun ls hl => ?_)
                        refine lv_goto (tgt := 65) hx hb d_M_reference_128 (by decide) ?_
                        exact ih_65 (i + 1) (by omega) (by omega) ls (lv_sub (l' := [(0, .ref jm), (1, .int (nI f)), (2, .int (nI (f + j))), (4, .int ((nbI tp (cnt (mP (shf K f) kd) j)) - (nI (cnt (mP (shf K f) kd) (i + 1))))), (5, .int (oI (fst9 (dQ (mP (shf K f) kd) (nbI tp (cnt (mP (shf K f) kd) j))) (i + 1)))), (6, .int (nI (f + (i + 1))))]) hl [4, 5, 6, 1, 2, 0] rfl)
                    · skip
                      rw [← nI_0] at c_96
                      refine lv_iload hx hb d_M_reference_99 (lv_at hl 6 rfl) ?_
                      refine lv_iload_n hx hb d_M_reference_101 rfl (lv_at hl 2 rfl) ?_
                      refine lv_isub hx hb d_M_reference_102 ?_
                      refine lv_topi (fun w_9 ew_9 => ?_)
                      have ew_9 : (nI i) = w_9 := (ew_9.trans (rf_sub f i)).symm
                      subst ew_9
                      refine lv_goto (tgt := 108) hx hb d_M_reference_103 (by decide) ?_
                      have hq9 : dQ (mP (shf K f) kd) (nbI tp (cnt (mP (shf K f) kd) j)) i = true := by unfold dQ; rw [show (mP (shf K f) kd) i = true from c_91, decide_eq_true (pk_0n.mp c_96)]; rfl
                      refine lv_topi (fun w_10 ew_10 => ?_)
                      have ew_10 : (oI (fst9 (dQ (mP (shf K f) kd) (nbI tp (cnt (mP (shf K f) kd) j))) (i + 1))) = w_10 := (ew_10.trans (by rw [fst9_up (by omega) hq9]; rfl)).symm
                      subst ew_10
                      refine lv_istore (lv' := [(5, .int (oI (fst9 (dQ (mP (shf K f) kd) (nbI tp (cnt (mP (shf K f) kd) j))) (i + 1)))), (7, .int (bI (mR kd (K (f + i))))), (0, .ref jm), (1, .int (nI f)), (2, .int (nI (f + j))), (4, .int ((nbI tp (cnt (mP (shf K f) kd) j)) - (nI (cnt (mP (shf K f) kd) i)))), (6, .int (nI (f + i)))]) hx hb d_M_reference_108 hl (by decide) rfl (fun ls hl => ?_)
                      refine lv_iload hx hb d_M_reference_110 (lv_at hl 5 rfl) ?_
                      refine lv_iload hx hb d_M_reference_112 (lv_at hl 1 rfl) ?_
                      refine lv_if_eq (tgt := 121) hx hb d_M_reference_114 (by decide) (fun c_114 => ?_) (fun c_114 => ?_)
                      · skip
                        have c_114 := bI_f c_114
                        exact absurd (c_91.symm.trans c_114) (by decide)
                      · skip
                        have c_114 := bI_t c_114
                        refine lv_iconst (v := nI 1) hx hb d_M_reference_117 (by decide +kernel) ?_
                        refine lv_goto (tgt := 122) hx hb d_M_reference_118 (by decide) ?_
                        refine lv_isub hx hb d_M_reference_122 ?_
                        refine lv_topi (fun w_11 ew_11 => ?_)
                        have ew_11 : ((nbI tp (cnt (mP (shf K f) kd) j)) - (nI (cnt (mP (shf K f) kd) (i + 1)))) = w_11 := (ew_11.trans (by first | (rw [cnt_t (P := mP (shf K f) kd) (n := i) c_114]; exact pk_1 _ _) | (rw [cnt_f (P := mP (shf K f) kd) (n := i) c_114]; exact pk_z _))).symm
                        subst ew_11
                        refine lv_istore (lv' := [(4, .int ((nbI tp (cnt (mP (shf K f) kd) j)) - (nI (cnt (mP (shf K f) kd) (i + 1))))), (5, .int (oI (fst9 (dQ (mP (shf K f) kd) (nbI tp (cnt (mP (shf K f) kd) j))) (i + 1)))), (7, .int (bI (mR kd (K (f + i))))), (0, .ref jm), (1, .int (nI f)), (2, .int (nI (f + j))), (6, .int (nI (f + i)))]) hx hb d_M_reference_123 hl (by decide) rfl (fun ls hl => ?_)
                        refine lv_iinc (v := nI (f + (i + 1))) (lv' := [(6, .int (nI (f + (i + 1)))), (4, .int ((nbI tp (cnt (mP (shf K f) kd) j)) - (nI (cnt (mP (shf K f) kd) (i + 1))))), (5, .int (oI (fst9 (dQ (mP (shf K f) kd) (nbI tp (cnt (mP (shf K f) kd) j))) (i + 1)))), (7, .int (bI (mR kd (K (f + i))))), (0, .ref jm), (1, .int (nI f)), (2, .int (nI (f + j)))]) hx hb d_M_reference_125 hl (k := 6) rfl (nI_1 (f + i)) (by decide) rfl (fun ls hl => ?_)
                        refine lv_goto (tgt := 65) hx hb d_M_reference_128 (by decide) ?_
                        exact ih_65 (i + 1) (by omega) (by omega) ls (lv_sub (l' := [(0, .ref jm), (1, .int (nI f)), (2, .int (nI (f + j))), (4, .int ((nbI tp (cnt (mP (shf K f) kd) j)) - (nI (cnt (mP (shf K f) kd) (i + 1))))), (5, .int (oI (fst9 (dQ (mP (shf K f) kd) (nbI tp (cnt (mP (shf K f) kd) j))) (i + 1)))), (6, .int (nI (f + (i + 1))))]) hl [4, 5, 6, 1, 2, 0] rfl)
            exact lp_65 ((j - 0) + 1) 0 (by omega) (by omega) ls (lv_sub (l' := [(0, .ref jm), (1, .int (nI f)), (2, .int (nI (f + j))), (4, .int ((nbI tp (cnt (mP (shf K f) kd) j)) - (nI (cnt (mP (shf K f) kd) 0)))), (5, .int (oI (fst9 (dQ (mP (shf K f) kd) (nbI tp (cnt (mP (shf K f) kd) j))) 0))), (6, .int (nI (f + 0)))]) hl [3, 4, 5, 2, 1, 0] rfl)
          exact lp_57 _ _ (hP.sub (ws' := [(jm, .inr (3, [.int th, .long sd, .long (rfX (shf K f) j kd tp), .int (nI n), .ref ik, .ref iv, .ref ir, .ref il, .ref iy, .ref ig])), (ik, .inl (dk, 86, .inl K))]) [0, 1] rfl) (hD.sub (ws' := [(jm, .inr (3, [.int th, .long sd, .long (rfX (shf K f) j kd tp), .int (nI n), .ref ik, .ref iv, .ref ir, .ref il, .ref iy, .ref ig])), (ik, .inl (dk, 86, .inl K))]) [0, 1] (by decide) rfl) hS ls (lv_sub (l' := [(0, .ref jm), (1, .int (nI f)), (2, .int (nI (f + j)))]) hl [0, 1, 2] rfl)
        · skip
          have c_45 := (not_congr (nI_le0 (by omega))).mp c_45
          refine lv_aload_n hx hb d_M_reference_48 rfl (lv_at hl 0 rfl) ?_
          refine lv_iload_n hx hb d_M_reference_49 rfl (lv_at hl 3 rfl) ?_
          have hPc := hP.sub (ws' := [(jm, .inr (3, [.int th, .long sd, .long tp, .int (nI n), .ref ik, .ref iv, .ref ir, .ref il, .ref iy, .ref ig]))]) [0] rfl
          have hKc := hK.sub (tys' := []) [] rfl
          have hDc := hD.sub (ws' := [(jm, .inr (3, [.int th, .long sd, .long tp, .int (nI n), .ref ik, .ref iv, .ref ir, .ref il, .ref iy, .ref ig]))]) [0] (by decide) rfl
          have hFc := va_free (wc := [(jm, .inr (3, [.int th, .long sd, .long tp, .int (nI n), .ref ik, .ref iv, .ref ir, .ref il, .ref iy, .ref ig]))]) hD hS hA [0] rfl
          refine va_calli (va_runV (As := [.int (nI (cnt (mP (shf K f) kd) j))]) (rest := []) ⟨hx, hb, hml, hown, hts⟩ (c_M_number l dC dI jm ik iv ir il iy ig n th sd tp (cnt (mP (shf K f) kd) j) (by first | assumption | omega) (by first | assumption | omega) _) (cwV 1 hts (g_V big_w m_386 m_388 ms_23 m_4 m_389) rfl rfl rfl (by decide +kernel) ⟨Nat.le_of_ble_eq_true rfl, Nat.le_of_ble_eq_true rfl⟩) (wr_V hPc hKc hDc hN (va_recv hKc hPc (ci := 3) (q0 := 0) rfl rfl)) rfl rfl hl.1 rfl (lv_room (Nat.le_of_ble_eq_true rfl)) d_M_reference_50 ⟨Nat.le_of_ble_eq_true rfl, Nat.le_of_ble_eq_true rfl⟩) hS (fun q _ h => hFc q h) hFc (fun r_12 u t H1 locs ht hvm hw hB hz1 hk1 hS => ?_)
          obtain ⟨hP1, hK1, hD1⟩ := hB
          rw [ht] at hP1
          obtain ⟨hP, hD⟩ := va_join (wr := [(ik, .inl (dk, 86, .inl K))]) (w1 := [(jm, .inr (3, [.int th, .long sd, .long (nbX tp (cnt (mP (shf K f) kd) j)), .int (nI n), .ref ik, .ref iv, .ref ir, .ref il, .ref iy, .ref ig]))]) hP hD [0] [1] rfl rfl (by decide) (by decide) hk1 hFc hP1 hD1
          generalize H1 = H at hP hS ⊢
          have hP : va_P (dC, dI) classes [(ik, .inl (dk, 86, .inl K)), (jm, .inr (3, [.int th, .long sd, .long (nbX tp (cnt (mP (shf K f) kd) j)), .int (nI n), .ref ik, .ref iv, .ref ir, .ref il, .ref iy, .ref ig]))] H := hP
          have hD : va_D A [(ik, .inl (dk, 86, .inl K)), (jm, .inr (3, [.int th, .long sd, .long (nbX tp (cnt (mP (shf K f) kd) j)), .int (nI n), .ref ik, .ref iv, .ref ir, .ref il, .ref iy, .ref ig]))] := hD
          have hw := hw.symm
          subst hw
          refine lv_goto (tgt := 57) hx hb d_M_reference_53 (by decide) ?_
          have lp_57 : ∀ (H : Heap) (locs : List Loc), va_P (dC, dI) classes [(jm, .inr (3, [.int th, .long sd, .long (rfX (shf K f) j kd tp), .int (nI n), .ref ik, .ref iv, .ref ir, .ref il, .ref iy, .ref ig])), (ik, .inl (dk, 86, .inl K))] H → va_D A [(jm, .inr (3, [.int th, .long sd, .long (rfX (shf K f) j kd tp), .int (nI n), .ref ik, .ref iv, .ref ir, .ref il, .ref iy, .ref ig])), (ik, .inl (dk, 86, .inl K))] → va_S A s.heap H locs → ∀ (ls : Array Slot), lv_has ls 8 [(0, .ref jm), (1, .int (nI f)), (2, .int (nI (f + j)))] → W p l e (headSpec w_M_reference ({ frames := 1, cells := 0, slots := 0, locals := 21 })).room s m ([.ref jm, .int (nI f), .int (nI (f + j))]).toArray below meth c H locs 0 0 (MQ below (va_Qi (fun (r : Int32) (_ : Unit) => r = rfI (shf K f) j kd tp) (fun (u : Unit) => wr_B dC dI (A) [(jm, .inr (3, [.int th, .long sd, .long (rfX (shf K f) j kd tp), .int (nI n), .ref ik, .ref iv, .ref ir, .ref il, .ref iy, .ref ig])), (ik, .inl (dk, 86, .inl K))] [(dk, .int)]) (A)) ([.ref jm, .int (nI f), .int (nI (f + j))]).toArray s 0 0 A) (F0 m 57 ls [.int (nbI tp (cnt (mP (shf K f) kd) j))]) := by
            intro   H locs hP hD hS ls hl
            refine lv_istore (lv' := [(4, .int (nbI tp (cnt (mP (shf K f) kd) j))), (0, .ref jm), (1, .int (nI f)), (2, .int (nI (f + j)))]) hx hb d_M_reference_57 hl (by decide) rfl (fun ls hl => ?_)
            refine lv_iconst (v := (-1)) hx hb d_M_reference_59 (by decide +kernel) ?_
            refine lv_istore (lv' := [(5, .int (-1)), (4, .int (nbI tp (cnt (mP (shf K f) kd) j))), (0, .ref jm), (1, .int (nI f)), (2, .int (nI (f + j)))]) hx hb d_M_reference_60 hl (by decide) rfl (fun ls hl => ?_)
            refine lv_iload_n hx hb d_M_reference_62 rfl (lv_at hl 3 rfl) ?_
            refine lv_istore (lv' := [(6, .int (nI f)), (5, .int (-1)), (4, .int (nbI tp (cnt (mP (shf K f) kd) j))), (0, .ref jm), (1, .int (nI f)), (2, .int (nI (f + j)))]) hx hb d_M_reference_63 hl (by decide) rfl (fun ls hl => ?_)
            rw [show nbI tp (cnt (mP (shf K f) kd) j) = (nbI tp (cnt (mP (shf K f) kd) j)) - (nI (cnt (mP (shf K f) kd) 0)) from (pk_z _).symm] at hl
            have lp_65 : ∀ (k9_65 : Nat), ∀ (i : Nat), j - i < k9_65 → (i ≤ j) → ∀ (ls : Array Slot), lv_has ls 8 [(0, .ref jm), (1, .int (nI f)), (2, .int (nI (f + j))), (4, .int ((nbI tp (cnt (mP (shf K f) kd) j)) - (nI (cnt (mP (shf K f) kd) i)))), (5, .int (oI (fst9 (dQ (mP (shf K f) kd) (nbI tp (cnt (mP (shf K f) kd) j))) i))), (6, .int (nI (f + i)))] → W p l e (headSpec w_M_reference ({ frames := 1, cells := 0, slots := 0, locals := 21 })).room s m ([.ref jm, .int (nI f), .int (nI (f + j))]).toArray below meth c H locs 0 0 (MQ below (va_Qi (fun (r : Int32) (_ : Unit) => r = rfI (shf K f) j kd tp) (fun (u : Unit) => wr_B dC dI (A) [(jm, .inr (3, [.int th, .long sd, .long (rfX (shf K f) j kd tp), .int (nI n), .ref ik, .ref iv, .ref ir, .ref il, .ref iy, .ref ig])), (ik, .inl (dk, 86, .inl K))] [(dk, .int)]) (A)) ([.ref jm, .int (nI f), .int (nI (f + j))]).toArray s 0 0 A) (F0 m 65 ls []) := by
              intro k9_65
              induction k9_65 with
              | zero =>
                intro i hk9
                exact absurd hk9 (Nat.not_lt_zero _)
              | succ k9_65 ih_65 =>
                intro i hk9_65 hi ls hl
                refine lv_iload hx hb d_M_reference_65 (lv_at hl 5 rfl) ?_
                refine lv_iload_n hx hb d_M_reference_67 rfl (lv_at hl 2 rfl) ?_
                refine lv_icmp_ge (tgt := 131) hx hb d_M_reference_68 (by decide) (fun c_68 => ?_) (fun c_68 => ?_)
                · skip
                  have c_68 := (nI_leI (by omega) (by omega)).mp c_68
                  refine lv_iload hx hb d_M_reference_131 (lv_at hl 4 rfl) ?_
                  have hP9 := hP.sub (ws' := [(jm, .inr (3, [.int th, .long sd, .long (rfX (shf K f) j kd tp), .int (nI n), .ref ik, .ref iv, .ref ir, .ref il, .ref iy, .ref ig])), (ik, .inl (dk, 86, .inl K))]) [0, 1] rfl
                  have hD9 := hD.sub (ws' := [(jm, .inr (3, [.int th, .long sd, .long (rfX (shf K f) j kd tp), .int (nI n), .ref ik, .ref iv, .ref ir, .ref il, .ref iy, .ref ig])), (ik, .inl (dk, 86, .inl K))]) [0, 1] (by decide) rfl
                  have hK9 := hK.sub (tys' := [(dk, .int)]) [0] rfl
                  exact W.iret (v := oI (fst9 (dQ (mP (shf K f) kd) (nbI tp (cnt (mP (shf K f) kd) j))) i)) hx hb hr (fun t ht hW => ⟨⟨oI (fst9 (dQ (mP (shf K f) kd) (nbI tp (cnt (mP (shf K f) kd) j))) i), (), rfl, (by rw [show i = j by omega]; rfl), by rw [ht]; exact hP9, va_K.moved hW.alike hK9, hD9⟩, hS.F ht⟩) hS.2.2 d_M_reference_133
                · skip
                  have c_68 := (not_congr (nI_leI (by omega) (by omega))).mp c_68
                  refine lv_aload_n hx hb d_M_reference_71 rfl (lv_at hl 0 rfl) ?_
                  refine va_get (D := (dC, dI)) (ci := 3) (v := .ref ik) (C := R_M) (T := F_M) (N := 10) hx hb hts (lay_M _) hown hK hP 0 rfl rfl 4 (by decide) (hts _ (List.mem_cons_of_mem _ m_340)) (fun _ h9 => h9) rfl d_M_reference_72 ?_
                  refine lv_iload_n hx hb d_M_reference_75 rfl (lv_at hl 2 rfl) ?_
                  refine va_iald hx hb hK hP 1 0 rfl rfl (vp_in_nI (by omega) (by omega)) d_M_reference_76 ?_
                  refine lv_topi (fun w_13 ew_13 => ?_)
                  have ew_13 : kd = w_13 := (ew_13.trans (by rw [nI_clamp (by omega)]; exact hkd)).symm
                  subst ew_13
                  refine lv_aload_n hx hb d_M_reference_77 rfl (lv_at hl 0 rfl) ?_
                  refine va_get (D := (dC, dI)) (ci := 3) (v := .ref ik) (C := R_M) (T := F_M) (N := 10) hx hb hts (lay_M _) hown hK hP 0 rfl rfl 4 (by decide) (hts _ (List.mem_cons_of_mem _ m_340)) (fun _ h9 => h9) rfl d_M_reference_78 ?_
                  refine lv_iload hx hb d_M_reference_81 (lv_at hl 5 rfl) ?_
                  refine va_iald hx hb hK hP 1 0 rfl rfl (vp_in_nI (by omega) (by omega)) d_M_reference_83 ?_
                  refine lv_topi (fun w_14 ew_14 => ?_)
                  rw [nI_clamp (by omega)] at ew_14
                  have ew_14 := ew_14.symm
                  subst ew_14
                  have hPc := hP.sub (ws' := []) [] rfl
                  have hKc := hK.sub (tys' := []) [] rfl
                  refine vp_callSi (W.runS (As := [.int kd, .int (K (f + i))]) (rest := []) ⟨hx, hb, hml, hown, hts⟩ (c_M_mayRefer l dC dI kd (K (f + i))) (va_cwS 2 hts (g_S big_w m_396 m_397 m_4 m_398) rfl rfl rfl (by decide +kernel) ⟨Nat.le_of_ble_eq_true rfl, Nat.le_of_ble_eq_true rfl⟩) (ro_S hPc hKc hN) rfl rfl hl.1 rfl (lv_room (Nat.le_of_ble_eq_true rfl)) d_M_reference_84 ⟨Nat.le_of_ble_eq_true rfl, Nat.le_of_ble_eq_true rfl⟩) (fun r_15 er_15 => ?_)
                  have er_15 := er_15.symm
                  subst er_15
                  refine lv_istore (lv' := [(7, .int (bI (mR kd (K (f + i))))), (0, .ref jm), (1, .int (nI f)), (2, .int (nI (f + j))), (4, .int ((nbI tp (cnt (mP (shf K f) kd) j)) - (nI (cnt (mP (shf K f) kd) i)))), (5, .int (oI (fst9 (dQ (mP (shf K f) kd) (nbI tp (cnt (mP (shf K f) kd) j))) i))), (6, .int (nI (f + i)))]) hx hb d_M_reference_87 hl (by decide) rfl (fun ls hl => ?_)
                  refine lv_iload hx hb d_M_reference_89 (lv_at hl 0 rfl) ?_
                  refine lv_if_eq (tgt := 106) hx hb d_M_reference_91 (by decide) (fun c_91 => ?_) (fun c_91 => ?_)
                  · skip
                    have c_91 := bI_f c_91
                    refine lv_iload hx hb d_M_reference_106 (lv_at hl 5 rfl) ?_
                    have hq9 : (dQ (mP (shf K f) kd) (nbI tp (cnt (mP (shf K f) kd) j))) i = false := by unfold dQ; rw [show (mP (shf K f) kd) i = false from c_91, Bool.false_and]
                    refine lv_topi (fun w_16 ew_16 => ?_)
                    have ew_16 : (oI (fst9 (dQ (mP (shf K f) kd) (nbI tp (cnt (mP (shf K f) kd) j))) (i + 1))) = w_16 := (ew_16.trans (by rw [fst9_st hq9])).symm
                    subst ew_16
                    refine lv_istore (lv' := [(5, .int (oI (fst9 (dQ (mP (shf K f) kd) (nbI tp (cnt (mP (shf K f) kd) j))) (i + 1)))), (7, .int (bI (mR kd (K (f + i))))), (0, .ref jm), (1, .int (nI f)), (2, .int (nI (f + j))), (4, .int ((nbI tp (cnt (mP (shf K f) kd) j)) - (nI (cnt (mP (shf K f) kd) i)))), (6, .int (nI (f + i)))]) hx hb d_M_reference_108 hl (by decide) rfl (fun ls hl => ?_)
                    refine lv_iload hx hb d_M_reference_110 (lv_at hl 5 rfl) ?_
                    refine lv_iload hx hb d_M_reference_112 (lv_at hl 1 rfl) ?_
                    refine lv_if_eq (tgt := 121) hx hb d_M_reference_114 (by decide) (fun c_114 => ?_) (fun c_114 => ?_)
                    · skip
                      have c_114 := bI_f c_114
                      refine lv_iconst (v := nI 0) hx hb d_M_reference_121 (by decide +kernel) ?_
                      refine lv_isub hx hb d_M_reference_122 ?_
                      refine lv_topi (fun w_17 ew_17 => ?_)
                      have ew_17 : ((nbI tp (cnt (mP (shf K f) kd) j)) - (nI (cnt (mP (shf K f) kd) (i + 1)))) = w_17 := (ew_17.trans (by first | (rw [cnt_t (P := mP (shf K f) kd) (n := i) c_114]; exact pk_1 _ _) | (rw [cnt_f (P := mP (shf K f) kd) (n := i) c_114]; exact pk_z _))).symm
                      subst ew_17
                      refine lv_istore (lv' := [(4, .int ((nbI tp (cnt (mP (shf K f) kd) j)) - (nI (cnt (mP (shf K f) kd) (i + 1))))), (5, .int (oI (fst9 (dQ (mP (shf K f) kd) (nbI tp (cnt (mP (shf K f) kd) j))) (i + 1)))), (7, .int (bI (mR kd (K (f + i))))), (0, .ref jm), (1, .int (nI f)), (2, .int (nI (f + j))), (6, .int (nI (f + i)))]) hx hb d_M_reference_123 hl (by decide) rfl (fun ls hl => ?_)
                      refine lv_iinc (v := nI (f + (i + 1))) (lv' := [(6, .int (nI (f + (i + 1)))), (4, .int ((nbI tp (cnt (mP (shf K f) kd) j)) - (nI (cnt (mP (shf K f) kd) (i + 1))))), (5, .int (oI (fst9 (dQ (mP (shf K f) kd) (nbI tp (cnt (mP (shf K f) kd) j))) (i + 1)))), (7, .int (bI (mR kd (K (f + i))))), (0, .ref jm), (1, .int (nI f)), (2, .int (nI (f + j)))]) hx hb d_M_reference_125 hl (k := 6) rfl (nI_1 (f + i)) (by decide) rfl (fun ls hl => ?_)
                      refine lv_goto (tgt := 65) hx hb d_M_reference_128 (by decide) ?_
                      exact ih_65 (i + 1) (by omega) (by omega) ls (lv_sub (l' := [(0, .ref jm), (1, .int (nI f)), (2, .int (nI (f + j))), (4, .int ((nbI tp (cnt (mP (shf K f) kd) j)) - (nI (cnt (mP (shf K f) kd) (i + 1))))), (5, .int (oI (fst9 (dQ (mP (shf K f) kd) (nbI tp (cnt (mP (shf K f) kd) j))) (i + 1)))), (6, .int (nI (f + (i + 1))))]) hl [4, 5, 6, 1, 2, 0] rfl)
                    · skip
                      have c_114 := bI_t c_114
                      exact absurd (c_91.symm.trans c_114) (by decide)
                  · skip
                    have c_91 := bI_t c_91
                    refine lv_iload hx hb d_M_reference_94 (lv_at hl 4 rfl) ?_
                    refine lv_if_ne (tgt := 106) hx hb d_M_reference_96 (by decide) (fun c_96 => ?_) (fun c_96 => ?_)
                    · skip
                      rw [← nI_0] at c_96
                      refine lv_iload hx hb d_M_reference_106 (lv_at hl 5 rfl) ?_
                      have hq9 : (dQ (mP (shf K f) kd) (nbI tp (cnt (mP (shf K f) kd) j))) i = false := by unfold dQ; rw [decide_eq_false (fun z => c_96 (pk_0n.mpr z)), Bool.and_false]
                      refine lv_topi (fun w_18 ew_18 => ?_)
                      have ew_18 : (oI (fst9 (dQ (mP (shf K f) kd) (nbI tp (cnt (mP (shf K f) kd) j))) (i + 1))) = w_18 := (ew_18.trans (by rw [fst9_st hq9])).symm
                      subst ew_18
                      refine lv_istore (lv' := [(5, .int (oI (fst9 (dQ (mP (shf K f) kd) (nbI tp (cnt (mP (shf K f) kd) j))) (i + 1)))), (7, .int (bI (mR kd (K (f + i))))), (0, .ref jm), (1, .int (nI f)), (2, .int (nI (f + j))), (4, .int ((nbI tp (cnt (mP (shf K f) kd) j)) - (nI (cnt (mP (shf K f) kd) i)))), (6, .int (nI (f + i)))]) hx hb d_M_reference_108 hl (by decide) rfl (fun ls hl => ?_)
                      refine lv_iload hx hb d_M_reference_110 (lv_at hl 5 rfl) ?_
                      refine lv_iload hx hb d_M_reference_112 (lv_at hl 1 rfl) ?_
                      refine lv_if_eq (tgt := 121) hx hb d_M_reference_114 (by decide) (fun c_114 => ?_) (fun c_114 => ?_)
                      · skip
                        have c_114 := bI_f c_114
                        exact absurd (c_91.symm.trans c_114) (by decide)
                      · skip
                        have c_114 := bI_t c_114
                        refine lv_iconst (v := nI 1) hx hb d_M_reference_117 (by decide +kernel) ?_
                        refine lv_goto (tgt := 122) hx hb d_M_reference_118 (by decide) ?_
                        refine lv_isub hx hb d_M_reference_122 ?_
                        refine lv_topi (fun w_19 ew_19 => ?_)
                        have ew_19 : ((nbI tp (cnt (mP (shf K f) kd) j)) - (nI (cnt (mP (shf K f) kd) (i + 1)))) = w_19 := (ew_19.trans (by first | (rw [cnt_t (P := mP (shf K f) kd) (n := i) c_114]; exact pk_1 _ _) | (rw [cnt_f (P := mP (shf K f) kd) (n := i) c_114]; exact pk_z _))).symm
                        subst ew_19
                        refine lv_istore (lv' := [(4, .int ((nbI tp (cnt (mP (shf K f) kd) j)) - (nI (cnt (mP (shf K f) kd) (i + 1))))), (5, .int (oI (fst9 (dQ (mP (shf K f) kd) (nbI tp (cnt (mP (shf K f) kd) j))) (i + 1)))), (7, .int (bI (mR kd (K (f + i))))), (0, .ref jm), (1, .int (nI f)), (2, .int (nI (f + j))), (6, .int (nI (f + i)))]) hx hb d_M_reference_123 hl (by decide) rfl (fun ls hl => ?_)
                        refine lv_iinc (v := nI (f + (i + 1))) (lv' := [(6, .int (nI (f + (i + 1)))), (4, .int ((nbI tp (cnt (mP (shf K f) kd) j)) - (nI (cnt (mP (shf K f) kd) (i + 1))))), (5, .int (oI (fst9 (dQ (mP (shf K f) kd) (nbI tp (cnt (mP (shf K f) kd) j))) (i + 1)))), (7, .int (bI (mR kd (K (f + i))))), (0, .ref jm), (1, .int (nI f)), (2, .int (nI (f + j)))]) hx hb d_M_reference_125 hl (k := 6) rfl (nI_1 (f + i)) (by decide) rfl (fun ls hl => ?_)
                        refine lv_goto (tgt := 65) hx hb d_M_reference_128 (by decide) ?_
                        exact ih_65 (i + 1) (by omega) (by omega) ls (lv_sub (l' := [(0, .ref jm), (1, .int (nI f)), (2, .int (nI (f + j))), (4, .int ((nbI tp (cnt (mP (shf K f) kd) j)) - (nI (cnt (mP (shf K f) kd) (i + 1))))), (5, .int (oI (fst9 (dQ (mP (shf K f) kd) (nbI tp (cnt (mP (shf K f) kd) j))) (i + 1)))), (6, .int (nI (f + (i + 1))))]) hl [4, 5, 6, 1, 2, 0] rfl)
                    · skip
                      rw [← nI_0] at c_96
                      refine lv_iload hx hb d_M_reference_99 (lv_at hl 6 rfl) ?_
                      refine lv_iload_n hx hb d_M_reference_101 rfl (lv_at hl 2 rfl) ?_
                      refine lv_isub hx hb d_M_reference_102 ?_
                      refine lv_topi (fun w_20 ew_20 => ?_)
                      have ew_20 : (nI i) = w_20 := (ew_20.trans (rf_sub f i)).symm
                      subst ew_20
                      refine lv_goto (tgt := 108) hx hb d_M_reference_103 (by decide) ?_
                      have hq9 : dQ (mP (shf K f) kd) (nbI tp (cnt (mP (shf K f) kd) j)) i = true := by unfold dQ; rw [show (mP (shf K f) kd) i = true from c_91, decide_eq_true (pk_0n.mp c_96)]; rfl
                      refine lv_topi (fun w_21 ew_21 => ?_)
                      have ew_21 : (oI (fst9 (dQ (mP (shf K f) kd) (nbI tp (cnt (mP (shf K f) kd) j))) (i + 1))) = w_21 := (ew_21.trans (by rw [fst9_up (by omega) hq9]; rfl)).symm
                      subst ew_21
                      refine lv_istore (lv' := [(5, .int (oI (fst9 (dQ (mP (shf K f) kd) (nbI tp (cnt (mP (shf K f) kd) j))) (i + 1)))), (7, .int (bI (mR kd (K (f + i))))), (0, .ref jm), (1, .int (nI f)), (2, .int (nI (f + j))), (4, .int ((nbI tp (cnt (mP (shf K f) kd) j)) - (nI (cnt (mP (shf K f) kd) i)))), (6, .int (nI (f + i)))]) hx hb d_M_reference_108 hl (by decide) rfl (fun ls hl => ?_)
                      refine lv_iload hx hb d_M_reference_110 (lv_at hl 5 rfl) ?_
                      refine lv_iload hx hb d_M_reference_112 (lv_at hl 1 rfl) ?_
                      refine lv_if_eq (tgt := 121) hx hb d_M_reference_114 (by decide) (fun c_114 => ?_) (fun c_114 => ?_)
                      · skip
                        have c_114 := bI_f c_114
                        exact absurd (c_91.symm.trans c_114) (by decide)
                      · skip
                        have c_114 := bI_t c_114
                        refine lv_iconst (v := nI 1) hx hb d_M_reference_117 (by decide +kernel) ?_
                        refine lv_goto (tgt := 122) hx hb d_M_reference_118 (by decide) ?_
                        refine lv_isub hx hb d_M_reference_122 ?_
                        refine lv_topi (fun w_22 ew_22 => ?_)
                        have ew_22 : ((nbI tp (cnt (mP (shf K f) kd) j)) - (nI (cnt (mP (shf K f) kd) (i + 1)))) = w_22 := (ew_22.trans (by first | (rw [cnt_t (P := mP (shf K f) kd) (n := i) c_114]; exact pk_1 _ _) | (rw [cnt_f (P := mP (shf K f) kd) (n := i) c_114]; exact pk_z _))).symm
                        subst ew_22
                        refine lv_istore (lv' := [(4, .int ((nbI tp (cnt (mP (shf K f) kd) j)) - (nI (cnt (mP (shf K f) kd) (i + 1))))), (5, .int (oI (fst9 (dQ (mP (shf K f) kd) (nbI tp (cnt (mP (shf K f) kd) j))) (i + 1)))), (7, .int (bI (mR kd (K (f + i))))), (0, .ref jm), (1, .int (nI f)), (2, .int (nI (f + j))), (6, .int (nI (f + i)))]) hx hb d_M_reference_123 hl (by decide) rfl (fun ls hl => ?_)
                        refine lv_iinc (v := nI (f + (i + 1))) (lv' := [(6, .int (nI (f + (i + 1)))), (4, .int ((nbI tp (cnt (mP (shf K f) kd) j)) - (nI (cnt (mP (shf K f) kd) (i + 1))))), (5, .int (oI (fst9 (dQ (mP (shf K f) kd) (nbI tp (cnt (mP (shf K f) kd) j))) (i + 1)))), (7, .int (bI (mR kd (K (f + i))))), (0, .ref jm), (1, .int (nI f)), (2, .int (nI (f + j)))]) hx hb d_M_reference_125 hl (k := 6) rfl (nI_1 (f + i)) (by decide) rfl (fun ls hl => ?_)
                        refine lv_goto (tgt := 65) hx hb d_M_reference_128 (by decide) ?_
                        exact ih_65 (i + 1) (by omega) (by omega) ls (lv_sub (l' := [(0, .ref jm), (1, .int (nI f)), (2, .int (nI (f + j))), (4, .int ((nbI tp (cnt (mP (shf K f) kd) j)) - (nI (cnt (mP (shf K f) kd) (i + 1))))), (5, .int (oI (fst9 (dQ (mP (shf K f) kd) (nbI tp (cnt (mP (shf K f) kd) j))) (i + 1)))), (6, .int (nI (f + (i + 1))))]) hl [4, 5, 6, 1, 2, 0] rfl)
            exact lp_65 ((j - 0) + 1) 0 (by omega) (by omega) ls (lv_sub (l' := [(0, .ref jm), (1, .int (nI f)), (2, .int (nI (f + j))), (4, .int ((nbI tp (cnt (mP (shf K f) kd) j)) - (nI (cnt (mP (shf K f) kd) 0)))), (5, .int (oI (fst9 (dQ (mP (shf K f) kd) (nbI tp (cnt (mP (shf K f) kd) j))) 0))), (6, .int (nI (f + 0)))]) hl [3, 4, 5, 2, 1, 0] rfl)
          exact lp_57 _ _ (hP.sub (ws' := [(jm, .inr (3, [.int th, .long sd, .long (rfX (shf K f) j kd tp), .int (nI n), .ref ik, .ref iv, .ref ir, .ref il, .ref iy, .ref ig])), (ik, .inl (dk, 86, .inl K))]) [1, 0] rfl) (hD.sub (ws' := [(jm, .inr (3, [.int th, .long sd, .long (rfX (shf K f) j kd tp), .int (nI n), .ref ik, .ref iv, .ref ir, .ref il, .ref iy, .ref ig])), (ik, .inl (dk, 86, .inl K))]) [1, 0] (by decide) rfl) hS ls (lv_sub (l' := [(0, .ref jm), (1, .int (nI f)), (2, .int (nI (f + j)))]) hl [0, 1, 2] rfl)
      · skip
        have c_8 := (not_congr (nI_leI (by omega) (by omega))).mp c_8
        refine lv_iload_n hx hb d_M_reference_11 rfl (lv_at hl 3 rfl) ?_
        refine lv_aload_n hx hb d_M_reference_12 rfl (lv_at hl 0 rfl) ?_
        refine va_get (D := (dC, dI)) (ci := 3) (v := .ref ik) (C := R_M) (T := F_M) (N := 10) hx hb hts (lay_M _) hown hK hP 0 rfl rfl 4 (by decide) (hts _ (List.mem_cons_of_mem _ m_340)) (fun _ h9 => h9) rfl d_M_reference_13 ?_
        refine lv_iload_n hx hb d_M_reference_16 rfl (lv_at hl 2 rfl) ?_
        refine va_iald hx hb hK hP 1 0 rfl rfl (vp_in_nI (by omega) (by omega)) d_M_reference_17 ?_
        refine lv_topi (fun w_23 ew_23 => ?_)
        have ew_23 : kd = w_23 := (ew_23.trans (by rw [nI_clamp (by omega)]; exact hkd)).symm
        subst ew_23
        refine lv_aload_n hx hb d_M_reference_18 rfl (lv_at hl 0 rfl) ?_
        refine va_get (D := (dC, dI)) (ci := 3) (v := .ref ik) (C := R_M) (T := F_M) (N := 10) hx hb hts (lay_M _) hown hK hP 0 rfl rfl 4 (by decide) (hts _ (List.mem_cons_of_mem _ m_340)) (fun _ h9 => h9) rfl d_M_reference_19 ?_
        refine lv_iload hx hb d_M_reference_22 (lv_at hl 4 rfl) ?_
        refine va_iald hx hb hK hP 1 0 rfl rfl (vp_in_nI (by omega) (by omega)) d_M_reference_24 ?_
        refine lv_topi (fun w_24 ew_24 => ?_)
        rw [nI_clamp (by omega)] at ew_24
        have ew_24 := ew_24.symm
        subst ew_24
        have hPc := hP.sub (ws' := []) [] rfl
        have hKc := hK.sub (tys' := []) [] rfl
        refine vp_callSi (W.runS (As := [.int kd, .int (K (f + i))]) (rest := [.int (nI (cnt (mP (shf K f) kd) i))]) ⟨hx, hb, hml, hown, hts⟩ (c_M_mayRefer l dC dI kd (K (f + i))) (va_cwS 2 hts (g_S big_w m_396 m_397 m_4 m_398) rfl rfl rfl (by decide +kernel) ⟨Nat.le_of_ble_eq_true rfl, Nat.le_of_ble_eq_true rfl⟩) (ro_S hPc hKc hN) rfl rfl hl.1 rfl (lv_room (Nat.le_of_ble_eq_true rfl)) d_M_reference_25 ⟨Nat.le_of_ble_eq_true rfl, Nat.le_of_ble_eq_true rfl⟩) (fun r_25 er_25 => ?_)
        have er_25 := er_25.symm
        subst er_25
        refine lv_if_eq (tgt := 35) hx hb d_M_reference_28 (by decide) (fun c_28 => ?_) (fun c_28 => ?_)
        · skip
          have c_28 := bI_f c_28
          refine lv_iconst (v := nI 0) hx hb d_M_reference_35 (by decide +kernel) ?_
          refine lv_iadd hx hb d_M_reference_36 ?_
          refine lv_topi (fun w_26 ew_26 => ?_)
          have ew_26 : (nI (cnt (mP (shf K f) kd) (i + 1))) = w_26 := (ew_26.trans (by first | (rw [cnt_t (P := mP (shf K f) kd) (n := i) c_28]; exact nI_add _ _) | (rw [cnt_f (P := mP (shf K f) kd) (n := i) c_28]; exact nI_add _ _))).symm
          subst ew_26
          refine lv_istore_n (lv' := [(3, .int (nI (cnt (mP (shf K f) kd) (i + 1)))), (0, .ref jm), (1, .int (nI f)), (2, .int (nI (f + j))), (4, .int (nI (f + i)))]) hx hb d_M_reference_37 rfl hl (by decide) rfl (fun ls hl => ?_)
          refine lv_iinc (v := nI (f + (i + 1))) (lv' := [(4, .int (nI (f + (i + 1)))), (3, .int (nI (cnt (mP (shf K f) kd) (i + 1)))), (0, .ref jm), (1, .int (nI f)), (2, .int (nI (f + j)))]) hx hb d_M_reference_38 hl (k := 4) rfl (nI_1 (f + i)) (by decide) rfl (fun ls hl => ?_)
          refine lv_goto (tgt := 5) hx hb d_M_reference_41 (by decide) ?_
          exact ih_5 (i + 1) (by omega) (by omega) ls (lv_sub (l' := [(0, .ref jm), (1, .int (nI f)), (2, .int (nI (f + j))), (3, .int (nI (cnt (mP (shf K f) kd) (i + 1)))), (4, .int (nI (f + (i + 1))))]) hl [2, 3, 4, 1, 0] rfl)
        · skip
          have c_28 := bI_t c_28
          refine lv_iconst (v := nI 1) hx hb d_M_reference_31 (by decide +kernel) ?_
          refine lv_goto (tgt := 36) hx hb d_M_reference_32 (by decide) ?_
          refine lv_iadd hx hb d_M_reference_36 ?_
          refine lv_topi (fun w_27 ew_27 => ?_)
          have ew_27 : (nI (cnt (mP (shf K f) kd) (i + 1))) = w_27 := (ew_27.trans (by first | (rw [cnt_t (P := mP (shf K f) kd) (n := i) c_28]; exact nI_add _ _) | (rw [cnt_f (P := mP (shf K f) kd) (n := i) c_28]; exact nI_add _ _))).symm
          subst ew_27
          refine lv_istore_n (lv' := [(3, .int (nI (cnt (mP (shf K f) kd) (i + 1)))), (0, .ref jm), (1, .int (nI f)), (2, .int (nI (f + j))), (4, .int (nI (f + i)))]) hx hb d_M_reference_37 rfl hl (by decide) rfl (fun ls hl => ?_)
          refine lv_iinc (v := nI (f + (i + 1))) (lv' := [(4, .int (nI (f + (i + 1)))), (3, .int (nI (cnt (mP (shf K f) kd) (i + 1)))), (0, .ref jm), (1, .int (nI f)), (2, .int (nI (f + j)))]) hx hb d_M_reference_38 hl (k := 4) rfl (nI_1 (f + i)) (by decide) rfl (fun ls hl => ?_)
          refine lv_goto (tgt := 5) hx hb d_M_reference_41 (by decide) ?_
          exact ih_5 (i + 1) (by omega) (by omega) ls (lv_sub (l' := [(0, .ref jm), (1, .int (nI f)), (2, .int (nI (f + j))), (3, .int (nI (cnt (mP (shf K f) kd) (i + 1)))), (4, .int (nI (f + (i + 1))))]) hl [2, 3, 4, 1, 0] rfl)
  exact lp_5 ((j - 0) + 1) 0 (by omega) (by omega) ls (lv_sub (l' := [(0, .ref jm), (1, .int (nI f)), (2, .int (nI (f + j))), (3, .int (nI (cnt (mP (shf K f) kd) 0))), (4, .int (nI (f + 0)))]) hl [2, 3, 4, 1, 0] rfl)
set_option maxHeartbeats 4000000 in
set_option maxRecDepth 100000 in
/-- reference: draws -/
theorem c_M_draws (l : Launch) (dC : Nat → ClassId) (dI : Nat → Nat → Nat) (jm ik iv ir il iy ig : Nat) (n : Nat) (th : Int32) (sd tp : Int64) (dk dv dr : ClassId) (K V R : Nat → Int32) (s0 : Int64) (f z : Nat) (hf : f ≤ 43) (hz : z ≤ 40) (sz : Nat) : Met l y_M_draws w_M_draws ({ frames := 2, cells := 0, slots := 0, locals := 48 }) (wr_P dC dI [.ref jm, .long s0, .int (nI f), .int (nI z)] [(jm, .inr (3, [.int th, .long sd, .long tp, .int (nI n), .ref ik, .ref iv, .ref ir, .ref il, .ref iy, .ref ig])), (ik, .inl (dk, 86, .inl K)), (iv, .inl (dv, 86, .inl V)), (ir, .inl (dr, 86, .inl R))] [(dk, .int), (dv, .int), (dr, .int)] sz) (va_Qv (fun (_ : Unit) => True) (fun (u : Unit) => wr_B dC dI (va_A [(jm, .inr (3, [.int th, .long sd, .long tp, .int (nI n), .ref ik, .ref iv, .ref ir, .ref il, .ref iy, .ref ig])), (ik, .inl (dk, 86, .inl K)), (iv, .inl (dv, 86, .inl V)), (ir, .inl (dr, 86, .inl R))] sz) [(jm, .inr (3, [.int th, .long sd, .long ((drM f (s0, K, V, R) (z + 3)).1), .int (nI n), .ref ik, .ref iv, .ref ir, .ref il, .ref iy, .ref ig])), (ik, .inl (dk, 86, .inl ((drM f (s0, K, V, R) (z + 3)).2.1))), (iv, .inl (dv, 86, .inl ((drM f (s0, K, V, R) (z + 3)).2.2.1))), (ir, .inl (dr, 86, .inl ((drM f (s0, K, V, R) (z + 3)).2.2.2)))] [(dk, .int), (dv, .int), (dr, .int)]) (va_A [(jm, .inr (3, [.int th, .long sd, .long tp, .int (nI n), .ref ik, .ref iv, .ref ir, .ref il, .ref iy, .ref ig])), (ik, .inl (dk, 86, .inl K)), (iv, .inl (dv, 86, .inl V)), (ir, .inl (dr, 86, .inl R))] sz)) 0 0 (va_A [(jm, .inr (3, [.int th, .long sd, .long tp, .int (nI n), .ref ik, .ref iv, .ref ir, .ref il, .ref iy, .ref ig])), (ik, .inl (dk, 86, .inl K)), (iv, .inl (dv, 86, .inl V)), (ir, .inl (dr, 86, .inl R))] sz) := by
  refine Met.ofW (cc := b_M_draws) (maxL := 7) (ret := (Option.none : Option Jvm.ClassFile.FieldType)) (by decide) rfl ?_
  intro p e s m args below meth c s₁ B0 hml hv0
  obtain ⟨rfl, hsz, hP, hK, hD0, hN⟩ := hv0
  have hx := B0.exec
  have hb := B0.bytes
  have hr := B0.returns
  have hts := atoms_spec (ws := w_M_draws) B0.pre
  have hown : s.vm.findClass R_M = some m.cls := findClass_of_methodNamed B0.named
  have hlocks := B0.notSynchronized
  subst hsz
  have hD := hD0.self (sz := s.heap.size)
  generalize hAe : va_A [(jm, .inr (3, [.int th, .long sd, .long tp, .int (nI n), .ref ik, .ref iv, .ref ir, .ref il, .ref iy, .ref ig])), (ik, .inl (dk, 86, .inl K)), (iv, .inl (dv, 86, .inl V)), (ir, .inl (dr, 86, .inl R))] s.heap.size = A at hD ⊢
  have hA : ∀ q : Nat, s.heap.size ≤ q → A q := fun q h => by rw [← hAe]; exact Or.inr h
  have hS : va_S A s.heap s.heap [] := va_S.rf
  have hP : va_P (dC, dI) classes [(jm, .inr (3, [.int th, .long sd, .long tp, .int (nI n), .ref ik, .ref iv, .ref ir, .ref il, .ref iy, .ref ig])), (ik, .inl (dk, 86, .inl K)), (iv, .inl (dv, 86, .inl V)), (ir, .inl (dr, 86, .inl R))] s.heap := hP
  have hl := lv_entry ([.ref jm, .long s0, .int (nI f), .int (nI z)]) (n := 7) (Nat.le_of_ble_eq_true rfl)
  rw [lg_entry_eq]
  generalize (lg_sl ([.ref jm, .long s0, .int (nI f), .int (nI z)]) ++ List.replicate (7 - (lg_sl ([.ref jm, .long s0, .int (nI f), .int (nI z)])).length) Slot.unset).toArray = ls at hl ⊢
  have hl : lv_has ls 7 [(0, .ref jm), (1, .long s0), (3, .int (nI f)), (4, .int (nI z))] := hl
  refine lv_aload_n hx hb d_M_draws_0 rfl (lv_at hl 0 rfl) ?_
  refine lv_lload_n hx hb d_M_draws_1 rfl (lv_at hl 1 rfl) ?_
  refine va_put (D := (dC, dI)) (ci := 3) (v := .long s0) (ty := .long) (C := R_M) (T := F_M) (N := 10) hx hb hts (lay_M _) ft_M tok_M nok_M hown hK hP hD hS 0 rfl rfl 2 (by decide) (hts _ (List.mem_cons_of_mem _ m_338)) (fun _ h9 => h9) rfl (by decide +kernel) rfl rfl (Nat.le_of_ble_eq_true rfl) d_M_draws_2 (fun H locs hP hD hS => ?_)
  have hP : va_P (dC, dI) classes [(jm, .inr (3, [.int th, .long sd, .long s0, .int (nI n), .ref ik, .ref iv, .ref ir, .ref il, .ref iy, .ref ig])), (ik, .inl (dk, 86, .inl K)), (iv, .inl (dv, 86, .inl V)), (ir, .inl (dr, 86, .inl R))] H := hP
  have hD : va_D A [(jm, .inr (3, [.int th, .long sd, .long s0, .int (nI n), .ref ik, .ref iv, .ref ir, .ref il, .ref iy, .ref ig])), (ik, .inl (dk, 86, .inl K)), (iv, .inl (dv, 86, .inl V)), (ir, .inl (dr, 86, .inl R))] := hD
  refine lv_iconst (v := nI 0) hx hb d_M_draws_5 (by decide +kernel) ?_
  refine lv_istore (lv' := [(5, .int (nI 0)), (0, .ref jm), (1, .long s0), (3, .int (nI f)), (4, .int (nI z))]) hx hb d_M_draws_6 hl (by decide) rfl (fun ls hl => ?_)
  have lp_8 : ∀ (k9_8 : Nat), ∀ (k : Nat), z + 3 - k < k9_8 → (k ≤ z + 3) → ∀ (H : Heap) (locs : List Loc), va_P (dC, dI) classes [(jm, .inr (3, [.int th, .long sd, .long ((drM f (s0, K, V, R) k).1), .int (nI n), .ref ik, .ref iv, .ref ir, .ref il, .ref iy, .ref ig])), (ik, .inl (dk, 86, .inl ((drM f (s0, K, V, R) k).2.1))), (iv, .inl (dv, 86, .inl ((drM f (s0, K, V, R) k).2.2.1))), (ir, .inl (dr, 86, .inl ((drM f (s0, K, V, R) k).2.2.2)))] H → va_D A [(jm, .inr (3, [.int th, .long sd, .long ((drM f (s0, K, V, R) k).1), .int (nI n), .ref ik, .ref iv, .ref ir, .ref il, .ref iy, .ref ig])), (ik, .inl (dk, 86, .inl ((drM f (s0, K, V, R) k).2.1))), (iv, .inl (dv, 86, .inl ((drM f (s0, K, V, R) k).2.2.1))), (ir, .inl (dr, 86, .inl ((drM f (s0, K, V, R) k).2.2.2)))] → va_S A s.heap H locs → ∀ (ls : Array Slot), lv_has ls 7 [(0, .ref jm), (1, .long s0), (3, .int (nI f)), (4, .int (nI z)), (5, .int (nI k))] → W p l e (headSpec w_M_draws ({ frames := 2, cells := 0, slots := 0, locals := 48 })).room s m ([.ref jm, .long s0, .int (nI f), .int (nI z)]).toArray below meth c H locs 0 0 (MQ below (va_Qv (fun (_ : Unit) => True) (fun (u : Unit) => wr_B dC dI (A) [(jm, .inr (3, [.int th, .long sd, .long ((drM f (s0, K, V, R) (z + 3)).1), .int (nI n), .ref ik, .ref iv, .ref ir, .ref il, .ref iy, .ref ig])), (ik, .inl (dk, 86, .inl ((drM f (s0, K, V, R) (z + 3)).2.1))), (iv, .inl (dv, 86, .inl ((drM f (s0, K, V, R) (z + 3)).2.2.1))), (ir, .inl (dr, 86, .inl ((drM f (s0, K, V, R) (z + 3)).2.2.2)))] [(dk, .int), (dv, .int), (dr, .int)]) (A)) ([.ref jm, .long s0, .int (nI f), .int (nI z)]).toArray s 0 0 A) (F0 m 8 ls []) := by
    intro k9_8
    induction k9_8 with
    | zero =>
      intro k hk9
      exact absurd hk9 (Nat.not_lt_zero _)
    | succ k9_8 ih_8 =>
      intro k hk9_8 hk H locs hP hD hS ls hl
      refine lv_iload hx hb d_M_draws_8 (lv_at hl 4 rfl) ?_
      refine lv_iload hx hb d_M_draws_10 (lv_at hl 3 rfl) ?_
      refine lv_iconst (v := nI 3) hx hb d_M_draws_12 (by decide +kernel) ?_
      refine lv_iadd hx hb d_M_draws_13 ?_
      refine lv_topi (fun w_1 ew_1 => ?_)
      have ew_1 : (nI (z + 3)) = w_1 := (ew_1.trans (nI_add _ _)).symm
      subst ew_1
      refine lv_icmp_ge (tgt := 80) hx hb d_M_draws_14 (by decide) (fun c_14 => ?_) (fun c_14 => ?_)
      · skip
        have c_14 := (nI_leI (by omega) (by omega)).mp c_14
        rw [show k = z + 3 by omega] at hP hD
        have hP9 := hP.sub (ws' := [(jm, .inr (3, [.int th, .long sd, .long ((drM f (s0, K, V, R) (z + 3)).1), .int (nI n), .ref ik, .ref iv, .ref ir, .ref il, .ref iy, .ref ig])), (ik, .inl (dk, 86, .inl ((drM f (s0, K, V, R) (z + 3)).2.1))), (iv, .inl (dv, 86, .inl ((drM f (s0, K, V, R) (z + 3)).2.2.1))), (ir, .inl (dr, 86, .inl ((drM f (s0, K, V, R) (z + 3)).2.2.2)))]) [0, 1, 2, 3] rfl
        have hD9 := hD.sub (ws' := [(jm, .inr (3, [.int th, .long sd, .long ((drM f (s0, K, V, R) (z + 3)).1), .int (nI n), .ref ik, .ref iv, .ref ir, .ref il, .ref iy, .ref ig])), (ik, .inl (dk, 86, .inl ((drM f (s0, K, V, R) (z + 3)).2.1))), (iv, .inl (dv, 86, .inl ((drM f (s0, K, V, R) (z + 3)).2.2.1))), (ir, .inl (dr, 86, .inl ((drM f (s0, K, V, R) (z + 3)).2.2.2)))]) [0, 1, 2, 3] (by decide) rfl
        have hK9 := hK.sub (tys' := [(dk, .int), (dv, .int), (dr, .int)]) [0, 1, 2] rfl
        exact W.vret hx hb hr (fun t ht hW => ⟨⟨(), rfl, trivial, by rw [ht]; exact hP9, va_K.moved hW.alike hK9, hD9⟩, hS.F ht⟩) hS.2.2 d_M_draws_80
      · skip
        have c_14 := (not_congr (nI_leI (by omega) (by omega))).mp c_14
        refine lv_iload_n hx hb d_M_draws_17 rfl (lv_at hl 2 rfl) ?_
        refine lv_iload hx hb d_M_draws_18 (lv_at hl 4 rfl) ?_
        refine lv_iadd hx hb d_M_draws_20 ?_
        refine lv_topi (fun w_2 ew_2 => ?_)
        have ew_2 : (nI (f + k)) = w_2 := (ew_2.trans (nI_add _ _)).symm
        subst ew_2
        refine lv_istore (lv' := [(6, .int (nI (f + k))), (0, .ref jm), (1, .long s0), (3, .int (nI f)), (4, .int (nI z)), (5, .int (nI k))]) hx hb d_M_draws_21 hl (by decide) rfl (fun ls hl => ?_)
        refine lv_aload_n hx hb d_M_draws_23 rfl (lv_at hl 1 rfl) ?_
        refine va_get (D := (dC, dI)) (ci := 3) (v := .ref ik) (C := R_M) (T := F_M) (N := 10) hx hb hts (lay_M _) hown hK hP 0 rfl rfl 4 (by decide) (hts _ (List.mem_cons_of_mem _ m_340)) (fun _ h9 => h9) rfl d_M_draws_24 ?_
        refine lv_iload hx hb d_M_draws_27 (lv_at hl 0 rfl) ?_
        refine lv_iload hx hb d_M_draws_29 (lv_at hl 5 rfl) ?_
        refine lv_iconst (v := nI 3) hx hb d_M_draws_31 (by decide +kernel) ?_
        refine lv_icmp_ge (tgt := 40) hx hb d_M_draws_32 (by decide) (fun c_32 => ?_) (fun c_32 => ?_)
        · skip
          have c_32 := (nI_leI (by omega) (by omega)).mp c_32
          refine lv_aload_n hx hb d_M_draws_40 rfl (lv_at hl 1 rfl) ?_
          refine lv_bipush (v := nI 7) hx hb d_M_draws_41 (by decide +kernel) ?_
          have hPc := hP.sub (ws' := [(jm, .inr (3, [.int th, .long sd, .long ((drM f (s0, K, V, R) k).1), .int (nI n), .ref ik, .ref iv, .ref ir, .ref il, .ref iy, .ref ig]))]) [0] rfl
          have hKc := hK.sub (tys' := []) [] rfl
          have hDc := hD.sub (ws' := [(jm, .inr (3, [.int th, .long sd, .long ((drM f (s0, K, V, R) k).1), .int (nI n), .ref ik, .ref iv, .ref ir, .ref il, .ref iy, .ref ig]))]) [0] (by decide) rfl
          have hFc := va_free (wc := [(jm, .inr (3, [.int th, .long sd, .long ((drM f (s0, K, V, R) k).1), .int (nI n), .ref ik, .ref iv, .ref ir, .ref il, .ref iy, .ref ig]))]) hD hS hA [0] rfl
          refine va_calli (va_runV (As := [.int (nI 7)]) (rest := [.int (nI (f + k)), .ref ik]) ⟨hx, hb, hml, hown, hts⟩ (c_M_number l dC dI jm ik iv ir il iy ig n th sd ((drM f (s0, K, V, R) k).1) 7 (by decide) (by decide) _) (cwV 1 hts (g_V big_w m_386 m_388 ms_23 m_4 m_389) rfl rfl rfl (by decide +kernel) ⟨Nat.le_of_ble_eq_true rfl, Nat.le_of_ble_eq_true rfl⟩) (wr_V hPc hKc hDc hN (va_recv hKc hPc (ci := 3) (q0 := 0) rfl rfl)) rfl rfl hl.1 rfl (lv_room (Nat.le_of_ble_eq_true rfl)) d_M_draws_43 ⟨Nat.le_of_ble_eq_true rfl, Nat.le_of_ble_eq_true rfl⟩) hS (fun q _ h => hFc q h) hFc (fun r_3 u t H1 locs ht hvm hw hB hz1 hk1 hS => ?_)
          obtain ⟨hP1, hK1, hD1⟩ := hB
          rw [ht] at hP1
          obtain ⟨hP, hD⟩ := va_join (wr := [(ik, .inl (dk, 86, .inl ((drM f (s0, K, V, R) k).2.1))), (iv, .inl (dv, 86, .inl ((drM f (s0, K, V, R) k).2.2.1))), (ir, .inl (dr, 86, .inl ((drM f (s0, K, V, R) k).2.2.2)))]) (w1 := [(jm, .inr (3, [.int th, .long sd, .long (nbX ((drM f (s0, K, V, R) k).1) 7), .int (nI n), .ref ik, .ref iv, .ref ir, .ref il, .ref iy, .ref ig]))]) hP hD [0] [1, 2, 3] rfl rfl (by decide) (by decide) hk1 hFc hP1 hD1
          generalize H1 = H at hP hS ⊢
          have hP : va_P (dC, dI) classes [(ik, .inl (dk, 86, .inl ((drM f (s0, K, V, R) k).2.1))), (iv, .inl (dv, 86, .inl ((drM f (s0, K, V, R) k).2.2.1))), (ir, .inl (dr, 86, .inl ((drM f (s0, K, V, R) k).2.2.2))), (jm, .inr (3, [.int th, .long sd, .long (nbX ((drM f (s0, K, V, R) k).1) 7), .int (nI n), .ref ik, .ref iv, .ref ir, .ref il, .ref iy, .ref ig]))] H := hP
          have hD : va_D A [(ik, .inl (dk, 86, .inl ((drM f (s0, K, V, R) k).2.1))), (iv, .inl (dv, 86, .inl ((drM f (s0, K, V, R) k).2.2.1))), (ir, .inl (dr, 86, .inl ((drM f (s0, K, V, R) k).2.2.2))), (jm, .inr (3, [.int th, .long sd, .long (nbX ((drM f (s0, K, V, R) k).1) 7), .int (nI n), .ref ik, .ref iv, .ref ir, .ref il, .ref iy, .ref ig]))] := hD
          have hw := hw.symm
          subst hw
          refine lv_topi (fun w_4 ew_4 => ?_)
          have ew_4 : (if k < 3 then nI k else nbI (drM f (s0, K, V, R) k).1 7) = w_4 := (ew_4.trans ((if_neg (by omega)).symm)).symm
          subst ew_4
          rw [show (nbX ((drM f (s0, K, V, R) k).1) 7) = (if k < 3 then (drM f (s0, K, V, R) k).1 else nbX (drM f (s0, K, V, R) k).1 7) from ((if_neg (by omega)).symm)] at hP hD
          refine va_iast hx hb hK hP hD hS 0 0 rfl rfl (vp_in_nI (by omega) (by omega)) d_M_draws_46 (fun H locs hP hD hS => ?_)
          rw [nI_clamp (by omega)] at hP hD
          have hP : va_P (dC, dI) classes [(ik, .inl (dk, 86, .inl (upd ((drM f (s0, K, V, R) k).2.1) (f + k) (if k < 3 then nI k else nbI (drM f (s0, K, V, R) k).1 7)))), (iv, .inl (dv, 86, .inl ((drM f (s0, K, V, R) k).2.2.1))), (ir, .inl (dr, 86, .inl ((drM f (s0, K, V, R) k).2.2.2))), (jm, .inr (3, [.int th, .long sd, .long (if k < 3 then (drM f (s0, K, V, R) k).1 else nbX (drM f (s0, K, V, R) k).1 7), .int (nI n), .ref ik, .ref iv, .ref ir, .ref il, .ref iy, .ref ig]))] H := hP
          have hD : va_D A [(ik, .inl (dk, 86, .inl (upd ((drM f (s0, K, V, R) k).2.1) (f + k) (if k < 3 then nI k else nbI (drM f (s0, K, V, R) k).1 7)))), (iv, .inl (dv, 86, .inl ((drM f (s0, K, V, R) k).2.2.1))), (ir, .inl (dr, 86, .inl ((drM f (s0, K, V, R) k).2.2.2))), (jm, .inr (3, [.int th, .long sd, .long (if k < 3 then (drM f (s0, K, V, R) k).1 else nbX (drM f (s0, K, V, R) k).1 7), .int (nI n), .ref ik, .ref iv, .ref ir, .ref il, .ref iy, .ref ig]))] := hD
          refine lv_aload_n hx hb d_M_draws_47 rfl (lv_at hl 1 rfl) ?_
          refine va_get (D := (dC, dI)) (ci := 3) (v := .ref iv) (C := R_M) (T := F_M) (N := 10) hx hb hts (lay_M _) hown hK hP 3 rfl rfl 5 (by decide) (hts _ (List.mem_cons_of_mem _ m_341)) (fun _ h9 => h9) rfl d_M_draws_48 ?_
          refine lv_iload hx hb d_M_draws_51 (lv_at hl 0 rfl) ?_
          refine lv_aload_n hx hb d_M_draws_53 rfl (lv_at hl 1 rfl) ?_
          refine lv_bipush (v := nI 100) hx hb d_M_draws_54 (by decide +kernel) ?_
          have hPc := hP.sub (ws' := [(jm, .inr (3, [.int th, .long sd, .long (if k < 3 then (drM f (s0, K, V, R) k).1 else nbX (drM f (s0, K, V, R) k).1 7), .int (nI n), .ref ik, .ref iv, .ref ir, .ref il, .ref iy, .ref ig]))]) [3] rfl
          have hKc := hK.sub (tys' := []) [] rfl
          have hDc := hD.sub (ws' := [(jm, .inr (3, [.int th, .long sd, .long (if k < 3 then (drM f (s0, K, V, R) k).1 else nbX (drM f (s0, K, V, R) k).1 7), .int (nI n), .ref ik, .ref iv, .ref ir, .ref il, .ref iy, .ref ig]))]) [3] (by decide) rfl
          have hFc := va_free (wc := [(jm, .inr (3, [.int th, .long sd, .long (if k < 3 then (drM f (s0, K, V, R) k).1 else nbX (drM f (s0, K, V, R) k).1 7), .int (nI n), .ref ik, .ref iv, .ref ir, .ref il, .ref iy, .ref ig]))]) hD hS hA [3] rfl
          refine va_calli (va_runV (As := [.int (nI 100)]) (rest := [.int (nI (f + k)), .ref iv]) ⟨hx, hb, hml, hown, hts⟩ (c_M_number l dC dI jm ik iv ir il iy ig n th sd (if k < 3 then (drM f (s0, K, V, R) k).1 else nbX (drM f (s0, K, V, R) k).1 7) 100 (by decide) (by decide) _) (cwV 1 hts (g_V big_w m_386 m_388 ms_23 m_4 m_389) rfl rfl rfl (by decide +kernel) ⟨Nat.le_of_ble_eq_true rfl, Nat.le_of_ble_eq_true rfl⟩) (wr_V hPc hKc hDc hN (va_recv hKc hPc (ci := 3) (q0 := 0) rfl rfl)) rfl rfl hl.1 rfl (lv_room (Nat.le_of_ble_eq_true rfl)) d_M_draws_56 ⟨Nat.le_of_ble_eq_true rfl, Nat.le_of_ble_eq_true rfl⟩) hS (fun q _ h => hFc q h) hFc (fun r_5 u t H1 locs ht hvm hw hB hz1 hk1 hS => ?_)
          obtain ⟨hP1, hK1, hD1⟩ := hB
          rw [ht] at hP1
          obtain ⟨hP, hD⟩ := va_join (wr := [(ik, .inl (dk, 86, .inl (upd ((drM f (s0, K, V, R) k).2.1) (f + k) (if k < 3 then nI k else nbI (drM f (s0, K, V, R) k).1 7)))), (iv, .inl (dv, 86, .inl ((drM f (s0, K, V, R) k).2.2.1))), (ir, .inl (dr, 86, .inl ((drM f (s0, K, V, R) k).2.2.2)))]) (w1 := [(jm, .inr (3, [.int th, .long sd, .long (nbX (if k < 3 then (drM f (s0, K, V, R) k).1 else nbX (drM f (s0, K, V, R) k).1 7) 100), .int (nI n), .ref ik, .ref iv, .ref ir, .ref il, .ref iy, .ref ig]))]) hP hD [3] [0, 1, 2] rfl rfl (by decide) (by decide) hk1 hFc hP1 hD1
          generalize H1 = H at hP hS ⊢
          have hP : va_P (dC, dI) classes [(ik, .inl (dk, 86, .inl (upd ((drM f (s0, K, V, R) k).2.1) (f + k) (if k < 3 then nI k else nbI (drM f (s0, K, V, R) k).1 7)))), (iv, .inl (dv, 86, .inl ((drM f (s0, K, V, R) k).2.2.1))), (ir, .inl (dr, 86, .inl ((drM f (s0, K, V, R) k).2.2.2))), (jm, .inr (3, [.int th, .long sd, .long (nbX (if k < 3 then (drM f (s0, K, V, R) k).1 else nbX (drM f (s0, K, V, R) k).1 7) 100), .int (nI n), .ref ik, .ref iv, .ref ir, .ref il, .ref iy, .ref ig]))] H := hP
          have hD : va_D A [(ik, .inl (dk, 86, .inl (upd ((drM f (s0, K, V, R) k).2.1) (f + k) (if k < 3 then nI k else nbI (drM f (s0, K, V, R) k).1 7)))), (iv, .inl (dv, 86, .inl ((drM f (s0, K, V, R) k).2.2.1))), (ir, .inl (dr, 86, .inl ((drM f (s0, K, V, R) k).2.2.2))), (jm, .inr (3, [.int th, .long sd, .long (nbX (if k < 3 then (drM f (s0, K, V, R) k).1 else nbX (drM f (s0, K, V, R) k).1 7) 100), .int (nI n), .ref ik, .ref iv, .ref ir, .ref il, .ref iy, .ref ig]))] := hD
          have hw := hw.symm
          subst hw
          refine va_iast hx hb hK hP hD hS 1 1 rfl rfl (vp_in_nI (by omega) (by omega)) d_M_draws_59 (fun H locs hP hD hS => ?_)
          rw [nI_clamp (by omega)] at hP hD
          have hP : va_P (dC, dI) classes [(ik, .inl (dk, 86, .inl (upd ((drM f (s0, K, V, R) k).2.1) (f + k) (if k < 3 then nI k else nbI (drM f (s0, K, V, R) k).1 7)))), (iv, .inl (dv, 86, .inl (upd ((drM f (s0, K, V, R) k).2.2.1) (f + k) (nbI (if k < 3 then (drM f (s0, K, V, R) k).1 else nbX (drM f (s0, K, V, R) k).1 7) 100)))), (ir, .inl (dr, 86, .inl ((drM f (s0, K, V, R) k).2.2.2))), (jm, .inr (3, [.int th, .long sd, .long (nbX (if k < 3 then (drM f (s0, K, V, R) k).1 else nbX (drM f (s0, K, V, R) k).1 7) 100), .int (nI n), .ref ik, .ref iv, .ref ir, .ref il, .ref iy, .ref ig]))] H := hP
          have hD : va_D A [(ik, .inl (dk, 86, .inl (upd ((drM f (s0, K, V, R) k).2.1) (f + k) (if k < 3 then nI k else nbI (drM f (s0, K, V, R) k).1 7)))), (iv, .inl (dv, 86, .inl (upd ((drM f (s0, K, V, R) k).2.2.1) (f + k) (nbI (if k < 3 then (drM f (s0, K, V, R) k).1 else nbX (drM f (s0, K, V, R) k).1 7) 100)))), (ir, .inl (dr, 86, .inl ((drM f (s0, K, V, R) k).2.2.2))), (jm, .inr (3, [.int th, .long sd, .long (nbX (if k < 3 then (drM f (s0, K, V, R) k).1 else nbX (drM f (s0, K, V, R) k).1 7) 100), .int (nI n), .ref ik, .ref iv, .ref ir, .ref il, .ref iy, .ref ig]))] := hD
          refine lv_aload_n hx hb d_M_draws_60 rfl (lv_at hl 1 rfl) ?_
          refine va_get (D := (dC, dI)) (ci := 3) (v := .ref ir) (C := R_M) (T := F_M) (N := 10) hx hb hts (lay_M _) hown hK hP 3 rfl rfl 6 (by decide) (hts _ (List.mem_cons_of_mem _ m_342)) (fun _ h9 => h9) rfl d_M_draws_61 ?_
          refine lv_iload hx hb d_M_draws_64 (lv_at hl 0 rfl) ?_
          refine lv_aload_n hx hb d_M_draws_66 rfl (lv_at hl 1 rfl) ?_
          refine lv_iload_n hx hb d_M_draws_67 rfl (lv_at hl 3 rfl) ?_
          refine lv_iload hx hb d_M_draws_68 (lv_at hl 0 rfl) ?_
          have hPc := hP.sub (ws' := [(jm, .inr (3, [.int th, .long sd, .long (nbX (if k < 3 then (drM f (s0, K, V, R) k).1 else nbX (drM f (s0, K, V, R) k).1 7) 100), .int (nI n), .ref ik, .ref iv, .ref ir, .ref il, .ref iy, .ref ig])), (ik, .inl (dk, 86, .inl (upd ((drM f (s0, K, V, R) k).2.1) (f + k) (if k < 3 then nI k else nbI (drM f (s0, K, V, R) k).1 7))))]) [3, 0] rfl
          have hKc := hK.sub (tys' := [(dk, .int)]) [0] rfl
          have hDc := hD.sub (ws' := [(jm, .inr (3, [.int th, .long sd, .long (nbX (if k < 3 then (drM f (s0, K, V, R) k).1 else nbX (drM f (s0, K, V, R) k).1 7) 100), .int (nI n), .ref ik, .ref iv, .ref ir, .ref il, .ref iy, .ref ig])), (ik, .inl (dk, 86, .inl (upd ((drM f (s0, K, V, R) k).2.1) (f + k) (if k < 3 then nI k else nbI (drM f (s0, K, V, R) k).1 7))))]) [3, 0] (by decide) rfl
          have hFc := va_free (wc := [(jm, .inr (3, [.int th, .long sd, .long (nbX (if k < 3 then (drM f (s0, K, V, R) k).1 else nbX (drM f (s0, K, V, R) k).1 7) 100), .int (nI n), .ref ik, .ref iv, .ref ir, .ref il, .ref iy, .ref ig])), (ik, .inl (dk, 86, .inl (upd ((drM f (s0, K, V, R) k).2.1) (f + k) (if k < 3 then nI k else nbI (drM f (s0, K, V, R) k).1 7))))]) hD hS hA [3, 0] rfl
          refine va_calli (va_runV (As := [.int (nI f), .int (nI (f + k))]) (rest := [.int (nI (f + k)), .ref ir]) ⟨hx, hb, hml, hown, hts⟩ (c_M_reference l dC dI jm ik iv ir il iy ig n th sd (nbX (if k < 3 then (drM f (s0, K, V, R) k).1 else nbX (drM f (s0, K, V, R) k).1 7) 100) dk (upd ((drM f (s0, K, V, R) k).2.1) (f + k) (if k < 3 then nI k else nbI (drM f (s0, K, V, R) k).1 7)) f k (if k < 3 then nI k else nbI (drM f (s0, K, V, R) k).1 7) (by omega) pk_us _) (cwV 2 hts (g_V big_w m_392 m_394 ms_24 m_4 m_395) rfl rfl rfl (by decide +kernel) ⟨Nat.le_of_ble_eq_true rfl, Nat.le_of_ble_eq_true rfl⟩) (wr_V hPc hKc hDc hN (va_recv hKc hPc (ci := 3) (q0 := 0) rfl rfl)) rfl rfl hl.1 rfl (lv_room (Nat.le_of_ble_eq_true rfl)) d_M_draws_70 ⟨Nat.le_of_ble_eq_true rfl, Nat.le_of_ble_eq_true rfl⟩) hS (fun q _ h => hFc q h) hFc (fun r_6 u t H1 locs ht hvm hw hB hz1 hk1 hS => ?_)
          obtain ⟨hP1, hK1, hD1⟩ := hB
          rw [ht] at hP1
          obtain ⟨hP, hD⟩ := va_join (wr := [(iv, .inl (dv, 86, .inl (upd ((drM f (s0, K, V, R) k).2.2.1) (f + k) (nbI (if k < 3 then (drM f (s0, K, V, R) k).1 else nbX (drM f (s0, K, V, R) k).1 7) 100)))), (ir, .inl (dr, 86, .inl ((drM f (s0, K, V, R) k).2.2.2)))]) (w1 := [(jm, .inr (3, [.int th, .long sd, .long (rfX (shf (upd ((drM f (s0, K, V, R) k).2.1) (f + k) (if k < 3 then nI k else nbI (drM f (s0, K, V, R) k).1 7)) f) k (if k < 3 then nI k else nbI (drM f (s0, K, V, R) k).1 7) (nbX (if k < 3 then (drM f (s0, K, V, R) k).1 else nbX (drM f (s0, K, V, R) k).1 7) 100)), .int (nI n), .ref ik, .ref iv, .ref ir, .ref il, .ref iy, .ref ig])), (ik, .inl (dk, 86, .inl (upd ((drM f (s0, K, V, R) k).2.1) (f + k) (if k < 3 then nI k else nbI (drM f (s0, K, V, R) k).1 7))))]) hP hD [3, 0] [1, 2] rfl rfl (by decide) (by decide) hk1 hFc hP1 hD1
          generalize H1 = H at hP hS ⊢
          have hP : va_P (dC, dI) classes [(iv, .inl (dv, 86, .inl (upd ((drM f (s0, K, V, R) k).2.2.1) (f + k) (nbI (if k < 3 then (drM f (s0, K, V, R) k).1 else nbX (drM f (s0, K, V, R) k).1 7) 100)))), (ir, .inl (dr, 86, .inl ((drM f (s0, K, V, R) k).2.2.2))), (jm, .inr (3, [.int th, .long sd, .long (rfX (shf (upd ((drM f (s0, K, V, R) k).2.1) (f + k) (if k < 3 then nI k else nbI (drM f (s0, K, V, R) k).1 7)) f) k (if k < 3 then nI k else nbI (drM f (s0, K, V, R) k).1 7) (nbX (if k < 3 then (drM f (s0, K, V, R) k).1 else nbX (drM f (s0, K, V, R) k).1 7) 100)), .int (nI n), .ref ik, .ref iv, .ref ir, .ref il, .ref iy, .ref ig])), (ik, .inl (dk, 86, .inl (upd ((drM f (s0, K, V, R) k).2.1) (f + k) (if k < 3 then nI k else nbI (drM f (s0, K, V, R) k).1 7))))] H := hP
          have hD : va_D A [(iv, .inl (dv, 86, .inl (upd ((drM f (s0, K, V, R) k).2.2.1) (f + k) (nbI (if k < 3 then (drM f (s0, K, V, R) k).1 else nbX (drM f (s0, K, V, R) k).1 7) 100)))), (ir, .inl (dr, 86, .inl ((drM f (s0, K, V, R) k).2.2.2))), (jm, .inr (3, [.int th, .long sd, .long (rfX (shf (upd ((drM f (s0, K, V, R) k).2.1) (f + k) (if k < 3 then nI k else nbI (drM f (s0, K, V, R) k).1 7)) f) k (if k < 3 then nI k else nbI (drM f (s0, K, V, R) k).1 7) (nbX (if k < 3 then (drM f (s0, K, V, R) k).1 else nbX (drM f (s0, K, V, R) k).1 7) 100)), .int (nI n), .ref ik, .ref iv, .ref ir, .ref il, .ref iy, .ref ig])), (ik, .inl (dk, 86, .inl (upd ((drM f (s0, K, V, R) k).2.1) (f + k) (if k < 3 then nI k else nbI (drM f (s0, K, V, R) k).1 7))))] := hD
          have hw := hw.symm
          subst hw
          refine va_iast hx hb hK hP hD hS 1 2 rfl rfl (vp_in_nI (by omega) (by omega)) d_M_draws_73 (fun H locs hP hD hS => ?_)
          rw [nI_clamp (by omega)] at hP hD
          have hP : va_P (dC, dI) classes [(iv, .inl (dv, 86, .inl (upd ((drM f (s0, K, V, R) k).2.2.1) (f + k) (nbI (if k < 3 then (drM f (s0, K, V, R) k).1 else nbX (drM f (s0, K, V, R) k).1 7) 100)))), (ir, .inl (dr, 86, .inl (upd ((drM f (s0, K, V, R) k).2.2.2) (f + k) (rfI (shf (upd ((drM f (s0, K, V, R) k).2.1) (f + k) (if k < 3 then nI k else nbI (drM f (s0, K, V, R) k).1 7)) f) k (if k < 3 then nI k else nbI (drM f (s0, K, V, R) k).1 7) (nbX (if k < 3 then (drM f (s0, K, V, R) k).1 else nbX (drM f (s0, K, V, R) k).1 7) 100))))), (jm, .inr (3, [.int th, .long sd, .long (rfX (shf (upd ((drM f (s0, K, V, R) k).2.1) (f + k) (if k < 3 then nI k else nbI (drM f (s0, K, V, R) k).1 7)) f) k (if k < 3 then nI k else nbI (drM f (s0, K, V, R) k).1 7) (nbX (if k < 3 then (drM f (s0, K, V, R) k).1 else nbX (drM f (s0, K, V, R) k).1 7) 100)), .int (nI n), .ref ik, .ref iv, .ref ir, .ref il, .ref iy, .ref ig])), (ik, .inl (dk, 86, .inl (upd ((drM f (s0, K, V, R) k).2.1) (f + k) (if k < 3 then nI k else nbI (drM f (s0, K, V, R) k).1 7))))] H := hP
          have hD : va_D A [(iv, .inl (dv, 86, .inl (upd ((drM f (s0, K, V, R) k).2.2.1) (f + k) (nbI (if k < 3 then (drM f (s0, K, V, R) k).1 else nbX (drM f (s0, K, V, R) k).1 7) 100)))), (ir, .inl (dr, 86, .inl (upd ((drM f (s0, K, V, R) k).2.2.2) (f + k) (rfI (shf (upd ((drM f (s0, K, V, R) k).2.1) (f + k) (if k < 3 then nI k else nbI (drM f (s0, K, V, R) k).1 7)) f) k (if k < 3 then nI k else nbI (drM f (s0, K, V, R) k).1 7) (nbX (if k < 3 then (drM f (s0, K, V, R) k).1 else nbX (drM f (s0, K, V, R) k).1 7) 100))))), (jm, .inr (3, [.int th, .long sd, .long (rfX (shf (upd ((drM f (s0, K, V, R) k).2.1) (f + k) (if k < 3 then nI k else nbI (drM f (s0, K, V, R) k).1 7)) f) k (if k < 3 then nI k else nbI (drM f (s0, K, V, R) k).1 7) (nbX (if k < 3 then (drM f (s0, K, V, R) k).1 else nbX (drM f (s0, K, V, R) k).1 7) 100)), .int (nI n), .ref ik, .ref iv, .ref ir, .ref il, .ref iy, .ref ig])), (ik, .inl (dk, 86, .inl (upd ((drM f (s0, K, V, R) k).2.1) (f + k) (if k < 3 then nI k else nbI (drM f (s0, K, V, R) k).1 7))))] := hD
          refine lv_iinc (v := nI (k + 1)) (lv' := [(5, .int (nI (k + 1))), (6, .int (nI (f + k))), (0, .ref jm), (1, .long s0), (3, .int (nI f)), (4, .int (nI z))]) hx hb d_M_draws_74 hl (k := 5) rfl (nI_1 _) (by decide) rfl (fun ls hl => ?_)
          refine lv_goto (tgt := 8) hx hb d_M_draws_77 (by decide) ?_
          exact ih_8 (k + 1) (by omega) (by first | assumption | omega) _ _ (hP.sub (ws' := [(jm, .inr (3, [.int th, .long sd, .long ((drM f (s0, K, V, R) (k + 1)).1), .int (nI n), .ref ik, .ref iv, .ref ir, .ref il, .ref iy, .ref ig])), (ik, .inl (dk, 86, .inl ((drM f (s0, K, V, R) (k + 1)).2.1))), (iv, .inl (dv, 86, .inl ((drM f (s0, K, V, R) (k + 1)).2.2.1))), (ir, .inl (dr, 86, .inl ((drM f (s0, K, V, R) (k + 1)).2.2.2)))]) [2, 3, 0, 1] rfl) (hD.sub (ws' := [(jm, .inr (3, [.int th, .long sd, .long ((drM f (s0, K, V, R) (k + 1)).1), .int (nI n), .ref ik, .ref iv, .ref ir, .ref il, .ref iy, .ref ig])), (ik, .inl (dk, 86, .inl ((drM f (s0, K, V, R) (k + 1)).2.1))), (iv, .inl (dv, 86, .inl ((drM f (s0, K, V, R) (k + 1)).2.2.1))), (ir, .inl (dr, 86, .inl ((drM f (s0, K, V, R) (k + 1)).2.2.2)))]) [2, 3, 0, 1] (by decide) rfl) hS ls (lv_sub (l' := [(0, .ref jm), (1, .long s0), (3, .int (nI f)), (4, .int (nI z)), (5, .int (nI (k + 1)))]) hl [2, 3, 4, 5, 0] rfl)
        · skip
          have c_32 := (not_congr (nI_leI (by omega) (by omega))).mp c_32
          refine lv_iload hx hb d_M_draws_35 (lv_at hl 5 rfl) ?_
          refine lv_goto (tgt := 46) hx hb d_M_draws_37 (by decide) ?_
          refine lv_topi (fun w_7 ew_7 => ?_)
          have ew_7 : (if k < 3 then nI k else nbI (drM f (s0, K, V, R) k).1 7) = w_7 := (ew_7.trans ((if_pos (by omega)).symm)).symm
          subst ew_7
          rw [show ((drM f (s0, K, V, R) k).1) = (if k < 3 then (drM f (s0, K, V, R) k).1 else nbX (drM f (s0, K, V, R) k).1 7) from ((if_pos (by omega)).symm)] at hP hD
          refine va_iast hx hb hK hP hD hS 1 0 rfl rfl (vp_in_nI (by omega) (by omega)) d_M_draws_46 (fun H locs hP hD hS => ?_)
          rw [nI_clamp (by omega)] at hP hD
          have hP : va_P (dC, dI) classes [(jm, .inr (3, [.int th, .long sd, .long (if k < 3 then (drM f (s0, K, V, R) k).1 else nbX (drM f (s0, K, V, R) k).1 7), .int (nI n), .ref ik, .ref iv, .ref ir, .ref il, .ref iy, .ref ig])), (ik, .inl (dk, 86, .inl (upd ((drM f (s0, K, V, R) k).2.1) (f + k) (if k < 3 then nI k else nbI (drM f (s0, K, V, R) k).1 7)))), (iv, .inl (dv, 86, .inl ((drM f (s0, K, V, R) k).2.2.1))), (ir, .inl (dr, 86, .inl ((drM f (s0, K, V, R) k).2.2.2)))] H := hP
          have hD : va_D A [(jm, .inr (3, [.int th, .long sd, .long (if k < 3 then (drM f (s0, K, V, R) k).1 else nbX (drM f (s0, K, V, R) k).1 7), .int (nI n), .ref ik, .ref iv, .ref ir, .ref il, .ref iy, .ref ig])), (ik, .inl (dk, 86, .inl (upd ((drM f (s0, K, V, R) k).2.1) (f + k) (if k < 3 then nI k else nbI (drM f (s0, K, V, R) k).1 7)))), (iv, .inl (dv, 86, .inl ((drM f (s0, K, V, R) k).2.2.1))), (ir, .inl (dr, 86, .inl ((drM f (s0, K, V, R) k).2.2.2)))] := hD
          refine lv_aload_n hx hb d_M_draws_47 rfl (lv_at hl 1 rfl) ?_
          refine va_get (D := (dC, dI)) (ci := 3) (v := .ref iv) (C := R_M) (T := F_M) (N := 10) hx hb hts (lay_M _) hown hK hP 0 rfl rfl 5 (by decide) (hts _ (List.mem_cons_of_mem _ m_341)) (fun _ h9 => h9) rfl d_M_draws_48 ?_
          refine lv_iload hx hb d_M_draws_51 (lv_at hl 0 rfl) ?_
          refine lv_aload_n hx hb d_M_draws_53 rfl (lv_at hl 1 rfl) ?_
          refine lv_bipush (v := nI 100) hx hb d_M_draws_54 (by decide +kernel) ?_
          have hPc := hP.sub (ws' := [(jm, .inr (3, [.int th, .long sd, .long (if k < 3 then (drM f (s0, K, V, R) k).1 else nbX (drM f (s0, K, V, R) k).1 7), .int (nI n), .ref ik, .ref iv, .ref ir, .ref il, .ref iy, .ref ig]))]) [0] rfl
          have hKc := hK.sub (tys' := []) [] rfl
          have hDc := hD.sub (ws' := [(jm, .inr (3, [.int th, .long sd, .long (if k < 3 then (drM f (s0, K, V, R) k).1 else nbX (drM f (s0, K, V, R) k).1 7), .int (nI n), .ref ik, .ref iv, .ref ir, .ref il, .ref iy, .ref ig]))]) [0] (by decide) rfl
          have hFc := va_free (wc := [(jm, .inr (3, [.int th, .long sd, .long (if k < 3 then (drM f (s0, K, V, R) k).1 else nbX (drM f (s0, K, V, R) k).1 7), .int (nI n), .ref ik, .ref iv, .ref ir, .ref il, .ref iy, .ref ig]))]) hD hS hA [0] rfl
          refine va_calli (va_runV (As := [.int (nI 100)]) (rest := [.int (nI (f + k)), .ref iv]) ⟨hx, hb, hml, hown, hts⟩ (c_M_number l dC dI jm ik iv ir il iy ig n th sd (if k < 3 then (drM f (s0, K, V, R) k).1 else nbX (drM f (s0, K, V, R) k).1 7) 100 (by decide) (by decide) _) (cwV 1 hts (g_V big_w m_386 m_388 ms_23 m_4 m_389) rfl rfl rfl (by decide +kernel) ⟨Nat.le_of_ble_eq_true rfl, Nat.le_of_ble_eq_true rfl⟩) (wr_V hPc hKc hDc hN (va_recv hKc hPc (ci := 3) (q0 := 0) rfl rfl)) rfl rfl hl.1 rfl (lv_room (Nat.le_of_ble_eq_true rfl)) d_M_draws_56 ⟨Nat.le_of_ble_eq_true rfl, Nat.le_of_ble_eq_true rfl⟩) hS (fun q _ h => hFc q h) hFc (fun r_8 u t H1 locs ht hvm hw hB hz1 hk1 hS => ?_)
          obtain ⟨hP1, hK1, hD1⟩ := hB
          rw [ht] at hP1
          obtain ⟨hP, hD⟩ := va_join (wr := [(ik, .inl (dk, 86, .inl (upd ((drM f (s0, K, V, R) k).2.1) (f + k) (if k < 3 then nI k else nbI (drM f (s0, K, V, R) k).1 7)))), (iv, .inl (dv, 86, .inl ((drM f (s0, K, V, R) k).2.2.1))), (ir, .inl (dr, 86, .inl ((drM f (s0, K, V, R) k).2.2.2)))]) (w1 := [(jm, .inr (3, [.int th, .long sd, .long (nbX (if k < 3 then (drM f (s0, K, V, R) k).1 else nbX (drM f (s0, K, V, R) k).1 7) 100), .int (nI n), .ref ik, .ref iv, .ref ir, .ref il, .ref iy, .ref ig]))]) hP hD [0] [1, 2, 3] rfl rfl (by decide) (by decide) hk1 hFc hP1 hD1
          generalize H1 = H at hP hS ⊢
          have hP : va_P (dC, dI) classes [(ik, .inl (dk, 86, .inl (upd ((drM f (s0, K, V, R) k).2.1) (f + k) (if k < 3 then nI k else nbI (drM f (s0, K, V, R) k).1 7)))), (iv, .inl (dv, 86, .inl ((drM f (s0, K, V, R) k).2.2.1))), (ir, .inl (dr, 86, .inl ((drM f (s0, K, V, R) k).2.2.2))), (jm, .inr (3, [.int th, .long sd, .long (nbX (if k < 3 then (drM f (s0, K, V, R) k).1 else nbX (drM f (s0, K, V, R) k).1 7) 100), .int (nI n), .ref ik, .ref iv, .ref ir, .ref il, .ref iy, .ref ig]))] H := hP
          have hD : va_D A [(ik, .inl (dk, 86, .inl (upd ((drM f (s0, K, V, R) k).2.1) (f + k) (if k < 3 then nI k else nbI (drM f (s0, K, V, R) k).1 7)))), (iv, .inl (dv, 86, .inl ((drM f (s0, K, V, R) k).2.2.1))), (ir, .inl (dr, 86, .inl ((drM f (s0, K, V, R) k).2.2.2))), (jm, .inr (3, [.int th, .long sd, .long (nbX (if k < 3 then (drM f (s0, K, V, R) k).1 else nbX (drM f (s0, K, V, R) k).1 7) 100), .int (nI n), .ref ik, .ref iv, .ref ir, .ref il, .ref iy, .ref ig]))] := hD
          have hw := hw.symm
          subst hw
          refine va_iast hx hb hK hP hD hS 1 1 rfl rfl (vp_in_nI (by omega) (by omega)) d_M_draws_59 (fun H locs hP hD hS => ?_)
          rw [nI_clamp (by omega)] at hP hD
          have hP : va_P (dC, dI) classes [(ik, .inl (dk, 86, .inl (upd ((drM f (s0, K, V, R) k).2.1) (f + k) (if k < 3 then nI k else nbI (drM f (s0, K, V, R) k).1 7)))), (iv, .inl (dv, 86, .inl (upd ((drM f (s0, K, V, R) k).2.2.1) (f + k) (nbI (if k < 3 then (drM f (s0, K, V, R) k).1 else nbX (drM f (s0, K, V, R) k).1 7) 100)))), (ir, .inl (dr, 86, .inl ((drM f (s0, K, V, R) k).2.2.2))), (jm, .inr (3, [.int th, .long sd, .long (nbX (if k < 3 then (drM f (s0, K, V, R) k).1 else nbX (drM f (s0, K, V, R) k).1 7) 100), .int (nI n), .ref ik, .ref iv, .ref ir, .ref il, .ref iy, .ref ig]))] H := hP
          have hD : va_D A [(ik, .inl (dk, 86, .inl (upd ((drM f (s0, K, V, R) k).2.1) (f + k) (if k < 3 then nI k else nbI (drM f (s0, K, V, R) k).1 7)))), (iv, .inl (dv, 86, .inl (upd ((drM f (s0, K, V, R) k).2.2.1) (f + k) (nbI (if k < 3 then (drM f (s0, K, V, R) k).1 else nbX (drM f (s0, K, V, R) k).1 7) 100)))), (ir, .inl (dr, 86, .inl ((drM f (s0, K, V, R) k).2.2.2))), (jm, .inr (3, [.int th, .long sd, .long (nbX (if k < 3 then (drM f (s0, K, V, R) k).1 else nbX (drM f (s0, K, V, R) k).1 7) 100), .int (nI n), .ref ik, .ref iv, .ref ir, .ref il, .ref iy, .ref ig]))] := hD
          refine lv_aload_n hx hb d_M_draws_60 rfl (lv_at hl 1 rfl) ?_
          refine va_get (D := (dC, dI)) (ci := 3) (v := .ref ir) (C := R_M) (T := F_M) (N := 10) hx hb hts (lay_M _) hown hK hP 3 rfl rfl 6 (by decide) (hts _ (List.mem_cons_of_mem _ m_342)) (fun _ h9 => h9) rfl d_M_draws_61 ?_
          refine lv_iload hx hb d_M_draws_64 (lv_at hl 0 rfl) ?_
          refine lv_aload_n hx hb d_M_draws_66 rfl (lv_at hl 1 rfl) ?_
          refine lv_iload_n hx hb d_M_draws_67 rfl (lv_at hl 3 rfl) ?_
          refine lv_iload hx hb d_M_draws_68 (lv_at hl 0 rfl) ?_
          have hPc := hP.sub (ws' := [(jm, .inr (3, [.int th, .long sd, .long (nbX (if k < 3 then (drM f (s0, K, V, R) k).1 else nbX (drM f (s0, K, V, R) k).1 7) 100), .int (nI n), .ref ik, .ref iv, .ref ir, .ref il, .ref iy, .ref ig])), (ik, .inl (dk, 86, .inl (upd ((drM f (s0, K, V, R) k).2.1) (f + k) (if k < 3 then nI k else nbI (drM f (s0, K, V, R) k).1 7))))]) [3, 0] rfl
          have hKc := hK.sub (tys' := [(dk, .int)]) [0] rfl
          have hDc := hD.sub (ws' := [(jm, .inr (3, [.int th, .long sd, .long (nbX (if k < 3 then (drM f (s0, K, V, R) k).1 else nbX (drM f (s0, K, V, R) k).1 7) 100), .int (nI n), .ref ik, .ref iv, .ref ir, .ref il, .ref iy, .ref ig])), (ik, .inl (dk, 86, .inl (upd ((drM f (s0, K, V, R) k).2.1) (f + k) (if k < 3 then nI k else nbI (drM f (s0, K, V, R) k).1 7))))]) [3, 0] (by decide) rfl
          have hFc := va_free (wc := [(jm, .inr (3, [.int th, .long sd, .long (nbX (if k < 3 then (drM f (s0, K, V, R) k).1 else nbX (drM f (s0, K, V, R) k).1 7) 100), .int (nI n), .ref ik, .ref iv, .ref ir, .ref il, .ref iy, .ref ig])), (ik, .inl (dk, 86, .inl (upd ((drM f (s0, K, V, R) k).2.1) (f + k) (if k < 3 then nI k else nbI (drM f (s0, K, V, R) k).1 7))))]) hD hS hA [3, 0] rfl
          refine va_calli (va_runV (As := [.int (nI f), .int (nI (f + k))]) (rest := [.int (nI (f + k)), .ref ir]) ⟨hx, hb, hml, hown, hts⟩ (c_M_reference l dC dI jm ik iv ir il iy ig n th sd (nbX (if k < 3 then (drM f (s0, K, V, R) k).1 else nbX (drM f (s0, K, V, R) k).1 7) 100) dk (upd ((drM f (s0, K, V, R) k).2.1) (f + k) (if k < 3 then nI k else nbI (drM f (s0, K, V, R) k).1 7)) f k (if k < 3 then nI k else nbI (drM f (s0, K, V, R) k).1 7) (by omega) pk_us _) (cwV 2 hts (g_V big_w m_392 m_394 ms_24 m_4 m_395) rfl rfl rfl (by decide +kernel) ⟨Nat.le_of_ble_eq_true rfl, Nat.le_of_ble_eq_true rfl⟩) (wr_V hPc hKc hDc hN (va_recv hKc hPc (ci := 3) (q0 := 0) rfl rfl)) rfl rfl hl.1 rfl (lv_room (Nat.le_of_ble_eq_true rfl)) d_M_draws_70 ⟨Nat.le_of_ble_eq_true rfl, Nat.le_of_ble_eq_true rfl⟩) hS (fun q _ h => hFc q h) hFc (fun r_9 u t H1 locs ht hvm hw hB hz1 hk1 hS => ?_)
          obtain ⟨hP1, hK1, hD1⟩ := hB
          rw [ht] at hP1
          obtain ⟨hP, hD⟩ := va_join (wr := [(iv, .inl (dv, 86, .inl (upd ((drM f (s0, K, V, R) k).2.2.1) (f + k) (nbI (if k < 3 then (drM f (s0, K, V, R) k).1 else nbX (drM f (s0, K, V, R) k).1 7) 100)))), (ir, .inl (dr, 86, .inl ((drM f (s0, K, V, R) k).2.2.2)))]) (w1 := [(jm, .inr (3, [.int th, .long sd, .long (rfX (shf (upd ((drM f (s0, K, V, R) k).2.1) (f + k) (if k < 3 then nI k else nbI (drM f (s0, K, V, R) k).1 7)) f) k (if k < 3 then nI k else nbI (drM f (s0, K, V, R) k).1 7) (nbX (if k < 3 then (drM f (s0, K, V, R) k).1 else nbX (drM f (s0, K, V, R) k).1 7) 100)), .int (nI n), .ref ik, .ref iv, .ref ir, .ref il, .ref iy, .ref ig])), (ik, .inl (dk, 86, .inl (upd ((drM f (s0, K, V, R) k).2.1) (f + k) (if k < 3 then nI k else nbI (drM f (s0, K, V, R) k).1 7))))]) hP hD [3, 0] [1, 2] rfl rfl (by decide) (by decide) hk1 hFc hP1 hD1
          generalize H1 = H at hP hS ⊢
          have hP : va_P (dC, dI) classes [(iv, .inl (dv, 86, .inl (upd ((drM f (s0, K, V, R) k).2.2.1) (f + k) (nbI (if k < 3 then (drM f (s0, K, V, R) k).1 else nbX (drM f (s0, K, V, R) k).1 7) 100)))), (ir, .inl (dr, 86, .inl ((drM f (s0, K, V, R) k).2.2.2))), (jm, .inr (3, [.int th, .long sd, .long (rfX (shf (upd ((drM f (s0, K, V, R) k).2.1) (f + k) (if k < 3 then nI k else nbI (drM f (s0, K, V, R) k).1 7)) f) k (if k < 3 then nI k else nbI (drM f (s0, K, V, R) k).1 7) (nbX (if k < 3 then (drM f (s0, K, V, R) k).1 else nbX (drM f (s0, K, V, R) k).1 7) 100)), .int (nI n), .ref ik, .ref iv, .ref ir, .ref il, .ref iy, .ref ig])), (ik, .inl (dk, 86, .inl (upd ((drM f (s0, K, V, R) k).2.1) (f + k) (if k < 3 then nI k else nbI (drM f (s0, K, V, R) k).1 7))))] H := hP
          have hD : va_D A [(iv, .inl (dv, 86, .inl (upd ((drM f (s0, K, V, R) k).2.2.1) (f + k) (nbI (if k < 3 then (drM f (s0, K, V, R) k).1 else nbX (drM f (s0, K, V, R) k).1 7) 100)))), (ir, .inl (dr, 86, .inl ((drM f (s0, K, V, R) k).2.2.2))), (jm, .inr (3, [.int th, .long sd, .long (rfX (shf (upd ((drM f (s0, K, V, R) k).2.1) (f + k) (if k < 3 then nI k else nbI (drM f (s0, K, V, R) k).1 7)) f) k (if k < 3 then nI k else nbI (drM f (s0, K, V, R) k).1 7) (nbX (if k < 3 then (drM f (s0, K, V, R) k).1 else nbX (drM f (s0, K, V, R) k).1 7) 100)), .int (nI n), .ref ik, .ref iv, .ref ir, .ref il, .ref iy, .ref ig])), (ik, .inl (dk, 86, .inl (upd ((drM f (s0, K, V, R) k).2.1) (f + k) (if k < 3 then nI k else nbI (drM f (s0, K, V, R) k).1 7))))] := hD
          have hw := hw.symm
          subst hw
          refine va_iast hx hb hK hP hD hS 1 2 rfl rfl (vp_in_nI (by omega) (by omega)) d_M_draws_73 (fun H locs hP hD hS => ?_)
          rw [nI_clamp (by omega)] at hP hD
          have hP : va_P (dC, dI) classes [(iv, .inl (dv, 86, .inl (upd ((drM f (s0, K, V, R) k).2.2.1) (f + k) (nbI (if k < 3 then (drM f (s0, K, V, R) k).1 else nbX (drM f (s0, K, V, R) k).1 7) 100)))), (ir, .inl (dr, 86, .inl (upd ((drM f (s0, K, V, R) k).2.2.2) (f + k) (rfI (shf (upd ((drM f (s0, K, V, R) k).2.1) (f + k) (if k < 3 then nI k else nbI (drM f (s0, K, V, R) k).1 7)) f) k (if k < 3 then nI k else nbI (drM f (s0, K, V, R) k).1 7) (nbX (if k < 3 then (drM f (s0, K, V, R) k).1 else nbX (drM f (s0, K, V, R) k).1 7) 100))))), (jm, .inr (3, [.int th, .long sd, .long (rfX (shf (upd ((drM f (s0, K, V, R) k).2.1) (f + k) (if k < 3 then nI k else nbI (drM f (s0, K, V, R) k).1 7)) f) k (if k < 3 then nI k else nbI (drM f (s0, K, V, R) k).1 7) (nbX (if k < 3 then (drM f (s0, K, V, R) k).1 else nbX (drM f (s0, K, V, R) k).1 7) 100)), .int (nI n), .ref ik, .ref iv, .ref ir, .ref il, .ref iy, .ref ig])), (ik, .inl (dk, 86, .inl (upd ((drM f (s0, K, V, R) k).2.1) (f + k) (if k < 3 then nI k else nbI (drM f (s0, K, V, R) k).1 7))))] H := hP
          have hD : va_D A [(iv, .inl (dv, 86, .inl (upd ((drM f (s0, K, V, R) k).2.2.1) (f + k) (nbI (if k < 3 then (drM f (s0, K, V, R) k).1 else nbX (drM f (s0, K, V, R) k).1 7) 100)))), (ir, .inl (dr, 86, .inl (upd ((drM f (s0, K, V, R) k).2.2.2) (f + k) (rfI (shf (upd ((drM f (s0, K, V, R) k).2.1) (f + k) (if k < 3 then nI k else nbI (drM f (s0, K, V, R) k).1 7)) f) k (if k < 3 then nI k else nbI (drM f (s0, K, V, R) k).1 7) (nbX (if k < 3 then (drM f (s0, K, V, R) k).1 else nbX (drM f (s0, K, V, R) k).1 7) 100))))), (jm, .inr (3, [.int th, .long sd, .long (rfX (shf (upd ((drM f (s0, K, V, R) k).2.1) (f + k) (if k < 3 then nI k else nbI (drM f (s0, K, V, R) k).1 7)) f) k (if k < 3 then nI k else nbI (drM f (s0, K, V, R) k).1 7) (nbX (if k < 3 then (drM f (s0, K, V, R) k).1 else nbX (drM f (s0, K, V, R) k).1 7) 100)), .int (nI n), .ref ik, .ref iv, .ref ir, .ref il, .ref iy, .ref ig])), (ik, .inl (dk, 86, .inl (upd ((drM f (s0, K, V, R) k).2.1) (f + k) (if k < 3 then nI k else nbI (drM f (s0, K, V, R) k).1 7))))] := hD
          refine lv_iinc (v := nI (k + 1)) (lv' := [(5, .int (nI (k + 1))), (6, .int (nI (f + k))), (0, .ref jm), (1, .long s0), (3, .int (nI f)), (4, .int (nI z))]) hx hb d_M_draws_74 hl (k := 5) rfl (nI_1 _) (by decide) rfl (fun ls hl => ?_)
          refine lv_goto (tgt := 8) hx hb d_M_draws_77 (by decide) ?_
          exact ih_8 (k + 1) (by omega) (by first | assumption | omega) _ _ (hP.sub (ws' := [(jm, .inr (3, [.int th, .long sd, .long ((drM f (s0, K, V, R) (k + 1)).1), .int (nI n), .ref ik, .ref iv, .ref ir, .ref il, .ref iy, .ref ig])), (ik, .inl (dk, 86, .inl ((drM f (s0, K, V, R) (k + 1)).2.1))), (iv, .inl (dv, 86, .inl ((drM f (s0, K, V, R) (k + 1)).2.2.1))), (ir, .inl (dr, 86, .inl ((drM f (s0, K, V, R) (k + 1)).2.2.2)))]) [2, 3, 0, 1] rfl) (hD.sub (ws' := [(jm, .inr (3, [.int th, .long sd, .long ((drM f (s0, K, V, R) (k + 1)).1), .int (nI n), .ref ik, .ref iv, .ref ir, .ref il, .ref iy, .ref ig])), (ik, .inl (dk, 86, .inl ((drM f (s0, K, V, R) (k + 1)).2.1))), (iv, .inl (dv, 86, .inl ((drM f (s0, K, V, R) (k + 1)).2.2.1))), (ir, .inl (dr, 86, .inl ((drM f (s0, K, V, R) (k + 1)).2.2.2)))]) [2, 3, 0, 1] (by decide) rfl) hS ls (lv_sub (l' := [(0, .ref jm), (1, .long s0), (3, .int (nI f)), (4, .int (nI z)), (5, .int (nI (k + 1)))]) hl [2, 3, 4, 5, 0] rfl)
  exact lp_8 ((z + 3 - 0) + 1) 0 (by omega) (by first | assumption | omega) _ _ (hP.sub (ws' := [(jm, .inr (3, [.int th, .long sd, .long ((drM f (s0, K, V, R) 0).1), .int (nI n), .ref ik, .ref iv, .ref ir, .ref il, .ref iy, .ref ig])), (ik, .inl (dk, 86, .inl ((drM f (s0, K, V, R) 0).2.1))), (iv, .inl (dv, 86, .inl ((drM f (s0, K, V, R) 0).2.2.1))), (ir, .inl (dr, 86, .inl ((drM f (s0, K, V, R) 0).2.2.2)))]) [0, 1, 2, 3] rfl) (hD.sub (ws' := [(jm, .inr (3, [.int th, .long sd, .long ((drM f (s0, K, V, R) 0).1), .int (nI n), .ref ik, .ref iv, .ref ir, .ref il, .ref iy, .ref ig])), (ik, .inl (dk, 86, .inl ((drM f (s0, K, V, R) 0).2.1))), (iv, .inl (dv, 86, .inl ((drM f (s0, K, V, R) 0).2.2.1))), (ir, .inl (dr, 86, .inl ((drM f (s0, K, V, R) 0).2.2.2)))]) [0, 1, 2, 3] (by decide) rfl) hS ls (lv_sub (l' := [(0, .ref jm), (1, .long s0), (3, .int (nI f)), (4, .int (nI z)), (5, .int (nI 0))]) hl [1, 2, 3, 4, 0] rfl)
set_option maxHeartbeats 4000000 in
set_option maxRecDepth 100000 in
/-- reference: all -/
theorem c_M_all (l : Launch) (dC : Nat → ClassId) (dI : Nat → Nat → Nat) (jm ik iv ir il iy ig : Nat) (n : Nat) (th : Int32) (sd tp : Int64) (dl : ClassId) (L : Nat → Bool) (hn : n ≤ 43) (sz : Nat) : Met l y_M_all w_M_all ({ frames := 0, cells := 0, slots := 0, locals := 0 }) (wr_P dC dI [.ref jm] [(jm, .inr (3, [.int th, .long sd, .long tp, .int (nI n), .ref ik, .ref iv, .ref ir, .ref il, .ref iy, .ref ig])), (il, .inl (dl, 43, .inl (bF L)))] [(dl, .boolean)] sz) (va_Qv (fun (_ : Unit) => True) (fun (u : Unit) => wr_B dC dI (va_A [(jm, .inr (3, [.int th, .long sd, .long tp, .int (nI n), .ref ik, .ref iv, .ref ir, .ref il, .ref iy, .ref ig])), (il, .inl (dl, 43, .inl (bF L)))] sz) [(jm, .inr (3, [.int th, .long sd, .long tp, .int (nI n), .ref ik, .ref iv, .ref ir, .ref il, .ref iy, .ref ig])), (il, .inl (dl, 43, .inl (bF (alF n 43 L))))] [(dl, .boolean)]) (va_A [(jm, .inr (3, [.int th, .long sd, .long tp, .int (nI n), .ref ik, .ref iv, .ref ir, .ref il, .ref iy, .ref ig])), (il, .inl (dl, 43, .inl (bF L)))] sz)) 0 0 (va_A [(jm, .inr (3, [.int th, .long sd, .long tp, .int (nI n), .ref ik, .ref iv, .ref ir, .ref il, .ref iy, .ref ig])), (il, .inl (dl, 43, .inl (bF L)))] sz) := by
  refine Met.ofW (cc := b_M_all) (maxL := 2) (ret := (Option.none : Option Jvm.ClassFile.FieldType)) (by decide) rfl ?_
  intro p e s m args below meth c s₁ B0 hml hv0
  obtain ⟨rfl, hsz, hP, hK, hD0, hN⟩ := hv0
  have hx := B0.exec
  have hb := B0.bytes
  have hr := B0.returns
  have hts := atoms_spec (ws := w_M_all) B0.pre
  have hown : s.vm.findClass R_M = some m.cls := findClass_of_methodNamed B0.named
  have hlocks := B0.notSynchronized
  subst hsz
  have hD := hD0.self (sz := s.heap.size)
  generalize hAe : va_A [(jm, .inr (3, [.int th, .long sd, .long tp, .int (nI n), .ref ik, .ref iv, .ref ir, .ref il, .ref iy, .ref ig])), (il, .inl (dl, 43, .inl (bF L)))] s.heap.size = A at hD ⊢
  have hA : ∀ q : Nat, s.heap.size ≤ q → A q := fun q h => by rw [← hAe]; exact Or.inr h
  have hS : va_S A s.heap s.heap [] := va_S.rf
  have hP : va_P (dC, dI) classes [(jm, .inr (3, [.int th, .long sd, .long tp, .int (nI n), .ref ik, .ref iv, .ref ir, .ref il, .ref iy, .ref ig])), (il, .inl (dl, 43, .inl (bF L)))] s.heap := hP
  have hl := lv_entry ([.ref jm]) (n := 2) (Nat.le_of_ble_eq_true rfl)
  rw [lg_entry_eq]
  generalize (lg_sl ([.ref jm]) ++ List.replicate (2 - (lg_sl ([.ref jm])).length) Slot.unset).toArray = ls at hl ⊢
  have hl : lv_has ls 2 [(0, .ref jm)] := hl
  refine lv_iconst (v := nI 0) hx hb d_M_all_0 (by decide +kernel) ?_
  refine lv_istore_n (lv' := [(1, .int (nI 0)), (0, .ref jm)]) hx hb d_M_all_1 rfl hl (by decide) rfl (fun ls hl => ?_)
  rw [show (bF L) = (bF (alF n 0 L)) from (congrArg bF (alF_0 n L).symm)] at hP hD
  have lp_2 : ∀ (k9_2 : Nat), ∀ (i : Nat), 43 - i < k9_2 → (i ≤ 43) → ∀ (H : Heap) (locs : List Loc), va_P (dC, dI) classes [(jm, .inr (3, [.int th, .long sd, .long tp, .int (nI n), .ref ik, .ref iv, .ref ir, .ref il, .ref iy, .ref ig])), (il, .inl (dl, 43, .inl (bF (alF n i L))))] H → va_D A [(jm, .inr (3, [.int th, .long sd, .long tp, .int (nI n), .ref ik, .ref iv, .ref ir, .ref il, .ref iy, .ref ig])), (il, .inl (dl, 43, .inl (bF (alF n i L))))] → va_S A s.heap H locs → ∀ (ls : Array Slot), lv_has ls 2 [(0, .ref jm), (1, .int (nI i))] → W p l e (headSpec w_M_all ({ frames := 0, cells := 0, slots := 0, locals := 0 })).room s m ([.ref jm]).toArray below meth c H locs 0 0 (MQ below (va_Qv (fun (_ : Unit) => True) (fun (u : Unit) => wr_B dC dI (A) [(jm, .inr (3, [.int th, .long sd, .long tp, .int (nI n), .ref ik, .ref iv, .ref ir, .ref il, .ref iy, .ref ig])), (il, .inl (dl, 43, .inl (bF (alF n 43 L))))] [(dl, .boolean)]) (A)) ([.ref jm]).toArray s 0 0 A) (F0 m 2 ls []) := by
    intro k9_2
    induction k9_2 with
    | zero =>
      intro i hk9
      exact absurd hk9 (Nat.not_lt_zero _)
    | succ k9_2 ih_2 =>
      intro i hk9_2 hi H locs hP hD hS ls hl
      refine lv_iload_n hx hb d_M_all_2 rfl (lv_at hl 1 rfl) ?_
      refine lv_bipush (v := nI 43) hx hb d_M_all_3 (by decide +kernel) ?_
      refine lv_icmp_ge (tgt := 33) hx hb d_M_all_5 (by decide) (fun c_5 => ?_) (fun c_5 => ?_)
      · skip
        have c_5 := (nI_leI (by omega) (by omega)).mp c_5
        rw [show i = 43 by omega] at hP hD
        have hP9 := hP.sub (ws' := [(jm, .inr (3, [.int th, .long sd, .long tp, .int (nI n), .ref ik, .ref iv, .ref ir, .ref il, .ref iy, .ref ig])), (il, .inl (dl, 43, .inl (bF (alF n 43 L))))]) [0, 1] rfl
        have hD9 := hD.sub (ws' := [(jm, .inr (3, [.int th, .long sd, .long tp, .int (nI n), .ref ik, .ref iv, .ref ir, .ref il, .ref iy, .ref ig])), (il, .inl (dl, 43, .inl (bF (alF n 43 L))))]) [0, 1] (by decide) rfl
        have hK9 := hK.sub (tys' := [(dl, .boolean)]) [0] rfl
        exact W.vret hx hb hr (fun t ht hW => ⟨⟨(), rfl, trivial, by rw [ht]; exact hP9, va_K.moved hW.alike hK9, hD9⟩, hS.F ht⟩) hS.2.2 d_M_all_33
      · skip
        have c_5 := (not_congr (nI_leI (by omega) (by omega))).mp c_5
        refine lv_aload_n hx hb d_M_all_8 rfl (lv_at hl 0 rfl) ?_
        refine va_get (D := (dC, dI)) (ci := 3) (v := .ref il) (C := R_M) (T := F_M) (N := 10) hx hb hts (lay_M _) hown hK hP 0 rfl rfl 7 (by decide) (hts _ (List.mem_cons_of_mem _ m_343)) (fun _ h9 => h9) rfl d_M_all_9 ?_
        refine lv_iload_n hx hb d_M_all_12 rfl (lv_at hl 1 rfl) ?_
        refine lv_iload_n hx hb d_M_all_13 rfl (lv_at hl 1 rfl) ?_
        refine lv_aload_n hx hb d_M_all_14 rfl (lv_at hl 0 rfl) ?_
        refine va_get (D := (dC, dI)) (ci := 3) (v := .int (nI n)) (C := R_M) (T := F_M) (N := 10) hx hb hts (lay_M _) hown hK hP 0 rfl rfl 3 (by decide) (hts _ (List.mem_cons_of_mem _ m_339)) (fun _ h9 => h9) rfl d_M_all_15 ?_
        refine lv_icmp_ge (tgt := 25) hx hb d_M_all_18 (by decide) (fun c_18 => ?_) (fun c_18 => ?_)
        · skip
          have c_18 := (nI_leI (by omega) (by omega)).mp c_18
          refine lv_iconst (v := nI 0) hx hb d_M_all_25 (by decide +kernel) ?_
          refine lv_topi (fun w_1 ew_1 => ?_)
          have ew_1 : (bI (decide (i < n))) = w_1 := (ew_1.trans (by rw [decide_eq_false (by omega)]; rfl)).symm
          subst ew_1
          refine va_zast hx hb hK hP hD hS 1 0 rfl rfl (vp_in_nI (by omega) (by omega)) d_M_all_26 (fun H locs hP hD hS => ?_)
          rw [nI_clamp (by omega)] at hP hD
          rw [bI_vp] at hP hD
          have hP : va_P (dC, dI) classes [(jm, .inr (3, [.int th, .long sd, .long tp, .int (nI n), .ref ik, .ref iv, .ref ir, .ref il, .ref iy, .ref ig])), (il, .inl (dl, 43, .inl (upd (bF (alF n i L)) i (bI (decide (i < n))))))] H := hP
          have hD : va_D A [(jm, .inr (3, [.int th, .long sd, .long tp, .int (nI n), .ref ik, .ref iv, .ref ir, .ref il, .ref iy, .ref ig])), (il, .inl (dl, 43, .inl (upd (bF (alF n i L)) i (bI (decide (i < n))))))] := hD
          rw [show (upd (bF (alF n i L)) i (bI (decide (i < n)))) = (bF (alF n (i + 1) L)) from ((bF_up _ _ _).trans (congrArg bF (alF_s n i L rfl)))] at hP hD
          refine lv_iinc (v := nI (i + 1)) (lv' := [(1, .int (nI (i + 1))), (0, .ref jm)]) hx hb d_M_all_27 hl (k := 1) rfl (nI_1 _) (by decide) rfl (fun ls hl => ?_)
          refine lv_goto (tgt := 2) hx hb d_M_all_30 (by decide) ?_
          exact ih_2 (i + 1) (by omega) (by first | assumption | omega) _ _ (hP.sub (ws' := [(jm, .inr (3, [.int th, .long sd, .long tp, .int (nI n), .ref ik, .ref iv, .ref ir, .ref il, .ref iy, .ref ig])), (il, .inl (dl, 43, .inl (bF (alF n (i + 1) L))))]) [0, 1] rfl) (hD.sub (ws' := [(jm, .inr (3, [.int th, .long sd, .long tp, .int (nI n), .ref ik, .ref iv, .ref ir, .ref il, .ref iy, .ref ig])), (il, .inl (dl, 43, .inl (bF (alF n (i + 1) L))))]) [0, 1] (by decide) rfl) hS ls (lv_sub (l' := [(0, .ref jm), (1, .int (nI (i + 1)))]) hl [1, 0] rfl)
        · skip
          have c_18 := (not_congr (nI_leI (by omega) (by omega))).mp c_18
          refine lv_iconst (v := nI 1) hx hb d_M_all_21 (by decide +kernel) ?_
          refine lv_topi (fun w_2 ew_2 => ?_)
          have ew_2 : (bI (decide (i < n))) = w_2 := (ew_2.trans (by rw [decide_eq_true (by omega)]; rfl)).symm
          subst ew_2
          refine lv_goto (tgt := 26) hx hb d_M_all_22 (by decide) ?_
          refine va_zast hx hb hK hP hD hS 1 0 rfl rfl (vp_in_nI (by omega) (by omega)) d_M_all_26 (fun H locs hP hD hS => ?_)
          rw [nI_clamp (by omega)] at hP hD
          rw [bI_vp] at hP hD
          have hP : va_P (dC, dI) classes [(jm, .inr (3, [.int th, .long sd, .long tp, .int (nI n), .ref ik, .ref iv, .ref ir, .ref il, .ref iy, .ref ig])), (il, .inl (dl, 43, .inl (upd (bF (alF n i L)) i (bI (decide (i < n))))))] H := hP
          have hD : va_D A [(jm, .inr (3, [.int th, .long sd, .long tp, .int (nI n), .ref ik, .ref iv, .ref ir, .ref il, .ref iy, .ref ig])), (il, .inl (dl, 43, .inl (upd (bF (alF n i L)) i (bI (decide (i < n))))))] := hD
          rw [show (upd (bF (alF n i L)) i (bI (decide (i < n)))) = (bF (alF n (i + 1) L)) from ((bF_up _ _ _).trans (congrArg bF (alF_s n i L rfl)))] at hP hD
          refine lv_iinc (v := nI (i + 1)) (lv' := [(1, .int (nI (i + 1))), (0, .ref jm)]) hx hb d_M_all_27 hl (k := 1) rfl (nI_1 _) (by decide) rfl (fun ls hl => ?_)
          refine lv_goto (tgt := 2) hx hb d_M_all_30 (by decide) ?_
          exact ih_2 (i + 1) (by omega) (by first | assumption | omega) _ _ (hP.sub (ws' := [(jm, .inr (3, [.int th, .long sd, .long tp, .int (nI n), .ref ik, .ref iv, .ref ir, .ref il, .ref iy, .ref ig])), (il, .inl (dl, 43, .inl (bF (alF n (i + 1) L))))]) [0, 1] rfl) (hD.sub (ws' := [(jm, .inr (3, [.int th, .long sd, .long tp, .int (nI n), .ref ik, .ref iv, .ref ir, .ref il, .ref iy, .ref ig])), (il, .inl (dl, 43, .inl (bF (alF n (i + 1) L))))]) [0, 1] (by decide) rfl) hS ls (lv_sub (l' := [(0, .ref jm), (1, .int (nI (i + 1)))]) hl [1, 0] rfl)
  exact lp_2 ((43 - 0) + 1) 0 (by omega) (by first | assumption | omega) _ _ (hP.sub (ws' := [(jm, .inr (3, [.int th, .long sd, .long tp, .int (nI n), .ref ik, .ref iv, .ref ir, .ref il, .ref iy, .ref ig])), (il, .inl (dl, 43, .inl (bF (alF n 0 L))))]) [0, 1] rfl) (hD.sub (ws' := [(jm, .inr (3, [.int th, .long sd, .long tp, .int (nI n), .ref ik, .ref iv, .ref ir, .ref il, .ref iy, .ref ig])), (il, .inl (dl, 43, .inl (bF (alF n 0 L))))]) [0, 1] (by decide) rfl) hS ls (lv_sub (l' := [(0, .ref jm), (1, .int (nI 0))]) hl [1, 0] rfl)
set_option maxHeartbeats 4000000 in
set_option maxRecDepth 100000 in
/-- reference: none -/
theorem c_M_none (l : Launch) (dC : Nat → ClassId) (dI : Nat → Nat → Nat) (jm ik iv ir il iy ig : Nat) (n : Nat) (th : Int32) (sd tp : Int64) (dg : ClassId) (G : Nat → Bool)  (sz : Nat) : Met l y_M_none w_M_none ({ frames := 0, cells := 0, slots := 0, locals := 0 }) (wr_P dC dI [.ref jm] [(jm, .inr (3, [.int th, .long sd, .long tp, .int (nI n), .ref ik, .ref iv, .ref ir, .ref il, .ref iy, .ref ig])), (ig, .inl (dg, 43, .inl (bF G)))] [(dg, .boolean)] sz) (va_Qv (fun (_ : Unit) => True) (fun (u : Unit) => wr_B dC dI (va_A [(jm, .inr (3, [.int th, .long sd, .long tp, .int (nI n), .ref ik, .ref iv, .ref ir, .ref il, .ref iy, .ref ig])), (ig, .inl (dg, 43, .inl (bF G)))] sz) [(jm, .inr (3, [.int th, .long sd, .long tp, .int (nI n), .ref ik, .ref iv, .ref ir, .ref il, .ref iy, .ref ig])), (ig, .inl (dg, 43, .inl (bF fF)))] [(dg, .boolean)]) (va_A [(jm, .inr (3, [.int th, .long sd, .long tp, .int (nI n), .ref ik, .ref iv, .ref ir, .ref il, .ref iy, .ref ig])), (ig, .inl (dg, 43, .inl (bF G)))] sz)) 0 0 (va_A [(jm, .inr (3, [.int th, .long sd, .long tp, .int (nI n), .ref ik, .ref iv, .ref ir, .ref il, .ref iy, .ref ig])), (ig, .inl (dg, 43, .inl (bF G)))] sz) := by
  refine Met.ofW (cc := b_M_none) (maxL := 2) (ret := (Option.none : Option Jvm.ClassFile.FieldType)) (by decide) rfl ?_
  intro p e s m args below meth c s₁ B0 hml hv0
  obtain ⟨rfl, hsz, hP, hK, hD0, hN⟩ := hv0
  have hx := B0.exec
  have hb := B0.bytes
  have hr := B0.returns
  have hts := atoms_spec (ws := w_M_none) B0.pre
  have hown : s.vm.findClass R_M = some m.cls := findClass_of_methodNamed B0.named
  have hlocks := B0.notSynchronized
  subst hsz
  have hD := hD0.self (sz := s.heap.size)
  generalize hAe : va_A [(jm, .inr (3, [.int th, .long sd, .long tp, .int (nI n), .ref ik, .ref iv, .ref ir, .ref il, .ref iy, .ref ig])), (ig, .inl (dg, 43, .inl (bF G)))] s.heap.size = A at hD ⊢
  have hA : ∀ q : Nat, s.heap.size ≤ q → A q := fun q h => by rw [← hAe]; exact Or.inr h
  have hS : va_S A s.heap s.heap [] := va_S.rf
  have hP : va_P (dC, dI) classes [(jm, .inr (3, [.int th, .long sd, .long tp, .int (nI n), .ref ik, .ref iv, .ref ir, .ref il, .ref iy, .ref ig])), (ig, .inl (dg, 43, .inl (bF G)))] s.heap := hP
  have hl := lv_entry ([.ref jm]) (n := 2) (Nat.le_of_ble_eq_true rfl)
  rw [lg_entry_eq]
  generalize (lg_sl ([.ref jm]) ++ List.replicate (2 - (lg_sl ([.ref jm])).length) Slot.unset).toArray = ls at hl ⊢
  have hl : lv_has ls 2 [(0, .ref jm)] := hl
  refine lv_iconst (v := nI 0) hx hb d_M_none_0 (by decide +kernel) ?_
  refine lv_istore_n (lv' := [(1, .int (nI 0)), (0, .ref jm)]) hx hb d_M_none_1 rfl hl (by decide) rfl (fun ls hl => ?_)
  rw [show (bF G) = (bF (nzF 0 G)) from (congrArg bF (nzF_0 G).symm)] at hP hD
  have lp_2 : ∀ (k9_2 : Nat), ∀ (i : Nat), 43 - i < k9_2 → (i ≤ 43) → ∀ (H : Heap) (locs : List Loc), va_P (dC, dI) classes [(jm, .inr (3, [.int th, .long sd, .long tp, .int (nI n), .ref ik, .ref iv, .ref ir, .ref il, .ref iy, .ref ig])), (ig, .inl (dg, 43, .inl (bF (nzF i G))))] H → va_D A [(jm, .inr (3, [.int th, .long sd, .long tp, .int (nI n), .ref ik, .ref iv, .ref ir, .ref il, .ref iy, .ref ig])), (ig, .inl (dg, 43, .inl (bF (nzF i G))))] → va_S A s.heap H locs → ∀ (ls : Array Slot), lv_has ls 2 [(0, .ref jm), (1, .int (nI i))] → W p l e (headSpec w_M_none ({ frames := 0, cells := 0, slots := 0, locals := 0 })).room s m ([.ref jm]).toArray below meth c H locs 0 0 (MQ below (va_Qv (fun (_ : Unit) => True) (fun (u : Unit) => wr_B dC dI (A) [(jm, .inr (3, [.int th, .long sd, .long tp, .int (nI n), .ref ik, .ref iv, .ref ir, .ref il, .ref iy, .ref ig])), (ig, .inl (dg, 43, .inl (bF fF)))] [(dg, .boolean)]) (A)) ([.ref jm]).toArray s 0 0 A) (F0 m 2 ls []) := by
    intro k9_2
    induction k9_2 with
    | zero =>
      intro i hk9
      exact absurd hk9 (Nat.not_lt_zero _)
    | succ k9_2 ih_2 =>
      intro i hk9_2 hi H locs hP hD hS ls hl
      refine lv_iload_n hx hb d_M_none_2 rfl (lv_at hl 1 rfl) ?_
      refine lv_bipush (v := nI 43) hx hb d_M_none_3 (by decide +kernel) ?_
      refine lv_icmp_ge (tgt := 21) hx hb d_M_none_5 (by decide) (fun c_5 => ?_) (fun c_5 => ?_)
      · skip
        have c_5 := (nI_leI (by omega) (by omega)).mp c_5
        rw [show i = 43 by omega] at hP hD
        have hP := ar_P hP 1 (g := bF fF) rfl (fun j hj => by unfold bF nzF fF; rw [if_pos hj])
        have hD := ar_D hD 1 (e' := .inl (dg, 43, .inl (bF fF))) rfl
        have hP : va_P (dC, dI) classes [(jm, .inr (3, [.int th, .long sd, .long tp, .int (nI n), .ref ik, .ref iv, .ref ir, .ref il, .ref iy, .ref ig])), (ig, .inl (dg, 43, .inl (bF fF)))] H := hP
        have hD : va_D A [(jm, .inr (3, [.int th, .long sd, .long tp, .int (nI n), .ref ik, .ref iv, .ref ir, .ref il, .ref iy, .ref ig])), (ig, .inl (dg, 43, .inl (bF fF)))] := hD
        have hP9 := hP.sub (ws' := [(jm, .inr (3, [.int th, .long sd, .long tp, .int (nI n), .ref ik, .ref iv, .ref ir, .ref il, .ref iy, .ref ig])), (ig, .inl (dg, 43, .inl (bF fF)))]) [0, 1] rfl
        have hD9 := hD.sub (ws' := [(jm, .inr (3, [.int th, .long sd, .long tp, .int (nI n), .ref ik, .ref iv, .ref ir, .ref il, .ref iy, .ref ig])), (ig, .inl (dg, 43, .inl (bF fF)))]) [0, 1] (by decide) rfl
        have hK9 := hK.sub (tys' := [(dg, .boolean)]) [0] rfl
        exact W.vret hx hb hr (fun t ht hW => ⟨⟨(), rfl, trivial, by rw [ht]; exact hP9, va_K.moved hW.alike hK9, hD9⟩, hS.F ht⟩) hS.2.2 d_M_none_21
      · skip
        have c_5 := (not_congr (nI_leI (by omega) (by omega))).mp c_5
        refine lv_aload_n hx hb d_M_none_8 rfl (lv_at hl 0 rfl) ?_
        refine va_get (D := (dC, dI)) (ci := 3) (v := .ref ig) (C := R_M) (T := F_M) (N := 10) hx hb hts (lay_M _) hown hK hP 0 rfl rfl 9 (by decide) (hts _ (List.mem_cons_of_mem _ m_345)) (fun _ h9 => h9) rfl d_M_none_9 ?_
        refine lv_iload_n hx hb d_M_none_12 rfl (lv_at hl 1 rfl) ?_
        refine lv_iconst (v := nI 0) hx hb d_M_none_13 (by decide +kernel) ?_
        refine lv_topi (fun w_1 ew_1 => ?_)
        have ew_1 : (bI false) = w_1 := (ew_1.trans (rfl)).symm
        subst ew_1
        refine va_zast hx hb hK hP hD hS 1 0 rfl rfl (vp_in_nI (by omega) (by omega)) d_M_none_14 (fun H locs hP hD hS => ?_)
        rw [nI_clamp (by omega)] at hP hD
        rw [bI_vp] at hP hD
        have hP : va_P (dC, dI) classes [(jm, .inr (3, [.int th, .long sd, .long tp, .int (nI n), .ref ik, .ref iv, .ref ir, .ref il, .ref iy, .ref ig])), (ig, .inl (dg, 43, .inl (upd (bF (nzF i G)) i (bI false))))] H := hP
        have hD : va_D A [(jm, .inr (3, [.int th, .long sd, .long tp, .int (nI n), .ref ik, .ref iv, .ref ir, .ref il, .ref iy, .ref ig])), (ig, .inl (dg, 43, .inl (upd (bF (nzF i G)) i (bI false))))] := hD
        rw [show (upd (bF (nzF i G)) i (bI false)) = (bF (nzF (i + 1) G)) from ((bF_up _ _ _).trans (congrArg bF (nzF_s i G)))] at hP hD
        refine lv_iinc (v := nI (i + 1)) (lv' := [(1, .int (nI (i + 1))), (0, .ref jm)]) hx hb d_M_none_15 hl (k := 1) rfl (nI_1 _) (by decide) rfl (fun ls hl => ?_)
        refine lv_goto (tgt := 2) hx hb d_M_none_18 (by decide) ?_
        exact ih_2 (i + 1) (by omega) (by first | assumption | omega) _ _ (hP.sub (ws' := [(jm, .inr (3, [.int th, .long sd, .long tp, .int (nI n), .ref ik, .ref iv, .ref ir, .ref il, .ref iy, .ref ig])), (ig, .inl (dg, 43, .inl (bF (nzF (i + 1) G))))]) [0, 1] rfl) (hD.sub (ws' := [(jm, .inr (3, [.int th, .long sd, .long tp, .int (nI n), .ref ik, .ref iv, .ref ir, .ref il, .ref iy, .ref ig])), (ig, .inl (dg, 43, .inl (bF (nzF (i + 1) G))))]) [0, 1] (by decide) rfl) hS ls (lv_sub (l' := [(0, .ref jm), (1, .int (nI (i + 1)))]) hl [1, 0] rfl)
  exact lp_2 ((43 - 0) + 1) 0 (by omega) (by first | assumption | omega) _ _ (hP.sub (ws' := [(jm, .inr (3, [.int th, .long sd, .long tp, .int (nI n), .ref ik, .ref iv, .ref ir, .ref il, .ref iy, .ref ig])), (ig, .inl (dg, 43, .inl (bF (nzF 0 G))))]) [0, 1] rfl) (hD.sub (ws' := [(jm, .inr (3, [.int th, .long sd, .long tp, .int (nI n), .ref ik, .ref iv, .ref ir, .ref il, .ref iy, .ref ig])), (ig, .inl (dg, 43, .inl (bF (nzF 0 G))))]) [0, 1] (by decide) rfl) hS ls (lv_sub (l' := [(0, .ref jm), (1, .int (nI 0))]) hl [1, 0] rfl)
set_option maxHeartbeats 4000000 in
set_option maxRecDepth 100000 in
/-- reference: leaves -/
theorem c_M_leaves (l : Launch) (dC : Nat → ClassId) (dI : Nat → Nat → Nat) (jm ik iv ir il iy ig : Nat) (n : Nat) (th : Int32) (sd tp : Int64) (dl dg : ClassId) (L G : Nat → Bool) (hn : n ≤ 43) (sz : Nat) : Met l y_M_leaves w_M_leaves ({ frames := 0, cells := 0, slots := 0, locals := 0 }) (wr_P dC dI [.ref jm] [(jm, .inr (3, [.int th, .long sd, .long tp, .int (nI n), .ref ik, .ref iv, .ref ir, .ref il, .ref iy, .ref ig])), (il, .inl (dl, 43, .inl (bF L))), (ig, .inl (dg, 43, .inl (bF G)))] [(dl, .boolean), (dg, .boolean)] sz) (va_Qv (fun (_ : Unit) => True) (fun (u : Unit) => wr_B dC dI (va_A [(jm, .inr (3, [.int th, .long sd, .long tp, .int (nI n), .ref ik, .ref iv, .ref ir, .ref il, .ref iy, .ref ig])), (il, .inl (dl, 43, .inl (bF L))), (ig, .inl (dg, 43, .inl (bF G)))] sz) [(jm, .inr (3, [.int th, .long sd, .long tp, .int (nI n), .ref ik, .ref iv, .ref ir, .ref il, .ref iy, .ref ig])), (il, .inl (dl, 43, .inl (bF (lvF n L G)))), (ig, .inl (dg, 43, .inl (bF G)))] [(dl, .boolean), (dg, .boolean)]) (va_A [(jm, .inr (3, [.int th, .long sd, .long tp, .int (nI n), .ref ik, .ref iv, .ref ir, .ref il, .ref iy, .ref ig])), (il, .inl (dl, 43, .inl (bF L))), (ig, .inl (dg, 43, .inl (bF G)))] sz)) 0 0 (va_A [(jm, .inr (3, [.int th, .long sd, .long tp, .int (nI n), .ref ik, .ref iv, .ref ir, .ref il, .ref iy, .ref ig])), (il, .inl (dl, 43, .inl (bF L))), (ig, .inl (dg, 43, .inl (bF G)))] sz) := by
  refine Met.ofW (cc := b_M_leaves) (maxL := 2) (ret := (Option.none : Option Jvm.ClassFile.FieldType)) (by decide) rfl ?_
  intro p e s m args below meth c s₁ B0 hml hv0
  obtain ⟨rfl, hsz, hP, hK, hD0, hN⟩ := hv0
  have hx := B0.exec
  have hb := B0.bytes
  have hr := B0.returns
  have hts := atoms_spec (ws := w_M_leaves) B0.pre
  have hown : s.vm.findClass R_M = some m.cls := findClass_of_methodNamed B0.named
  have hlocks := B0.notSynchronized
  subst hsz
  have hD := hD0.self (sz := s.heap.size)
  generalize hAe : va_A [(jm, .inr (3, [.int th, .long sd, .long tp, .int (nI n), .ref ik, .ref iv, .ref ir, .ref il, .ref iy, .ref ig])), (il, .inl (dl, 43, .inl (bF L))), (ig, .inl (dg, 43, .inl (bF G)))] s.heap.size = A at hD ⊢
  have hA : ∀ q : Nat, s.heap.size ≤ q → A q := fun q h => by rw [← hAe]; exact Or.inr h
  have hS : va_S A s.heap s.heap [] := va_S.rf
  have hP : va_P (dC, dI) classes [(jm, .inr (3, [.int th, .long sd, .long tp, .int (nI n), .ref ik, .ref iv, .ref ir, .ref il, .ref iy, .ref ig])), (il, .inl (dl, 43, .inl (bF L))), (ig, .inl (dg, 43, .inl (bF G)))] s.heap := hP
  have hl := lv_entry ([.ref jm]) (n := 2) (Nat.le_of_ble_eq_true rfl)
  rw [lg_entry_eq]
  generalize (lg_sl ([.ref jm]) ++ List.replicate (2 - (lg_sl ([.ref jm])).length) Slot.unset).toArray = ls at hl ⊢
  have hl : lv_has ls 2 [(0, .ref jm)] := hl
  refine lv_iconst (v := nI 0) hx hb d_M_leaves_0 (by decide +kernel) ?_
  refine lv_istore_n (lv' := [(1, .int (nI 0)), (0, .ref jm)]) hx hb d_M_leaves_1 rfl hl (by decide) rfl (fun ls hl => ?_)
  rw [show (bF L) = (bF (lvF 0 L G)) from (congrArg bF (lvF_0 L G).symm)] at hP hD
  have lp_2 : ∀ (k9_2 : Nat), ∀ (i : Nat), n - i < k9_2 → (i ≤ n) → ∀ (H : Heap) (locs : List Loc), va_P (dC, dI) classes [(jm, .inr (3, [.int th, .long sd, .long tp, .int (nI n), .ref ik, .ref iv, .ref ir, .ref il, .ref iy, .ref ig])), (il, .inl (dl, 43, .inl (bF (lvF i L G)))), (ig, .inl (dg, 43, .inl (bF G)))] H → va_D A [(jm, .inr (3, [.int th, .long sd, .long tp, .int (nI n), .ref ik, .ref iv, .ref ir, .ref il, .ref iy, .ref ig])), (il, .inl (dl, 43, .inl (bF (lvF i L G)))), (ig, .inl (dg, 43, .inl (bF G)))] → va_S A s.heap H locs → ∀ (ls : Array Slot), lv_has ls 2 [(0, .ref jm), (1, .int (nI i))] → W p l e (headSpec w_M_leaves ({ frames := 0, cells := 0, slots := 0, locals := 0 })).room s m ([.ref jm]).toArray below meth c H locs 0 0 (MQ below (va_Qv (fun (_ : Unit) => True) (fun (u : Unit) => wr_B dC dI (A) [(jm, .inr (3, [.int th, .long sd, .long tp, .int (nI n), .ref ik, .ref iv, .ref ir, .ref il, .ref iy, .ref ig])), (il, .inl (dl, 43, .inl (bF (lvF n L G)))), (ig, .inl (dg, 43, .inl (bF G)))] [(dl, .boolean), (dg, .boolean)]) (A)) ([.ref jm]).toArray s 0 0 A) (F0 m 2 ls []) := by
    intro k9_2
    induction k9_2 with
    | zero =>
      intro i hk9
      exact absurd hk9 (Nat.not_lt_zero _)
    | succ k9_2 ih_2 =>
      intro i hk9_2 hi H locs hP hD hS ls hl
      refine lv_iload_n hx hb d_M_leaves_2 rfl (lv_at hl 1 rfl) ?_
      refine lv_aload_n hx hb d_M_leaves_3 rfl (lv_at hl 0 rfl) ?_
      refine va_get (D := (dC, dI)) (ci := 3) (v := .int (nI n)) (C := R_M) (T := F_M) (N := 10) hx hb hts (lay_M _) hown hK hP 0 rfl rfl 3 (by decide) (hts _ (List.mem_cons_of_mem _ m_339)) (fun _ h9 => h9) rfl d_M_leaves_4 ?_
      refine lv_icmp_ge (tgt := 45) hx hb d_M_leaves_7 (by decide) (fun c_7 => ?_) (fun c_7 => ?_)
      · skip
        have c_7 := (nI_leI (by omega) (by omega)).mp c_7
        rw [show i = n by omega] at hP hD
        have hP9 := hP.sub (ws' := [(jm, .inr (3, [.int th, .long sd, .long tp, .int (nI n), .ref ik, .ref iv, .ref ir, .ref il, .ref iy, .ref ig])), (il, .inl (dl, 43, .inl (bF (lvF n L G)))), (ig, .inl (dg, 43, .inl (bF G)))]) [0, 1, 2] rfl
        have hD9 := hD.sub (ws' := [(jm, .inr (3, [.int th, .long sd, .long tp, .int (nI n), .ref ik, .ref iv, .ref ir, .ref il, .ref iy, .ref ig])), (il, .inl (dl, 43, .inl (bF (lvF n L G)))), (ig, .inl (dg, 43, .inl (bF G)))]) [0, 1, 2] (by decide) rfl
        have hK9 := hK.sub (tys' := [(dl, .boolean), (dg, .boolean)]) [0, 1] rfl
        exact W.vret hx hb hr (fun t ht hW => ⟨⟨(), rfl, trivial, by rw [ht]; exact hP9, va_K.moved hW.alike hK9, hD9⟩, hS.F ht⟩) hS.2.2 d_M_leaves_45
      · skip
        have c_7 := (not_congr (nI_leI (by omega) (by omega))).mp c_7
        refine lv_aload_n hx hb d_M_leaves_10 rfl (lv_at hl 0 rfl) ?_
        refine va_get (D := (dC, dI)) (ci := 3) (v := .ref il) (C := R_M) (T := F_M) (N := 10) hx hb hts (lay_M _) hown hK hP 0 rfl rfl 7 (by decide) (hts _ (List.mem_cons_of_mem _ m_343)) (fun _ h9 => h9) rfl d_M_leaves_11 ?_
        refine lv_iload_n hx hb d_M_leaves_14 rfl (lv_at hl 1 rfl) ?_
        refine lv_aload_n hx hb d_M_leaves_15 rfl (lv_at hl 0 rfl) ?_
        refine va_get (D := (dC, dI)) (ci := 3) (v := .ref il) (C := R_M) (T := F_M) (N := 10) hx hb hts (lay_M _) hown hK hP 0 rfl rfl 7 (by decide) (hts _ (List.mem_cons_of_mem _ m_343)) (fun _ h9 => h9) rfl d_M_leaves_16 ?_
        refine lv_iload_n hx hb d_M_leaves_19 rfl (lv_at hl 1 rfl) ?_
        refine va_zald hx hb hK hP 1 0 rfl rfl (vp_in_nI (by omega) (by omega)) d_M_leaves_20 ?_
        refine lv_topi (fun w_1 ew_1 => ?_)
        have ew_1 : (bI (L i)) = w_1 := (ew_1.trans (by rw [nI_clamp (by omega)]; show bI (lvF i L G i) = _; rw [lvF_at])).symm
        subst ew_1
        refine lv_if_eq (tgt := 37) hx hb d_M_leaves_21 (by decide) (fun c_21 => ?_) (fun c_21 => ?_)
        · skip
          have c_21 := bI_f c_21
          refine lv_iconst (v := nI 0) hx hb d_M_leaves_37 (by decide +kernel) ?_
          refine lv_topi (fun w_2 ew_2 => ?_)
          have ew_2 : (bI (L i && !G i)) = w_2 := (ew_2.trans (by first | (rw [c_21]; rfl) | (rw [c_30, c_21]; rfl))).symm
          subst ew_2
          refine va_zast hx hb hK hP hD hS 1 0 rfl rfl (vp_in_nI (by omega) (by omega)) d_M_leaves_38 (fun H locs hP hD hS => ?_)
          rw [nI_clamp (by omega)] at hP hD
          rw [bI_vp] at hP hD
          have hP : va_P (dC, dI) classes [(jm, .inr (3, [.int th, .long sd, .long tp, .int (nI n), .ref ik, .ref iv, .ref ir, .ref il, .ref iy, .ref ig])), (il, .inl (dl, 43, .inl (upd (bF (lvF i L G)) i (bI (L i && !G i))))), (ig, .inl (dg, 43, .inl (bF G)))] H := hP
          have hD : va_D A [(jm, .inr (3, [.int th, .long sd, .long tp, .int (nI n), .ref ik, .ref iv, .ref ir, .ref il, .ref iy, .ref ig])), (il, .inl (dl, 43, .inl (upd (bF (lvF i L G)) i (bI (L i && !G i))))), (ig, .inl (dg, 43, .inl (bF G)))] := hD
          rw [show (upd (bF (lvF i L G)) i (bI (L i && !G i))) = (bF (lvF (i + 1) L G)) from ((bF_up _ _ _).trans (congrArg bF (lvF_s i L G rfl)))] at hP hD
          refine lv_iinc (v := nI (i + 1)) (lv' := [(1, .int (nI (i + 1))), (0, .ref jm)]) hx hb d_M_leaves_39 hl (k := 1) rfl (nI_1 _) (by decide) rfl (fun ls hl => ?_)
          refine lv_goto (tgt := 2) hx hb d_M_leaves_42 (by decide) ?_
          exact ih_2 (i + 1) (by omega) (by first | assumption | omega) _ _ (hP.sub (ws' := [(jm, .inr (3, [.int th, .long sd, .long tp, .int (nI n), .ref ik, .ref iv, .ref ir, .ref il, .ref iy, .ref ig])), (il, .inl (dl, 43, .inl (bF (lvF (i + 1) L G)))), (ig, .inl (dg, 43, .inl (bF G)))]) [0, 1, 2] rfl) (hD.sub (ws' := [(jm, .inr (3, [.int th, .long sd, .long tp, .int (nI n), .ref ik, .ref iv, .ref ir, .ref il, .ref iy, .ref ig])), (il, .inl (dl, 43, .inl (bF (lvF (i + 1) L G)))), (ig, .inl (dg, 43, .inl (bF G)))]) [0, 1, 2] (by decide) rfl) hS ls (lv_sub (l' := [(0, .ref jm), (1, .int (nI (i + 1)))]) hl [1, 0] rfl)
        · skip
          have c_21 := bI_t c_21
          refine lv_aload_n hx hb d_M_leaves_24 rfl (lv_at hl 0 rfl) ?_
          refine va_get (D := (dC, dI)) (ci := 3) (v := .ref ig) (C := R_M) (T := F_M) (N := 10) hx hb hts (lay_M _) hown hK hP 0 rfl rfl 9 (by decide) (hts _ (List.mem_cons_of_mem _ m_345)) (fun _ h9 => h9) rfl d_M_leaves_25 ?_
          refine lv_iload_n hx hb d_M_leaves_28 rfl (lv_at hl 1 rfl) ?_
          refine va_zald hx hb hK hP 2 1 rfl rfl (vp_in_nI (by omega) (by omega)) d_M_leaves_29 ?_
          refine lv_topi (fun w_3 ew_3 => ?_)
          have ew_3 : (bI (G i)) = w_3 := (ew_3.trans (by rw [nI_clamp (by omega)]; rfl)).symm
          subst ew_3
          refine lv_if_ne (tgt := 37) hx hb d_M_leaves_30 (by decide) (fun c_30 => ?_) (fun c_30 => ?_)
          · skip
            have c_30 := bI_t c_30
            refine lv_iconst (v := nI 0) hx hb d_M_leaves_37 (by decide +kernel) ?_
            refine lv_topi (fun w_4 ew_4 => ?_)
            have ew_4 : (bI (L i && !G i)) = w_4 := (ew_4.trans (by first | (rw [c_21]; rfl) | (rw [c_30, c_21]; rfl))).symm
            subst ew_4
            refine va_zast hx hb hK hP hD hS 1 0 rfl rfl (vp_in_nI (by omega) (by omega)) d_M_leaves_38 (fun H locs hP hD hS => ?_)
            rw [nI_clamp (by omega)] at hP hD
            rw [bI_vp] at hP hD
            have hP : va_P (dC, dI) classes [(jm, .inr (3, [.int th, .long sd, .long tp, .int (nI n), .ref ik, .ref iv, .ref ir, .ref il, .ref iy, .ref ig])), (il, .inl (dl, 43, .inl (upd (bF (lvF i L G)) i (bI (L i && !G i))))), (ig, .inl (dg, 43, .inl (bF G)))] H := hP
            have hD : va_D A [(jm, .inr (3, [.int th, .long sd, .long tp, .int (nI n), .ref ik, .ref iv, .ref ir, .ref il, .ref iy, .ref ig])), (il, .inl (dl, 43, .inl (upd (bF (lvF i L G)) i (bI (L i && !G i))))), (ig, .inl (dg, 43, .inl (bF G)))] := hD
            rw [show (upd (bF (lvF i L G)) i (bI (L i && !G i))) = (bF (lvF (i + 1) L G)) from ((bF_up _ _ _).trans (congrArg bF (lvF_s i L G rfl)))] at hP hD
            refine lv_iinc (v := nI (i + 1)) (lv' := [(1, .int (nI (i + 1))), (0, .ref jm)]) hx hb d_M_leaves_39 hl (k := 1) rfl (nI_1 _) (by decide) rfl (fun ls hl => ?_)
            refine lv_goto (tgt := 2) hx hb d_M_leaves_42 (by decide) ?_
            exact ih_2 (i + 1) (by omega) (by first | assumption | omega) _ _ (hP.sub (ws' := [(jm, .inr (3, [.int th, .long sd, .long tp, .int (nI n), .ref ik, .ref iv, .ref ir, .ref il, .ref iy, .ref ig])), (il, .inl (dl, 43, .inl (bF (lvF (i + 1) L G)))), (ig, .inl (dg, 43, .inl (bF G)))]) [0, 1, 2] rfl) (hD.sub (ws' := [(jm, .inr (3, [.int th, .long sd, .long tp, .int (nI n), .ref ik, .ref iv, .ref ir, .ref il, .ref iy, .ref ig])), (il, .inl (dl, 43, .inl (bF (lvF (i + 1) L G)))), (ig, .inl (dg, 43, .inl (bF G)))]) [0, 1, 2] (by decide) rfl) hS ls (lv_sub (l' := [(0, .ref jm), (1, .int (nI (i + 1)))]) hl [1, 0] rfl)
          · skip
            have c_30 := bI_f c_30
            refine lv_iconst (v := nI 1) hx hb d_M_leaves_33 (by decide +kernel) ?_
            refine lv_topi (fun w_5 ew_5 => ?_)
            have ew_5 : (bI (L i && !G i)) = w_5 := (ew_5.trans (by rw [c_21, c_30]; rfl)).symm
            subst ew_5
            refine lv_goto (tgt := 38) hx hb d_M_leaves_34 (by decide) ?_
            refine va_zast hx hb hK hP hD hS 1 0 rfl rfl (vp_in_nI (by omega) (by omega)) d_M_leaves_38 (fun H locs hP hD hS => ?_)
            rw [nI_clamp (by omega)] at hP hD
            rw [bI_vp] at hP hD
            have hP : va_P (dC, dI) classes [(jm, .inr (3, [.int th, .long sd, .long tp, .int (nI n), .ref ik, .ref iv, .ref ir, .ref il, .ref iy, .ref ig])), (il, .inl (dl, 43, .inl (upd (bF (lvF i L G)) i (bI (L i && !G i))))), (ig, .inl (dg, 43, .inl (bF G)))] H := hP
            have hD : va_D A [(jm, .inr (3, [.int th, .long sd, .long tp, .int (nI n), .ref ik, .ref iv, .ref ir, .ref il, .ref iy, .ref ig])), (il, .inl (dl, 43, .inl (upd (bF (lvF i L G)) i (bI (L i && !G i))))), (ig, .inl (dg, 43, .inl (bF G)))] := hD
            rw [show (upd (bF (lvF i L G)) i (bI (L i && !G i))) = (bF (lvF (i + 1) L G)) from ((bF_up _ _ _).trans (congrArg bF (lvF_s i L G rfl)))] at hP hD
            refine lv_iinc (v := nI (i + 1)) (lv' := [(1, .int (nI (i + 1))), (0, .ref jm)]) hx hb d_M_leaves_39 hl (k := 1) rfl (nI_1 _) (by decide) rfl (fun ls hl => ?_)
            refine lv_goto (tgt := 2) hx hb d_M_leaves_42 (by decide) ?_
            exact ih_2 (i + 1) (by omega) (by first | assumption | omega) _ _ (hP.sub (ws' := [(jm, .inr (3, [.int th, .long sd, .long tp, .int (nI n), .ref ik, .ref iv, .ref ir, .ref il, .ref iy, .ref ig])), (il, .inl (dl, 43, .inl (bF (lvF (i + 1) L G)))), (ig, .inl (dg, 43, .inl (bF G)))]) [0, 1, 2] rfl) (hD.sub (ws' := [(jm, .inr (3, [.int th, .long sd, .long tp, .int (nI n), .ref ik, .ref iv, .ref ir, .ref il, .ref iy, .ref ig])), (il, .inl (dl, 43, .inl (bF (lvF (i + 1) L G)))), (ig, .inl (dg, 43, .inl (bF G)))]) [0, 1, 2] (by decide) rfl) hS ls (lv_sub (l' := [(0, .ref jm), (1, .int (nI (i + 1)))]) hl [1, 0] rfl)
  exact lp_2 ((n - 0) + 1) 0 (by omega) (by first | assumption | omega) _ _ (hP.sub (ws' := [(jm, .inr (3, [.int th, .long sd, .long tp, .int (nI n), .ref ik, .ref iv, .ref ir, .ref il, .ref iy, .ref ig])), (il, .inl (dl, 43, .inl (bF (lvF 0 L G)))), (ig, .inl (dg, 43, .inl (bF G)))]) [0, 1, 2] rfl) (hD.sub (ws' := [(jm, .inr (3, [.int th, .long sd, .long tp, .int (nI n), .ref ik, .ref iv, .ref ir, .ref il, .ref iy, .ref ig])), (il, .inl (dl, 43, .inl (bF (lvF 0 L G)))), (ig, .inl (dg, 43, .inl (bF G)))]) [0, 1, 2] (by decide) rfl) hS ls (lv_sub (l' := [(0, .ref jm), (1, .int (nI 0))]) hl [1, 0] rfl)
end
section
theorem m_430 : (Jvm.Cond.code ({ cls := "PortDrawerModel", name := "none", desc := "()V" } : Jvm.MethodName) prog_5_method_17_code (2 : Nat) (Option.none : Option Jvm.ClassFile.FieldType)) ∈ tblG := m_t (i := 430) rfl rfl
theorem ms_28 : Cond.selects "PortDrawerModel" ⟨"PortDrawerModel", "none", "()V"⟩ ⟨"PortDrawerModel", "none", "()V"⟩ ∈ tblG := m_s (i := 28) rfl rfl
theorem m_427 : (Jvm.Cond.methodLink "PortDrawerModel" (80 : Nat) ({ cls := "PortDrawerModel", name := "none", desc := "()V" } : Jvm.MethodName)) ∈ tblG := m_t (i := 427) rfl rfl
theorem m_429 : (Jvm.Cond.instanceMethod ({ cls := "PortDrawerModel", name := "none", desc := "()V" } : Jvm.MethodName)) ∈ tblG := m_t (i := 429) rfl rfl
theorem m_418 : (Jvm.Cond.code ({ cls := "PortDrawerModel", name := "isFit", desc := "(I)Z" } : Jvm.MethodName) prog_5_method_13_code (2 : Nat) (Option.some Jvm.ClassFile.FieldType.boolean)) ∈ tblG := m_t (i := 418) rfl rfl
theorem ms_27 : Cond.selects "PortDrawerModel" ⟨"PortDrawerModel", "isFit", "(I)Z"⟩ ⟨"PortDrawerModel", "isFit", "(I)Z"⟩ ∈ tblG := m_s (i := 27) rfl rfl
theorem m_415 : (Jvm.Cond.methodLink "PortDrawerModel" (77 : Nat) ({ cls := "PortDrawerModel", name := "isFit", desc := "(I)Z" } : Jvm.MethodName)) ∈ tblG := m_t (i := 415) rfl rfl
theorem m_417 : (Jvm.Cond.instanceMethod ({ cls := "PortDrawerModel", name := "isFit", desc := "(I)Z" } : Jvm.MethodName)) ∈ tblG := m_t (i := 417) rfl rfl
theorem m_450 : (Jvm.Cond.code ({ cls := "PortDrawerModel", name := "marks", desc := "(I)I" } : Jvm.MethodName) prog_5_method_18_code (4 : Nat) (Option.some Jvm.ClassFile.FieldType.int)) ∈ tblG := m_t (i := 450) rfl rfl
theorem ms_32 : Cond.selects "PortDrawerModel" ⟨"PortDrawerModel", "marks", "(I)I"⟩ ⟨"PortDrawerModel", "marks", "(I)I"⟩ ∈ tblG := m_s (i := 32) rfl rfl
theorem m_447 : (Jvm.Cond.methodLink "PortDrawerModel" (87 : Nat) ({ cls := "PortDrawerModel", name := "marks", desc := "(I)I" } : Jvm.MethodName)) ∈ tblG := m_t (i := 447) rfl rfl
theorem m_449 : (Jvm.Cond.instanceMethod ({ cls := "PortDrawerModel", name := "marks", desc := "(I)I" } : Jvm.MethodName)) ∈ tblG := m_t (i := 449) rfl rfl
theorem m_454 : (Jvm.Cond.code ({ cls := "PortDrawerModel", name := "many", desc := "()I" } : Jvm.MethodName) prog_5_method_19_code (3 : Nat) (Option.some Jvm.ClassFile.FieldType.int)) ∈ tblG := m_t (i := 454) rfl rfl
theorem ms_33 : Cond.selects "PortDrawerModel" ⟨"PortDrawerModel", "many", "()I"⟩ ⟨"PortDrawerModel", "many", "()I"⟩ ∈ tblG := m_s (i := 33) rfl rfl
theorem m_451 : (Jvm.Cond.methodLink "PortDrawerModel" (90 : Nat) ({ cls := "PortDrawerModel", name := "many", desc := "()I" } : Jvm.MethodName)) ∈ tblG := m_t (i := 451) rfl rfl
theorem m_453 : (Jvm.Cond.instanceMethod ({ cls := "PortDrawerModel", name := "many", desc := "()I" } : Jvm.MethodName)) ∈ tblG := m_t (i := 453) rfl rfl
theorem m_344 : (Jvm.Cond.fieldLink "PortDrawerModel" (23 : Nat) "PortDrawerModel" "stays" "[Z") ∈ tblG := m_t (i := 344) rfl rfl
theorem m_434 : (Jvm.Cond.code ({ cls := "PortDrawerModel", name := "judged", desc := "()I" } : Jvm.MethodName) prog_5_method_16_code (3 : Nat) (Option.some Jvm.ClassFile.FieldType.int)) ∈ tblG := m_t (i := 434) rfl rfl
theorem ms_29 : Cond.selects "PortDrawerModel" ⟨"PortDrawerModel", "judged", "()I"⟩ ⟨"PortDrawerModel", "judged", "()I"⟩ ∈ tblG := m_s (i := 29) rfl rfl
theorem m_431 : (Jvm.Cond.methodLink "PortDrawerModel" (83 : Nat) ({ cls := "PortDrawerModel", name := "judged", desc := "()I" } : Jvm.MethodName)) ∈ tblG := m_t (i := 431) rfl rfl
theorem m_433 : (Jvm.Cond.instanceMethod ({ cls := "PortDrawerModel", name := "judged", desc := "()I" } : Jvm.MethodName)) ∈ tblG := m_t (i := 433) rfl rfl
theorem m_446 : (Jvm.Cond.code ({ cls := "PortDrawerModel", name := "mayGo", desc := "(I)Z" } : Jvm.MethodName) prog_5_method_21_code (2 : Nat) (Option.some Jvm.ClassFile.FieldType.boolean)) ∈ tblG := m_t (i := 446) rfl rfl
theorem ms_31 : Cond.selects "PortDrawerModel" ⟨"PortDrawerModel", "mayGo", "(I)Z"⟩ ⟨"PortDrawerModel", "mayGo", "(I)Z"⟩ ∈ tblG := m_s (i := 31) rfl rfl
theorem m_443 : (Jvm.Cond.methodLink "PortDrawerModel" (93 : Nat) ({ cls := "PortDrawerModel", name := "mayGo", desc := "(I)Z" } : Jvm.MethodName)) ∈ tblG := m_t (i := 443) rfl rfl
theorem m_445 : (Jvm.Cond.instanceMethod ({ cls := "PortDrawerModel", name := "mayGo", desc := "(I)Z" } : Jvm.MethodName)) ∈ tblG := m_t (i := 445) rfl rfl
theorem d_M_marks_0 : decode b_M_marks 0 = .ok (.aload_n 0, 1) := by decide +kernel
theorem d_M_marks_1 : decode b_M_marks 1 = .ok (.invokevirtual 80, 3) := by decide +kernel
theorem d_M_marks_4 : decode b_M_marks 4 = .ok (.iconst 0, 1) := by decide +kernel
theorem d_M_marks_5 : decode b_M_marks 5 = .ok (.istore_n 2, 1) := by decide +kernel
theorem d_M_marks_6 : decode b_M_marks 6 = .ok (.iload_n 1, 1) := by decide +kernel
theorem d_M_marks_7 : decode b_M_marks 7 = .ok (.istore_n 3, 1) := by decide +kernel
theorem d_M_marks_8 : decode b_M_marks 8 = .ok (.iload_n 3, 1) := by decide +kernel
theorem d_M_marks_9 : decode b_M_marks 9 = .ok (.aload_n 0, 1) := by decide +kernel
theorem d_M_marks_10 : decode b_M_marks 10 = .ok (.getfield 37, 3) := by decide +kernel
theorem d_M_marks_13 : decode b_M_marks 13 = .ok (.if_icmp .ge 89, 3) := by decide +kernel
theorem d_M_marks_16 : decode b_M_marks 16 = .ok (.aload_n 0, 1) := by decide +kernel
theorem d_M_marks_17 : decode b_M_marks 17 = .ok (.getfield 26, 3) := by decide +kernel
theorem d_M_marks_20 : decode b_M_marks 20 = .ok (.iload_n 3, 1) := by decide +kernel
theorem d_M_marks_21 : decode b_M_marks 21 = .ok (.iload_n 3, 1) := by decide +kernel
theorem d_M_marks_22 : decode b_M_marks 22 = .ok (.iload_n 1, 1) := by decide +kernel
theorem d_M_marks_23 : decode b_M_marks 23 = .ok (.if_icmp .eq 50, 3) := by decide +kernel
theorem d_M_marks_26 : decode b_M_marks 26 = .ok (.aload_n 0, 1) := by decide +kernel
theorem d_M_marks_27 : decode b_M_marks 27 = .ok (.getfield 19, 3) := by decide +kernel
theorem d_M_marks_30 : decode b_M_marks 30 = .ok (.iload_n 3, 1) := by decide +kernel
theorem d_M_marks_31 : decode b_M_marks 31 = .ok (.baload, 1) := by decide +kernel
theorem d_M_marks_32 : decode b_M_marks 32 = .ok (.ifCond .eq 45, 3) := by decide +kernel
theorem d_M_marks_35 : decode b_M_marks 35 = .ok (.aload_n 0, 1) := by decide +kernel
theorem d_M_marks_36 : decode b_M_marks 36 = .ok (.getfield 16, 3) := by decide +kernel
theorem d_M_marks_39 : decode b_M_marks 39 = .ok (.iload_n 3, 1) := by decide +kernel
theorem d_M_marks_40 : decode b_M_marks 40 = .ok (.iaload, 1) := by decide +kernel
theorem d_M_marks_41 : decode b_M_marks 41 = .ok (.iconst (-1), 1) := by decide +kernel
theorem d_M_marks_42 : decode b_M_marks 42 = .ok (.if_icmp .eq 35, 3) := by decide +kernel
theorem d_M_marks_45 : decode b_M_marks 45 = .ok (.aload_n 0, 1) := by decide +kernel
theorem d_M_marks_46 : decode b_M_marks 46 = .ok (.getfield 26, 3) := by decide +kernel
theorem d_M_marks_49 : decode b_M_marks 49 = .ok (.aload_n 0, 1) := by decide +kernel
theorem d_M_marks_50 : decode b_M_marks 50 = .ok (.getfield 16, 3) := by decide +kernel
theorem d_M_marks_53 : decode b_M_marks 53 = .ok (.iload_n 3, 1) := by decide +kernel
theorem d_M_marks_54 : decode b_M_marks 54 = .ok (.iaload, 1) := by decide +kernel
theorem d_M_marks_55 : decode b_M_marks 55 = .ok (.iconst (-1), 1) := by decide +kernel
theorem d_M_marks_56 : decode b_M_marks 56 = .ok (.if_icmp .ne 7, 3) := by decide +kernel
theorem d_M_marks_63 : decode b_M_marks 63 = .ok (.aload_n 0, 1) := by decide +kernel
theorem d_M_marks_64 : decode b_M_marks 64 = .ok (.getfield 16, 3) := by decide +kernel
theorem d_M_marks_67 : decode b_M_marks 67 = .ok (.iload_n 3, 1) := by decide +kernel
theorem d_M_marks_68 : decode b_M_marks 68 = .ok (.iaload, 1) := by decide +kernel
theorem d_M_marks_69 : decode b_M_marks 69 = .ok (.baload, 1) := by decide +kernel
theorem d_M_marks_70 : decode b_M_marks 70 = .ok (.ifCond .eq 7, 3) := by decide +kernel
theorem d_M_marks_73 : decode b_M_marks 73 = .ok (.iconst 1, 1) := by decide +kernel
theorem d_M_marks_74 : decode b_M_marks 74 = .ok (.goto 4, 3) := by decide +kernel
theorem d_M_marks_77 : decode b_M_marks 77 = .ok (.iconst 0, 1) := by decide +kernel
theorem d_M_marks_78 : decode b_M_marks 78 = .ok (.bastore, 1) := by decide +kernel
theorem d_M_marks_79 : decode b_M_marks 79 = .ok (.iload_n 2, 1) := by decide +kernel
theorem d_M_marks_80 : decode b_M_marks 80 = .ok (.aload_n 0, 1) := by decide +kernel
theorem d_M_marks_81 : decode b_M_marks 81 = .ok (.getfield 26, 3) := by decide +kernel
theorem d_M_marks_84 : decode b_M_marks 84 = .ok (.iload_n 3, 1) := by decide +kernel
theorem d_M_marks_85 : decode b_M_marks 85 = .ok (.baload, 1) := by decide +kernel
theorem d_M_marks_86 : decode b_M_marks 86 = .ok (.ifCond .eq 7, 3) := by decide +kernel
theorem d_M_marks_89 : decode b_M_marks 89 = .ok (.iconst 1, 1) := by decide +kernel
theorem d_M_marks_90 : decode b_M_marks 90 = .ok (.goto 4, 3) := by decide +kernel
theorem d_M_marks_93 : decode b_M_marks 93 = .ok (.iconst 0, 1) := by decide +kernel
theorem d_M_marks_94 : decode b_M_marks 94 = .ok (.iadd, 1) := by decide +kernel
theorem d_M_marks_95 : decode b_M_marks 95 = .ok (.istore_n 2, 1) := by decide +kernel
theorem d_M_marks_96 : decode b_M_marks 96 = .ok (.iinc 3 1, 3) := by decide +kernel
theorem d_M_marks_99 : decode b_M_marks 99 = .ok (.goto (-91), 3) := by decide +kernel
theorem d_M_marks_102 : decode b_M_marks 102 = .ok (.iload_n 2, 1) := by decide +kernel
theorem d_M_marks_103 : decode b_M_marks 103 = .ok (.ireturn, 1) := by decide +kernel
theorem d_M_judged_0 : decode b_M_judged 0 = .ok (.iconst 0, 1) := by decide +kernel
theorem d_M_judged_1 : decode b_M_judged 1 = .ok (.istore_n 1, 1) := by decide +kernel
theorem d_M_judged_2 : decode b_M_judged 2 = .ok (.iconst 0, 1) := by decide +kernel
theorem d_M_judged_3 : decode b_M_judged 3 = .ok (.istore_n 2, 1) := by decide +kernel
theorem d_M_judged_4 : decode b_M_judged 4 = .ok (.iload_n 2, 1) := by decide +kernel
theorem d_M_judged_5 : decode b_M_judged 5 = .ok (.aload_n 0, 1) := by decide +kernel
theorem d_M_judged_6 : decode b_M_judged 6 = .ok (.getfield 37, 3) := by decide +kernel
theorem d_M_judged_9 : decode b_M_judged 9 = .ok (.if_icmp .ge 81, 3) := by decide +kernel
theorem d_M_judged_12 : decode b_M_judged 12 = .ok (.aload_n 0, 1) := by decide +kernel
theorem d_M_judged_13 : decode b_M_judged 13 = .ok (.getfield 19, 3) := by decide +kernel
theorem d_M_judged_16 : decode b_M_judged 16 = .ok (.iload_n 2, 1) := by decide +kernel
theorem d_M_judged_17 : decode b_M_judged 17 = .ok (.baload, 1) := by decide +kernel
theorem d_M_judged_18 : decode b_M_judged 18 = .ok (.ifCond .eq 66, 3) := by decide +kernel
theorem d_M_judged_21 : decode b_M_judged 21 = .ok (.aload_n 0, 1) := by decide +kernel
theorem d_M_judged_22 : decode b_M_judged 22 = .ok (.getfield 26, 3) := by decide +kernel
theorem d_M_judged_25 : decode b_M_judged 25 = .ok (.iload_n 2, 1) := by decide +kernel
theorem d_M_judged_26 : decode b_M_judged 26 = .ok (.baload, 1) := by decide +kernel
theorem d_M_judged_27 : decode b_M_judged 27 = .ok (.ifCond .ne 57, 3) := by decide +kernel
theorem d_M_judged_30 : decode b_M_judged 30 = .ok (.iload_n 1, 1) := by decide +kernel
theorem d_M_judged_31 : decode b_M_judged 31 = .ok (.aload_n 0, 1) := by decide +kernel
theorem d_M_judged_32 : decode b_M_judged 32 = .ok (.getfield 13, 3) := by decide +kernel
theorem d_M_judged_35 : decode b_M_judged 35 = .ok (.iload_n 2, 1) := by decide +kernel
theorem d_M_judged_36 : decode b_M_judged 36 = .ok (.iaload, 1) := by decide +kernel
theorem d_M_judged_37 : decode b_M_judged 37 = .ok (.bipush 50, 2) := by decide +kernel
theorem d_M_judged_39 : decode b_M_judged 39 = .ok (.if_icmp .lt 14, 3) := by decide +kernel
theorem d_M_judged_42 : decode b_M_judged 42 = .ok (.iconst 1, 1) := by decide +kernel
theorem d_M_judged_43 : decode b_M_judged 43 = .ok (.aload_n 0, 1) := by decide +kernel
theorem d_M_judged_44 : decode b_M_judged 44 = .ok (.getfield 7, 3) := by decide +kernel
theorem d_M_judged_47 : decode b_M_judged 47 = .ok (.iload_n 2, 1) := by decide +kernel
theorem d_M_judged_48 : decode b_M_judged 48 = .ok (.iaload, 1) := by decide +kernel
theorem d_M_judged_49 : decode b_M_judged 49 = .ok (.ishl, 1) := by decide +kernel
theorem d_M_judged_50 : decode b_M_judged 50 = .ok (.goto 4, 3) := by decide +kernel
theorem d_M_judged_53 : decode b_M_judged 53 = .ok (.iconst 0, 1) := by decide +kernel
theorem d_M_judged_54 : decode b_M_judged 54 = .ok (.ior, 1) := by decide +kernel
theorem d_M_judged_55 : decode b_M_judged 55 = .ok (.istore_n 1, 1) := by decide +kernel
theorem d_M_judged_56 : decode b_M_judged 56 = .ok (.iload_n 1, 1) := by decide +kernel
theorem d_M_judged_57 : decode b_M_judged 57 = .ok (.aload_n 0, 1) := by decide +kernel
theorem d_M_judged_58 : decode b_M_judged 58 = .ok (.getfield 7, 3) := by decide +kernel
theorem d_M_judged_61 : decode b_M_judged 61 = .ok (.iload_n 2, 1) := by decide +kernel
theorem d_M_judged_62 : decode b_M_judged 62 = .ok (.iaload, 1) := by decide +kernel
theorem d_M_judged_63 : decode b_M_judged 63 = .ok (.iconst 5, 1) := by decide +kernel
theorem d_M_judged_64 : decode b_M_judged 64 = .ok (.if_icmp .ne 17, 3) := by decide +kernel
theorem d_M_judged_67 : decode b_M_judged 67 = .ok (.aload_n 0, 1) := by decide +kernel
theorem d_M_judged_68 : decode b_M_judged 68 = .ok (.iload_n 2, 1) := by decide +kernel
theorem d_M_judged_69 : decode b_M_judged 69 = .ok (.invokevirtual 77, 3) := by decide +kernel
theorem d_M_judged_72 : decode b_M_judged 72 = .ok (.ifCond .eq 9, 3) := by decide +kernel
theorem d_M_judged_75 : decode b_M_judged 75 = .ok (.sipush 128, 3) := by decide +kernel
theorem d_M_judged_78 : decode b_M_judged 78 = .ok (.goto 4, 3) := by decide +kernel
theorem d_M_judged_81 : decode b_M_judged 81 = .ok (.iconst 0, 1) := by decide +kernel
theorem d_M_judged_82 : decode b_M_judged 82 = .ok (.ior, 1) := by decide +kernel
theorem d_M_judged_83 : decode b_M_judged 83 = .ok (.istore_n 1, 1) := by decide +kernel
theorem d_M_judged_84 : decode b_M_judged 84 = .ok (.iinc 2 1, 3) := by decide +kernel
theorem d_M_judged_87 : decode b_M_judged 87 = .ok (.goto (-83), 3) := by decide +kernel
theorem d_M_judged_90 : decode b_M_judged 90 = .ok (.iload_n 1, 1) := by decide +kernel
theorem d_M_judged_91 : decode b_M_judged 91 = .ok (.ireturn, 1) := by decide +kernel
theorem d_M_mayGo_0 : decode b_M_mayGo 0 = .ok (.aload_n 0, 1) := by decide +kernel
theorem d_M_mayGo_1 : decode b_M_mayGo 1 = .ok (.getfield 19, 3) := by decide +kernel
theorem d_M_mayGo_4 : decode b_M_mayGo 4 = .ok (.iload_n 1, 1) := by decide +kernel
theorem d_M_mayGo_5 : decode b_M_mayGo 5 = .ok (.baload, 1) := by decide +kernel
theorem d_M_mayGo_6 : decode b_M_mayGo 6 = .ok (.ifCond .eq 31, 3) := by decide +kernel
theorem d_M_mayGo_9 : decode b_M_mayGo 9 = .ok (.aload_n 0, 1) := by decide +kernel
theorem d_M_mayGo_10 : decode b_M_mayGo 10 = .ok (.iload_n 1, 1) := by decide +kernel
theorem d_M_mayGo_11 : decode b_M_mayGo 11 = .ok (.invokevirtual 87, 3) := by decide +kernel
theorem d_M_mayGo_14 : decode b_M_mayGo 14 = .ok (.aload_n 0, 1) := by decide +kernel
theorem d_M_mayGo_15 : decode b_M_mayGo 15 = .ok (.invokevirtual 90, 3) := by decide +kernel
theorem d_M_mayGo_18 : decode b_M_mayGo 18 = .ok (.if_icmp .ge 19, 3) := by decide +kernel
theorem d_M_mayGo_21 : decode b_M_mayGo 21 = .ok (.aload_n 0, 1) := by decide +kernel
theorem d_M_mayGo_22 : decode b_M_mayGo 22 = .ok (.getfield 23, 3) := by decide +kernel
theorem d_M_mayGo_25 : decode b_M_mayGo 25 = .ok (.aload_n 0, 1) := by decide +kernel
theorem d_M_mayGo_26 : decode b_M_mayGo 26 = .ok (.invokevirtual 83, 3) := by decide +kernel
theorem d_M_mayGo_29 : decode b_M_mayGo 29 = .ok (.baload, 1) := by decide +kernel
theorem d_M_mayGo_30 : decode b_M_mayGo 30 = .ok (.ifCond .eq 7, 3) := by decide +kernel
theorem d_M_mayGo_33 : decode b_M_mayGo 33 = .ok (.iconst 1, 1) := by decide +kernel
theorem d_M_mayGo_34 : decode b_M_mayGo 34 = .ok (.goto 4, 3) := by decide +kernel
theorem d_M_mayGo_37 : decode b_M_mayGo 37 = .ok (.iconst 0, 1) := by decide +kernel
theorem d_M_mayGo_38 : decode b_M_mayGo 38 = .ok (.ireturn, 1) := by decide +kernel
theorem d_M_first_0 : decode b_M_first 0 = .ok (.iconst 0, 1) := by decide +kernel
theorem d_M_first_1 : decode b_M_first 1 = .ok (.istore_n 1, 1) := by decide +kernel
theorem d_M_first_2 : decode b_M_first 2 = .ok (.iload_n 1, 1) := by decide +kernel
theorem d_M_first_3 : decode b_M_first 3 = .ok (.aload_n 0, 1) := by decide +kernel
theorem d_M_first_4 : decode b_M_first 4 = .ok (.getfield 37, 3) := by decide +kernel
theorem d_M_first_7 : decode b_M_first 7 = .ok (.if_icmp .ge 19, 3) := by decide +kernel
theorem d_M_first_10 : decode b_M_first 10 = .ok (.aload_n 0, 1) := by decide +kernel
theorem d_M_first_11 : decode b_M_first 11 = .ok (.iload_n 1, 1) := by decide +kernel
theorem d_M_first_12 : decode b_M_first 12 = .ok (.invokevirtual 93, 3) := by decide +kernel
theorem d_M_first_15 : decode b_M_first 15 = .ok (.ifCond .eq 5, 3) := by decide +kernel
theorem d_M_first_18 : decode b_M_first 18 = .ok (.iload_n 1, 1) := by decide +kernel
theorem d_M_first_19 : decode b_M_first 19 = .ok (.ireturn, 1) := by decide +kernel
theorem d_M_first_20 : decode b_M_first 20 = .ok (.iinc 1 1, 3) := by decide +kernel
theorem d_M_first_23 : decode b_M_first 23 = .ok (.goto (-21), 3) := by decide +kernel
theorem d_M_first_26 : decode b_M_first 26 = .ok (.iconst (-1), 1) := by decide +kernel
theorem d_M_first_27 : decode b_M_first 27 = .ok (.ireturn, 1) := by decide +kernel
set_option maxHeartbeats 4000000 in
set_option maxRecDepth 100000 in
/-- reference: marks -/
theorem c_M_marks (l : Launch) (dC : Nat → ClassId) (dI : Nat → Nat → Nat) (jm ik iv ir il iy ig : Nat) (n : Nat) (th : Int32) (sd tp : Int64) (dr dl dg : ClassId) (R : Nat → Int32) (L G : Nat → Bool) (i : Nat) (hn : n ≤ 43) (hR : rfK n R) (hi : i < n) (sz : Nat) : Met l y_M_marks w_M_marks ({ frames := 1, cells := 0, slots := 0, locals := 21 }) (wr_P dC dI [.ref jm, .int (nI i)] [(jm, .inr (3, [.int th, .long sd, .long tp, .int (nI n), .ref ik, .ref iv, .ref ir, .ref il, .ref iy, .ref ig])), (ir, .inl (dr, 86, .inl R)), (il, .inl (dl, 43, .inl (bF L))), (ig, .inl (dg, 43, .inl (bF G)))] [(dr, .int), (dl, .boolean), (dg, .boolean)] sz) (va_Qi (fun (r : Int32) (_ : Unit) => r = nI (cnt (mkB R L i) n)) (fun (u : Unit) => wr_B dC dI (va_A [(jm, .inr (3, [.int th, .long sd, .long tp, .int (nI n), .ref ik, .ref iv, .ref ir, .ref il, .ref iy, .ref ig])), (ir, .inl (dr, 86, .inl R)), (il, .inl (dl, 43, .inl (bF L))), (ig, .inl (dg, 43, .inl (bF G)))] sz) [(jm, .inr (3, [.int th, .long sd, .long tp, .int (nI n), .ref ik, .ref iv, .ref ir, .ref il, .ref iy, .ref ig])), (ir, .inl (dr, 86, .inl R)), (il, .inl (dl, 43, .inl (bF L))), (ig, .inl (dg, 43, .inl (bF (mkF R L i n))))] [(dr, .int), (dl, .boolean), (dg, .boolean)]) (va_A [(jm, .inr (3, [.int th, .long sd, .long tp, .int (nI n), .ref ik, .ref iv, .ref ir, .ref il, .ref iy, .ref ig])), (ir, .inl (dr, 86, .inl R)), (il, .inl (dl, 43, .inl (bF L))), (ig, .inl (dg, 43, .inl (bF G)))] sz)) 0 0 (va_A [(jm, .inr (3, [.int th, .long sd, .long tp, .int (nI n), .ref ik, .ref iv, .ref ir, .ref il, .ref iy, .ref ig])), (ir, .inl (dr, 86, .inl R)), (il, .inl (dl, 43, .inl (bF L))), (ig, .inl (dg, 43, .inl (bF G)))] sz) := by
  refine Met.ofW (cc := b_M_marks) (maxL := 4) (ret := (Option.some Jvm.ClassFile.FieldType.int)) (by decide) rfl ?_
  intro p e s m args below meth c s₁ B0 hml hv0
  obtain ⟨rfl, hsz, hP, hK, hD0, hN⟩ := hv0
  have hx := B0.exec
  have hb := B0.bytes
  have hr := B0.returns
  have hts := atoms_spec (ws := w_M_marks) B0.pre
  have hown : s.vm.findClass R_M = some m.cls := findClass_of_methodNamed B0.named
  have hlocks := B0.notSynchronized
  subst hsz
  have hD := hD0.self (sz := s.heap.size)
  generalize hAe : va_A [(jm, .inr (3, [.int th, .long sd, .long tp, .int (nI n), .ref ik, .ref iv, .ref ir, .ref il, .ref iy, .ref ig])), (ir, .inl (dr, 86, .inl R)), (il, .inl (dl, 43, .inl (bF L))), (ig, .inl (dg, 43, .inl (bF G)))] s.heap.size = A at hD ⊢
  have hA : ∀ q : Nat, s.heap.size ≤ q → A q := fun q h => by rw [← hAe]; exact Or.inr h
  have hS : va_S A s.heap s.heap [] := va_S.rf
  have hP : va_P (dC, dI) classes [(jm, .inr (3, [.int th, .long sd, .long tp, .int (nI n), .ref ik, .ref iv, .ref ir, .ref il, .ref iy, .ref ig])), (ir, .inl (dr, 86, .inl R)), (il, .inl (dl, 43, .inl (bF L))), (ig, .inl (dg, 43, .inl (bF G)))] s.heap := hP
  have hl := lv_entry ([.ref jm, .int (nI i)]) (n := 4) (Nat.le_of_ble_eq_true rfl)
  rw [lg_entry_eq]
  generalize (lg_sl ([.ref jm, .int (nI i)]) ++ List.replicate (4 - (lg_sl ([.ref jm, .int (nI i)])).length) Slot.unset).toArray = ls at hl ⊢
  have hl : lv_has ls 4 [(0, .ref jm), (1, .int (nI i))] := hl
  refine lv_aload_n hx hb d_M_marks_0 rfl (lv_at hl 0 rfl) ?_
  have hPc := hP.sub (ws' := [(jm, .inr (3, [.int th, .long sd, .long tp, .int (nI n), .ref ik, .ref iv, .ref ir, .ref il, .ref iy, .ref ig])), (ig, .inl (dg, 43, .inl (bF G)))]) [0, 3] rfl
  have hKc := hK.sub (tys' := [(dg, .boolean)]) [2] rfl
  have hDc := hD.sub (ws' := [(jm, .inr (3, [.int th, .long sd, .long tp, .int (nI n), .ref ik, .ref iv, .ref ir, .ref il, .ref iy, .ref ig])), (ig, .inl (dg, 43, .inl (bF G)))]) [0, 3] (by decide) rfl
  have hFc := va_free (wc := [(jm, .inr (3, [.int th, .long sd, .long tp, .int (nI n), .ref ik, .ref iv, .ref ir, .ref il, .ref iy, .ref ig])), (ig, .inl (dg, 43, .inl (bF G)))]) hD hS hA [0, 3] rfl
  refine va_callv (va_runV (As := []) (rest := []) ⟨hx, hb, hml, hown, hts⟩ (c_M_none l dC dI jm ik iv ir il iy ig n th sd tp dg G _) (cwV 0 hts (g_V big_w m_427 m_429 ms_28 m_4 m_430) rfl rfl rfl (by decide +kernel) ⟨Nat.le_of_ble_eq_true rfl, Nat.le_of_ble_eq_true rfl⟩) (wr_V hPc hKc hDc hN (va_recv hKc hPc (ci := 3) (q0 := 0) rfl rfl)) rfl rfl hl.1 rfl (lv_room (Nat.le_of_ble_eq_true rfl)) d_M_marks_1 ⟨Nat.le_of_ble_eq_true rfl, Nat.le_of_ble_eq_true rfl⟩) hS (fun q _ h => hFc q h) hFc (fun u t H1 locs ht hvm hw hB hz1 hk1 hS => ?_)
  obtain ⟨hP1, hK1, hD1⟩ := hB
  rw [ht] at hP1
  obtain ⟨hP, hD⟩ := va_join (wr := [(ir, .inl (dr, 86, .inl R)), (il, .inl (dl, 43, .inl (bF L)))]) (w1 := [(jm, .inr (3, [.int th, .long sd, .long tp, .int (nI n), .ref ik, .ref iv, .ref ir, .ref il, .ref iy, .ref ig])), (ig, .inl (dg, 43, .inl (bF fF)))]) hP hD [0, 3] [1, 2] rfl rfl (by decide) (by decide) hk1 hFc hP1 hD1
  generalize H1 = H at hP hS ⊢
  have hP : va_P (dC, dI) classes [(ir, .inl (dr, 86, .inl R)), (il, .inl (dl, 43, .inl (bF L))), (jm, .inr (3, [.int th, .long sd, .long tp, .int (nI n), .ref ik, .ref iv, .ref ir, .ref il, .ref iy, .ref ig])), (ig, .inl (dg, 43, .inl (bF fF)))] H := hP
  have hD : va_D A [(ir, .inl (dr, 86, .inl R)), (il, .inl (dl, 43, .inl (bF L))), (jm, .inr (3, [.int th, .long sd, .long tp, .int (nI n), .ref ik, .ref iv, .ref ir, .ref il, .ref iy, .ref ig])), (ig, .inl (dg, 43, .inl (bF fF)))] := hD
  rw [show (bF fF) = (bF (mkF R L i i)) from (congrArg bF (mkF_0 R L i))] at hP hD
  refine lv_iconst (v := nI 0) hx hb d_M_marks_4 (by decide +kernel) ?_
  refine lv_istore_n (lv' := [(2, .int (nI 0)), (0, .ref jm), (1, .int (nI i))]) hx hb d_M_marks_5 rfl hl (by decide) rfl (fun ls hl => ?_)
  refine lv_iload_n hx hb d_M_marks_6 rfl (lv_at hl 2 rfl) ?_
  refine lv_istore_n (lv' := [(3, .int (nI i)), (2, .int (nI 0)), (0, .ref jm), (1, .int (nI i))]) hx hb d_M_marks_7 rfl hl (by decide) rfl (fun ls hl => ?_)
  rw [show nI 0 = nI (cnt (mkB R L i) i) from (by rw [mkB_0])] at hl
  have lp_8 : ∀ (k9_8 : Nat), ∀ (k : Nat), n - k < k9_8 → (i ≤ k) → (k ≤ n) → ∀ (H : Heap) (locs : List Loc), va_P (dC, dI) classes [(jm, .inr (3, [.int th, .long sd, .long tp, .int (nI n), .ref ik, .ref iv, .ref ir, .ref il, .ref iy, .ref ig])), (ir, .inl (dr, 86, .inl R)), (il, .inl (dl, 43, .inl (bF L))), (ig, .inl (dg, 43, .inl (bF (mkF R L i k))))] H → va_D A [(jm, .inr (3, [.int th, .long sd, .long tp, .int (nI n), .ref ik, .ref iv, .ref ir, .ref il, .ref iy, .ref ig])), (ir, .inl (dr, 86, .inl R)), (il, .inl (dl, 43, .inl (bF L))), (ig, .inl (dg, 43, .inl (bF (mkF R L i k))))] → va_S A s.heap H locs → ∀ (ls : Array Slot), lv_has ls 4 [(0, .ref jm), (1, .int (nI i)), (2, .int (nI (cnt (mkB R L i) k))), (3, .int (nI k))] → W p l e (headSpec w_M_marks ({ frames := 1, cells := 0, slots := 0, locals := 21 })).room s m ([.ref jm, .int (nI i)]).toArray below meth c H locs 0 0 (MQ below (va_Qi (fun (r : Int32) (_ : Unit) => r = nI (cnt (mkB R L i) n)) (fun (u : Unit) => wr_B dC dI (A) [(jm, .inr (3, [.int th, .long sd, .long tp, .int (nI n), .ref ik, .ref iv, .ref ir, .ref il, .ref iy, .ref ig])), (ir, .inl (dr, 86, .inl R)), (il, .inl (dl, 43, .inl (bF L))), (ig, .inl (dg, 43, .inl (bF (mkF R L i n))))] [(dr, .int), (dl, .boolean), (dg, .boolean)]) (A)) ([.ref jm, .int (nI i)]).toArray s 0 0 A) (F0 m 8 ls []) := by
    intro k9_8
    induction k9_8 with
    | zero =>
      intro k hk9
      exact absurd hk9 (Nat.not_lt_zero _)
    | succ k9_8 ih_8 =>
      intro k hk9_8 hik hk H locs hP hD hS ls hl
      have hck := cnt_le (mkB R L i) k
      refine lv_iload_n hx hb d_M_marks_8 rfl (lv_at hl 3 rfl) ?_
      refine lv_aload_n hx hb d_M_marks_9 rfl (lv_at hl 0 rfl) ?_
      refine va_get (D := (dC, dI)) (ci := 3) (v := .int (nI n)) (C := R_M) (T := F_M) (N := 10) hx hb hts (lay_M _) hown hK hP 0 rfl rfl 3 (by decide) (hts _ (List.mem_cons_of_mem _ m_339)) (fun _ h9 => h9) rfl d_M_marks_10 ?_
      refine lv_icmp_ge (tgt := 102) hx hb d_M_marks_13 (by decide) (fun c_13 => ?_) (fun c_13 => ?_)
      · skip
        have c_13 := (nI_leI (by omega) (by omega)).mp c_13
        refine lv_iload_n hx hb d_M_marks_102 rfl (lv_at hl 2 rfl) ?_
        rw [show k = n by omega] at hP hD
        have hP9 := hP.sub (ws' := [(jm, .inr (3, [.int th, .long sd, .long tp, .int (nI n), .ref ik, .ref iv, .ref ir, .ref il, .ref iy, .ref ig])), (ir, .inl (dr, 86, .inl R)), (il, .inl (dl, 43, .inl (bF L))), (ig, .inl (dg, 43, .inl (bF (mkF R L i n))))]) [0, 1, 2, 3] rfl
        have hD9 := hD.sub (ws' := [(jm, .inr (3, [.int th, .long sd, .long tp, .int (nI n), .ref ik, .ref iv, .ref ir, .ref il, .ref iy, .ref ig])), (ir, .inl (dr, 86, .inl R)), (il, .inl (dl, 43, .inl (bF L))), (ig, .inl (dg, 43, .inl (bF (mkF R L i n))))]) [0, 1, 2, 3] (by decide) rfl
        have hK9 := hK.sub (tys' := [(dr, .int), (dl, .boolean), (dg, .boolean)]) [0, 1, 2] rfl
        exact W.iret (v := nI (cnt (mkB R L i) k)) hx hb hr (fun t ht hW => ⟨⟨nI (cnt (mkB R L i) k), (), rfl, (by rw [show k = n by omega]), by rw [ht]; exact hP9, va_K.moved hW.alike hK9, hD9⟩, hS.F ht⟩) hS.2.2 d_M_marks_103
      · skip
        have c_13 := (not_congr (nI_leI (by omega) (by omega))).mp c_13
        refine lv_aload_n hx hb d_M_marks_16 rfl (lv_at hl 0 rfl) ?_
        refine va_get (D := (dC, dI)) (ci := 3) (v := .ref ig) (C := R_M) (T := F_M) (N := 10) hx hb hts (lay_M _) hown hK hP 0 rfl rfl 9 (by decide) (hts _ (List.mem_cons_of_mem _ m_345)) (fun _ h9 => h9) rfl d_M_marks_17 ?_
        refine lv_iload_n hx hb d_M_marks_20 rfl (lv_at hl 3 rfl) ?_
        refine lv_iload_n hx hb d_M_marks_21 rfl (lv_at hl 3 rfl) ?_
        refine lv_iload_n hx hb d_M_marks_22 rfl (lv_at hl 1 rfl) ?_
        refine lv_icmp_eq (tgt := 73) hx hb d_M_marks_23 (by decide) (fun c_23 => ?_) (fun c_23 => ?_)
        · skip
          have c_23 := (nI_eq (by omega) (by omega)).mp c_23
          refine lv_iconst (v := nI 1) hx hb d_M_marks_73 (by decide +kernel) ?_
          refine lv_topi (fun w_2 ew_2 => ?_)
          have ew_2 : (bI (mkB R L i k)) = w_2 := (ew_2.trans (by first | (rw [c_70]; rfl) | (rw [c_23, mkB_i]; rfl))).symm
          subst ew_2
          refine lv_goto (tgt := 78) hx hb d_M_marks_74 (by decide) ?_
          refine va_zast hx hb hK hP hD hS 3 2 rfl rfl (vp_in_nI (by omega) (by omega)) d_M_marks_78 (fun H locs hP hD hS => ?_)
          rw [nI_clamp (by omega)] at hP hD
          rw [bI_vp] at hP hD
          have hP : va_P (dC, dI) classes [(jm, .inr (3, [.int th, .long sd, .long tp, .int (nI n), .ref ik, .ref iv, .ref ir, .ref il, .ref iy, .ref ig])), (ir, .inl (dr, 86, .inl R)), (il, .inl (dl, 43, .inl (bF L))), (ig, .inl (dg, 43, .inl (upd (bF (mkF R L i k)) k (bI (mkB R L i k)))))] H := hP
          have hD : va_D A [(jm, .inr (3, [.int th, .long sd, .long tp, .int (nI n), .ref ik, .ref iv, .ref ir, .ref il, .ref iy, .ref ig])), (ir, .inl (dr, 86, .inl R)), (il, .inl (dl, 43, .inl (bF L))), (ig, .inl (dg, 43, .inl (upd (bF (mkF R L i k)) k (bI (mkB R L i k)))))] := hD
          rw [show (upd (bF (mkF R L i k)) k (bI (mkB R L i k))) = (bF (mkF R L i (k + 1))) from ((bF_up _ _ _).trans (congrArg bF (mkF_s rfl)))] at hP hD
          refine lv_iload_n hx hb d_M_marks_79 rfl (lv_at hl 2 rfl) ?_
          refine lv_aload_n hx hb d_M_marks_80 rfl (lv_at hl 0 rfl) ?_
          refine va_get (D := (dC, dI)) (ci := 3) (v := .ref ig) (C := R_M) (T := F_M) (N := 10) hx hb hts (lay_M _) hown hK hP 0 rfl rfl 9 (by decide) (hts _ (List.mem_cons_of_mem _ m_345)) (fun _ h9 => h9) rfl d_M_marks_81 ?_
          refine lv_iload_n hx hb d_M_marks_84 rfl (lv_at hl 3 rfl) ?_
          refine va_zald hx hb hK hP 3 2 rfl rfl (vp_in_nI (by omega) (by omega)) d_M_marks_85 ?_
          refine lv_topi (fun w_3 ew_3 => ?_)
          have ew_3 : (bI (mkB R L i k)) = w_3 := (ew_3.trans (by rw [nI_clamp (by omega)]; show bI (mkF R L i (k + 1) k) = _; rw [mkF_at (by omega)])).symm
          subst ew_3
          refine lv_if_eq (tgt := 93) hx hb d_M_marks_86 (by decide) (fun c_86 => ?_) (fun c_86 => ?_)
          · skip
            have c_86 := bI_f c_86
            refine lv_iconst (v := nI 0) hx hb d_M_marks_93 (by decide +kernel) ?_
            refine lv_iadd hx hb d_M_marks_94 ?_
            refine lv_topi (fun w_4 ew_4 => ?_)
            have ew_4 : (nI (cnt (mkB R L i) (k + 1))) = w_4 := (ew_4.trans (by first | (rw [cnt_t (P := mkB R L i) (n := k) c_86]; exact nI_add _ _) | (rw [cnt_f (P := mkB R L i) (n := k) c_86]; exact nI_add _ _))).symm
            subst ew_4
            refine lv_istore_n (lv' := [(2, .int (nI (cnt (mkB R L i) (k + 1)))), (0, .ref jm), (1, .int (nI i)), (3, .int (nI k))]) hx hb d_M_marks_95 rfl hl (by decide) rfl (fun ls hl => ?_)
            refine lv_iinc (v := nI (k + 1)) (lv' := [(3, .int (nI (k + 1))), (2, .int (nI (cnt (mkB R L i) (k + 1)))), (0, .ref jm), (1, .int (nI i))]) hx hb d_M_marks_96 hl (k := 3) rfl (nI_1 _) (by decide) rfl (fun ls hl => ?_)
            refine lv_goto (tgt := 8) hx hb d_M_marks_99 (by decide) ?_
            exact ih_8 (k + 1) (by omega) (by omega) (by omega) _ _ (hP.sub (ws' := [(jm, .inr (3, [.int th, .long sd, .long tp, .int (nI n), .ref ik, .ref iv, .ref ir, .ref il, .ref iy, .ref ig])), (ir, .inl (dr, 86, .inl R)), (il, .inl (dl, 43, .inl (bF L))), (ig, .inl (dg, 43, .inl (bF (mkF R L i (k + 1)))))]) [0, 1, 2, 3] rfl) (hD.sub (ws' := [(jm, .inr (3, [.int th, .long sd, .long tp, .int (nI n), .ref ik, .ref iv, .ref ir, .ref il, .ref iy, .ref ig])), (ir, .inl (dr, 86, .inl R)), (il, .inl (dl, 43, .inl (bF L))), (ig, .inl (dg, 43, .inl (bF (mkF R L i (k + 1)))))]) [0, 1, 2, 3] (by decide) rfl) hS ls (lv_sub (l' := [(0, .ref jm), (1, .int (nI i)), (2, .int (nI (cnt (mkB R L i) (k + 1)))), (3, .int (nI (k + 1)))]) hl [2, 3, 1, 0] rfl)
          · skip
            have c_86 := bI_t c_86
            refine lv_iconst (v := nI 1) hx hb d_M_marks_89 (by decide +kernel) ?_
            refine lv_goto (tgt := 94) hx hb d_M_marks_90 (by decide) ?_
            refine lv_iadd hx hb d_M_marks_94 ?_
            refine lv_topi (fun w_5 ew_5 => ?_)
            have ew_5 : (nI (cnt (mkB R L i) (k + 1))) = w_5 := (ew_5.trans (by first | (rw [cnt_t (P := mkB R L i) (n := k) c_86]; exact nI_add _ _) | (rw [cnt_f (P := mkB R L i) (n := k) c_86]; exact nI_add _ _))).symm
            subst ew_5
            refine lv_istore_n (lv' := [(2, .int (nI (cnt (mkB R L i) (k + 1)))), (0, .ref jm), (1, .int (nI i)), (3, .int (nI k))]) hx hb d_M_marks_95 rfl hl (by decide) rfl (fun ls hl => ?_)
            refine lv_iinc (v := nI (k + 1)) (lv' := [(3, .int (nI (k + 1))), (2, .int (nI (cnt (mkB R L i) (k + 1)))), (0, .ref jm), (1, .int (nI i))]) hx hb d_M_marks_96 hl (k := 3) rfl (nI_1 _) (by decide) rfl (fun ls hl => ?_)
            refine lv_goto (tgt := 8) hx hb d_M_marks_99 (by decide) ?_
            exact ih_8 (k + 1) (by omega) (by omega) (by omega) _ _ (hP.sub (ws' := [(jm, .inr (3, [.int th, .long sd, .long tp, .int (nI n), .ref ik, .ref iv, .ref ir, .ref il, .ref iy, .ref ig])), (ir, .inl (dr, 86, .inl R)), (il, .inl (dl, 43, .inl (bF L))), (ig, .inl (dg, 43, .inl (bF (mkF R L i (k + 1)))))]) [0, 1, 2, 3] rfl) (hD.sub (ws' := [(jm, .inr (3, [.int th, .long sd, .long tp, .int (nI n), .ref ik, .ref iv, .ref ir, .ref il, .ref iy, .ref ig])), (ir, .inl (dr, 86, .inl R)), (il, .inl (dl, 43, .inl (bF L))), (ig, .inl (dg, 43, .inl (bF (mkF R L i (k + 1)))))]) [0, 1, 2, 3] (by decide) rfl) hS ls (lv_sub (l' := [(0, .ref jm), (1, .int (nI i)), (2, .int (nI (cnt (mkB R L i) (k + 1)))), (3, .int (nI (k + 1)))]) hl [2, 3, 1, 0] rfl)
        · skip
          have c_23 := (not_congr (nI_eq (by omega) (by omega))).mp c_23
          refine lv_aload_n hx hb d_M_marks_26 rfl (lv_at hl 0 rfl) ?_
          refine va_get (D := (dC, dI)) (ci := 3) (v := .ref il) (C := R_M) (T := F_M) (N := 10) hx hb hts (lay_M _) hown hK hP 0 rfl rfl 7 (by decide) (hts _ (List.mem_cons_of_mem _ m_343)) (fun _ h9 => h9) rfl d_M_marks_27 ?_
          refine lv_iload_n hx hb d_M_marks_30 rfl (lv_at hl 3 rfl) ?_
          refine va_zald hx hb hK hP 2 1 rfl rfl (vp_in_nI (by omega) (by omega)) d_M_marks_31 ?_
          refine lv_topi (fun w_6 ew_6 => ?_)
          have ew_6 : (bI (L k)) = w_6 := (ew_6.trans (by rw [nI_clamp (by omega)]; rfl)).symm
          subst ew_6
          refine lv_if_eq (tgt := 77) hx hb d_M_marks_32 (by decide) (fun c_32 => ?_) (fun c_32 => ?_)
          · skip
            have c_32 := bI_f c_32
            refine lv_iconst (v := nI 0) hx hb d_M_marks_77 (by decide +kernel) ?_
            refine lv_topi (fun w_7 ew_7 => ?_)
            have ew_7 : (bI (mkB R L i k)) = w_7 := (ew_7.trans (by first | (rw [c_70]; rfl) | (rw [mkB_N c_23 c_42]; rfl) | (rw [mkB_L c_23 c_32]; rfl))).symm
            subst ew_7
            refine va_zast hx hb hK hP hD hS 3 2 rfl rfl (vp_in_nI (by omega) (by omega)) d_M_marks_78 (fun H locs hP hD hS => ?_)
            rw [nI_clamp (by omega)] at hP hD
            rw [bI_vp] at hP hD
            have hP : va_P (dC, dI) classes [(jm, .inr (3, [.int th, .long sd, .long tp, .int (nI n), .ref ik, .ref iv, .ref ir, .ref il, .ref iy, .ref ig])), (ir, .inl (dr, 86, .inl R)), (il, .inl (dl, 43, .inl (bF L))), (ig, .inl (dg, 43, .inl (upd (bF (mkF R L i k)) k (bI (mkB R L i k)))))] H := hP
            have hD : va_D A [(jm, .inr (3, [.int th, .long sd, .long tp, .int (nI n), .ref ik, .ref iv, .ref ir, .ref il, .ref iy, .ref ig])), (ir, .inl (dr, 86, .inl R)), (il, .inl (dl, 43, .inl (bF L))), (ig, .inl (dg, 43, .inl (upd (bF (mkF R L i k)) k (bI (mkB R L i k)))))] := hD
            rw [show (upd (bF (mkF R L i k)) k (bI (mkB R L i k))) = (bF (mkF R L i (k + 1))) from ((bF_up _ _ _).trans (congrArg bF (mkF_s rfl)))] at hP hD
            refine lv_iload_n hx hb d_M_marks_79 rfl (lv_at hl 2 rfl) ?_
            refine lv_aload_n hx hb d_M_marks_80 rfl (lv_at hl 0 rfl) ?_
            refine va_get (D := (dC, dI)) (ci := 3) (v := .ref ig) (C := R_M) (T := F_M) (N := 10) hx hb hts (lay_M _) hown hK hP 0 rfl rfl 9 (by decide) (hts _ (List.mem_cons_of_mem _ m_345)) (fun _ h9 => h9) rfl d_M_marks_81 ?_
            refine lv_iload_n hx hb d_M_marks_84 rfl (lv_at hl 3 rfl) ?_
            refine va_zald hx hb hK hP 3 2 rfl rfl (vp_in_nI (by omega) (by omega)) d_M_marks_85 ?_
            refine lv_topi (fun w_8 ew_8 => ?_)
            have ew_8 : (bI (mkB R L i k)) = w_8 := (ew_8.trans (by rw [nI_clamp (by omega)]; show bI (mkF R L i (k + 1) k) = _; rw [mkF_at (by omega)])).symm
            subst ew_8
            refine lv_if_eq (tgt := 93) hx hb d_M_marks_86 (by decide) (fun c_86 => ?_) (fun c_86 => ?_)
            · skip
              have c_86 := bI_f c_86
              refine lv_iconst (v := nI 0) hx hb d_M_marks_93 (by decide +kernel) ?_
              refine lv_iadd hx hb d_M_marks_94 ?_
              refine lv_topi (fun w_9 ew_9 => ?_)
              have ew_9 : (nI (cnt (mkB R L i) (k + 1))) = w_9 := (ew_9.trans (by first | (rw [cnt_t (P := mkB R L i) (n := k) c_86]; exact nI_add _ _) | (rw [cnt_f (P := mkB R L i) (n := k) c_86]; exact nI_add _ _))).symm
              subst ew_9
              refine lv_istore_n (lv' := [(2, .int (nI (cnt (mkB R L i) (k + 1)))), (0, .ref jm), (1, .int (nI i)), (3, .int (nI k))]) hx hb d_M_marks_95 rfl hl (by decide) rfl (fun ls hl => ?_)
              refine lv_iinc (v := nI (k + 1)) (lv' := [(3, .int (nI (k + 1))), (2, .int (nI (cnt (mkB R L i) (k + 1)))), (0, .ref jm), (1, .int (nI i))]) hx hb d_M_marks_96 hl (k := 3) rfl (nI_1 _) (by decide) rfl (fun ls hl => ?_)
              refine lv_goto (tgt := 8) hx hb d_M_marks_99 (by decide) ?_
              exact ih_8 (k + 1) (by omega) (by omega) (by omega) _ _ (hP.sub (ws' := [(jm, .inr (3, [.int th, .long sd, .long tp, .int (nI n), .ref ik, .ref iv, .ref ir, .ref il, .ref iy, .ref ig])), (ir, .inl (dr, 86, .inl R)), (il, .inl (dl, 43, .inl (bF L))), (ig, .inl (dg, 43, .inl (bF (mkF R L i (k + 1)))))]) [0, 1, 2, 3] rfl) (hD.sub (ws' := [(jm, .inr (3, [.int th, .long sd, .long tp, .int (nI n), .ref ik, .ref iv, .ref ir, .ref il, .ref iy, .ref ig])), (ir, .inl (dr, 86, .inl R)), (il, .inl (dl, 43, .inl (bF L))), (ig, .inl (dg, 43, .inl (bF (mkF R L i (k + 1)))))]) [0, 1, 2, 3] (by decide) rfl) hS ls (lv_sub (l' := [(0, .ref jm), (1, .int (nI i)), (2, .int (nI (cnt (mkB R L i) (k + 1)))), (3, .int (nI (k + 1)))]) hl [2, 3, 1, 0] rfl)
            · skip
              have c_86 := bI_t c_86
              refine lv_iconst (v := nI 1) hx hb d_M_marks_89 (by decide +kernel) ?_
              refine lv_goto (tgt := 94) hx hb d_M_marks_90 (by decide) ?_
              refine lv_iadd hx hb d_M_marks_94 ?_
              refine lv_topi (fun w_10 ew_10 => ?_)
              have ew_10 : (nI (cnt (mkB R L i) (k + 1))) = w_10 := (ew_10.trans (by first | (rw [cnt_t (P := mkB R L i) (n := k) c_86]; exact nI_add _ _) | (rw [cnt_f (P := mkB R L i) (n := k) c_86]; exact nI_add _ _))).symm
              subst ew_10
              refine lv_istore_n (lv' := [(2, .int (nI (cnt (mkB R L i) (k + 1)))), (0, .ref jm), (1, .int (nI i)), (3, .int (nI k))]) hx hb d_M_marks_95 rfl hl (by decide) rfl (fun ls hl => ?_)
              refine lv_iinc (v := nI (k + 1)) (lv' := [(3, .int (nI (k + 1))), (2, .int (nI (cnt (mkB R L i) (k + 1)))), (0, .ref jm), (1, .int (nI i))]) hx hb d_M_marks_96 hl (k := 3) rfl (nI_1 _) (by decide) rfl (fun ls hl => ?_)
              refine lv_goto (tgt := 8) hx hb d_M_marks_99 (by decide) ?_
              exact ih_8 (k + 1) (by omega) (by omega) (by omega) _ _ (hP.sub (ws' := [(jm, .inr (3, [.int th, .long sd, .long tp, .int (nI n), .ref ik, .ref iv, .ref ir, .ref il, .ref iy, .ref ig])), (ir, .inl (dr, 86, .inl R)), (il, .inl (dl, 43, .inl (bF L))), (ig, .inl (dg, 43, .inl (bF (mkF R L i (k + 1)))))]) [0, 1, 2, 3] rfl) (hD.sub (ws' := [(jm, .inr (3, [.int th, .long sd, .long tp, .int (nI n), .ref ik, .ref iv, .ref ir, .ref il, .ref iy, .ref ig])), (ir, .inl (dr, 86, .inl R)), (il, .inl (dl, 43, .inl (bF L))), (ig, .inl (dg, 43, .inl (bF (mkF R L i (k + 1)))))]) [0, 1, 2, 3] (by decide) rfl) hS ls (lv_sub (l' := [(0, .ref jm), (1, .int (nI i)), (2, .int (nI (cnt (mkB R L i) (k + 1)))), (3, .int (nI (k + 1)))]) hl [2, 3, 1, 0] rfl)
          · skip
            have c_32 := bI_t c_32
            refine lv_aload_n hx hb d_M_marks_35 rfl (lv_at hl 0 rfl) ?_
            refine va_get (D := (dC, dI)) (ci := 3) (v := .ref ir) (C := R_M) (T := F_M) (N := 10) hx hb hts (lay_M _) hown hK hP 0 rfl rfl 6 (by decide) (hts _ (List.mem_cons_of_mem _ m_342)) (fun _ h9 => h9) rfl d_M_marks_36 ?_
            refine lv_iload_n hx hb d_M_marks_39 rfl (lv_at hl 3 rfl) ?_
            refine va_iald hx hb hK hP 1 0 rfl rfl (vp_in_nI (by omega) (by omega)) d_M_marks_40 ?_
            refine lv_topi (fun w_11 ew_11 => ?_)
            rw [nI_clamp (by omega)] at ew_11
            have ew_11 := ew_11.symm
            subst ew_11
            refine lv_iconst (v := (-1)) hx hb d_M_marks_41 (by decide +kernel) ?_
            refine lv_icmp_eq (tgt := 77) hx hb d_M_marks_42 (by decide) (fun c_42 => ?_) (fun c_42 => ?_)
            · skip
              refine lv_iconst (v := nI 0) hx hb d_M_marks_77 (by decide +kernel) ?_
              refine lv_topi (fun w_12 ew_12 => ?_)
              have ew_12 : (bI (mkB R L i k)) = w_12 := (ew_12.trans (by first | (rw [c_70]; rfl) | (rw [mkB_N c_23 c_42]; rfl) | (rw [mkB_L c_23 c_32]; rfl))).symm
              subst ew_12
              refine va_zast hx hb hK hP hD hS 3 2 rfl rfl (vp_in_nI (by omega) (by omega)) d_M_marks_78 (fun H locs hP hD hS => ?_)
              rw [nI_clamp (by omega)] at hP hD
              rw [bI_vp] at hP hD
              have hP : va_P (dC, dI) classes [(jm, .inr (3, [.int th, .long sd, .long tp, .int (nI n), .ref ik, .ref iv, .ref ir, .ref il, .ref iy, .ref ig])), (ir, .inl (dr, 86, .inl R)), (il, .inl (dl, 43, .inl (bF L))), (ig, .inl (dg, 43, .inl (upd (bF (mkF R L i k)) k (bI (mkB R L i k)))))] H := hP
              have hD : va_D A [(jm, .inr (3, [.int th, .long sd, .long tp, .int (nI n), .ref ik, .ref iv, .ref ir, .ref il, .ref iy, .ref ig])), (ir, .inl (dr, 86, .inl R)), (il, .inl (dl, 43, .inl (bF L))), (ig, .inl (dg, 43, .inl (upd (bF (mkF R L i k)) k (bI (mkB R L i k)))))] := hD
              rw [show (upd (bF (mkF R L i k)) k (bI (mkB R L i k))) = (bF (mkF R L i (k + 1))) from ((bF_up _ _ _).trans (congrArg bF (mkF_s rfl)))] at hP hD
              refine lv_iload_n hx hb d_M_marks_79 rfl (lv_at hl 2 rfl) ?_
              refine lv_aload_n hx hb d_M_marks_80 rfl (lv_at hl 0 rfl) ?_
              refine va_get (D := (dC, dI)) (ci := 3) (v := .ref ig) (C := R_M) (T := F_M) (N := 10) hx hb hts (lay_M _) hown hK hP 0 rfl rfl 9 (by decide) (hts _ (List.mem_cons_of_mem _ m_345)) (fun _ h9 => h9) rfl d_M_marks_81 ?_
              refine lv_iload_n hx hb d_M_marks_84 rfl (lv_at hl 3 rfl) ?_
              refine va_zald hx hb hK hP 3 2 rfl rfl (vp_in_nI (by omega) (by omega)) d_M_marks_85 ?_
              refine lv_topi (fun w_13 ew_13 => ?_)
              have ew_13 : (bI (mkB R L i k)) = w_13 := (ew_13.trans (by rw [nI_clamp (by omega)]; show bI (mkF R L i (k + 1) k) = _; rw [mkF_at (by omega)])).symm
              subst ew_13
              refine lv_if_eq (tgt := 93) hx hb d_M_marks_86 (by decide) (fun c_86 => ?_) (fun c_86 => ?_)
              · skip
                have c_86 := bI_f c_86
                refine lv_iconst (v := nI 0) hx hb d_M_marks_93 (by decide +kernel) ?_
                refine lv_iadd hx hb d_M_marks_94 ?_
                refine lv_topi (fun w_14 ew_14 => ?_)
                have ew_14 : (nI (cnt (mkB R L i) (k + 1))) = w_14 := (ew_14.trans (by first | (rw [cnt_t (P := mkB R L i) (n := k) c_86]; exact nI_add _ _) | (rw [cnt_f (P := mkB R L i) (n := k) c_86]; exact nI_add _ _))).symm
                subst ew_14
                refine lv_istore_n (lv' := [(2, .int (nI (cnt (mkB R L i) (k + 1)))), (0, .ref jm), (1, .int (nI i)), (3, .int (nI k))]) hx hb d_M_marks_95 rfl hl (by decide) rfl (fun ls hl => ?_)
                refine lv_iinc (v := nI (k + 1)) (lv' := [(3, .int (nI (k + 1))), (2, .int (nI (cnt (mkB R L i) (k + 1)))), (0, .ref jm), (1, .int (nI i))]) hx hb d_M_marks_96 hl (k := 3) rfl (nI_1 _) (by decide) rfl (fun ls hl => ?_)
                refine lv_goto (tgt := 8) hx hb d_M_marks_99 (by decide) ?_
                exact ih_8 (k + 1) (by omega) (by omega) (by omega) _ _ (hP.sub (ws' := [(jm, .inr (3, [.int th, .long sd, .long tp, .int (nI n), .ref ik, .ref iv, .ref ir, .ref il, .ref iy, .ref ig])), (ir, .inl (dr, 86, .inl R)), (il, .inl (dl, 43, .inl (bF L))), (ig, .inl (dg, 43, .inl (bF (mkF R L i (k + 1)))))]) [0, 1, 2, 3] rfl) (hD.sub (ws' := [(jm, .inr (3, [.int th, .long sd, .long tp, .int (nI n), .ref ik, .ref iv, .ref ir, .ref il, .ref iy, .ref ig])), (ir, .inl (dr, 86, .inl R)), (il, .inl (dl, 43, .inl (bF L))), (ig, .inl (dg, 43, .inl (bF (mkF R L i (k + 1)))))]) [0, 1, 2, 3] (by decide) rfl) hS ls (lv_sub (l' := [(0, .ref jm), (1, .int (nI i)), (2, .int (nI (cnt (mkB R L i) (k + 1)))), (3, .int (nI (k + 1)))]) hl [2, 3, 1, 0] rfl)
              · skip
                have c_86 := bI_t c_86
                refine lv_iconst (v := nI 1) hx hb d_M_marks_89 (by decide +kernel) ?_
                refine lv_goto (tgt := 94) hx hb d_M_marks_90 (by decide) ?_
                refine lv_iadd hx hb d_M_marks_94 ?_
                refine lv_topi (fun w_15 ew_15 => ?_)
                have ew_15 : (nI (cnt (mkB R L i) (k + 1))) = w_15 := (ew_15.trans (by first | (rw [cnt_t (P := mkB R L i) (n := k) c_86]; exact nI_add _ _) | (rw [cnt_f (P := mkB R L i) (n := k) c_86]; exact nI_add _ _))).symm
                subst ew_15
                refine lv_istore_n (lv' := [(2, .int (nI (cnt (mkB R L i) (k + 1)))), (0, .ref jm), (1, .int (nI i)), (3, .int (nI k))]) hx hb d_M_marks_95 rfl hl (by decide) rfl (fun ls hl => ?_)
                refine lv_iinc (v := nI (k + 1)) (lv' := [(3, .int (nI (k + 1))), (2, .int (nI (cnt (mkB R L i) (k + 1)))), (0, .ref jm), (1, .int (nI i))]) hx hb d_M_marks_96 hl (k := 3) rfl (nI_1 _) (by decide) rfl (fun ls hl => ?_)
                refine lv_goto (tgt := 8) hx hb d_M_marks_99 (by decide) ?_
                exact ih_8 (k + 1) (by omega) (by omega) (by omega) _ _ (hP.sub (ws' := [(jm, .inr (3, [.int th, .long sd, .long tp, .int (nI n), .ref ik, .ref iv, .ref ir, .ref il, .ref iy, .ref ig])), (ir, .inl (dr, 86, .inl R)), (il, .inl (dl, 43, .inl (bF L))), (ig, .inl (dg, 43, .inl (bF (mkF R L i (k + 1)))))]) [0, 1, 2, 3] rfl) (hD.sub (ws' := [(jm, .inr (3, [.int th, .long sd, .long tp, .int (nI n), .ref ik, .ref iv, .ref ir, .ref il, .ref iy, .ref ig])), (ir, .inl (dr, 86, .inl R)), (il, .inl (dl, 43, .inl (bF L))), (ig, .inl (dg, 43, .inl (bF (mkF R L i (k + 1)))))]) [0, 1, 2, 3] (by decide) rfl) hS ls (lv_sub (l' := [(0, .ref jm), (1, .int (nI i)), (2, .int (nI (cnt (mkB R L i) (k + 1)))), (3, .int (nI (k + 1)))]) hl [2, 3, 1, 0] rfl)
            · skip
              refine lv_aload_n hx hb d_M_marks_45 rfl (lv_at hl 0 rfl) ?_
              refine va_get (D := (dC, dI)) (ci := 3) (v := .ref ig) (C := R_M) (T := F_M) (N := 10) hx hb hts (lay_M _) hown hK hP 0 rfl rfl 9 (by decide) (hts _ (List.mem_cons_of_mem _ m_345)) (fun _ h9 => h9) rfl d_M_marks_46 ?_
              refine lv_aload_n hx hb d_M_marks_49 rfl (lv_at hl 0 rfl) ?_
              refine va_get (D := (dC, dI)) (ci := 3) (v := .ref ir) (C := R_M) (T := F_M) (N := 10) hx hb hts (lay_M _) hown hK hP 0 rfl rfl 6 (by decide) (hts _ (List.mem_cons_of_mem _ m_342)) (fun _ h9 => h9) rfl d_M_marks_50 ?_
              refine lv_iload_n hx hb d_M_marks_53 rfl (lv_at hl 3 rfl) ?_
              refine va_iald hx hb hK hP 1 0 rfl rfl (vp_in_nI (by omega) (by omega)) d_M_marks_54 ?_
              refine lv_topi (fun w_16 ew_16 => ?_)
              rw [nI_clamp (by omega)] at ew_16
              have ew_16 := ew_16.symm
              subst ew_16
              refine lv_iconst (v := (-1)) hx hb d_M_marks_55 (by decide +kernel) ?_
              refine lv_icmp_ne (tgt := 63) hx hb d_M_marks_56 (by decide) (fun c_56 => ?_) (fun c_56 => ?_)
              · skip
                refine lv_aload_n hx hb d_M_marks_63 rfl (lv_at hl 0 rfl) ?_
                refine va_get (D := (dC, dI)) (ci := 3) (v := .ref ir) (C := R_M) (T := F_M) (N := 10) hx hb hts (lay_M _) hown hK hP 0 rfl rfl 6 (by decide) (hts _ (List.mem_cons_of_mem _ m_342)) (fun _ h9 => h9) rfl d_M_marks_64 ?_
                refine lv_iload_n hx hb d_M_marks_67 rfl (lv_at hl 3 rfl) ?_
                refine va_iald hx hb hK hP 1 0 rfl rfl (vp_in_nI (by omega) (by omega)) d_M_marks_68 ?_
                refine lv_topi (fun w_17 ew_17 => ?_)
                rw [nI_clamp (by omega)] at ew_17
                have ew_17 := ew_17.symm
                subst ew_17
                refine va_zald hx hb hK hP 3 2 rfl rfl (rfK_in hR (by omega) hn (by decide) c_42) d_M_marks_69 ?_
                refine lv_topi (fun w_18 ew_18 => ?_)
                have ew_18 : (bI (mkB R L i k)) = w_18 := (ew_18.trans (by show bI (mkF R L i k (R k).toNatClampNeg) = _; rw [mkF_at (rfK_lt hR (by omega) hn c_42), ← mkB_R c_23 (by omega) c_32 c_42 (rfK_lt hR (by omega) hn c_42)])).symm
                subst ew_18
                refine lv_if_eq (tgt := 77) hx hb d_M_marks_70 (by decide) (fun c_70 => ?_) (fun c_70 => ?_)
                · skip
                  have c_70 := bI_f c_70
                  refine lv_iconst (v := nI 0) hx hb d_M_marks_77 (by decide +kernel) ?_
                  refine lv_topi (fun w_19 ew_19 => ?_)
                  have ew_19 : (bI (mkB R L i k)) = w_19 := (ew_19.trans (by first | (rw [c_70]; rfl) | (rw [mkB_N c_23 c_42]; rfl) | (rw [mkB_L c_23 c_32]; rfl))).symm
                  subst ew_19
                  refine va_zast hx hb hK hP hD hS 3 2 rfl rfl (vp_in_nI (by omega) (by omega)) d_M_marks_78 (fun H locs hP hD hS => ?_)
                  rw [nI_clamp (by omega)] at hP hD
                  rw [bI_vp] at hP hD
                  have hP : va_P (dC, dI) classes [(jm, .inr (3, [.int th, .long sd, .long tp, .int (nI n), .ref ik, .ref iv, .ref ir, .ref il, .ref iy, .ref ig])), (ir, .inl (dr, 86, .inl R)), (il, .inl (dl, 43, .inl (bF L))), (ig, .inl (dg, 43, .inl (upd (bF (mkF R L i k)) k (bI (mkB R L i k)))))] H := hP
                  have hD : va_D A [(jm, .inr (3, [.int th, .long sd, .long tp, .int (nI n), .ref ik, .ref iv, .ref ir, .ref il, .ref iy, .ref ig])), (ir, .inl (dr, 86, .inl R)), (il, .inl (dl, 43, .inl (bF L))), (ig, .inl (dg, 43, .inl (upd (bF (mkF R L i k)) k (bI (mkB R L i k)))))] := hD
                  rw [show (upd (bF (mkF R L i k)) k (bI (mkB R L i k))) = (bF (mkF R L i (k + 1))) from ((bF_up _ _ _).trans (congrArg bF (mkF_s rfl)))] at hP hD
                  refine lv_iload_n hx hb d_M_marks_79 rfl (lv_at hl 2 rfl) ?_
                  refine lv_aload_n hx hb d_M_marks_80 rfl (lv_at hl 0 rfl) ?_
                  refine va_get (D := (dC, dI)) (ci := 3) (v := .ref ig) (C := R_M) (T := F_M) (N := 10) hx hb hts (lay_M _) hown hK hP 0 rfl rfl 9 (by decide) (hts _ (List.mem_cons_of_mem _ m_345)) (fun _ h9 => h9) rfl d_M_marks_81 ?_
                  refine lv_iload_n hx hb d_M_marks_84 rfl (lv_at hl 3 rfl) ?_
                  refine va_zald hx hb hK hP 3 2 rfl rfl (vp_in_nI (by omega) (by omega)) d_M_marks_85 ?_
                  refine lv_topi (fun w_20 ew_20 => ?_)
                  have ew_20 : (bI (mkB R L i k)) = w_20 := (ew_20.trans (by rw [nI_clamp (by omega)]; show bI (mkF R L i (k + 1) k) = _; rw [mkF_at (by omega)])).symm
                  subst ew_20
                  refine lv_if_eq (tgt := 93) hx hb d_M_marks_86 (by decide) (fun c_86 => ?_) (fun c_86 => ?_)
                  · skip
                    have c_86 := bI_f c_86
                    refine lv_iconst (v := nI 0) hx hb d_M_marks_93 (by decide +kernel) ?_
                    refine lv_iadd hx hb d_M_marks_94 ?_
                    refine lv_topi (fun w_21 ew_21 => ?_)
                    have ew_21 : (nI (cnt (mkB R L i) (k + 1))) = w_21 := (ew_21.trans (by first | (rw [cnt_t (P := mkB R L i) (n := k) c_86]; exact nI_add _ _) | (rw [cnt_f (P := mkB R L i) (n := k) c_86]; exact nI_add _ _))).symm
                    subst ew_21
                    refine lv_istore_n (lv' := [(2, .int (nI (cnt (mkB R L i) (k + 1)))), (0, .ref jm), (1, .int (nI i)), (3, .int (nI k))]) hx hb d_M_marks_95 rfl hl (by decide) rfl (fun ls hl => ?_)
                    refine lv_iinc (v := nI (k + 1)) (lv' := [(3, .int (nI (k + 1))), (2, .int (nI (cnt (mkB R L i) (k + 1)))), (0, .ref jm), (1, .int (nI i))]) hx hb d_M_marks_96 hl (k := 3) rfl (nI_1 _) (by decide) rfl (fun ls hl => ?_)
                    refine lv_goto (tgt := 8) hx hb d_M_marks_99 (by decide) ?_
                    exact ih_8 (k + 1) (by omega) (by omega) (by omega) _ _ (hP.sub (ws' := [(jm, .inr (3, [.int th, .long sd, .long tp, .int (nI n), .ref ik, .ref iv, .ref ir, .ref il, .ref iy, .ref ig])), (ir, .inl (dr, 86, .inl R)), (il, .inl (dl, 43, .inl (bF L))), (ig, .inl (dg, 43, .inl (bF (mkF R L i (k + 1)))))]) [0, 1, 2, 3] rfl) (hD.sub (ws' := [(jm, .inr (3, [.int th, .long sd, .long tp, .int (nI n), .ref ik, .ref iv, .ref ir, .ref il, .ref iy, .ref ig])), (ir, .inl (dr, 86, .inl R)), (il, .inl (dl, 43, .inl (bF L))), (ig, .inl (dg, 43, .inl (bF (mkF R L i (k + 1)))))]) [0, 1, 2, 3] (by decide) rfl) hS ls (lv_sub (l' := [(0, .ref jm), (1, .int (nI i)), (2, .int (nI (cnt (mkB R L i) (k + 1)))), (3, .int (nI (k + 1)))]) hl [2, 3, 1, 0] rfl)
                  · skip
                    have c_86 := bI_t c_86
                    refine lv_iconst (v := nI 1) hx hb d_M_marks_89 (by decide +kernel) ?_
                    refine lv_goto (tgt := 94) hx hb d_M_marks_90 (by decide) ?_
                    refine lv_iadd hx hb d_M_marks_94 ?_
                    refine lv_topi (fun w_22 ew_22 => ?_)
                    have ew_22 : (nI (cnt (mkB R L i) (k + 1))) = w_22 := (ew_22.trans (by first | (rw [cnt_t (P := mkB R L i) (n := k) c_86]; exact nI_add _ _) | (rw [cnt_f (P := mkB R L i) (n := k) c_86]; exact nI_add _ _))).symm
                    subst ew_22
                    refine lv_istore_n (lv' := [(2, .int (nI (cnt (mkB R L i) (k + 1)))), (0, .ref jm), (1, .int (nI i)), (3, .int (nI k))]) hx hb d_M_marks_95 rfl hl (by decide) rfl (fun ls hl => ?_)
                    refine lv_iinc (v := nI (k + 1)) (lv' := [(3, .int (nI (k + 1))), (2, .int (nI (cnt (mkB R L i) (k + 1)))), (0, .ref jm), (1, .int (nI i))]) hx hb d_M_marks_96 hl (k := 3) rfl (nI_1 _) (by decide) rfl (fun ls hl => ?_)
                    refine lv_goto (tgt := 8) hx hb d_M_marks_99 (by decide) ?_
                    exact ih_8 (k + 1) (by omega) (by omega) (by omega) _ _ (hP.sub (ws' := [(jm, .inr (3, [.int th, .long sd, .long tp, .int (nI n), .ref ik, .ref iv, .ref ir, .ref il, .ref iy, .ref ig])), (ir, .inl (dr, 86, .inl R)), (il, .inl (dl, 43, .inl (bF L))), (ig, .inl (dg, 43, .inl (bF (mkF R L i (k + 1)))))]) [0, 1, 2, 3] rfl) (hD.sub (ws' := [(jm, .inr (3, [.int th, .long sd, .long tp, .int (nI n), .ref ik, .ref iv, .ref ir, .ref il, .ref iy, .ref ig])), (ir, .inl (dr, 86, .inl R)), (il, .inl (dl, 43, .inl (bF L))), (ig, .inl (dg, 43, .inl (bF (mkF R L i (k + 1)))))]) [0, 1, 2, 3] (by decide) rfl) hS ls (lv_sub (l' := [(0, .ref jm), (1, .int (nI i)), (2, .int (nI (cnt (mkB R L i) (k + 1)))), (3, .int (nI (k + 1)))]) hl [2, 3, 1, 0] rfl)
                · skip
                  have c_70 := bI_t c_70
                  refine lv_iconst (v := nI 1) hx hb d_M_marks_73 (by decide +kernel) ?_
                  refine lv_topi (fun w_23 ew_23 => ?_)
                  have ew_23 : (bI (mkB R L i k)) = w_23 := (ew_23.trans (by first | (rw [c_70]; rfl) | (rw [c_23, mkB_i]; rfl))).symm
                  subst ew_23
                  refine lv_goto (tgt := 78) hx hb d_M_marks_74 (by decide) ?_
                  refine va_zast hx hb hK hP hD hS 3 2 rfl rfl (vp_in_nI (by omega) (by omega)) d_M_marks_78 (fun H locs hP hD hS => ?_)
                  rw [nI_clamp (by omega)] at hP hD
                  rw [bI_vp] at hP hD
                  have hP : va_P (dC, dI) classes [(jm, .inr (3, [.int th, .long sd, .long tp, .int (nI n), .ref ik, .ref iv, .ref ir, .ref il, .ref iy, .ref ig])), (ir, .inl (dr, 86, .inl R)), (il, .inl (dl, 43, .inl (bF L))), (ig, .inl (dg, 43, .inl (upd (bF (mkF R L i k)) k (bI (mkB R L i k)))))] H := hP
                  have hD : va_D A [(jm, .inr (3, [.int th, .long sd, .long tp, .int (nI n), .ref ik, .ref iv, .ref ir, .ref il, .ref iy, .ref ig])), (ir, .inl (dr, 86, .inl R)), (il, .inl (dl, 43, .inl (bF L))), (ig, .inl (dg, 43, .inl (upd (bF (mkF R L i k)) k (bI (mkB R L i k)))))] := hD
                  rw [show (upd (bF (mkF R L i k)) k (bI (mkB R L i k))) = (bF (mkF R L i (k + 1))) from ((bF_up _ _ _).trans (congrArg bF (mkF_s rfl)))] at hP hD
                  refine lv_iload_n hx hb d_M_marks_79 rfl (lv_at hl 2 rfl) ?_
                  refine lv_aload_n hx hb d_M_marks_80 rfl (lv_at hl 0 rfl) ?_
                  refine va_get (D := (dC, dI)) (ci := 3) (v := .ref ig) (C := R_M) (T := F_M) (N := 10) hx hb hts (lay_M _) hown hK hP 0 rfl rfl 9 (by decide) (hts _ (List.mem_cons_of_mem _ m_345)) (fun _ h9 => h9) rfl d_M_marks_81 ?_
                  refine lv_iload_n hx hb d_M_marks_84 rfl (lv_at hl 3 rfl) ?_
                  refine va_zald hx hb hK hP 3 2 rfl rfl (vp_in_nI (by omega) (by omega)) d_M_marks_85 ?_
                  refine lv_topi (fun w_24 ew_24 => ?_)
                  have ew_24 : (bI (mkB R L i k)) = w_24 := (ew_24.trans (by rw [nI_clamp (by omega)]; show bI (mkF R L i (k + 1) k) = _; rw [mkF_at (by omega)])).symm
                  subst ew_24
                  refine lv_if_eq (tgt := 93) hx hb d_M_marks_86 (by decide) (fun c_86 => ?_) (fun c_86 => ?_)
                  · skip
                    have c_86 := bI_f c_86
                    refine lv_iconst (v := nI 0) hx hb d_M_marks_93 (by decide +kernel) ?_
                    refine lv_iadd hx hb d_M_marks_94 ?_
                    refine lv_topi (fun w_25 ew_25 => ?_)
                    have ew_25 : (nI (cnt (mkB R L i) (k + 1))) = w_25 := (ew_25.trans (by first | (rw [cnt_t (P := mkB R L i) (n := k) c_86]; exact nI_add _ _) | (rw [cnt_f (P := mkB R L i) (n := k) c_86]; exact nI_add _ _))).symm
                    subst ew_25
                    refine lv_istore_n (lv' := [(2, .int (nI (cnt (mkB R L i) (k + 1)))), (0, .ref jm), (1, .int (nI i)), (3, .int (nI k))]) hx hb d_M_marks_95 rfl hl (by decide) rfl (fun ls hl => ?_)
                    refine lv_iinc (v := nI (k + 1)) (lv' := [(3, .int (nI (k + 1))), (2, .int (nI (cnt (mkB R L i) (k + 1)))), (0, .ref jm), (1, .int (nI i))]) hx hb d_M_marks_96 hl (k := 3) rfl (nI_1 _) (by decide) rfl (fun ls hl => ?_)
                    refine lv_goto (tgt := 8) hx hb d_M_marks_99 (by decide) ?_
                    exact ih_8 (k + 1) (by omega) (by omega) (by omega) _ _ (hP.sub (ws' := [(jm, .inr (3, [.int th, .long sd, .long tp, .int (nI n), .ref ik, .ref iv, .ref ir, .ref il, .ref iy, .ref ig])), (ir, .inl (dr, 86, .inl R)), (il, .inl (dl, 43, .inl (bF L))), (ig, .inl (dg, 43, .inl (bF (mkF R L i (k + 1)))))]) [0, 1, 2, 3] rfl) (hD.sub (ws' := [(jm, .inr (3, [.int th, .long sd, .long tp, .int (nI n), .ref ik, .ref iv, .ref ir, .ref il, .ref iy, .ref ig])), (ir, .inl (dr, 86, .inl R)), (il, .inl (dl, 43, .inl (bF L))), (ig, .inl (dg, 43, .inl (bF (mkF R L i (k + 1)))))]) [0, 1, 2, 3] (by decide) rfl) hS ls (lv_sub (l' := [(0, .ref jm), (1, .int (nI i)), (2, .int (nI (cnt (mkB R L i) (k + 1)))), (3, .int (nI (k + 1)))]) hl [2, 3, 1, 0] rfl)
                  · skip
                    have c_86 := bI_t c_86
                    refine lv_iconst (v := nI 1) hx hb d_M_marks_89 (by decide +kernel) ?_
                    refine lv_goto (tgt := 94) hx hb d_M_marks_90 (by decide) ?_
                    refine lv_iadd hx hb d_M_marks_94 ?_
                    refine lv_topi (fun w_26 ew_26 => ?_)
                    have ew_26 : (nI (cnt (mkB R L i) (k + 1))) = w_26 := (ew_26.trans (by first | (rw [cnt_t (P := mkB R L i) (n := k) c_86]; exact nI_add _ _) | (rw [cnt_f (P := mkB R L i) (n := k) c_86]; exact nI_add _ _))).symm
                    subst ew_26
                    refine lv_istore_n (lv' := [(2, .int (nI (cnt (mkB R L i) (k + 1)))), (0, .ref jm), (1, .int (nI i)), (3, .int (nI k))]) hx hb d_M_marks_95 rfl hl (by decide) rfl (fun ls hl => ?_)
                    refine lv_iinc (v := nI (k + 1)) (lv' := [(3, .int (nI (k + 1))), (2, .int (nI (cnt (mkB R L i) (k + 1)))), (0, .ref jm), (1, .int (nI i))]) hx hb d_M_marks_96 hl (k := 3) rfl (nI_1 _) (by decide) rfl (fun ls hl => ?_)
                    refine lv_goto (tgt := 8) hx hb d_M_marks_99 (by decide) ?_
                    exact ih_8 (k + 1) (by omega) (by omega) (by omega) _ _ (hP.sub (ws' := [(jm, .inr (3, [.int th, .long sd, .long tp, .int (nI n), .ref ik, .ref iv, .ref ir, .ref il, .ref iy, .ref ig])), (ir, .inl (dr, 86, .inl R)), (il, .inl (dl, 43, .inl (bF L))), (ig, .inl (dg, 43, .inl (bF (mkF R L i (k + 1)))))]) [0, 1, 2, 3] rfl) (hD.sub (ws' := [(jm, .inr (3, [.int th, .long sd, .long tp, .int (nI n), .ref ik, .ref iv, .ref ir, .ref il, .ref iy, .ref ig])), (ir, .inl (dr, 86, .inl R)), (il, .inl (dl, 43, .inl (bF L))), (ig, .inl (dg, 43, .inl (bF (mkF R L i (k + 1)))))]) [0, 1, 2, 3] (by decide) rfl) hS ls (lv_sub (l' := [(0, .ref jm), (1, .int (nI i)), (2, .int (nI (cnt (mkB R L i) (k + 1)))), (3, .int (nI (k + 1)))]) hl [2, 3, 1, 0] rfl)
              · skip
                exact absurd c_56 c_42
  exact lp_8 ((n - i) + 1) i (by omega) (by omega) (by omega) _ _ (hP.sub (ws' := [(jm, .inr (3, [.int th, .long sd, .long tp, .int (nI n), .ref ik, .ref iv, .ref ir, .ref il, .ref iy, .ref ig])), (ir, .inl (dr, 86, .inl R)), (il, .inl (dl, 43, .inl (bF L))), (ig, .inl (dg, 43, .inl (bF (mkF R L i i))))]) [2, 0, 1, 3] rfl) (hD.sub (ws' := [(jm, .inr (3, [.int th, .long sd, .long tp, .int (nI n), .ref ik, .ref iv, .ref ir, .ref il, .ref iy, .ref ig])), (ir, .inl (dr, 86, .inl R)), (il, .inl (dl, 43, .inl (bF L))), (ig, .inl (dg, 43, .inl (bF (mkF R L i i))))]) [2, 0, 1, 3] (by decide) rfl) hS ls (lv_sub (l' := [(0, .ref jm), (1, .int (nI i)), (2, .int (nI (cnt (mkB R L i) i))), (3, .int (nI i))]) hl [2, 3, 1, 0] rfl)
set_option maxHeartbeats 4000000 in
set_option maxRecDepth 100000 in
/-- reference: judged -/
theorem c_M_judged (l : Launch) (dC : Nat → ClassId) (dI : Nat → Nat → Nat) (jm ik iv ir il iy ig : Nat) (n : Nat) (th : Int32) (sd tp : Int64) (dk dv dr dl dg : ClassId) (K V R : Nat → Int32) (L G : Nat → Bool) (hn : n ≤ 43) (hR : rfK n R) : Met l y_M_judged w_M_judged ({ frames := 1, cells := 0, slots := 0, locals := 21 }) (ro_P dC dI [.ref jm] [(jm, .inr (3, [.int th, .long sd, .long tp, .int (nI n), .ref ik, .ref iv, .ref ir, .ref il, .ref iy, .ref ig])), (ik, .inl (dk, 86, .inl K)), (iv, .inl (dv, 86, .inl V)), (ir, .inl (dr, 86, .inl R)), (il, .inl (dl, 43, .inl (bF L))), (ig, .inl (dg, 43, .inl (bF G)))] [(dk, .int), (dv, .int), (dr, .int), (dl, .boolean), (dg, .boolean)]) (vp_Si (fun r => r = jdL K V R L G n)) 0 0 (fun _ => False) := by
  refine Met.ofW (cc := b_M_judged) (maxL := 3) (ret := (Option.some Jvm.ClassFile.FieldType.int)) (by decide) rfl ?_
  intro p e s m args below meth c s₁ B0 hml hv0
  obtain ⟨rfl, hP, hK, hN⟩ := hv0
  have hx := B0.exec
  have hb := B0.bytes
  have hr := B0.returns
  have hts := atoms_spec (ws := w_M_judged) B0.pre
  have hown : s.vm.findClass R_M = some m.cls := findClass_of_methodNamed B0.named
  have hlocks := B0.notSynchronized
  have hP : va_P (dC, dI) classes [(jm, .inr (3, [.int th, .long sd, .long tp, .int (nI n), .ref ik, .ref iv, .ref ir, .ref il, .ref iy, .ref ig])), (ik, .inl (dk, 86, .inl K)), (iv, .inl (dv, 86, .inl V)), (ir, .inl (dr, 86, .inl R)), (il, .inl (dl, 43, .inl (bF L))), (ig, .inl (dg, 43, .inl (bF G)))] s.heap := hP
  have hl := lv_entry ([.ref jm]) (n := 3) (Nat.le_of_ble_eq_true rfl)
  rw [lg_entry_eq]
  generalize (lg_sl ([.ref jm]) ++ List.replicate (3 - (lg_sl ([.ref jm])).length) Slot.unset).toArray = ls at hl ⊢
  have hl : lv_has ls 3 [(0, .ref jm)] := hl
  refine lv_iconst (v := nI 0) hx hb d_M_judged_0 (by decide +kernel) ?_
  refine lv_istore_n (lv' := [(1, .int (nI 0)), (0, .ref jm)]) hx hb d_M_judged_1 rfl hl (by decide) rfl (fun ls hl => ?_)
  refine lv_iconst (v := nI 0) hx hb d_M_judged_2 (by decide +kernel) ?_
  refine lv_istore_n (lv' := [(2, .int (nI 0)), (1, .int (nI 0)), (0, .ref jm)]) hx hb d_M_judged_3 rfl hl (by decide) rfl (fun ls hl => ?_)
  have lp_4 : ∀ (k9_4 : Nat), ∀ (i : Nat), n - i < k9_4 → (i ≤ n) → ∀ (ls : Array Slot), lv_has ls 3 [(0, .ref jm), (1, .int (jdL K V R L G i)), (2, .int (nI i))] → W p l e (headSpec w_M_judged ({ frames := 1, cells := 0, slots := 0, locals := 21 })).room s m ([.ref jm]).toArray below meth c s.heap [] 0 0 (MQ below (vp_Si (fun r => r = jdL K V R L G n)) ([.ref jm]).toArray s 0 0 (fun _ => False)) (F0 m 4 ls []) := by
    intro k9_4
    induction k9_4 with
    | zero =>
      intro i hk9
      exact absurd hk9 (Nat.not_lt_zero _)
    | succ k9_4 ih_4 =>
      intro i hk9_4 hi ls hl
      refine lv_iload_n hx hb d_M_judged_4 rfl (lv_at hl 2 rfl) ?_
      refine lv_aload_n hx hb d_M_judged_5 rfl (lv_at hl 0 rfl) ?_
      refine va_get (D := (dC, dI)) (ci := 3) (v := .int (nI n)) (C := R_M) (T := F_M) (N := 10) hx hb hts (lay_M _) hown hK hP 0 rfl rfl 3 (by decide) (hts _ (List.mem_cons_of_mem _ m_339)) (fun _ h9 => h9) rfl d_M_judged_6 ?_
      refine lv_icmp_ge (tgt := 90) hx hb d_M_judged_9 (by decide) (fun c_9 => ?_) (fun c_9 => ?_)
      · skip
        have c_9 := (nI_leI (by omega) (by omega)).mp c_9
        refine lv_iload_n hx hb d_M_judged_90 rfl (lv_at hl 1 rfl) ?_
        exact W.iret (v := jdL K V R L G i) hx hb hr (fun t ht hW => ⟨jdL K V R L G i, rfl, (by rw [show i = n by omega]), ht⟩) (fun _ h => nomatch h) d_M_judged_91
      · skip
        have c_9 := (not_congr (nI_leI (by omega) (by omega))).mp c_9
        refine lv_aload_n hx hb d_M_judged_12 rfl (lv_at hl 0 rfl) ?_
        refine va_get (D := (dC, dI)) (ci := 3) (v := .ref il) (C := R_M) (T := F_M) (N := 10) hx hb hts (lay_M _) hown hK hP 0 rfl rfl 7 (by decide) (hts _ (List.mem_cons_of_mem _ m_343)) (fun _ h9 => h9) rfl d_M_judged_13 ?_
        refine lv_iload_n hx hb d_M_judged_16 rfl (lv_at hl 2 rfl) ?_
        refine va_zald hx hb hK hP 4 3 rfl rfl (vp_in_nI (by omega) (by omega)) d_M_judged_17 ?_
        refine lv_topi (fun w_1 ew_1 => ?_)
        have ew_1 : (bI (L i)) = w_1 := (ew_1.trans (by rw [nI_clamp (by omega)]; rfl)).symm
        subst ew_1
        refine lv_if_eq (tgt := 84) hx hb d_M_judged_18 (by decide) (fun c_18 => ?_) (fun c_18 => ?_)
        · skip
          have c_18 := bI_f c_18
          rw [show jdL K V R L G i = jdL K V R L G (i + 1) from (jdL_f1 c_18)] at hl
          refine lv_iinc (v := nI (i + 1)) (lv' := [(2, .int (nI (i + 1))), (0, .ref jm), (1, .int (jdL K V R L G (i + 1)))]) hx hb d_M_judged_84 hl (k := 2) rfl (nI_1 _) (by decide) rfl (fun ls hl => ?_)
          refine lv_goto (tgt := 4) hx hb d_M_judged_87 (by decide) ?_
          exact ih_4 (i + 1) (by omega) (by first | assumption | omega) ls (lv_sub (l' := [(0, .ref jm), (1, .int (jdL K V R L G (i + 1))), (2, .int (nI (i + 1)))]) hl [1, 2, 0] rfl)
        · skip
          have c_18 := bI_t c_18
          refine lv_aload_n hx hb d_M_judged_21 rfl (lv_at hl 0 rfl) ?_
          refine va_get (D := (dC, dI)) (ci := 3) (v := .ref ig) (C := R_M) (T := F_M) (N := 10) hx hb hts (lay_M _) hown hK hP 0 rfl rfl 9 (by decide) (hts _ (List.mem_cons_of_mem _ m_345)) (fun _ h9 => h9) rfl d_M_judged_22 ?_
          refine lv_iload_n hx hb d_M_judged_25 rfl (lv_at hl 2 rfl) ?_
          refine va_zald hx hb hK hP 5 4 rfl rfl (vp_in_nI (by omega) (by omega)) d_M_judged_26 ?_
          refine lv_topi (fun w_2 ew_2 => ?_)
          have ew_2 : (bI (G i)) = w_2 := (ew_2.trans (by rw [nI_clamp (by omega)]; rfl)).symm
          subst ew_2
          refine lv_if_ne (tgt := 84) hx hb d_M_judged_27 (by decide) (fun c_27 => ?_) (fun c_27 => ?_)
          · skip
            have c_27 := bI_t c_27
            rw [show jdL K V R L G i = jdL K V R L G (i + 1) from (jdL_f2 c_27)] at hl
            refine lv_iinc (v := nI (i + 1)) (lv' := [(2, .int (nI (i + 1))), (0, .ref jm), (1, .int (jdL K V R L G (i + 1)))]) hx hb d_M_judged_84 hl (k := 2) rfl (nI_1 _) (by decide) rfl (fun ls hl => ?_)
            refine lv_goto (tgt := 4) hx hb d_M_judged_87 (by decide) ?_
            exact ih_4 (i + 1) (by omega) (by first | assumption | omega) ls (lv_sub (l' := [(0, .ref jm), (1, .int (jdL K V R L G (i + 1))), (2, .int (nI (i + 1)))]) hl [1, 2, 0] rfl)
          · skip
            have c_27 := bI_f c_27
            refine lv_iload_n hx hb d_M_judged_30 rfl (lv_at hl 1 rfl) ?_
            refine lv_aload_n hx hb d_M_judged_31 rfl (lv_at hl 0 rfl) ?_
            refine va_get (D := (dC, dI)) (ci := 3) (v := .ref iv) (C := R_M) (T := F_M) (N := 10) hx hb hts (lay_M _) hown hK hP 0 rfl rfl 5 (by decide) (hts _ (List.mem_cons_of_mem _ m_341)) (fun _ h9 => h9) rfl d_M_judged_32 ?_
            refine lv_iload_n hx hb d_M_judged_35 rfl (lv_at hl 2 rfl) ?_
            refine va_iald hx hb hK hP 2 1 rfl rfl (vp_in_nI (by omega) (by omega)) d_M_judged_36 ?_
            refine lv_topi (fun w_3 ew_3 => ?_)
            rw [nI_clamp (by omega)] at ew_3
            have ew_3 := ew_3.symm
            subst ew_3
            refine lv_bipush (v := nI 50) hx hb d_M_judged_37 (by decide +kernel) ?_
            refine lv_icmp_lt (tgt := 53) hx hb d_M_judged_39 (by decide) (fun c_39 => ?_) (fun c_39 => ?_)
            · skip
              refine lv_iconst (v := nI 0) hx hb d_M_judged_53 (by decide +kernel) ?_
              refine lv_ior hx hb d_M_judged_54 ?_
              refine lv_topi (fun w_4 ew_4 => ?_)
              have ew_4 : (jdA K V i (jdL K V R L G i)) = w_4 := (ew_4.trans (by unfold jdA; first | rw [if_pos c_39] | rw [if_neg c_39])).symm
              subst ew_4
              refine lv_istore_n (lv' := [(1, .int (jdA K V i (jdL K V R L G i))), (0, .ref jm), (2, .int (nI i))]) hx hb d_M_judged_55 rfl hl (by decide) rfl (fun ls hl => ?_)
              refine lv_iload_n hx hb d_M_judged_56 rfl (lv_at hl 0 rfl) ?_
              refine lv_aload_n hx hb d_M_judged_57 rfl (lv_at hl 1 rfl) ?_
              refine va_get (D := (dC, dI)) (ci := 3) (v := .ref ik) (C := R_M) (T := F_M) (N := 10) hx hb hts (lay_M _) hown hK hP 0 rfl rfl 4 (by decide) (hts _ (List.mem_cons_of_mem _ m_340)) (fun _ h9 => h9) rfl d_M_judged_58 ?_
              refine lv_iload_n hx hb d_M_judged_61 rfl (lv_at hl 2 rfl) ?_
              refine va_iald hx hb hK hP 1 0 rfl rfl (vp_in_nI (by omega) (by omega)) d_M_judged_62 ?_
              refine lv_topi (fun w_5 ew_5 => ?_)
              rw [nI_clamp (by omega)] at ew_5
              have ew_5 := ew_5.symm
              subst ew_5
              refine lv_iconst (v := nI 5) hx hb d_M_judged_63 (by decide +kernel) ?_
              refine lv_icmp_ne (tgt := 81) hx hb d_M_judged_64 (by decide) (fun c_64 => ?_) (fun c_64 => ?_)
              · skip
                refine lv_iconst (v := nI 0) hx hb d_M_judged_81 (by decide +kernel) ?_
                refine lv_ior hx hb d_M_judged_82 ?_
                refine lv_topi (fun w_6 ew_6 => ?_)
                have ew_6 : (jdL K V R L G (i + 1)) = w_6 := (ew_6.trans (by rw [← jdL_t c_18 c_27]; unfold jdS; first | rw [if_pos (by rw [decide_eq_true c_64, c_72]; rfl)] | rw [if_neg (by rw [c_72]; simp)] | rw [if_neg (by rw [decide_eq_false c_64]; simp)])).symm
                subst ew_6
                refine lv_istore_n (lv' := [(1, .int (jdL K V R L G (i + 1))), (0, .ref jm), (2, .int (nI i))]) hx hb d_M_judged_83 rfl hl (by decide) rfl (fun ls hl => ?_)
                refine lv_iinc (v := nI (i + 1)) (lv' := [(2, .int (nI (i + 1))), (1, .int (jdL K V R L G (i + 1))), (0, .ref jm)]) hx hb d_M_judged_84 hl (k := 2) rfl (nI_1 _) (by decide) rfl (fun ls hl => ?_)
                refine lv_goto (tgt := 4) hx hb d_M_judged_87 (by decide) ?_
                exact ih_4 (i + 1) (by omega) (by first | assumption | omega) ls (lv_sub (l' := [(0, .ref jm), (1, .int (jdL K V R L G (i + 1))), (2, .int (nI (i + 1)))]) hl [2, 1, 0] rfl)
              · skip
                refine lv_aload_n hx hb d_M_judged_67 rfl (lv_at hl 1 rfl) ?_
                refine lv_iload_n hx hb d_M_judged_68 rfl (lv_at hl 2 rfl) ?_
                have hPc := hP.sub (ws' := [(jm, .inr (3, [.int th, .long sd, .long tp, .int (nI n), .ref ik, .ref iv, .ref ir, .ref il, .ref iy, .ref ig])), (iv, .inl (dv, 86, .inl V)), (ir, .inl (dr, 86, .inl R))]) [0, 2, 3] rfl
                have hKc := hK.sub (tys' := [(dv, .int), (dr, .int)]) [1, 2] rfl
                refine vp_callSi (W.runV (As := [.int (nI i)]) (rest := [.int (jdA K V i (jdL K V R L G i))]) ⟨hx, hb, hml, hown, hts⟩ (c_M_isFit l dC dI jm ik iv ir il iy ig n th sd tp dv dr V R i (by first | assumption | omega) (by first | assumption | omega) (by first | assumption | omega)) (cwV 1 hts (g_V big_w m_415 m_417 ms_27 m_4 m_418) rfl rfl rfl (by decide +kernel) ⟨Nat.le_of_ble_eq_true rfl, Nat.le_of_ble_eq_true rfl⟩) (ro_V hPc hKc hN (va_recv hKc hPc (ci := 3) (q0 := 0) rfl rfl)) rfl rfl hl.1 rfl (lv_room (Nat.le_of_ble_eq_true rfl)) d_M_judged_69 ⟨Nat.le_of_ble_eq_true rfl, Nat.le_of_ble_eq_true rfl⟩) (fun r_7 er_7 => ?_)
                have er_7 := er_7.symm
                subst er_7
                refine lv_if_eq (tgt := 81) hx hb d_M_judged_72 (by decide) (fun c_72 => ?_) (fun c_72 => ?_)
                · skip
                  have c_72 := bI_f c_72
                  refine lv_iconst (v := nI 0) hx hb d_M_judged_81 (by decide +kernel) ?_
                  refine lv_ior hx hb d_M_judged_82 ?_
                  refine lv_topi (fun w_8 ew_8 => ?_)
                  have ew_8 : (jdL K V R L G (i + 1)) = w_8 := (ew_8.trans (by rw [← jdL_t c_18 c_27]; unfold jdS; first | rw [if_pos (by rw [decide_eq_true c_64, c_72]; rfl)] | rw [if_neg (by rw [c_72]; simp)] | rw [if_neg (by rw [decide_eq_false c_64]; simp)])).symm
                  subst ew_8
                  refine lv_istore_n (lv' := [(1, .int (jdL K V R L G (i + 1))), (0, .ref jm), (2, .int (nI i))]) hx hb d_M_judged_83 rfl hl (by decide) rfl (fun ls hl => ?_)
                  refine lv_iinc (v := nI (i + 1)) (lv' := [(2, .int (nI (i + 1))), (1, .int (jdL K V R L G (i + 1))), (0, .ref jm)]) hx hb d_M_judged_84 hl (k := 2) rfl (nI_1 _) (by decide) rfl (fun ls hl => ?_)
                  refine lv_goto (tgt := 4) hx hb d_M_judged_87 (by decide) ?_
                  exact ih_4 (i + 1) (by omega) (by first | assumption | omega) ls (lv_sub (l' := [(0, .ref jm), (1, .int (jdL K V R L G (i + 1))), (2, .int (nI (i + 1)))]) hl [2, 1, 0] rfl)
                · skip
                  have c_72 := bI_t c_72
                  refine lv_sipush (v := nI 128) hx hb d_M_judged_75 (by decide +kernel) ?_
                  refine lv_goto (tgt := 82) hx hb d_M_judged_78 (by decide) ?_
                  refine lv_ior hx hb d_M_judged_82 ?_
                  refine lv_topi (fun w_9 ew_9 => ?_)
                  have ew_9 : (jdL K V R L G (i + 1)) = w_9 := (ew_9.trans (by rw [← jdL_t c_18 c_27]; unfold jdS; first | rw [if_pos (by rw [decide_eq_true c_64, c_72]; rfl)] | rw [if_neg (by rw [c_72]; simp)] | rw [if_neg (by rw [decide_eq_false c_64]; simp)])).symm
                  subst ew_9
                  refine lv_istore_n (lv' := [(1, .int (jdL K V R L G (i + 1))), (0, .ref jm), (2, .int (nI i))]) hx hb d_M_judged_83 rfl hl (by decide) rfl (fun ls hl => ?_)
                  refine lv_iinc (v := nI (i + 1)) (lv' := [(2, .int (nI (i + 1))), (1, .int (jdL K V R L G (i + 1))), (0, .ref jm)]) hx hb d_M_judged_84 hl (k := 2) rfl (nI_1 _) (by decide) rfl (fun ls hl => ?_)
                  refine lv_goto (tgt := 4) hx hb d_M_judged_87 (by decide) ?_
                  exact ih_4 (i + 1) (by omega) (by first | assumption | omega) ls (lv_sub (l' := [(0, .ref jm), (1, .int (jdL K V R L G (i + 1))), (2, .int (nI (i + 1)))]) hl [2, 1, 0] rfl)
            · skip
              refine lv_iconst (v := nI 1) hx hb d_M_judged_42 (by decide +kernel) ?_
              refine lv_aload_n hx hb d_M_judged_43 rfl (lv_at hl 0 rfl) ?_
              refine va_get (D := (dC, dI)) (ci := 3) (v := .ref ik) (C := R_M) (T := F_M) (N := 10) hx hb hts (lay_M _) hown hK hP 0 rfl rfl 4 (by decide) (hts _ (List.mem_cons_of_mem _ m_340)) (fun _ h9 => h9) rfl d_M_judged_44 ?_
              refine lv_iload_n hx hb d_M_judged_47 rfl (lv_at hl 2 rfl) ?_
              refine va_iald hx hb hK hP 1 0 rfl rfl (vp_in_nI (by omega) (by omega)) d_M_judged_48 ?_
              refine lv_topi (fun w_10 ew_10 => ?_)
              rw [nI_clamp (by omega)] at ew_10
              have ew_10 := ew_10.symm
              subst ew_10
              refine lv_ishl hx hb d_M_judged_49 ?_
              refine lv_goto (tgt := 54) hx hb d_M_judged_50 (by decide) ?_
              refine lv_ior hx hb d_M_judged_54 ?_
              refine lv_topi (fun w_11 ew_11 => ?_)
              have ew_11 : (jdA K V i (jdL K V R L G i)) = w_11 := (ew_11.trans (by unfold jdA; first | rw [if_pos c_39] | rw [if_neg c_39])).symm
              subst ew_11
              refine lv_istore_n (lv' := [(1, .int (jdA K V i (jdL K V R L G i))), (0, .ref jm), (2, .int (nI i))]) hx hb d_M_judged_55 rfl hl (by decide) rfl (fun ls hl => ?_)
              refine lv_iload_n hx hb d_M_judged_56 rfl (lv_at hl 0 rfl) ?_
              refine lv_aload_n hx hb d_M_judged_57 rfl (lv_at hl 1 rfl) ?_
              refine va_get (D := (dC, dI)) (ci := 3) (v := .ref ik) (C := R_M) (T := F_M) (N := 10) hx hb hts (lay_M _) hown hK hP 0 rfl rfl 4 (by decide) (hts _ (List.mem_cons_of_mem _ m_340)) (fun _ h9 => h9) rfl d_M_judged_58 ?_
              refine lv_iload_n hx hb d_M_judged_61 rfl (lv_at hl 2 rfl) ?_
              refine va_iald hx hb hK hP 1 0 rfl rfl (vp_in_nI (by omega) (by omega)) d_M_judged_62 ?_
              refine lv_topi (fun w_12 ew_12 => ?_)
              rw [nI_clamp (by omega)] at ew_12
              have ew_12 := ew_12.symm
              subst ew_12
              refine lv_iconst (v := nI 5) hx hb d_M_judged_63 (by decide +kernel) ?_
              refine lv_icmp_ne (tgt := 81) hx hb d_M_judged_64 (by decide) (fun c_64 => ?_) (fun c_64 => ?_)
              · skip
                refine lv_iconst (v := nI 0) hx hb d_M_judged_81 (by decide +kernel) ?_
                refine lv_ior hx hb d_M_judged_82 ?_
                refine lv_topi (fun w_13 ew_13 => ?_)
                have ew_13 : (jdL K V R L G (i + 1)) = w_13 := (ew_13.trans (by rw [← jdL_t c_18 c_27]; unfold jdS; first | rw [if_pos (by rw [decide_eq_true c_64, c_72]; rfl)] | rw [if_neg (by rw [c_72]; simp)] | rw [if_neg (by rw [decide_eq_false c_64]; simp)])).symm
                subst ew_13
                refine lv_istore_n (lv' := [(1, .int (jdL K V R L G (i + 1))), (0, .ref jm), (2, .int (nI i))]) hx hb d_M_judged_83 rfl hl (by decide) rfl (fun ls hl => ?_)
                refine lv_iinc (v := nI (i + 1)) (lv' := [(2, .int (nI (i + 1))), (1, .int (jdL K V R L G (i + 1))), (0, .ref jm)]) hx hb d_M_judged_84 hl (k := 2) rfl (nI_1 _) (by decide) rfl (fun ls hl => ?_)
                refine lv_goto (tgt := 4) hx hb d_M_judged_87 (by decide) ?_
                exact ih_4 (i + 1) (by omega) (by first | assumption | omega) ls (lv_sub (l' := [(0, .ref jm), (1, .int (jdL K V R L G (i + 1))), (2, .int (nI (i + 1)))]) hl [2, 1, 0] rfl)
              · skip
                refine lv_aload_n hx hb d_M_judged_67 rfl (lv_at hl 1 rfl) ?_
                refine lv_iload_n hx hb d_M_judged_68 rfl (lv_at hl 2 rfl) ?_
                have hPc := hP.sub (ws' := [(jm, .inr (3, [.int th, .long sd, .long tp, .int (nI n), .ref ik, .ref iv, .ref ir, .ref il, .ref iy, .ref ig])), (iv, .inl (dv, 86, .inl V)), (ir, .inl (dr, 86, .inl R))]) [0, 2, 3] rfl
                have hKc := hK.sub (tys' := [(dv, .int), (dr, .int)]) [1, 2] rfl
                refine vp_callSi (W.runV (As := [.int (nI i)]) (rest := [.int (jdA K V i (jdL K V R L G i))]) ⟨hx, hb, hml, hown, hts⟩ (c_M_isFit l dC dI jm ik iv ir il iy ig n th sd tp dv dr V R i (by first | assumption | omega) (by first | assumption | omega) (by first | assumption | omega)) (cwV 1 hts (g_V big_w m_415 m_417 ms_27 m_4 m_418) rfl rfl rfl (by decide +kernel) ⟨Nat.le_of_ble_eq_true rfl, Nat.le_of_ble_eq_true rfl⟩) (ro_V hPc hKc hN (va_recv hKc hPc (ci := 3) (q0 := 0) rfl rfl)) rfl rfl hl.1 rfl (lv_room (Nat.le_of_ble_eq_true rfl)) d_M_judged_69 ⟨Nat.le_of_ble_eq_true rfl, Nat.le_of_ble_eq_true rfl⟩) (fun r_14 er_14 => ?_)
                have er_14 := er_14.symm
                subst er_14
                refine lv_if_eq (tgt := 81) hx hb d_M_judged_72 (by decide) (fun c_72 => ?_) (fun c_72 => ?_)
                · skip
                  have c_72 := bI_f c_72
                  refine lv_iconst (v := nI 0) hx hb d_M_judged_81 (by decide +kernel) ?_
                  refine lv_ior hx hb d_M_judged_82 ?_
                  refine lv_topi (fun w_15 ew_15 => ?_)
                  have ew_15 : (jdL K V R L G (i + 1)) = w_15 := (ew_15.trans (by rw [← jdL_t c_18 c_27]; unfold jdS; first | rw [if_pos (by rw [decide_eq_true c_64, c_72]; rfl)] | rw [if_neg (by rw [c_72]; simp)] | rw [if_neg (by rw [decide_eq_false c_64]; simp)])).symm
                  subst ew_15
                  refine lv_istore_n (lv' := [(1, .int (jdL K V R L G (i + 1))), (0, .ref jm), (2, .int (nI i))]) hx hb d_M_judged_83 rfl hl (by decide) rfl (fun ls hl => ?_)
                  refine lv_iinc (v := nI (i + 1)) (lv' := [(2, .int (nI (i + 1))), (1, .int (jdL K V R L G (i + 1))), (0, .ref jm)]) hx hb d_M_judged_84 hl (k := 2) rfl (nI_1 _) (by decide) rfl (fun ls hl => ?_)
                  refine lv_goto (tgt := 4) hx hb d_M_judged_87 (by decide) ?_
                  exact ih_4 (i + 1) (by omega) (by first | assumption | omega) ls (lv_sub (l' := [(0, .ref jm), (1, .int (jdL K V R L G (i + 1))), (2, .int (nI (i + 1)))]) hl [2, 1, 0] rfl)
                · skip
                  have c_72 := bI_t c_72
                  refine lv_sipush (v := nI 128) hx hb d_M_judged_75 (by decide +kernel) ?_
                  refine lv_goto (tgt := 82) hx hb d_M_judged_78 (by decide) ?_
                  refine lv_ior hx hb d_M_judged_82 ?_
                  refine lv_topi (fun w_16 ew_16 => ?_)
                  have ew_16 : (jdL K V R L G (i + 1)) = w_16 := (ew_16.trans (by rw [← jdL_t c_18 c_27]; unfold jdS; first | rw [if_pos (by rw [decide_eq_true c_64, c_72]; rfl)] | rw [if_neg (by rw [c_72]; simp)] | rw [if_neg (by rw [decide_eq_false c_64]; simp)])).symm
                  subst ew_16
                  refine lv_istore_n (lv' := [(1, .int (jdL K V R L G (i + 1))), (0, .ref jm), (2, .int (nI i))]) hx hb d_M_judged_83 rfl hl (by decide) rfl (fun ls hl => ?_)
                  refine lv_iinc (v := nI (i + 1)) (lv' := [(2, .int (nI (i + 1))), (1, .int (jdL K V R L G (i + 1))), (0, .ref jm)]) hx hb d_M_judged_84 hl (k := 2) rfl (nI_1 _) (by decide) rfl (fun ls hl => ?_)
                  refine lv_goto (tgt := 4) hx hb d_M_judged_87 (by decide) ?_
                  exact ih_4 (i + 1) (by omega) (by first | assumption | omega) ls (lv_sub (l' := [(0, .ref jm), (1, .int (jdL K V R L G (i + 1))), (2, .int (nI (i + 1)))]) hl [2, 1, 0] rfl)
  exact lp_4 ((n - 0) + 1) 0 (by omega) (by first | assumption | omega) ls (lv_sub (l' := [(0, .ref jm), (1, .int (jdL K V R L G 0)), (2, .int (nI 0))]) hl [2, 1, 0] rfl)
set_option maxHeartbeats 4000000 in
set_option maxRecDepth 100000 in
/-- reference: mayGo -/
theorem c_M_mayGo (l : Launch) (dC : Nat → ClassId) (dI : Nat → Nat → Nat) (jm ik iv ir il iy ig : Nat) (n : Nat) (th : Int32) (sd tp : Int64) (dk dv dr dl dy dg : ClassId) (K V R : Nat → Int32) (L S G : Nat → Bool) (i : Nat) (hn : n ≤ 43) (hR : rfK n R) (hKk : kdK n K) (hi : i < n) (sz : Nat) : Met l y_M_mayGo w_M_mayGo ({ frames := 2, cells := 0, slots := 0, locals := 44 }) (wr_P dC dI [.ref jm, .int (nI i)] [(jm, .inr (3, [.int th, .long sd, .long tp, .int (nI n), .ref ik, .ref iv, .ref ir, .ref il, .ref iy, .ref ig])), (ik, .inl (dk, 86, .inl K)), (iv, .inl (dv, 86, .inl V)), (ir, .inl (dr, 86, .inl R)), (il, .inl (dl, 43, .inl (bF L))), (iy, .inl (dy, 256, .inl (bF S))), (ig, .inl (dg, 43, .inl (bF G)))] [(dk, .int), (dv, .int), (dr, .int), (dl, .boolean), (dy, .boolean), (dg, .boolean)] sz) (va_Qi (fun (r : Int32) (_ : Unit) => r = bI (mgM n K V R S L i)) (fun (u : Unit) => wr_B dC dI (va_A [(jm, .inr (3, [.int th, .long sd, .long tp, .int (nI n), .ref ik, .ref iv, .ref ir, .ref il, .ref iy, .ref ig])), (ik, .inl (dk, 86, .inl K)), (iv, .inl (dv, 86, .inl V)), (ir, .inl (dr, 86, .inl R)), (il, .inl (dl, 43, .inl (bF L))), (iy, .inl (dy, 256, .inl (bF S))), (ig, .inl (dg, 43, .inl (bF G)))] sz) [(jm, .inr (3, [.int th, .long sd, .long tp, .int (nI n), .ref ik, .ref iv, .ref ir, .ref il, .ref iy, .ref ig])), (ik, .inl (dk, 86, .inl K)), (iv, .inl (dv, 86, .inl V)), (ir, .inl (dr, 86, .inl R)), (il, .inl (dl, 43, .inl (bF L))), (iy, .inl (dy, 256, .inl (bF S))), (ig, .inl (dg, 43, .inl (bF (gaS n R L i G))))] [(dk, .int), (dv, .int), (dr, .int), (dl, .boolean), (dy, .boolean), (dg, .boolean)]) (va_A [(jm, .inr (3, [.int th, .long sd, .long tp, .int (nI n), .ref ik, .ref iv, .ref ir, .ref il, .ref iy, .ref ig])), (ik, .inl (dk, 86, .inl K)), (iv, .inl (dv, 86, .inl V)), (ir, .inl (dr, 86, .inl R)), (il, .inl (dl, 43, .inl (bF L))), (iy, .inl (dy, 256, .inl (bF S))), (ig, .inl (dg, 43, .inl (bF G)))] sz)) 0 0 (va_A [(jm, .inr (3, [.int th, .long sd, .long tp, .int (nI n), .ref ik, .ref iv, .ref ir, .ref il, .ref iy, .ref ig])), (ik, .inl (dk, 86, .inl K)), (iv, .inl (dv, 86, .inl V)), (ir, .inl (dr, 86, .inl R)), (il, .inl (dl, 43, .inl (bF L))), (iy, .inl (dy, 256, .inl (bF S))), (ig, .inl (dg, 43, .inl (bF G)))] sz) := by
  refine Met.ofW (cc := b_M_mayGo) (maxL := 2) (ret := (Option.some Jvm.ClassFile.FieldType.boolean)) (by decide) rfl ?_
  intro p e s m args below meth c s₁ B0 hml hv0
  obtain ⟨rfl, hsz, hP, hK, hD0, hN⟩ := hv0
  have hx := B0.exec
  have hb := B0.bytes
  have hr := B0.returns
  have hts := atoms_spec (ws := w_M_mayGo) B0.pre
  have hown : s.vm.findClass R_M = some m.cls := findClass_of_methodNamed B0.named
  have hlocks := B0.notSynchronized
  subst hsz
  have hD := hD0.self (sz := s.heap.size)
  generalize hAe : va_A [(jm, .inr (3, [.int th, .long sd, .long tp, .int (nI n), .ref ik, .ref iv, .ref ir, .ref il, .ref iy, .ref ig])), (ik, .inl (dk, 86, .inl K)), (iv, .inl (dv, 86, .inl V)), (ir, .inl (dr, 86, .inl R)), (il, .inl (dl, 43, .inl (bF L))), (iy, .inl (dy, 256, .inl (bF S))), (ig, .inl (dg, 43, .inl (bF G)))] s.heap.size = A at hD ⊢
  have hA : ∀ q : Nat, s.heap.size ≤ q → A q := fun q h => by rw [← hAe]; exact Or.inr h
  have hS : va_S A s.heap s.heap [] := va_S.rf
  have hP : va_P (dC, dI) classes [(jm, .inr (3, [.int th, .long sd, .long tp, .int (nI n), .ref ik, .ref iv, .ref ir, .ref il, .ref iy, .ref ig])), (ik, .inl (dk, 86, .inl K)), (iv, .inl (dv, 86, .inl V)), (ir, .inl (dr, 86, .inl R)), (il, .inl (dl, 43, .inl (bF L))), (iy, .inl (dy, 256, .inl (bF S))), (ig, .inl (dg, 43, .inl (bF G)))] s.heap := hP
  have hl := lv_entry ([.ref jm, .int (nI i)]) (n := 2) (Nat.le_of_ble_eq_true rfl)
  rw [lg_entry_eq]
  generalize (lg_sl ([.ref jm, .int (nI i)]) ++ List.replicate (2 - (lg_sl ([.ref jm, .int (nI i)])).length) Slot.unset).toArray = ls at hl ⊢
  have hl : lv_has ls 2 [(0, .ref jm), (1, .int (nI i))] := hl
  have hc1 := cnt_le (mkB R L i) n
  have hc2 := cnt_le L n
  refine lv_aload_n hx hb d_M_mayGo_0 rfl (lv_at hl 0 rfl) ?_
  refine va_get (D := (dC, dI)) (ci := 3) (v := .ref il) (C := R_M) (T := F_M) (N := 10) hx hb hts (lay_M _) hown hK hP 0 rfl rfl 7 (by decide) (hts _ (List.mem_cons_of_mem _ m_343)) (fun _ h9 => h9) rfl d_M_mayGo_1 ?_
  refine lv_iload_n hx hb d_M_mayGo_4 rfl (lv_at hl 1 rfl) ?_
  refine va_zald hx hb hK hP 4 3 rfl rfl (vp_in_nI (by omega) (by omega)) d_M_mayGo_5 ?_
  refine lv_topi (fun w_1 ew_1 => ?_)
  have ew_1 : (bI (L i)) = w_1 := (ew_1.trans (by rw [nI_clamp (by omega)]; rfl)).symm
  subst ew_1
  refine lv_if_eq (tgt := 37) hx hb d_M_mayGo_6 (by decide) (fun c_6 => ?_) (fun c_6 => ?_)
  · skip
    have c_6 := bI_f c_6
    refine lv_iconst (v := nI 0) hx hb d_M_mayGo_37 (by decide +kernel) ?_
    rw [show (bF G) = (bF (gaS n R L i G)) from ((congrArg bF (if_neg (by rw [c_6]; decide))).symm)] at hP hD
    have hP9 := hP.sub (ws' := [(jm, .inr (3, [.int th, .long sd, .long tp, .int (nI n), .ref ik, .ref iv, .ref ir, .ref il, .ref iy, .ref ig])), (ik, .inl (dk, 86, .inl K)), (iv, .inl (dv, 86, .inl V)), (ir, .inl (dr, 86, .inl R)), (il, .inl (dl, 43, .inl (bF L))), (iy, .inl (dy, 256, .inl (bF S))), (ig, .inl (dg, 43, .inl (bF (gaS n R L i G))))]) [0, 1, 2, 3, 4, 5, 6] rfl
    have hD9 := hD.sub (ws' := [(jm, .inr (3, [.int th, .long sd, .long tp, .int (nI n), .ref ik, .ref iv, .ref ir, .ref il, .ref iy, .ref ig])), (ik, .inl (dk, 86, .inl K)), (iv, .inl (dv, 86, .inl V)), (ir, .inl (dr, 86, .inl R)), (il, .inl (dl, 43, .inl (bF L))), (iy, .inl (dy, 256, .inl (bF S))), (ig, .inl (dg, 43, .inl (bF (gaS n R L i G))))]) [0, 1, 2, 3, 4, 5, 6] (by decide) rfl
    have hK9 := hK.sub (tys' := [(dk, .int), (dv, .int), (dr, .int), (dl, .boolean), (dy, .boolean), (dg, .boolean)]) [0, 1, 2, 3, 4, 5] rfl
    exact W.zret (v := nI 0) (ty := .boolean) hx hb hr (by decide +kernel) (fun t ht hW => ⟨⟨nI 0, (), rfl, (by unfold mgM; first | (rw [c_6, decide_eq_true (Nat.lt_of_not_le c_18), c_30]; rfl) | (rw [c_6, decide_eq_false (Nat.not_lt.mpr c_18)]; rfl) | (rw [c_6]; rfl)), by rw [ht]; exact hP9, va_K.moved hW.alike hK9, hD9⟩, hS.F ht⟩) hS.2.2 d_M_mayGo_38
  · skip
    have c_6 := bI_t c_6
    refine lv_aload_n hx hb d_M_mayGo_9 rfl (lv_at hl 0 rfl) ?_
    refine lv_iload_n hx hb d_M_mayGo_10 rfl (lv_at hl 1 rfl) ?_
    have hPc := hP.sub (ws' := [(jm, .inr (3, [.int th, .long sd, .long tp, .int (nI n), .ref ik, .ref iv, .ref ir, .ref il, .ref iy, .ref ig])), (ir, .inl (dr, 86, .inl R)), (il, .inl (dl, 43, .inl (bF L))), (ig, .inl (dg, 43, .inl (bF G)))]) [0, 3, 4, 6] rfl
    have hKc := hK.sub (tys' := [(dr, .int), (dl, .boolean), (dg, .boolean)]) [2, 3, 5] rfl
    have hDc := hD.sub (ws' := [(jm, .inr (3, [.int th, .long sd, .long tp, .int (nI n), .ref ik, .ref iv, .ref ir, .ref il, .ref iy, .ref ig])), (ir, .inl (dr, 86, .inl R)), (il, .inl (dl, 43, .inl (bF L))), (ig, .inl (dg, 43, .inl (bF G)))]) [0, 3, 4, 6] (by decide) rfl
    have hFc := va_free (wc := [(jm, .inr (3, [.int th, .long sd, .long tp, .int (nI n), .ref ik, .ref iv, .ref ir, .ref il, .ref iy, .ref ig])), (ir, .inl (dr, 86, .inl R)), (il, .inl (dl, 43, .inl (bF L))), (ig, .inl (dg, 43, .inl (bF G)))]) hD hS hA [0, 3, 4, 6] rfl
    refine va_calli (va_runV (As := [.int (nI i)]) (rest := []) ⟨hx, hb, hml, hown, hts⟩ (c_M_marks l dC dI jm ik iv ir il iy ig n th sd tp dr dl dg R L G i (by first | assumption | omega) (by first | assumption | omega) (by first | assumption | omega) _) (cwV 1 hts (g_V big_w m_447 m_449 ms_32 m_4 m_450) rfl rfl rfl (by decide +kernel) ⟨Nat.le_of_ble_eq_true rfl, Nat.le_of_ble_eq_true rfl⟩) (wr_V hPc hKc hDc hN (va_recv hKc hPc (ci := 3) (q0 := 0) rfl rfl)) rfl rfl hl.1 rfl (lv_room (Nat.le_of_ble_eq_true rfl)) d_M_mayGo_11 ⟨Nat.le_of_ble_eq_true rfl, Nat.le_of_ble_eq_true rfl⟩) hS (fun q _ h => hFc q h) hFc (fun r_2 u t H1 locs ht hvm hw hB hz1 hk1 hS => ?_)
    obtain ⟨hP1, hK1, hD1⟩ := hB
    rw [ht] at hP1
    obtain ⟨hP, hD⟩ := va_join (wr := [(ik, .inl (dk, 86, .inl K)), (iv, .inl (dv, 86, .inl V)), (iy, .inl (dy, 256, .inl (bF S)))]) (w1 := [(jm, .inr (3, [.int th, .long sd, .long tp, .int (nI n), .ref ik, .ref iv, .ref ir, .ref il, .ref iy, .ref ig])), (ir, .inl (dr, 86, .inl R)), (il, .inl (dl, 43, .inl (bF L))), (ig, .inl (dg, 43, .inl (bF (mkF R L i n))))]) hP hD [0, 3, 4, 6] [1, 2, 5] rfl rfl (by decide) (by decide) hk1 hFc hP1 hD1
    generalize H1 = H at hP hS ⊢
    have hP : va_P (dC, dI) classes [(ik, .inl (dk, 86, .inl K)), (iv, .inl (dv, 86, .inl V)), (iy, .inl (dy, 256, .inl (bF S))), (jm, .inr (3, [.int th, .long sd, .long tp, .int (nI n), .ref ik, .ref iv, .ref ir, .ref il, .ref iy, .ref ig])), (ir, .inl (dr, 86, .inl R)), (il, .inl (dl, 43, .inl (bF L))), (ig, .inl (dg, 43, .inl (bF (mkF R L i n))))] H := hP
    have hD : va_D A [(ik, .inl (dk, 86, .inl K)), (iv, .inl (dv, 86, .inl V)), (iy, .inl (dy, 256, .inl (bF S))), (jm, .inr (3, [.int th, .long sd, .long tp, .int (nI n), .ref ik, .ref iv, .ref ir, .ref il, .ref iy, .ref ig])), (ir, .inl (dr, 86, .inl R)), (il, .inl (dl, 43, .inl (bF L))), (ig, .inl (dg, 43, .inl (bF (mkF R L i n))))] := hD
    have hw := hw.symm
    subst hw
    refine lv_aload_n hx hb d_M_mayGo_14 rfl (lv_at hl 0 rfl) ?_
    have hPc := hP.sub (ws' := [(jm, .inr (3, [.int th, .long sd, .long tp, .int (nI n), .ref ik, .ref iv, .ref ir, .ref il, .ref iy, .ref ig])), (il, .inl (dl, 43, .inl (bF L)))]) [3, 5] rfl
    have hKc := hK.sub (tys' := [(dl, .boolean)]) [3] rfl
    refine vp_callSi (W.runV (As := []) (rest := [.int (nI (cnt (mkB R L i) n))]) ⟨hx, hb, hml, hown, hts⟩ (c_M_many l dC dI jm ik iv ir il iy ig n th sd tp dl L (by first | assumption | omega)) (cwV 0 hts (g_V big_w m_451 m_453 ms_33 m_4 m_454) rfl rfl rfl (by decide +kernel) ⟨Nat.le_of_ble_eq_true rfl, Nat.le_of_ble_eq_true rfl⟩) (ro_V hPc hKc hN (va_recv hKc hPc (ci := 3) (q0 := 0) rfl rfl)) rfl rfl hl.1 rfl (lv_room (Nat.le_of_ble_eq_true rfl)) d_M_mayGo_15 ⟨Nat.le_of_ble_eq_true rfl, Nat.le_of_ble_eq_true rfl⟩) (fun r_3 er_3 => ?_)
    have er_3 := er_3.symm
    subst er_3
    refine lv_icmp_ge (tgt := 37) hx hb d_M_mayGo_18 (by decide) (fun c_18 => ?_) (fun c_18 => ?_)
    · skip
      have c_18 := (nI_leI (by omega) (by omega)).mp c_18
      refine lv_iconst (v := nI 0) hx hb d_M_mayGo_37 (by decide +kernel) ?_
      rw [show (bF (mkF R L i n)) = (bF (gaS n R L i G)) from ((congrArg bF (if_pos c_6)).symm)] at hP hD
      have hP9 := hP.sub (ws' := [(jm, .inr (3, [.int th, .long sd, .long tp, .int (nI n), .ref ik, .ref iv, .ref ir, .ref il, .ref iy, .ref ig])), (ik, .inl (dk, 86, .inl K)), (iv, .inl (dv, 86, .inl V)), (ir, .inl (dr, 86, .inl R)), (il, .inl (dl, 43, .inl (bF L))), (iy, .inl (dy, 256, .inl (bF S))), (ig, .inl (dg, 43, .inl (bF (gaS n R L i G))))]) [3, 0, 1, 4, 5, 2, 6] rfl
      have hD9 := hD.sub (ws' := [(jm, .inr (3, [.int th, .long sd, .long tp, .int (nI n), .ref ik, .ref iv, .ref ir, .ref il, .ref iy, .ref ig])), (ik, .inl (dk, 86, .inl K)), (iv, .inl (dv, 86, .inl V)), (ir, .inl (dr, 86, .inl R)), (il, .inl (dl, 43, .inl (bF L))), (iy, .inl (dy, 256, .inl (bF S))), (ig, .inl (dg, 43, .inl (bF (gaS n R L i G))))]) [3, 0, 1, 4, 5, 2, 6] (by decide) rfl
      have hK9 := hK.sub (tys' := [(dk, .int), (dv, .int), (dr, .int), (dl, .boolean), (dy, .boolean), (dg, .boolean)]) [0, 1, 2, 3, 4, 5] rfl
      exact W.zret (v := nI 0) (ty := .boolean) hx hb hr (by decide +kernel) (fun t ht hW => ⟨⟨nI 0, (), rfl, (by unfold mgM; first | (rw [c_6, decide_eq_true (Nat.lt_of_not_le c_18), c_30]; rfl) | (rw [c_6, decide_eq_false (Nat.not_lt.mpr c_18)]; rfl) | (rw [c_6]; rfl)), by rw [ht]; exact hP9, va_K.moved hW.alike hK9, hD9⟩, hS.F ht⟩) hS.2.2 d_M_mayGo_38
    · skip
      have c_18 := (not_congr (nI_leI (by omega) (by omega))).mp c_18
      refine lv_aload_n hx hb d_M_mayGo_21 rfl (lv_at hl 0 rfl) ?_
      refine va_get (D := (dC, dI)) (ci := 3) (v := .ref iy) (C := R_M) (T := F_M) (N := 10) hx hb hts (lay_M _) hown hK hP 3 rfl rfl 8 (by decide) (hts _ (List.mem_cons_of_mem _ m_344)) (fun _ h9 => h9) rfl d_M_mayGo_22 ?_
      refine lv_aload_n hx hb d_M_mayGo_25 rfl (lv_at hl 0 rfl) ?_
      have hPc := hP.sub (ws' := [(jm, .inr (3, [.int th, .long sd, .long tp, .int (nI n), .ref ik, .ref iv, .ref ir, .ref il, .ref iy, .ref ig])), (ik, .inl (dk, 86, .inl K)), (iv, .inl (dv, 86, .inl V)), (ir, .inl (dr, 86, .inl R)), (il, .inl (dl, 43, .inl (bF L))), (ig, .inl (dg, 43, .inl (bF (mkF R L i n))))]) [3, 0, 1, 4, 5, 6] rfl
      have hKc := hK.sub (tys' := [(dk, .int), (dv, .int), (dr, .int), (dl, .boolean), (dg, .boolean)]) [0, 1, 2, 3, 5] rfl
      refine vp_callSi (W.runV (As := []) (rest := [.ref iy]) ⟨hx, hb, hml, hown, hts⟩ (c_M_judged l dC dI jm ik iv ir il iy ig n th sd tp dk dv dr dl dg K V R L (mkF R L i n) (by first | assumption | omega) (by first | assumption | omega)) (cwV 0 hts (g_V big_w m_431 m_433 ms_29 m_4 m_434) rfl rfl rfl (by decide +kernel) ⟨Nat.le_of_ble_eq_true rfl, Nat.le_of_ble_eq_true rfl⟩) (ro_V hPc hKc hN (va_recv hKc hPc (ci := 3) (q0 := 0) rfl rfl)) rfl rfl hl.1 rfl (lv_room (Nat.le_of_ble_eq_true rfl)) d_M_mayGo_26 ⟨Nat.le_of_ble_eq_true rfl, Nat.le_of_ble_eq_true rfl⟩) (fun r_4 er_4 => ?_)
      have er_4 := er_4.symm
      subst er_4
      refine va_zald hx hb hK hP 2 4 rfl rfl (jdL_in hKk) d_M_mayGo_29 ?_
      refine lv_topi (fun w_5 ew_5 => ?_)
      have ew_5 : (bI (S (jdL K V R L (mkF R L i n) n).toNatClampNeg)) = w_5 := (ew_5.trans (rfl)).symm
      subst ew_5
      refine lv_if_eq (tgt := 37) hx hb d_M_mayGo_30 (by decide) (fun c_30 => ?_) (fun c_30 => ?_)
      · skip
        have c_30 := bI_f c_30
        refine lv_iconst (v := nI 0) hx hb d_M_mayGo_37 (by decide +kernel) ?_
        rw [show (bF (mkF R L i n)) = (bF (gaS n R L i G)) from ((congrArg bF (if_pos c_6)).symm)] at hP hD
        have hP9 := hP.sub (ws' := [(jm, .inr (3, [.int th, .long sd, .long tp, .int (nI n), .ref ik, .ref iv, .ref ir, .ref il, .ref iy, .ref ig])), (ik, .inl (dk, 86, .inl K)), (iv, .inl (dv, 86, .inl V)), (ir, .inl (dr, 86, .inl R)), (il, .inl (dl, 43, .inl (bF L))), (iy, .inl (dy, 256, .inl (bF S))), (ig, .inl (dg, 43, .inl (bF (gaS n R L i G))))]) [3, 0, 1, 4, 5, 2, 6] rfl
        have hD9 := hD.sub (ws' := [(jm, .inr (3, [.int th, .long sd, .long tp, .int (nI n), .ref ik, .ref iv, .ref ir, .ref il, .ref iy, .ref ig])), (ik, .inl (dk, 86, .inl K)), (iv, .inl (dv, 86, .inl V)), (ir, .inl (dr, 86, .inl R)), (il, .inl (dl, 43, .inl (bF L))), (iy, .inl (dy, 256, .inl (bF S))), (ig, .inl (dg, 43, .inl (bF (gaS n R L i G))))]) [3, 0, 1, 4, 5, 2, 6] (by decide) rfl
        have hK9 := hK.sub (tys' := [(dk, .int), (dv, .int), (dr, .int), (dl, .boolean), (dy, .boolean), (dg, .boolean)]) [0, 1, 2, 3, 4, 5] rfl
        exact W.zret (v := nI 0) (ty := .boolean) hx hb hr (by decide +kernel) (fun t ht hW => ⟨⟨nI 0, (), rfl, (by unfold mgM; first | (rw [c_6, decide_eq_true (Nat.lt_of_not_le c_18), c_30]; rfl) | (rw [c_6, decide_eq_false (Nat.not_lt.mpr c_18)]; rfl) | (rw [c_6]; rfl)), by rw [ht]; exact hP9, va_K.moved hW.alike hK9, hD9⟩, hS.F ht⟩) hS.2.2 d_M_mayGo_38
      · skip
        have c_30 := bI_t c_30
        refine lv_iconst (v := nI 1) hx hb d_M_mayGo_33 (by decide +kernel) ?_
        refine lv_goto (tgt := 38) hx hb d_M_mayGo_34 (by decide) ?_
        rw [show (bF (mkF R L i n)) = (bF (gaS n R L i G)) from ((congrArg bF (if_pos c_6)).symm)] at hP hD
        have hP9 := hP.sub (ws' := [(jm, .inr (3, [.int th, .long sd, .long tp, .int (nI n), .ref ik, .ref iv, .ref ir, .ref il, .ref iy, .ref ig])), (ik, .inl (dk, 86, .inl K)), (iv, .inl (dv, 86, .inl V)), (ir, .inl (dr, 86, .inl R)), (il, .inl (dl, 43, .inl (bF L))), (iy, .inl (dy, 256, .inl (bF S))), (ig, .inl (dg, 43, .inl (bF (gaS n R L i G))))]) [3, 0, 1, 4, 5, 2, 6] rfl
        have hD9 := hD.sub (ws' := [(jm, .inr (3, [.int th, .long sd, .long tp, .int (nI n), .ref ik, .ref iv, .ref ir, .ref il, .ref iy, .ref ig])), (ik, .inl (dk, 86, .inl K)), (iv, .inl (dv, 86, .inl V)), (ir, .inl (dr, 86, .inl R)), (il, .inl (dl, 43, .inl (bF L))), (iy, .inl (dy, 256, .inl (bF S))), (ig, .inl (dg, 43, .inl (bF (gaS n R L i G))))]) [3, 0, 1, 4, 5, 2, 6] (by decide) rfl
        have hK9 := hK.sub (tys' := [(dk, .int), (dv, .int), (dr, .int), (dl, .boolean), (dy, .boolean), (dg, .boolean)]) [0, 1, 2, 3, 4, 5] rfl
        exact W.zret (v := nI 1) (ty := .boolean) hx hb hr (by decide +kernel) (fun t ht hW => ⟨⟨nI 1, (), rfl, (by unfold mgM; first | (rw [c_6, decide_eq_true (Nat.lt_of_not_le c_18), c_30]; rfl) | (rw [c_6, decide_eq_false (Nat.not_lt.mpr c_18)]; rfl) | (rw [c_6]; rfl)), by rw [ht]; exact hP9, va_K.moved hW.alike hK9, hD9⟩, hS.F ht⟩) hS.2.2 d_M_mayGo_38
set_option maxHeartbeats 4000000 in
set_option maxRecDepth 100000 in
/-- reference: first -/
theorem c_M_first (l : Launch) (dC : Nat → ClassId) (dI : Nat → Nat → Nat) (jm ik iv ir il iy ig : Nat) (n : Nat) (th : Int32) (sd tp : Int64) (dk dv dr dl dy dg : ClassId) (K V R : Nat → Int32) (L S G : Nat → Bool)  (hn : n ≤ 43) (hR : rfK n R) (hKk : kdK n K) (sz : Nat) : Met l y_M_first w_M_first ({ frames := 3, cells := 0, slots := 0, locals := 65 }) (wr_P dC dI [.ref jm] [(jm, .inr (3, [.int th, .long sd, .long tp, .int (nI n), .ref ik, .ref iv, .ref ir, .ref il, .ref iy, .ref ig])), (ik, .inl (dk, 86, .inl K)), (iv, .inl (dv, 86, .inl V)), (ir, .inl (dr, 86, .inl R)), (il, .inl (dl, 43, .inl (bF L))), (iy, .inl (dy, 256, .inl (bF S))), (ig, .inl (dg, 43, .inl (bF G)))] [(dk, .int), (dv, .int), (dr, .int), (dl, .boolean), (dy, .boolean), (dg, .boolean)] sz) (va_Qi (fun (r : Int32) (_ : Unit) => r = oI (mgO n K V R S L)) (fun (u : Unit) => wr_B dC dI (va_A [(jm, .inr (3, [.int th, .long sd, .long tp, .int (nI n), .ref ik, .ref iv, .ref ir, .ref il, .ref iy, .ref ig])), (ik, .inl (dk, 86, .inl K)), (iv, .inl (dv, 86, .inl V)), (ir, .inl (dr, 86, .inl R)), (il, .inl (dl, 43, .inl (bF L))), (iy, .inl (dy, 256, .inl (bF S))), (ig, .inl (dg, 43, .inl (bF G)))] sz) [(jm, .inr (3, [.int th, .long sd, .long tp, .int (nI n), .ref ik, .ref iv, .ref ir, .ref il, .ref iy, .ref ig])), (ik, .inl (dk, 86, .inl K)), (iv, .inl (dv, 86, .inl V)), (ir, .inl (dr, 86, .inl R)), (il, .inl (dl, 43, .inl (bF L))), (iy, .inl (dy, 256, .inl (bF S))), (ig, .inl (dg, 43, .inl (bF (gaE n K V R S L G))))] [(dk, .int), (dv, .int), (dr, .int), (dl, .boolean), (dy, .boolean), (dg, .boolean)]) (va_A [(jm, .inr (3, [.int th, .long sd, .long tp, .int (nI n), .ref ik, .ref iv, .ref ir, .ref il, .ref iy, .ref ig])), (ik, .inl (dk, 86, .inl K)), (iv, .inl (dv, 86, .inl V)), (ir, .inl (dr, 86, .inl R)), (il, .inl (dl, 43, .inl (bF L))), (iy, .inl (dy, 256, .inl (bF S))), (ig, .inl (dg, 43, .inl (bF G)))] sz)) 0 0 (va_A [(jm, .inr (3, [.int th, .long sd, .long tp, .int (nI n), .ref ik, .ref iv, .ref ir, .ref il, .ref iy, .ref ig])), (ik, .inl (dk, 86, .inl K)), (iv, .inl (dv, 86, .inl V)), (ir, .inl (dr, 86, .inl R)), (il, .inl (dl, 43, .inl (bF L))), (iy, .inl (dy, 256, .inl (bF S))), (ig, .inl (dg, 43, .inl (bF G)))] sz) := by
  refine Met.ofW (cc := b_M_first) (maxL := 2) (ret := (Option.some Jvm.ClassFile.FieldType.int)) (by decide) rfl ?_
  intro p e s m args below meth c s₁ B0 hml hv0
  obtain ⟨rfl, hsz, hP, hK, hD0, hN⟩ := hv0
  have hx := B0.exec
  have hb := B0.bytes
  have hr := B0.returns
  have hts := atoms_spec (ws := w_M_first) B0.pre
  have hown : s.vm.findClass R_M = some m.cls := findClass_of_methodNamed B0.named
  have hlocks := B0.notSynchronized
  subst hsz
  have hD := hD0.self (sz := s.heap.size)
  generalize hAe : va_A [(jm, .inr (3, [.int th, .long sd, .long tp, .int (nI n), .ref ik, .ref iv, .ref ir, .ref il, .ref iy, .ref ig])), (ik, .inl (dk, 86, .inl K)), (iv, .inl (dv, 86, .inl V)), (ir, .inl (dr, 86, .inl R)), (il, .inl (dl, 43, .inl (bF L))), (iy, .inl (dy, 256, .inl (bF S))), (ig, .inl (dg, 43, .inl (bF G)))] s.heap.size = A at hD ⊢
  have hA : ∀ q : Nat, s.heap.size ≤ q → A q := fun q h => by rw [← hAe]; exact Or.inr h
  have hS : va_S A s.heap s.heap [] := va_S.rf
  have hP : va_P (dC, dI) classes [(jm, .inr (3, [.int th, .long sd, .long tp, .int (nI n), .ref ik, .ref iv, .ref ir, .ref il, .ref iy, .ref ig])), (ik, .inl (dk, 86, .inl K)), (iv, .inl (dv, 86, .inl V)), (ir, .inl (dr, 86, .inl R)), (il, .inl (dl, 43, .inl (bF L))), (iy, .inl (dy, 256, .inl (bF S))), (ig, .inl (dg, 43, .inl (bF G)))] s.heap := hP
  have hl := lv_entry ([.ref jm]) (n := 2) (Nat.le_of_ble_eq_true rfl)
  rw [lg_entry_eq]
  generalize (lg_sl ([.ref jm]) ++ List.replicate (2 - (lg_sl ([.ref jm])).length) Slot.unset).toArray = ls at hl ⊢
  have hl : lv_has ls 2 [(0, .ref jm)] := hl
  refine lv_iconst (v := nI 0) hx hb d_M_first_0 (by decide +kernel) ?_
  refine lv_istore_n (lv' := [(1, .int (nI 0)), (0, .ref jm)]) hx hb d_M_first_1 rfl hl (by decide) rfl (fun ls hl => ?_)
  have lp_2 : ∀ (k9_2 : Nat), ∀ (i : Nat), n - i < k9_2 → (i ≤ n) → (∀ a, a < i → mgM n K V R S L a = false) → ∀ (H : Heap) (locs : List Loc), va_P (dC, dI) classes [(jm, .inr (3, [.int th, .long sd, .long tp, .int (nI n), .ref ik, .ref iv, .ref ir, .ref il, .ref iy, .ref ig])), (ik, .inl (dk, 86, .inl K)), (iv, .inl (dv, 86, .inl V)), (ir, .inl (dr, 86, .inl R)), (il, .inl (dl, 43, .inl (bF L))), (iy, .inl (dy, 256, .inl (bF S))), (ig, .inl (dg, 43, .inl (bF (gaF n R L G i))))] H → va_D A [(jm, .inr (3, [.int th, .long sd, .long tp, .int (nI n), .ref ik, .ref iv, .ref ir, .ref il, .ref iy, .ref ig])), (ik, .inl (dk, 86, .inl K)), (iv, .inl (dv, 86, .inl V)), (ir, .inl (dr, 86, .inl R)), (il, .inl (dl, 43, .inl (bF L))), (iy, .inl (dy, 256, .inl (bF S))), (ig, .inl (dg, 43, .inl (bF (gaF n R L G i))))] → va_S A s.heap H locs → ∀ (ls : Array Slot), lv_has ls 2 [(0, .ref jm), (1, .int (nI i))] → W p l e (headSpec w_M_first ({ frames := 3, cells := 0, slots := 0, locals := 65 })).room s m ([.ref jm]).toArray below meth c H locs 0 0 (MQ below (va_Qi (fun (r : Int32) (_ : Unit) => r = oI (mgO n K V R S L)) (fun (u : Unit) => wr_B dC dI (A) [(jm, .inr (3, [.int th, .long sd, .long tp, .int (nI n), .ref ik, .ref iv, .ref ir, .ref il, .ref iy, .ref ig])), (ik, .inl (dk, 86, .inl K)), (iv, .inl (dv, 86, .inl V)), (ir, .inl (dr, 86, .inl R)), (il, .inl (dl, 43, .inl (bF L))), (iy, .inl (dy, 256, .inl (bF S))), (ig, .inl (dg, 43, .inl (bF (gaE n K V R S L G))))] [(dk, .int), (dv, .int), (dr, .int), (dl, .boolean), (dy, .boolean), (dg, .boolean)]) (A)) ([.ref jm]).toArray s 0 0 A) (F0 m 2 ls []) := by
    intro k9_2
    induction k9_2 with
    | zero =>
      intro i hk9
      exact absurd hk9 (Nat.not_lt_zero _)
    | succ k9_2 ih_2 =>
      intro i hk9_2 hi hno H locs hP hD hS ls hl
      refine lv_iload_n hx hb d_M_first_2 rfl (lv_at hl 1 rfl) ?_
      refine lv_aload_n hx hb d_M_first_3 rfl (lv_at hl 0 rfl) ?_
      refine va_get (D := (dC, dI)) (ci := 3) (v := .int (nI n)) (C := R_M) (T := F_M) (N := 10) hx hb hts (lay_M _) hown hK hP 0 rfl rfl 3 (by decide) (hts _ (List.mem_cons_of_mem _ m_339)) (fun _ h9 => h9) rfl d_M_first_4 ?_
      refine lv_icmp_ge (tgt := 26) hx hb d_M_first_7 (by decide) (fun c_7 => ?_) (fun c_7 => ?_)
      · skip
        have c_7 := (nI_leI (by omega) (by omega)).mp c_7
        refine lv_iconst (v := (-1)) hx hb d_M_first_26 (by decide +kernel) ?_
        rw [show i = n by omega] at hP hD
        rw [show (bF (gaF n R L G n)) = (bF (gaE n K V R S L G)) from (congrArg bF (ga_none (fun a ha => hno a (by omega))))] at hP hD
        have hP9 := hP.sub (ws' := [(jm, .inr (3, [.int th, .long sd, .long tp, .int (nI n), .ref ik, .ref iv, .ref ir, .ref il, .ref iy, .ref ig])), (ik, .inl (dk, 86, .inl K)), (iv, .inl (dv, 86, .inl V)), (ir, .inl (dr, 86, .inl R)), (il, .inl (dl, 43, .inl (bF L))), (iy, .inl (dy, 256, .inl (bF S))), (ig, .inl (dg, 43, .inl (bF (gaE n K V R S L G))))]) [0, 1, 2, 3, 4, 5, 6] rfl
        have hD9 := hD.sub (ws' := [(jm, .inr (3, [.int th, .long sd, .long tp, .int (nI n), .ref ik, .ref iv, .ref ir, .ref il, .ref iy, .ref ig])), (ik, .inl (dk, 86, .inl K)), (iv, .inl (dv, 86, .inl V)), (ir, .inl (dr, 86, .inl R)), (il, .inl (dl, 43, .inl (bF L))), (iy, .inl (dy, 256, .inl (bF S))), (ig, .inl (dg, 43, .inl (bF (gaE n K V R S L G))))]) [0, 1, 2, 3, 4, 5, 6] (by decide) rfl
        have hK9 := hK.sub (tys' := [(dk, .int), (dv, .int), (dr, .int), (dl, .boolean), (dy, .boolean), (dg, .boolean)]) [0, 1, 2, 3, 4, 5] rfl
        exact W.iret (v := (-1)) hx hb hr (fun t ht hW => ⟨⟨(-1), (), rfl, (by unfold mgO; rw [fst9_none (fun a ha => hno a (by omega))]; rfl), by rw [ht]; exact hP9, va_K.moved hW.alike hK9, hD9⟩, hS.F ht⟩) hS.2.2 d_M_first_27
      · skip
        have c_7 := (not_congr (nI_leI (by omega) (by omega))).mp c_7
        refine lv_aload_n hx hb d_M_first_10 rfl (lv_at hl 0 rfl) ?_
        refine lv_iload_n hx hb d_M_first_11 rfl (lv_at hl 1 rfl) ?_
        have hPc := hP.sub (ws' := [(jm, .inr (3, [.int th, .long sd, .long tp, .int (nI n), .ref ik, .ref iv, .ref ir, .ref il, .ref iy, .ref ig])), (ik, .inl (dk, 86, .inl K)), (iv, .inl (dv, 86, .inl V)), (ir, .inl (dr, 86, .inl R)), (il, .inl (dl, 43, .inl (bF L))), (iy, .inl (dy, 256, .inl (bF S))), (ig, .inl (dg, 43, .inl (bF (gaF n R L G i))))]) [0, 1, 2, 3, 4, 5, 6] rfl
        have hKc := hK.sub (tys' := [(dk, .int), (dv, .int), (dr, .int), (dl, .boolean), (dy, .boolean), (dg, .boolean)]) [0, 1, 2, 3, 4, 5] rfl
        have hDc := hD.sub (ws' := [(jm, .inr (3, [.int th, .long sd, .long tp, .int (nI n), .ref ik, .ref iv, .ref ir, .ref il, .ref iy, .ref ig])), (ik, .inl (dk, 86, .inl K)), (iv, .inl (dv, 86, .inl V)), (ir, .inl (dr, 86, .inl R)), (il, .inl (dl, 43, .inl (bF L))), (iy, .inl (dy, 256, .inl (bF S))), (ig, .inl (dg, 43, .inl (bF (gaF n R L G i))))]) [0, 1, 2, 3, 4, 5, 6] (by decide) rfl
        have hFc := va_free (wc := [(jm, .inr (3, [.int th, .long sd, .long tp, .int (nI n), .ref ik, .ref iv, .ref ir, .ref il, .ref iy, .ref ig])), (ik, .inl (dk, 86, .inl K)), (iv, .inl (dv, 86, .inl V)), (ir, .inl (dr, 86, .inl R)), (il, .inl (dl, 43, .inl (bF L))), (iy, .inl (dy, 256, .inl (bF S))), (ig, .inl (dg, 43, .inl (bF (gaF n R L G i))))]) hD hS hA [0, 1, 2, 3, 4, 5, 6] rfl
        refine va_calli (va_runV (As := [.int (nI i)]) (rest := []) ⟨hx, hb, hml, hown, hts⟩ (c_M_mayGo l dC dI jm ik iv ir il iy ig n th sd tp dk dv dr dl dy dg K V R L S (gaF n R L G i) i (by first | assumption | omega) (by first | assumption | omega) (by first | assumption | omega) (by first | assumption | omega) _) (cwV 1 hts (g_V big_w m_443 m_445 ms_31 m_4 m_446) rfl rfl rfl (by decide +kernel) ⟨Nat.le_of_ble_eq_true rfl, Nat.le_of_ble_eq_true rfl⟩) (wr_V hPc hKc hDc hN (va_recv hKc hPc (ci := 3) (q0 := 0) rfl rfl)) rfl rfl hl.1 rfl (lv_room (Nat.le_of_ble_eq_true rfl)) d_M_first_12 ⟨Nat.le_of_ble_eq_true rfl, Nat.le_of_ble_eq_true rfl⟩) hS (fun q _ h => hFc q h) hFc (fun r_1 u t H1 locs ht hvm hw hB hz1 hk1 hS => ?_)
        obtain ⟨hP1, hK1, hD1⟩ := hB
        rw [ht] at hP1
        obtain ⟨hP, hD⟩ := va_join (wr := []) (w1 := [(jm, .inr (3, [.int th, .long sd, .long tp, .int (nI n), .ref ik, .ref iv, .ref ir, .ref il, .ref iy, .ref ig])), (ik, .inl (dk, 86, .inl K)), (iv, .inl (dv, 86, .inl V)), (ir, .inl (dr, 86, .inl R)), (il, .inl (dl, 43, .inl (bF L))), (iy, .inl (dy, 256, .inl (bF S))), (ig, .inl (dg, 43, .inl (bF (gaS n R L i (gaF n R L G i)))))]) hP hD [0, 1, 2, 3, 4, 5, 6] [] rfl rfl (by decide) (by decide) hk1 hFc hP1 hD1
        generalize H1 = H at hP hS ⊢
        have hP : va_P (dC, dI) classes [(jm, .inr (3, [.int th, .long sd, .long tp, .int (nI n), .ref ik, .ref iv, .ref ir, .ref il, .ref iy, .ref ig])), (ik, .inl (dk, 86, .inl K)), (iv, .inl (dv, 86, .inl V)), (ir, .inl (dr, 86, .inl R)), (il, .inl (dl, 43, .inl (bF L))), (iy, .inl (dy, 256, .inl (bF S))), (ig, .inl (dg, 43, .inl (bF (gaS n R L i (gaF n R L G i)))))] H := hP
        have hD : va_D A [(jm, .inr (3, [.int th, .long sd, .long tp, .int (nI n), .ref ik, .ref iv, .ref ir, .ref il, .ref iy, .ref ig])), (ik, .inl (dk, 86, .inl K)), (iv, .inl (dv, 86, .inl V)), (ir, .inl (dr, 86, .inl R)), (il, .inl (dl, 43, .inl (bF L))), (iy, .inl (dy, 256, .inl (bF S))), (ig, .inl (dg, 43, .inl (bF (gaS n R L i (gaF n R L G i)))))] := hD
        have hw := hw.symm
        subst hw
        refine lv_if_eq (tgt := 20) hx hb d_M_first_15 (by decide) (fun c_15 => ?_) (fun c_15 => ?_)
        · skip
          have c_15 := bI_f c_15
          refine lv_iinc (v := nI (i + 1)) (lv' := [(1, .int (nI (i + 1))), (0, .ref jm)]) hx hb d_M_first_20 hl (k := 1) rfl (nI_1 _) (by decide) rfl (fun ls hl => ?_)
          refine lv_goto (tgt := 2) hx hb d_M_first_23 (by decide) ?_
          exact ih_2 (i + 1) (by omega) (by omega) (lt_s hno c_15) _ _ (hP.sub (ws' := [(jm, .inr (3, [.int th, .long sd, .long tp, .int (nI n), .ref ik, .ref iv, .ref ir, .ref il, .ref iy, .ref ig])), (ik, .inl (dk, 86, .inl K)), (iv, .inl (dv, 86, .inl V)), (ir, .inl (dr, 86, .inl R)), (il, .inl (dl, 43, .inl (bF L))), (iy, .inl (dy, 256, .inl (bF S))), (ig, .inl (dg, 43, .inl (bF (gaF n R L G (i + 1)))))]) [0, 1, 2, 3, 4, 5, 6] rfl) (hD.sub (ws' := [(jm, .inr (3, [.int th, .long sd, .long tp, .int (nI n), .ref ik, .ref iv, .ref ir, .ref il, .ref iy, .ref ig])), (ik, .inl (dk, 86, .inl K)), (iv, .inl (dv, 86, .inl V)), (ir, .inl (dr, 86, .inl R)), (il, .inl (dl, 43, .inl (bF L))), (iy, .inl (dy, 256, .inl (bF S))), (ig, .inl (dg, 43, .inl (bF (gaF n R L G (i + 1)))))]) [0, 1, 2, 3, 4, 5, 6] (by decide) rfl) hS ls (lv_sub (l' := [(0, .ref jm), (1, .int (nI (i + 1)))]) hl [1, 0] rfl)
        · skip
          have c_15 := bI_t c_15
          refine lv_iload_n hx hb d_M_first_18 rfl (lv_at hl 1 rfl) ?_
          rw [show (bF (gaS n R L i (gaF n R L G i))) = (bF (gaE n K V R S L G)) from (congrArg bF (ga_some (by omega) hno c_15))] at hP hD
          have hP9 := hP.sub (ws' := [(jm, .inr (3, [.int th, .long sd, .long tp, .int (nI n), .ref ik, .ref iv, .ref ir, .ref il, .ref iy, .ref ig])), (ik, .inl (dk, 86, .inl K)), (iv, .inl (dv, 86, .inl V)), (ir, .inl (dr, 86, .inl R)), (il, .inl (dl, 43, .inl (bF L))), (iy, .inl (dy, 256, .inl (bF S))), (ig, .inl (dg, 43, .inl (bF (gaE n K V R S L G))))]) [0, 1, 2, 3, 4, 5, 6] rfl
          have hD9 := hD.sub (ws' := [(jm, .inr (3, [.int th, .long sd, .long tp, .int (nI n), .ref ik, .ref iv, .ref ir, .ref il, .ref iy, .ref ig])), (ik, .inl (dk, 86, .inl K)), (iv, .inl (dv, 86, .inl V)), (ir, .inl (dr, 86, .inl R)), (il, .inl (dl, 43, .inl (bF L))), (iy, .inl (dy, 256, .inl (bF S))), (ig, .inl (dg, 43, .inl (bF (gaE n K V R S L G))))]) [0, 1, 2, 3, 4, 5, 6] (by decide) rfl
          have hK9 := hK.sub (tys' := [(dk, .int), (dv, .int), (dr, .int), (dl, .boolean), (dy, .boolean), (dg, .boolean)]) [0, 1, 2, 3, 4, 5] rfl
          exact W.iret (v := nI i) hx hb hr (fun t ht hW => ⟨⟨nI i, (), rfl, (by unfold mgO; rw [fst9_some c_15 hno (by omega)]; rfl), by rw [ht]; exact hP9, va_K.moved hW.alike hK9, hD9⟩, hS.F ht⟩) hS.2.2 d_M_first_19
  exact lp_2 ((n - 0) + 1) 0 (by omega) (by omega) lt_0 _ _ (hP.sub (ws' := [(jm, .inr (3, [.int th, .long sd, .long tp, .int (nI n), .ref ik, .ref iv, .ref ir, .ref il, .ref iy, .ref ig])), (ik, .inl (dk, 86, .inl K)), (iv, .inl (dv, 86, .inl V)), (ir, .inl (dr, 86, .inl R)), (il, .inl (dl, 43, .inl (bF L))), (iy, .inl (dy, 256, .inl (bF S))), (ig, .inl (dg, 43, .inl (bF (gaF n R L G 0))))]) [0, 1, 2, 3, 4, 5, 6] rfl) (hD.sub (ws' := [(jm, .inr (3, [.int th, .long sd, .long tp, .int (nI n), .ref ik, .ref iv, .ref ir, .ref il, .ref iy, .ref ig])), (ik, .inl (dk, 86, .inl K)), (iv, .inl (dv, 86, .inl V)), (ir, .inl (dr, 86, .inl R)), (il, .inl (dl, 43, .inl (bF L))), (iy, .inl (dy, 256, .inl (bF S))), (ig, .inl (dg, 43, .inl (bF (gaF n R L G 0))))]) [0, 1, 2, 3, 4, 5, 6] (by decide) rfl) hS ls (lv_sub (l' := [(0, .ref jm), (1, .int (nI 0))]) hl [1, 0] rfl)
end
section
theorem m_442 : (Jvm.Cond.code ({ cls := "PortDrawerModel", name := "first", desc := "()I" } : Jvm.MethodName) prog_5_method_22_code (2 : Nat) (Option.some Jvm.ClassFile.FieldType.int)) ∈ tblG := m_t (i := 442) rfl rfl
theorem ms_30 : Cond.selects "PortDrawerModel" ⟨"PortDrawerModel", "first", "()I"⟩ ⟨"PortDrawerModel", "first", "()I"⟩ ∈ tblG := m_s (i := 30) rfl rfl
theorem m_439 : (Jvm.Cond.methodLink "PortDrawerModel" (96 : Nat) ({ cls := "PortDrawerModel", name := "first", desc := "()I" } : Jvm.MethodName)) ∈ tblG := m_t (i := 439) rfl rfl
theorem m_441 : (Jvm.Cond.instanceMethod ({ cls := "PortDrawerModel", name := "first", desc := "()I" } : Jvm.MethodName)) ∈ tblG := m_t (i := 441) rfl rfl
theorem m_458 : (Jvm.Cond.code ({ cls := "PortDrawerModel", name := "leaves", desc := "()V" } : Jvm.MethodName) prog_5_method_23_code (2 : Nat) (Option.none : Option Jvm.ClassFile.FieldType)) ∈ tblG := m_t (i := 458) rfl rfl
theorem ms_34 : Cond.selects "PortDrawerModel" ⟨"PortDrawerModel", "leaves", "()V"⟩ ⟨"PortDrawerModel", "leaves", "()V"⟩ ∈ tblG := m_s (i := 34) rfl rfl
theorem m_455 : (Jvm.Cond.methodLink "PortDrawerModel" (99 : Nat) ({ cls := "PortDrawerModel", name := "leaves", desc := "()V" } : Jvm.MethodName)) ∈ tblG := m_t (i := 455) rfl rfl
theorem m_457 : (Jvm.Cond.instanceMethod ({ cls := "PortDrawerModel", name := "leaves", desc := "()V" } : Jvm.MethodName)) ∈ tblG := m_t (i := 457) rfl rfl
theorem m_402 : (Jvm.Cond.code ({ cls := "PortDrawerModel", name := "all", desc := "()V" } : Jvm.MethodName) prog_5_method_11_code (2 : Nat) (Option.none : Option Jvm.ClassFile.FieldType)) ∈ tblG := m_t (i := 402) rfl rfl
theorem ms_25 : Cond.selects "PortDrawerModel" ⟨"PortDrawerModel", "all", "()V"⟩ ⟨"PortDrawerModel", "all", "()V"⟩ ∈ tblG := m_s (i := 25) rfl rfl
theorem m_399 : (Jvm.Cond.methodLink "PortDrawerModel" (70 : Nat) ({ cls := "PortDrawerModel", name := "all", desc := "()V" } : Jvm.MethodName)) ∈ tblG := m_t (i := 399) rfl rfl
theorem m_401 : (Jvm.Cond.instanceMethod ({ cls := "PortDrawerModel", name := "all", desc := "()V" } : Jvm.MethodName)) ∈ tblG := m_t (i := 401) rfl rfl
theorem m_377 : (Jvm.Cond.code ({ cls := "PortDrawerModel", name := "in", desc := "(III)Z" } : Jvm.MethodName) prog_5_method_4_code (3 : Nat) (Option.some Jvm.ClassFile.FieldType.boolean)) ∈ tblG := m_t (i := 377) rfl rfl
theorem m_375 : (Jvm.Cond.methodLink "PortDrawerModel" (59 : Nat) ({ cls := "PortDrawerModel", name := "in", desc := "(III)Z" } : Jvm.MethodName)) ∈ tblG := m_t (i := 375) rfl rfl
theorem m_376 : (Jvm.Cond.static ({ cls := "PortDrawerModel", name := "in", desc := "(III)Z" } : Jvm.MethodName)) ∈ tblG := m_t (i := 376) rfl rfl
theorem d_M_now_0 : decode b_M_now 0 = .ok (.aload_n 0, 1) := by decide +kernel
theorem d_M_now_1 : decode b_M_now 1 = .ok (.iconst 0, 1) := by decide +kernel
theorem d_M_now_2 : decode b_M_now 2 = .ok (.putfield 33, 3) := by decide +kernel
theorem d_M_now_5 : decode b_M_now 5 = .ok (.aload_n 0, 1) := by decide +kernel
theorem d_M_now_6 : decode b_M_now 6 = .ok (.invokevirtual 80, 3) := by decide +kernel
theorem d_M_now_9 : decode b_M_now 9 = .ok (.aload_n 0, 1) := by decide +kernel
theorem d_M_now_10 : decode b_M_now 10 = .ok (.invokevirtual 83, 3) := by decide +kernel
theorem d_M_now_13 : decode b_M_now 13 = .ok (.ireturn, 1) := by decide +kernel
theorem d_M_shorter_0 : decode b_M_shorter 0 = .ok (.aload_n 0, 1) := by decide +kernel
theorem d_M_shorter_1 : decode b_M_shorter 1 = .ok (.iconst 0, 1) := by decide +kernel
theorem d_M_shorter_2 : decode b_M_shorter 2 = .ok (.putfield 33, 3) := by decide +kernel
theorem d_M_shorter_5 : decode b_M_shorter 5 = .ok (.aload_n 0, 1) := by decide +kernel
theorem d_M_shorter_6 : decode b_M_shorter 6 = .ok (.invokevirtual 80, 3) := by decide +kernel
theorem d_M_shorter_9 : decode b_M_shorter 9 = .ok (.aload_n 0, 1) := by decide +kernel
theorem d_M_shorter_10 : decode b_M_shorter 10 = .ok (.getfield 23, 3) := by decide +kernel
theorem d_M_shorter_13 : decode b_M_shorter 13 = .ok (.aload_n 0, 1) := by decide +kernel
theorem d_M_shorter_14 : decode b_M_shorter 14 = .ok (.invokevirtual 83, 3) := by decide +kernel
theorem d_M_shorter_17 : decode b_M_shorter 17 = .ok (.baload, 1) := by decide +kernel
theorem d_M_shorter_18 : decode b_M_shorter 18 = .ok (.ifCond .ne 12, 3) := by decide +kernel
theorem d_M_shorter_21 : decode b_M_shorter 21 = .ok (.aload_n 0, 1) := by decide +kernel
theorem d_M_shorter_22 : decode b_M_shorter 22 = .ok (.invokevirtual 70, 3) := by decide +kernel
theorem d_M_shorter_25 : decode b_M_shorter 25 = .ok (.aload_n 0, 1) := by decide +kernel
theorem d_M_shorter_26 : decode b_M_shorter 26 = .ok (.getfield 37, 3) := by decide +kernel
theorem d_M_shorter_29 : decode b_M_shorter 29 = .ok (.ireturn, 1) := by decide +kernel
theorem d_M_shorter_30 : decode b_M_shorter 30 = .ok (.aload_n 0, 1) := by decide +kernel
theorem d_M_shorter_31 : decode b_M_shorter 31 = .ok (.invokevirtual 96, 3) := by decide +kernel
theorem d_M_shorter_34 : decode b_M_shorter 34 = .ok (.ifCond .lt 10, 3) := by decide +kernel
theorem d_M_shorter_37 : decode b_M_shorter 37 = .ok (.aload_n 0, 1) := by decide +kernel
theorem d_M_shorter_38 : decode b_M_shorter 38 = .ok (.invokevirtual 99, 3) := by decide +kernel
theorem d_M_shorter_41 : decode b_M_shorter 41 = .ok (.goto (-11), 3) := by decide +kernel
theorem d_M_shorter_44 : decode b_M_shorter 44 = .ok (.aload_n 0, 1) := by decide +kernel
theorem d_M_shorter_45 : decode b_M_shorter 45 = .ok (.invokevirtual 90, 3) := by decide +kernel
theorem d_M_shorter_48 : decode b_M_shorter 48 = .ok (.ireturn, 1) := by decide +kernel
theorem d_M_left_0 : decode b_M_left 0 = .ok (.aload_n 0, 1) := by decide +kernel
theorem d_M_left_1 : decode b_M_left 1 = .ok (.iconst 0, 1) := by decide +kernel
theorem d_M_left_2 : decode b_M_left 2 = .ok (.putfield 33, 3) := by decide +kernel
theorem d_M_left_5 : decode b_M_left 5 = .ok (.iload_n 1, 1) := by decide +kernel
theorem d_M_left_6 : decode b_M_left 6 = .ok (.istore_n 2, 1) := by decide +kernel
theorem d_M_left_7 : decode b_M_left 7 = .ok (.iconst 0, 1) := by decide +kernel
theorem d_M_left_8 : decode b_M_left 8 = .ok (.istore_n 3, 1) := by decide +kernel
theorem d_M_left_9 : decode b_M_left 9 = .ok (.iload_n 3, 1) := by decide +kernel
theorem d_M_left_10 : decode b_M_left 10 = .ok (.aload_n 0, 1) := by decide +kernel
theorem d_M_left_11 : decode b_M_left 11 = .ok (.getfield 37, 3) := by decide +kernel
theorem d_M_left_14 : decode b_M_left 14 = .ok (.if_icmp .ge 41, 3) := by decide +kernel
theorem d_M_left_17 : decode b_M_left 17 = .ok (.aload_n 0, 1) := by decide +kernel
theorem d_M_left_18 : decode b_M_left 18 = .ok (.getfield 19, 3) := by decide +kernel
theorem d_M_left_21 : decode b_M_left 21 = .ok (.iload_n 3, 1) := by decide +kernel
theorem d_M_left_22 : decode b_M_left 22 = .ok (.baload, 1) := by decide +kernel
theorem d_M_left_23 : decode b_M_left 23 = .ok (.ifCond .eq 9, 3) := by decide +kernel
theorem d_M_left_26 : decode b_M_left 26 = .ok (.iload_n 2, 1) := by decide +kernel
theorem d_M_left_27 : decode b_M_left 27 = .ok (.ifCond .ne 5, 3) := by decide +kernel
theorem d_M_left_30 : decode b_M_left 30 = .ok (.iload_n 3, 1) := by decide +kernel
theorem d_M_left_31 : decode b_M_left 31 = .ok (.ireturn, 1) := by decide +kernel
theorem d_M_left_32 : decode b_M_left 32 = .ok (.iload_n 2, 1) := by decide +kernel
theorem d_M_left_33 : decode b_M_left 33 = .ok (.aload_n 0, 1) := by decide +kernel
theorem d_M_left_34 : decode b_M_left 34 = .ok (.getfield 19, 3) := by decide +kernel
theorem d_M_left_37 : decode b_M_left 37 = .ok (.iload_n 3, 1) := by decide +kernel
theorem d_M_left_38 : decode b_M_left 38 = .ok (.baload, 1) := by decide +kernel
theorem d_M_left_39 : decode b_M_left 39 = .ok (.ifCond .eq 7, 3) := by decide +kernel
theorem d_M_left_42 : decode b_M_left 42 = .ok (.iconst 1, 1) := by decide +kernel
theorem d_M_left_43 : decode b_M_left 43 = .ok (.goto 4, 3) := by decide +kernel
theorem d_M_left_46 : decode b_M_left 46 = .ok (.iconst 0, 1) := by decide +kernel
theorem d_M_left_47 : decode b_M_left 47 = .ok (.isub, 1) := by decide +kernel
theorem d_M_left_48 : decode b_M_left 48 = .ok (.istore_n 2, 1) := by decide +kernel
theorem d_M_left_49 : decode b_M_left 49 = .ok (.iinc 3 1, 3) := by decide +kernel
theorem d_M_left_52 : decode b_M_left 52 = .ok (.goto (-43), 3) := by decide +kernel
theorem d_M_left_55 : decode b_M_left 55 = .ok (.iconst (-1), 1) := by decide +kernel
theorem d_M_left_56 : decode b_M_left 56 = .ok (.ireturn, 1) := by decide +kernel
theorem d_M_minimal_0 : decode b_M_minimal 0 = .ok (.aload_n 0, 1) := by decide +kernel
theorem d_M_minimal_1 : decode b_M_minimal 1 = .ok (.iconst 0, 1) := by decide +kernel
theorem d_M_minimal_2 : decode b_M_minimal 2 = .ok (.putfield 33, 3) := by decide +kernel
theorem d_M_minimal_5 : decode b_M_minimal 5 = .ok (.aload_n 0, 1) := by decide +kernel
theorem d_M_minimal_6 : decode b_M_minimal 6 = .ok (.invokevirtual 80, 3) := by decide +kernel
theorem d_M_minimal_9 : decode b_M_minimal 9 = .ok (.aload_n 0, 1) := by decide +kernel
theorem d_M_minimal_10 : decode b_M_minimal 10 = .ok (.invokevirtual 90, 3) := by decide +kernel
theorem d_M_minimal_13 : decode b_M_minimal 13 = .ok (.ifCond .le 26, 3) := by decide +kernel
theorem d_M_minimal_16 : decode b_M_minimal 16 = .ok (.aload_n 0, 1) := by decide +kernel
theorem d_M_minimal_17 : decode b_M_minimal 17 = .ok (.getfield 23, 3) := by decide +kernel
theorem d_M_minimal_20 : decode b_M_minimal 20 = .ok (.aload_n 0, 1) := by decide +kernel
theorem d_M_minimal_21 : decode b_M_minimal 21 = .ok (.invokevirtual 83, 3) := by decide +kernel
theorem d_M_minimal_24 : decode b_M_minimal 24 = .ok (.baload, 1) := by decide +kernel
theorem d_M_minimal_25 : decode b_M_minimal 25 = .ok (.ifCond .eq 14, 3) := by decide +kernel
theorem d_M_minimal_28 : decode b_M_minimal 28 = .ok (.aload_n 0, 1) := by decide +kernel
theorem d_M_minimal_29 : decode b_M_minimal 29 = .ok (.invokevirtual 96, 3) := by decide +kernel
theorem d_M_minimal_32 : decode b_M_minimal 32 = .ok (.ifCond .ge 7, 3) := by decide +kernel
theorem d_M_minimal_35 : decode b_M_minimal 35 = .ok (.iconst 1, 1) := by decide +kernel
theorem d_M_minimal_36 : decode b_M_minimal 36 = .ok (.goto 4, 3) := by decide +kernel
theorem d_M_minimal_39 : decode b_M_minimal 39 = .ok (.iconst 0, 1) := by decide +kernel
theorem d_M_minimal_40 : decode b_M_minimal 40 = .ok (.ireturn, 1) := by decide +kernel
theorem d_M_verdict_0 : decode b_M_verdict 0 = .ok (.aload_n 0, 1) := by decide +kernel
theorem d_M_verdict_1 : decode b_M_verdict 1 = .ok (.iconst 0, 1) := by decide +kernel
theorem d_M_verdict_2 : decode b_M_verdict 2 = .ok (.putfield 33, 3) := by decide +kernel
theorem d_M_verdict_5 : decode b_M_verdict 5 = .ok (.iload_n 1, 1) := by decide +kernel
theorem d_M_verdict_6 : decode b_M_verdict 6 = .ok (.iconst 0, 1) := by decide +kernel
theorem d_M_verdict_7 : decode b_M_verdict 7 = .ok (.sipush 255, 3) := by decide +kernel
theorem d_M_verdict_10 : decode b_M_verdict 10 = .ok (.invokestatic 59, 3) := by decide +kernel
theorem d_M_verdict_13 : decode b_M_verdict 13 = .ok (.ifCond .eq 13, 3) := by decide +kernel
theorem d_M_verdict_16 : decode b_M_verdict 16 = .ok (.aload_n 0, 1) := by decide +kernel
theorem d_M_verdict_17 : decode b_M_verdict 17 = .ok (.getfield 23, 3) := by decide +kernel
theorem d_M_verdict_20 : decode b_M_verdict 20 = .ok (.iload_n 1, 1) := by decide +kernel
theorem d_M_verdict_21 : decode b_M_verdict 21 = .ok (.baload, 1) := by decide +kernel
theorem d_M_verdict_22 : decode b_M_verdict 22 = .ok (.iload_n 2, 1) := by decide +kernel
theorem d_M_verdict_23 : decode b_M_verdict 23 = .ok (.if_icmp .ne 5, 3) := by decide +kernel
theorem d_M_verdict_26 : decode b_M_verdict 26 = .ok (.iconst 0, 1) := by decide +kernel
theorem d_M_verdict_27 : decode b_M_verdict 27 = .ok (.ireturn, 1) := by decide +kernel
theorem d_M_verdict_28 : decode b_M_verdict 28 = .ok (.aload_n 0, 1) := by decide +kernel
theorem d_M_verdict_29 : decode b_M_verdict 29 = .ok (.getfield 23, 3) := by decide +kernel
theorem d_M_verdict_32 : decode b_M_verdict 32 = .ok (.iload_n 1, 1) := by decide +kernel
theorem d_M_verdict_33 : decode b_M_verdict 33 = .ok (.iload_n 2, 1) := by decide +kernel
theorem d_M_verdict_34 : decode b_M_verdict 34 = .ok (.bastore, 1) := by decide +kernel
theorem d_M_verdict_35 : decode b_M_verdict 35 = .ok (.iconst 1, 1) := by decide +kernel
theorem d_M_verdict_36 : decode b_M_verdict 36 = .ok (.ireturn, 1) := by decide +kernel
set_option maxHeartbeats 4000000 in
set_option maxRecDepth 100000 in
/-- reference: now -/
theorem c_M_now (l : Launch) (dC : Nat → ClassId) (dI : Nat → Nat → Nat) (jm ik iv ir il iy ig : Nat) (n : Nat) (th : Int32) (sd tp : Int64) (dk dv dr dl dg : ClassId) (K V R : Nat → Int32) (L G : Nat → Bool)  (hn : n ≤ 43) (hR : rfK n R) (sz : Nat) : Met l y_M_now w_M_now ({ frames := 2, cells := 0, slots := 0, locals := 43 }) (wr_P dC dI [.ref jm] [(jm, .inr (3, [.int th, .long sd, .long tp, .int (nI n), .ref ik, .ref iv, .ref ir, .ref il, .ref iy, .ref ig])), (ik, .inl (dk, 86, .inl K)), (iv, .inl (dv, 86, .inl V)), (ir, .inl (dr, 86, .inl R)), (il, .inl (dl, 43, .inl (bF L))), (ig, .inl (dg, 43, .inl (bF G)))] [(dk, .int), (dv, .int), (dr, .int), (dl, .boolean), (dg, .boolean)] sz) (va_Qi (fun (r : Int32) (_ : Unit) => r = jdL K V R L fF n) (fun (u : Unit) => wr_B dC dI (va_A [(jm, .inr (3, [.int th, .long sd, .long tp, .int (nI n), .ref ik, .ref iv, .ref ir, .ref il, .ref iy, .ref ig])), (ik, .inl (dk, 86, .inl K)), (iv, .inl (dv, 86, .inl V)), (ir, .inl (dr, 86, .inl R)), (il, .inl (dl, 43, .inl (bF L))), (ig, .inl (dg, 43, .inl (bF G)))] sz) [(jm, .inr (3, [.int (nI 0), .long sd, .long tp, .int (nI n), .ref ik, .ref iv, .ref ir, .ref il, .ref iy, .ref ig])), (ik, .inl (dk, 86, .inl K)), (iv, .inl (dv, 86, .inl V)), (ir, .inl (dr, 86, .inl R)), (il, .inl (dl, 43, .inl (bF L))), (ig, .inl (dg, 43, .inl (bF fF)))] [(dk, .int), (dv, .int), (dr, .int), (dl, .boolean), (dg, .boolean)]) (va_A [(jm, .inr (3, [.int th, .long sd, .long tp, .int (nI n), .ref ik, .ref iv, .ref ir, .ref il, .ref iy, .ref ig])), (ik, .inl (dk, 86, .inl K)), (iv, .inl (dv, 86, .inl V)), (ir, .inl (dr, 86, .inl R)), (il, .inl (dl, 43, .inl (bF L))), (ig, .inl (dg, 43, .inl (bF G)))] sz)) 0 0 (va_A [(jm, .inr (3, [.int th, .long sd, .long tp, .int (nI n), .ref ik, .ref iv, .ref ir, .ref il, .ref iy, .ref ig])), (ik, .inl (dk, 86, .inl K)), (iv, .inl (dv, 86, .inl V)), (ir, .inl (dr, 86, .inl R)), (il, .inl (dl, 43, .inl (bF L))), (ig, .inl (dg, 43, .inl (bF G)))] sz) := by
  refine Met.ofW (cc := b_M_now) (maxL := 1) (ret := (Option.some Jvm.ClassFile.FieldType.int)) (by decide) rfl ?_
  intro p e s m args below meth c s₁ B0 hml hv0
  obtain ⟨rfl, hsz, hP, hK, hD0, hN⟩ := hv0
  have hx := B0.exec
  have hb := B0.bytes
  have hr := B0.returns
  have hts := atoms_spec (ws := w_M_now) B0.pre
  have hown : s.vm.findClass R_M = some m.cls := findClass_of_methodNamed B0.named
  have hlocks := B0.notSynchronized
  subst hsz
  have hD := hD0.self (sz := s.heap.size)
  generalize hAe : va_A [(jm, .inr (3, [.int th, .long sd, .long tp, .int (nI n), .ref ik, .ref iv, .ref ir, .ref il, .ref iy, .ref ig])), (ik, .inl (dk, 86, .inl K)), (iv, .inl (dv, 86, .inl V)), (ir, .inl (dr, 86, .inl R)), (il, .inl (dl, 43, .inl (bF L))), (ig, .inl (dg, 43, .inl (bF G)))] s.heap.size = A at hD ⊢
  have hA : ∀ q : Nat, s.heap.size ≤ q → A q := fun q h => by rw [← hAe]; exact Or.inr h
  have hS : va_S A s.heap s.heap [] := va_S.rf
  have hP : va_P (dC, dI) classes [(jm, .inr (3, [.int th, .long sd, .long tp, .int (nI n), .ref ik, .ref iv, .ref ir, .ref il, .ref iy, .ref ig])), (ik, .inl (dk, 86, .inl K)), (iv, .inl (dv, 86, .inl V)), (ir, .inl (dr, 86, .inl R)), (il, .inl (dl, 43, .inl (bF L))), (ig, .inl (dg, 43, .inl (bF G)))] s.heap := hP
  have hl := lv_entry ([.ref jm]) (n := 1) (Nat.le_of_ble_eq_true rfl)
  rw [lg_entry_eq]
  generalize (lg_sl ([.ref jm]) ++ List.replicate (1 - (lg_sl ([.ref jm])).length) Slot.unset).toArray = ls at hl ⊢
  have hl : lv_has ls 1 [(0, .ref jm)] := hl
  refine lv_aload_n hx hb d_M_now_0 rfl (lv_at hl 0 rfl) ?_
  refine lv_iconst (v := nI 0) hx hb d_M_now_1 (by decide +kernel) ?_
  refine va_put (D := (dC, dI)) (ci := 3) (v := .int (nI 0)) (ty := .int) (C := R_M) (T := F_M) (N := 10) hx hb hts (lay_M _) ft_M tok_M nok_M hown hK hP hD hS 0 rfl rfl 0 (by decide) (hts _ (List.mem_cons_of_mem _ m_336)) (fun _ h9 => h9) rfl (by decide +kernel) rfl rfl (Nat.le_of_ble_eq_true rfl) d_M_now_2 (fun H locs hP hD hS => ?_)
  have hP : va_P (dC, dI) classes [(jm, .inr (3, [.int (nI 0), .long sd, .long tp, .int (nI n), .ref ik, .ref iv, .ref ir, .ref il, .ref iy, .ref ig])), (ik, .inl (dk, 86, .inl K)), (iv, .inl (dv, 86, .inl V)), (ir, .inl (dr, 86, .inl R)), (il, .inl (dl, 43, .inl (bF L))), (ig, .inl (dg, 43, .inl (bF G)))] H := hP
  have hD : va_D A [(jm, .inr (3, [.int (nI 0), .long sd, .long tp, .int (nI n), .ref ik, .ref iv, .ref ir, .ref il, .ref iy, .ref ig])), (ik, .inl (dk, 86, .inl K)), (iv, .inl (dv, 86, .inl V)), (ir, .inl (dr, 86, .inl R)), (il, .inl (dl, 43, .inl (bF L))), (ig, .inl (dg, 43, .inl (bF G)))] := hD
  refine lv_aload_n hx hb d_M_now_5 rfl (lv_at hl 0 rfl) ?_
  have hPc := hP.sub (ws' := [(jm, .inr (3, [.int (nI 0), .long sd, .long tp, .int (nI n), .ref ik, .ref iv, .ref ir, .ref il, .ref iy, .ref ig])), (ig, .inl (dg, 43, .inl (bF G)))]) [0, 5] rfl
  have hKc := hK.sub (tys' := [(dg, .boolean)]) [4] rfl
  have hDc := hD.sub (ws' := [(jm, .inr (3, [.int (nI 0), .long sd, .long tp, .int (nI n), .ref ik, .ref iv, .ref ir, .ref il, .ref iy, .ref ig])), (ig, .inl (dg, 43, .inl (bF G)))]) [0, 5] (by decide) rfl
  have hFc := va_free (wc := [(jm, .inr (3, [.int (nI 0), .long sd, .long tp, .int (nI n), .ref ik, .ref iv, .ref ir, .ref il, .ref iy, .ref ig])), (ig, .inl (dg, 43, .inl (bF G)))]) hD hS hA [0, 5] rfl
  refine va_callv (va_runV (As := []) (rest := []) ⟨hx, hb, hml, hown, hts⟩ (c_M_none l dC dI jm ik iv ir il iy ig n (nI 0) sd tp dg G _) (cwV 0 hts (g_V big_w m_427 m_429 ms_28 m_4 m_430) rfl rfl rfl (by decide +kernel) ⟨Nat.le_of_ble_eq_true rfl, Nat.le_of_ble_eq_true rfl⟩) (wr_V hPc hKc hDc hN (va_recv hKc hPc (ci := 3) (q0 := 0) rfl rfl)) rfl rfl hl.1 rfl (lv_room (Nat.le_of_ble_eq_true rfl)) d_M_now_6 ⟨Nat.le_of_ble_eq_true rfl, Nat.le_of_ble_eq_true rfl⟩) hS (fun q _ h => hFc q h) hFc (fun u t H1 locs ht hvm hw hB hz1 hk1 hS => ?_)
  obtain ⟨hP1, hK1, hD1⟩ := hB
  rw [ht] at hP1
  obtain ⟨hP, hD⟩ := va_join (wr := [(ik, .inl (dk, 86, .inl K)), (iv, .inl (dv, 86, .inl V)), (ir, .inl (dr, 86, .inl R)), (il, .inl (dl, 43, .inl (bF L)))]) (w1 := [(jm, .inr (3, [.int (nI 0), .long sd, .long tp, .int (nI n), .ref ik, .ref iv, .ref ir, .ref il, .ref iy, .ref ig])), (ig, .inl (dg, 43, .inl (bF fF)))]) hP hD [0, 5] [1, 2, 3, 4] rfl rfl (by decide) (by decide) hk1 hFc hP1 hD1
  generalize H1 = H at hP hS ⊢
  have hP : va_P (dC, dI) classes [(ik, .inl (dk, 86, .inl K)), (iv, .inl (dv, 86, .inl V)), (ir, .inl (dr, 86, .inl R)), (il, .inl (dl, 43, .inl (bF L))), (jm, .inr (3, [.int (nI 0), .long sd, .long tp, .int (nI n), .ref ik, .ref iv, .ref ir, .ref il, .ref iy, .ref ig])), (ig, .inl (dg, 43, .inl (bF fF)))] H := hP
  have hD : va_D A [(ik, .inl (dk, 86, .inl K)), (iv, .inl (dv, 86, .inl V)), (ir, .inl (dr, 86, .inl R)), (il, .inl (dl, 43, .inl (bF L))), (jm, .inr (3, [.int (nI 0), .long sd, .long tp, .int (nI n), .ref ik, .ref iv, .ref ir, .ref il, .ref iy, .ref ig])), (ig, .inl (dg, 43, .inl (bF fF)))] := hD
  refine lv_aload_n hx hb d_M_now_9 rfl (lv_at hl 0 rfl) ?_
  have hPc := hP.sub (ws' := [(jm, .inr (3, [.int (nI 0), .long sd, .long tp, .int (nI n), .ref ik, .ref iv, .ref ir, .ref il, .ref iy, .ref ig])), (ik, .inl (dk, 86, .inl K)), (iv, .inl (dv, 86, .inl V)), (ir, .inl (dr, 86, .inl R)), (il, .inl (dl, 43, .inl (bF L))), (ig, .inl (dg, 43, .inl (bF fF)))]) [4, 0, 1, 2, 3, 5] rfl
  have hKc := hK.sub (tys' := [(dk, .int), (dv, .int), (dr, .int), (dl, .boolean), (dg, .boolean)]) [0, 1, 2, 3, 4] rfl
  refine vp_callSi (W.runV (As := []) (rest := []) ⟨hx, hb, hml, hown, hts⟩ (c_M_judged l dC dI jm ik iv ir il iy ig n (nI 0) sd tp dk dv dr dl dg K V R L fF (by first | assumption | omega) (by first | assumption | omega)) (cwV 0 hts (g_V big_w m_431 m_433 ms_29 m_4 m_434) rfl rfl rfl (by decide +kernel) ⟨Nat.le_of_ble_eq_true rfl, Nat.le_of_ble_eq_true rfl⟩) (ro_V hPc hKc hN (va_recv hKc hPc (ci := 3) (q0 := 0) rfl rfl)) rfl rfl hl.1 rfl (lv_room (Nat.le_of_ble_eq_true rfl)) d_M_now_10 ⟨Nat.le_of_ble_eq_true rfl, Nat.le_of_ble_eq_true rfl⟩) (fun r_2 er_2 => ?_)
  have er_2 := er_2.symm
  subst er_2
  have hP9 := hP.sub (ws' := [(jm, .inr (3, [.int (nI 0), .long sd, .long tp, .int (nI n), .ref ik, .ref iv, .ref ir, .ref il, .ref iy, .ref ig])), (ik, .inl (dk, 86, .inl K)), (iv, .inl (dv, 86, .inl V)), (ir, .inl (dr, 86, .inl R)), (il, .inl (dl, 43, .inl (bF L))), (ig, .inl (dg, 43, .inl (bF fF)))]) [4, 0, 1, 2, 3, 5] rfl
  have hD9 := hD.sub (ws' := [(jm, .inr (3, [.int (nI 0), .long sd, .long tp, .int (nI n), .ref ik, .ref iv, .ref ir, .ref il, .ref iy, .ref ig])), (ik, .inl (dk, 86, .inl K)), (iv, .inl (dv, 86, .inl V)), (ir, .inl (dr, 86, .inl R)), (il, .inl (dl, 43, .inl (bF L))), (ig, .inl (dg, 43, .inl (bF fF)))]) [4, 0, 1, 2, 3, 5] (by decide) rfl
  have hK9 := hK.sub (tys' := [(dk, .int), (dv, .int), (dr, .int), (dl, .boolean), (dg, .boolean)]) [0, 1, 2, 3, 4] rfl
  exact W.iret (v := jdL K V R L fF n) hx hb hr (fun t ht hW => ⟨⟨jdL K V R L fF n, (), rfl, rfl, by rw [ht]; exact hP9, va_K.moved hW.alike hK9, hD9⟩, hS.F ht⟩) hS.2.2 d_M_now_13
set_option maxHeartbeats 4000000 in
set_option maxRecDepth 100000 in
/-- reference: shorter -/
theorem c_M_shorter (l : Launch) (dC : Nat → ClassId) (dI : Nat → Nat → Nat) (jm ik iv ir il iy ig : Nat) (n : Nat) (th : Int32) (sd tp : Int64) (dk dv dr dl dy dg : ClassId) (K V R : Nat → Int32) (L S G : Nat → Bool)  (hn : n ≤ 43) (hR : rfK n R) (hKk : kdK n K) (sz : Nat) : Met l y_M_shorter w_M_shorter ({ frames := 4, cells := 0, slots := 0, locals := 86 }) (wr_P dC dI [.ref jm] [(jm, .inr (3, [.int th, .long sd, .long tp, .int (nI n), .ref ik, .ref iv, .ref ir, .ref il, .ref iy, .ref ig])), (ik, .inl (dk, 86, .inl K)), (iv, .inl (dv, 86, .inl V)), (ir, .inl (dr, 86, .inl R)), (il, .inl (dl, 43, .inl (bF L))), (iy, .inl (dy, 256, .inl (bF S))), (ig, .inl (dg, 43, .inl (bF G)))] [(dk, .int), (dv, .int), (dr, .int), (dl, .boolean), (dy, .boolean), (dg, .boolean)] sz) (va_Qi (fun (r : Int32) (_ : Nat → Bool) => r = nI (cnt (shE n K V R S L) n)) (fun (u : Nat → Bool) => wr_B dC dI (va_A [(jm, .inr (3, [.int th, .long sd, .long tp, .int (nI n), .ref ik, .ref iv, .ref ir, .ref il, .ref iy, .ref ig])), (ik, .inl (dk, 86, .inl K)), (iv, .inl (dv, 86, .inl V)), (ir, .inl (dr, 86, .inl R)), (il, .inl (dl, 43, .inl (bF L))), (iy, .inl (dy, 256, .inl (bF S))), (ig, .inl (dg, 43, .inl (bF G)))] sz) [(jm, .inr (3, [.int (nI 0), .long sd, .long tp, .int (nI n), .ref ik, .ref iv, .ref ir, .ref il, .ref iy, .ref ig])), (ik, .inl (dk, 86, .inl K)), (iv, .inl (dv, 86, .inl V)), (ir, .inl (dr, 86, .inl R)), (il, .inl (dl, 43, .inl (bF (shE n K V R S L)))), (iy, .inl (dy, 256, .inl (bF S))), (ig, .inl (dg, 43, .inl (bF u)))] [(dk, .int), (dv, .int), (dr, .int), (dl, .boolean), (dy, .boolean), (dg, .boolean)]) (va_A [(jm, .inr (3, [.int th, .long sd, .long tp, .int (nI n), .ref ik, .ref iv, .ref ir, .ref il, .ref iy, .ref ig])), (ik, .inl (dk, 86, .inl K)), (iv, .inl (dv, 86, .inl V)), (ir, .inl (dr, 86, .inl R)), (il, .inl (dl, 43, .inl (bF L))), (iy, .inl (dy, 256, .inl (bF S))), (ig, .inl (dg, 43, .inl (bF G)))] sz)) 0 0 (va_A [(jm, .inr (3, [.int th, .long sd, .long tp, .int (nI n), .ref ik, .ref iv, .ref ir, .ref il, .ref iy, .ref ig])), (ik, .inl (dk, 86, .inl K)), (iv, .inl (dv, 86, .inl V)), (ir, .inl (dr, 86, .inl R)), (il, .inl (dl, 43, .inl (bF L))), (iy, .inl (dy, 256, .inl (bF S))), (ig, .inl (dg, 43, .inl (bF G)))] sz) := by
  refine Met.ofW (cc := b_M_shorter) (maxL := 1) (ret := (Option.some Jvm.ClassFile.FieldType.int)) (by decide) rfl ?_
  intro p e s m args below meth c s₁ B0 hml hv0
  obtain ⟨rfl, hsz, hP, hK, hD0, hN⟩ := hv0
  have hx := B0.exec
  have hb := B0.bytes
  have hr := B0.returns
  have hts := atoms_spec (ws := w_M_shorter) B0.pre
  have hown : s.vm.findClass R_M = some m.cls := findClass_of_methodNamed B0.named
  have hlocks := B0.notSynchronized
  subst hsz
  have hD := hD0.self (sz := s.heap.size)
  generalize hAe : va_A [(jm, .inr (3, [.int th, .long sd, .long tp, .int (nI n), .ref ik, .ref iv, .ref ir, .ref il, .ref iy, .ref ig])), (ik, .inl (dk, 86, .inl K)), (iv, .inl (dv, 86, .inl V)), (ir, .inl (dr, 86, .inl R)), (il, .inl (dl, 43, .inl (bF L))), (iy, .inl (dy, 256, .inl (bF S))), (ig, .inl (dg, 43, .inl (bF G)))] s.heap.size = A at hD ⊢
  have hA : ∀ q : Nat, s.heap.size ≤ q → A q := fun q h => by rw [← hAe]; exact Or.inr h
  have hS : va_S A s.heap s.heap [] := va_S.rf
  have hP : va_P (dC, dI) classes [(jm, .inr (3, [.int th, .long sd, .long tp, .int (nI n), .ref ik, .ref iv, .ref ir, .ref il, .ref iy, .ref ig])), (ik, .inl (dk, 86, .inl K)), (iv, .inl (dv, 86, .inl V)), (ir, .inl (dr, 86, .inl R)), (il, .inl (dl, 43, .inl (bF L))), (iy, .inl (dy, 256, .inl (bF S))), (ig, .inl (dg, 43, .inl (bF G)))] s.heap := hP
  have hl := lv_entry ([.ref jm]) (n := 1) (Nat.le_of_ble_eq_true rfl)
  rw [lg_entry_eq]
  generalize (lg_sl ([.ref jm]) ++ List.replicate (1 - (lg_sl ([.ref jm])).length) Slot.unset).toArray = ls at hl ⊢
  have hl : lv_has ls 1 [(0, .ref jm)] := hl
  have hc2 := cnt_le L n
  refine lv_aload_n hx hb d_M_shorter_0 rfl (lv_at hl 0 rfl) ?_
  refine lv_iconst (v := nI 0) hx hb d_M_shorter_1 (by decide +kernel) ?_
  refine va_put (D := (dC, dI)) (ci := 3) (v := .int (nI 0)) (ty := .int) (C := R_M) (T := F_M) (N := 10) hx hb hts (lay_M _) ft_M tok_M nok_M hown hK hP hD hS 0 rfl rfl 0 (by decide) (hts _ (List.mem_cons_of_mem _ m_336)) (fun _ h9 => h9) rfl (by decide +kernel) rfl rfl (Nat.le_of_ble_eq_true rfl) d_M_shorter_2 (fun H locs hP hD hS => ?_)
  have hP : va_P (dC, dI) classes [(jm, .inr (3, [.int (nI 0), .long sd, .long tp, .int (nI n), .ref ik, .ref iv, .ref ir, .ref il, .ref iy, .ref ig])), (ik, .inl (dk, 86, .inl K)), (iv, .inl (dv, 86, .inl V)), (ir, .inl (dr, 86, .inl R)), (il, .inl (dl, 43, .inl (bF L))), (iy, .inl (dy, 256, .inl (bF S))), (ig, .inl (dg, 43, .inl (bF G)))] H := hP
  have hD : va_D A [(jm, .inr (3, [.int (nI 0), .long sd, .long tp, .int (nI n), .ref ik, .ref iv, .ref ir, .ref il, .ref iy, .ref ig])), (ik, .inl (dk, 86, .inl K)), (iv, .inl (dv, 86, .inl V)), (ir, .inl (dr, 86, .inl R)), (il, .inl (dl, 43, .inl (bF L))), (iy, .inl (dy, 256, .inl (bF S))), (ig, .inl (dg, 43, .inl (bF G)))] := hD
  refine lv_aload_n hx hb d_M_shorter_5 rfl (lv_at hl 0 rfl) ?_
  have hPc := hP.sub (ws' := [(jm, .inr (3, [.int (nI 0), .long sd, .long tp, .int (nI n), .ref ik, .ref iv, .ref ir, .ref il, .ref iy, .ref ig])), (ig, .inl (dg, 43, .inl (bF G)))]) [0, 6] rfl
  have hKc := hK.sub (tys' := [(dg, .boolean)]) [5] rfl
  have hDc := hD.sub (ws' := [(jm, .inr (3, [.int (nI 0), .long sd, .long tp, .int (nI n), .ref ik, .ref iv, .ref ir, .ref il, .ref iy, .ref ig])), (ig, .inl (dg, 43, .inl (bF G)))]) [0, 6] (by decide) rfl
  have hFc := va_free (wc := [(jm, .inr (3, [.int (nI 0), .long sd, .long tp, .int (nI n), .ref ik, .ref iv, .ref ir, .ref il, .ref iy, .ref ig])), (ig, .inl (dg, 43, .inl (bF G)))]) hD hS hA [0, 6] rfl
  refine va_callv (va_runV (As := []) (rest := []) ⟨hx, hb, hml, hown, hts⟩ (c_M_none l dC dI jm ik iv ir il iy ig n (nI 0) sd tp dg G _) (cwV 0 hts (g_V big_w m_427 m_429 ms_28 m_4 m_430) rfl rfl rfl (by decide +kernel) ⟨Nat.le_of_ble_eq_true rfl, Nat.le_of_ble_eq_true rfl⟩) (wr_V hPc hKc hDc hN (va_recv hKc hPc (ci := 3) (q0 := 0) rfl rfl)) rfl rfl hl.1 rfl (lv_room (Nat.le_of_ble_eq_true rfl)) d_M_shorter_6 ⟨Nat.le_of_ble_eq_true rfl, Nat.le_of_ble_eq_true rfl⟩) hS (fun q _ h => hFc q h) hFc (fun u t H1 locs ht hvm hw hB hz1 hk1 hS => ?_)
  obtain ⟨hP1, hK1, hD1⟩ := hB
  rw [ht] at hP1
  obtain ⟨hP, hD⟩ := va_join (wr := [(ik, .inl (dk, 86, .inl K)), (iv, .inl (dv, 86, .inl V)), (ir, .inl (dr, 86, .inl R)), (il, .inl (dl, 43, .inl (bF L))), (iy, .inl (dy, 256, .inl (bF S)))]) (w1 := [(jm, .inr (3, [.int (nI 0), .long sd, .long tp, .int (nI n), .ref ik, .ref iv, .ref ir, .ref il, .ref iy, .ref ig])), (ig, .inl (dg, 43, .inl (bF fF)))]) hP hD [0, 6] [1, 2, 3, 4, 5] rfl rfl (by decide) (by decide) hk1 hFc hP1 hD1
  generalize H1 = H at hP hS ⊢
  have hP : va_P (dC, dI) classes [(ik, .inl (dk, 86, .inl K)), (iv, .inl (dv, 86, .inl V)), (ir, .inl (dr, 86, .inl R)), (il, .inl (dl, 43, .inl (bF L))), (iy, .inl (dy, 256, .inl (bF S))), (jm, .inr (3, [.int (nI 0), .long sd, .long tp, .int (nI n), .ref ik, .ref iv, .ref ir, .ref il, .ref iy, .ref ig])), (ig, .inl (dg, 43, .inl (bF fF)))] H := hP
  have hD : va_D A [(ik, .inl (dk, 86, .inl K)), (iv, .inl (dv, 86, .inl V)), (ir, .inl (dr, 86, .inl R)), (il, .inl (dl, 43, .inl (bF L))), (iy, .inl (dy, 256, .inl (bF S))), (jm, .inr (3, [.int (nI 0), .long sd, .long tp, .int (nI n), .ref ik, .ref iv, .ref ir, .ref il, .ref iy, .ref ig])), (ig, .inl (dg, 43, .inl (bF fF)))] := hD
  refine lv_aload_n hx hb d_M_shorter_9 rfl (lv_at hl 0 rfl) ?_
  refine va_get (D := (dC, dI)) (ci := 3) (v := .ref iy) (C := R_M) (T := F_M) (N := 10) hx hb hts (lay_M _) hown hK hP 5 rfl rfl 8 (by decide) (hts _ (List.mem_cons_of_mem _ m_344)) (fun _ h9 => h9) rfl d_M_shorter_10 ?_
  refine lv_aload_n hx hb d_M_shorter_13 rfl (lv_at hl 0 rfl) ?_
  have hPc := hP.sub (ws' := [(jm, .inr (3, [.int (nI 0), .long sd, .long tp, .int (nI n), .ref ik, .ref iv, .ref ir, .ref il, .ref iy, .ref ig])), (ik, .inl (dk, 86, .inl K)), (iv, .inl (dv, 86, .inl V)), (ir, .inl (dr, 86, .inl R)), (il, .inl (dl, 43, .inl (bF L))), (ig, .inl (dg, 43, .inl (bF fF)))]) [5, 0, 1, 2, 3, 6] rfl
  have hKc := hK.sub (tys' := [(dk, .int), (dv, .int), (dr, .int), (dl, .boolean), (dg, .boolean)]) [0, 1, 2, 3, 5] rfl
  refine vp_callSi (W.runV (As := []) (rest := [.ref iy]) ⟨hx, hb, hml, hown, hts⟩ (c_M_judged l dC dI jm ik iv ir il iy ig n (nI 0) sd tp dk dv dr dl dg K V R L fF (by first | assumption | omega) (by first | assumption | omega)) (cwV 0 hts (g_V big_w m_431 m_433 ms_29 m_4 m_434) rfl rfl rfl (by decide +kernel) ⟨Nat.le_of_ble_eq_true rfl, Nat.le_of_ble_eq_true rfl⟩) (ro_V hPc hKc hN (va_recv hKc hPc (ci := 3) (q0 := 0) rfl rfl)) rfl rfl hl.1 rfl (lv_room (Nat.le_of_ble_eq_true rfl)) d_M_shorter_14 ⟨Nat.le_of_ble_eq_true rfl, Nat.le_of_ble_eq_true rfl⟩) (fun r_2 er_2 => ?_)
  have er_2 := er_2.symm
  subst er_2
  refine va_zald hx hb hK hP 4 4 rfl rfl (jdL_in hKk) d_M_shorter_17 ?_
  refine lv_topi (fun w_3 ew_3 => ?_)
  have ew_3 : (bI (S (jdL K V R L fF n).toNatClampNeg)) = w_3 := (ew_3.trans (rfl)).symm
  subst ew_3
  refine lv_if_ne (tgt := 30) hx hb d_M_shorter_18 (by decide) (fun c_18 => ?_) (fun c_18 => ?_)
  · skip
    have c_18 := bI_t c_18
    have lp_30 : ∀ (k9_30 : Nat), ∀ (f : Nat) (L1 Gq : Nat → Bool), f < k9_30 → (cnt L1 n < f) → (shL n K V R S f L1 = shL n K V R S (n + 1) L) → ∀ (H : Heap) (locs : List Loc), va_P (dC, dI) classes [(jm, .inr (3, [.int (nI 0), .long sd, .long tp, .int (nI n), .ref ik, .ref iv, .ref ir, .ref il, .ref iy, .ref ig])), (ik, .inl (dk, 86, .inl K)), (iv, .inl (dv, 86, .inl V)), (ir, .inl (dr, 86, .inl R)), (il, .inl (dl, 43, .inl (bF L1))), (iy, .inl (dy, 256, .inl (bF S))), (ig, .inl (dg, 43, .inl (bF Gq)))] H → va_D A [(jm, .inr (3, [.int (nI 0), .long sd, .long tp, .int (nI n), .ref ik, .ref iv, .ref ir, .ref il, .ref iy, .ref ig])), (ik, .inl (dk, 86, .inl K)), (iv, .inl (dv, 86, .inl V)), (ir, .inl (dr, 86, .inl R)), (il, .inl (dl, 43, .inl (bF L1))), (iy, .inl (dy, 256, .inl (bF S))), (ig, .inl (dg, 43, .inl (bF Gq)))] → va_S A s.heap H locs → ∀ (ls : Array Slot), lv_has ls 1 [(0, .ref jm)] → W p l e (headSpec w_M_shorter ({ frames := 4, cells := 0, slots := 0, locals := 86 })).room s m ([.ref jm]).toArray below meth c H locs 0 0 (MQ below (va_Qi (fun (r : Int32) (_ : Nat → Bool) => r = nI (cnt (shE n K V R S L) n)) (fun (u : Nat → Bool) => wr_B dC dI (A) [(jm, .inr (3, [.int (nI 0), .long sd, .long tp, .int (nI n), .ref ik, .ref iv, .ref ir, .ref il, .ref iy, .ref ig])), (ik, .inl (dk, 86, .inl K)), (iv, .inl (dv, 86, .inl V)), (ir, .inl (dr, 86, .inl R)), (il, .inl (dl, 43, .inl (bF (shE n K V R S L)))), (iy, .inl (dy, 256, .inl (bF S))), (ig, .inl (dg, 43, .inl (bF u)))] [(dk, .int), (dv, .int), (dr, .int), (dl, .boolean), (dy, .boolean), (dg, .boolean)]) (A)) ([.ref jm]).toArray s 0 0 A) (F0 m 30 ls []) := by
      intro k9_30
      induction k9_30 with
      | zero =>
        intro f L1 Gq hk9
        exact absurd hk9 (Nat.not_lt_zero _)
      | succ k9_30 ih_30 =>
        intro f L1 Gq hk9_30 hf hsh H locs hP hD hS ls hl
        obtain ⟨f, rfl⟩ : ∃ f1, f = f1 + 1 := ⟨f - 1, by omega⟩
        refine lv_aload_n hx hb d_M_shorter_30 rfl (lv_at hl 0 rfl) ?_
        have hPc := hP.sub (ws' := [(jm, .inr (3, [.int (nI 0), .long sd, .long tp, .int (nI n), .ref ik, .ref iv, .ref ir, .ref il, .ref iy, .ref ig])), (ik, .inl (dk, 86, .inl K)), (iv, .inl (dv, 86, .inl V)), (ir, .inl (dr, 86, .inl R)), (il, .inl (dl, 43, .inl (bF L1))), (iy, .inl (dy, 256, .inl (bF S))), (ig, .inl (dg, 43, .inl (bF Gq)))]) [0, 1, 2, 3, 4, 5, 6] rfl
        have hKc := hK.sub (tys' := [(dk, .int), (dv, .int), (dr, .int), (dl, .boolean), (dy, .boolean), (dg, .boolean)]) [0, 1, 2, 3, 4, 5] rfl
        have hDc := hD.sub (ws' := [(jm, .inr (3, [.int (nI 0), .long sd, .long tp, .int (nI n), .ref ik, .ref iv, .ref ir, .ref il, .ref iy, .ref ig])), (ik, .inl (dk, 86, .inl K)), (iv, .inl (dv, 86, .inl V)), (ir, .inl (dr, 86, .inl R)), (il, .inl (dl, 43, .inl (bF L1))), (iy, .inl (dy, 256, .inl (bF S))), (ig, .inl (dg, 43, .inl (bF Gq)))]) [0, 1, 2, 3, 4, 5, 6] (by decide) rfl
        have hFc := va_free (wc := [(jm, .inr (3, [.int (nI 0), .long sd, .long tp, .int (nI n), .ref ik, .ref iv, .ref ir, .ref il, .ref iy, .ref ig])), (ik, .inl (dk, 86, .inl K)), (iv, .inl (dv, 86, .inl V)), (ir, .inl (dr, 86, .inl R)), (il, .inl (dl, 43, .inl (bF L1))), (iy, .inl (dy, 256, .inl (bF S))), (ig, .inl (dg, 43, .inl (bF Gq)))]) hD hS hA [0, 1, 2, 3, 4, 5, 6] rfl
        refine va_calli (va_runV (As := []) (rest := []) ⟨hx, hb, hml, hown, hts⟩ (c_M_first l dC dI jm ik iv ir il iy ig n (nI 0) sd tp dk dv dr dl dy dg K V R L1 S Gq (by first | assumption | omega) (by first | assumption | omega) (by first | assumption | omega) _) (cwV 0 hts (g_V big_w m_439 m_441 ms_30 m_4 m_442) rfl rfl rfl (by decide +kernel) ⟨Nat.le_of_ble_eq_true rfl, Nat.le_of_ble_eq_true rfl⟩) (wr_V hPc hKc hDc hN (va_recv hKc hPc (ci := 3) (q0 := 0) rfl rfl)) rfl rfl hl.1 rfl (lv_room (Nat.le_of_ble_eq_true rfl)) d_M_shorter_31 ⟨Nat.le_of_ble_eq_true rfl, Nat.le_of_ble_eq_true rfl⟩) hS (fun q _ h => hFc q h) hFc (fun r_4 u t H1 locs ht hvm hw hB hz1 hk1 hS => ?_)
        obtain ⟨hP1, hK1, hD1⟩ := hB
        rw [ht] at hP1
        obtain ⟨hP, hD⟩ := va_join (wr := []) (w1 := [(jm, .inr (3, [.int (nI 0), .long sd, .long tp, .int (nI n), .ref ik, .ref iv, .ref ir, .ref il, .ref iy, .ref ig])), (ik, .inl (dk, 86, .inl K)), (iv, .inl (dv, 86, .inl V)), (ir, .inl (dr, 86, .inl R)), (il, .inl (dl, 43, .inl (bF L1))), (iy, .inl (dy, 256, .inl (bF S))), (ig, .inl (dg, 43, .inl (bF (gaE n K V R S L1 Gq))))]) hP hD [0, 1, 2, 3, 4, 5, 6] [] rfl rfl (by decide) (by decide) hk1 hFc hP1 hD1
        generalize H1 = H at hP hS ⊢
        have hP : va_P (dC, dI) classes [(jm, .inr (3, [.int (nI 0), .long sd, .long tp, .int (nI n), .ref ik, .ref iv, .ref ir, .ref il, .ref iy, .ref ig])), (ik, .inl (dk, 86, .inl K)), (iv, .inl (dv, 86, .inl V)), (ir, .inl (dr, 86, .inl R)), (il, .inl (dl, 43, .inl (bF L1))), (iy, .inl (dy, 256, .inl (bF S))), (ig, .inl (dg, 43, .inl (bF (gaE n K V R S L1 Gq))))] H := hP
        have hD : va_D A [(jm, .inr (3, [.int (nI 0), .long sd, .long tp, .int (nI n), .ref ik, .ref iv, .ref ir, .ref il, .ref iy, .ref ig])), (ik, .inl (dk, 86, .inl K)), (iv, .inl (dv, 86, .inl V)), (ir, .inl (dr, 86, .inl R)), (il, .inl (dl, 43, .inl (bF L1))), (iy, .inl (dy, 256, .inl (bF S))), (ig, .inl (dg, 43, .inl (bF (gaE n K V R S L1 Gq))))] := hD
        have hw := hw.symm
        subst hw
        refine lv_if_lt (tgt := 44) hx hb d_M_shorter_34 (by decide) (fun c_34 => ?_) (fun c_34 => ?_)
        · skip
          have c_34 := (mg_lt0 hn).mp c_34
          have ev : L1 = shE n K V R S L := shE_v c_18 hsh c_34
          refine lv_aload_n hx hb d_M_shorter_44 rfl (lv_at hl 0 rfl) ?_
          have hPc := hP.sub (ws' := [(jm, .inr (3, [.int (nI 0), .long sd, .long tp, .int (nI n), .ref ik, .ref iv, .ref ir, .ref il, .ref iy, .ref ig])), (il, .inl (dl, 43, .inl (bF L1)))]) [0, 4] rfl
          have hKc := hK.sub (tys' := [(dl, .boolean)]) [3] rfl
          refine vp_callSi (W.runV (As := []) (rest := []) ⟨hx, hb, hml, hown, hts⟩ (c_M_many l dC dI jm ik iv ir il iy ig n (nI 0) sd tp dl L1 (by first | assumption | omega)) (cwV 0 hts (g_V big_w m_451 m_453 ms_33 m_4 m_454) rfl rfl rfl (by decide +kernel) ⟨Nat.le_of_ble_eq_true rfl, Nat.le_of_ble_eq_true rfl⟩) (ro_V hPc hKc hN (va_recv hKc hPc (ci := 3) (q0 := 0) rfl rfl)) rfl rfl hl.1 rfl (lv_room (Nat.le_of_ble_eq_true rfl)) d_M_shorter_45 ⟨Nat.le_of_ble_eq_true rfl, Nat.le_of_ble_eq_true rfl⟩) (fun r_5 er_5 => ?_)
          have er_5 := er_5.symm
          subst er_5
          rw [show (bF L1) = (bF (shE n K V R S L)) from (congrArg bF ev)] at hP hD
          have hP9 := hP.sub (ws' := [(jm, .inr (3, [.int (nI 0), .long sd, .long tp, .int (nI n), .ref ik, .ref iv, .ref ir, .ref il, .ref iy, .ref ig])), (ik, .inl (dk, 86, .inl K)), (iv, .inl (dv, 86, .inl V)), (ir, .inl (dr, 86, .inl R)), (il, .inl (dl, 43, .inl (bF (shE n K V R S L)))), (iy, .inl (dy, 256, .inl (bF S))), (ig, .inl (dg, 43, .inl (bF (gaE n K V R S L1 Gq))))]) [0, 1, 2, 3, 4, 5, 6] rfl
          have hD9 := hD.sub (ws' := [(jm, .inr (3, [.int (nI 0), .long sd, .long tp, .int (nI n), .ref ik, .ref iv, .ref ir, .ref il, .ref iy, .ref ig])), (ik, .inl (dk, 86, .inl K)), (iv, .inl (dv, 86, .inl V)), (ir, .inl (dr, 86, .inl R)), (il, .inl (dl, 43, .inl (bF (shE n K V R S L)))), (iy, .inl (dy, 256, .inl (bF S))), (ig, .inl (dg, 43, .inl (bF (gaE n K V R S L1 Gq))))]) [0, 1, 2, 3, 4, 5, 6] (by decide) rfl
          have hK9 := hK.sub (tys' := [(dk, .int), (dv, .int), (dr, .int), (dl, .boolean), (dy, .boolean), (dg, .boolean)]) [0, 1, 2, 3, 4, 5] rfl
          exact W.iret (v := nI (cnt L1 n)) hx hb hr (fun t ht hW => ⟨⟨nI (cnt L1 n), (gaE n K V R S L1 Gq), rfl, (by rw [ev]), by rw [ht]; exact hP9, va_K.moved hW.alike hK9, hD9⟩, hS.F ht⟩) hS.2.2 d_M_shorter_48
        · skip
          obtain ⟨i, hi9⟩ := mg_some hn c_34
          refine lv_aload_n hx hb d_M_shorter_37 rfl (lv_at hl 0 rfl) ?_
          have hPc := hP.sub (ws' := [(jm, .inr (3, [.int (nI 0), .long sd, .long tp, .int (nI n), .ref ik, .ref iv, .ref ir, .ref il, .ref iy, .ref ig])), (il, .inl (dl, 43, .inl (bF L1))), (ig, .inl (dg, 43, .inl (bF (gaE n K V R S L1 Gq))))]) [0, 4, 6] rfl
          have hKc := hK.sub (tys' := [(dl, .boolean), (dg, .boolean)]) [3, 5] rfl
          have hDc := hD.sub (ws' := [(jm, .inr (3, [.int (nI 0), .long sd, .long tp, .int (nI n), .ref ik, .ref iv, .ref ir, .ref il, .ref iy, .ref ig])), (il, .inl (dl, 43, .inl (bF L1))), (ig, .inl (dg, 43, .inl (bF (gaE n K V R S L1 Gq))))]) [0, 4, 6] (by decide) rfl
          have hFc := va_free (wc := [(jm, .inr (3, [.int (nI 0), .long sd, .long tp, .int (nI n), .ref ik, .ref iv, .ref ir, .ref il, .ref iy, .ref ig])), (il, .inl (dl, 43, .inl (bF L1))), (ig, .inl (dg, 43, .inl (bF (gaE n K V R S L1 Gq))))]) hD hS hA [0, 4, 6] rfl
          refine va_callv (va_runV (As := []) (rest := []) ⟨hx, hb, hml, hown, hts⟩ (c_M_leaves l dC dI jm ik iv ir il iy ig n (nI 0) sd tp dl dg L1 (gaE n K V R S L1 Gq) (by first | assumption | omega) _) (cwV 0 hts (g_V big_w m_455 m_457 ms_34 m_4 m_458) rfl rfl rfl (by decide +kernel) ⟨Nat.le_of_ble_eq_true rfl, Nat.le_of_ble_eq_true rfl⟩) (wr_V hPc hKc hDc hN (va_recv hKc hPc (ci := 3) (q0 := 0) rfl rfl)) rfl rfl hl.1 rfl (lv_room (Nat.le_of_ble_eq_true rfl)) d_M_shorter_38 ⟨Nat.le_of_ble_eq_true rfl, Nat.le_of_ble_eq_true rfl⟩) hS (fun q _ h => hFc q h) hFc (fun u t H1 locs ht hvm hw hB hz1 hk1 hS => ?_)
          obtain ⟨hP1, hK1, hD1⟩ := hB
          rw [ht] at hP1
          obtain ⟨hP, hD⟩ := va_join (wr := [(ik, .inl (dk, 86, .inl K)), (iv, .inl (dv, 86, .inl V)), (ir, .inl (dr, 86, .inl R)), (iy, .inl (dy, 256, .inl (bF S)))]) (w1 := [(jm, .inr (3, [.int (nI 0), .long sd, .long tp, .int (nI n), .ref ik, .ref iv, .ref ir, .ref il, .ref iy, .ref ig])), (il, .inl (dl, 43, .inl (bF (lvF n L1 (gaE n K V R S L1 Gq))))), (ig, .inl (dg, 43, .inl (bF (gaE n K V R S L1 Gq))))]) hP hD [0, 4, 6] [1, 2, 3, 5] rfl rfl (by decide) (by decide) hk1 hFc hP1 hD1
          generalize H1 = H at hP hS ⊢
          have hP : va_P (dC, dI) classes [(ik, .inl (dk, 86, .inl K)), (iv, .inl (dv, 86, .inl V)), (ir, .inl (dr, 86, .inl R)), (iy, .inl (dy, 256, .inl (bF S))), (jm, .inr (3, [.int (nI 0), .long sd, .long tp, .int (nI n), .ref ik, .ref iv, .ref ir, .ref il, .ref iy, .ref ig])), (il, .inl (dl, 43, .inl (bF (lvF n L1 (gaE n K V R S L1 Gq))))), (ig, .inl (dg, 43, .inl (bF (gaE n K V R S L1 Gq))))] H := hP
          have hD : va_D A [(ik, .inl (dk, 86, .inl K)), (iv, .inl (dv, 86, .inl V)), (ir, .inl (dr, 86, .inl R)), (iy, .inl (dy, 256, .inl (bF S))), (jm, .inr (3, [.int (nI 0), .long sd, .long tp, .int (nI n), .ref ik, .ref iv, .ref ir, .ref il, .ref iy, .ref ig])), (il, .inl (dl, 43, .inl (bF (lvF n L1 (gaE n K V R S L1 Gq))))), (ig, .inl (dg, 43, .inl (bF (gaE n K V R S L1 Gq))))] := hD
          rw [show (bF (lvF n L1 (gaE n K V R S L1 Gq))) = (bF (lvF n L1 (mkF R L1 i n))) from (by rw [gaE_s hi9])] at hP hD
          refine lv_goto (tgt := 30) hx hb d_M_shorter_41 (by decide) ?_
          exact ih_30 f (lvF n L1 (mkF R L1 i n)) (gaE n K V R S L1 Gq) (by omega) (by have := lv_less (R := R) (mgO_lt hi9).1 (mgO_lt hi9).2; omega) ((shL_s hi9).symm.trans hsh) _ _ (hP.sub (ws' := [(jm, .inr (3, [.int (nI 0), .long sd, .long tp, .int (nI n), .ref ik, .ref iv, .ref ir, .ref il, .ref iy, .ref ig])), (ik, .inl (dk, 86, .inl K)), (iv, .inl (dv, 86, .inl V)), (ir, .inl (dr, 86, .inl R)), (il, .inl (dl, 43, .inl (bF (lvF n L1 (mkF R L1 i n))))), (iy, .inl (dy, 256, .inl (bF S))), (ig, .inl (dg, 43, .inl (bF (gaE n K V R S L1 Gq))))]) [4, 0, 1, 2, 5, 3, 6] rfl) (hD.sub (ws' := [(jm, .inr (3, [.int (nI 0), .long sd, .long tp, .int (nI n), .ref ik, .ref iv, .ref ir, .ref il, .ref iy, .ref ig])), (ik, .inl (dk, 86, .inl K)), (iv, .inl (dv, 86, .inl V)), (ir, .inl (dr, 86, .inl R)), (il, .inl (dl, 43, .inl (bF (lvF n L1 (mkF R L1 i n))))), (iy, .inl (dy, 256, .inl (bF S))), (ig, .inl (dg, 43, .inl (bF (gaE n K V R S L1 Gq))))]) [4, 0, 1, 2, 5, 3, 6] (by decide) rfl) hS ls (lv_sub (l' := [(0, .ref jm)]) hl [0] rfl)
    exact lp_30 ((n + 1) + 1) (n + 1) L fF (by omega) (by omega) rfl _ _ (hP.sub (ws' := [(jm, .inr (3, [.int (nI 0), .long sd, .long tp, .int (nI n), .ref ik, .ref iv, .ref ir, .ref il, .ref iy, .ref ig])), (ik, .inl (dk, 86, .inl K)), (iv, .inl (dv, 86, .inl V)), (ir, .inl (dr, 86, .inl R)), (il, .inl (dl, 43, .inl (bF L))), (iy, .inl (dy, 256, .inl (bF S))), (ig, .inl (dg, 43, .inl (bF fF)))]) [5, 0, 1, 2, 3, 4, 6] rfl) (hD.sub (ws' := [(jm, .inr (3, [.int (nI 0), .long sd, .long tp, .int (nI n), .ref ik, .ref iv, .ref ir, .ref il, .ref iy, .ref ig])), (ik, .inl (dk, 86, .inl K)), (iv, .inl (dv, 86, .inl V)), (ir, .inl (dr, 86, .inl R)), (il, .inl (dl, 43, .inl (bF L))), (iy, .inl (dy, 256, .inl (bF S))), (ig, .inl (dg, 43, .inl (bF fF)))]) [5, 0, 1, 2, 3, 4, 6] (by decide) rfl) hS ls (lv_sub (l' := [(0, .ref jm)]) hl [0] rfl)
  · skip
    have c_18 := bI_f c_18
    have ew : alF n 43 L = shE n K V R S L := shE_a c_18
    refine lv_aload_n hx hb d_M_shorter_21 rfl (lv_at hl 0 rfl) ?_
    have hPc := hP.sub (ws' := [(jm, .inr (3, [.int (nI 0), .long sd, .long tp, .int (nI n), .ref ik, .ref iv, .ref ir, .ref il, .ref iy, .ref ig])), (il, .inl (dl, 43, .inl (bF L)))]) [5, 3] rfl
    have hKc := hK.sub (tys' := [(dl, .boolean)]) [3] rfl
    have hDc := hD.sub (ws' := [(jm, .inr (3, [.int (nI 0), .long sd, .long tp, .int (nI n), .ref ik, .ref iv, .ref ir, .ref il, .ref iy, .ref ig])), (il, .inl (dl, 43, .inl (bF L)))]) [5, 3] (by decide) rfl
    have hFc := va_free (wc := [(jm, .inr (3, [.int (nI 0), .long sd, .long tp, .int (nI n), .ref ik, .ref iv, .ref ir, .ref il, .ref iy, .ref ig])), (il, .inl (dl, 43, .inl (bF L)))]) hD hS hA [5, 3] rfl
    refine va_callv (va_runV (As := []) (rest := []) ⟨hx, hb, hml, hown, hts⟩ (c_M_all l dC dI jm ik iv ir il iy ig n (nI 0) sd tp dl L (by first | assumption | omega) _) (cwV 0 hts (g_V big_w m_399 m_401 ms_25 m_4 m_402) rfl rfl rfl (by decide +kernel) ⟨Nat.le_of_ble_eq_true rfl, Nat.le_of_ble_eq_true rfl⟩) (wr_V hPc hKc hDc hN (va_recv hKc hPc (ci := 3) (q0 := 0) rfl rfl)) rfl rfl hl.1 rfl (lv_room (Nat.le_of_ble_eq_true rfl)) d_M_shorter_22 ⟨Nat.le_of_ble_eq_true rfl, Nat.le_of_ble_eq_true rfl⟩) hS (fun q _ h => hFc q h) hFc (fun u t H1 locs ht hvm hw hB hz1 hk1 hS => ?_)
    obtain ⟨hP1, hK1, hD1⟩ := hB
    rw [ht] at hP1
    obtain ⟨hP, hD⟩ := va_join (wr := [(ik, .inl (dk, 86, .inl K)), (iv, .inl (dv, 86, .inl V)), (ir, .inl (dr, 86, .inl R)), (iy, .inl (dy, 256, .inl (bF S))), (ig, .inl (dg, 43, .inl (bF fF)))]) (w1 := [(jm, .inr (3, [.int (nI 0), .long sd, .long tp, .int (nI n), .ref ik, .ref iv, .ref ir, .ref il, .ref iy, .ref ig])), (il, .inl (dl, 43, .inl (bF (alF n 43 L))))]) hP hD [5, 3] [0, 1, 2, 4, 6] rfl rfl (by decide) (by decide) hk1 hFc hP1 hD1
    generalize H1 = H at hP hS ⊢
    have hP : va_P (dC, dI) classes [(ik, .inl (dk, 86, .inl K)), (iv, .inl (dv, 86, .inl V)), (ir, .inl (dr, 86, .inl R)), (iy, .inl (dy, 256, .inl (bF S))), (ig, .inl (dg, 43, .inl (bF fF))), (jm, .inr (3, [.int (nI 0), .long sd, .long tp, .int (nI n), .ref ik, .ref iv, .ref ir, .ref il, .ref iy, .ref ig])), (il, .inl (dl, 43, .inl (bF (alF n 43 L))))] H := hP
    have hD : va_D A [(ik, .inl (dk, 86, .inl K)), (iv, .inl (dv, 86, .inl V)), (ir, .inl (dr, 86, .inl R)), (iy, .inl (dy, 256, .inl (bF S))), (ig, .inl (dg, 43, .inl (bF fF))), (jm, .inr (3, [.int (nI 0), .long sd, .long tp, .int (nI n), .ref ik, .ref iv, .ref ir, .ref il, .ref iy, .ref ig])), (il, .inl (dl, 43, .inl (bF (alF n 43 L))))] := hD
    refine lv_aload_n hx hb d_M_shorter_25 rfl (lv_at hl 0 rfl) ?_
    refine va_get (D := (dC, dI)) (ci := 3) (v := .int (nI n)) (C := R_M) (T := F_M) (N := 10) hx hb hts (lay_M _) hown hK hP 5 rfl rfl 3 (by decide) (hts _ (List.mem_cons_of_mem _ m_339)) (fun _ h9 => h9) rfl d_M_shorter_26 ?_
    rw [ew] at hP hD
    have hP9 := hP.sub (ws' := [(jm, .inr (3, [.int (nI 0), .long sd, .long tp, .int (nI n), .ref ik, .ref iv, .ref ir, .ref il, .ref iy, .ref ig])), (ik, .inl (dk, 86, .inl K)), (iv, .inl (dv, 86, .inl V)), (ir, .inl (dr, 86, .inl R)), (il, .inl (dl, 43, .inl (bF (shE n K V R S L)))), (iy, .inl (dy, 256, .inl (bF S))), (ig, .inl (dg, 43, .inl (bF fF)))]) [5, 0, 1, 2, 6, 3, 4] rfl
    have hD9 := hD.sub (ws' := [(jm, .inr (3, [.int (nI 0), .long sd, .long tp, .int (nI n), .ref ik, .ref iv, .ref ir, .ref il, .ref iy, .ref ig])), (ik, .inl (dk, 86, .inl K)), (iv, .inl (dv, 86, .inl V)), (ir, .inl (dr, 86, .inl R)), (il, .inl (dl, 43, .inl (bF (shE n K V R S L)))), (iy, .inl (dy, 256, .inl (bF S))), (ig, .inl (dg, 43, .inl (bF fF)))]) [5, 0, 1, 2, 6, 3, 4] (by decide) rfl
    have hK9 := hK.sub (tys' := [(dk, .int), (dv, .int), (dr, .int), (dl, .boolean), (dy, .boolean), (dg, .boolean)]) [0, 1, 2, 3, 4, 5] rfl
    exact W.iret (v := nI n) hx hb hr (fun t ht hW => ⟨⟨nI n, (fF), rfl, (by rw [← ew, alF_cnt hn]), by rw [ht]; exact hP9, va_K.moved hW.alike hK9, hD9⟩, hS.F ht⟩) hS.2.2 d_M_shorter_29
set_option maxHeartbeats 4000000 in
set_option maxRecDepth 100000 in
/-- reference: left -/
theorem c_M_left (l : Launch) (dC : Nat → ClassId) (dI : Nat → Nat → Nat) (jm ik iv ir il iy ig : Nat) (n : Nat) (th : Int32) (sd tp : Int64) (dl : ClassId) (L : Nat → Bool) (p0 : Int32) (hn : n ≤ 43) (sz : Nat) : Met l y_M_left w_M_left ({ frames := 0, cells := 0, slots := 0, locals := 0 }) (wr_P dC dI [.ref jm, .int p0] [(jm, .inr (3, [.int th, .long sd, .long tp, .int (nI n), .ref ik, .ref iv, .ref ir, .ref il, .ref iy, .ref ig])), (il, .inl (dl, 43, .inl (bF L)))] [(dl, .boolean)] sz) (va_Qi (fun (r : Int32) (_ : Unit) => r = oI (fst9 (dQ L p0) n)) (fun (u : Unit) => wr_B dC dI (va_A [(jm, .inr (3, [.int th, .long sd, .long tp, .int (nI n), .ref ik, .ref iv, .ref ir, .ref il, .ref iy, .ref ig])), (il, .inl (dl, 43, .inl (bF L)))] sz) [(jm, .inr (3, [.int (nI 0), .long sd, .long tp, .int (nI n), .ref ik, .ref iv, .ref ir, .ref il, .ref iy, .ref ig])), (il, .inl (dl, 43, .inl (bF L)))] [(dl, .boolean)]) (va_A [(jm, .inr (3, [.int th, .long sd, .long tp, .int (nI n), .ref ik, .ref iv, .ref ir, .ref il, .ref iy, .ref ig])), (il, .inl (dl, 43, .inl (bF L)))] sz)) 0 0 (va_A [(jm, .inr (3, [.int th, .long sd, .long tp, .int (nI n), .ref ik, .ref iv, .ref ir, .ref il, .ref iy, .ref ig])), (il, .inl (dl, 43, .inl (bF L)))] sz) := by
  refine Met.ofW (cc := b_M_left) (maxL := 4) (ret := (Option.some Jvm.ClassFile.FieldType.int)) (by decide) rfl ?_
  intro p e s m args below meth c s₁ B0 hml hv0
  obtain ⟨rfl, hsz, hP, hK, hD0, hN⟩ := hv0
  have hx := B0.exec
  have hb := B0.bytes
  have hr := B0.returns
  have hts := atoms_spec (ws := w_M_left) B0.pre
  have hown : s.vm.findClass R_M = some m.cls := findClass_of_methodNamed B0.named
  have hlocks := B0.notSynchronized
  subst hsz
  have hD := hD0.self (sz := s.heap.size)
  generalize hAe : va_A [(jm, .inr (3, [.int th, .long sd, .long tp, .int (nI n), .ref ik, .ref iv, .ref ir, .ref il, .ref iy, .ref ig])), (il, .inl (dl, 43, .inl (bF L)))] s.heap.size = A at hD ⊢
  have hA : ∀ q : Nat, s.heap.size ≤ q → A q := fun q h => by rw [← hAe]; exact Or.inr h
  have hS : va_S A s.heap s.heap [] := va_S.rf
  have hP : va_P (dC, dI) classes [(jm, .inr (3, [.int th, .long sd, .long tp, .int (nI n), .ref ik, .ref iv, .ref ir, .ref il, .ref iy, .ref ig])), (il, .inl (dl, 43, .inl (bF L)))] s.heap := hP
  have hl := lv_entry ([.ref jm, .int p0]) (n := 4) (Nat.le_of_ble_eq_true rfl)
  rw [lg_entry_eq]
  generalize (lg_sl ([.ref jm, .int p0]) ++ List.replicate (4 - (lg_sl ([.ref jm, .int p0])).length) Slot.unset).toArray = ls at hl ⊢
  have hl : lv_has ls 4 [(0, .ref jm), (1, .int p0)] := hl
  refine lv_aload_n hx hb d_M_left_0 rfl (lv_at hl 0 rfl) ?_
  refine lv_iconst (v := nI 0) hx hb d_M_left_1 (by decide +kernel) ?_
  refine va_put (D := (dC, dI)) (ci := 3) (v := .int (nI 0)) (ty := .int) (C := R_M) (T := F_M) (N := 10) hx hb hts (lay_M _) ft_M tok_M nok_M hown hK hP hD hS 0 rfl rfl 0 (by decide) (hts _ (List.mem_cons_of_mem _ m_336)) (fun _ h9 => h9) rfl (by decide +kernel) rfl rfl (Nat.le_of_ble_eq_true rfl) d_M_left_2 (fun H locs hP hD hS => ?_)
  have hP : va_P (dC, dI) classes [(jm, .inr (3, [.int (nI 0), .long sd, .long tp, .int (nI n), .ref ik, .ref iv, .ref ir, .ref il, .ref iy, .ref ig])), (il, .inl (dl, 43, .inl (bF L)))] H := hP
  have hD : va_D A [(jm, .inr (3, [.int (nI 0), .long sd, .long tp, .int (nI n), .ref ik, .ref iv, .ref ir, .ref il, .ref iy, .ref ig])), (il, .inl (dl, 43, .inl (bF L)))] := hD
  refine lv_iload_n hx hb d_M_left_5 rfl (lv_at hl 1 rfl) ?_
  refine lv_istore_n (lv' := [(2, .int p0), (0, .ref jm), (1, .int p0)]) hx hb d_M_left_6 rfl hl (by decide) rfl (fun ls hl => ?_)
  refine lv_iconst (v := nI 0) hx hb d_M_left_7 (by decide +kernel) ?_
  refine lv_istore_n (lv' := [(3, .int (nI 0)), (2, .int p0), (0, .ref jm), (1, .int p0)]) hx hb d_M_left_8 rfl hl (by decide) rfl (fun ls hl => ?_)
  rw [show p0 = p0 - (nI (cnt L 0)) from ((pk_z p0).symm)] at hl
  have lp_9 : ∀ (k9_9 : Nat), ∀ (i : Nat), n - i < k9_9 → (i ≤ n) → (∀ a, a < i → dQ L p0 a = false) → ∀ (ls : Array Slot), lv_has ls 4 [(0, .ref jm), (2, .int (p0 - (nI (cnt L i)))), (3, .int (nI i))] → W p l e (headSpec w_M_left ({ frames := 0, cells := 0, slots := 0, locals := 0 })).room s m ([.ref jm, .int p0]).toArray below meth c H locs 0 0 (MQ below (va_Qi (fun (r : Int32) (_ : Unit) => r = oI (fst9 (dQ L p0) n)) (fun (u : Unit) => wr_B dC dI (A) [(jm, .inr (3, [.int (nI 0), .long sd, .long tp, .int (nI n), .ref ik, .ref iv, .ref ir, .ref il, .ref iy, .ref ig])), (il, .inl (dl, 43, .inl (bF L)))] [(dl, .boolean)]) (A)) ([.ref jm, .int p0]).toArray s 0 0 A) (F0 m 9 ls []) := by
    intro k9_9
    induction k9_9 with
    | zero =>
      intro i hk9
      exact absurd hk9 (Nat.not_lt_zero _)
    | succ k9_9 ih_9 =>
      intro i hk9_9 hi hno ls hl
      refine lv_iload_n hx hb d_M_left_9 rfl (lv_at hl 2 rfl) ?_
      refine lv_aload_n hx hb d_M_left_10 rfl (lv_at hl 0 rfl) ?_
      refine va_get (D := (dC, dI)) (ci := 3) (v := .int (nI n)) (C := R_M) (T := F_M) (N := 10) hx hb hts (lay_M _) hown hK hP 0 rfl rfl 3 (by decide) (hts _ (List.mem_cons_of_mem _ m_339)) (fun _ h9 => h9) rfl d_M_left_11 ?_
      refine lv_icmp_ge (tgt := 55) hx hb d_M_left_14 (by decide) (fun c_14 => ?_) (fun c_14 => ?_)
      · skip
        have c_14 := (nI_leI (by omega) (by omega)).mp c_14
        refine lv_iconst (v := (-1)) hx hb d_M_left_55 (by decide +kernel) ?_
        have hP9 := hP.sub (ws' := [(jm, .inr (3, [.int (nI 0), .long sd, .long tp, .int (nI n), .ref ik, .ref iv, .ref ir, .ref il, .ref iy, .ref ig])), (il, .inl (dl, 43, .inl (bF L)))]) [0, 1] rfl
        have hD9 := hD.sub (ws' := [(jm, .inr (3, [.int (nI 0), .long sd, .long tp, .int (nI n), .ref ik, .ref iv, .ref ir, .ref il, .ref iy, .ref ig])), (il, .inl (dl, 43, .inl (bF L)))]) [0, 1] (by decide) rfl
        have hK9 := hK.sub (tys' := [(dl, .boolean)]) [0] rfl
        exact W.iret (v := (-1)) hx hb hr (fun t ht hW => ⟨⟨(-1), (), rfl, (by rw [fst9_none (fun a ha => hno a (by omega))]; rfl), by rw [ht]; exact hP9, va_K.moved hW.alike hK9, hD9⟩, hS.F ht⟩) hS.2.2 d_M_left_56
      · skip
        have c_14 := (not_congr (nI_leI (by omega) (by omega))).mp c_14
        refine lv_aload_n hx hb d_M_left_17 rfl (lv_at hl 0 rfl) ?_
        refine va_get (D := (dC, dI)) (ci := 3) (v := .ref il) (C := R_M) (T := F_M) (N := 10) hx hb hts (lay_M _) hown hK hP 0 rfl rfl 7 (by decide) (hts _ (List.mem_cons_of_mem _ m_343)) (fun _ h9 => h9) rfl d_M_left_18 ?_
        refine lv_iload_n hx hb d_M_left_21 rfl (lv_at hl 2 rfl) ?_
        refine va_zald hx hb hK hP 1 0 rfl rfl (vp_in_nI (by omega) (by omega)) d_M_left_22 ?_
        refine lv_topi (fun w_1 ew_1 => ?_)
        have ew_1 : (bI (L i)) = w_1 := (ew_1.trans (by rw [nI_clamp (by omega)]; rfl)).symm
        subst ew_1
        refine lv_if_eq (tgt := 32) hx hb d_M_left_23 (by decide) (fun c_23 => ?_) (fun c_23 => ?_)
        · skip
          have c_23 := bI_f c_23
          have hq9 : dQ L p0 i = false := by unfold dQ; rw [c_23]; rfl
          refine lv_iload_n hx hb d_M_left_32 rfl (lv_at hl 1 rfl) ?_
          refine lv_aload_n hx hb d_M_left_33 rfl (lv_at hl 0 rfl) ?_
          refine va_get (D := (dC, dI)) (ci := 3) (v := .ref il) (C := R_M) (T := F_M) (N := 10) hx hb hts (lay_M _) hown hK hP 0 rfl rfl 7 (by decide) (hts _ (List.mem_cons_of_mem _ m_343)) (fun _ h9 => h9) rfl d_M_left_34 ?_
          refine lv_iload_n hx hb d_M_left_37 rfl (lv_at hl 2 rfl) ?_
          refine va_zald hx hb hK hP 1 0 rfl rfl (vp_in_nI (by omega) (by omega)) d_M_left_38 ?_
          refine lv_topi (fun w_2 ew_2 => ?_)
          have ew_2 : (bI (L i)) = w_2 := (ew_2.trans (by rw [nI_clamp (by omega)]; rfl)).symm
          subst ew_2
          refine lv_if_eq (tgt := 46) hx hb d_M_left_39 (by decide) (fun c_39 => ?_) (fun c_39 => ?_)
          · skip
            have c_39 := bI_f c_39
            refine lv_iconst (v := nI 0) hx hb d_M_left_46 (by decide +kernel) ?_
            refine lv_isub hx hb d_M_left_47 ?_
            refine lv_topi (fun w_3 ew_3 => ?_)
            have ew_3 : (p0 - (nI (cnt L (i + 1)))) = w_3 := (ew_3.trans (by first | (rw [cnt_t (P := L) (n := i) c_39]; exact pk_1 _ _) | (rw [cnt_f (P := L) (n := i) c_39]; exact pk_z _))).symm
            subst ew_3
            refine lv_istore_n (lv' := [(2, .int (p0 - (nI (cnt L (i + 1))))), (0, .ref jm), (3, .int (nI i))]) hx hb d_M_left_48 rfl hl (by decide) rfl (fun ls hl => ?_)
            refine lv_iinc (v := nI (i + 1)) (lv' := [(3, .int (nI (i + 1))), (2, .int (p0 - (nI (cnt L (i + 1))))), (0, .ref jm)]) hx hb d_M_left_49 hl (k := 2) rfl (nI_1 _) (by decide) rfl (fun ls hl => ?_)
            refine lv_goto (tgt := 9) hx hb d_M_left_52 (by decide) ?_
            exact ih_9 (i + 1) (by omega) (by omega) (lt_s hno hq9) ls (lv_sub (l' := [(0, .ref jm), (2, .int (p0 - (nI (cnt L (i + 1))))), (3, .int (nI (i + 1)))]) hl [2, 1, 0] rfl)
          · skip
            have c_39 := bI_t c_39
            refine lv_iconst (v := nI 1) hx hb d_M_left_42 (by decide +kernel) ?_
            refine lv_goto (tgt := 47) hx hb d_M_left_43 (by decide) ?_
            refine lv_isub hx hb d_M_left_47 ?_
            refine lv_topi (fun w_4 ew_4 => ?_)
            have ew_4 : (p0 - (nI (cnt L (i + 1)))) = w_4 := (ew_4.trans (by first | (rw [cnt_t (P := L) (n := i) c_39]; exact pk_1 _ _) | (rw [cnt_f (P := L) (n := i) c_39]; exact pk_z _))).symm
            subst ew_4
            refine lv_istore_n (lv' := [(2, .int (p0 - (nI (cnt L (i + 1))))), (0, .ref jm), (3, .int (nI i))]) hx hb d_M_left_48 rfl hl (by decide) rfl (fun ls hl => ?_)
            refine lv_iinc (v := nI (i + 1)) (lv' := [(3, .int (nI (i + 1))), (2, .int (p0 - (nI (cnt L (i + 1))))), (0, .ref jm)]) hx hb d_M_left_49 hl (k := 2) rfl (nI_1 _) (by decide) rfl (fun ls hl => ?_)
            refine lv_goto (tgt := 9) hx hb d_M_left_52 (by decide) ?_
            exact ih_9 (i + 1) (by omega) (by omega) (lt_s hno hq9) ls (lv_sub (l' := [(0, .ref jm), (2, .int (p0 - (nI (cnt L (i + 1))))), (3, .int (nI (i + 1)))]) hl [2, 1, 0] rfl)
        · skip
          have c_23 := bI_t c_23
          refine lv_iload_n hx hb d_M_left_26 rfl (lv_at hl 1 rfl) ?_
          refine lv_if_ne (tgt := 32) hx hb d_M_left_27 (by decide) (fun c_27 => ?_) (fun c_27 => ?_)
          · skip
            rw [← nI_0] at c_27
            have hq9 : dQ L p0 i = false := by unfold dQ; rw [decide_eq_false (fun z => c_27 (pk_0n.mpr z)), Bool.and_false]
            refine lv_iload_n hx hb d_M_left_32 rfl (lv_at hl 1 rfl) ?_
            refine lv_aload_n hx hb d_M_left_33 rfl (lv_at hl 0 rfl) ?_
            refine va_get (D := (dC, dI)) (ci := 3) (v := .ref il) (C := R_M) (T := F_M) (N := 10) hx hb hts (lay_M _) hown hK hP 0 rfl rfl 7 (by decide) (hts _ (List.mem_cons_of_mem _ m_343)) (fun _ h9 => h9) rfl d_M_left_34 ?_
            refine lv_iload_n hx hb d_M_left_37 rfl (lv_at hl 2 rfl) ?_
            refine va_zald hx hb hK hP 1 0 rfl rfl (vp_in_nI (by omega) (by omega)) d_M_left_38 ?_
            refine lv_topi (fun w_5 ew_5 => ?_)
            have ew_5 : (bI (L i)) = w_5 := (ew_5.trans (by rw [nI_clamp (by omega)]; rfl)).symm
            subst ew_5
            refine lv_if_eq (tgt := 46) hx hb d_M_left_39 (by decide) (fun c_39 => ?_) (fun c_39 => ?_)
            · skip
              have c_39 := bI_f c_39
              refine lv_iconst (v := nI 0) hx hb d_M_left_46 (by decide +kernel) ?_
              refine lv_isub hx hb d_M_left_47 ?_
              refine lv_topi (fun w_6 ew_6 => ?_)
              have ew_6 : (p0 - (nI (cnt L (i + 1)))) = w_6 := (ew_6.trans (by first | (rw [cnt_t (P := L) (n := i) c_39]; exact pk_1 _ _) | (rw [cnt_f (P := L) (n := i) c_39]; exact pk_z _))).symm
              subst ew_6
              refine lv_istore_n (lv' := [(2, .int (p0 - (nI (cnt L (i + 1))))), (0, .ref jm), (3, .int (nI i))]) hx hb d_M_left_48 rfl hl (by decide) rfl (fun ls hl => ?_)
              refine lv_iinc (v := nI (i + 1)) (lv' := [(3, .int (nI (i + 1))), (2, .int (p0 - (nI (cnt L (i + 1))))), (0, .ref jm)]) hx hb d_M_left_49 hl (k := 2) rfl (nI_1 _) (by decide) rfl (fun ls hl => ?_)
              refine lv_goto (tgt := 9) hx hb d_M_left_52 (by decide) ?_
              exact ih_9 (i + 1) (by omega) (by omega) (lt_s hno hq9) ls (lv_sub (l' := [(0, .ref jm), (2, .int (p0 - (nI (cnt L (i + 1))))), (3, .int (nI (i + 1)))]) hl [2, 1, 0] rfl)
            · skip
              have c_39 := bI_t c_39
              refine lv_iconst (v := nI 1) hx hb d_M_left_42 (by decide +kernel) ?_
              refine lv_goto (tgt := 47) hx hb d_M_left_43 (by decide) ?_
              refine lv_isub hx hb d_M_left_47 ?_
              refine lv_topi (fun w_7 ew_7 => ?_)
              have ew_7 : (p0 - (nI (cnt L (i + 1)))) = w_7 := (ew_7.trans (by first | (rw [cnt_t (P := L) (n := i) c_39]; exact pk_1 _ _) | (rw [cnt_f (P := L) (n := i) c_39]; exact pk_z _))).symm
              subst ew_7
              refine lv_istore_n (lv' := [(2, .int (p0 - (nI (cnt L (i + 1))))), (0, .ref jm), (3, .int (nI i))]) hx hb d_M_left_48 rfl hl (by decide) rfl (fun ls hl => ?_)
              refine lv_iinc (v := nI (i + 1)) (lv' := [(3, .int (nI (i + 1))), (2, .int (p0 - (nI (cnt L (i + 1))))), (0, .ref jm)]) hx hb d_M_left_49 hl (k := 2) rfl (nI_1 _) (by decide) rfl (fun ls hl => ?_)
              refine lv_goto (tgt := 9) hx hb d_M_left_52 (by decide) ?_
              exact ih_9 (i + 1) (by omega) (by omega) (lt_s hno hq9) ls (lv_sub (l' := [(0, .ref jm), (2, .int (p0 - (nI (cnt L (i + 1))))), (3, .int (nI (i + 1)))]) hl [2, 1, 0] rfl)
          · skip
            rw [← nI_0] at c_27
            refine lv_iload_n hx hb d_M_left_30 rfl (lv_at hl 2 rfl) ?_
            have hP9 := hP.sub (ws' := [(jm, .inr (3, [.int (nI 0), .long sd, .long tp, .int (nI n), .ref ik, .ref iv, .ref ir, .ref il, .ref iy, .ref ig])), (il, .inl (dl, 43, .inl (bF L)))]) [0, 1] rfl
            have hD9 := hD.sub (ws' := [(jm, .inr (3, [.int (nI 0), .long sd, .long tp, .int (nI n), .ref ik, .ref iv, .ref ir, .ref il, .ref iy, .ref ig])), (il, .inl (dl, 43, .inl (bF L)))]) [0, 1] (by decide) rfl
            have hK9 := hK.sub (tys' := [(dl, .boolean)]) [0] rfl
            exact W.iret (v := nI i) hx hb hr (fun t ht hW => ⟨⟨nI i, (), rfl, (by rw [fst9_some (Q := dQ L p0) (i := i) (by unfold dQ; rw [c_23, decide_eq_true (pk_0n.mp c_27)]; rfl) hno (by omega)]; rfl), by rw [ht]; exact hP9, va_K.moved hW.alike hK9, hD9⟩, hS.F ht⟩) hS.2.2 d_M_left_31
  exact lp_9 ((n - 0) + 1) 0 (by omega) (by omega) lt_0 ls (lv_sub (l' := [(0, .ref jm), (2, .int (p0 - (nI (cnt L 0)))), (3, .int (nI 0))]) hl [2, 1, 0] rfl)
set_option maxHeartbeats 4000000 in
set_option maxRecDepth 100000 in
/-- reference: minimal -/
theorem c_M_minimal (l : Launch) (dC : Nat → ClassId) (dI : Nat → Nat → Nat) (jm ik iv ir il iy ig : Nat) (n : Nat) (th : Int32) (sd tp : Int64) (dk dv dr dl dy dg : ClassId) (K V R : Nat → Int32) (L S G : Nat → Bool)  (hn : n ≤ 43) (hR : rfK n R) (hKk : kdK n K) (sz : Nat) : Met l y_M_minimal w_M_minimal ({ frames := 4, cells := 0, slots := 0, locals := 86 }) (wr_P dC dI [.ref jm] [(jm, .inr (3, [.int th, .long sd, .long tp, .int (nI n), .ref ik, .ref iv, .ref ir, .ref il, .ref iy, .ref ig])), (ik, .inl (dk, 86, .inl K)), (iv, .inl (dv, 86, .inl V)), (ir, .inl (dr, 86, .inl R)), (il, .inl (dl, 43, .inl (bF L))), (iy, .inl (dy, 256, .inl (bF S))), (ig, .inl (dg, 43, .inl (bF G)))] [(dk, .int), (dv, .int), (dr, .int), (dl, .boolean), (dy, .boolean), (dg, .boolean)] sz) (va_Qi (fun (r : Int32) (_ : Nat → Bool) => r = bI (mnM n K V R S L)) (fun (u : Nat → Bool) => wr_B dC dI (va_A [(jm, .inr (3, [.int th, .long sd, .long tp, .int (nI n), .ref ik, .ref iv, .ref ir, .ref il, .ref iy, .ref ig])), (ik, .inl (dk, 86, .inl K)), (iv, .inl (dv, 86, .inl V)), (ir, .inl (dr, 86, .inl R)), (il, .inl (dl, 43, .inl (bF L))), (iy, .inl (dy, 256, .inl (bF S))), (ig, .inl (dg, 43, .inl (bF G)))] sz) [(jm, .inr (3, [.int (nI 0), .long sd, .long tp, .int (nI n), .ref ik, .ref iv, .ref ir, .ref il, .ref iy, .ref ig])), (ik, .inl (dk, 86, .inl K)), (iv, .inl (dv, 86, .inl V)), (ir, .inl (dr, 86, .inl R)), (il, .inl (dl, 43, .inl (bF L))), (iy, .inl (dy, 256, .inl (bF S))), (ig, .inl (dg, 43, .inl (bF u)))] [(dk, .int), (dv, .int), (dr, .int), (dl, .boolean), (dy, .boolean), (dg, .boolean)]) (va_A [(jm, .inr (3, [.int th, .long sd, .long tp, .int (nI n), .ref ik, .ref iv, .ref ir, .ref il, .ref iy, .ref ig])), (ik, .inl (dk, 86, .inl K)), (iv, .inl (dv, 86, .inl V)), (ir, .inl (dr, 86, .inl R)), (il, .inl (dl, 43, .inl (bF L))), (iy, .inl (dy, 256, .inl (bF S))), (ig, .inl (dg, 43, .inl (bF G)))] sz)) 0 0 (va_A [(jm, .inr (3, [.int th, .long sd, .long tp, .int (nI n), .ref ik, .ref iv, .ref ir, .ref il, .ref iy, .ref ig])), (ik, .inl (dk, 86, .inl K)), (iv, .inl (dv, 86, .inl V)), (ir, .inl (dr, 86, .inl R)), (il, .inl (dl, 43, .inl (bF L))), (iy, .inl (dy, 256, .inl (bF S))), (ig, .inl (dg, 43, .inl (bF G)))] sz) := by
  refine Met.ofW (cc := b_M_minimal) (maxL := 1) (ret := (Option.some Jvm.ClassFile.FieldType.boolean)) (by decide) rfl ?_
  intro p e s m args below meth c s₁ B0 hml hv0
  obtain ⟨rfl, hsz, hP, hK, hD0, hN⟩ := hv0
  have hx := B0.exec
  have hb := B0.bytes
  have hr := B0.returns
  have hts := atoms_spec (ws := w_M_minimal) B0.pre
  have hown : s.vm.findClass R_M = some m.cls := findClass_of_methodNamed B0.named
  have hlocks := B0.notSynchronized
  subst hsz
  have hD := hD0.self (sz := s.heap.size)
  generalize hAe : va_A [(jm, .inr (3, [.int th, .long sd, .long tp, .int (nI n), .ref ik, .ref iv, .ref ir, .ref il, .ref iy, .ref ig])), (ik, .inl (dk, 86, .inl K)), (iv, .inl (dv, 86, .inl V)), (ir, .inl (dr, 86, .inl R)), (il, .inl (dl, 43, .inl (bF L))), (iy, .inl (dy, 256, .inl (bF S))), (ig, .inl (dg, 43, .inl (bF G)))] s.heap.size = A at hD ⊢
  have hA : ∀ q : Nat, s.heap.size ≤ q → A q := fun q h => by rw [← hAe]; exact Or.inr h
  have hS : va_S A s.heap s.heap [] := va_S.rf
  have hP : va_P (dC, dI) classes [(jm, .inr (3, [.int th, .long sd, .long tp, .int (nI n), .ref ik, .ref iv, .ref ir, .ref il, .ref iy, .ref ig])), (ik, .inl (dk, 86, .inl K)), (iv, .inl (dv, 86, .inl V)), (ir, .inl (dr, 86, .inl R)), (il, .inl (dl, 43, .inl (bF L))), (iy, .inl (dy, 256, .inl (bF S))), (ig, .inl (dg, 43, .inl (bF G)))] s.heap := hP
  have hl := lv_entry ([.ref jm]) (n := 1) (Nat.le_of_ble_eq_true rfl)
  rw [lg_entry_eq]
  generalize (lg_sl ([.ref jm]) ++ List.replicate (1 - (lg_sl ([.ref jm])).length) Slot.unset).toArray = ls at hl ⊢
  have hl : lv_has ls 1 [(0, .ref jm)] := hl
  have hc2 := cnt_le L n
  refine lv_aload_n hx hb d_M_minimal_0 rfl (lv_at hl 0 rfl) ?_
  refine lv_iconst (v := nI 0) hx hb d_M_minimal_1 (by decide +kernel) ?_
  refine va_put (D := (dC, dI)) (ci := 3) (v := .int (nI 0)) (ty := .int) (C := R_M) (T := F_M) (N := 10) hx hb hts (lay_M _) ft_M tok_M nok_M hown hK hP hD hS 0 rfl rfl 0 (by decide) (hts _ (List.mem_cons_of_mem _ m_336)) (fun _ h9 => h9) rfl (by decide +kernel) rfl rfl (Nat.le_of_ble_eq_true rfl) d_M_minimal_2 (fun H locs hP hD hS => ?_)
  have hP : va_P (dC, dI) classes [(jm, .inr (3, [.int (nI 0), .long sd, .long tp, .int (nI n), .ref ik, .ref iv, .ref ir, .ref il, .ref iy, .ref ig])), (ik, .inl (dk, 86, .inl K)), (iv, .inl (dv, 86, .inl V)), (ir, .inl (dr, 86, .inl R)), (il, .inl (dl, 43, .inl (bF L))), (iy, .inl (dy, 256, .inl (bF S))), (ig, .inl (dg, 43, .inl (bF G)))] H := hP
  have hD : va_D A [(jm, .inr (3, [.int (nI 0), .long sd, .long tp, .int (nI n), .ref ik, .ref iv, .ref ir, .ref il, .ref iy, .ref ig])), (ik, .inl (dk, 86, .inl K)), (iv, .inl (dv, 86, .inl V)), (ir, .inl (dr, 86, .inl R)), (il, .inl (dl, 43, .inl (bF L))), (iy, .inl (dy, 256, .inl (bF S))), (ig, .inl (dg, 43, .inl (bF G)))] := hD
  refine lv_aload_n hx hb d_M_minimal_5 rfl (lv_at hl 0 rfl) ?_
  have hPc := hP.sub (ws' := [(jm, .inr (3, [.int (nI 0), .long sd, .long tp, .int (nI n), .ref ik, .ref iv, .ref ir, .ref il, .ref iy, .ref ig])), (ig, .inl (dg, 43, .inl (bF G)))]) [0, 6] rfl
  have hKc := hK.sub (tys' := [(dg, .boolean)]) [5] rfl
  have hDc := hD.sub (ws' := [(jm, .inr (3, [.int (nI 0), .long sd, .long tp, .int (nI n), .ref ik, .ref iv, .ref ir, .ref il, .ref iy, .ref ig])), (ig, .inl (dg, 43, .inl (bF G)))]) [0, 6] (by decide) rfl
  have hFc := va_free (wc := [(jm, .inr (3, [.int (nI 0), .long sd, .long tp, .int (nI n), .ref ik, .ref iv, .ref ir, .ref il, .ref iy, .ref ig])), (ig, .inl (dg, 43, .inl (bF G)))]) hD hS hA [0, 6] rfl
  refine va_callv (va_runV (As := []) (rest := []) ⟨hx, hb, hml, hown, hts⟩ (c_M_none l dC dI jm ik iv ir il iy ig n (nI 0) sd tp dg G _) (cwV 0 hts (g_V big_w m_427 m_429 ms_28 m_4 m_430) rfl rfl rfl (by decide +kernel) ⟨Nat.le_of_ble_eq_true rfl, Nat.le_of_ble_eq_true rfl⟩) (wr_V hPc hKc hDc hN (va_recv hKc hPc (ci := 3) (q0 := 0) rfl rfl)) rfl rfl hl.1 rfl (lv_room (Nat.le_of_ble_eq_true rfl)) d_M_minimal_6 ⟨Nat.le_of_ble_eq_true rfl, Nat.le_of_ble_eq_true rfl⟩) hS (fun q _ h => hFc q h) hFc (fun u t H1 locs ht hvm hw hB hz1 hk1 hS => ?_)
  obtain ⟨hP1, hK1, hD1⟩ := hB
  rw [ht] at hP1
  obtain ⟨hP, hD⟩ := va_join (wr := [(ik, .inl (dk, 86, .inl K)), (iv, .inl (dv, 86, .inl V)), (ir, .inl (dr, 86, .inl R)), (il, .inl (dl, 43, .inl (bF L))), (iy, .inl (dy, 256, .inl (bF S)))]) (w1 := [(jm, .inr (3, [.int (nI 0), .long sd, .long tp, .int (nI n), .ref ik, .ref iv, .ref ir, .ref il, .ref iy, .ref ig])), (ig, .inl (dg, 43, .inl (bF fF)))]) hP hD [0, 6] [1, 2, 3, 4, 5] rfl rfl (by decide) (by decide) hk1 hFc hP1 hD1
  generalize H1 = H at hP hS ⊢
  have hP : va_P (dC, dI) classes [(ik, .inl (dk, 86, .inl K)), (iv, .inl (dv, 86, .inl V)), (ir, .inl (dr, 86, .inl R)), (il, .inl (dl, 43, .inl (bF L))), (iy, .inl (dy, 256, .inl (bF S))), (jm, .inr (3, [.int (nI 0), .long sd, .long tp, .int (nI n), .ref ik, .ref iv, .ref ir, .ref il, .ref iy, .ref ig])), (ig, .inl (dg, 43, .inl (bF fF)))] H := hP
  have hD : va_D A [(ik, .inl (dk, 86, .inl K)), (iv, .inl (dv, 86, .inl V)), (ir, .inl (dr, 86, .inl R)), (il, .inl (dl, 43, .inl (bF L))), (iy, .inl (dy, 256, .inl (bF S))), (jm, .inr (3, [.int (nI 0), .long sd, .long tp, .int (nI n), .ref ik, .ref iv, .ref ir, .ref il, .ref iy, .ref ig])), (ig, .inl (dg, 43, .inl (bF fF)))] := hD
  refine lv_aload_n hx hb d_M_minimal_9 rfl (lv_at hl 0 rfl) ?_
  have hPc := hP.sub (ws' := [(jm, .inr (3, [.int (nI 0), .long sd, .long tp, .int (nI n), .ref ik, .ref iv, .ref ir, .ref il, .ref iy, .ref ig])), (il, .inl (dl, 43, .inl (bF L)))]) [5, 3] rfl
  have hKc := hK.sub (tys' := [(dl, .boolean)]) [3] rfl
  refine vp_callSi (W.runV (As := []) (rest := []) ⟨hx, hb, hml, hown, hts⟩ (c_M_many l dC dI jm ik iv ir il iy ig n (nI 0) sd tp dl L (by first | assumption | omega)) (cwV 0 hts (g_V big_w m_451 m_453 ms_33 m_4 m_454) rfl rfl rfl (by decide +kernel) ⟨Nat.le_of_ble_eq_true rfl, Nat.le_of_ble_eq_true rfl⟩) (ro_V hPc hKc hN (va_recv hKc hPc (ci := 3) (q0 := 0) rfl rfl)) rfl rfl hl.1 rfl (lv_room (Nat.le_of_ble_eq_true rfl)) d_M_minimal_10 ⟨Nat.le_of_ble_eq_true rfl, Nat.le_of_ble_eq_true rfl⟩) (fun r_2 er_2 => ?_)
  have er_2 := er_2.symm
  subst er_2
  refine lv_if_le (tgt := 39) hx hb d_M_minimal_13 (by decide) (fun c_13 => ?_) (fun c_13 => ?_)
  · skip
    have c_13 := (nI_le0 (by omega)).mp c_13
    refine lv_iconst (v := nI 0) hx hb d_M_minimal_39 (by decide +kernel) ?_
    have hP9 := hP.sub (ws' := [(jm, .inr (3, [.int (nI 0), .long sd, .long tp, .int (nI n), .ref ik, .ref iv, .ref ir, .ref il, .ref iy, .ref ig])), (ik, .inl (dk, 86, .inl K)), (iv, .inl (dv, 86, .inl V)), (ir, .inl (dr, 86, .inl R)), (il, .inl (dl, 43, .inl (bF L))), (iy, .inl (dy, 256, .inl (bF S))), (ig, .inl (dg, 43, .inl (bF fF)))]) [5, 0, 1, 2, 3, 4, 6] rfl
    have hD9 := hD.sub (ws' := [(jm, .inr (3, [.int (nI 0), .long sd, .long tp, .int (nI n), .ref ik, .ref iv, .ref ir, .ref il, .ref iy, .ref ig])), (ik, .inl (dk, 86, .inl K)), (iv, .inl (dv, 86, .inl V)), (ir, .inl (dr, 86, .inl R)), (il, .inl (dl, 43, .inl (bF L))), (iy, .inl (dy, 256, .inl (bF S))), (ig, .inl (dg, 43, .inl (bF fF)))]) [5, 0, 1, 2, 3, 4, 6] (by decide) rfl
    have hK9 := hK.sub (tys' := [(dk, .int), (dv, .int), (dr, .int), (dl, .boolean), (dy, .boolean), (dg, .boolean)]) [0, 1, 2, 3, 4, 5] rfl
    exact W.zret (v := nI 0) (ty := .boolean) hx hb hr (by decide +kernel) (fun t ht hW => ⟨⟨nI 0, (fF), rfl, (by unfold mnM; first | (rw [decide_eq_true (by omega), c_25, decide_eq_true c_32]; rfl) | (rw [decide_eq_true (by omega), c_25, decide_eq_false c_32]; rfl) | (rw [decide_eq_true (by omega), c_25]; rfl) | (rw [decide_eq_false (by omega)]; rfl)), by rw [ht]; exact hP9, va_K.moved hW.alike hK9, hD9⟩, hS.F ht⟩) hS.2.2 d_M_minimal_40
  · skip
    have c_13 := (not_congr (nI_le0 (by omega))).mp c_13
    refine lv_aload_n hx hb d_M_minimal_16 rfl (lv_at hl 0 rfl) ?_
    refine va_get (D := (dC, dI)) (ci := 3) (v := .ref iy) (C := R_M) (T := F_M) (N := 10) hx hb hts (lay_M _) hown hK hP 5 rfl rfl 8 (by decide) (hts _ (List.mem_cons_of_mem _ m_344)) (fun _ h9 => h9) rfl d_M_minimal_17 ?_
    refine lv_aload_n hx hb d_M_minimal_20 rfl (lv_at hl 0 rfl) ?_
    have hPc := hP.sub (ws' := [(jm, .inr (3, [.int (nI 0), .long sd, .long tp, .int (nI n), .ref ik, .ref iv, .ref ir, .ref il, .ref iy, .ref ig])), (ik, .inl (dk, 86, .inl K)), (iv, .inl (dv, 86, .inl V)), (ir, .inl (dr, 86, .inl R)), (il, .inl (dl, 43, .inl (bF L))), (ig, .inl (dg, 43, .inl (bF fF)))]) [5, 0, 1, 2, 3, 6] rfl
    have hKc := hK.sub (tys' := [(dk, .int), (dv, .int), (dr, .int), (dl, .boolean), (dg, .boolean)]) [0, 1, 2, 3, 5] rfl
    refine vp_callSi (W.runV (As := []) (rest := [.ref iy]) ⟨hx, hb, hml, hown, hts⟩ (c_M_judged l dC dI jm ik iv ir il iy ig n (nI 0) sd tp dk dv dr dl dg K V R L fF (by first | assumption | omega) (by first | assumption | omega)) (cwV 0 hts (g_V big_w m_431 m_433 ms_29 m_4 m_434) rfl rfl rfl (by decide +kernel) ⟨Nat.le_of_ble_eq_true rfl, Nat.le_of_ble_eq_true rfl⟩) (ro_V hPc hKc hN (va_recv hKc hPc (ci := 3) (q0 := 0) rfl rfl)) rfl rfl hl.1 rfl (lv_room (Nat.le_of_ble_eq_true rfl)) d_M_minimal_21 ⟨Nat.le_of_ble_eq_true rfl, Nat.le_of_ble_eq_true rfl⟩) (fun r_3 er_3 => ?_)
    have er_3 := er_3.symm
    subst er_3
    refine va_zald hx hb hK hP 4 4 rfl rfl (jdL_in hKk) d_M_minimal_24 ?_
    refine lv_topi (fun w_4 ew_4 => ?_)
    have ew_4 : (bI (S (jdL K V R L fF n).toNatClampNeg)) = w_4 := (ew_4.trans (rfl)).symm
    subst ew_4
    refine lv_if_eq (tgt := 39) hx hb d_M_minimal_25 (by decide) (fun c_25 => ?_) (fun c_25 => ?_)
    · skip
      have c_25 := bI_f c_25
      refine lv_iconst (v := nI 0) hx hb d_M_minimal_39 (by decide +kernel) ?_
      have hP9 := hP.sub (ws' := [(jm, .inr (3, [.int (nI 0), .long sd, .long tp, .int (nI n), .ref ik, .ref iv, .ref ir, .ref il, .ref iy, .ref ig])), (ik, .inl (dk, 86, .inl K)), (iv, .inl (dv, 86, .inl V)), (ir, .inl (dr, 86, .inl R)), (il, .inl (dl, 43, .inl (bF L))), (iy, .inl (dy, 256, .inl (bF S))), (ig, .inl (dg, 43, .inl (bF fF)))]) [5, 0, 1, 2, 3, 4, 6] rfl
      have hD9 := hD.sub (ws' := [(jm, .inr (3, [.int (nI 0), .long sd, .long tp, .int (nI n), .ref ik, .ref iv, .ref ir, .ref il, .ref iy, .ref ig])), (ik, .inl (dk, 86, .inl K)), (iv, .inl (dv, 86, .inl V)), (ir, .inl (dr, 86, .inl R)), (il, .inl (dl, 43, .inl (bF L))), (iy, .inl (dy, 256, .inl (bF S))), (ig, .inl (dg, 43, .inl (bF fF)))]) [5, 0, 1, 2, 3, 4, 6] (by decide) rfl
      have hK9 := hK.sub (tys' := [(dk, .int), (dv, .int), (dr, .int), (dl, .boolean), (dy, .boolean), (dg, .boolean)]) [0, 1, 2, 3, 4, 5] rfl
      exact W.zret (v := nI 0) (ty := .boolean) hx hb hr (by decide +kernel) (fun t ht hW => ⟨⟨nI 0, (fF), rfl, (by unfold mnM; first | (rw [decide_eq_true (by omega), c_25, decide_eq_true c_32]; rfl) | (rw [decide_eq_true (by omega), c_25, decide_eq_false c_32]; rfl) | (rw [decide_eq_true (by omega), c_25]; rfl) | (rw [decide_eq_false (by omega)]; rfl)), by rw [ht]; exact hP9, va_K.moved hW.alike hK9, hD9⟩, hS.F ht⟩) hS.2.2 d_M_minimal_40
    · skip
      have c_25 := bI_t c_25
      refine lv_aload_n hx hb d_M_minimal_28 rfl (lv_at hl 0 rfl) ?_
      have hPc := hP.sub (ws' := [(jm, .inr (3, [.int (nI 0), .long sd, .long tp, .int (nI n), .ref ik, .ref iv, .ref ir, .ref il, .ref iy, .ref ig])), (ik, .inl (dk, 86, .inl K)), (iv, .inl (dv, 86, .inl V)), (ir, .inl (dr, 86, .inl R)), (il, .inl (dl, 43, .inl (bF L))), (iy, .inl (dy, 256, .inl (bF S))), (ig, .inl (dg, 43, .inl (bF fF)))]) [5, 0, 1, 2, 3, 4, 6] rfl
      have hKc := hK.sub (tys' := [(dk, .int), (dv, .int), (dr, .int), (dl, .boolean), (dy, .boolean), (dg, .boolean)]) [0, 1, 2, 3, 4, 5] rfl
      have hDc := hD.sub (ws' := [(jm, .inr (3, [.int (nI 0), .long sd, .long tp, .int (nI n), .ref ik, .ref iv, .ref ir, .ref il, .ref iy, .ref ig])), (ik, .inl (dk, 86, .inl K)), (iv, .inl (dv, 86, .inl V)), (ir, .inl (dr, 86, .inl R)), (il, .inl (dl, 43, .inl (bF L))), (iy, .inl (dy, 256, .inl (bF S))), (ig, .inl (dg, 43, .inl (bF fF)))]) [5, 0, 1, 2, 3, 4, 6] (by decide) rfl
      have hFc := va_free (wc := [(jm, .inr (3, [.int (nI 0), .long sd, .long tp, .int (nI n), .ref ik, .ref iv, .ref ir, .ref il, .ref iy, .ref ig])), (ik, .inl (dk, 86, .inl K)), (iv, .inl (dv, 86, .inl V)), (ir, .inl (dr, 86, .inl R)), (il, .inl (dl, 43, .inl (bF L))), (iy, .inl (dy, 256, .inl (bF S))), (ig, .inl (dg, 43, .inl (bF fF)))]) hD hS hA [5, 0, 1, 2, 3, 4, 6] rfl
      refine va_calli (va_runV (As := []) (rest := []) ⟨hx, hb, hml, hown, hts⟩ (c_M_first l dC dI jm ik iv ir il iy ig n (nI 0) sd tp dk dv dr dl dy dg K V R L S fF (by first | assumption | omega) (by first | assumption | omega) (by first | assumption | omega) _) (cwV 0 hts (g_V big_w m_439 m_441 ms_30 m_4 m_442) rfl rfl rfl (by decide +kernel) ⟨Nat.le_of_ble_eq_true rfl, Nat.le_of_ble_eq_true rfl⟩) (wr_V hPc hKc hDc hN (va_recv hKc hPc (ci := 3) (q0 := 0) rfl rfl)) rfl rfl hl.1 rfl (lv_room (Nat.le_of_ble_eq_true rfl)) d_M_minimal_29 ⟨Nat.le_of_ble_eq_true rfl, Nat.le_of_ble_eq_true rfl⟩) hS (fun q _ h => hFc q h) hFc (fun r_5 u t H1 locs ht hvm hw hB hz1 hk1 hS => ?_)
      obtain ⟨hP1, hK1, hD1⟩ := hB
      rw [ht] at hP1
      obtain ⟨hP, hD⟩ := va_join (wr := []) (w1 := [(jm, .inr (3, [.int (nI 0), .long sd, .long tp, .int (nI n), .ref ik, .ref iv, .ref ir, .ref il, .ref iy, .ref ig])), (ik, .inl (dk, 86, .inl K)), (iv, .inl (dv, 86, .inl V)), (ir, .inl (dr, 86, .inl R)), (il, .inl (dl, 43, .inl (bF L))), (iy, .inl (dy, 256, .inl (bF S))), (ig, .inl (dg, 43, .inl (bF (gaE n K V R S L fF))))]) hP hD [5, 0, 1, 2, 3, 4, 6] [] rfl rfl (by decide) (by decide) hk1 hFc hP1 hD1
      generalize H1 = H at hP hS ⊢
      have hP : va_P (dC, dI) classes [(jm, .inr (3, [.int (nI 0), .long sd, .long tp, .int (nI n), .ref ik, .ref iv, .ref ir, .ref il, .ref iy, .ref ig])), (ik, .inl (dk, 86, .inl K)), (iv, .inl (dv, 86, .inl V)), (ir, .inl (dr, 86, .inl R)), (il, .inl (dl, 43, .inl (bF L))), (iy, .inl (dy, 256, .inl (bF S))), (ig, .inl (dg, 43, .inl (bF (gaE n K V R S L fF))))] H := hP
      have hD : va_D A [(jm, .inr (3, [.int (nI 0), .long sd, .long tp, .int (nI n), .ref ik, .ref iv, .ref ir, .ref il, .ref iy, .ref ig])), (ik, .inl (dk, 86, .inl K)), (iv, .inl (dv, 86, .inl V)), (ir, .inl (dr, 86, .inl R)), (il, .inl (dl, 43, .inl (bF L))), (iy, .inl (dy, 256, .inl (bF S))), (ig, .inl (dg, 43, .inl (bF (gaE n K V R S L fF))))] := hD
      have hw := hw.symm
      subst hw
      refine lv_if_ge (tgt := 39) hx hb d_M_minimal_32 (by decide) (fun c_32 => ?_) (fun c_32 => ?_)
      · skip
        have c_32 := (mg_ge0 hn).mp c_32
        refine lv_iconst (v := nI 0) hx hb d_M_minimal_39 (by decide +kernel) ?_
        have hP9 := hP.sub (ws' := [(jm, .inr (3, [.int (nI 0), .long sd, .long tp, .int (nI n), .ref ik, .ref iv, .ref ir, .ref il, .ref iy, .ref ig])), (ik, .inl (dk, 86, .inl K)), (iv, .inl (dv, 86, .inl V)), (ir, .inl (dr, 86, .inl R)), (il, .inl (dl, 43, .inl (bF L))), (iy, .inl (dy, 256, .inl (bF S))), (ig, .inl (dg, 43, .inl (bF (gaE n K V R S L fF))))]) [0, 1, 2, 3, 4, 5, 6] rfl
        have hD9 := hD.sub (ws' := [(jm, .inr (3, [.int (nI 0), .long sd, .long tp, .int (nI n), .ref ik, .ref iv, .ref ir, .ref il, .ref iy, .ref ig])), (ik, .inl (dk, 86, .inl K)), (iv, .inl (dv, 86, .inl V)), (ir, .inl (dr, 86, .inl R)), (il, .inl (dl, 43, .inl (bF L))), (iy, .inl (dy, 256, .inl (bF S))), (ig, .inl (dg, 43, .inl (bF (gaE n K V R S L fF))))]) [0, 1, 2, 3, 4, 5, 6] (by decide) rfl
        have hK9 := hK.sub (tys' := [(dk, .int), (dv, .int), (dr, .int), (dl, .boolean), (dy, .boolean), (dg, .boolean)]) [0, 1, 2, 3, 4, 5] rfl
        exact W.zret (v := nI 0) (ty := .boolean) hx hb hr (by decide +kernel) (fun t ht hW => ⟨⟨nI 0, (gaE n K V R S L fF), rfl, (by unfold mnM; first | (rw [decide_eq_true (by omega), c_25, decide_eq_true c_32]; rfl) | (rw [decide_eq_true (by omega), c_25, decide_eq_false c_32]; rfl) | (rw [decide_eq_true (by omega), c_25]; rfl) | (rw [decide_eq_false (by omega)]; rfl)), by rw [ht]; exact hP9, va_K.moved hW.alike hK9, hD9⟩, hS.F ht⟩) hS.2.2 d_M_minimal_40
      · skip
        have c_32 : mgO n K V R S L = none := Decidable.byContradiction (fun z => c_32 ((mg_ge0 hn).mpr z))
        refine lv_iconst (v := nI 1) hx hb d_M_minimal_35 (by decide +kernel) ?_
        refine lv_goto (tgt := 40) hx hb d_M_minimal_36 (by decide) ?_
        have hP9 := hP.sub (ws' := [(jm, .inr (3, [.int (nI 0), .long sd, .long tp, .int (nI n), .ref ik, .ref iv, .ref ir, .ref il, .ref iy, .ref ig])), (ik, .inl (dk, 86, .inl K)), (iv, .inl (dv, 86, .inl V)), (ir, .inl (dr, 86, .inl R)), (il, .inl (dl, 43, .inl (bF L))), (iy, .inl (dy, 256, .inl (bF S))), (ig, .inl (dg, 43, .inl (bF (gaE n K V R S L fF))))]) [0, 1, 2, 3, 4, 5, 6] rfl
        have hD9 := hD.sub (ws' := [(jm, .inr (3, [.int (nI 0), .long sd, .long tp, .int (nI n), .ref ik, .ref iv, .ref ir, .ref il, .ref iy, .ref ig])), (ik, .inl (dk, 86, .inl K)), (iv, .inl (dv, 86, .inl V)), (ir, .inl (dr, 86, .inl R)), (il, .inl (dl, 43, .inl (bF L))), (iy, .inl (dy, 256, .inl (bF S))), (ig, .inl (dg, 43, .inl (bF (gaE n K V R S L fF))))]) [0, 1, 2, 3, 4, 5, 6] (by decide) rfl
        have hK9 := hK.sub (tys' := [(dk, .int), (dv, .int), (dr, .int), (dl, .boolean), (dy, .boolean), (dg, .boolean)]) [0, 1, 2, 3, 4, 5] rfl
        exact W.zret (v := nI 1) (ty := .boolean) hx hb hr (by decide +kernel) (fun t ht hW => ⟨⟨nI 1, (gaE n K V R S L fF), rfl, (by unfold mnM; first | (rw [decide_eq_true (by omega), c_25, decide_eq_true c_32]; rfl) | (rw [decide_eq_true (by omega), c_25, decide_eq_false c_32]; rfl) | (rw [decide_eq_true (by omega), c_25]; rfl) | (rw [decide_eq_false (by omega)]; rfl)), by rw [ht]; exact hP9, va_K.moved hW.alike hK9, hD9⟩, hS.F ht⟩) hS.2.2 d_M_minimal_40
set_option maxHeartbeats 4000000 in
set_option maxRecDepth 100000 in
/-- reference: verdict -/
theorem c_M_verdict (l : Launch) (dC : Nat → ClassId) (dI : Nat → Nat → Nat) (jm ik iv ir il iy ig : Nat) (n : Nat) (th : Int32) (sd tp : Int64) (dy : ClassId) (S : Nat → Bool) (p0 : Int32) (z : Bool)  (sz : Nat) : Met l y_M_verdict w_M_verdict ({ frames := 1, cells := 0, slots := 0, locals := 22 }) (wr_P dC dI [.ref jm, .int p0, .int (bI z)] [(jm, .inr (3, [.int th, .long sd, .long tp, .int (nI n), .ref ik, .ref iv, .ref ir, .ref il, .ref iy, .ref ig])), (iy, .inl (dy, 256, .inl (bF S)))] [(dy, .boolean)] sz) (va_Qi (fun (r : Int32) (_ : Unit) => r = bI (veO S p0 z)) (fun (u : Unit) => wr_B dC dI (va_A [(jm, .inr (3, [.int th, .long sd, .long tp, .int (nI n), .ref ik, .ref iv, .ref ir, .ref il, .ref iy, .ref ig])), (iy, .inl (dy, 256, .inl (bF S)))] sz) [(jm, .inr (3, [.int (nI 0), .long sd, .long tp, .int (nI n), .ref ik, .ref iv, .ref ir, .ref il, .ref iy, .ref ig])), (iy, .inl (dy, 256, .inl (bF (veS S p0 z))))] [(dy, .boolean)]) (va_A [(jm, .inr (3, [.int th, .long sd, .long tp, .int (nI n), .ref ik, .ref iv, .ref ir, .ref il, .ref iy, .ref ig])), (iy, .inl (dy, 256, .inl (bF S)))] sz)) 0 0 (va_A [(jm, .inr (3, [.int th, .long sd, .long tp, .int (nI n), .ref ik, .ref iv, .ref ir, .ref il, .ref iy, .ref ig])), (iy, .inl (dy, 256, .inl (bF S)))] sz) := by
  refine Met.ofW (cc := b_M_verdict) (maxL := 3) (ret := (Option.some Jvm.ClassFile.FieldType.boolean)) (by decide) rfl ?_
  intro p e s m args below meth c s₁ B0 hml hv0
  obtain ⟨rfl, hsz, hP, hK, hD0, hN⟩ := hv0
  have hx := B0.exec
  have hb := B0.bytes
  have hr := B0.returns
  have hts := atoms_spec (ws := w_M_verdict) B0.pre
  have hown : s.vm.findClass R_M = some m.cls := findClass_of_methodNamed B0.named
  have hlocks := B0.notSynchronized
  subst hsz
  have hD := hD0.self (sz := s.heap.size)
  generalize hAe : va_A [(jm, .inr (3, [.int th, .long sd, .long tp, .int (nI n), .ref ik, .ref iv, .ref ir, .ref il, .ref iy, .ref ig])), (iy, .inl (dy, 256, .inl (bF S)))] s.heap.size = A at hD ⊢
  have hA : ∀ q : Nat, s.heap.size ≤ q → A q := fun q h => by rw [← hAe]; exact Or.inr h
  have hS : va_S A s.heap s.heap [] := va_S.rf
  have hP : va_P (dC, dI) classes [(jm, .inr (3, [.int th, .long sd, .long tp, .int (nI n), .ref ik, .ref iv, .ref ir, .ref il, .ref iy, .ref ig])), (iy, .inl (dy, 256, .inl (bF S)))] s.heap := hP
  have hl := lv_entry ([.ref jm, .int p0, .int (bI z)]) (n := 3) (Nat.le_of_ble_eq_true rfl)
  rw [lg_entry_eq]
  generalize (lg_sl ([.ref jm, .int p0, .int (bI z)]) ++ List.replicate (3 - (lg_sl ([.ref jm, .int p0, .int (bI z)])).length) Slot.unset).toArray = ls at hl ⊢
  have hl : lv_has ls 3 [(0, .ref jm), (1, .int p0), (2, .int (bI z))] := hl
  refine lv_aload_n hx hb d_M_verdict_0 rfl (lv_at hl 0 rfl) ?_
  refine lv_iconst (v := nI 0) hx hb d_M_verdict_1 (by decide +kernel) ?_
  refine va_put (D := (dC, dI)) (ci := 3) (v := .int (nI 0)) (ty := .int) (C := R_M) (T := F_M) (N := 10) hx hb hts (lay_M _) ft_M tok_M nok_M hown hK hP hD hS 0 rfl rfl 0 (by decide) (hts _ (List.mem_cons_of_mem _ m_336)) (fun _ h9 => h9) rfl (by decide +kernel) rfl rfl (Nat.le_of_ble_eq_true rfl) d_M_verdict_2 (fun H locs hP hD hS => ?_)
  have hP : va_P (dC, dI) classes [(jm, .inr (3, [.int (nI 0), .long sd, .long tp, .int (nI n), .ref ik, .ref iv, .ref ir, .ref il, .ref iy, .ref ig])), (iy, .inl (dy, 256, .inl (bF S)))] H := hP
  have hD : va_D A [(jm, .inr (3, [.int (nI 0), .long sd, .long tp, .int (nI n), .ref ik, .ref iv, .ref ir, .ref il, .ref iy, .ref ig])), (iy, .inl (dy, 256, .inl (bF S)))] := hD
  refine lv_iload_n hx hb d_M_verdict_5 rfl (lv_at hl 1 rfl) ?_
  refine lv_iconst (v := nI 0) hx hb d_M_verdict_6 (by decide +kernel) ?_
  refine lv_sipush (v := nI 255) hx hb d_M_verdict_7 (by decide +kernel) ?_
  have hPc := hP.sub (ws' := []) [] rfl
  have hKc := hK.sub (tys' := []) [] rfl
  refine vp_callSi (W.runS (As := [.int p0, .int (nI 0), .int (nI 255)]) (rest := []) ⟨hx, hb, hml, hown, hts⟩ (c_M_in_ l dC dI p0 (nI 0) (nI 255)) (va_cwS 3 hts (g_S big_w m_375 m_376 m_4 m_377) rfl rfl rfl (by decide +kernel) ⟨Nat.le_of_ble_eq_true rfl, Nat.le_of_ble_eq_true rfl⟩) (ro_S hPc hKc hN) rfl rfl hl.1 rfl (lv_room (Nat.le_of_ble_eq_true rfl)) d_M_verdict_10 ⟨Nat.le_of_ble_eq_true rfl, Nat.le_of_ble_eq_true rfl⟩) (fun r_1 er_1 => ?_)
  have er_1 := er_1.symm
  subst er_1
  refine lv_if_eq (tgt := 26) hx hb d_M_verdict_13 (by decide) (fun c_13 => ?_) (fun c_13 => ?_)
  · skip
    have c_13 := bI_f c_13
    have ev : veO S p0 z = false := veO_f c_13
    refine lv_iconst (v := nI 0) hx hb d_M_verdict_26 (by decide +kernel) ?_
    have e9 : S = veS S p0 z := (if_neg (by rw [ev]; decide)).symm
    rw [e9] at hP hD
    have hP9 := hP.sub (ws' := [(jm, .inr (3, [.int (nI 0), .long sd, .long tp, .int (nI n), .ref ik, .ref iv, .ref ir, .ref il, .ref iy, .ref ig])), (iy, .inl (dy, 256, .inl (bF (veS S p0 z))))]) [0, 1] rfl
    have hD9 := hD.sub (ws' := [(jm, .inr (3, [.int (nI 0), .long sd, .long tp, .int (nI n), .ref ik, .ref iv, .ref ir, .ref il, .ref iy, .ref ig])), (iy, .inl (dy, 256, .inl (bF (veS S p0 z))))]) [0, 1] (by decide) rfl
    have hK9 := hK.sub (tys' := [(dy, .boolean)]) [0] rfl
    exact W.zret (v := nI 0) (ty := .boolean) hx hb hr (by decide +kernel) (fun t ht hW => ⟨⟨nI 0, (), rfl, (by rw [ev]; rfl), by rw [ht]; exact hP9, va_K.moved hW.alike hK9, hD9⟩, hS.F ht⟩) hS.2.2 d_M_verdict_27
  · skip
    have c_13 := bI_t c_13
    obtain ⟨c_1, c_8⟩ := in255 c_13
    refine lv_aload_n hx hb d_M_verdict_16 rfl (lv_at hl 0 rfl) ?_
    refine va_get (D := (dC, dI)) (ci := 3) (v := .ref iy) (C := R_M) (T := F_M) (N := 10) hx hb hts (lay_M _) hown hK hP 0 rfl rfl 8 (by decide) (hts _ (List.mem_cons_of_mem _ m_344)) (fun _ h9 => h9) rfl d_M_verdict_17 ?_
    refine lv_iload_n hx hb d_M_verdict_20 rfl (lv_at hl 1 rfl) ?_
    refine va_zald hx hb hK hP 1 0 rfl rfl (in_of c_1 c_8 (by decide)) d_M_verdict_21 ?_
    refine lv_topi (fun w_2 ew_2 => ?_)
    have ew_2 : (bI (S p0.toNatClampNeg)) = w_2 := (ew_2.trans (rfl)).symm
    subst ew_2
    refine lv_iload_n hx hb d_M_verdict_22 rfl (lv_at hl 2 rfl) ?_
    refine lv_icmp_ne (tgt := 28) hx hb d_M_verdict_23 (by decide) (fun c_23 => ?_) (fun c_23 => ?_)
    · skip
      have c_23 := (not_congr bI_inj).mp c_23
      have ev : veO S p0 z = true := by simp [veO, c_1, c_8, c_23]
      refine lv_aload_n hx hb d_M_verdict_28 rfl (lv_at hl 0 rfl) ?_
      refine va_get (D := (dC, dI)) (ci := 3) (v := .ref iy) (C := R_M) (T := F_M) (N := 10) hx hb hts (lay_M _) hown hK hP 0 rfl rfl 8 (by decide) (hts _ (List.mem_cons_of_mem _ m_344)) (fun _ h9 => h9) rfl d_M_verdict_29 ?_
      refine lv_iload_n hx hb d_M_verdict_32 rfl (lv_at hl 1 rfl) ?_
      refine lv_iload_n hx hb d_M_verdict_33 rfl (lv_at hl 2 rfl) ?_
      refine va_zast hx hb hK hP hD hS 1 0 rfl rfl (in_of c_1 c_8 (by decide)) d_M_verdict_34 (fun H locs hP hD hS => ?_)
      rw [bI_vp] at hP hD
      have hP : va_P (dC, dI) classes [(jm, .inr (3, [.int (nI 0), .long sd, .long tp, .int (nI n), .ref ik, .ref iv, .ref ir, .ref il, .ref iy, .ref ig])), (iy, .inl (dy, 256, .inl (upd (bF S) p0.toNatClampNeg (bI z))))] H := hP
      have hD : va_D A [(jm, .inr (3, [.int (nI 0), .long sd, .long tp, .int (nI n), .ref ik, .ref iv, .ref ir, .ref il, .ref iy, .ref ig])), (iy, .inl (dy, 256, .inl (upd (bF S) p0.toNatClampNeg (bI z))))] := hD
      rw [bF_up] at hP hD
      rw [show uB S p0.toNatClampNeg z = veS S p0 z from (if_pos ev).symm] at hP hD
      have hP : va_P (dC, dI) classes [(jm, .inr (3, [.int (nI 0), .long sd, .long tp, .int (nI n), .ref ik, .ref iv, .ref ir, .ref il, .ref iy, .ref ig])), (iy, .inl (dy, 256, .inl (bF (veS S p0 z))))] H := hP
      have hD : va_D A [(jm, .inr (3, [.int (nI 0), .long sd, .long tp, .int (nI n), .ref ik, .ref iv, .ref ir, .ref il, .ref iy, .ref ig])), (iy, .inl (dy, 256, .inl (bF (veS S p0 z))))] := hD
      refine lv_iconst (v := nI 1) hx hb d_M_verdict_35 (by decide +kernel) ?_
      have hP9 := hP.sub (ws' := [(jm, .inr (3, [.int (nI 0), .long sd, .long tp, .int (nI n), .ref ik, .ref iv, .ref ir, .ref il, .ref iy, .ref ig])), (iy, .inl (dy, 256, .inl (bF (veS S p0 z))))]) [0, 1] rfl
      have hD9 := hD.sub (ws' := [(jm, .inr (3, [.int (nI 0), .long sd, .long tp, .int (nI n), .ref ik, .ref iv, .ref ir, .ref il, .ref iy, .ref ig])), (iy, .inl (dy, 256, .inl (bF (veS S p0 z))))]) [0, 1] (by decide) rfl
      have hK9 := hK.sub (tys' := [(dy, .boolean)]) [0] rfl
      exact W.zret (v := nI 1) (ty := .boolean) hx hb hr (by decide +kernel) (fun t ht hW => ⟨⟨nI 1, (), rfl, (by rw [ev]; rfl), by rw [ht]; exact hP9, va_K.moved hW.alike hK9, hD9⟩, hS.F ht⟩) hS.2.2 d_M_verdict_36
    · skip
      have c_23 := bI_inj.mp c_23
      have ev : veO S p0 z = false := by simp [veO, c_23]
      refine lv_iconst (v := nI 0) hx hb d_M_verdict_26 (by decide +kernel) ?_
      have e9 : S = veS S p0 z := (if_neg (by rw [ev]; decide)).symm
      rw [e9] at hP hD
      have hP9 := hP.sub (ws' := [(jm, .inr (3, [.int (nI 0), .long sd, .long tp, .int (nI n), .ref ik, .ref iv, .ref ir, .ref il, .ref iy, .ref ig])), (iy, .inl (dy, 256, .inl (bF (veS S p0 z))))]) [0, 1] rfl
      have hD9 := hD.sub (ws' := [(jm, .inr (3, [.int (nI 0), .long sd, .long tp, .int (nI n), .ref ik, .ref iv, .ref ir, .ref il, .ref iy, .ref ig])), (iy, .inl (dy, 256, .inl (bF (veS S p0 z))))]) [0, 1] (by decide) rfl
      have hK9 := hK.sub (tys' := [(dy, .boolean)]) [0] rfl
      exact W.zret (v := nI 0) (ty := .boolean) hx hb hr (by decide +kernel) (fun t ht hW => ⟨⟨nI 0, (), rfl, (by rw [ev]; rfl), by rw [ht]; exact hP9, va_K.moved hW.alike hK9, hD9⟩, hS.F ht⟩) hS.2.2 d_M_verdict_27
end
section
theorem m_335 : (Jvm.Cond.methodLink "PortDrawerModel" (1 : Nat) ({ cls := "java/lang/Object", name := "<init>", desc := "()V" } : Jvm.MethodName)) ∈ tblG := m_t (i := 335) rfl rfl
theorem m_337 : (Jvm.Cond.fieldLink "PortDrawerModel" (29 : Nat) "PortDrawerModel" "seed" "J") ∈ tblG := m_t (i := 337) rfl rfl
theorem m_385 : (Jvm.Cond.code ({ cls := "PortDrawerModel", name := "draws", desc := "(JII)V" } : Jvm.MethodName) prog_5_method_9_code (7 : Nat) (Option.none : Option Jvm.ClassFile.FieldType)) ∈ tblG := m_t (i := 385) rfl rfl
theorem ms_22 : Cond.selects "PortDrawerModel" ⟨"PortDrawerModel", "draws", "(JII)V"⟩ ⟨"PortDrawerModel", "draws", "(JII)V"⟩ ∈ tblG := m_s (i := 22) rfl rfl
theorem m_382 : (Jvm.Cond.methodLink "PortDrawerModel" (66 : Nat) ({ cls := "PortDrawerModel", name := "draws", desc := "(JII)V" } : Jvm.MethodName)) ∈ tblG := m_t (i := 382) rfl rfl
theorem m_384 : (Jvm.Cond.instanceMethod ({ cls := "PortDrawerModel", name := "draws", desc := "(JII)V" } : Jvm.MethodName)) ∈ tblG := m_t (i := 384) rfl rfl
theorem m_381 : (Jvm.Cond.code ({ cls := "PortDrawerModel", name := "refuse", desc := "(I)I" } : Jvm.MethodName) prog_5_method_3_code (2 : Nat) (Option.some Jvm.ClassFile.FieldType.int)) ∈ tblG := m_t (i := 381) rfl rfl
theorem ms_21 : Cond.selects "PortDrawerModel" ⟨"PortDrawerModel", "refuse", "(I)I"⟩ ⟨"PortDrawerModel", "refuse", "(I)I"⟩ ∈ tblG := m_s (i := 21) rfl rfl
theorem m_378 : (Jvm.Cond.methodLink "PortDrawerModel" (63 : Nat) ({ cls := "PortDrawerModel", name := "refuse", desc := "(I)I" } : Jvm.MethodName)) ∈ tblG := m_t (i := 378) rfl rfl
theorem m_380 : (Jvm.Cond.instanceMethod ({ cls := "PortDrawerModel", name := "refuse", desc := "(I)I" } : Jvm.MethodName)) ∈ tblG := m_t (i := 380) rfl rfl
theorem m_414 : (Jvm.Cond.code ({ cls := "PortDrawerModel", name := "isPart", desc := "(I)Z" } : Jvm.MethodName) prog_5_method_5_code (2 : Nat) (Option.some Jvm.ClassFile.FieldType.boolean)) ∈ tblG := m_t (i := 414) rfl rfl
theorem ms_26 : Cond.selects "PortDrawerModel" ⟨"PortDrawerModel", "isPart", "(I)Z"⟩ ⟨"PortDrawerModel", "isPart", "(I)Z"⟩ ∈ tblG := m_s (i := 26) rfl rfl
theorem m_411 : (Jvm.Cond.methodLink "PortDrawerModel" (73 : Nat) ({ cls := "PortDrawerModel", name := "isPart", desc := "(I)Z" } : Jvm.MethodName)) ∈ tblG := m_t (i := 411) rfl rfl
theorem m_413 : (Jvm.Cond.instanceMethod ({ cls := "PortDrawerModel", name := "isPart", desc := "(I)Z" } : Jvm.MethodName)) ∈ tblG := m_t (i := 413) rfl rfl
theorem m_482 : (Jvm.Cond.code ({ cls := "PortDrawerModel", name := "ofKind", desc := "(I)I" } : Jvm.MethodName) prog_5_method_29_code (4 : Nat) (Option.some Jvm.ClassFile.FieldType.int)) ∈ tblG := m_t (i := 482) rfl rfl
theorem ms_35 : Cond.selects "PortDrawerModel" ⟨"PortDrawerModel", "ofKind", "(I)I"⟩ ⟨"PortDrawerModel", "ofKind", "(I)I"⟩ ∈ tblG := m_s (i := 35) rfl rfl
theorem m_479 : (Jvm.Cond.methodLink "PortDrawerModel" (102 : Nat) ({ cls := "PortDrawerModel", name := "ofKind", desc := "(I)I" } : Jvm.MethodName)) ∈ tblG := m_t (i := 479) rfl rfl
theorem m_481 : (Jvm.Cond.instanceMethod ({ cls := "PortDrawerModel", name := "ofKind", desc := "(I)I" } : Jvm.MethodName)) ∈ tblG := m_t (i := 481) rfl rfl
theorem d_M_init_0 : decode b_M_init 0 = .ok (.aload_n 0, 1) := by decide +kernel
theorem d_M_init_1 : decode b_M_init 1 = .ok (.invokespecial 1, 3) := by decide +kernel
theorem d_M_init_4 : decode b_M_init 4 = .ok (.aload_n 0, 1) := by decide +kernel
theorem d_M_init_5 : decode b_M_init 5 = .ok (.bipush 86, 2) := by decide +kernel
theorem d_M_init_7 : decode b_M_init 7 = .ok (.newarray .int, 2) := by decide +kernel
theorem d_M_init_9 : decode b_M_init 9 = .ok (.putfield 7, 3) := by decide +kernel
theorem d_M_init_12 : decode b_M_init 12 = .ok (.aload_n 0, 1) := by decide +kernel
theorem d_M_init_13 : decode b_M_init 13 = .ok (.bipush 86, 2) := by decide +kernel
theorem d_M_init_15 : decode b_M_init 15 = .ok (.newarray .int, 2) := by decide +kernel
theorem d_M_init_17 : decode b_M_init 17 = .ok (.putfield 13, 3) := by decide +kernel
theorem d_M_init_20 : decode b_M_init 20 = .ok (.aload_n 0, 1) := by decide +kernel
theorem d_M_init_21 : decode b_M_init 21 = .ok (.bipush 86, 2) := by decide +kernel
theorem d_M_init_23 : decode b_M_init 23 = .ok (.newarray .int, 2) := by decide +kernel
theorem d_M_init_25 : decode b_M_init 25 = .ok (.putfield 16, 3) := by decide +kernel
theorem d_M_init_28 : decode b_M_init 28 = .ok (.aload_n 0, 1) := by decide +kernel
theorem d_M_init_29 : decode b_M_init 29 = .ok (.bipush 43, 2) := by decide +kernel
theorem d_M_init_31 : decode b_M_init 31 = .ok (.newarray .boolean, 2) := by decide +kernel
theorem d_M_init_33 : decode b_M_init 33 = .ok (.putfield 19, 3) := by decide +kernel
theorem d_M_init_36 : decode b_M_init 36 = .ok (.aload_n 0, 1) := by decide +kernel
theorem d_M_init_37 : decode b_M_init 37 = .ok (.sipush 256, 3) := by decide +kernel
theorem d_M_init_40 : decode b_M_init 40 = .ok (.newarray .boolean, 2) := by decide +kernel
theorem d_M_init_42 : decode b_M_init 42 = .ok (.putfield 23, 3) := by decide +kernel
theorem d_M_init_45 : decode b_M_init 45 = .ok (.aload_n 0, 1) := by decide +kernel
theorem d_M_init_46 : decode b_M_init 46 = .ok (.bipush 43, 2) := by decide +kernel
theorem d_M_init_48 : decode b_M_init 48 = .ok (.newarray .boolean, 2) := by decide +kernel
theorem d_M_init_50 : decode b_M_init 50 = .ok (.putfield 26, 3) := by decide +kernel
theorem d_M_init_53 : decode b_M_init 53 = .ok (.aload_n 0, 1) := by decide +kernel
theorem d_M_init_54 : decode b_M_init 54 = .ok (.lload_n 1, 1) := by decide +kernel
theorem d_M_init_55 : decode b_M_init 55 = .ok (.putfield 29, 3) := by decide +kernel
theorem d_M_init_58 : decode b_M_init 58 = .ok (.return_, 1) := by decide +kernel
theorem d_M_draw_0 : decode b_M_draw 0 = .ok (.iload_n 1, 1) := by decide +kernel
theorem d_M_draw_1 : decode b_M_draw 1 = .ok (.iconst 0, 1) := by decide +kernel
theorem d_M_draw_2 : decode b_M_draw 2 = .ok (.bipush 40, 2) := by decide +kernel
theorem d_M_draw_4 : decode b_M_draw 4 = .ok (.invokestatic 59, 3) := by decide +kernel
theorem d_M_draw_7 : decode b_M_draw 7 = .ok (.ifCond .ne 9, 3) := by decide +kernel
theorem d_M_draw_10 : decode b_M_draw 10 = .ok (.aload_n 0, 1) := by decide +kernel
theorem d_M_draw_11 : decode b_M_draw 11 = .ok (.iconst 1, 1) := by decide +kernel
theorem d_M_draw_12 : decode b_M_draw 12 = .ok (.invokevirtual 63, 3) := by decide +kernel
theorem d_M_draw_15 : decode b_M_draw 15 = .ok (.ireturn, 1) := by decide +kernel
theorem d_M_draw_16 : decode b_M_draw 16 = .ok (.aload_n 0, 1) := by decide +kernel
theorem d_M_draw_17 : decode b_M_draw 17 = .ok (.iconst 0, 1) := by decide +kernel
theorem d_M_draw_18 : decode b_M_draw 18 = .ok (.putfield 33, 3) := by decide +kernel
theorem d_M_draw_21 : decode b_M_draw 21 = .ok (.aload_n 0, 1) := by decide +kernel
theorem d_M_draw_22 : decode b_M_draw 22 = .ok (.aload_n 0, 1) := by decide +kernel
theorem d_M_draw_23 : decode b_M_draw 23 = .ok (.getfield 29, 3) := by decide +kernel
theorem d_M_draw_26 : decode b_M_draw 26 = .ok (.iconst 0, 1) := by decide +kernel
theorem d_M_draw_27 : decode b_M_draw 27 = .ok (.iload_n 1, 1) := by decide +kernel
theorem d_M_draw_28 : decode b_M_draw 28 = .ok (.invokevirtual 66, 3) := by decide +kernel
theorem d_M_draw_31 : decode b_M_draw 31 = .ok (.aload_n 0, 1) := by decide +kernel
theorem d_M_draw_32 : decode b_M_draw 32 = .ok (.iload_n 1, 1) := by decide +kernel
theorem d_M_draw_33 : decode b_M_draw 33 = .ok (.iconst 3, 1) := by decide +kernel
theorem d_M_draw_34 : decode b_M_draw 34 = .ok (.iadd, 1) := by decide +kernel
theorem d_M_draw_35 : decode b_M_draw 35 = .ok (.putfield 37, 3) := by decide +kernel
theorem d_M_draw_38 : decode b_M_draw 38 = .ok (.aload_n 0, 1) := by decide +kernel
theorem d_M_draw_39 : decode b_M_draw 39 = .ok (.invokevirtual 70, 3) := by decide +kernel
theorem d_M_draw_42 : decode b_M_draw 42 = .ok (.aload_n 0, 1) := by decide +kernel
theorem d_M_draw_43 : decode b_M_draw 43 = .ok (.getfield 37, 3) := by decide +kernel
theorem d_M_draw_46 : decode b_M_draw 46 = .ok (.ireturn, 1) := by decide +kernel
theorem d_M_same_0 : decode b_M_same 0 = .ok (.iload_n 3, 1) := by decide +kernel
theorem d_M_same_1 : decode b_M_same 1 = .ok (.iconst 0, 1) := by decide +kernel
theorem d_M_same_2 : decode b_M_same 2 = .ok (.bipush 40, 2) := by decide +kernel
theorem d_M_same_4 : decode b_M_same 4 = .ok (.invokestatic 59, 3) := by decide +kernel
theorem d_M_same_7 : decode b_M_same 7 = .ok (.ifCond .ne 10, 3) := by decide +kernel
theorem d_M_same_10 : decode b_M_same 10 = .ok (.aload_n 0, 1) := by decide +kernel
theorem d_M_same_11 : decode b_M_same 11 = .ok (.iconst 1, 1) := by decide +kernel
theorem d_M_same_12 : decode b_M_same 12 = .ok (.putfield 33, 3) := by decide +kernel
theorem d_M_same_15 : decode b_M_same 15 = .ok (.iconst 0, 1) := by decide +kernel
theorem d_M_same_16 : decode b_M_same 16 = .ok (.ireturn, 1) := by decide +kernel
theorem d_M_same_17 : decode b_M_same 17 = .ok (.aload_n 0, 1) := by decide +kernel
theorem d_M_same_18 : decode b_M_same 18 = .ok (.iconst 0, 1) := by decide +kernel
theorem d_M_same_19 : decode b_M_same 19 = .ok (.putfield 33, 3) := by decide +kernel
theorem d_M_same_22 : decode b_M_same 22 = .ok (.aload_n 0, 1) := by decide +kernel
theorem d_M_same_23 : decode b_M_same 23 = .ok (.lload_n 1, 1) := by decide +kernel
theorem d_M_same_24 : decode b_M_same 24 = .ok (.bipush 43, 2) := by decide +kernel
theorem d_M_same_26 : decode b_M_same 26 = .ok (.iload_n 3, 1) := by decide +kernel
theorem d_M_same_27 : decode b_M_same 27 = .ok (.invokevirtual 66, 3) := by decide +kernel
theorem d_M_same_30 : decode b_M_same 30 = .ok (.aload_n 0, 1) := by decide +kernel
theorem d_M_same_31 : decode b_M_same 31 = .ok (.getfield 37, 3) := by decide +kernel
theorem d_M_same_34 : decode b_M_same 34 = .ok (.iload_n 3, 1) := by decide +kernel
theorem d_M_same_35 : decode b_M_same 35 = .ok (.iconst 3, 1) := by decide +kernel
theorem d_M_same_36 : decode b_M_same 36 = .ok (.iadd, 1) := by decide +kernel
theorem d_M_same_37 : decode b_M_same 37 = .ok (.if_icmp .ne 7, 3) := by decide +kernel
theorem d_M_same_40 : decode b_M_same 40 = .ok (.iconst 1, 1) := by decide +kernel
theorem d_M_same_41 : decode b_M_same 41 = .ok (.goto 4, 3) := by decide +kernel
theorem d_M_same_44 : decode b_M_same 44 = .ok (.iconst 0, 1) := by decide +kernel
theorem d_M_same_45 : decode b_M_same 45 = .ok (.istore 4, 2) := by decide +kernel
theorem d_M_same_47 : decode b_M_same 47 = .ok (.iconst 0, 1) := by decide +kernel
theorem d_M_same_48 : decode b_M_same 48 = .ok (.istore 5, 2) := by decide +kernel
theorem d_M_same_50 : decode b_M_same 50 = .ok (.iload 5, 2) := by decide +kernel
theorem d_M_same_52 : decode b_M_same 52 = .ok (.aload_n 0, 1) := by decide +kernel
theorem d_M_same_53 : decode b_M_same 53 = .ok (.getfield 37, 3) := by decide +kernel
theorem d_M_same_56 : decode b_M_same 56 = .ok (.if_icmp .ge 81, 3) := by decide +kernel
theorem d_M_same_59 : decode b_M_same 59 = .ok (.iload 4, 2) := by decide +kernel
theorem d_M_same_61 : decode b_M_same 61 = .ok (.ifCond .eq 67, 3) := by decide +kernel
theorem d_M_same_64 : decode b_M_same 64 = .ok (.aload_n 0, 1) := by decide +kernel
theorem d_M_same_65 : decode b_M_same 65 = .ok (.getfield 7, 3) := by decide +kernel
theorem d_M_same_68 : decode b_M_same 68 = .ok (.iload 5, 2) := by decide +kernel
theorem d_M_same_70 : decode b_M_same 70 = .ok (.iaload, 1) := by decide +kernel
theorem d_M_same_71 : decode b_M_same 71 = .ok (.aload_n 0, 1) := by decide +kernel
theorem d_M_same_72 : decode b_M_same 72 = .ok (.getfield 7, 3) := by decide +kernel
theorem d_M_same_75 : decode b_M_same 75 = .ok (.bipush 43, 2) := by decide +kernel
theorem d_M_same_77 : decode b_M_same 77 = .ok (.iload 5, 2) := by decide +kernel
theorem d_M_same_79 : decode b_M_same 79 = .ok (.iadd, 1) := by decide +kernel
theorem d_M_same_80 : decode b_M_same 80 = .ok (.iaload, 1) := by decide +kernel
theorem d_M_same_81 : decode b_M_same 81 = .ok (.if_icmp .ne 47, 3) := by decide +kernel
theorem d_M_same_84 : decode b_M_same 84 = .ok (.aload_n 0, 1) := by decide +kernel
theorem d_M_same_85 : decode b_M_same 85 = .ok (.getfield 13, 3) := by decide +kernel
theorem d_M_same_88 : decode b_M_same 88 = .ok (.iload 5, 2) := by decide +kernel
theorem d_M_same_90 : decode b_M_same 90 = .ok (.iaload, 1) := by decide +kernel
theorem d_M_same_91 : decode b_M_same 91 = .ok (.aload_n 0, 1) := by decide +kernel
theorem d_M_same_92 : decode b_M_same 92 = .ok (.getfield 13, 3) := by decide +kernel
theorem d_M_same_95 : decode b_M_same 95 = .ok (.bipush 43, 2) := by decide +kernel
theorem d_M_same_97 : decode b_M_same 97 = .ok (.iload 5, 2) := by decide +kernel
theorem d_M_same_99 : decode b_M_same 99 = .ok (.iadd, 1) := by decide +kernel
theorem d_M_same_100 : decode b_M_same 100 = .ok (.iaload, 1) := by decide +kernel
theorem d_M_same_101 : decode b_M_same 101 = .ok (.if_icmp .ne 27, 3) := by decide +kernel
theorem d_M_same_104 : decode b_M_same 104 = .ok (.aload_n 0, 1) := by decide +kernel
theorem d_M_same_105 : decode b_M_same 105 = .ok (.getfield 16, 3) := by decide +kernel
theorem d_M_same_108 : decode b_M_same 108 = .ok (.iload 5, 2) := by decide +kernel
theorem d_M_same_110 : decode b_M_same 110 = .ok (.iaload, 1) := by decide +kernel
theorem d_M_same_111 : decode b_M_same 111 = .ok (.aload_n 0, 1) := by decide +kernel
theorem d_M_same_112 : decode b_M_same 112 = .ok (.getfield 16, 3) := by decide +kernel
theorem d_M_same_115 : decode b_M_same 115 = .ok (.bipush 43, 2) := by decide +kernel
theorem d_M_same_117 : decode b_M_same 117 = .ok (.iload 5, 2) := by decide +kernel
theorem d_M_same_119 : decode b_M_same 119 = .ok (.iadd, 1) := by decide +kernel
theorem d_M_same_120 : decode b_M_same 120 = .ok (.iaload, 1) := by decide +kernel
theorem d_M_same_121 : decode b_M_same 121 = .ok (.if_icmp .ne 7, 3) := by decide +kernel
theorem d_M_same_124 : decode b_M_same 124 = .ok (.iconst 1, 1) := by decide +kernel
theorem d_M_same_125 : decode b_M_same 125 = .ok (.goto 4, 3) := by decide +kernel
theorem d_M_same_128 : decode b_M_same 128 = .ok (.iconst 0, 1) := by decide +kernel
theorem d_M_same_129 : decode b_M_same 129 = .ok (.istore 4, 2) := by decide +kernel
theorem d_M_same_131 : decode b_M_same 131 = .ok (.iinc 5 1, 3) := by decide +kernel
theorem d_M_same_134 : decode b_M_same 134 = .ok (.goto (-84), 3) := by decide +kernel
theorem d_M_same_137 : decode b_M_same 137 = .ok (.iload 4, 2) := by decide +kernel
theorem d_M_same_139 : decode b_M_same 139 = .ok (.ireturn, 1) := by decide +kernel
theorem d_M_fits_0 : decode b_M_fits 0 = .ok (.aload_n 0, 1) := by decide +kernel
theorem d_M_fits_1 : decode b_M_fits 1 = .ok (.aload_n 0, 1) := by decide +kernel
theorem d_M_fits_2 : decode b_M_fits 2 = .ok (.iload_n 1, 1) := by decide +kernel
theorem d_M_fits_3 : decode b_M_fits 3 = .ok (.invokevirtual 73, 3) := by decide +kernel
theorem d_M_fits_6 : decode b_M_fits 6 = .ok (.ifCond .eq 17, 3) := by decide +kernel
theorem d_M_fits_9 : decode b_M_fits 9 = .ok (.aload_n 0, 1) := by decide +kernel
theorem d_M_fits_10 : decode b_M_fits 10 = .ok (.getfield 7, 3) := by decide +kernel
theorem d_M_fits_13 : decode b_M_fits 13 = .ok (.iload_n 1, 1) := by decide +kernel
theorem d_M_fits_14 : decode b_M_fits 14 = .ok (.iaload, 1) := by decide +kernel
theorem d_M_fits_15 : decode b_M_fits 15 = .ok (.iconst 5, 1) := by decide +kernel
theorem d_M_fits_16 : decode b_M_fits 16 = .ok (.if_icmp .ne 7, 3) := by decide +kernel
theorem d_M_fits_19 : decode b_M_fits 19 = .ok (.iconst 0, 1) := by decide +kernel
theorem d_M_fits_20 : decode b_M_fits 20 = .ok (.goto 4, 3) := by decide +kernel
theorem d_M_fits_23 : decode b_M_fits 23 = .ok (.iconst 1, 1) := by decide +kernel
theorem d_M_fits_24 : decode b_M_fits 24 = .ok (.putfield 33, 3) := by decide +kernel
theorem d_M_fits_27 : decode b_M_fits 27 = .ok (.aload_n 0, 1) := by decide +kernel
theorem d_M_fits_28 : decode b_M_fits 28 = .ok (.getfield 33, 3) := by decide +kernel
theorem d_M_fits_31 : decode b_M_fits 31 = .ok (.ifCond .ne 15, 3) := by decide +kernel
theorem d_M_fits_34 : decode b_M_fits 34 = .ok (.aload_n 0, 1) := by decide +kernel
theorem d_M_fits_35 : decode b_M_fits 35 = .ok (.iload_n 1, 1) := by decide +kernel
theorem d_M_fits_36 : decode b_M_fits 36 = .ok (.invokevirtual 77, 3) := by decide +kernel
theorem d_M_fits_39 : decode b_M_fits 39 = .ok (.ifCond .eq 7, 3) := by decide +kernel
theorem d_M_fits_42 : decode b_M_fits 42 = .ok (.iconst 1, 1) := by decide +kernel
theorem d_M_fits_43 : decode b_M_fits 43 = .ok (.goto 4, 3) := by decide +kernel
theorem d_M_fits_46 : decode b_M_fits 46 = .ok (.iconst 0, 1) := by decide +kernel
theorem d_M_fits_47 : decode b_M_fits 47 = .ok (.ireturn, 1) := by decide +kernel
theorem d_M_without_0 : decode b_M_without 0 = .ok (.aload_n 0, 1) := by decide +kernel
theorem d_M_without_1 : decode b_M_without 1 = .ok (.iload_n 1, 1) := by decide +kernel
theorem d_M_without_2 : decode b_M_without 2 = .ok (.invokevirtual 73, 3) := by decide +kernel
theorem d_M_without_5 : decode b_M_without 5 = .ok (.ifCond .eq 12, 3) := by decide +kernel
theorem d_M_without_8 : decode b_M_without 8 = .ok (.aload_n 0, 1) := by decide +kernel
theorem d_M_without_9 : decode b_M_without 9 = .ok (.getfield 19, 3) := by decide +kernel
theorem d_M_without_12 : decode b_M_without 12 = .ok (.iload_n 1, 1) := by decide +kernel
theorem d_M_without_13 : decode b_M_without 13 = .ok (.baload, 1) := by decide +kernel
theorem d_M_without_14 : decode b_M_without 14 = .ok (.ifCond .ne 9, 3) := by decide +kernel
theorem d_M_without_17 : decode b_M_without 17 = .ok (.aload_n 0, 1) := by decide +kernel
theorem d_M_without_18 : decode b_M_without 18 = .ok (.iconst 1, 1) := by decide +kernel
theorem d_M_without_19 : decode b_M_without 19 = .ok (.invokevirtual 63, 3) := by decide +kernel
theorem d_M_without_22 : decode b_M_without 22 = .ok (.ireturn, 1) := by decide +kernel
theorem d_M_without_23 : decode b_M_without 23 = .ok (.aload_n 0, 1) := by decide +kernel
theorem d_M_without_24 : decode b_M_without 24 = .ok (.iconst 0, 1) := by decide +kernel
theorem d_M_without_25 : decode b_M_without 25 = .ok (.putfield 33, 3) := by decide +kernel
theorem d_M_without_28 : decode b_M_without 28 = .ok (.aload_n 0, 1) := by decide +kernel
theorem d_M_without_29 : decode b_M_without 29 = .ok (.iload_n 1, 1) := by decide +kernel
theorem d_M_without_30 : decode b_M_without 30 = .ok (.invokevirtual 87, 3) := by decide +kernel
theorem d_M_without_33 : decode b_M_without 33 = .ok (.istore_n 2, 1) := by decide +kernel
theorem d_M_without_34 : decode b_M_without 34 = .ok (.aload_n 0, 1) := by decide +kernel
theorem d_M_without_35 : decode b_M_without 35 = .ok (.invokevirtual 99, 3) := by decide +kernel
theorem d_M_without_38 : decode b_M_without 38 = .ok (.iload_n 2, 1) := by decide +kernel
theorem d_M_without_39 : decode b_M_without 39 = .ok (.ireturn, 1) := by decide +kernel
theorem d_M_part_0 : decode b_M_part 0 = .ok (.aload_n 0, 1) := by decide +kernel
theorem d_M_part_1 : decode b_M_part 1 = .ok (.iload_n 1, 1) := by decide +kernel
theorem d_M_part_2 : decode b_M_part 2 = .ok (.invokevirtual 73, 3) := by decide +kernel
theorem d_M_part_5 : decode b_M_part 5 = .ok (.ifCond .eq 12, 3) := by decide +kernel
theorem d_M_part_8 : decode b_M_part 8 = .ok (.iload_n 2, 1) := by decide +kernel
theorem d_M_part_9 : decode b_M_part 9 = .ok (.iconst 0, 1) := by decide +kernel
theorem d_M_part_10 : decode b_M_part 10 = .ok (.iconst 4, 1) := by decide +kernel
theorem d_M_part_11 : decode b_M_part 11 = .ok (.invokestatic 59, 3) := by decide +kernel
theorem d_M_part_14 : decode b_M_part 14 = .ok (.ifCond .ne 9, 3) := by decide +kernel
theorem d_M_part_17 : decode b_M_part 17 = .ok (.aload_n 0, 1) := by decide +kernel
theorem d_M_part_18 : decode b_M_part 18 = .ok (.iconst 1, 1) := by decide +kernel
theorem d_M_part_19 : decode b_M_part 19 = .ok (.invokevirtual 63, 3) := by decide +kernel
theorem d_M_part_22 : decode b_M_part 22 = .ok (.ireturn, 1) := by decide +kernel
theorem d_M_part_23 : decode b_M_part 23 = .ok (.aload_n 0, 1) := by decide +kernel
theorem d_M_part_24 : decode b_M_part 24 = .ok (.iconst 0, 1) := by decide +kernel
theorem d_M_part_25 : decode b_M_part 25 = .ok (.putfield 33, 3) := by decide +kernel
theorem d_M_part_28 : decode b_M_part 28 = .ok (.iconst 0, 1) := by decide +kernel
theorem d_M_part_29 : decode b_M_part 29 = .ok (.istore_n 3, 1) := by decide +kernel
theorem d_M_part_30 : decode b_M_part 30 = .ok (.iconst 0, 1) := by decide +kernel
theorem d_M_part_31 : decode b_M_part 31 = .ok (.istore 4, 2) := by decide +kernel
theorem d_M_part_33 : decode b_M_part 33 = .ok (.iload 4, 2) := by decide +kernel
theorem d_M_part_35 : decode b_M_part 35 = .ok (.iload_n 1, 1) := by decide +kernel
theorem d_M_part_36 : decode b_M_part 36 = .ok (.if_icmp .ge 33, 3) := by decide +kernel
theorem d_M_part_39 : decode b_M_part 39 = .ok (.iload_n 3, 1) := by decide +kernel
theorem d_M_part_40 : decode b_M_part 40 = .ok (.aload_n 0, 1) := by decide +kernel
theorem d_M_part_41 : decode b_M_part 41 = .ok (.getfield 7, 3) := by decide +kernel
theorem d_M_part_44 : decode b_M_part 44 = .ok (.iload 4, 2) := by decide +kernel
theorem d_M_part_46 : decode b_M_part 46 = .ok (.iaload, 1) := by decide +kernel
theorem d_M_part_47 : decode b_M_part 47 = .ok (.aload_n 0, 1) := by decide +kernel
theorem d_M_part_48 : decode b_M_part 48 = .ok (.getfield 7, 3) := by decide +kernel
theorem d_M_part_51 : decode b_M_part 51 = .ok (.iload_n 1, 1) := by decide +kernel
theorem d_M_part_52 : decode b_M_part 52 = .ok (.iaload, 1) := by decide +kernel
theorem d_M_part_53 : decode b_M_part 53 = .ok (.if_icmp .ne 7, 3) := by decide +kernel
theorem d_M_part_56 : decode b_M_part 56 = .ok (.iconst 1, 1) := by decide +kernel
theorem d_M_part_57 : decode b_M_part 57 = .ok (.goto 4, 3) := by decide +kernel
theorem d_M_part_60 : decode b_M_part 60 = .ok (.iconst 0, 1) := by decide +kernel
theorem d_M_part_61 : decode b_M_part 61 = .ok (.iadd, 1) := by decide +kernel
theorem d_M_part_62 : decode b_M_part 62 = .ok (.istore_n 3, 1) := by decide +kernel
theorem d_M_part_63 : decode b_M_part 63 = .ok (.iinc 4 1, 3) := by decide +kernel
theorem d_M_part_66 : decode b_M_part 66 = .ok (.goto (-33), 3) := by decide +kernel
theorem d_M_part_69 : decode b_M_part 69 = .ok (.iload_n 2, 1) := by decide +kernel
theorem d_M_part_70 : decode b_M_part 70 = .ok (.ifCond .ne 12, 3) := by decide +kernel
theorem d_M_part_73 : decode b_M_part 73 = .ok (.aload_n 0, 1) := by decide +kernel
theorem d_M_part_74 : decode b_M_part 74 = .ok (.getfield 7, 3) := by decide +kernel
theorem d_M_part_77 : decode b_M_part 77 = .ok (.iload_n 1, 1) := by decide +kernel
theorem d_M_part_78 : decode b_M_part 78 = .ok (.iaload, 1) := by decide +kernel
theorem d_M_part_79 : decode b_M_part 79 = .ok (.goto 54, 3) := by decide +kernel
theorem d_M_part_82 : decode b_M_part 82 = .ok (.iload_n 2, 1) := by decide +kernel
theorem d_M_part_83 : decode b_M_part 83 = .ok (.iconst 1, 1) := by decide +kernel
theorem d_M_part_84 : decode b_M_part 84 = .ok (.if_icmp .ne 7, 3) := by decide +kernel
theorem d_M_part_87 : decode b_M_part 87 = .ok (.iload_n 3, 1) := by decide +kernel
theorem d_M_part_88 : decode b_M_part 88 = .ok (.goto 45, 3) := by decide +kernel
theorem d_M_part_91 : decode b_M_part 91 = .ok (.iload_n 2, 1) := by decide +kernel
theorem d_M_part_92 : decode b_M_part 92 = .ok (.iconst 2, 1) := by decide +kernel
theorem d_M_part_93 : decode b_M_part 93 = .ok (.if_icmp .ne 12, 3) := by decide +kernel
theorem d_M_part_96 : decode b_M_part 96 = .ok (.aload_n 0, 1) := by decide +kernel
theorem d_M_part_97 : decode b_M_part 97 = .ok (.getfield 13, 3) := by decide +kernel
theorem d_M_part_100 : decode b_M_part 100 = .ok (.iload_n 1, 1) := by decide +kernel
theorem d_M_part_101 : decode b_M_part 101 = .ok (.iaload, 1) := by decide +kernel
theorem d_M_part_102 : decode b_M_part 102 = .ok (.goto 31, 3) := by decide +kernel
theorem d_M_part_105 : decode b_M_part 105 = .ok (.iload_n 2, 1) := by decide +kernel
theorem d_M_part_106 : decode b_M_part 106 = .ok (.iconst 3, 1) := by decide +kernel
theorem d_M_part_107 : decode b_M_part 107 = .ok (.if_icmp .ne 12, 3) := by decide +kernel
theorem d_M_part_110 : decode b_M_part 110 = .ok (.aload_n 0, 1) := by decide +kernel
theorem d_M_part_111 : decode b_M_part 111 = .ok (.getfield 16, 3) := by decide +kernel
theorem d_M_part_114 : decode b_M_part 114 = .ok (.iload_n 1, 1) := by decide +kernel
theorem d_M_part_115 : decode b_M_part 115 = .ok (.iaload, 1) := by decide +kernel
theorem d_M_part_116 : decode b_M_part 116 = .ok (.goto 17, 3) := by decide +kernel
theorem d_M_part_119 : decode b_M_part 119 = .ok (.aload_n 0, 1) := by decide +kernel
theorem d_M_part_120 : decode b_M_part 120 = .ok (.getfield 19, 3) := by decide +kernel
theorem d_M_part_123 : decode b_M_part 123 = .ok (.iload_n 1, 1) := by decide +kernel
theorem d_M_part_124 : decode b_M_part 124 = .ok (.baload, 1) := by decide +kernel
theorem d_M_part_125 : decode b_M_part 125 = .ok (.ifCond .eq 7, 3) := by decide +kernel
theorem d_M_part_128 : decode b_M_part 128 = .ok (.iconst 1, 1) := by decide +kernel
theorem d_M_part_129 : decode b_M_part 129 = .ok (.goto 4, 3) := by decide +kernel
theorem d_M_part_132 : decode b_M_part 132 = .ok (.iconst 0, 1) := by decide +kernel
theorem d_M_part_133 : decode b_M_part 133 = .ok (.ireturn, 1) := by decide +kernel
theorem d_M_count_0 : decode b_M_count 0 = .ok (.aload_n 0, 1) := by decide +kernel
theorem d_M_count_1 : decode b_M_count 1 = .ok (.iconst 0, 1) := by decide +kernel
theorem d_M_count_2 : decode b_M_count 2 = .ok (.putfield 33, 3) := by decide +kernel
theorem d_M_count_5 : decode b_M_count 5 = .ok (.iload_n 1, 1) := by decide +kernel
theorem d_M_count_6 : decode b_M_count 6 = .ok (.bipush 10, 2) := by decide +kernel
theorem d_M_count_8 : decode b_M_count 8 = .ok (.if_icmp .lt 22, 3) := by decide +kernel
theorem d_M_count_11 : decode b_M_count 11 = .ok (.iload_n 1, 1) := by decide +kernel
theorem d_M_count_12 : decode b_M_count 12 = .ok (.bipush 17, 2) := by decide +kernel
theorem d_M_count_14 : decode b_M_count 14 = .ok (.if_icmp .ge 14, 3) := by decide +kernel
theorem d_M_count_17 : decode b_M_count 17 = .ok (.aload_n 0, 1) := by decide +kernel
theorem d_M_count_18 : decode b_M_count 18 = .ok (.iload_n 1, 1) := by decide +kernel
theorem d_M_count_19 : decode b_M_count 19 = .ok (.bipush 10, 2) := by decide +kernel
theorem d_M_count_21 : decode b_M_count 21 = .ok (.isub, 1) := by decide +kernel
theorem d_M_count_22 : decode b_M_count 22 = .ok (.invokevirtual 102, 3) := by decide +kernel
theorem d_M_count_25 : decode b_M_count 25 = .ok (.goto 4, 3) := by decide +kernel
theorem d_M_count_28 : decode b_M_count 28 = .ok (.iconst (-1), 1) := by decide +kernel
theorem d_M_count_29 : decode b_M_count 29 = .ok (.ireturn, 1) := by decide +kernel
theorem d_M_count_30 : decode b_M_count 30 = .ok (.iconst 0, 1) := by decide +kernel
theorem d_M_count_31 : decode b_M_count 31 = .ok (.istore_n 2, 1) := by decide +kernel
theorem d_M_count_32 : decode b_M_count 32 = .ok (.iconst 0, 1) := by decide +kernel
theorem d_M_count_33 : decode b_M_count 33 = .ok (.istore_n 3, 1) := by decide +kernel
theorem d_M_count_34 : decode b_M_count 34 = .ok (.iload_n 3, 1) := by decide +kernel
theorem d_M_count_35 : decode b_M_count 35 = .ok (.aload_n 0, 1) := by decide +kernel
theorem d_M_count_36 : decode b_M_count 36 = .ok (.getfield 37, 3) := by decide +kernel
theorem d_M_count_39 : decode b_M_count 39 = .ok (.if_icmp .ge 35, 3) := by decide +kernel
theorem d_M_count_42 : decode b_M_count 42 = .ok (.iload_n 2, 1) := by decide +kernel
theorem d_M_count_43 : decode b_M_count 43 = .ok (.aload_n 0, 1) := by decide +kernel
theorem d_M_count_44 : decode b_M_count 44 = .ok (.getfield 7, 3) := by decide +kernel
theorem d_M_count_47 : decode b_M_count 47 = .ok (.iload_n 3, 1) := by decide +kernel
theorem d_M_count_48 : decode b_M_count 48 = .ok (.iaload, 1) := by decide +kernel
theorem d_M_count_49 : decode b_M_count 49 = .ok (.iconst 5, 1) := by decide +kernel
theorem d_M_count_50 : decode b_M_count 50 = .ok (.if_icmp .ne 15, 3) := by decide +kernel
theorem d_M_count_53 : decode b_M_count 53 = .ok (.aload_n 0, 1) := by decide +kernel
theorem d_M_count_54 : decode b_M_count 54 = .ok (.iload_n 3, 1) := by decide +kernel
theorem d_M_count_55 : decode b_M_count 55 = .ok (.invokevirtual 77, 3) := by decide +kernel
theorem d_M_count_58 : decode b_M_count 58 = .ok (.ifCond .eq 7, 3) := by decide +kernel
theorem d_M_count_61 : decode b_M_count 61 = .ok (.iconst 1, 1) := by decide +kernel
theorem d_M_count_62 : decode b_M_count 62 = .ok (.goto 4, 3) := by decide +kernel
theorem d_M_count_65 : decode b_M_count 65 = .ok (.iconst 0, 1) := by decide +kernel
theorem d_M_count_66 : decode b_M_count 66 = .ok (.iadd, 1) := by decide +kernel
theorem d_M_count_67 : decode b_M_count 67 = .ok (.istore_n 2, 1) := by decide +kernel
theorem d_M_count_68 : decode b_M_count 68 = .ok (.iinc 3 1, 3) := by decide +kernel
theorem d_M_count_71 : decode b_M_count 71 = .ok (.goto (-37), 3) := by decide +kernel
theorem d_M_count_74 : decode b_M_count 74 = .ok (.iconst 0, 1) := by decide +kernel
theorem d_M_count_75 : decode b_M_count 75 = .ok (.istore_n 3, 1) := by decide +kernel
theorem d_M_count_76 : decode b_M_count 76 = .ok (.iconst 0, 1) := by decide +kernel
theorem d_M_count_77 : decode b_M_count 77 = .ok (.istore 4, 2) := by decide +kernel
theorem d_M_count_79 : decode b_M_count 79 = .ok (.iload 4, 2) := by decide +kernel
theorem d_M_count_81 : decode b_M_count 81 = .ok (.sipush 256, 3) := by decide +kernel
theorem d_M_count_84 : decode b_M_count 84 = .ok (.if_icmp .ge 27, 3) := by decide +kernel
theorem d_M_count_87 : decode b_M_count 87 = .ok (.iload_n 3, 1) := by decide +kernel
theorem d_M_count_88 : decode b_M_count 88 = .ok (.aload_n 0, 1) := by decide +kernel
theorem d_M_count_89 : decode b_M_count 89 = .ok (.getfield 23, 3) := by decide +kernel
theorem d_M_count_92 : decode b_M_count 92 = .ok (.iload 4, 2) := by decide +kernel
theorem d_M_count_94 : decode b_M_count 94 = .ok (.baload, 1) := by decide +kernel
theorem d_M_count_95 : decode b_M_count 95 = .ok (.ifCond .eq 7, 3) := by decide +kernel
theorem d_M_count_98 : decode b_M_count 98 = .ok (.iconst 1, 1) := by decide +kernel
theorem d_M_count_99 : decode b_M_count 99 = .ok (.goto 4, 3) := by decide +kernel
theorem d_M_count_102 : decode b_M_count 102 = .ok (.iconst 0, 1) := by decide +kernel
theorem d_M_count_103 : decode b_M_count 103 = .ok (.iadd, 1) := by decide +kernel
theorem d_M_count_104 : decode b_M_count 104 = .ok (.istore_n 3, 1) := by decide +kernel
theorem d_M_count_105 : decode b_M_count 105 = .ok (.iinc 4 1, 3) := by decide +kernel
theorem d_M_count_108 : decode b_M_count 108 = .ok (.goto (-29), 3) := by decide +kernel
theorem d_M_count_111 : decode b_M_count 111 = .ok (.iload_n 1, 1) := by decide +kernel
theorem d_M_count_112 : decode b_M_count 112 = .ok (.tableswitch 56 0 4 #[36, 41, 46, 52, 54], 36) := by decide +kernel
theorem d_M_count_148 : decode b_M_count 148 = .ok (.aload_n 0, 1) := by decide +kernel
theorem d_M_count_149 : decode b_M_count 149 = .ok (.getfield 37, 3) := by decide +kernel
theorem d_M_count_152 : decode b_M_count 152 = .ok (.ireturn, 1) := by decide +kernel
theorem d_M_count_153 : decode b_M_count 153 = .ok (.aload_n 0, 1) := by decide +kernel
theorem d_M_count_154 : decode b_M_count 154 = .ok (.invokevirtual 90, 3) := by decide +kernel
theorem d_M_count_157 : decode b_M_count 157 = .ok (.ireturn, 1) := by decide +kernel
theorem d_M_count_158 : decode b_M_count 158 = .ok (.aload_n 0, 1) := by decide +kernel
theorem d_M_count_159 : decode b_M_count 159 = .ok (.iconst 5, 1) := by decide +kernel
theorem d_M_count_160 : decode b_M_count 160 = .ok (.invokevirtual 102, 3) := by decide +kernel
theorem d_M_count_163 : decode b_M_count 163 = .ok (.ireturn, 1) := by decide +kernel
theorem d_M_count_164 : decode b_M_count 164 = .ok (.iload_n 2, 1) := by decide +kernel
theorem d_M_count_165 : decode b_M_count 165 = .ok (.ireturn, 1) := by decide +kernel
theorem d_M_count_166 : decode b_M_count 166 = .ok (.iload_n 3, 1) := by decide +kernel
theorem d_M_count_167 : decode b_M_count 167 = .ok (.ireturn, 1) := by decide +kernel
theorem d_M_count_168 : decode b_M_count 168 = .ok (.iconst (-1), 1) := by decide +kernel
theorem d_M_count_169 : decode b_M_count 169 = .ok (.ireturn, 1) := by decide +kernel
set_option maxHeartbeats 4000000 in
set_option maxRecDepth 100000 in
/-- reference: its making -/
theorem c_M_init (l : Launch) (dC : Nat → ClassId) (dI : Nat → Nat → Nat) (jm : Nat) (sd : Int64)  (sz : Nat) : Met l y_M_init w_M_init ({ frames := 1, cells := 6, slots := 600, locals := 20 }) (wr_P dC dI [.ref jm, .long sd] [(jm, .inr (3, [.int 0, .long 0, .long 0, .int 0, .null, .null, .null, .null, .null, .null]))] [] sz) (va_Qv (fun (_ : Nat × Nat × Nat × Nat × Nat × Nat × ClassId × ClassId × ClassId × ClassId × ClassId × ClassId) => True) (fun (u : Nat × Nat × Nat × Nat × Nat × Nat × ClassId × ClassId × ClassId × ClassId × ClassId × ClassId) => wr_B dC dI (va_A [(jm, .inr (3, [.int 0, .long 0, .long 0, .int 0, .null, .null, .null, .null, .null, .null]))] sz) [(jm, .inr (3, [.int 0, .long sd, .long 0, .int (nI 0), .ref u.1, .ref u.2.1, .ref u.2.2.1, .ref u.2.2.2.1, .ref u.2.2.2.2.1, .ref u.2.2.2.2.2.1])), (u.1, .inl (u.2.2.2.2.2.2.1, 86, .inl (fun _ => 0))), (u.2.1, .inl (u.2.2.2.2.2.2.2.1, 86, .inl (fun _ => 0))), (u.2.2.1, .inl (u.2.2.2.2.2.2.2.2.1, 86, .inl (fun _ => 0))), (u.2.2.2.1, .inl (u.2.2.2.2.2.2.2.2.2.1, 43, .inl (bF fF))), (u.2.2.2.2.1, .inl (u.2.2.2.2.2.2.2.2.2.2.1, 256, .inl (bF fF))), (u.2.2.2.2.2.1, .inl (u.2.2.2.2.2.2.2.2.2.2.2, 43, .inl (bF fF)))] [(u.2.2.2.2.2.2.1, .int), (u.2.2.2.2.2.2.2.1, .int), (u.2.2.2.2.2.2.2.2.1, .int), (u.2.2.2.2.2.2.2.2.2.1, .boolean), (u.2.2.2.2.2.2.2.2.2.2.1, .boolean), (u.2.2.2.2.2.2.2.2.2.2.2, .boolean)]) (va_A [(jm, .inr (3, [.int 0, .long 0, .long 0, .int 0, .null, .null, .null, .null, .null, .null]))] sz)) 6 600 (va_A [(jm, .inr (3, [.int 0, .long 0, .long 0, .int 0, .null, .null, .null, .null, .null, .null]))] sz) := by
  refine Met.ofW (cc := b_M_init) (maxL := 3) (ret := (Option.none : Option Jvm.ClassFile.FieldType)) (by decide) rfl ?_
  intro p e s m args below meth c s₁ B0 hml hv0
  obtain ⟨rfl, hsz, hP, hK, hD0, hN⟩ := hv0
  have hx := B0.exec
  have hb := B0.bytes
  have hr := B0.returns
  have hts := atoms_spec (ws := w_M_init) B0.pre
  have hown : s.vm.findClass R_M = some m.cls := findClass_of_methodNamed B0.named
  have hlocks := B0.notSynchronized
  have hin : meth.name = "<init>" := (name_of_methodNamed B0.named B0.method).1
  subst hsz
  have hD := hD0.self (sz := s.heap.size)
  generalize hAe : va_A [(jm, .inr (3, [.int 0, .long 0, .long 0, .int 0, .null, .null, .null, .null, .null, .null]))] s.heap.size = A at hD ⊢
  have hA : ∀ q : Nat, s.heap.size ≤ q → A q := fun q h => by rw [← hAe]; exact Or.inr h
  have hS : va_S A s.heap s.heap [] := va_S.rf
  have hP : va_P (dC, dI) classes [(jm, .inr (3, [.int 0, .long 0, .long 0, .int 0, .null, .null, .null, .null, .null, .null]))] s.heap := hP
  have hl := lv_entry ([.ref jm, .long sd]) (n := 3) (Nat.le_of_ble_eq_true rfl)
  rw [lg_entry_eq]
  generalize (lg_sl ([.ref jm, .long sd]) ++ List.replicate (3 - (lg_sl ([.ref jm, .long sd])).length) Slot.unset).toArray = ls at hl ⊢
  have hl : lv_has ls 3 [(0, .ref jm), (1, .long sd)] := hl
  refine lv_aload_n hx hb d_M_init_0 rfl (lv_at hl 0 rfl) ?_
  refine W.objInit hx hb hown (hts _ (List.mem_cons_of_mem _ m_335)) (hts _ (List.mem_cons_of_mem _ m_17)) (hts _ (List.mem_cons_of_mem _ m_18)) rfl (by rw [hml]; exact hl.1) rfl d_M_init_1 (Nat.le_of_ble_eq_true rfl) (Nat.le_of_ble_eq_true rfl) ?_
  refine W.eq (g2 := F0 m 4 ls []) rfl ?_
  refine lv_aload_n hx hb d_M_init_4 rfl (lv_at hl 0 rfl) ?_
  refine lv_bipush (v := nI 86) hx hb d_M_init_5 (by decide +kernel) ?_
  refine va_newa (atype := .int) (ty := .int) (a0 := (86, .inl (fun _ => 0))) hx hb (hts _ (List.mem_cons_of_mem _ m_55)) rfl hK hP hD hS hA (fun _ => rfl) (nI_pos (by omega)) (nI_clamp (by omega)) (by decide) (Nat.le_of_ble_eq_true rfl) (Nat.le_of_ble_eq_true rfl) d_M_init_7 (fun q_1 cA_2 H hK hP hD hS => ?_)
  have hK : va_K (dC, dI) classes [(cA_2, .int)] s := hK
  have hP : va_P (dC, dI) classes [(jm, .inr (3, [.int 0, .long 0, .long 0, .int 0, .null, .null, .null, .null, .null, .null])), (q_1, .inl (cA_2, 86, .inl (fun _ => 0)))] H := hP
  have hD : va_D A [(jm, .inr (3, [.int 0, .long 0, .long 0, .int 0, .null, .null, .null, .null, .null, .null])), (q_1, .inl (cA_2, 86, .inl (fun _ => 0)))] := hD
  refine W.cs (cells' := 1) (slots' := 86) rfl rfl ?_
  refine va_putF (D := (dC, dI)) (ci := 3) (v := .ref q_1) (ty := .array .int) (C := R_M) (T := F_M) (N := 10) hx hb hts (lay_M _) ft_M tok_M nok_M hown hK hP hD hS 0 rfl rfl 4 (by decide) (hts _ (List.mem_cons_of_mem _ m_340)) (fun _ h9 => h9) rfl hin rfl (by decide +kernel) rfl rfl (Nat.le_of_ble_eq_true rfl) d_M_init_9 (fun H locs hP hD hS => ?_)
  have hP : va_P (dC, dI) classes [(jm, .inr (3, [.int 0, .long 0, .long 0, .int 0, .ref q_1, .null, .null, .null, .null, .null])), (q_1, .inl (cA_2, 86, .inl (fun _ => 0)))] H := hP
  have hD : va_D A [(jm, .inr (3, [.int 0, .long 0, .long 0, .int 0, .ref q_1, .null, .null, .null, .null, .null])), (q_1, .inl (cA_2, 86, .inl (fun _ => 0)))] := hD
  refine lv_aload_n hx hb d_M_init_12 rfl (lv_at hl 0 rfl) ?_
  refine lv_bipush (v := nI 86) hx hb d_M_init_13 (by decide +kernel) ?_
  refine va_newa (atype := .int) (ty := .int) (a0 := (86, .inl (fun _ => 0))) hx hb (hts _ (List.mem_cons_of_mem _ m_55)) rfl hK hP hD hS hA (fun _ => rfl) (nI_pos (by omega)) (nI_clamp (by omega)) (by decide) (Nat.le_of_ble_eq_true rfl) (Nat.le_of_ble_eq_true rfl) d_M_init_15 (fun q_3 cA_4 H hK hP hD hS => ?_)
  have hK : va_K (dC, dI) classes [(cA_2, .int), (cA_4, .int)] s := hK
  have hP : va_P (dC, dI) classes [(jm, .inr (3, [.int 0, .long 0, .long 0, .int 0, .ref q_1, .null, .null, .null, .null, .null])), (q_1, .inl (cA_2, 86, .inl (fun _ => 0))), (q_3, .inl (cA_4, 86, .inl (fun _ => 0)))] H := hP
  have hD : va_D A [(jm, .inr (3, [.int 0, .long 0, .long 0, .int 0, .ref q_1, .null, .null, .null, .null, .null])), (q_1, .inl (cA_2, 86, .inl (fun _ => 0))), (q_3, .inl (cA_4, 86, .inl (fun _ => 0)))] := hD
  refine W.cs (cells' := 2) (slots' := 172) rfl rfl ?_
  refine va_putF (D := (dC, dI)) (ci := 3) (v := .ref q_3) (ty := .array .int) (C := R_M) (T := F_M) (N := 10) hx hb hts (lay_M _) ft_M tok_M nok_M hown hK hP hD hS 0 rfl rfl 5 (by decide) (hts _ (List.mem_cons_of_mem _ m_341)) (fun _ h9 => h9) rfl hin rfl (by decide +kernel) rfl rfl (Nat.le_of_ble_eq_true rfl) d_M_init_17 (fun H locs hP hD hS => ?_)
  have hP : va_P (dC, dI) classes [(jm, .inr (3, [.int 0, .long 0, .long 0, .int 0, .ref q_1, .ref q_3, .null, .null, .null, .null])), (q_1, .inl (cA_2, 86, .inl (fun _ => 0))), (q_3, .inl (cA_4, 86, .inl (fun _ => 0)))] H := hP
  have hD : va_D A [(jm, .inr (3, [.int 0, .long 0, .long 0, .int 0, .ref q_1, .ref q_3, .null, .null, .null, .null])), (q_1, .inl (cA_2, 86, .inl (fun _ => 0))), (q_3, .inl (cA_4, 86, .inl (fun _ => 0)))] := hD
  refine lv_aload_n hx hb d_M_init_20 rfl (lv_at hl 0 rfl) ?_
  refine lv_bipush (v := nI 86) hx hb d_M_init_21 (by decide +kernel) ?_
  refine va_newa (atype := .int) (ty := .int) (a0 := (86, .inl (fun _ => 0))) hx hb (hts _ (List.mem_cons_of_mem _ m_55)) rfl hK hP hD hS hA (fun _ => rfl) (nI_pos (by omega)) (nI_clamp (by omega)) (by decide) (Nat.le_of_ble_eq_true rfl) (Nat.le_of_ble_eq_true rfl) d_M_init_23 (fun q_5 cA_6 H hK hP hD hS => ?_)
  have hK : va_K (dC, dI) classes [(cA_2, .int), (cA_4, .int), (cA_6, .int)] s := hK
  have hP : va_P (dC, dI) classes [(jm, .inr (3, [.int 0, .long 0, .long 0, .int 0, .ref q_1, .ref q_3, .null, .null, .null, .null])), (q_1, .inl (cA_2, 86, .inl (fun _ => 0))), (q_3, .inl (cA_4, 86, .inl (fun _ => 0))), (q_5, .inl (cA_6, 86, .inl (fun _ => 0)))] H := hP
  have hD : va_D A [(jm, .inr (3, [.int 0, .long 0, .long 0, .int 0, .ref q_1, .ref q_3, .null, .null, .null, .null])), (q_1, .inl (cA_2, 86, .inl (fun _ => 0))), (q_3, .inl (cA_4, 86, .inl (fun _ => 0))), (q_5, .inl (cA_6, 86, .inl (fun _ => 0)))] := hD
  refine W.cs (cells' := 3) (slots' := 258) rfl rfl ?_
  refine va_putF (D := (dC, dI)) (ci := 3) (v := .ref q_5) (ty := .array .int) (C := R_M) (T := F_M) (N := 10) hx hb hts (lay_M _) ft_M tok_M nok_M hown hK hP hD hS 0 rfl rfl 6 (by decide) (hts _ (List.mem_cons_of_mem _ m_342)) (fun _ h9 => h9) rfl hin rfl (by decide +kernel) rfl rfl (Nat.le_of_ble_eq_true rfl) d_M_init_25 (fun H locs hP hD hS => ?_)
  have hP : va_P (dC, dI) classes [(jm, .inr (3, [.int 0, .long 0, .long 0, .int 0, .ref q_1, .ref q_3, .ref q_5, .null, .null, .null])), (q_1, .inl (cA_2, 86, .inl (fun _ => 0))), (q_3, .inl (cA_4, 86, .inl (fun _ => 0))), (q_5, .inl (cA_6, 86, .inl (fun _ => 0)))] H := hP
  have hD : va_D A [(jm, .inr (3, [.int 0, .long 0, .long 0, .int 0, .ref q_1, .ref q_3, .ref q_5, .null, .null, .null])), (q_1, .inl (cA_2, 86, .inl (fun _ => 0))), (q_3, .inl (cA_4, 86, .inl (fun _ => 0))), (q_5, .inl (cA_6, 86, .inl (fun _ => 0)))] := hD
  refine lv_aload_n hx hb d_M_init_28 rfl (lv_at hl 0 rfl) ?_
  refine lv_bipush (v := nI 43) hx hb d_M_init_29 (by decide +kernel) ?_
  refine va_newa (atype := .boolean) (ty := .boolean) (a0 := (43, .inl (fun _ => 0))) hx hb (hts _ (List.mem_cons_of_mem _ m_79)) rfl hK hP hD hS hA (fun _ => rfl) (nI_pos (by omega)) (nI_clamp (by omega)) (by decide) (Nat.le_of_ble_eq_true rfl) (Nat.le_of_ble_eq_true rfl) d_M_init_31 (fun q_7 cA_8 H hK hP hD hS => ?_)
  have hK : va_K (dC, dI) classes [(cA_2, .int), (cA_4, .int), (cA_6, .int), (cA_8, .boolean)] s := hK
  have hP : va_P (dC, dI) classes [(jm, .inr (3, [.int 0, .long 0, .long 0, .int 0, .ref q_1, .ref q_3, .ref q_5, .null, .null, .null])), (q_1, .inl (cA_2, 86, .inl (fun _ => 0))), (q_3, .inl (cA_4, 86, .inl (fun _ => 0))), (q_5, .inl (cA_6, 86, .inl (fun _ => 0))), (q_7, .inl (cA_8, 43, .inl (fun _ => 0)))] H := hP
  have hD : va_D A [(jm, .inr (3, [.int 0, .long 0, .long 0, .int 0, .ref q_1, .ref q_3, .ref q_5, .null, .null, .null])), (q_1, .inl (cA_2, 86, .inl (fun _ => 0))), (q_3, .inl (cA_4, 86, .inl (fun _ => 0))), (q_5, .inl (cA_6, 86, .inl (fun _ => 0))), (q_7, .inl (cA_8, 43, .inl (fun _ => 0)))] := hD
  refine W.cs (cells' := 4) (slots' := 301) rfl rfl ?_
  refine va_putF (D := (dC, dI)) (ci := 3) (v := .ref q_7) (ty := .array .boolean) (C := R_M) (T := F_M) (N := 10) hx hb hts (lay_M _) ft_M tok_M nok_M hown hK hP hD hS 0 rfl rfl 7 (by decide) (hts _ (List.mem_cons_of_mem _ m_343)) (fun _ h9 => h9) rfl hin rfl (by decide +kernel) rfl rfl (Nat.le_of_ble_eq_true rfl) d_M_init_33 (fun H locs hP hD hS => ?_)
  have hP : va_P (dC, dI) classes [(jm, .inr (3, [.int 0, .long 0, .long 0, .int 0, .ref q_1, .ref q_3, .ref q_5, .ref q_7, .null, .null])), (q_1, .inl (cA_2, 86, .inl (fun _ => 0))), (q_3, .inl (cA_4, 86, .inl (fun _ => 0))), (q_5, .inl (cA_6, 86, .inl (fun _ => 0))), (q_7, .inl (cA_8, 43, .inl (fun _ => 0)))] H := hP
  have hD : va_D A [(jm, .inr (3, [.int 0, .long 0, .long 0, .int 0, .ref q_1, .ref q_3, .ref q_5, .ref q_7, .null, .null])), (q_1, .inl (cA_2, 86, .inl (fun _ => 0))), (q_3, .inl (cA_4, 86, .inl (fun _ => 0))), (q_5, .inl (cA_6, 86, .inl (fun _ => 0))), (q_7, .inl (cA_8, 43, .inl (fun _ => 0)))] := hD
  refine lv_aload_n hx hb d_M_init_36 rfl (lv_at hl 0 rfl) ?_
  refine lv_sipush (v := nI 256) hx hb d_M_init_37 (by decide +kernel) ?_
  refine va_newa (atype := .boolean) (ty := .boolean) (a0 := (256, .inl (fun _ => 0))) hx hb (hts _ (List.mem_cons_of_mem _ m_79)) rfl hK hP hD hS hA (fun _ => rfl) (nI_pos (by omega)) (nI_clamp (by omega)) (by decide) (Nat.le_of_ble_eq_true rfl) (Nat.le_of_ble_eq_true rfl) d_M_init_40 (fun q_9 cA_10 H hK hP hD hS => ?_)
  have hK : va_K (dC, dI) classes [(cA_2, .int), (cA_4, .int), (cA_6, .int), (cA_8, .boolean), (cA_10, .boolean)] s := hK
  have hP : va_P (dC, dI) classes [(jm, .inr (3, [.int 0, .long 0, .long 0, .int 0, .ref q_1, .ref q_3, .ref q_5, .ref q_7, .null, .null])), (q_1, .inl (cA_2, 86, .inl (fun _ => 0))), (q_3, .inl (cA_4, 86, .inl (fun _ => 0))), (q_5, .inl (cA_6, 86, .inl (fun _ => 0))), (q_7, .inl (cA_8, 43, .inl (fun _ => 0))), (q_9, .inl (cA_10, 256, .inl (fun _ => 0)))] H := hP
  have hD : va_D A [(jm, .inr (3, [.int 0, .long 0, .long 0, .int 0, .ref q_1, .ref q_3, .ref q_5, .ref q_7, .null, .null])), (q_1, .inl (cA_2, 86, .inl (fun _ => 0))), (q_3, .inl (cA_4, 86, .inl (fun _ => 0))), (q_5, .inl (cA_6, 86, .inl (fun _ => 0))), (q_7, .inl (cA_8, 43, .inl (fun _ => 0))), (q_9, .inl (cA_10, 256, .inl (fun _ => 0)))] := hD
  refine W.cs (cells' := 5) (slots' := 557) rfl rfl ?_
  refine va_putF (D := (dC, dI)) (ci := 3) (v := .ref q_9) (ty := .array .boolean) (C := R_M) (T := F_M) (N := 10) hx hb hts (lay_M _) ft_M tok_M nok_M hown hK hP hD hS 0 rfl rfl 8 (by decide) (hts _ (List.mem_cons_of_mem _ m_344)) (fun _ h9 => h9) rfl hin rfl (by decide +kernel) rfl rfl (Nat.le_of_ble_eq_true rfl) d_M_init_42 (fun H locs hP hD hS => ?_)
  have hP : va_P (dC, dI) classes [(jm, .inr (3, [.int 0, .long 0, .long 0, .int 0, .ref q_1, .ref q_3, .ref q_5, .ref q_7, .ref q_9, .null])), (q_1, .inl (cA_2, 86, .inl (fun _ => 0))), (q_3, .inl (cA_4, 86, .inl (fun _ => 0))), (q_5, .inl (cA_6, 86, .inl (fun _ => 0))), (q_7, .inl (cA_8, 43, .inl (fun _ => 0))), (q_9, .inl (cA_10, 256, .inl (fun _ => 0)))] H := hP
  have hD : va_D A [(jm, .inr (3, [.int 0, .long 0, .long 0, .int 0, .ref q_1, .ref q_3, .ref q_5, .ref q_7, .ref q_9, .null])), (q_1, .inl (cA_2, 86, .inl (fun _ => 0))), (q_3, .inl (cA_4, 86, .inl (fun _ => 0))), (q_5, .inl (cA_6, 86, .inl (fun _ => 0))), (q_7, .inl (cA_8, 43, .inl (fun _ => 0))), (q_9, .inl (cA_10, 256, .inl (fun _ => 0)))] := hD
  refine lv_aload_n hx hb d_M_init_45 rfl (lv_at hl 0 rfl) ?_
  refine lv_bipush (v := nI 43) hx hb d_M_init_46 (by decide +kernel) ?_
  refine va_newa (atype := .boolean) (ty := .boolean) (a0 := (43, .inl (fun _ => 0))) hx hb (hts _ (List.mem_cons_of_mem _ m_79)) rfl hK hP hD hS hA (fun _ => rfl) (nI_pos (by omega)) (nI_clamp (by omega)) (by decide) (Nat.le_of_ble_eq_true rfl) (Nat.le_of_ble_eq_true rfl) d_M_init_48 (fun q_11 cA_12 H hK hP hD hS => ?_)
  have hK : va_K (dC, dI) classes [(cA_2, .int), (cA_4, .int), (cA_6, .int), (cA_8, .boolean), (cA_10, .boolean), (cA_12, .boolean)] s := hK
  have hP : va_P (dC, dI) classes [(jm, .inr (3, [.int 0, .long 0, .long 0, .int 0, .ref q_1, .ref q_3, .ref q_5, .ref q_7, .ref q_9, .null])), (q_1, .inl (cA_2, 86, .inl (fun _ => 0))), (q_3, .inl (cA_4, 86, .inl (fun _ => 0))), (q_5, .inl (cA_6, 86, .inl (fun _ => 0))), (q_7, .inl (cA_8, 43, .inl (fun _ => 0))), (q_9, .inl (cA_10, 256, .inl (fun _ => 0))), (q_11, .inl (cA_12, 43, .inl (fun _ => 0)))] H := hP
  have hD : va_D A [(jm, .inr (3, [.int 0, .long 0, .long 0, .int 0, .ref q_1, .ref q_3, .ref q_5, .ref q_7, .ref q_9, .null])), (q_1, .inl (cA_2, 86, .inl (fun _ => 0))), (q_3, .inl (cA_4, 86, .inl (fun _ => 0))), (q_5, .inl (cA_6, 86, .inl (fun _ => 0))), (q_7, .inl (cA_8, 43, .inl (fun _ => 0))), (q_9, .inl (cA_10, 256, .inl (fun _ => 0))), (q_11, .inl (cA_12, 43, .inl (fun _ => 0)))] := hD
  refine W.cs (cells' := 6) (slots' := 600) rfl rfl ?_
  refine va_putF (D := (dC, dI)) (ci := 3) (v := .ref q_11) (ty := .array .boolean) (C := R_M) (T := F_M) (N := 10) hx hb hts (lay_M _) ft_M tok_M nok_M hown hK hP hD hS 0 rfl rfl 9 (by decide) (hts _ (List.mem_cons_of_mem _ m_345)) (fun _ h9 => h9) rfl hin rfl (by decide +kernel) rfl rfl (Nat.le_of_ble_eq_true rfl) d_M_init_50 (fun H locs hP hD hS => ?_)
  have hP : va_P (dC, dI) classes [(jm, .inr (3, [.int 0, .long 0, .long 0, .int 0, .ref q_1, .ref q_3, .ref q_5, .ref q_7, .ref q_9, .ref q_11])), (q_1, .inl (cA_2, 86, .inl (fun _ => 0))), (q_3, .inl (cA_4, 86, .inl (fun _ => 0))), (q_5, .inl (cA_6, 86, .inl (fun _ => 0))), (q_7, .inl (cA_8, 43, .inl (fun _ => 0))), (q_9, .inl (cA_10, 256, .inl (fun _ => 0))), (q_11, .inl (cA_12, 43, .inl (fun _ => 0)))] H := hP
  have hD : va_D A [(jm, .inr (3, [.int 0, .long 0, .long 0, .int 0, .ref q_1, .ref q_3, .ref q_5, .ref q_7, .ref q_9, .ref q_11])), (q_1, .inl (cA_2, 86, .inl (fun _ => 0))), (q_3, .inl (cA_4, 86, .inl (fun _ => 0))), (q_5, .inl (cA_6, 86, .inl (fun _ => 0))), (q_7, .inl (cA_8, 43, .inl (fun _ => 0))), (q_9, .inl (cA_10, 256, .inl (fun _ => 0))), (q_11, .inl (cA_12, 43, .inl (fun _ => 0)))] := hD
  refine lv_aload_n hx hb d_M_init_53 rfl (lv_at hl 0 rfl) ?_
  refine lv_lload_n hx hb d_M_init_54 rfl (lv_at hl 1 rfl) ?_
  refine va_putF (D := (dC, dI)) (ci := 3) (v := .long sd) (ty := .long) (C := R_M) (T := F_M) (N := 10) hx hb hts (lay_M _) ft_M tok_M nok_M hown hK hP hD hS 0 rfl rfl 1 (by decide) (hts _ (List.mem_cons_of_mem _ m_337)) (fun _ h9 => h9) rfl hin rfl (by decide +kernel) rfl rfl (Nat.le_of_ble_eq_true rfl) d_M_init_55 (fun H locs hP hD hS => ?_)
  have hP : va_P (dC, dI) classes [(jm, .inr (3, [.int 0, .long sd, .long 0, .int 0, .ref q_1, .ref q_3, .ref q_5, .ref q_7, .ref q_9, .ref q_11])), (q_1, .inl (cA_2, 86, .inl (fun _ => 0))), (q_3, .inl (cA_4, 86, .inl (fun _ => 0))), (q_5, .inl (cA_6, 86, .inl (fun _ => 0))), (q_7, .inl (cA_8, 43, .inl (fun _ => 0))), (q_9, .inl (cA_10, 256, .inl (fun _ => 0))), (q_11, .inl (cA_12, 43, .inl (fun _ => 0)))] H := hP
  have hD : va_D A [(jm, .inr (3, [.int 0, .long sd, .long 0, .int 0, .ref q_1, .ref q_3, .ref q_5, .ref q_7, .ref q_9, .ref q_11])), (q_1, .inl (cA_2, 86, .inl (fun _ => 0))), (q_3, .inl (cA_4, 86, .inl (fun _ => 0))), (q_5, .inl (cA_6, 86, .inl (fun _ => 0))), (q_7, .inl (cA_8, 43, .inl (fun _ => 0))), (q_9, .inl (cA_10, 256, .inl (fun _ => 0))), (q_11, .inl (cA_12, 43, .inl (fun _ => 0)))] := hD
  have hP9 := hP.sub (ws' := [(jm, .inr (3, [.int 0, .long sd, .long 0, .int (nI 0), .ref q_1, .ref q_3, .ref q_5, .ref q_7, .ref q_9, .ref q_11])), (q_1, .inl (cA_2, 86, .inl (fun _ => 0))), (q_3, .inl (cA_4, 86, .inl (fun _ => 0))), (q_5, .inl (cA_6, 86, .inl (fun _ => 0))), (q_7, .inl (cA_8, 43, .inl (bF fF))), (q_9, .inl (cA_10, 256, .inl (bF fF))), (q_11, .inl (cA_12, 43, .inl (bF fF)))]) [0, 1, 2, 3, 4, 5, 6] rfl
  have hD9 := hD.sub (ws' := [(jm, .inr (3, [.int 0, .long sd, .long 0, .int (nI 0), .ref q_1, .ref q_3, .ref q_5, .ref q_7, .ref q_9, .ref q_11])), (q_1, .inl (cA_2, 86, .inl (fun _ => 0))), (q_3, .inl (cA_4, 86, .inl (fun _ => 0))), (q_5, .inl (cA_6, 86, .inl (fun _ => 0))), (q_7, .inl (cA_8, 43, .inl (bF fF))), (q_9, .inl (cA_10, 256, .inl (bF fF))), (q_11, .inl (cA_12, 43, .inl (bF fF)))]) [0, 1, 2, 3, 4, 5, 6] (by decide) rfl
  have hK9 := hK.sub (tys' := [(cA_2, .int), (cA_4, .int), (cA_6, .int), (cA_8, .boolean), (cA_10, .boolean), (cA_12, .boolean)]) [0, 1, 2, 3, 4, 5] rfl
  exact W.vret hx hb hr (fun t ht hW => ⟨⟨(q_1, q_3, q_5, q_7, q_9, q_11, cA_2, cA_4, cA_6, cA_8, cA_10, cA_12), rfl, trivial, by rw [ht]; exact hP9, va_K.moved hW.alike hK9, hD9⟩, hS.F ht⟩) hS.2.2 d_M_init_58
set_option maxHeartbeats 4000000 in
set_option maxRecDepth 100000 in
/-- reference: draw, of a size -/
theorem c_M_draw (l : Launch) (dC : Nat → ClassId) (dI : Nat → Nat → Nat) (jm ik iv ir il iy ig : Nat) (n : Nat) (th : Int32) (sd tp : Int64) (dk dv dr dl : ClassId) (K V R : Nat → Int32) (L : Nat → Bool) (z : Nat) (hz : z ≤ 40) (sz : Nat) : Met l y_M_draw w_M_draw ({ frames := 3, cells := 0, slots := 0, locals := 74 }) (wr_P dC dI [.ref jm, .int (nI z)] [(jm, .inr (3, [.int th, .long sd, .long tp, .int (nI n), .ref ik, .ref iv, .ref ir, .ref il, .ref iy, .ref ig])), (ik, .inl (dk, 86, .inl K)), (iv, .inl (dv, 86, .inl V)), (ir, .inl (dr, 86, .inl R)), (il, .inl (dl, 43, .inl (bF L)))] [(dk, .int), (dv, .int), (dr, .int), (dl, .boolean)] sz) (va_Qi (fun (r : Int32) (_ : Unit) => r = nI (z + 3)) (fun (u : Unit) => wr_B dC dI (va_A [(jm, .inr (3, [.int th, .long sd, .long tp, .int (nI n), .ref ik, .ref iv, .ref ir, .ref il, .ref iy, .ref ig])), (ik, .inl (dk, 86, .inl K)), (iv, .inl (dv, 86, .inl V)), (ir, .inl (dr, 86, .inl R)), (il, .inl (dl, 43, .inl (bF L)))] sz) [(jm, .inr (3, [.int (nI 0), .long sd, .long ((drM 0 (sd, K, V, R) (z + 3)).1), .int (nI (z + 3)), .ref ik, .ref iv, .ref ir, .ref il, .ref iy, .ref ig])), (ik, .inl (dk, 86, .inl ((drM 0 (sd, K, V, R) (z + 3)).2.1))), (iv, .inl (dv, 86, .inl ((drM 0 (sd, K, V, R) (z + 3)).2.2.1))), (ir, .inl (dr, 86, .inl ((drM 0 (sd, K, V, R) (z + 3)).2.2.2))), (il, .inl (dl, 43, .inl (bF (alF (z + 3) 43 L))))] [(dk, .int), (dv, .int), (dr, .int), (dl, .boolean)]) (va_A [(jm, .inr (3, [.int th, .long sd, .long tp, .int (nI n), .ref ik, .ref iv, .ref ir, .ref il, .ref iy, .ref ig])), (ik, .inl (dk, 86, .inl K)), (iv, .inl (dv, 86, .inl V)), (ir, .inl (dr, 86, .inl R)), (il, .inl (dl, 43, .inl (bF L)))] sz)) 0 0 (va_A [(jm, .inr (3, [.int th, .long sd, .long tp, .int (nI n), .ref ik, .ref iv, .ref ir, .ref il, .ref iy, .ref ig])), (ik, .inl (dk, 86, .inl K)), (iv, .inl (dv, 86, .inl V)), (ir, .inl (dr, 86, .inl R)), (il, .inl (dl, 43, .inl (bF L)))] sz) := by
  refine Met.ofW (cc := b_M_draw) (maxL := 2) (ret := (Option.some Jvm.ClassFile.FieldType.int)) (by decide) rfl ?_
  intro p e s m args below meth c s₁ B0 hml hv0
  obtain ⟨rfl, hsz, hP, hK, hD0, hN⟩ := hv0
  have hx := B0.exec
  have hb := B0.bytes
  have hr := B0.returns
  have hts := atoms_spec (ws := w_M_draw) B0.pre
  have hown : s.vm.findClass R_M = some m.cls := findClass_of_methodNamed B0.named
  have hlocks := B0.notSynchronized
  subst hsz
  have hD := hD0.self (sz := s.heap.size)
  generalize hAe : va_A [(jm, .inr (3, [.int th, .long sd, .long tp, .int (nI n), .ref ik, .ref iv, .ref ir, .ref il, .ref iy, .ref ig])), (ik, .inl (dk, 86, .inl K)), (iv, .inl (dv, 86, .inl V)), (ir, .inl (dr, 86, .inl R)), (il, .inl (dl, 43, .inl (bF L)))] s.heap.size = A at hD ⊢
  have hA : ∀ q : Nat, s.heap.size ≤ q → A q := fun q h => by rw [← hAe]; exact Or.inr h
  have hS : va_S A s.heap s.heap [] := va_S.rf
  have hP : va_P (dC, dI) classes [(jm, .inr (3, [.int th, .long sd, .long tp, .int (nI n), .ref ik, .ref iv, .ref ir, .ref il, .ref iy, .ref ig])), (ik, .inl (dk, 86, .inl K)), (iv, .inl (dv, 86, .inl V)), (ir, .inl (dr, 86, .inl R)), (il, .inl (dl, 43, .inl (bF L)))] s.heap := hP
  have hl := lv_entry ([.ref jm, .int (nI z)]) (n := 2) (Nat.le_of_ble_eq_true rfl)
  rw [lg_entry_eq]
  generalize (lg_sl ([.ref jm, .int (nI z)]) ++ List.replicate (2 - (lg_sl ([.ref jm, .int (nI z)])).length) Slot.unset).toArray = ls at hl ⊢
  have hl : lv_has ls 2 [(0, .ref jm), (1, .int (nI z))] := hl
  refine lv_iload_n hx hb d_M_draw_0 rfl (lv_at hl 1 rfl) ?_
  refine lv_iconst (v := nI 0) hx hb d_M_draw_1 (by decide +kernel) ?_
  refine lv_bipush (v := nI 40) hx hb d_M_draw_2 (by decide +kernel) ?_
  have hPc := hP.sub (ws' := []) [] rfl
  have hKc := hK.sub (tys' := []) [] rfl
  refine vp_callSi (W.runS (As := [.int (nI z), .int (nI 0), .int (nI 40)]) (rest := []) ⟨hx, hb, hml, hown, hts⟩ (c_M_in_ l dC dI (nI z) (nI 0) (nI 40)) (va_cwS 3 hts (g_S big_w m_375 m_376 m_4 m_377) rfl rfl rfl (by decide +kernel) ⟨Nat.le_of_ble_eq_true rfl, Nat.le_of_ble_eq_true rfl⟩) (ro_S hPc hKc hN) rfl rfl hl.1 rfl (lv_room (Nat.le_of_ble_eq_true rfl)) d_M_draw_4 ⟨Nat.le_of_ble_eq_true rfl, Nat.le_of_ble_eq_true rfl⟩) (fun r_1 er_1 => ?_)
  have er_1 := er_1.symm
  subst er_1
  refine lv_if_ne (tgt := 16) hx hb d_M_draw_7 (by decide) (fun c_7 => ?_) (fun c_7 => ?_)
  · skip
    have c_7 := bI_t c_7
    refine lv_aload_n hx hb d_M_draw_16 rfl (lv_at hl 0 rfl) ?_
    refine lv_iconst (v := nI 0) hx hb d_M_draw_17 (by decide +kernel) ?_
    refine va_put (D := (dC, dI)) (ci := 3) (v := .int (nI 0)) (ty := .int) (C := R_M) (T := F_M) (N := 10) hx hb hts (lay_M _) ft_M tok_M nok_M hown hK hP hD hS 0 rfl rfl 0 (by decide) (hts _ (List.mem_cons_of_mem _ m_336)) (fun _ h9 => h9) rfl (by decide +kernel) rfl rfl (Nat.le_of_ble_eq_true rfl) d_M_draw_18 (fun H locs hP hD hS => ?_)
    have hP : va_P (dC, dI) classes [(jm, .inr (3, [.int (nI 0), .long sd, .long tp, .int (nI n), .ref ik, .ref iv, .ref ir, .ref il, .ref iy, .ref ig])), (ik, .inl (dk, 86, .inl K)), (iv, .inl (dv, 86, .inl V)), (ir, .inl (dr, 86, .inl R)), (il, .inl (dl, 43, .inl (bF L)))] H := hP
    have hD : va_D A [(jm, .inr (3, [.int (nI 0), .long sd, .long tp, .int (nI n), .ref ik, .ref iv, .ref ir, .ref il, .ref iy, .ref ig])), (ik, .inl (dk, 86, .inl K)), (iv, .inl (dv, 86, .inl V)), (ir, .inl (dr, 86, .inl R)), (il, .inl (dl, 43, .inl (bF L)))] := hD
    refine lv_aload_n hx hb d_M_draw_21 rfl (lv_at hl 0 rfl) ?_
    refine lv_aload_n hx hb d_M_draw_22 rfl (lv_at hl 0 rfl) ?_
    refine va_get (D := (dC, dI)) (ci := 3) (v := .long sd) (C := R_M) (T := F_M) (N := 10) hx hb hts (lay_M _) hown hK hP 0 rfl rfl 1 (by decide) (hts _ (List.mem_cons_of_mem _ m_337)) (fun _ h9 => h9) rfl d_M_draw_23 ?_
    refine lv_iconst (v := nI 0) hx hb d_M_draw_26 (by decide +kernel) ?_
    refine lv_iload_n hx hb d_M_draw_27 rfl (lv_at hl 1 rfl) ?_
    have hPc := hP.sub (ws' := [(jm, .inr (3, [.int (nI 0), .long sd, .long tp, .int (nI n), .ref ik, .ref iv, .ref ir, .ref il, .ref iy, .ref ig])), (ik, .inl (dk, 86, .inl K)), (iv, .inl (dv, 86, .inl V)), (ir, .inl (dr, 86, .inl R))]) [0, 1, 2, 3] rfl
    have hKc := hK.sub (tys' := [(dk, .int), (dv, .int), (dr, .int)]) [0, 1, 2] rfl
    have hDc := hD.sub (ws' := [(jm, .inr (3, [.int (nI 0), .long sd, .long tp, .int (nI n), .ref ik, .ref iv, .ref ir, .ref il, .ref iy, .ref ig])), (ik, .inl (dk, 86, .inl K)), (iv, .inl (dv, 86, .inl V)), (ir, .inl (dr, 86, .inl R))]) [0, 1, 2, 3] (by decide) rfl
    have hFc := va_free (wc := [(jm, .inr (3, [.int (nI 0), .long sd, .long tp, .int (nI n), .ref ik, .ref iv, .ref ir, .ref il, .ref iy, .ref ig])), (ik, .inl (dk, 86, .inl K)), (iv, .inl (dv, 86, .inl V)), (ir, .inl (dr, 86, .inl R))]) hD hS hA [0, 1, 2, 3] rfl
    refine va_callv (va_runV (As := [.long sd, .int (nI 0), .int (nI z)]) (rest := []) ⟨hx, hb, hml, hown, hts⟩ (c_M_draws l dC dI jm ik iv ir il iy ig n (nI 0) sd tp dk dv dr K V R sd 0 z (by decide) hz _) (cwV 3 hts (g_V big_w m_382 m_384 ms_22 m_4 m_385) rfl rfl rfl (by decide +kernel) ⟨Nat.le_of_ble_eq_true rfl, Nat.le_of_ble_eq_true rfl⟩) (wr_V hPc hKc hDc hN (va_recv hKc hPc (ci := 3) (q0 := 0) rfl rfl)) rfl rfl hl.1 rfl (lv_room (Nat.le_of_ble_eq_true rfl)) d_M_draw_28 ⟨Nat.le_of_ble_eq_true rfl, Nat.le_of_ble_eq_true rfl⟩) hS (fun q _ h => hFc q h) hFc (fun u t H1 locs ht hvm hw hB hz1 hk1 hS => ?_)
    obtain ⟨hP1, hK1, hD1⟩ := hB
    rw [ht] at hP1
    obtain ⟨hP, hD⟩ := va_join (wr := [(il, .inl (dl, 43, .inl (bF L)))]) (w1 := [(jm, .inr (3, [.int (nI 0), .long sd, .long ((drM 0 (sd, K, V, R) (z + 3)).1), .int (nI n), .ref ik, .ref iv, .ref ir, .ref il, .ref iy, .ref ig])), (ik, .inl (dk, 86, .inl ((drM 0 (sd, K, V, R) (z + 3)).2.1))), (iv, .inl (dv, 86, .inl ((drM 0 (sd, K, V, R) (z + 3)).2.2.1))), (ir, .inl (dr, 86, .inl ((drM 0 (sd, K, V, R) (z + 3)).2.2.2)))]) hP hD [0, 1, 2, 3] [4] rfl rfl (by decide) (by decide) hk1 hFc hP1 hD1
    generalize H1 = H at hP hS ⊢
    have hP : va_P (dC, dI) classes [(il, .inl (dl, 43, .inl (bF L))), (jm, .inr (3, [.int (nI 0), .long sd, .long ((drM 0 (sd, K, V, R) (z + 3)).1), .int (nI n), .ref ik, .ref iv, .ref ir, .ref il, .ref iy, .ref ig])), (ik, .inl (dk, 86, .inl ((drM 0 (sd, K, V, R) (z + 3)).2.1))), (iv, .inl (dv, 86, .inl ((drM 0 (sd, K, V, R) (z + 3)).2.2.1))), (ir, .inl (dr, 86, .inl ((drM 0 (sd, K, V, R) (z + 3)).2.2.2)))] H := hP
    have hD : va_D A [(il, .inl (dl, 43, .inl (bF L))), (jm, .inr (3, [.int (nI 0), .long sd, .long ((drM 0 (sd, K, V, R) (z + 3)).1), .int (nI n), .ref ik, .ref iv, .ref ir, .ref il, .ref iy, .ref ig])), (ik, .inl (dk, 86, .inl ((drM 0 (sd, K, V, R) (z + 3)).2.1))), (iv, .inl (dv, 86, .inl ((drM 0 (sd, K, V, R) (z + 3)).2.2.1))), (ir, .inl (dr, 86, .inl ((drM 0 (sd, K, V, R) (z + 3)).2.2.2)))] := hD
    refine lv_aload_n hx hb d_M_draw_31 rfl (lv_at hl 0 rfl) ?_
    refine lv_iload_n hx hb d_M_draw_32 rfl (lv_at hl 1 rfl) ?_
    refine lv_iconst (v := nI 3) hx hb d_M_draw_33 (by decide +kernel) ?_
    refine lv_iadd hx hb d_M_draw_34 ?_
    refine lv_topi (fun w_3 ew_3 => ?_)
    have ew_3 : (nI (z + 3)) = w_3 := (ew_3.trans (nI_add _ _)).symm
    subst ew_3
    refine va_put (D := (dC, dI)) (ci := 3) (v := .int (nI (z + 3))) (ty := .int) (C := R_M) (T := F_M) (N := 10) hx hb hts (lay_M _) ft_M tok_M nok_M hown hK hP hD hS 1 rfl rfl 3 (by decide) (hts _ (List.mem_cons_of_mem _ m_339)) (fun _ h9 => h9) rfl (by decide +kernel) rfl rfl (Nat.le_of_ble_eq_true rfl) d_M_draw_35 (fun H locs hP hD hS => ?_)
    have hP : va_P (dC, dI) classes [(il, .inl (dl, 43, .inl (bF L))), (jm, .inr (3, [.int (nI 0), .long sd, .long ((drM 0 (sd, K, V, R) (z + 3)).1), .int (nI (z + 3)), .ref ik, .ref iv, .ref ir, .ref il, .ref iy, .ref ig])), (ik, .inl (dk, 86, .inl ((drM 0 (sd, K, V, R) (z + 3)).2.1))), (iv, .inl (dv, 86, .inl ((drM 0 (sd, K, V, R) (z + 3)).2.2.1))), (ir, .inl (dr, 86, .inl ((drM 0 (sd, K, V, R) (z + 3)).2.2.2)))] H := hP
    have hD : va_D A [(il, .inl (dl, 43, .inl (bF L))), (jm, .inr (3, [.int (nI 0), .long sd, .long ((drM 0 (sd, K, V, R) (z + 3)).1), .int (nI (z + 3)), .ref ik, .ref iv, .ref ir, .ref il, .ref iy, .ref ig])), (ik, .inl (dk, 86, .inl ((drM 0 (sd, K, V, R) (z + 3)).2.1))), (iv, .inl (dv, 86, .inl ((drM 0 (sd, K, V, R) (z + 3)).2.2.1))), (ir, .inl (dr, 86, .inl ((drM 0 (sd, K, V, R) (z + 3)).2.2.2)))] := hD
    refine lv_aload_n hx hb d_M_draw_38 rfl (lv_at hl 0 rfl) ?_
    have hPc := hP.sub (ws' := [(jm, .inr (3, [.int (nI 0), .long sd, .long ((drM 0 (sd, K, V, R) (z + 3)).1), .int (nI (z + 3)), .ref ik, .ref iv, .ref ir, .ref il, .ref iy, .ref ig])), (il, .inl (dl, 43, .inl (bF L)))]) [1, 0] rfl
    have hKc := hK.sub (tys' := [(dl, .boolean)]) [3] rfl
    have hDc := hD.sub (ws' := [(jm, .inr (3, [.int (nI 0), .long sd, .long ((drM 0 (sd, K, V, R) (z + 3)).1), .int (nI (z + 3)), .ref ik, .ref iv, .ref ir, .ref il, .ref iy, .ref ig])), (il, .inl (dl, 43, .inl (bF L)))]) [1, 0] (by decide) rfl
    have hFc := va_free (wc := [(jm, .inr (3, [.int (nI 0), .long sd, .long ((drM 0 (sd, K, V, R) (z + 3)).1), .int (nI (z + 3)), .ref ik, .ref iv, .ref ir, .ref il, .ref iy, .ref ig])), (il, .inl (dl, 43, .inl (bF L)))]) hD hS hA [1, 0] rfl
    refine va_callv (va_runV (As := []) (rest := []) ⟨hx, hb, hml, hown, hts⟩ (c_M_all l dC dI jm ik iv ir il iy ig (z + 3) (nI 0) sd ((drM 0 (sd, K, V, R) (z + 3)).1) dl L (by first | assumption | omega) _) (cwV 0 hts (g_V big_w m_399 m_401 ms_25 m_4 m_402) rfl rfl rfl (by decide +kernel) ⟨Nat.le_of_ble_eq_true rfl, Nat.le_of_ble_eq_true rfl⟩) (wr_V hPc hKc hDc hN (va_recv hKc hPc (ci := 3) (q0 := 0) rfl rfl)) rfl rfl hl.1 rfl (lv_room (Nat.le_of_ble_eq_true rfl)) d_M_draw_39 ⟨Nat.le_of_ble_eq_true rfl, Nat.le_of_ble_eq_true rfl⟩) hS (fun q _ h => hFc q h) hFc (fun u t H1 locs ht hvm hw hB hz1 hk1 hS => ?_)
    obtain ⟨hP1, hK1, hD1⟩ := hB
    rw [ht] at hP1
    obtain ⟨hP, hD⟩ := va_join (wr := [(ik, .inl (dk, 86, .inl ((drM 0 (sd, K, V, R) (z + 3)).2.1))), (iv, .inl (dv, 86, .inl ((drM 0 (sd, K, V, R) (z + 3)).2.2.1))), (ir, .inl (dr, 86, .inl ((drM 0 (sd, K, V, R) (z + 3)).2.2.2)))]) (w1 := [(jm, .inr (3, [.int (nI 0), .long sd, .long ((drM 0 (sd, K, V, R) (z + 3)).1), .int (nI (z + 3)), .ref ik, .ref iv, .ref ir, .ref il, .ref iy, .ref ig])), (il, .inl (dl, 43, .inl (bF (alF (z + 3) 43 L))))]) hP hD [1, 0] [2, 3, 4] rfl rfl (by decide) (by decide) hk1 hFc hP1 hD1
    generalize H1 = H at hP hS ⊢
    have hP : va_P (dC, dI) classes [(ik, .inl (dk, 86, .inl ((drM 0 (sd, K, V, R) (z + 3)).2.1))), (iv, .inl (dv, 86, .inl ((drM 0 (sd, K, V, R) (z + 3)).2.2.1))), (ir, .inl (dr, 86, .inl ((drM 0 (sd, K, V, R) (z + 3)).2.2.2))), (jm, .inr (3, [.int (nI 0), .long sd, .long ((drM 0 (sd, K, V, R) (z + 3)).1), .int (nI (z + 3)), .ref ik, .ref iv, .ref ir, .ref il, .ref iy, .ref ig])), (il, .inl (dl, 43, .inl (bF (alF (z + 3) 43 L))))] H := hP
    have hD : va_D A [(ik, .inl (dk, 86, .inl ((drM 0 (sd, K, V, R) (z + 3)).2.1))), (iv, .inl (dv, 86, .inl ((drM 0 (sd, K, V, R) (z + 3)).2.2.1))), (ir, .inl (dr, 86, .inl ((drM 0 (sd, K, V, R) (z + 3)).2.2.2))), (jm, .inr (3, [.int (nI 0), .long sd, .long ((drM 0 (sd, K, V, R) (z + 3)).1), .int (nI (z + 3)), .ref ik, .ref iv, .ref ir, .ref il, .ref iy, .ref ig])), (il, .inl (dl, 43, .inl (bF (alF (z + 3) 43 L))))] := hD
    refine lv_aload_n hx hb d_M_draw_42 rfl (lv_at hl 0 rfl) ?_
    refine va_get (D := (dC, dI)) (ci := 3) (v := .int (nI (z + 3))) (C := R_M) (T := F_M) (N := 10) hx hb hts (lay_M _) hown hK hP 3 rfl rfl 3 (by decide) (hts _ (List.mem_cons_of_mem _ m_339)) (fun _ h9 => h9) rfl d_M_draw_43 ?_
    have hP9 := hP.sub (ws' := [(jm, .inr (3, [.int (nI 0), .long sd, .long ((drM 0 (sd, K, V, R) (z + 3)).1), .int (nI (z + 3)), .ref ik, .ref iv, .ref ir, .ref il, .ref iy, .ref ig])), (ik, .inl (dk, 86, .inl ((drM 0 (sd, K, V, R) (z + 3)).2.1))), (iv, .inl (dv, 86, .inl ((drM 0 (sd, K, V, R) (z + 3)).2.2.1))), (ir, .inl (dr, 86, .inl ((drM 0 (sd, K, V, R) (z + 3)).2.2.2))), (il, .inl (dl, 43, .inl (bF (alF (z + 3) 43 L))))]) [3, 0, 1, 2, 4] rfl
    have hD9 := hD.sub (ws' := [(jm, .inr (3, [.int (nI 0), .long sd, .long ((drM 0 (sd, K, V, R) (z + 3)).1), .int (nI (z + 3)), .ref ik, .ref iv, .ref ir, .ref il, .ref iy, .ref ig])), (ik, .inl (dk, 86, .inl ((drM 0 (sd, K, V, R) (z + 3)).2.1))), (iv, .inl (dv, 86, .inl ((drM 0 (sd, K, V, R) (z + 3)).2.2.1))), (ir, .inl (dr, 86, .inl ((drM 0 (sd, K, V, R) (z + 3)).2.2.2))), (il, .inl (dl, 43, .inl (bF (alF (z + 3) 43 L))))]) [3, 0, 1, 2, 4] (by decide) rfl
    have hK9 := hK.sub (tys' := [(dk, .int), (dv, .int), (dr, .int), (dl, .boolean)]) [0, 1, 2, 3] rfl
    exact W.iret (v := nI (z + 3)) hx hb hr (fun t ht hW => ⟨⟨nI (z + 3), (), rfl, rfl, by rw [ht]; exact hP9, va_K.moved hW.alike hK9, hD9⟩, hS.F ht⟩) hS.2.2 d_M_draw_46
  · skip
    have c_7 := bI_f c_7
    exact absurd c_7 (by rw [in_sz hz]; decide)
set_option maxHeartbeats 4000000 in
set_option maxRecDepth 100000 in
/-- reference: draw, of no size -/
theorem c_M_drawx (l : Launch) (dC : Nat → ClassId) (dI : Nat → Nat → Nat) (jm ik iv ir il iy ig : Nat) (n : Nat) (th : Int32) (sd tp : Int64) (p0 : Int32) (hex : szB p0 = false) (sz : Nat) : Met l y_M_draw w_M_draw ({ frames := 3, cells := 0, slots := 0, locals := 74 }) (wr_P dC dI [.ref jm, .int p0] [(jm, .inr (3, [.int th, .long sd, .long tp, .int (nI n), .ref ik, .ref iv, .ref ir, .ref il, .ref iy, .ref ig]))] [] sz) (va_Qi (fun (r : Int32) (_ : Unit) => r = nI 0) (fun (u : Unit) => wr_B dC dI (va_A [(jm, .inr (3, [.int th, .long sd, .long tp, .int (nI n), .ref ik, .ref iv, .ref ir, .ref il, .ref iy, .ref ig]))] sz) [(jm, .inr (3, [.int (nI 1), .long sd, .long tp, .int (nI n), .ref ik, .ref iv, .ref ir, .ref il, .ref iy, .ref ig]))] []) (va_A [(jm, .inr (3, [.int th, .long sd, .long tp, .int (nI n), .ref ik, .ref iv, .ref ir, .ref il, .ref iy, .ref ig]))] sz)) 0 0 (va_A [(jm, .inr (3, [.int th, .long sd, .long tp, .int (nI n), .ref ik, .ref iv, .ref ir, .ref il, .ref iy, .ref ig]))] sz) := by
  refine Met.ofW (cc := b_M_draw) (maxL := 2) (ret := (Option.some Jvm.ClassFile.FieldType.int)) (by decide) rfl ?_
  intro p e s m args below meth c s₁ B0 hml hv0
  obtain ⟨rfl, hsz, hP, hK, hD0, hN⟩ := hv0
  have hx := B0.exec
  have hb := B0.bytes
  have hr := B0.returns
  have hts := atoms_spec (ws := w_M_draw) B0.pre
  have hown : s.vm.findClass R_M = some m.cls := findClass_of_methodNamed B0.named
  have hlocks := B0.notSynchronized
  subst hsz
  have hD := hD0.self (sz := s.heap.size)
  generalize hAe : va_A [(jm, .inr (3, [.int th, .long sd, .long tp, .int (nI n), .ref ik, .ref iv, .ref ir, .ref il, .ref iy, .ref ig]))] s.heap.size = A at hD ⊢
  have hA : ∀ q : Nat, s.heap.size ≤ q → A q := fun q h => by rw [← hAe]; exact Or.inr h
  have hS : va_S A s.heap s.heap [] := va_S.rf
  have hP : va_P (dC, dI) classes [(jm, .inr (3, [.int th, .long sd, .long tp, .int (nI n), .ref ik, .ref iv, .ref ir, .ref il, .ref iy, .ref ig]))] s.heap := hP
  have hl := lv_entry ([.ref jm, .int p0]) (n := 2) (Nat.le_of_ble_eq_true rfl)
  rw [lg_entry_eq]
  generalize (lg_sl ([.ref jm, .int p0]) ++ List.replicate (2 - (lg_sl ([.ref jm, .int p0])).length) Slot.unset).toArray = ls at hl ⊢
  have hl : lv_has ls 2 [(0, .ref jm), (1, .int p0)] := hl
  refine lv_iload_n hx hb d_M_draw_0 rfl (lv_at hl 1 rfl) ?_
  refine lv_iconst (v := nI 0) hx hb d_M_draw_1 (by decide +kernel) ?_
  refine lv_bipush (v := nI 40) hx hb d_M_draw_2 (by decide +kernel) ?_
  have hPc := hP.sub (ws' := []) [] rfl
  have hKc := hK.sub (tys' := []) [] rfl
  refine vp_callSi (W.runS (As := [.int p0, .int (nI 0), .int (nI 40)]) (rest := []) ⟨hx, hb, hml, hown, hts⟩ (c_M_in_ l dC dI p0 (nI 0) (nI 40)) (va_cwS 3 hts (g_S big_w m_375 m_376 m_4 m_377) rfl rfl rfl (by decide +kernel) ⟨Nat.le_of_ble_eq_true rfl, Nat.le_of_ble_eq_true rfl⟩) (ro_S hPc hKc hN) rfl rfl hl.1 rfl (lv_room (Nat.le_of_ble_eq_true rfl)) d_M_draw_4 ⟨Nat.le_of_ble_eq_true rfl, Nat.le_of_ble_eq_true rfl⟩) (fun r_1 er_1 => ?_)
  have er_1 := er_1.symm
  subst er_1
  refine lv_if_ne (tgt := 16) hx hb d_M_draw_7 (by decide) (fun c_7 => ?_) (fun c_7 => ?_)
  · skip
    have c_7 := bI_t c_7
    exact absurd c_7 (by rw [show inB p0 (nI 0) (nI 40) = false from hex]; decide)
  · skip
    have c_7 := bI_f c_7
    refine lv_aload_n hx hb d_M_draw_10 rfl (lv_at hl 0 rfl) ?_
    refine lv_iconst (v := nI 1) hx hb d_M_draw_11 (by decide +kernel) ?_
    have hPc := hP.sub (ws' := [(jm, .inr (3, [.int th, .long sd, .long tp, .int (nI n), .ref ik, .ref iv, .ref ir, .ref il, .ref iy, .ref ig]))]) [0] rfl
    have hKc := hK.sub (tys' := []) [] rfl
    have hDc := hD.sub (ws' := [(jm, .inr (3, [.int th, .long sd, .long tp, .int (nI n), .ref ik, .ref iv, .ref ir, .ref il, .ref iy, .ref ig]))]) [0] (by decide) rfl
    have hFc := va_free (wc := [(jm, .inr (3, [.int th, .long sd, .long tp, .int (nI n), .ref ik, .ref iv, .ref ir, .ref il, .ref iy, .ref ig]))]) hD hS hA [0] rfl
    refine va_calli (va_runV (As := [.int (nI 1)]) (rest := []) ⟨hx, hb, hml, hown, hts⟩ (c_M_refuse l dC dI jm ik iv ir il iy ig n th sd tp (nI 1) _) (cwV 1 hts (g_V big_w m_378 m_380 ms_21 m_4 m_381) rfl rfl rfl (by decide +kernel) ⟨Nat.le_of_ble_eq_true rfl, Nat.le_of_ble_eq_true rfl⟩) (wr_V hPc hKc hDc hN (va_recv hKc hPc (ci := 3) (q0 := 0) rfl rfl)) rfl rfl hl.1 rfl (lv_room (Nat.le_of_ble_eq_true rfl)) d_M_draw_12 ⟨Nat.le_of_ble_eq_true rfl, Nat.le_of_ble_eq_true rfl⟩) hS (fun q _ h => hFc q h) hFc (fun r_2 u t H1 locs ht hvm hw hB hz1 hk1 hS => ?_)
    obtain ⟨hP1, hK1, hD1⟩ := hB
    rw [ht] at hP1
    obtain ⟨hP, hD⟩ := va_join (wr := []) (w1 := [(jm, .inr (3, [.int (nI 1), .long sd, .long tp, .int (nI n), .ref ik, .ref iv, .ref ir, .ref il, .ref iy, .ref ig]))]) hP hD [0] [] rfl rfl (by decide) (by decide) hk1 hFc hP1 hD1
    generalize H1 = H at hP hS ⊢
    have hP : va_P (dC, dI) classes [(jm, .inr (3, [.int (nI 1), .long sd, .long tp, .int (nI n), .ref ik, .ref iv, .ref ir, .ref il, .ref iy, .ref ig]))] H := hP
    have hD : va_D A [(jm, .inr (3, [.int (nI 1), .long sd, .long tp, .int (nI n), .ref ik, .ref iv, .ref ir, .ref il, .ref iy, .ref ig]))] := hD
    have hw := hw.symm
    subst hw
    have hP9 := hP.sub (ws' := [(jm, .inr (3, [.int (nI 1), .long sd, .long tp, .int (nI n), .ref ik, .ref iv, .ref ir, .ref il, .ref iy, .ref ig]))]) [0] rfl
    have hD9 := hD.sub (ws' := [(jm, .inr (3, [.int (nI 1), .long sd, .long tp, .int (nI n), .ref ik, .ref iv, .ref ir, .ref il, .ref iy, .ref ig]))]) [0] (by decide) rfl
    have hK9 := hK.sub (tys' := []) [] rfl
    exact W.iret (v := nI 0) hx hb hr (fun t ht hW => ⟨⟨nI 0, (), rfl, rfl, by rw [ht]; exact hP9, va_K.moved hW.alike hK9, hD9⟩, hS.F ht⟩) hS.2.2 d_M_draw_15
set_option maxHeartbeats 4000000 in
set_option maxRecDepth 100000 in
/-- reference: same, of a size -/
theorem c_M_same (l : Launch) (dC : Nat → ClassId) (dI : Nat → Nat → Nat) (jm ik iv ir il iy ig : Nat) (n : Nat) (th : Int32) (sd tp : Int64) (dk dv dr : ClassId) (K V R : Nat → Int32) (ot : Int64) (z : Nat) (hn : n ≤ 43) (hz : z ≤ 40) (sz : Nat) : Met l y_M_same w_M_same ({ frames := 3, cells := 0, slots := 0, locals := 74 }) (wr_P dC dI [.ref jm, .long ot, .int (nI z)] [(jm, .inr (3, [.int th, .long sd, .long tp, .int (nI n), .ref ik, .ref iv, .ref ir, .ref il, .ref iy, .ref ig])), (ik, .inl (dk, 86, .inl K)), (iv, .inl (dv, 86, .inl V)), (ir, .inl (dr, 86, .inl R))] [(dk, .int), (dv, .int), (dr, .int)] sz) (va_Qi (fun (r : Int32) (_ : Unit) => r = bI (decide (n = z + 3) && alB (eq3 (drM 43 (ot, K, V, R) (z + 3)).2.1 (drM 43 (ot, K, V, R) (z + 3)).2.2.1 (drM 43 (ot, K, V, R) (z + 3)).2.2.2 (shf (drM 43 (ot, K, V, R) (z + 3)).2.1 43) (shf (drM 43 (ot, K, V, R) (z + 3)).2.2.1 43) (shf (drM 43 (ot, K, V, R) (z + 3)).2.2.2 43)) n)) (fun (u : Unit) => wr_B dC dI (va_A [(jm, .inr (3, [.int th, .long sd, .long tp, .int (nI n), .ref ik, .ref iv, .ref ir, .ref il, .ref iy, .ref ig])), (ik, .inl (dk, 86, .inl K)), (iv, .inl (dv, 86, .inl V)), (ir, .inl (dr, 86, .inl R))] sz) [(jm, .inr (3, [.int (nI 0), .long sd, .long ((drM 43 (ot, K, V, R) (z + 3)).1), .int (nI n), .ref ik, .ref iv, .ref ir, .ref il, .ref iy, .ref ig])), (ik, .inl (dk, 86, .inl ((drM 43 (ot, K, V, R) (z + 3)).2.1))), (iv, .inl (dv, 86, .inl ((drM 43 (ot, K, V, R) (z + 3)).2.2.1))), (ir, .inl (dr, 86, .inl ((drM 43 (ot, K, V, R) (z + 3)).2.2.2)))] [(dk, .int), (dv, .int), (dr, .int)]) (va_A [(jm, .inr (3, [.int th, .long sd, .long tp, .int (nI n), .ref ik, .ref iv, .ref ir, .ref il, .ref iy, .ref ig])), (ik, .inl (dk, 86, .inl K)), (iv, .inl (dv, 86, .inl V)), (ir, .inl (dr, 86, .inl R))] sz)) 0 0 (va_A [(jm, .inr (3, [.int th, .long sd, .long tp, .int (nI n), .ref ik, .ref iv, .ref ir, .ref il, .ref iy, .ref ig])), (ik, .inl (dk, 86, .inl K)), (iv, .inl (dv, 86, .inl V)), (ir, .inl (dr, 86, .inl R))] sz) := by
  refine Met.ofW (cc := b_M_same) (maxL := 6) (ret := (Option.some Jvm.ClassFile.FieldType.boolean)) (by decide) rfl ?_
  intro p e s m args below meth c s₁ B0 hml hv0
  obtain ⟨rfl, hsz, hP, hK, hD0, hN⟩ := hv0
  have hx := B0.exec
  have hb := B0.bytes
  have hr := B0.returns
  have hts := atoms_spec (ws := w_M_same) B0.pre
  have hown : s.vm.findClass R_M = some m.cls := findClass_of_methodNamed B0.named
  have hlocks := B0.notSynchronized
  subst hsz
  have hD := hD0.self (sz := s.heap.size)
  generalize hAe : va_A [(jm, .inr (3, [.int th, .long sd, .long tp, .int (nI n), .ref ik, .ref iv, .ref ir, .ref il, .ref iy, .ref ig])), (ik, .inl (dk, 86, .inl K)), (iv, .inl (dv, 86, .inl V)), (ir, .inl (dr, 86, .inl R))] s.heap.size = A at hD ⊢
  have hA : ∀ q : Nat, s.heap.size ≤ q → A q := fun q h => by rw [← hAe]; exact Or.inr h
  have hS : va_S A s.heap s.heap [] := va_S.rf
  have hP : va_P (dC, dI) classes [(jm, .inr (3, [.int th, .long sd, .long tp, .int (nI n), .ref ik, .ref iv, .ref ir, .ref il, .ref iy, .ref ig])), (ik, .inl (dk, 86, .inl K)), (iv, .inl (dv, 86, .inl V)), (ir, .inl (dr, 86, .inl R))] s.heap := hP
  have hl := lv_entry ([.ref jm, .long ot, .int (nI z)]) (n := 6) (Nat.le_of_ble_eq_true rfl)
  rw [lg_entry_eq]
  generalize (lg_sl ([.ref jm, .long ot, .int (nI z)]) ++ List.replicate (6 - (lg_sl ([.ref jm, .long ot, .int (nI z)])).length) Slot.unset).toArray = ls at hl ⊢
  have hl : lv_has ls 6 [(0, .ref jm), (1, .long ot), (3, .int (nI z))] := hl
  refine lv_iload_n hx hb d_M_same_0 rfl (lv_at hl 2 rfl) ?_
  refine lv_iconst (v := nI 0) hx hb d_M_same_1 (by decide +kernel) ?_
  refine lv_bipush (v := nI 40) hx hb d_M_same_2 (by decide +kernel) ?_
  have hPc := hP.sub (ws' := []) [] rfl
  have hKc := hK.sub (tys' := []) [] rfl
  refine vp_callSi (W.runS (As := [.int (nI z), .int (nI 0), .int (nI 40)]) (rest := []) ⟨hx, hb, hml, hown, hts⟩ (c_M_in_ l dC dI (nI z) (nI 0) (nI 40)) (va_cwS 3 hts (g_S big_w m_375 m_376 m_4 m_377) rfl rfl rfl (by decide +kernel) ⟨Nat.le_of_ble_eq_true rfl, Nat.le_of_ble_eq_true rfl⟩) (ro_S hPc hKc hN) rfl rfl hl.1 rfl (lv_room (Nat.le_of_ble_eq_true rfl)) d_M_same_4 ⟨Nat.le_of_ble_eq_true rfl, Nat.le_of_ble_eq_true rfl⟩) (fun r_1 er_1 => ?_)
  have er_1 := er_1.symm
  subst er_1
  refine lv_if_ne (tgt := 17) hx hb d_M_same_7 (by decide) (fun c_7 => ?_) (fun c_7 => ?_)
  · skip
    have c_7 := bI_t c_7
    refine lv_aload_n hx hb d_M_same_17 rfl (lv_at hl 0 rfl) ?_
    refine lv_iconst (v := nI 0) hx hb d_M_same_18 (by decide +kernel) ?_
    refine va_put (D := (dC, dI)) (ci := 3) (v := .int (nI 0)) (ty := .int) (C := R_M) (T := F_M) (N := 10) hx hb hts (lay_M _) ft_M tok_M nok_M hown hK hP hD hS 0 rfl rfl 0 (by decide) (hts _ (List.mem_cons_of_mem _ m_336)) (fun _ h9 => h9) rfl (by decide +kernel) rfl rfl (Nat.le_of_ble_eq_true rfl) d_M_same_19 (fun H locs hP hD hS => ?_)
    have hP : va_P (dC, dI) classes [(jm, .inr (3, [.int (nI 0), .long sd, .long tp, .int (nI n), .ref ik, .ref iv, .ref ir, .ref il, .ref iy, .ref ig])), (ik, .inl (dk, 86, .inl K)), (iv, .inl (dv, 86, .inl V)), (ir, .inl (dr, 86, .inl R))] H := hP
    have hD : va_D A [(jm, .inr (3, [.int (nI 0), .long sd, .long tp, .int (nI n), .ref ik, .ref iv, .ref ir, .ref il, .ref iy, .ref ig])), (ik, .inl (dk, 86, .inl K)), (iv, .inl (dv, 86, .inl V)), (ir, .inl (dr, 86, .inl R))] := hD
    refine lv_aload_n hx hb d_M_same_22 rfl (lv_at hl 0 rfl) ?_
    refine lv_lload_n hx hb d_M_same_23 rfl (lv_at hl 1 rfl) ?_
    refine lv_bipush (v := nI 43) hx hb d_M_same_24 (by decide +kernel) ?_
    refine lv_iload_n hx hb d_M_same_26 rfl (lv_at hl 2 rfl) ?_
    have hPc := hP.sub (ws' := [(jm, .inr (3, [.int (nI 0), .long sd, .long tp, .int (nI n), .ref ik, .ref iv, .ref ir, .ref il, .ref iy, .ref ig])), (ik, .inl (dk, 86, .inl K)), (iv, .inl (dv, 86, .inl V)), (ir, .inl (dr, 86, .inl R))]) [0, 1, 2, 3] rfl
    have hKc := hK.sub (tys' := [(dk, .int), (dv, .int), (dr, .int)]) [0, 1, 2] rfl
    have hDc := hD.sub (ws' := [(jm, .inr (3, [.int (nI 0), .long sd, .long tp, .int (nI n), .ref ik, .ref iv, .ref ir, .ref il, .ref iy, .ref ig])), (ik, .inl (dk, 86, .inl K)), (iv, .inl (dv, 86, .inl V)), (ir, .inl (dr, 86, .inl R))]) [0, 1, 2, 3] (by decide) rfl
    have hFc := va_free (wc := [(jm, .inr (3, [.int (nI 0), .long sd, .long tp, .int (nI n), .ref ik, .ref iv, .ref ir, .ref il, .ref iy, .ref ig])), (ik, .inl (dk, 86, .inl K)), (iv, .inl (dv, 86, .inl V)), (ir, .inl (dr, 86, .inl R))]) hD hS hA [0, 1, 2, 3] rfl
    refine va_callv (va_runV (As := [.long ot, .int (nI 43), .int (nI z)]) (rest := []) ⟨hx, hb, hml, hown, hts⟩ (c_M_draws l dC dI jm ik iv ir il iy ig n (nI 0) sd tp dk dv dr K V R ot 43 z (by decide) hz _) (cwV 3 hts (g_V big_w m_382 m_384 ms_22 m_4 m_385) rfl rfl rfl (by decide +kernel) ⟨Nat.le_of_ble_eq_true rfl, Nat.le_of_ble_eq_true rfl⟩) (wr_V hPc hKc hDc hN (va_recv hKc hPc (ci := 3) (q0 := 0) rfl rfl)) rfl rfl hl.1 rfl (lv_room (Nat.le_of_ble_eq_true rfl)) d_M_same_27 ⟨Nat.le_of_ble_eq_true rfl, Nat.le_of_ble_eq_true rfl⟩) hS (fun q _ h => hFc q h) hFc (fun u t H1 locs ht hvm hw hB hz1 hk1 hS => ?_)
    obtain ⟨hP1, hK1, hD1⟩ := hB
    rw [ht] at hP1
    obtain ⟨hP, hD⟩ := va_join (wr := []) (w1 := [(jm, .inr (3, [.int (nI 0), .long sd, .long ((drM 43 (ot, K, V, R) (z + 3)).1), .int (nI n), .ref ik, .ref iv, .ref ir, .ref il, .ref iy, .ref ig])), (ik, .inl (dk, 86, .inl ((drM 43 (ot, K, V, R) (z + 3)).2.1))), (iv, .inl (dv, 86, .inl ((drM 43 (ot, K, V, R) (z + 3)).2.2.1))), (ir, .inl (dr, 86, .inl ((drM 43 (ot, K, V, R) (z + 3)).2.2.2)))]) hP hD [0, 1, 2, 3] [] rfl rfl (by decide) (by decide) hk1 hFc hP1 hD1
    generalize H1 = H at hP hS ⊢
    have hP : va_P (dC, dI) classes [(jm, .inr (3, [.int (nI 0), .long sd, .long ((drM 43 (ot, K, V, R) (z + 3)).1), .int (nI n), .ref ik, .ref iv, .ref ir, .ref il, .ref iy, .ref ig])), (ik, .inl (dk, 86, .inl ((drM 43 (ot, K, V, R) (z + 3)).2.1))), (iv, .inl (dv, 86, .inl ((drM 43 (ot, K, V, R) (z + 3)).2.2.1))), (ir, .inl (dr, 86, .inl ((drM 43 (ot, K, V, R) (z + 3)).2.2.2)))] H := hP
    have hD : va_D A [(jm, .inr (3, [.int (nI 0), .long sd, .long ((drM 43 (ot, K, V, R) (z + 3)).1), .int (nI n), .ref ik, .ref iv, .ref ir, .ref il, .ref iy, .ref ig])), (ik, .inl (dk, 86, .inl ((drM 43 (ot, K, V, R) (z + 3)).2.1))), (iv, .inl (dv, 86, .inl ((drM 43 (ot, K, V, R) (z + 3)).2.2.1))), (ir, .inl (dr, 86, .inl ((drM 43 (ot, K, V, R) (z + 3)).2.2.2)))] := hD
    refine lv_aload_n hx hb d_M_same_30 rfl (lv_at hl 0 rfl) ?_
    refine va_get (D := (dC, dI)) (ci := 3) (v := .int (nI n)) (C := R_M) (T := F_M) (N := 10) hx hb hts (lay_M _) hown hK hP 0 rfl rfl 3 (by decide) (hts _ (List.mem_cons_of_mem _ m_339)) (fun _ h9 => h9) rfl d_M_same_31 ?_
    refine lv_iload_n hx hb d_M_same_34 rfl (lv_at hl 2 rfl) ?_
    refine lv_iconst (v := nI 3) hx hb d_M_same_35 (by decide +kernel) ?_
    refine lv_iadd hx hb d_M_same_36 ?_
    refine lv_topi (fun w_3 ew_3 => ?_)
    have ew_3 : (nI (z + 3)) = w_3 := (ew_3.trans (nI_add _ _)).symm
    subst ew_3
    refine lv_icmp_ne (tgt := 44) hx hb d_M_same_37 (by decide) (fun c_37 => ?_) (fun c_37 => ?_)
    · skip
      have c_37 := (not_congr (nI_eq (by omega) (by omega))).mp c_37
      refine lv_iconst (v := nI 0) hx hb d_M_same_44 (by decide +kernel) ?_
      refine lv_topi (fun w_4 ew_4 => ?_)
      have ew_4 : (bI (decide (n = z + 3) && alB (eq3 (drM 43 (ot, K, V, R) (z + 3)).2.1 (drM 43 (ot, K, V, R) (z + 3)).2.2.1 (drM 43 (ot, K, V, R) (z + 3)).2.2.2 (shf (drM 43 (ot, K, V, R) (z + 3)).2.1 43) (shf (drM 43 (ot, K, V, R) (z + 3)).2.2.1 43) (shf (drM 43 (ot, K, V, R) (z + 3)).2.2.2 43)) 0)) = w_4 := (ew_4.trans (by rw [decide_eq_false c_37]; rfl)).symm
      subst ew_4
      refine lv_istore (lv' := [(4, .int (bI (decide (n = z + 3) && alB (eq3 (drM 43 (ot, K, V, R) (z + 3)).2.1 (drM 43 (ot, K, V, R) (z + 3)).2.2.1 (drM 43 (ot, K, V, R) (z + 3)).2.2.2 (shf (drM 43 (ot, K, V, R) (z + 3)).2.1 43) (shf (drM 43 (ot, K, V, R) (z + 3)).2.2.1 43) (shf (drM 43 (ot, K, V, R) (z + 3)).2.2.2 43)) 0))), (0, .ref jm), (1, .long ot), (3, .int (nI z))]) hx hb d_M_same_45 hl (by decide) rfl (fun ls hl => ?_)
      refine lv_iconst (v := nI 0) hx hb d_M_same_47 (by decide +kernel) ?_
      refine lv_istore (lv' := [(5, .int (nI 0)), (4, .int (bI (decide (n = z + 3) && alB (eq3 (drM 43 (ot, K, V, R) (z + 3)).2.1 (drM 43 (ot, K, V, R) (z + 3)).2.2.1 (drM 43 (ot, K, V, R) (z + 3)).2.2.2 (shf (drM 43 (ot, K, V, R) (z + 3)).2.1 43) (shf (drM 43 (ot, K, V, R) (z + 3)).2.2.1 43) (shf (drM 43 (ot, K, V, R) (z + 3)).2.2.2 43)) 0))), (0, .ref jm), (1, .long ot), (3, .int (nI z))]) hx hb d_M_same_48 hl (by decide) rfl (fun ls hl => ?_)
      have lp_50 : ∀ (k9_50 : Nat), ∀ (i : Nat), n - i < k9_50 → (i ≤ n) → ∀ (ls : Array Slot), lv_has ls 6 [(0, .ref jm), (4, .int (bI (decide (n = z + 3) && alB (eq3 (drM 43 (ot, K, V, R) (z + 3)).2.1 (drM 43 (ot, K, V, R) (z + 3)).2.2.1 (drM 43 (ot, K, V, R) (z + 3)).2.2.2 (shf (drM 43 (ot, K, V, R) (z + 3)).2.1 43) (shf (drM 43 (ot, K, V, R) (z + 3)).2.2.1 43) (shf (drM 43 (ot, K, V, R) (z + 3)).2.2.2 43)) i))), (5, .int (nI i))] → W p l e (headSpec w_M_same ({ frames := 3, cells := 0, slots := 0, locals := 74 })).room s m ([.ref jm, .long ot, .int (nI z)]).toArray below meth c H locs 0 0 (MQ below (va_Qi (fun (r : Int32) (_ : Unit) => r = bI (decide (n = z + 3) && alB (eq3 (drM 43 (ot, K, V, R) (z + 3)).2.1 (drM 43 (ot, K, V, R) (z + 3)).2.2.1 (drM 43 (ot, K, V, R) (z + 3)).2.2.2 (shf (drM 43 (ot, K, V, R) (z + 3)).2.1 43) (shf (drM 43 (ot, K, V, R) (z + 3)).2.2.1 43) (shf (drM 43 (ot, K, V, R) (z + 3)).2.2.2 43)) n)) (fun (u : Unit) => wr_B dC dI (A) [(jm, .inr (3, [.int (nI 0), .long sd, .long ((drM 43 (ot, K, V, R) (z + 3)).1), .int (nI n), .ref ik, .ref iv, .ref ir, .ref il, .ref iy, .ref ig])), (ik, .inl (dk, 86, .inl ((drM 43 (ot, K, V, R) (z + 3)).2.1))), (iv, .inl (dv, 86, .inl ((drM 43 (ot, K, V, R) (z + 3)).2.2.1))), (ir, .inl (dr, 86, .inl ((drM 43 (ot, K, V, R) (z + 3)).2.2.2)))] [(dk, .int), (dv, .int), (dr, .int)]) (A)) ([.ref jm, .long ot, .int (nI z)]).toArray s 0 0 A) (F0 m 50 ls []) := by
        intro k9_50
        induction k9_50 with
        | zero =>
          intro i hk9
          exact absurd hk9 (Nat.not_lt_zero _)
        | succ k9_50 ih_50 =>
          intro i hk9_50 hi ls hl
          refine lv_iload hx hb d_M_same_50 (lv_at hl 2 rfl) ?_
          refine lv_aload_n hx hb d_M_same_52 rfl (lv_at hl 0 rfl) ?_
          refine va_get (D := (dC, dI)) (ci := 3) (v := .int (nI n)) (C := R_M) (T := F_M) (N := 10) hx hb hts (lay_M _) hown hK hP 0 rfl rfl 3 (by decide) (hts _ (List.mem_cons_of_mem _ m_339)) (fun _ h9 => h9) rfl d_M_same_53 ?_
          refine lv_icmp_ge (tgt := 137) hx hb d_M_same_56 (by decide) (fun c_56 => ?_) (fun c_56 => ?_)
          · skip
            have c_56 := (nI_leI (by omega) (by omega)).mp c_56
            refine lv_iload hx hb d_M_same_137 (lv_at hl 1 rfl) ?_
            have hP9 := hP.sub (ws' := [(jm, .inr (3, [.int (nI 0), .long sd, .long ((drM 43 (ot, K, V, R) (z + 3)).1), .int (nI n), .ref ik, .ref iv, .ref ir, .ref il, .ref iy, .ref ig])), (ik, .inl (dk, 86, .inl ((drM 43 (ot, K, V, R) (z + 3)).2.1))), (iv, .inl (dv, 86, .inl ((drM 43 (ot, K, V, R) (z + 3)).2.2.1))), (ir, .inl (dr, 86, .inl ((drM 43 (ot, K, V, R) (z + 3)).2.2.2)))]) [0, 1, 2, 3] rfl
            have hD9 := hD.sub (ws' := [(jm, .inr (3, [.int (nI 0), .long sd, .long ((drM 43 (ot, K, V, R) (z + 3)).1), .int (nI n), .ref ik, .ref iv, .ref ir, .ref il, .ref iy, .ref ig])), (ik, .inl (dk, 86, .inl ((drM 43 (ot, K, V, R) (z + 3)).2.1))), (iv, .inl (dv, 86, .inl ((drM 43 (ot, K, V, R) (z + 3)).2.2.1))), (ir, .inl (dr, 86, .inl ((drM 43 (ot, K, V, R) (z + 3)).2.2.2)))]) [0, 1, 2, 3] (by decide) rfl
            have hK9 := hK.sub (tys' := [(dk, .int), (dv, .int), (dr, .int)]) [0, 1, 2] rfl
            exact W.zret (v := bI (decide (n = z + 3) && alB (eq3 (drM 43 (ot, K, V, R) (z + 3)).2.1 (drM 43 (ot, K, V, R) (z + 3)).2.2.1 (drM 43 (ot, K, V, R) (z + 3)).2.2.2 (shf (drM 43 (ot, K, V, R) (z + 3)).2.1 43) (shf (drM 43 (ot, K, V, R) (z + 3)).2.2.1 43) (shf (drM 43 (ot, K, V, R) (z + 3)).2.2.2 43)) i)) (ty := .boolean) hx hb hr (bI_nar _) (fun t ht hW => ⟨⟨bI (decide (n = z + 3) && alB (eq3 (drM 43 (ot, K, V, R) (z + 3)).2.1 (drM 43 (ot, K, V, R) (z + 3)).2.2.1 (drM 43 (ot, K, V, R) (z + 3)).2.2.2 (shf (drM 43 (ot, K, V, R) (z + 3)).2.1 43) (shf (drM 43 (ot, K, V, R) (z + 3)).2.2.1 43) (shf (drM 43 (ot, K, V, R) (z + 3)).2.2.2 43)) i), (), rfl, (by rw [show i = n by omega]), by rw [ht]; exact hP9, va_K.moved hW.alike hK9, hD9⟩, hS.F ht⟩) hS.2.2 d_M_same_139
          · skip
            have c_56 := (not_congr (nI_leI (by omega) (by omega))).mp c_56
            refine lv_iload hx hb d_M_same_59 (lv_at hl 1 rfl) ?_
            refine lv_if_eq (tgt := 128) hx hb d_M_same_61 (by decide) (fun c_61 => ?_) (fun c_61 => ?_)
            · skip
              have c_61 := bI_f c_61
              refine lv_iconst (v := nI 0) hx hb d_M_same_128 (by decide +kernel) ?_
              refine lv_topi (fun w_5 ew_5 => ?_)
              have ew_5 : (bI (decide (n = z + 3) && alB (eq3 (drM 43 (ot, K, V, R) (z + 3)).2.1 (drM 43 (ot, K, V, R) (z + 3)).2.2.1 (drM 43 (ot, K, V, R) (z + 3)).2.2.2 (shf (drM 43 (ot, K, V, R) (z + 3)).2.1 43) (shf (drM 43 (ot, K, V, R) (z + 3)).2.2.1 43) (shf (drM 43 (ot, K, V, R) (z + 3)).2.2.2 43)) (i + 1))) = w_5 := (ew_5.trans (by rw [alB_s, ← Bool.and_assoc]; first | (rw [c_61]; rfl) | (unfold eq3 shf; rw [decide_eq_false c_121, Bool.and_false, Bool.and_false, Bool.and_false]; rfl) | (unfold eq3 shf; rw [decide_eq_false c_101, Bool.false_and, Bool.and_false, Bool.and_false]; rfl) | (unfold eq3 shf; rw [decide_eq_false c_81, Bool.false_and, Bool.and_false]; rfl))).symm
              subst ew_5
              refine lv_istore (lv' := [(4, .int (bI (decide (n = z + 3) && alB (eq3 (drM 43 (ot, K, V, R) (z + 3)).2.1 (drM 43 (ot, K, V, R) (z + 3)).2.2.1 (drM 43 (ot, K, V, R) (z + 3)).2.2.2 (shf (drM 43 (ot, K, V, R) (z + 3)).2.1 43) (shf (drM 43 (ot, K, V, R) (z + 3)).2.2.1 43) (shf (drM 43 (ot, K, V, R) (z + 3)).2.2.2 43)) (i + 1)))), (0, .ref jm), (5, .int (nI i))]) hx hb d_M_same_129 hl (by decide) rfl (fun ls hl => ?_)
              refine lv_iinc (v := nI (i + 1)) (lv' := [(5, .int (nI (i + 1))), (4, .int (bI (decide (n = z + 3) && alB (eq3 (drM 43 (ot, K, V, R) (z + 3)).2.1 (drM 43 (ot, K, V, R) (z + 3)).2.2.1 (drM 43 (ot, K, V, R) (z + 3)).2.2.2 (shf (drM 43 (ot, K, V, R) (z + 3)).2.1 43) (shf (drM 43 (ot, K, V, R) (z + 3)).2.2.1 43) (shf (drM 43 (ot, K, V, R) (z + 3)).2.2.2 43)) (i + 1)))), (0, .ref jm)]) hx hb d_M_same_131 hl (k := 2) rfl (nI_1 _) (by decide) rfl (fun ls hl => ?_)
              refine lv_goto (tgt := 50) hx hb d_M_same_134 (by decide) ?_
              exact ih_50 (i + 1) (by omega) (by first | assumption | omega) ls (lv_sub (l' := [(0, .ref jm), (4, .int (bI (decide (n = z + 3) && alB (eq3 (drM 43 (ot, K, V, R) (z + 3)).2.1 (drM 43 (ot, K, V, R) (z + 3)).2.2.1 (drM 43 (ot, K, V, R) (z + 3)).2.2.2 (shf (drM 43 (ot, K, V, R) (z + 3)).2.1 43) (shf (drM 43 (ot, K, V, R) (z + 3)).2.2.1 43) (shf (drM 43 (ot, K, V, R) (z + 3)).2.2.2 43)) (i + 1)))), (5, .int (nI (i + 1)))]) hl [2, 1, 0] rfl)
            · skip
              have c_61 := bI_t c_61
              refine lv_aload_n hx hb d_M_same_64 rfl (lv_at hl 0 rfl) ?_
              refine va_get (D := (dC, dI)) (ci := 3) (v := .ref ik) (C := R_M) (T := F_M) (N := 10) hx hb hts (lay_M _) hown hK hP 0 rfl rfl 4 (by decide) (hts _ (List.mem_cons_of_mem _ m_340)) (fun _ h9 => h9) rfl d_M_same_65 ?_
              refine lv_iload hx hb d_M_same_68 (lv_at hl 2 rfl) ?_
              refine va_iald hx hb hK hP 1 0 rfl rfl (vp_in_nI (by omega) (by omega)) d_M_same_70 ?_
              refine lv_topi (fun w_6 ew_6 => ?_)
              rw [nI_clamp (by omega)] at ew_6
              have ew_6 := ew_6.symm
              subst ew_6
              refine lv_aload_n hx hb d_M_same_71 rfl (lv_at hl 0 rfl) ?_
              refine va_get (D := (dC, dI)) (ci := 3) (v := .ref ik) (C := R_M) (T := F_M) (N := 10) hx hb hts (lay_M _) hown hK hP 0 rfl rfl 4 (by decide) (hts _ (List.mem_cons_of_mem _ m_340)) (fun _ h9 => h9) rfl d_M_same_72 ?_
              refine lv_bipush (v := nI 43) hx hb d_M_same_75 (by decide +kernel) ?_
              refine lv_iload hx hb d_M_same_77 (lv_at hl 2 rfl) ?_
              refine lv_iadd hx hb d_M_same_79 ?_
              refine lv_topi (fun w_7 ew_7 => ?_)
              have ew_7 : (nI (43 + i)) = w_7 := (ew_7.trans (nI_add _ _)).symm
              subst ew_7
              refine va_iald hx hb hK hP 1 0 rfl rfl (vp_in_nI (by omega) (by omega)) d_M_same_80 ?_
              refine lv_topi (fun w_8 ew_8 => ?_)
              rw [nI_clamp (by omega)] at ew_8
              have ew_8 := ew_8.symm
              subst ew_8
              refine lv_icmp_ne (tgt := 128) hx hb d_M_same_81 (by decide) (fun c_81 => ?_) (fun c_81 => ?_)
              · skip
                refine lv_iconst (v := nI 0) hx hb d_M_same_128 (by decide +kernel) ?_
                refine lv_topi (fun w_9 ew_9 => ?_)
                have ew_9 : (bI (decide (n = z + 3) && alB (eq3 (drM 43 (ot, K, V, R) (z + 3)).2.1 (drM 43 (ot, K, V, R) (z + 3)).2.2.1 (drM 43 (ot, K, V, R) (z + 3)).2.2.2 (shf (drM 43 (ot, K, V, R) (z + 3)).2.1 43) (shf (drM 43 (ot, K, V, R) (z + 3)).2.2.1 43) (shf (drM 43 (ot, K, V, R) (z + 3)).2.2.2 43)) (i + 1))) = w_9 := (ew_9.trans (by rw [alB_s, ← Bool.and_assoc]; first | (rw [c_61]; rfl) | (unfold eq3 shf; rw [decide_eq_false c_121, Bool.and_false, Bool.and_false, Bool.and_false]; rfl) | (unfold eq3 shf; rw [decide_eq_false c_101, Bool.false_and, Bool.and_false, Bool.and_false]; rfl) | (unfold eq3 shf; rw [decide_eq_false c_81, Bool.false_and, Bool.and_false]; rfl))).symm
                subst ew_9
                refine lv_istore (lv' := [(4, .int (bI (decide (n = z + 3) && alB (eq3 (drM 43 (ot, K, V, R) (z + 3)).2.1 (drM 43 (ot, K, V, R) (z + 3)).2.2.1 (drM 43 (ot, K, V, R) (z + 3)).2.2.2 (shf (drM 43 (ot, K, V, R) (z + 3)).2.1 43) (shf (drM 43 (ot, K, V, R) (z + 3)).2.2.1 43) (shf (drM 43 (ot, K, V, R) (z + 3)).2.2.2 43)) (i + 1)))), (0, .ref jm), (5, .int (nI i))]) hx hb d_M_same_129 hl (by decide) rfl (fun ls hl => ?_)
                refine lv_iinc (v := nI (i + 1)) (lv' := [(5, .int (nI (i + 1))), (4, .int (bI (decide (n = z + 3) && alB (eq3 (drM 43 (ot, K, V, R) (z + 3)).2.1 (drM 43 (ot, K, V, R) (z + 3)).2.2.1 (drM 43 (ot, K, V, R) (z + 3)).2.2.2 (shf (drM 43 (ot, K, V, R) (z + 3)).2.1 43) (shf (drM 43 (ot, K, V, R) (z + 3)).2.2.1 43) (shf (drM 43 (ot, K, V, R) (z + 3)).2.2.2 43)) (i + 1)))), (0, .ref jm)]) hx hb d_M_same_131 hl (k := 2) rfl (nI_1 _) (by decide) rfl (fun ls hl => ?_)
                refine lv_goto (tgt := 50) hx hb d_M_same_134 (by decide) ?_
                exact ih_50 (i + 1) (by omega) (by first | assumption | omega) ls (lv_sub (l' := [(0, .ref jm), (4, .int (bI (decide (n = z + 3) && alB (eq3 (drM 43 (ot, K, V, R) (z + 3)).2.1 (drM 43 (ot, K, V, R) (z + 3)).2.2.1 (drM 43 (ot, K, V, R) (z + 3)).2.2.2 (shf (drM 43 (ot, K, V, R) (z + 3)).2.1 43) (shf (drM 43 (ot, K, V, R) (z + 3)).2.2.1 43) (shf (drM 43 (ot, K, V, R) (z + 3)).2.2.2 43)) (i + 1)))), (5, .int (nI (i + 1)))]) hl [2, 1, 0] rfl)
              · skip
                refine lv_aload_n hx hb d_M_same_84 rfl (lv_at hl 0 rfl) ?_
                refine va_get (D := (dC, dI)) (ci := 3) (v := .ref iv) (C := R_M) (T := F_M) (N := 10) hx hb hts (lay_M _) hown hK hP 0 rfl rfl 5 (by decide) (hts _ (List.mem_cons_of_mem _ m_341)) (fun _ h9 => h9) rfl d_M_same_85 ?_
                refine lv_iload hx hb d_M_same_88 (lv_at hl 2 rfl) ?_
                refine va_iald hx hb hK hP 2 1 rfl rfl (vp_in_nI (by omega) (by omega)) d_M_same_90 ?_
                refine lv_topi (fun w_10 ew_10 => ?_)
                rw [nI_clamp (by omega)] at ew_10
                have ew_10 := ew_10.symm
                subst ew_10
                refine lv_aload_n hx hb d_M_same_91 rfl (lv_at hl 0 rfl) ?_
                refine va_get (D := (dC, dI)) (ci := 3) (v := .ref iv) (C := R_M) (T := F_M) (N := 10) hx hb hts (lay_M _) hown hK hP 0 rfl rfl 5 (by decide) (hts _ (List.mem_cons_of_mem _ m_341)) (fun _ h9 => h9) rfl d_M_same_92 ?_
                refine lv_bipush (v := nI 43) hx hb d_M_same_95 (by decide +kernel) ?_
                refine lv_iload hx hb d_M_same_97 (lv_at hl 2 rfl) ?_
                refine lv_iadd hx hb d_M_same_99 ?_
                refine lv_topi (fun w_11 ew_11 => ?_)
                have ew_11 : (nI (43 + i)) = w_11 := (ew_11.trans (nI_add _ _)).symm
                subst ew_11
                refine va_iald hx hb hK hP 2 1 rfl rfl (vp_in_nI (by omega) (by omega)) d_M_same_100 ?_
                refine lv_topi (fun w_12 ew_12 => ?_)
                rw [nI_clamp (by omega)] at ew_12
                have ew_12 := ew_12.symm
                subst ew_12
                refine lv_icmp_ne (tgt := 128) hx hb d_M_same_101 (by decide) (fun c_101 => ?_) (fun c_101 => ?_)
                · skip
                  refine lv_iconst (v := nI 0) hx hb d_M_same_128 (by decide +kernel) ?_
                  refine lv_topi (fun w_13 ew_13 => ?_)
                  have ew_13 : (bI (decide (n = z + 3) && alB (eq3 (drM 43 (ot, K, V, R) (z + 3)).2.1 (drM 43 (ot, K, V, R) (z + 3)).2.2.1 (drM 43 (ot, K, V, R) (z + 3)).2.2.2 (shf (drM 43 (ot, K, V, R) (z + 3)).2.1 43) (shf (drM 43 (ot, K, V, R) (z + 3)).2.2.1 43) (shf (drM 43 (ot, K, V, R) (z + 3)).2.2.2 43)) (i + 1))) = w_13 := (ew_13.trans (by rw [alB_s, ← Bool.and_assoc]; first | (rw [c_61]; rfl) | (unfold eq3 shf; rw [decide_eq_false c_121, Bool.and_false, Bool.and_false, Bool.and_false]; rfl) | (unfold eq3 shf; rw [decide_eq_false c_101, Bool.false_and, Bool.and_false, Bool.and_false]; rfl) | (unfold eq3 shf; rw [decide_eq_false c_81, Bool.false_and, Bool.and_false]; rfl))).symm
                  subst ew_13
                  refine lv_istore (lv' := [(4, .int (bI (decide (n = z + 3) && alB (eq3 (drM 43 (ot, K, V, R) (z + 3)).2.1 (drM 43 (ot, K, V, R) (z + 3)).2.2.1 (drM 43 (ot, K, V, R) (z + 3)).2.2.2 (shf (drM 43 (ot, K, V, R) (z + 3)).2.1 43) (shf (drM 43 (ot, K, V, R) (z + 3)).2.2.1 43) (shf (drM 43 (ot, K, V, R) (z + 3)).2.2.2 43)) (i + 1)))), (0, .ref jm), (5, .int (nI i))]) hx hb d_M_same_129 hl (by decide) rfl (fun ls hl => ?_)
                  refine lv_iinc (v := nI (i + 1)) (lv' := [(5, .int (nI (i + 1))), (4, .int (bI (decide (n = z + 3) && alB (eq3 (drM 43 (ot, K, V, R) (z + 3)).2.1 (drM 43 (ot, K, V, R) (z + 3)).2.2.1 (drM 43 (ot, K, V, R) (z + 3)).2.2.2 (shf (drM 43 (ot, K, V, R) (z + 3)).2.1 43) (shf (drM 43 (ot, K, V, R) (z + 3)).2.2.1 43) (shf (drM 43 (ot, K, V, R) (z + 3)).2.2.2 43)) (i + 1)))), (0, .ref jm)]) hx hb d_M_same_131 hl (k := 2) rfl (nI_1 _) (by decide) rfl (fun ls hl => ?_)
                  refine lv_goto (tgt := 50) hx hb d_M_same_134 (by decide) ?_
                  exact ih_50 (i + 1) (by omega) (by first | assumption | omega) ls (lv_sub (l' := [(0, .ref jm), (4, .int (bI (decide (n = z + 3) && alB (eq3 (drM 43 (ot, K, V, R) (z + 3)).2.1 (drM 43 (ot, K, V, R) (z + 3)).2.2.1 (drM 43 (ot, K, V, R) (z + 3)).2.2.2 (shf (drM 43 (ot, K, V, R) (z + 3)).2.1 43) (shf (drM 43 (ot, K, V, R) (z + 3)).2.2.1 43) (shf (drM 43 (ot, K, V, R) (z + 3)).2.2.2 43)) (i + 1)))), (5, .int (nI (i + 1)))]) hl [2, 1, 0] rfl)
                · skip
                  refine lv_aload_n hx hb d_M_same_104 rfl (lv_at hl 0 rfl) ?_
                  refine va_get (D := (dC, dI)) (ci := 3) (v := .ref ir) (C := R_M) (T := F_M) (N := 10) hx hb hts (lay_M _) hown hK hP 0 rfl rfl 6 (by decide) (hts _ (List.mem_cons_of_mem _ m_342)) (fun _ h9 => h9) rfl d_M_same_105 ?_
                  refine lv_iload hx hb d_M_same_108 (lv_at hl 2 rfl) ?_
                  refine va_iald hx hb hK hP 3 2 rfl rfl (vp_in_nI (by omega) (by omega)) d_M_same_110 ?_
                  refine lv_topi (fun w_14 ew_14 => ?_)
                  rw [nI_clamp (by omega)] at ew_14
                  have ew_14 := ew_14.symm
                  subst ew_14
                  refine lv_aload_n hx hb d_M_same_111 rfl (lv_at hl 0 rfl) ?_
                  refine va_get (D := (dC, dI)) (ci := 3) (v := .ref ir) (C := R_M) (T := F_M) (N := 10) hx hb hts (lay_M _) hown hK hP 0 rfl rfl 6 (by decide) (hts _ (List.mem_cons_of_mem _ m_342)) (fun _ h9 => h9) rfl d_M_same_112 ?_
                  refine lv_bipush (v := nI 43) hx hb d_M_same_115 (by decide +kernel) ?_
                  refine lv_iload hx hb d_M_same_117 (lv_at hl 2 rfl) ?_
                  refine lv_iadd hx hb d_M_same_119 ?_
                  refine lv_topi (fun w_15 ew_15 => ?_)
                  have ew_15 : (nI (43 + i)) = w_15 := (ew_15.trans (nI_add _ _)).symm
                  subst ew_15
                  refine va_iald hx hb hK hP 3 2 rfl rfl (vp_in_nI (by omega) (by omega)) d_M_same_120 ?_
                  refine lv_topi (fun w_16 ew_16 => ?_)
                  rw [nI_clamp (by omega)] at ew_16
                  have ew_16 := ew_16.symm
                  subst ew_16
                  refine lv_icmp_ne (tgt := 128) hx hb d_M_same_121 (by decide) (fun c_121 => ?_) (fun c_121 => ?_)
                  · skip
                    refine lv_iconst (v := nI 0) hx hb d_M_same_128 (by decide +kernel) ?_
                    refine lv_topi (fun w_17 ew_17 => ?_)
                    have ew_17 : (bI (decide (n = z + 3) && alB (eq3 (drM 43 (ot, K, V, R) (z + 3)).2.1 (drM 43 (ot, K, V, R) (z + 3)).2.2.1 (drM 43 (ot, K, V, R) (z + 3)).2.2.2 (shf (drM 43 (ot, K, V, R) (z + 3)).2.1 43) (shf (drM 43 (ot, K, V, R) (z + 3)).2.2.1 43) (shf (drM 43 (ot, K, V, R) (z + 3)).2.2.2 43)) (i + 1))) = w_17 := (ew_17.trans (by rw [alB_s, ← Bool.and_assoc]; first | (rw [c_61]; rfl) | (unfold eq3 shf; rw [decide_eq_false c_121, Bool.and_false, Bool.and_false, Bool.and_false]; rfl) | (unfold eq3 shf; rw [decide_eq_false c_101, Bool.false_and, Bool.and_false, Bool.and_false]; rfl) | (unfold eq3 shf; rw [decide_eq_false c_81, Bool.false_and, Bool.and_false]; rfl))).symm
                    subst ew_17
                    refine lv_istore (lv' := [(4, .int (bI (decide (n = z + 3) && alB (eq3 (drM 43 (ot, K, V, R) (z + 3)).2.1 (drM 43 (ot, K, V, R) (z + 3)).2.2.1 (drM 43 (ot, K, V, R) (z + 3)).2.2.2 (shf (drM 43 (ot, K, V, R) (z + 3)).2.1 43) (shf (drM 43 (ot, K, V, R) (z + 3)).2.2.1 43) (shf (drM 43 (ot, K, V, R) (z + 3)).2.2.2 43)) (i + 1)))), (0, .ref jm), (5, .int (nI i))]) hx hb d_M_same_129 hl (by decide) rfl (fun ls hl => ?_)
                    refine lv_iinc (v := nI (i + 1)) (lv' := [(5, .int (nI (i + 1))), (4, .int (bI (decide (n = z + 3) && alB (eq3 (drM 43 (ot, K, V, R) (z + 3)).2.1 (drM 43 (ot, K, V, R) (z + 3)).2.2.1 (drM 43 (ot, K, V, R) (z + 3)).2.2.2 (shf (drM 43 (ot, K, V, R) (z + 3)).2.1 43) (shf (drM 43 (ot, K, V, R) (z + 3)).2.2.1 43) (shf (drM 43 (ot, K, V, R) (z + 3)).2.2.2 43)) (i + 1)))), (0, .ref jm)]) hx hb d_M_same_131 hl (k := 2) rfl (nI_1 _) (by decide) rfl (fun ls hl => ?_)
                    refine lv_goto (tgt := 50) hx hb d_M_same_134 (by decide) ?_
                    exact ih_50 (i + 1) (by omega) (by first | assumption | omega) ls (lv_sub (l' := [(0, .ref jm), (4, .int (bI (decide (n = z + 3) && alB (eq3 (drM 43 (ot, K, V, R) (z + 3)).2.1 (drM 43 (ot, K, V, R) (z + 3)).2.2.1 (drM 43 (ot, K, V, R) (z + 3)).2.2.2 (shf (drM 43 (ot, K, V, R) (z + 3)).2.1 43) (shf (drM 43 (ot, K, V, R) (z + 3)).2.2.1 43) (shf (drM 43 (ot, K, V, R) (z + 3)).2.2.2 43)) (i + 1)))), (5, .int (nI (i + 1)))]) hl [2, 1, 0] rfl)
                  · skip
                    refine lv_iconst (v := nI 1) hx hb d_M_same_124 (by decide +kernel) ?_
                    refine lv_topi (fun w_18 ew_18 => ?_)
                    have ew_18 : (bI (decide (n = z + 3) && alB (eq3 (drM 43 (ot, K, V, R) (z + 3)).2.1 (drM 43 (ot, K, V, R) (z + 3)).2.2.1 (drM 43 (ot, K, V, R) (z + 3)).2.2.2 (shf (drM 43 (ot, K, V, R) (z + 3)).2.1 43) (shf (drM 43 (ot, K, V, R) (z + 3)).2.2.1 43) (shf (drM 43 (ot, K, V, R) (z + 3)).2.2.2 43)) (i + 1))) = w_18 := (ew_18.trans (by rw [alB_s, ← Bool.and_assoc, c_61]; unfold eq3 shf; rw [decide_eq_true c_81, decide_eq_true c_101, decide_eq_true c_121]; rfl)).symm
                    subst ew_18
                    refine lv_goto (tgt := 129) hx hb d_M_same_125 (by decide) ?_
                    refine lv_istore (lv' := [(4, .int (bI (decide (n = z + 3) && alB (eq3 (drM 43 (ot, K, V, R) (z + 3)).2.1 (drM 43 (ot, K, V, R) (z + 3)).2.2.1 (drM 43 (ot, K, V, R) (z + 3)).2.2.2 (shf (drM 43 (ot, K, V, R) (z + 3)).2.1 43) (shf (drM 43 (ot, K, V, R) (z + 3)).2.2.1 43) (shf (drM 43 (ot, K, V, R) (z + 3)).2.2.2 43)) (i + 1)))), (0, .ref jm), (5, .int (nI i))]) hx hb d_M_same_129 hl (by decide) rfl (fun ls hl => ?_)
                    refine lv_iinc (v := nI (i + 1)) (lv' := [(5, .int (nI (i + 1))), (4, .int (bI (decide (n = z + 3) && alB (eq3 (drM 43 (ot, K, V, R) (z + 3)).2.1 (drM 43 (ot, K, V, R) (z + 3)).2.2.1 (drM 43 (ot, K, V, R) (z + 3)).2.2.2 (shf (drM 43 (ot, K, V, R) (z + 3)).2.1 43) (shf (drM 43 (ot, K, V, R) (z + 3)).2.2.1 43) (shf (drM 43 (ot, K, V, R) (z + 3)).2.2.2 43)) (i + 1)))), (0, .ref jm)]) hx hb d_M_same_131 hl (k := 2) rfl (nI_1 _) (by decide) rfl (fun ls hl => ?_)
                    refine lv_goto (tgt := 50) hx hb d_M_same_134 (by decide) ?_
                    exact ih_50 (i + 1) (by omega) (by first | assumption | omega) ls (lv_sub (l' := [(0, .ref jm), (4, .int (bI (decide (n = z + 3) && alB (eq3 (drM 43 (ot, K, V, R) (z + 3)).2.1 (drM 43 (ot, K, V, R) (z + 3)).2.2.1 (drM 43 (ot, K, V, R) (z + 3)).2.2.2 (shf (drM 43 (ot, K, V, R) (z + 3)).2.1 43) (shf (drM 43 (ot, K, V, R) (z + 3)).2.2.1 43) (shf (drM 43 (ot, K, V, R) (z + 3)).2.2.2 43)) (i + 1)))), (5, .int (nI (i + 1)))]) hl [2, 1, 0] rfl)
      exact lp_50 ((n - 0) + 1) 0 (by omega) (by first | assumption | omega) ls (lv_sub (l' := [(0, .ref jm), (4, .int (bI (decide (n = z + 3) && alB (eq3 (drM 43 (ot, K, V, R) (z + 3)).2.1 (drM 43 (ot, K, V, R) (z + 3)).2.2.1 (drM 43 (ot, K, V, R) (z + 3)).2.2.2 (shf (drM 43 (ot, K, V, R) (z + 3)).2.1 43) (shf (drM 43 (ot, K, V, R) (z + 3)).2.2.1 43) (shf (drM 43 (ot, K, V, R) (z + 3)).2.2.2 43)) 0))), (5, .int (nI 0))]) hl [2, 1, 0] rfl)
    · skip
      have c_37 := (nI_eq (by omega) (by omega)).mp c_37
      refine lv_iconst (v := nI 1) hx hb d_M_same_40 (by decide +kernel) ?_
      refine lv_topi (fun w_19 ew_19 => ?_)
      have ew_19 : (bI (decide (n = z + 3) && alB (eq3 (drM 43 (ot, K, V, R) (z + 3)).2.1 (drM 43 (ot, K, V, R) (z + 3)).2.2.1 (drM 43 (ot, K, V, R) (z + 3)).2.2.2 (shf (drM 43 (ot, K, V, R) (z + 3)).2.1 43) (shf (drM 43 (ot, K, V, R) (z + 3)).2.2.1 43) (shf (drM 43 (ot, K, V, R) (z + 3)).2.2.2 43)) 0)) = w_19 := (ew_19.trans (by rw [decide_eq_true c_37]; rfl)).symm
      subst ew_19
      refine lv_goto (tgt := 45) hx hb d_M_same_41 (by decide) ?_
      refine lv_istore (lv' := [(4, .int (bI (decide (n = z + 3) && alB (eq3 (drM 43 (ot, K, V, R) (z + 3)).2.1 (drM 43 (ot, K, V, R) (z + 3)).2.2.1 (drM 43 (ot, K, V, R) (z + 3)).2.2.2 (shf (drM 43 (ot, K, V, R) (z + 3)).2.1 43) (shf (drM 43 (ot, K, V, R) (z + 3)).2.2.1 43) (shf (drM 43 (ot, K, V, R) (z + 3)).2.2.2 43)) 0))), (0, .ref jm), (1, .long ot), (3, .int (nI z))]) hx hb d_M_same_45 hl (by decide) rfl (fun ls hl => ?_)
      refine lv_iconst (v := nI 0) hx hb d_M_same_47 (by decide +kernel) ?_
      refine lv_istore (lv' := [(5, .int (nI 0)), (4, .int (bI (decide (n = z + 3) && alB (eq3 (drM 43 (ot, K, V, R) (z + 3)).2.1 (drM 43 (ot, K, V, R) (z + 3)).2.2.1 (drM 43 (ot, K, V, R) (z + 3)).2.2.2 (shf (drM 43 (ot, K, V, R) (z + 3)).2.1 43) (shf (drM 43 (ot, K, V, R) (z + 3)).2.2.1 43) (shf (drM 43 (ot, K, V, R) (z + 3)).2.2.2 43)) 0))), (0, .ref jm), (1, .long ot), (3, .int (nI z))]) hx hb d_M_same_48 hl (by decide) rfl (fun ls hl => ?_)
      have lp_50 : ∀ (k9_50 : Nat), ∀ (i : Nat), n - i < k9_50 → (i ≤ n) → ∀ (ls : Array Slot), lv_has ls 6 [(0, .ref jm), (4, .int (bI (decide (n = z + 3) && alB (eq3 (drM 43 (ot, K, V, R) (z + 3)).2.1 (drM 43 (ot, K, V, R) (z + 3)).2.2.1 (drM 43 (ot, K, V, R) (z + 3)).2.2.2 (shf (drM 43 (ot, K, V, R) (z + 3)).2.1 43) (shf (drM 43 (ot, K, V, R) (z + 3)).2.2.1 43) (shf (drM 43 (ot, K, V, R) (z + 3)).2.2.2 43)) i))), (5, .int (nI i))] → W p l e (headSpec w_M_same ({ frames := 3, cells := 0, slots := 0, locals := 74 })).room s m ([.ref jm, .long ot, .int (nI z)]).toArray below meth c H locs 0 0 (MQ below (va_Qi (fun (r : Int32) (_ : Unit) => r = bI (decide (n = z + 3) && alB (eq3 (drM 43 (ot, K, V, R) (z + 3)).2.1 (drM 43 (ot, K, V, R) (z + 3)).2.2.1 (drM 43 (ot, K, V, R) (z + 3)).2.2.2 (shf (drM 43 (ot, K, V, R) (z + 3)).2.1 43) (shf (drM 43 (ot, K, V, R) (z + 3)).2.2.1 43) (shf (drM 43 (ot, K, V, R) (z + 3)).2.2.2 43)) n)) (fun (u : Unit) => wr_B dC dI (A) [(jm, .inr (3, [.int (nI 0), .long sd, .long ((drM 43 (ot, K, V, R) (z + 3)).1), .int (nI n), .ref ik, .ref iv, .ref ir, .ref il, .ref iy, .ref ig])), (ik, .inl (dk, 86, .inl ((drM 43 (ot, K, V, R) (z + 3)).2.1))), (iv, .inl (dv, 86, .inl ((drM 43 (ot, K, V, R) (z + 3)).2.2.1))), (ir, .inl (dr, 86, .inl ((drM 43 (ot, K, V, R) (z + 3)).2.2.2)))] [(dk, .int), (dv, .int), (dr, .int)]) (A)) ([.ref jm, .long ot, .int (nI z)]).toArray s 0 0 A) (F0 m 50 ls []) := by
        intro k9_50
        induction k9_50 with
        | zero =>
          intro i hk9
          exact absurd hk9 (Nat.not_lt_zero _)
        | succ k9_50 ih_50 =>
          intro i hk9_50 hi ls hl
          refine lv_iload hx hb d_M_same_50 (lv_at hl 2 rfl) ?_
          refine lv_aload_n hx hb d_M_same_52 rfl (lv_at hl 0 rfl) ?_
          refine va_get (D := (dC, dI)) (ci := 3) (v := .int (nI n)) (C := R_M) (T := F_M) (N := 10) hx hb hts (lay_M _) hown hK hP 0 rfl rfl 3 (by decide) (hts _ (List.mem_cons_of_mem _ m_339)) (fun _ h9 => h9) rfl d_M_same_53 ?_
          refine lv_icmp_ge (tgt := 137) hx hb d_M_same_56 (by decide) (fun c_56 => ?_) (fun c_56 => ?_)
          · skip
            have c_56 := (nI_leI (by omega) (by omega)).mp c_56
            refine lv_iload hx hb d_M_same_137 (lv_at hl 1 rfl) ?_
            have hP9 := hP.sub (ws' := [(jm, .inr (3, [.int (nI 0), .long sd, .long ((drM 43 (ot, K, V, R) (z + 3)).1), .int (nI n), .ref ik, .ref iv, .ref ir, .ref il, .ref iy, .ref ig])), (ik, .inl (dk, 86, .inl ((drM 43 (ot, K, V, R) (z + 3)).2.1))), (iv, .inl (dv, 86, .inl ((drM 43 (ot, K, V, R) (z + 3)).2.2.1))), (ir, .inl (dr, 86, .inl ((drM 43 (ot, K, V, R) (z + 3)).2.2.2)))]) [0, 1, 2, 3] rfl
            have hD9 := hD.sub (ws' := [(jm, .inr (3, [.int (nI 0), .long sd, .long ((drM 43 (ot, K, V, R) (z + 3)).1), .int (nI n), .ref ik, .ref iv, .ref ir, .ref il, .ref iy, .ref ig])), (ik, .inl (dk, 86, .inl ((drM 43 (ot, K, V, R) (z + 3)).2.1))), (iv, .inl (dv, 86, .inl ((drM 43 (ot, K, V, R) (z + 3)).2.2.1))), (ir, .inl (dr, 86, .inl ((drM 43 (ot, K, V, R) (z + 3)).2.2.2)))]) [0, 1, 2, 3] (by decide) rfl
            have hK9 := hK.sub (tys' := [(dk, .int), (dv, .int), (dr, .int)]) [0, 1, 2] rfl
            exact W.zret (v := bI (decide (n = z + 3) && alB (eq3 (drM 43 (ot, K, V, R) (z + 3)).2.1 (drM 43 (ot, K, V, R) (z + 3)).2.2.1 (drM 43 (ot, K, V, R) (z + 3)).2.2.2 (shf (drM 43 (ot, K, V, R) (z + 3)).2.1 43) (shf (drM 43 (ot, K, V, R) (z + 3)).2.2.1 43) (shf (drM 43 (ot, K, V, R) (z + 3)).2.2.2 43)) i)) (ty := .boolean) hx hb hr (bI_nar _) (fun t ht hW => ⟨⟨bI (decide (n = z + 3) && alB (eq3 (drM 43 (ot, K, V, R) (z + 3)).2.1 (drM 43 (ot, K, V, R) (z + 3)).2.2.1 (drM 43 (ot, K, V, R) (z + 3)).2.2.2 (shf (drM 43 (ot, K, V, R) (z + 3)).2.1 43) (shf (drM 43 (ot, K, V, R) (z + 3)).2.2.1 43) (shf (drM 43 (ot, K, V, R) (z + 3)).2.2.2 43)) i), (), rfl, (by rw [show i = n by omega]), by rw [ht]; exact hP9, va_K.moved hW.alike hK9, hD9⟩, hS.F ht⟩) hS.2.2 d_M_same_139
          · skip
            have c_56 := (not_congr (nI_leI (by omega) (by omega))).mp c_56
            refine lv_iload hx hb d_M_same_59 (lv_at hl 1 rfl) ?_
            refine lv_if_eq (tgt := 128) hx hb d_M_same_61 (by decide) (fun c_61 => ?_) (fun c_61 => ?_)
            · skip
              have c_61 := bI_f c_61
              refine lv_iconst (v := nI 0) hx hb d_M_same_128 (by decide +kernel) ?_
              refine lv_topi (fun w_20 ew_20 => ?_)
              have ew_20 : (bI (decide (n = z + 3) && alB (eq3 (drM 43 (ot, K, V, R) (z + 3)).2.1 (drM 43 (ot, K, V, R) (z + 3)).2.2.1 (drM 43 (ot, K, V, R) (z + 3)).2.2.2 (shf (drM 43 (ot, K, V, R) (z + 3)).2.1 43) (shf (drM 43 (ot, K, V, R) (z + 3)).2.2.1 43) (shf (drM 43 (ot, K, V, R) (z + 3)).2.2.2 43)) (i + 1))) = w_20 := (ew_20.trans (by rw [alB_s, ← Bool.and_assoc]; first | (rw [c_61]; rfl) | (unfold eq3 shf; rw [decide_eq_false c_121, Bool.and_false, Bool.and_false, Bool.and_false]; rfl) | (unfold eq3 shf; rw [decide_eq_false c_101, Bool.false_and, Bool.and_false, Bool.and_false]; rfl) | (unfold eq3 shf; rw [decide_eq_false c_81, Bool.false_and, Bool.and_false]; rfl))).symm
              subst ew_20
              refine lv_istore (lv' := [(4, .int (bI (decide (n = z + 3) && alB (eq3 (drM 43 (ot, K, V, R) (z + 3)).2.1 (drM 43 (ot, K, V, R) (z + 3)).2.2.1 (drM 43 (ot, K, V, R) (z + 3)).2.2.2 (shf (drM 43 (ot, K, V, R) (z + 3)).2.1 43) (shf (drM 43 (ot, K, V, R) (z + 3)).2.2.1 43) (shf (drM 43 (ot, K, V, R) (z + 3)).2.2.2 43)) (i + 1)))), (0, .ref jm), (5, .int (nI i))]) hx hb d_M_same_129 hl (by decide) rfl (fun ls hl => ?_)
              refine lv_iinc (v := nI (i + 1)) (lv' := [(5, .int (nI (i + 1))), (4, .int (bI (decide (n = z + 3) && alB (eq3 (drM 43 (ot, K, V, R) (z + 3)).2.1 (drM 43 (ot, K, V, R) (z + 3)).2.2.1 (drM 43 (ot, K, V, R) (z + 3)).2.2.2 (shf (drM 43 (ot, K, V, R) (z + 3)).2.1 43) (shf (drM 43 (ot, K, V, R) (z + 3)).2.2.1 43) (shf (drM 43 (ot, K, V, R) (z + 3)).2.2.2 43)) (i + 1)))), (0, .ref jm)]) hx hb d_M_same_131 hl (k := 2) rfl (nI_1 _) (by decide) rfl (fun ls hl => ?_)
              refine lv_goto (tgt := 50) hx hb d_M_same_134 (by decide) ?_
              exact ih_50 (i + 1) (by omega) (by first | assumption | omega) ls (lv_sub (l' := [(0, .ref jm), (4, .int (bI (decide (n = z + 3) && alB (eq3 (drM 43 (ot, K, V, R) (z + 3)).2.1 (drM 43 (ot, K, V, R) (z + 3)).2.2.1 (drM 43 (ot, K, V, R) (z + 3)).2.2.2 (shf (drM 43 (ot, K, V, R) (z + 3)).2.1 43) (shf (drM 43 (ot, K, V, R) (z + 3)).2.2.1 43) (shf (drM 43 (ot, K, V, R) (z + 3)).2.2.2 43)) (i + 1)))), (5, .int (nI (i + 1)))]) hl [2, 1, 0] rfl)
            · skip
              have c_61 := bI_t c_61
              refine lv_aload_n hx hb d_M_same_64 rfl (lv_at hl 0 rfl) ?_
              refine va_get (D := (dC, dI)) (ci := 3) (v := .ref ik) (C := R_M) (T := F_M) (N := 10) hx hb hts (lay_M _) hown hK hP 0 rfl rfl 4 (by decide) (hts _ (List.mem_cons_of_mem _ m_340)) (fun _ h9 => h9) rfl d_M_same_65 ?_
              refine lv_iload hx hb d_M_same_68 (lv_at hl 2 rfl) ?_
              refine va_iald hx hb hK hP 1 0 rfl rfl (vp_in_nI (by omega) (by omega)) d_M_same_70 ?_
              refine lv_topi (fun w_21 ew_21 => ?_)
              rw [nI_clamp (by omega)] at ew_21
              have ew_21 := ew_21.symm
              subst ew_21
              refine lv_aload_n hx hb d_M_same_71 rfl (lv_at hl 0 rfl) ?_
              refine va_get (D := (dC, dI)) (ci := 3) (v := .ref ik) (C := R_M) (T := F_M) (N := 10) hx hb hts (lay_M _) hown hK hP 0 rfl rfl 4 (by decide) (hts _ (List.mem_cons_of_mem _ m_340)) (fun _ h9 => h9) rfl d_M_same_72 ?_
              refine lv_bipush (v := nI 43) hx hb d_M_same_75 (by decide +kernel) ?_
              refine lv_iload hx hb d_M_same_77 (lv_at hl 2 rfl) ?_
              refine lv_iadd hx hb d_M_same_79 ?_
              refine lv_topi (fun w_22 ew_22 => ?_)
              have ew_22 : (nI (43 + i)) = w_22 := (ew_22.trans (nI_add _ _)).symm
              subst ew_22
              refine va_iald hx hb hK hP 1 0 rfl rfl (vp_in_nI (by omega) (by omega)) d_M_same_80 ?_
              refine lv_topi (fun w_23 ew_23 => ?_)
              rw [nI_clamp (by omega)] at ew_23
              have ew_23 := ew_23.symm
              subst ew_23
              refine lv_icmp_ne (tgt := 128) hx hb d_M_same_81 (by decide) (fun c_81 => ?_) (fun c_81 => ?_)
              · skip
                refine lv_iconst (v := nI 0) hx hb d_M_same_128 (by decide +kernel) ?_
                refine lv_topi (fun w_24 ew_24 => ?_)
                have ew_24 : (bI (decide (n = z + 3) && alB (eq3 (drM 43 (ot, K, V, R) (z + 3)).2.1 (drM 43 (ot, K, V, R) (z + 3)).2.2.1 (drM 43 (ot, K, V, R) (z + 3)).2.2.2 (shf (drM 43 (ot, K, V, R) (z + 3)).2.1 43) (shf (drM 43 (ot, K, V, R) (z + 3)).2.2.1 43) (shf (drM 43 (ot, K, V, R) (z + 3)).2.2.2 43)) (i + 1))) = w_24 := (ew_24.trans (by rw [alB_s, ← Bool.and_assoc]; first | (rw [c_61]; rfl) | (unfold eq3 shf; rw [decide_eq_false c_121, Bool.and_false, Bool.and_false, Bool.and_false]; rfl) | (unfold eq3 shf; rw [decide_eq_false c_101, Bool.false_and, Bool.and_false, Bool.and_false]; rfl) | (unfold eq3 shf; rw [decide_eq_false c_81, Bool.false_and, Bool.and_false]; rfl))).symm
                subst ew_24
                refine lv_istore (lv' := [(4, .int (bI (decide (n = z + 3) && alB (eq3 (drM 43 (ot, K, V, R) (z + 3)).2.1 (drM 43 (ot, K, V, R) (z + 3)).2.2.1 (drM 43 (ot, K, V, R) (z + 3)).2.2.2 (shf (drM 43 (ot, K, V, R) (z + 3)).2.1 43) (shf (drM 43 (ot, K, V, R) (z + 3)).2.2.1 43) (shf (drM 43 (ot, K, V, R) (z + 3)).2.2.2 43)) (i + 1)))), (0, .ref jm), (5, .int (nI i))]) hx hb d_M_same_129 hl (by decide) rfl (fun ls hl => ?_)
                refine lv_iinc (v := nI (i + 1)) (lv' := [(5, .int (nI (i + 1))), (4, .int (bI (decide (n = z + 3) && alB (eq3 (drM 43 (ot, K, V, R) (z + 3)).2.1 (drM 43 (ot, K, V, R) (z + 3)).2.2.1 (drM 43 (ot, K, V, R) (z + 3)).2.2.2 (shf (drM 43 (ot, K, V, R) (z + 3)).2.1 43) (shf (drM 43 (ot, K, V, R) (z + 3)).2.2.1 43) (shf (drM 43 (ot, K, V, R) (z + 3)).2.2.2 43)) (i + 1)))), (0, .ref jm)]) hx hb d_M_same_131 hl (k := 2) rfl (nI_1 _) (by decide) rfl (fun ls hl => ?_)
                refine lv_goto (tgt := 50) hx hb d_M_same_134 (by decide) ?_
                exact ih_50 (i + 1) (by omega) (by first | assumption | omega) ls (lv_sub (l' := [(0, .ref jm), (4, .int (bI (decide (n = z + 3) && alB (eq3 (drM 43 (ot, K, V, R) (z + 3)).2.1 (drM 43 (ot, K, V, R) (z + 3)).2.2.1 (drM 43 (ot, K, V, R) (z + 3)).2.2.2 (shf (drM 43 (ot, K, V, R) (z + 3)).2.1 43) (shf (drM 43 (ot, K, V, R) (z + 3)).2.2.1 43) (shf (drM 43 (ot, K, V, R) (z + 3)).2.2.2 43)) (i + 1)))), (5, .int (nI (i + 1)))]) hl [2, 1, 0] rfl)
              · skip
                refine lv_aload_n hx hb d_M_same_84 rfl (lv_at hl 0 rfl) ?_
                refine va_get (D := (dC, dI)) (ci := 3) (v := .ref iv) (C := R_M) (T := F_M) (N := 10) hx hb hts (lay_M _) hown hK hP 0 rfl rfl 5 (by decide) (hts _ (List.mem_cons_of_mem _ m_341)) (fun _ h9 => h9) rfl d_M_same_85 ?_
                refine lv_iload hx hb d_M_same_88 (lv_at hl 2 rfl) ?_
                refine va_iald hx hb hK hP 2 1 rfl rfl (vp_in_nI (by omega) (by omega)) d_M_same_90 ?_
                refine lv_topi (fun w_25 ew_25 => ?_)
                rw [nI_clamp (by omega)] at ew_25
                have ew_25 := ew_25.symm
                subst ew_25
                refine lv_aload_n hx hb d_M_same_91 rfl (lv_at hl 0 rfl) ?_
                refine va_get (D := (dC, dI)) (ci := 3) (v := .ref iv) (C := R_M) (T := F_M) (N := 10) hx hb hts (lay_M _) hown hK hP 0 rfl rfl 5 (by decide) (hts _ (List.mem_cons_of_mem _ m_341)) (fun _ h9 => h9) rfl d_M_same_92 ?_
                refine lv_bipush (v := nI 43) hx hb d_M_same_95 (by decide +kernel) ?_
                refine lv_iload hx hb d_M_same_97 (lv_at hl 2 rfl) ?_
                refine lv_iadd hx hb d_M_same_99 ?_
                refine lv_topi (fun w_26 ew_26 => ?_)
                have ew_26 : (nI (43 + i)) = w_26 := (ew_26.trans (nI_add _ _)).symm
                subst ew_26
                refine va_iald hx hb hK hP 2 1 rfl rfl (vp_in_nI (by omega) (by omega)) d_M_same_100 ?_
                refine lv_topi (fun w_27 ew_27 => ?_)
                rw [nI_clamp (by omega)] at ew_27
                have ew_27 := ew_27.symm
                subst ew_27
                refine lv_icmp_ne (tgt := 128) hx hb d_M_same_101 (by decide) (fun c_101 => ?_) (fun c_101 => ?_)
                · skip
                  refine lv_iconst (v := nI 0) hx hb d_M_same_128 (by decide +kernel) ?_
                  refine lv_topi (fun w_28 ew_28 => ?_)
                  have ew_28 : (bI (decide (n = z + 3) && alB (eq3 (drM 43 (ot, K, V, R) (z + 3)).2.1 (drM 43 (ot, K, V, R) (z + 3)).2.2.1 (drM 43 (ot, K, V, R) (z + 3)).2.2.2 (shf (drM 43 (ot, K, V, R) (z + 3)).2.1 43) (shf (drM 43 (ot, K, V, R) (z + 3)).2.2.1 43) (shf (drM 43 (ot, K, V, R) (z + 3)).2.2.2 43)) (i + 1))) = w_28 := (ew_28.trans (by rw [alB_s, ← Bool.and_assoc]; first | (rw [c_61]; rfl) | (unfold eq3 shf; rw [decide_eq_false c_121, Bool.and_false, Bool.and_false, Bool.and_false]; rfl) | (unfold eq3 shf; rw [decide_eq_false c_101, Bool.false_and, Bool.and_false, Bool.and_false]; rfl) | (unfold eq3 shf; rw [decide_eq_false c_81, Bool.false_and, Bool.and_false]; rfl))).symm
                  subst ew_28
                  refine lv_istore (lv' := [(4, .int (bI (decide (n = z + 3) && alB (eq3 (drM 43 (ot, K, V, R) (z + 3)).2.1 (drM 43 (ot, K, V, R) (z + 3)).2.2.1 (drM 43 (ot, K, V, R) (z + 3)).2.2.2 (shf (drM 43 (ot, K, V, R) (z + 3)).2.1 43) (shf (drM 43 (ot, K, V, R) (z + 3)).2.2.1 43) (shf (drM 43 (ot, K, V, R) (z + 3)).2.2.2 43)) (i + 1)))), (0, .ref jm), (5, .int (nI i))]) hx hb d_M_same_129 hl (by decide) rfl (fun ls hl => ?_)
                  refine lv_iinc (v := nI (i + 1)) (lv' := [(5, .int (nI (i + 1))), (4, .int (bI (decide (n = z + 3) && alB (eq3 (drM 43 (ot, K, V, R) (z + 3)).2.1 (drM 43 (ot, K, V, R) (z + 3)).2.2.1 (drM 43 (ot, K, V, R) (z + 3)).2.2.2 (shf (drM 43 (ot, K, V, R) (z + 3)).2.1 43) (shf (drM 43 (ot, K, V, R) (z + 3)).2.2.1 43) (shf (drM 43 (ot, K, V, R) (z + 3)).2.2.2 43)) (i + 1)))), (0, .ref jm)]) hx hb d_M_same_131 hl (k := 2) rfl (nI_1 _) (by decide) rfl (fun ls hl => ?_)
                  refine lv_goto (tgt := 50) hx hb d_M_same_134 (by decide) ?_
                  exact ih_50 (i + 1) (by omega) (by first | assumption | omega) ls (lv_sub (l' := [(0, .ref jm), (4, .int (bI (decide (n = z + 3) && alB (eq3 (drM 43 (ot, K, V, R) (z + 3)).2.1 (drM 43 (ot, K, V, R) (z + 3)).2.2.1 (drM 43 (ot, K, V, R) (z + 3)).2.2.2 (shf (drM 43 (ot, K, V, R) (z + 3)).2.1 43) (shf (drM 43 (ot, K, V, R) (z + 3)).2.2.1 43) (shf (drM 43 (ot, K, V, R) (z + 3)).2.2.2 43)) (i + 1)))), (5, .int (nI (i + 1)))]) hl [2, 1, 0] rfl)
                · skip
                  refine lv_aload_n hx hb d_M_same_104 rfl (lv_at hl 0 rfl) ?_
                  refine va_get (D := (dC, dI)) (ci := 3) (v := .ref ir) (C := R_M) (T := F_M) (N := 10) hx hb hts (lay_M _) hown hK hP 0 rfl rfl 6 (by decide) (hts _ (List.mem_cons_of_mem _ m_342)) (fun _ h9 => h9) rfl d_M_same_105 ?_
                  refine lv_iload hx hb d_M_same_108 (lv_at hl 2 rfl) ?_
                  refine va_iald hx hb hK hP 3 2 rfl rfl (vp_in_nI (by omega) (by omega)) d_M_same_110 ?_
                  refine lv_topi (fun w_29 ew_29 => ?_)
                  rw [nI_clamp (by omega)] at ew_29
                  have ew_29 := ew_29.symm
                  subst ew_29
                  refine lv_aload_n hx hb d_M_same_111 rfl (lv_at hl 0 rfl) ?_
                  refine va_get (D := (dC, dI)) (ci := 3) (v := .ref ir) (C := R_M) (T := F_M) (N := 10) hx hb hts (lay_M _) hown hK hP 0 rfl rfl 6 (by decide) (hts _ (List.mem_cons_of_mem _ m_342)) (fun _ h9 => h9) rfl d_M_same_112 ?_
                  refine lv_bipush (v := nI 43) hx hb d_M_same_115 (by decide +kernel) ?_
                  refine lv_iload hx hb d_M_same_117 (lv_at hl 2 rfl) ?_
                  refine lv_iadd hx hb d_M_same_119 ?_
                  refine lv_topi (fun w_30 ew_30 => ?_)
                  have ew_30 : (nI (43 + i)) = w_30 := (ew_30.trans (nI_add _ _)).symm
                  subst ew_30
                  refine va_iald hx hb hK hP 3 2 rfl rfl (vp_in_nI (by omega) (by omega)) d_M_same_120 ?_
                  refine lv_topi (fun w_31 ew_31 => ?_)
                  rw [nI_clamp (by omega)] at ew_31
                  have ew_31 := ew_31.symm
                  subst ew_31
                  refine lv_icmp_ne (tgt := 128) hx hb d_M_same_121 (by decide) (fun c_121 => ?_) (fun c_121 => ?_)
                  · skip
                    refine lv_iconst (v := nI 0) hx hb d_M_same_128 (by decide +kernel) ?_
                    refine lv_topi (fun w_32 ew_32 => ?_)
                    have ew_32 : (bI (decide (n = z + 3) && alB (eq3 (drM 43 (ot, K, V, R) (z + 3)).2.1 (drM 43 (ot, K, V, R) (z + 3)).2.2.1 (drM 43 (ot, K, V, R) (z + 3)).2.2.2 (shf (drM 43 (ot, K, V, R) (z + 3)).2.1 43) (shf (drM 43 (ot, K, V, R) (z + 3)).2.2.1 43) (shf (drM 43 (ot, K, V, R) (z + 3)).2.2.2 43)) (i + 1))) = w_32 := (ew_32.trans (by rw [alB_s, ← Bool.and_assoc]; first | (rw [c_61]; rfl) | (unfold eq3 shf; rw [decide_eq_false c_121, Bool.and_false, Bool.and_false, Bool.and_false]; rfl) | (unfold eq3 shf; rw [decide_eq_false c_101, Bool.false_and, Bool.and_false, Bool.and_false]; rfl) | (unfold eq3 shf; rw [decide_eq_false c_81, Bool.false_and, Bool.and_false]; rfl))).symm
                    subst ew_32
                    refine lv_istore (lv' := [(4, .int (bI (decide (n = z + 3) && alB (eq3 (drM 43 (ot, K, V, R) (z + 3)).2.1 (drM 43 (ot, K, V, R) (z + 3)).2.2.1 (drM 43 (ot, K, V, R) (z + 3)).2.2.2 (shf (drM 43 (ot, K, V, R) (z + 3)).2.1 43) (shf (drM 43 (ot, K, V, R) (z + 3)).2.2.1 43) (shf (drM 43 (ot, K, V, R) (z + 3)).2.2.2 43)) (i + 1)))), (0, .ref jm), (5, .int (nI i))]) hx hb d_M_same_129 hl (by decide) rfl (fun ls hl => ?_)
                    refine lv_iinc (v := nI (i + 1)) (lv' := [(5, .int (nI (i + 1))), (4, .int (bI (decide (n = z + 3) && alB (eq3 (drM 43 (ot, K, V, R) (z + 3)).2.1 (drM 43 (ot, K, V, R) (z + 3)).2.2.1 (drM 43 (ot, K, V, R) (z + 3)).2.2.2 (shf (drM 43 (ot, K, V, R) (z + 3)).2.1 43) (shf (drM 43 (ot, K, V, R) (z + 3)).2.2.1 43) (shf (drM 43 (ot, K, V, R) (z + 3)).2.2.2 43)) (i + 1)))), (0, .ref jm)]) hx hb d_M_same_131 hl (k := 2) rfl (nI_1 _) (by decide) rfl (fun ls hl => ?_)
                    refine lv_goto (tgt := 50) hx hb d_M_same_134 (by decide) ?_
                    exact ih_50 (i + 1) (by omega) (by first | assumption | omega) ls (lv_sub (l' := [(0, .ref jm), (4, .int (bI (decide (n = z + 3) && alB (eq3 (drM 43 (ot, K, V, R) (z + 3)).2.1 (drM 43 (ot, K, V, R) (z + 3)).2.2.1 (drM 43 (ot, K, V, R) (z + 3)).2.2.2 (shf (drM 43 (ot, K, V, R) (z + 3)).2.1 43) (shf (drM 43 (ot, K, V, R) (z + 3)).2.2.1 43) (shf (drM 43 (ot, K, V, R) (z + 3)).2.2.2 43)) (i + 1)))), (5, .int (nI (i + 1)))]) hl [2, 1, 0] rfl)
                  · skip
                    refine lv_iconst (v := nI 1) hx hb d_M_same_124 (by decide +kernel) ?_
                    refine lv_topi (fun w_33 ew_33 => ?_)
                    have ew_33 : (bI (decide (n = z + 3) && alB (eq3 (drM 43 (ot, K, V, R) (z + 3)).2.1 (drM 43 (ot, K, V, R) (z + 3)).2.2.1 (drM 43 (ot, K, V, R) (z + 3)).2.2.2 (shf (drM 43 (ot, K, V, R) (z + 3)).2.1 43) (shf (drM 43 (ot, K, V, R) (z + 3)).2.2.1 43) (shf (drM 43 (ot, K, V, R) (z + 3)).2.2.2 43)) (i + 1))) = w_33 := (ew_33.trans (by rw [alB_s, ← Bool.and_assoc, c_61]; unfold eq3 shf; rw [decide_eq_true c_81, decide_eq_true c_101, decide_eq_true c_121]; rfl)).symm
                    subst ew_33
                    refine lv_goto (tgt := 129) hx hb d_M_same_125 (by decide) ?_
                    refine lv_istore (lv' := [(4, .int (bI (decide (n = z + 3) && alB (eq3 (drM 43 (ot, K, V, R) (z + 3)).2.1 (drM 43 (ot, K, V, R) (z + 3)).2.2.1 (drM 43 (ot, K, V, R) (z + 3)).2.2.2 (shf (drM 43 (ot, K, V, R) (z + 3)).2.1 43) (shf (drM 43 (ot, K, V, R) (z + 3)).2.2.1 43) (shf (drM 43 (ot, K, V, R) (z + 3)).2.2.2 43)) (i + 1)))), (0, .ref jm), (5, .int (nI i))]) hx hb d_M_same_129 hl (by decide) rfl (fun ls hl => ?_)
                    refine lv_iinc (v := nI (i + 1)) (lv' := [(5, .int (nI (i + 1))), (4, .int (bI (decide (n = z + 3) && alB (eq3 (drM 43 (ot, K, V, R) (z + 3)).2.1 (drM 43 (ot, K, V, R) (z + 3)).2.2.1 (drM 43 (ot, K, V, R) (z + 3)).2.2.2 (shf (drM 43 (ot, K, V, R) (z + 3)).2.1 43) (shf (drM 43 (ot, K, V, R) (z + 3)).2.2.1 43) (shf (drM 43 (ot, K, V, R) (z + 3)).2.2.2 43)) (i + 1)))), (0, .ref jm)]) hx hb d_M_same_131 hl (k := 2) rfl (nI_1 _) (by decide) rfl (fun ls hl => ?_)
                    refine lv_goto (tgt := 50) hx hb d_M_same_134 (by decide) ?_
                    exact ih_50 (i + 1) (by omega) (by first | assumption | omega) ls (lv_sub (l' := [(0, .ref jm), (4, .int (bI (decide (n = z + 3) && alB (eq3 (drM 43 (ot, K, V, R) (z + 3)).2.1 (drM 43 (ot, K, V, R) (z + 3)).2.2.1 (drM 43 (ot, K, V, R) (z + 3)).2.2.2 (shf (drM 43 (ot, K, V, R) (z + 3)).2.1 43) (shf (drM 43 (ot, K, V, R) (z + 3)).2.2.1 43) (shf (drM 43 (ot, K, V, R) (z + 3)).2.2.2 43)) (i + 1)))), (5, .int (nI (i + 1)))]) hl [2, 1, 0] rfl)
      exact lp_50 ((n - 0) + 1) 0 (by omega) (by first | assumption | omega) ls (lv_sub (l' := [(0, .ref jm), (4, .int (bI (decide (n = z + 3) && alB (eq3 (drM 43 (ot, K, V, R) (z + 3)).2.1 (drM 43 (ot, K, V, R) (z + 3)).2.2.1 (drM 43 (ot, K, V, R) (z + 3)).2.2.2 (shf (drM 43 (ot, K, V, R) (z + 3)).2.1 43) (shf (drM 43 (ot, K, V, R) (z + 3)).2.2.1 43) (shf (drM 43 (ot, K, V, R) (z + 3)).2.2.2 43)) 0))), (5, .int (nI 0))]) hl [2, 1, 0] rfl)
  · skip
    have c_7 := bI_f c_7
    exact absurd c_7 (by rw [in_sz hz]; decide)
set_option maxHeartbeats 4000000 in
set_option maxRecDepth 100000 in
/-- reference: same, of no size -/
theorem c_M_samex (l : Launch) (dC : Nat → ClassId) (dI : Nat → Nat → Nat) (jm ik iv ir il iy ig : Nat) (n : Nat) (th : Int32) (sd tp : Int64) (ot : Int64) (p0 : Int32) (hex : szB p0 = false) (sz : Nat) : Met l y_M_same w_M_same ({ frames := 3, cells := 0, slots := 0, locals := 74 }) (wr_P dC dI [.ref jm, .long ot, .int p0] [(jm, .inr (3, [.int th, .long sd, .long tp, .int (nI n), .ref ik, .ref iv, .ref ir, .ref il, .ref iy, .ref ig]))] [] sz) (va_Qi (fun (r : Int32) (_ : Unit) => r = nI 0) (fun (u : Unit) => wr_B dC dI (va_A [(jm, .inr (3, [.int th, .long sd, .long tp, .int (nI n), .ref ik, .ref iv, .ref ir, .ref il, .ref iy, .ref ig]))] sz) [(jm, .inr (3, [.int (nI 1), .long sd, .long tp, .int (nI n), .ref ik, .ref iv, .ref ir, .ref il, .ref iy, .ref ig]))] []) (va_A [(jm, .inr (3, [.int th, .long sd, .long tp, .int (nI n), .ref ik, .ref iv, .ref ir, .ref il, .ref iy, .ref ig]))] sz)) 0 0 (va_A [(jm, .inr (3, [.int th, .long sd, .long tp, .int (nI n), .ref ik, .ref iv, .ref ir, .ref il, .ref iy, .ref ig]))] sz) := by
  refine Met.ofW (cc := b_M_same) (maxL := 6) (ret := (Option.some Jvm.ClassFile.FieldType.boolean)) (by decide) rfl ?_
  intro p e s m args below meth c s₁ B0 hml hv0
  obtain ⟨rfl, hsz, hP, hK, hD0, hN⟩ := hv0
  have hx := B0.exec
  have hb := B0.bytes
  have hr := B0.returns
  have hts := atoms_spec (ws := w_M_same) B0.pre
  have hown : s.vm.findClass R_M = some m.cls := findClass_of_methodNamed B0.named
  have hlocks := B0.notSynchronized
  subst hsz
  have hD := hD0.self (sz := s.heap.size)
  generalize hAe : va_A [(jm, .inr (3, [.int th, .long sd, .long tp, .int (nI n), .ref ik, .ref iv, .ref ir, .ref il, .ref iy, .ref ig]))] s.heap.size = A at hD ⊢
  have hA : ∀ q : Nat, s.heap.size ≤ q → A q := fun q h => by rw [← hAe]; exact Or.inr h
  have hS : va_S A s.heap s.heap [] := va_S.rf
  have hP : va_P (dC, dI) classes [(jm, .inr (3, [.int th, .long sd, .long tp, .int (nI n), .ref ik, .ref iv, .ref ir, .ref il, .ref iy, .ref ig]))] s.heap := hP
  have hl := lv_entry ([.ref jm, .long ot, .int p0]) (n := 6) (Nat.le_of_ble_eq_true rfl)
  rw [lg_entry_eq]
  generalize (lg_sl ([.ref jm, .long ot, .int p0]) ++ List.replicate (6 - (lg_sl ([.ref jm, .long ot, .int p0])).length) Slot.unset).toArray = ls at hl ⊢
  have hl : lv_has ls 6 [(0, .ref jm), (1, .long ot), (3, .int p0)] := hl
  refine lv_iload_n hx hb d_M_same_0 rfl (lv_at hl 2 rfl) ?_
  refine lv_iconst (v := nI 0) hx hb d_M_same_1 (by decide +kernel) ?_
  refine lv_bipush (v := nI 40) hx hb d_M_same_2 (by decide +kernel) ?_
  have hPc := hP.sub (ws' := []) [] rfl
  have hKc := hK.sub (tys' := []) [] rfl
  refine vp_callSi (W.runS (As := [.int p0, .int (nI 0), .int (nI 40)]) (rest := []) ⟨hx, hb, hml, hown, hts⟩ (c_M_in_ l dC dI p0 (nI 0) (nI 40)) (va_cwS 3 hts (g_S big_w m_375 m_376 m_4 m_377) rfl rfl rfl (by decide +kernel) ⟨Nat.le_of_ble_eq_true rfl, Nat.le_of_ble_eq_true rfl⟩) (ro_S hPc hKc hN) rfl rfl hl.1 rfl (lv_room (Nat.le_of_ble_eq_true rfl)) d_M_same_4 ⟨Nat.le_of_ble_eq_true rfl, Nat.le_of_ble_eq_true rfl⟩) (fun r_1 er_1 => ?_)
  have er_1 := er_1.symm
  subst er_1
  refine lv_if_ne (tgt := 17) hx hb d_M_same_7 (by decide) (fun c_7 => ?_) (fun c_7 => ?_)
  · skip
    have c_7 := bI_t c_7
    exact absurd c_7 (by rw [show inB p0 (nI 0) (nI 40) = false from hex]; decide)
  · skip
    have c_7 := bI_f c_7
    refine lv_aload_n hx hb d_M_same_10 rfl (lv_at hl 0 rfl) ?_
    refine lv_iconst (v := nI 1) hx hb d_M_same_11 (by decide +kernel) ?_
    refine va_put (D := (dC, dI)) (ci := 3) (v := .int (nI 1)) (ty := .int) (C := R_M) (T := F_M) (N := 10) hx hb hts (lay_M _) ft_M tok_M nok_M hown hK hP hD hS 0 rfl rfl 0 (by decide) (hts _ (List.mem_cons_of_mem _ m_336)) (fun _ h9 => h9) rfl (by decide +kernel) rfl rfl (Nat.le_of_ble_eq_true rfl) d_M_same_12 (fun H locs hP hD hS => ?_)
    have hP : va_P (dC, dI) classes [(jm, .inr (3, [.int (nI 1), .long sd, .long tp, .int (nI n), .ref ik, .ref iv, .ref ir, .ref il, .ref iy, .ref ig]))] H := hP
    have hD : va_D A [(jm, .inr (3, [.int (nI 1), .long sd, .long tp, .int (nI n), .ref ik, .ref iv, .ref ir, .ref il, .ref iy, .ref ig]))] := hD
    refine lv_iconst (v := nI 0) hx hb d_M_same_15 (by decide +kernel) ?_
    have hP9 := hP.sub (ws' := [(jm, .inr (3, [.int (nI 1), .long sd, .long tp, .int (nI n), .ref ik, .ref iv, .ref ir, .ref il, .ref iy, .ref ig]))]) [0] rfl
    have hD9 := hD.sub (ws' := [(jm, .inr (3, [.int (nI 1), .long sd, .long tp, .int (nI n), .ref ik, .ref iv, .ref ir, .ref il, .ref iy, .ref ig]))]) [0] (by decide) rfl
    have hK9 := hK.sub (tys' := []) [] rfl
    exact W.zret (v := nI 0) (ty := .boolean) hx hb hr (by decide +kernel) (fun t ht hW => ⟨⟨nI 0, (), rfl, rfl, by rw [ht]; exact hP9, va_K.moved hW.alike hK9, hD9⟩, hS.F ht⟩) hS.2.2 d_M_same_16
set_option maxHeartbeats 4000000 in
set_option maxRecDepth 100000 in
/-- reference: fits, of an act -/
theorem c_M_fits (l : Launch) (dC : Nat → ClassId) (dI : Nat → Nat → Nat) (jm ik iv ir il iy ig : Nat) (n : Nat) (th : Int32) (sd tp : Int64) (dk dv dr : ClassId) (K V R : Nat → Int32) (i : Nat) (hn : n ≤ 43) (hR : rfK n R) (hi : i < n) (ha : K i = nI 5) (sz : Nat) : Met l y_M_fits w_M_fits ({ frames := 1, cells := 0, slots := 0, locals := 21 }) (wr_P dC dI [.ref jm, .int (nI i)] [(jm, .inr (3, [.int th, .long sd, .long tp, .int (nI n), .ref ik, .ref iv, .ref ir, .ref il, .ref iy, .ref ig])), (ik, .inl (dk, 86, .inl K)), (iv, .inl (dv, 86, .inl V)), (ir, .inl (dr, 86, .inl R))] [(dk, .int), (dv, .int), (dr, .int)] sz) (va_Qi (fun (r : Int32) (_ : Unit) => r = bI (ft9 V R i)) (fun (u : Unit) => wr_B dC dI (va_A [(jm, .inr (3, [.int th, .long sd, .long tp, .int (nI n), .ref ik, .ref iv, .ref ir, .ref il, .ref iy, .ref ig])), (ik, .inl (dk, 86, .inl K)), (iv, .inl (dv, 86, .inl V)), (ir, .inl (dr, 86, .inl R))] sz) [(jm, .inr (3, [.int (nI 0), .long sd, .long tp, .int (nI n), .ref ik, .ref iv, .ref ir, .ref il, .ref iy, .ref ig])), (ik, .inl (dk, 86, .inl K)), (iv, .inl (dv, 86, .inl V)), (ir, .inl (dr, 86, .inl R))] [(dk, .int), (dv, .int), (dr, .int)]) (va_A [(jm, .inr (3, [.int th, .long sd, .long tp, .int (nI n), .ref ik, .ref iv, .ref ir, .ref il, .ref iy, .ref ig])), (ik, .inl (dk, 86, .inl K)), (iv, .inl (dv, 86, .inl V)), (ir, .inl (dr, 86, .inl R))] sz)) 0 0 (va_A [(jm, .inr (3, [.int th, .long sd, .long tp, .int (nI n), .ref ik, .ref iv, .ref ir, .ref il, .ref iy, .ref ig])), (ik, .inl (dk, 86, .inl K)), (iv, .inl (dv, 86, .inl V)), (ir, .inl (dr, 86, .inl R))] sz) := by
  refine Met.ofW (cc := b_M_fits) (maxL := 2) (ret := (Option.some Jvm.ClassFile.FieldType.boolean)) (by decide) rfl ?_
  intro p e s m args below meth c s₁ B0 hml hv0
  obtain ⟨rfl, hsz, hP, hK, hD0, hN⟩ := hv0
  have hx := B0.exec
  have hb := B0.bytes
  have hr := B0.returns
  have hts := atoms_spec (ws := w_M_fits) B0.pre
  have hown : s.vm.findClass R_M = some m.cls := findClass_of_methodNamed B0.named
  have hlocks := B0.notSynchronized
  subst hsz
  have hD := hD0.self (sz := s.heap.size)
  generalize hAe : va_A [(jm, .inr (3, [.int th, .long sd, .long tp, .int (nI n), .ref ik, .ref iv, .ref ir, .ref il, .ref iy, .ref ig])), (ik, .inl (dk, 86, .inl K)), (iv, .inl (dv, 86, .inl V)), (ir, .inl (dr, 86, .inl R))] s.heap.size = A at hD ⊢
  have hA : ∀ q : Nat, s.heap.size ≤ q → A q := fun q h => by rw [← hAe]; exact Or.inr h
  have hS : va_S A s.heap s.heap [] := va_S.rf
  have hP : va_P (dC, dI) classes [(jm, .inr (3, [.int th, .long sd, .long tp, .int (nI n), .ref ik, .ref iv, .ref ir, .ref il, .ref iy, .ref ig])), (ik, .inl (dk, 86, .inl K)), (iv, .inl (dv, 86, .inl V)), (ir, .inl (dr, 86, .inl R))] s.heap := hP
  have hl := lv_entry ([.ref jm, .int (nI i)]) (n := 2) (Nat.le_of_ble_eq_true rfl)
  rw [lg_entry_eq]
  generalize (lg_sl ([.ref jm, .int (nI i)]) ++ List.replicate (2 - (lg_sl ([.ref jm, .int (nI i)])).length) Slot.unset).toArray = ls at hl ⊢
  have hl : lv_has ls 2 [(0, .ref jm), (1, .int (nI i))] := hl
  refine lv_aload_n hx hb d_M_fits_0 rfl (lv_at hl 0 rfl) ?_
  refine lv_aload_n hx hb d_M_fits_1 rfl (lv_at hl 0 rfl) ?_
  refine lv_iload_n hx hb d_M_fits_2 rfl (lv_at hl 1 rfl) ?_
  have hPc := hP.sub (ws' := [(jm, .inr (3, [.int th, .long sd, .long tp, .int (nI n), .ref ik, .ref iv, .ref ir, .ref il, .ref iy, .ref ig]))]) [0] rfl
  have hKc := hK.sub (tys' := []) [] rfl
  refine vp_callSi (W.runV (As := [.int (nI i)]) (rest := [.ref jm]) ⟨hx, hb, hml, hown, hts⟩ (c_M_isPart l dC dI jm ik iv ir il iy ig n th sd tp (nI i)) (cwV 1 hts (g_V big_w m_411 m_413 ms_26 m_4 m_414) rfl rfl rfl (by decide +kernel) ⟨Nat.le_of_ble_eq_true rfl, Nat.le_of_ble_eq_true rfl⟩) (ro_V hPc hKc hN (va_recv hKc hPc (ci := 3) (q0 := 0) rfl rfl)) rfl rfl hl.1 rfl (lv_room (Nat.le_of_ble_eq_true rfl)) d_M_fits_3 ⟨Nat.le_of_ble_eq_true rfl, Nat.le_of_ble_eq_true rfl⟩) (fun r_1 er_1 => ?_)
  have er_1 := er_1.symm
  subst er_1
  refine lv_if_eq (tgt := 23) hx hb d_M_fits_6 (by decide) (fun c_6 => ?_) (fun c_6 => ?_)
  · skip
    have c_6 := bI_f c_6
    exact absurd c_6 (by rw [hB_nI hi (by omega)]; decide)
  · skip
    have c_6 := bI_t c_6
    refine lv_aload_n hx hb d_M_fits_9 rfl (lv_at hl 0 rfl) ?_
    refine va_get (D := (dC, dI)) (ci := 3) (v := .ref ik) (C := R_M) (T := F_M) (N := 10) hx hb hts (lay_M _) hown hK hP 0 rfl rfl 4 (by decide) (hts _ (List.mem_cons_of_mem _ m_340)) (fun _ h9 => h9) rfl d_M_fits_10 ?_
    refine lv_iload_n hx hb d_M_fits_13 rfl (lv_at hl 1 rfl) ?_
    refine va_iald hx hb hK hP 1 0 rfl rfl (vp_in_nI (by omega) (by omega)) d_M_fits_14 ?_
    refine lv_topi (fun w_2 ew_2 => ?_)
    rw [nI_clamp (by omega)] at ew_2
    have ew_2 := ew_2.symm
    subst ew_2
    refine lv_iconst (v := nI 5) hx hb d_M_fits_15 (by decide +kernel) ?_
    refine lv_icmp_ne (tgt := 23) hx hb d_M_fits_16 (by decide) (fun c_16 => ?_) (fun c_16 => ?_)
    · skip
      exact absurd ha c_16
    · skip
      refine lv_iconst (v := nI 0) hx hb d_M_fits_19 (by decide +kernel) ?_
      refine lv_goto (tgt := 24) hx hb d_M_fits_20 (by decide) ?_
      refine va_put (D := (dC, dI)) (ci := 3) (v := .int (nI 0)) (ty := .int) (C := R_M) (T := F_M) (N := 10) hx hb hts (lay_M _) ft_M tok_M nok_M hown hK hP hD hS 0 rfl rfl 0 (by decide) (hts _ (List.mem_cons_of_mem _ m_336)) (fun _ h9 => h9) rfl (by decide +kernel) rfl rfl (Nat.le_of_ble_eq_true rfl) d_M_fits_24 (fun H locs hP hD hS => ?_)
      have hP : va_P (dC, dI) classes [(jm, .inr (3, [.int (nI 0), .long sd, .long tp, .int (nI n), .ref ik, .ref iv, .ref ir, .ref il, .ref iy, .ref ig])), (ik, .inl (dk, 86, .inl K)), (iv, .inl (dv, 86, .inl V)), (ir, .inl (dr, 86, .inl R))] H := hP
      have hD : va_D A [(jm, .inr (3, [.int (nI 0), .long sd, .long tp, .int (nI n), .ref ik, .ref iv, .ref ir, .ref il, .ref iy, .ref ig])), (ik, .inl (dk, 86, .inl K)), (iv, .inl (dv, 86, .inl V)), (ir, .inl (dr, 86, .inl R))] := hD
      refine lv_aload_n hx hb d_M_fits_27 rfl (lv_at hl 0 rfl) ?_
      refine va_get (D := (dC, dI)) (ci := 3) (v := .int (nI 0)) (C := R_M) (T := F_M) (N := 10) hx hb hts (lay_M _) hown hK hP 0 rfl rfl 0 (by decide) (hts _ (List.mem_cons_of_mem _ m_336)) (fun _ h9 => h9) rfl d_M_fits_28 ?_
      refine lv_if_ne (tgt := 46) hx hb d_M_fits_31 (by decide) (fun c_31 => ?_) (fun c_31 => ?_)
      · skip
        have c_31 := (not_congr (nI_z (by omega))).mp c_31
        exact absurd rfl c_31
      · skip
        have c_31 := (nI_z (by omega)).mp c_31
        refine lv_aload_n hx hb d_M_fits_34 rfl (lv_at hl 0 rfl) ?_
        refine lv_iload_n hx hb d_M_fits_35 rfl (lv_at hl 1 rfl) ?_
        have hPc := hP.sub (ws' := [(jm, .inr (3, [.int (nI 0), .long sd, .long tp, .int (nI n), .ref ik, .ref iv, .ref ir, .ref il, .ref iy, .ref ig])), (iv, .inl (dv, 86, .inl V)), (ir, .inl (dr, 86, .inl R))]) [0, 2, 3] rfl
        have hKc := hK.sub (tys' := [(dv, .int), (dr, .int)]) [1, 2] rfl
        refine vp_callSi (W.runV (As := [.int (nI i)]) (rest := []) ⟨hx, hb, hml, hown, hts⟩ (c_M_isFit l dC dI jm ik iv ir il iy ig n (nI 0) sd tp dv dr V R i (by first | assumption | omega) (by first | assumption | omega) (by first | assumption | omega)) (cwV 1 hts (g_V big_w m_415 m_417 ms_27 m_4 m_418) rfl rfl rfl (by decide +kernel) ⟨Nat.le_of_ble_eq_true rfl, Nat.le_of_ble_eq_true rfl⟩) (ro_V hPc hKc hN (va_recv hKc hPc (ci := 3) (q0 := 0) rfl rfl)) rfl rfl hl.1 rfl (lv_room (Nat.le_of_ble_eq_true rfl)) d_M_fits_36 ⟨Nat.le_of_ble_eq_true rfl, Nat.le_of_ble_eq_true rfl⟩) (fun r_3 er_3 => ?_)
        have er_3 := er_3.symm
        subst er_3
        refine lv_if_eq (tgt := 46) hx hb d_M_fits_39 (by decide) (fun c_39 => ?_) (fun c_39 => ?_)
        · skip
          have c_39 := bI_f c_39
          refine lv_iconst (v := nI 0) hx hb d_M_fits_46 (by decide +kernel) ?_
          have hP9 := hP.sub (ws' := [(jm, .inr (3, [.int (nI 0), .long sd, .long tp, .int (nI n), .ref ik, .ref iv, .ref ir, .ref il, .ref iy, .ref ig])), (ik, .inl (dk, 86, .inl K)), (iv, .inl (dv, 86, .inl V)), (ir, .inl (dr, 86, .inl R))]) [0, 1, 2, 3] rfl
          have hD9 := hD.sub (ws' := [(jm, .inr (3, [.int (nI 0), .long sd, .long tp, .int (nI n), .ref ik, .ref iv, .ref ir, .ref il, .ref iy, .ref ig])), (ik, .inl (dk, 86, .inl K)), (iv, .inl (dv, 86, .inl V)), (ir, .inl (dr, 86, .inl R))]) [0, 1, 2, 3] (by decide) rfl
          have hK9 := hK.sub (tys' := [(dk, .int), (dv, .int), (dr, .int)]) [0, 1, 2] rfl
          exact W.zret (v := nI 0) (ty := .boolean) hx hb hr (by decide +kernel) (fun t ht hW => ⟨⟨nI 0, (), rfl, (by rw [c_39]; rfl), by rw [ht]; exact hP9, va_K.moved hW.alike hK9, hD9⟩, hS.F ht⟩) hS.2.2 d_M_fits_47
        · skip
          have c_39 := bI_t c_39
          refine lv_iconst (v := nI 1) hx hb d_M_fits_42 (by decide +kernel) ?_
          refine lv_goto (tgt := 47) hx hb d_M_fits_43 (by decide) ?_
          have hP9 := hP.sub (ws' := [(jm, .inr (3, [.int (nI 0), .long sd, .long tp, .int (nI n), .ref ik, .ref iv, .ref ir, .ref il, .ref iy, .ref ig])), (ik, .inl (dk, 86, .inl K)), (iv, .inl (dv, 86, .inl V)), (ir, .inl (dr, 86, .inl R))]) [0, 1, 2, 3] rfl
          have hD9 := hD.sub (ws' := [(jm, .inr (3, [.int (nI 0), .long sd, .long tp, .int (nI n), .ref ik, .ref iv, .ref ir, .ref il, .ref iy, .ref ig])), (ik, .inl (dk, 86, .inl K)), (iv, .inl (dv, 86, .inl V)), (ir, .inl (dr, 86, .inl R))]) [0, 1, 2, 3] (by decide) rfl
          have hK9 := hK.sub (tys' := [(dk, .int), (dv, .int), (dr, .int)]) [0, 1, 2] rfl
          exact W.zret (v := nI 1) (ty := .boolean) hx hb hr (by decide +kernel) (fun t ht hW => ⟨⟨nI 1, (), rfl, (by rw [c_39]; rfl), by rw [ht]; exact hP9, va_K.moved hW.alike hK9, hD9⟩, hS.F ht⟩) hS.2.2 d_M_fits_47
set_option maxHeartbeats 4000000 in
set_option maxRecDepth 100000 in
/-- reference: fits, of no act -/
theorem c_M_fitsx (l : Launch) (dC : Nat → ClassId) (dI : Nat → Nat → Nat) (jm ik iv ir il iy ig : Nat) (n : Nat) (th : Int32) (sd tp : Int64) (dk : ClassId) (K : Nat → Int32) (p0 : Int32) (hn : n ≤ 43) (hex : aB n K p0 = false) (sz : Nat) : Met l y_M_fits w_M_fits ({ frames := 1, cells := 0, slots := 0, locals := 21 }) (wr_P dC dI [.ref jm, .int p0] [(jm, .inr (3, [.int th, .long sd, .long tp, .int (nI n), .ref ik, .ref iv, .ref ir, .ref il, .ref iy, .ref ig])), (ik, .inl (dk, 86, .inl K))] [(dk, .int)] sz) (va_Qi (fun (r : Int32) (_ : Unit) => r = nI 0) (fun (u : Unit) => wr_B dC dI (va_A [(jm, .inr (3, [.int th, .long sd, .long tp, .int (nI n), .ref ik, .ref iv, .ref ir, .ref il, .ref iy, .ref ig])), (ik, .inl (dk, 86, .inl K))] sz) [(jm, .inr (3, [.int (nI 1), .long sd, .long tp, .int (nI n), .ref ik, .ref iv, .ref ir, .ref il, .ref iy, .ref ig])), (ik, .inl (dk, 86, .inl K))] [(dk, .int)]) (va_A [(jm, .inr (3, [.int th, .long sd, .long tp, .int (nI n), .ref ik, .ref iv, .ref ir, .ref il, .ref iy, .ref ig])), (ik, .inl (dk, 86, .inl K))] sz)) 0 0 (va_A [(jm, .inr (3, [.int th, .long sd, .long tp, .int (nI n), .ref ik, .ref iv, .ref ir, .ref il, .ref iy, .ref ig])), (ik, .inl (dk, 86, .inl K))] sz) := by
  refine Met.ofW (cc := b_M_fits) (maxL := 2) (ret := (Option.some Jvm.ClassFile.FieldType.boolean)) (by decide) rfl ?_
  intro p e s m args below meth c s₁ B0 hml hv0
  obtain ⟨rfl, hsz, hP, hK, hD0, hN⟩ := hv0
  have hx := B0.exec
  have hb := B0.bytes
  have hr := B0.returns
  have hts := atoms_spec (ws := w_M_fits) B0.pre
  have hown : s.vm.findClass R_M = some m.cls := findClass_of_methodNamed B0.named
  have hlocks := B0.notSynchronized
  subst hsz
  have hD := hD0.self (sz := s.heap.size)
  generalize hAe : va_A [(jm, .inr (3, [.int th, .long sd, .long tp, .int (nI n), .ref ik, .ref iv, .ref ir, .ref il, .ref iy, .ref ig])), (ik, .inl (dk, 86, .inl K))] s.heap.size = A at hD ⊢
  have hA : ∀ q : Nat, s.heap.size ≤ q → A q := fun q h => by rw [← hAe]; exact Or.inr h
  have hS : va_S A s.heap s.heap [] := va_S.rf
  have hP : va_P (dC, dI) classes [(jm, .inr (3, [.int th, .long sd, .long tp, .int (nI n), .ref ik, .ref iv, .ref ir, .ref il, .ref iy, .ref ig])), (ik, .inl (dk, 86, .inl K))] s.heap := hP
  have hl := lv_entry ([.ref jm, .int p0]) (n := 2) (Nat.le_of_ble_eq_true rfl)
  rw [lg_entry_eq]
  generalize (lg_sl ([.ref jm, .int p0]) ++ List.replicate (2 - (lg_sl ([.ref jm, .int p0])).length) Slot.unset).toArray = ls at hl ⊢
  have hl : lv_has ls 2 [(0, .ref jm), (1, .int p0)] := hl
  refine lv_aload_n hx hb d_M_fits_0 rfl (lv_at hl 0 rfl) ?_
  refine lv_aload_n hx hb d_M_fits_1 rfl (lv_at hl 0 rfl) ?_
  refine lv_iload_n hx hb d_M_fits_2 rfl (lv_at hl 1 rfl) ?_
  have hPc := hP.sub (ws' := [(jm, .inr (3, [.int th, .long sd, .long tp, .int (nI n), .ref ik, .ref iv, .ref ir, .ref il, .ref iy, .ref ig]))]) [0] rfl
  have hKc := hK.sub (tys' := []) [] rfl
  refine vp_callSi (W.runV (As := [.int p0]) (rest := [.ref jm]) ⟨hx, hb, hml, hown, hts⟩ (c_M_isPart l dC dI jm ik iv ir il iy ig n th sd tp p0) (cwV 1 hts (g_V big_w m_411 m_413 ms_26 m_4 m_414) rfl rfl rfl (by decide +kernel) ⟨Nat.le_of_ble_eq_true rfl, Nat.le_of_ble_eq_true rfl⟩) (ro_V hPc hKc hN (va_recv hKc hPc (ci := 3) (q0 := 0) rfl rfl)) rfl rfl hl.1 rfl (lv_room (Nat.le_of_ble_eq_true rfl)) d_M_fits_3 ⟨Nat.le_of_ble_eq_true rfl, Nat.le_of_ble_eq_true rfl⟩) (fun r_1 er_1 => ?_)
  have er_1 := er_1.symm
  subst er_1
  refine lv_if_eq (tgt := 23) hx hb d_M_fits_6 (by decide) (fun c_6 => ?_) (fun c_6 => ?_)
  · skip
    have c_6 := bI_f c_6
    refine lv_iconst (v := nI 1) hx hb d_M_fits_23 (by decide +kernel) ?_
    refine va_put (D := (dC, dI)) (ci := 3) (v := .int (nI 1)) (ty := .int) (C := R_M) (T := F_M) (N := 10) hx hb hts (lay_M _) ft_M tok_M nok_M hown hK hP hD hS 0 rfl rfl 0 (by decide) (hts _ (List.mem_cons_of_mem _ m_336)) (fun _ h9 => h9) rfl (by decide +kernel) rfl rfl (Nat.le_of_ble_eq_true rfl) d_M_fits_24 (fun H locs hP hD hS => ?_)
    have hP : va_P (dC, dI) classes [(jm, .inr (3, [.int (nI 1), .long sd, .long tp, .int (nI n), .ref ik, .ref iv, .ref ir, .ref il, .ref iy, .ref ig])), (ik, .inl (dk, 86, .inl K))] H := hP
    have hD : va_D A [(jm, .inr (3, [.int (nI 1), .long sd, .long tp, .int (nI n), .ref ik, .ref iv, .ref ir, .ref il, .ref iy, .ref ig])), (ik, .inl (dk, 86, .inl K))] := hD
    refine lv_aload_n hx hb d_M_fits_27 rfl (lv_at hl 0 rfl) ?_
    refine va_get (D := (dC, dI)) (ci := 3) (v := .int (nI 1)) (C := R_M) (T := F_M) (N := 10) hx hb hts (lay_M _) hown hK hP 0 rfl rfl 0 (by decide) (hts _ (List.mem_cons_of_mem _ m_336)) (fun _ h9 => h9) rfl d_M_fits_28 ?_
    refine lv_if_ne (tgt := 46) hx hb d_M_fits_31 (by decide) (fun c_31 => ?_) (fun c_31 => ?_)
    · skip
      have c_31 := (not_congr (nI_z (by omega))).mp c_31
      refine lv_iconst (v := nI 0) hx hb d_M_fits_46 (by decide +kernel) ?_
      have hP9 := hP.sub (ws' := [(jm, .inr (3, [.int (nI 1), .long sd, .long tp, .int (nI n), .ref ik, .ref iv, .ref ir, .ref il, .ref iy, .ref ig])), (ik, .inl (dk, 86, .inl K))]) [0, 1] rfl
      have hD9 := hD.sub (ws' := [(jm, .inr (3, [.int (nI 1), .long sd, .long tp, .int (nI n), .ref ik, .ref iv, .ref ir, .ref il, .ref iy, .ref ig])), (ik, .inl (dk, 86, .inl K))]) [0, 1] (by decide) rfl
      have hK9 := hK.sub (tys' := [(dk, .int)]) [0] rfl
      exact W.zret (v := nI 0) (ty := .boolean) hx hb hr (by decide +kernel) (fun t ht hW => ⟨⟨nI 0, (), rfl, rfl, by rw [ht]; exact hP9, va_K.moved hW.alike hK9, hD9⟩, hS.F ht⟩) hS.2.2 d_M_fits_47
    · skip
      have c_31 := (nI_z (by omega)).mp c_31
      exact absurd c_31 (by decide)
  · skip
    have c_6 := bI_t c_6
    refine lv_aload_n hx hb d_M_fits_9 rfl (lv_at hl 0 rfl) ?_
    refine va_get (D := (dC, dI)) (ci := 3) (v := .ref ik) (C := R_M) (T := F_M) (N := 10) hx hb hts (lay_M _) hown hK hP 0 rfl rfl 4 (by decide) (hts _ (List.mem_cons_of_mem _ m_340)) (fun _ h9 => h9) rfl d_M_fits_10 ?_
    refine lv_iload_n hx hb d_M_fits_13 rfl (lv_at hl 1 rfl) ?_
    refine va_iald hx hb hK hP 1 0 rfl rfl (hB_i86 c_6 hn) d_M_fits_14 ?_
    refine lv_iconst (v := nI 5) hx hb d_M_fits_15 (by decide +kernel) ?_
    refine lv_icmp_ne (tgt := 23) hx hb d_M_fits_16 (by decide) (fun c_16 => ?_) (fun c_16 => ?_)
    · skip
      refine lv_iconst (v := nI 1) hx hb d_M_fits_23 (by decide +kernel) ?_
      refine va_put (D := (dC, dI)) (ci := 3) (v := .int (nI 1)) (ty := .int) (C := R_M) (T := F_M) (N := 10) hx hb hts (lay_M _) ft_M tok_M nok_M hown hK hP hD hS 0 rfl rfl 0 (by decide) (hts _ (List.mem_cons_of_mem _ m_336)) (fun _ h9 => h9) rfl (by decide +kernel) rfl rfl (Nat.le_of_ble_eq_true rfl) d_M_fits_24 (fun H locs hP hD hS => ?_)
      have hP : va_P (dC, dI) classes [(jm, .inr (3, [.int (nI 1), .long sd, .long tp, .int (nI n), .ref ik, .ref iv, .ref ir, .ref il, .ref iy, .ref ig])), (ik, .inl (dk, 86, .inl K))] H := hP
      have hD : va_D A [(jm, .inr (3, [.int (nI 1), .long sd, .long tp, .int (nI n), .ref ik, .ref iv, .ref ir, .ref il, .ref iy, .ref ig])), (ik, .inl (dk, 86, .inl K))] := hD
      refine lv_aload_n hx hb d_M_fits_27 rfl (lv_at hl 0 rfl) ?_
      refine va_get (D := (dC, dI)) (ci := 3) (v := .int (nI 1)) (C := R_M) (T := F_M) (N := 10) hx hb hts (lay_M _) hown hK hP 0 rfl rfl 0 (by decide) (hts _ (List.mem_cons_of_mem _ m_336)) (fun _ h9 => h9) rfl d_M_fits_28 ?_
      refine lv_if_ne (tgt := 46) hx hb d_M_fits_31 (by decide) (fun c_31 => ?_) (fun c_31 => ?_)
      · skip
        have c_31 := (not_congr (nI_z (by omega))).mp c_31
        refine lv_iconst (v := nI 0) hx hb d_M_fits_46 (by decide +kernel) ?_
        have hP9 := hP.sub (ws' := [(jm, .inr (3, [.int (nI 1), .long sd, .long tp, .int (nI n), .ref ik, .ref iv, .ref ir, .ref il, .ref iy, .ref ig])), (ik, .inl (dk, 86, .inl K))]) [0, 1] rfl
        have hD9 := hD.sub (ws' := [(jm, .inr (3, [.int (nI 1), .long sd, .long tp, .int (nI n), .ref ik, .ref iv, .ref ir, .ref il, .ref iy, .ref ig])), (ik, .inl (dk, 86, .inl K))]) [0, 1] (by decide) rfl
        have hK9 := hK.sub (tys' := [(dk, .int)]) [0] rfl
        exact W.zret (v := nI 0) (ty := .boolean) hx hb hr (by decide +kernel) (fun t ht hW => ⟨⟨nI 0, (), rfl, rfl, by rw [ht]; exact hP9, va_K.moved hW.alike hK9, hD9⟩, hS.F ht⟩) hS.2.2 d_M_fits_47
      · skip
        have c_31 := (nI_z (by omega)).mp c_31
        exact absurd c_31 (by decide)
    · skip
      exact absurd hex (by unfold aB; rw [c_6, decide_eq_true c_16]; decide)
set_option maxHeartbeats 4000000 in
set_option maxRecDepth 100000 in
/-- reference: without, of a part that is left -/
theorem c_M_without (l : Launch) (dC : Nat → ClassId) (dI : Nat → Nat → Nat) (jm ik iv ir il iy ig : Nat) (n : Nat) (th : Int32) (sd tp : Int64) (dr dl dg : ClassId) (R : Nat → Int32) (L G : Nat → Bool) (i : Nat) (hn : n ≤ 43) (hR : rfK n R) (hi : i < n) (hw9 : L i = true) (sz : Nat) : Met l y_M_without w_M_without ({ frames := 2, cells := 0, slots := 0, locals := 44 }) (wr_P dC dI [.ref jm, .int (nI i)] [(jm, .inr (3, [.int th, .long sd, .long tp, .int (nI n), .ref ik, .ref iv, .ref ir, .ref il, .ref iy, .ref ig])), (ir, .inl (dr, 86, .inl R)), (il, .inl (dl, 43, .inl (bF L))), (ig, .inl (dg, 43, .inl (bF G)))] [(dr, .int), (dl, .boolean), (dg, .boolean)] sz) (va_Qi (fun (r : Int32) (_ : Unit) => r = nI (cnt (mkB R L i) n)) (fun (u : Unit) => wr_B dC dI (va_A [(jm, .inr (3, [.int th, .long sd, .long tp, .int (nI n), .ref ik, .ref iv, .ref ir, .ref il, .ref iy, .ref ig])), (ir, .inl (dr, 86, .inl R)), (il, .inl (dl, 43, .inl (bF L))), (ig, .inl (dg, 43, .inl (bF G)))] sz) [(jm, .inr (3, [.int (nI 0), .long sd, .long tp, .int (nI n), .ref ik, .ref iv, .ref ir, .ref il, .ref iy, .ref ig])), (ir, .inl (dr, 86, .inl R)), (il, .inl (dl, 43, .inl (bF (lvF n L (mkF R L i n))))), (ig, .inl (dg, 43, .inl (bF (mkF R L i n))))] [(dr, .int), (dl, .boolean), (dg, .boolean)]) (va_A [(jm, .inr (3, [.int th, .long sd, .long tp, .int (nI n), .ref ik, .ref iv, .ref ir, .ref il, .ref iy, .ref ig])), (ir, .inl (dr, 86, .inl R)), (il, .inl (dl, 43, .inl (bF L))), (ig, .inl (dg, 43, .inl (bF G)))] sz)) 0 0 (va_A [(jm, .inr (3, [.int th, .long sd, .long tp, .int (nI n), .ref ik, .ref iv, .ref ir, .ref il, .ref iy, .ref ig])), (ir, .inl (dr, 86, .inl R)), (il, .inl (dl, 43, .inl (bF L))), (ig, .inl (dg, 43, .inl (bF G)))] sz) := by
  refine Met.ofW (cc := b_M_without) (maxL := 3) (ret := (Option.some Jvm.ClassFile.FieldType.int)) (by decide) rfl ?_
  intro p e s m args below meth c s₁ B0 hml hv0
  obtain ⟨rfl, hsz, hP, hK, hD0, hN⟩ := hv0
  have hx := B0.exec
  have hb := B0.bytes
  have hr := B0.returns
  have hts := atoms_spec (ws := w_M_without) B0.pre
  have hown : s.vm.findClass R_M = some m.cls := findClass_of_methodNamed B0.named
  have hlocks := B0.notSynchronized
  subst hsz
  have hD := hD0.self (sz := s.heap.size)
  generalize hAe : va_A [(jm, .inr (3, [.int th, .long sd, .long tp, .int (nI n), .ref ik, .ref iv, .ref ir, .ref il, .ref iy, .ref ig])), (ir, .inl (dr, 86, .inl R)), (il, .inl (dl, 43, .inl (bF L))), (ig, .inl (dg, 43, .inl (bF G)))] s.heap.size = A at hD ⊢
  have hA : ∀ q : Nat, s.heap.size ≤ q → A q := fun q h => by rw [← hAe]; exact Or.inr h
  have hS : va_S A s.heap s.heap [] := va_S.rf
  have hP : va_P (dC, dI) classes [(jm, .inr (3, [.int th, .long sd, .long tp, .int (nI n), .ref ik, .ref iv, .ref ir, .ref il, .ref iy, .ref ig])), (ir, .inl (dr, 86, .inl R)), (il, .inl (dl, 43, .inl (bF L))), (ig, .inl (dg, 43, .inl (bF G)))] s.heap := hP
  have hl := lv_entry ([.ref jm, .int (nI i)]) (n := 3) (Nat.le_of_ble_eq_true rfl)
  rw [lg_entry_eq]
  generalize (lg_sl ([.ref jm, .int (nI i)]) ++ List.replicate (3 - (lg_sl ([.ref jm, .int (nI i)])).length) Slot.unset).toArray = ls at hl ⊢
  have hl : lv_has ls 3 [(0, .ref jm), (1, .int (nI i))] := hl
  refine lv_aload_n hx hb d_M_without_0 rfl (lv_at hl 0 rfl) ?_
  refine lv_iload_n hx hb d_M_without_1 rfl (lv_at hl 1 rfl) ?_
  have hPc := hP.sub (ws' := [(jm, .inr (3, [.int th, .long sd, .long tp, .int (nI n), .ref ik, .ref iv, .ref ir, .ref il, .ref iy, .ref ig]))]) [0] rfl
  have hKc := hK.sub (tys' := []) [] rfl
  refine vp_callSi (W.runV (As := [.int (nI i)]) (rest := []) ⟨hx, hb, hml, hown, hts⟩ (c_M_isPart l dC dI jm ik iv ir il iy ig n th sd tp (nI i)) (cwV 1 hts (g_V big_w m_411 m_413 ms_26 m_4 m_414) rfl rfl rfl (by decide +kernel) ⟨Nat.le_of_ble_eq_true rfl, Nat.le_of_ble_eq_true rfl⟩) (ro_V hPc hKc hN (va_recv hKc hPc (ci := 3) (q0 := 0) rfl rfl)) rfl rfl hl.1 rfl (lv_room (Nat.le_of_ble_eq_true rfl)) d_M_without_2 ⟨Nat.le_of_ble_eq_true rfl, Nat.le_of_ble_eq_true rfl⟩) (fun r_1 er_1 => ?_)
  have er_1 := er_1.symm
  subst er_1
  refine lv_if_eq (tgt := 17) hx hb d_M_without_5 (by decide) (fun c_5 => ?_) (fun c_5 => ?_)
  · skip
    have c_5 := bI_f c_5
    exact absurd c_5 (by rw [hB_nI hi (by omega)]; decide)
  · skip
    have c_5 := bI_t c_5
    refine lv_aload_n hx hb d_M_without_8 rfl (lv_at hl 0 rfl) ?_
    refine va_get (D := (dC, dI)) (ci := 3) (v := .ref il) (C := R_M) (T := F_M) (N := 10) hx hb hts (lay_M _) hown hK hP 0 rfl rfl 7 (by decide) (hts _ (List.mem_cons_of_mem _ m_343)) (fun _ h9 => h9) rfl d_M_without_9 ?_
    refine lv_iload_n hx hb d_M_without_12 rfl (lv_at hl 1 rfl) ?_
    refine va_zald hx hb hK hP 2 1 rfl rfl (vp_in_nI (by omega) (by omega)) d_M_without_13 ?_
    refine lv_topi (fun w_2 ew_2 => ?_)
    have ew_2 : (bI (L i)) = w_2 := (ew_2.trans (by rw [nI_clamp (by omega)]; rfl)).symm
    subst ew_2
    refine lv_if_ne (tgt := 23) hx hb d_M_without_14 (by decide) (fun c_14 => ?_) (fun c_14 => ?_)
    · skip
      have c_14 := bI_t c_14
      refine lv_aload_n hx hb d_M_without_23 rfl (lv_at hl 0 rfl) ?_
      refine lv_iconst (v := nI 0) hx hb d_M_without_24 (by decide +kernel) ?_
      refine va_put (D := (dC, dI)) (ci := 3) (v := .int (nI 0)) (ty := .int) (C := R_M) (T := F_M) (N := 10) hx hb hts (lay_M _) ft_M tok_M nok_M hown hK hP hD hS 0 rfl rfl 0 (by decide) (hts _ (List.mem_cons_of_mem _ m_336)) (fun _ h9 => h9) rfl (by decide +kernel) rfl rfl (Nat.le_of_ble_eq_true rfl) d_M_without_25 (fun H locs hP hD hS => ?_)
      have hP : va_P (dC, dI) classes [(jm, .inr (3, [.int (nI 0), .long sd, .long tp, .int (nI n), .ref ik, .ref iv, .ref ir, .ref il, .ref iy, .ref ig])), (ir, .inl (dr, 86, .inl R)), (il, .inl (dl, 43, .inl (bF L))), (ig, .inl (dg, 43, .inl (bF G)))] H := hP
      have hD : va_D A [(jm, .inr (3, [.int (nI 0), .long sd, .long tp, .int (nI n), .ref ik, .ref iv, .ref ir, .ref il, .ref iy, .ref ig])), (ir, .inl (dr, 86, .inl R)), (il, .inl (dl, 43, .inl (bF L))), (ig, .inl (dg, 43, .inl (bF G)))] := hD
      refine lv_aload_n hx hb d_M_without_28 rfl (lv_at hl 0 rfl) ?_
      refine lv_iload_n hx hb d_M_without_29 rfl (lv_at hl 1 rfl) ?_
      have hPc := hP.sub (ws' := [(jm, .inr (3, [.int (nI 0), .long sd, .long tp, .int (nI n), .ref ik, .ref iv, .ref ir, .ref il, .ref iy, .ref ig])), (ir, .inl (dr, 86, .inl R)), (il, .inl (dl, 43, .inl (bF L))), (ig, .inl (dg, 43, .inl (bF G)))]) [0, 1, 2, 3] rfl
      have hKc := hK.sub (tys' := [(dr, .int), (dl, .boolean), (dg, .boolean)]) [0, 1, 2] rfl
      have hDc := hD.sub (ws' := [(jm, .inr (3, [.int (nI 0), .long sd, .long tp, .int (nI n), .ref ik, .ref iv, .ref ir, .ref il, .ref iy, .ref ig])), (ir, .inl (dr, 86, .inl R)), (il, .inl (dl, 43, .inl (bF L))), (ig, .inl (dg, 43, .inl (bF G)))]) [0, 1, 2, 3] (by decide) rfl
      have hFc := va_free (wc := [(jm, .inr (3, [.int (nI 0), .long sd, .long tp, .int (nI n), .ref ik, .ref iv, .ref ir, .ref il, .ref iy, .ref ig])), (ir, .inl (dr, 86, .inl R)), (il, .inl (dl, 43, .inl (bF L))), (ig, .inl (dg, 43, .inl (bF G)))]) hD hS hA [0, 1, 2, 3] rfl
      refine va_calli (va_runV (As := [.int (nI i)]) (rest := []) ⟨hx, hb, hml, hown, hts⟩ (c_M_marks l dC dI jm ik iv ir il iy ig n (nI 0) sd tp dr dl dg R L G i (by first | assumption | omega) (by first | assumption | omega) (by first | assumption | omega) _) (cwV 1 hts (g_V big_w m_447 m_449 ms_32 m_4 m_450) rfl rfl rfl (by decide +kernel) ⟨Nat.le_of_ble_eq_true rfl, Nat.le_of_ble_eq_true rfl⟩) (wr_V hPc hKc hDc hN (va_recv hKc hPc (ci := 3) (q0 := 0) rfl rfl)) rfl rfl hl.1 rfl (lv_room (Nat.le_of_ble_eq_true rfl)) d_M_without_30 ⟨Nat.le_of_ble_eq_true rfl, Nat.le_of_ble_eq_true rfl⟩) hS (fun q _ h => hFc q h) hFc (fun r_3 u t H1 locs ht hvm hw hB hz1 hk1 hS => ?_)
      obtain ⟨hP1, hK1, hD1⟩ := hB
      rw [ht] at hP1
      obtain ⟨hP, hD⟩ := va_join (wr := []) (w1 := [(jm, .inr (3, [.int (nI 0), .long sd, .long tp, .int (nI n), .ref ik, .ref iv, .ref ir, .ref il, .ref iy, .ref ig])), (ir, .inl (dr, 86, .inl R)), (il, .inl (dl, 43, .inl (bF L))), (ig, .inl (dg, 43, .inl (bF (mkF R L i n))))]) hP hD [0, 1, 2, 3] [] rfl rfl (by decide) (by decide) hk1 hFc hP1 hD1
      generalize H1 = H at hP hS ⊢
      have hP : va_P (dC, dI) classes [(jm, .inr (3, [.int (nI 0), .long sd, .long tp, .int (nI n), .ref ik, .ref iv, .ref ir, .ref il, .ref iy, .ref ig])), (ir, .inl (dr, 86, .inl R)), (il, .inl (dl, 43, .inl (bF L))), (ig, .inl (dg, 43, .inl (bF (mkF R L i n))))] H := hP
      have hD : va_D A [(jm, .inr (3, [.int (nI 0), .long sd, .long tp, .int (nI n), .ref ik, .ref iv, .ref ir, .ref il, .ref iy, .ref ig])), (ir, .inl (dr, 86, .inl R)), (il, .inl (dl, 43, .inl (bF L))), (ig, .inl (dg, 43, .inl (bF (mkF R L i n))))] := hD
      have hw := hw.symm
      subst hw
      refine lv_istore_n (lv' := [(2, .int (nI (cnt (mkB R L i) n))), (0, .ref jm), (1, .int (nI i))]) hx hb d_M_without_33 rfl hl (by decide) rfl (fun ls hl => ?_)
      refine lv_aload_n hx hb d_M_without_34 rfl (lv_at hl 1 rfl) ?_
      have hPc := hP.sub (ws' := [(jm, .inr (3, [.int (nI 0), .long sd, .long tp, .int (nI n), .ref ik, .ref iv, .ref ir, .ref il, .ref iy, .ref ig])), (il, .inl (dl, 43, .inl (bF L))), (ig, .inl (dg, 43, .inl (bF (mkF R L i n))))]) [0, 2, 3] rfl
      have hKc := hK.sub (tys' := [(dl, .boolean), (dg, .boolean)]) [1, 2] rfl
      have hDc := hD.sub (ws' := [(jm, .inr (3, [.int (nI 0), .long sd, .long tp, .int (nI n), .ref ik, .ref iv, .ref ir, .ref il, .ref iy, .ref ig])), (il, .inl (dl, 43, .inl (bF L))), (ig, .inl (dg, 43, .inl (bF (mkF R L i n))))]) [0, 2, 3] (by decide) rfl
      have hFc := va_free (wc := [(jm, .inr (3, [.int (nI 0), .long sd, .long tp, .int (nI n), .ref ik, .ref iv, .ref ir, .ref il, .ref iy, .ref ig])), (il, .inl (dl, 43, .inl (bF L))), (ig, .inl (dg, 43, .inl (bF (mkF R L i n))))]) hD hS hA [0, 2, 3] rfl
      refine va_callv (va_runV (As := []) (rest := []) ⟨hx, hb, hml, hown, hts⟩ (c_M_leaves l dC dI jm ik iv ir il iy ig n (nI 0) sd tp dl dg L (mkF R L i n) (by first | assumption | omega) _) (cwV 0 hts (g_V big_w m_455 m_457 ms_34 m_4 m_458) rfl rfl rfl (by decide +kernel) ⟨Nat.le_of_ble_eq_true rfl, Nat.le_of_ble_eq_true rfl⟩) (wr_V hPc hKc hDc hN (va_recv hKc hPc (ci := 3) (q0 := 0) rfl rfl)) rfl rfl hl.1 rfl (lv_room (Nat.le_of_ble_eq_true rfl)) d_M_without_35 ⟨Nat.le_of_ble_eq_true rfl, Nat.le_of_ble_eq_true rfl⟩) hS (fun q _ h => hFc q h) hFc (fun u t H1 locs ht hvm hw hB hz1 hk1 hS => ?_)
      obtain ⟨hP1, hK1, hD1⟩ := hB
      rw [ht] at hP1
      obtain ⟨hP, hD⟩ := va_join (wr := [(ir, .inl (dr, 86, .inl R))]) (w1 := [(jm, .inr (3, [.int (nI 0), .long sd, .long tp, .int (nI n), .ref ik, .ref iv, .ref ir, .ref il, .ref iy, .ref ig])), (il, .inl (dl, 43, .inl (bF (lvF n L (mkF R L i n))))), (ig, .inl (dg, 43, .inl (bF (mkF R L i n))))]) hP hD [0, 2, 3] [1] rfl rfl (by decide) (by decide) hk1 hFc hP1 hD1
      generalize H1 = H at hP hS ⊢
      have hP : va_P (dC, dI) classes [(ir, .inl (dr, 86, .inl R)), (jm, .inr (3, [.int (nI 0), .long sd, .long tp, .int (nI n), .ref ik, .ref iv, .ref ir, .ref il, .ref iy, .ref ig])), (il, .inl (dl, 43, .inl (bF (lvF n L (mkF R L i n))))), (ig, .inl (dg, 43, .inl (bF (mkF R L i n))))] H := hP
      have hD : va_D A [(ir, .inl (dr, 86, .inl R)), (jm, .inr (3, [.int (nI 0), .long sd, .long tp, .int (nI n), .ref ik, .ref iv, .ref ir, .ref il, .ref iy, .ref ig])), (il, .inl (dl, 43, .inl (bF (lvF n L (mkF R L i n))))), (ig, .inl (dg, 43, .inl (bF (mkF R L i n))))] := hD
      refine lv_iload_n hx hb d_M_without_38 rfl (lv_at hl 0 rfl) ?_
      have hP9 := hP.sub (ws' := [(jm, .inr (3, [.int (nI 0), .long sd, .long tp, .int (nI n), .ref ik, .ref iv, .ref ir, .ref il, .ref iy, .ref ig])), (ir, .inl (dr, 86, .inl R)), (il, .inl (dl, 43, .inl (bF (lvF n L (mkF R L i n))))), (ig, .inl (dg, 43, .inl (bF (mkF R L i n))))]) [1, 0, 2, 3] rfl
      have hD9 := hD.sub (ws' := [(jm, .inr (3, [.int (nI 0), .long sd, .long tp, .int (nI n), .ref ik, .ref iv, .ref ir, .ref il, .ref iy, .ref ig])), (ir, .inl (dr, 86, .inl R)), (il, .inl (dl, 43, .inl (bF (lvF n L (mkF R L i n))))), (ig, .inl (dg, 43, .inl (bF (mkF R L i n))))]) [1, 0, 2, 3] (by decide) rfl
      have hK9 := hK.sub (tys' := [(dr, .int), (dl, .boolean), (dg, .boolean)]) [0, 1, 2] rfl
      exact W.iret (v := nI (cnt (mkB R L i) n)) hx hb hr (fun t ht hW => ⟨⟨nI (cnt (mkB R L i) n), (), rfl, rfl, by rw [ht]; exact hP9, va_K.moved hW.alike hK9, hD9⟩, hS.F ht⟩) hS.2.2 d_M_without_39
    · skip
      have c_14 := bI_f c_14
      exact absurd c_14 (by rw [hw9]; decide)
set_option maxHeartbeats 4000000 in
set_option maxRecDepth 100000 in
/-- reference: without, of another -/
theorem c_M_withoutx (l : Launch) (dC : Nat → ClassId) (dI : Nat → Nat → Nat) (jm ik iv ir il iy ig : Nat) (n : Nat) (th : Int32) (sd tp : Int64) (dl : ClassId) (L : Nat → Bool) (p0 : Int32) (hn : n ≤ 43) (hex : hB n p0 = false ∨ L p0.toNatClampNeg = false) (sz : Nat) : Met l y_M_without w_M_without ({ frames := 2, cells := 0, slots := 0, locals := 44 }) (wr_P dC dI [.ref jm, .int p0] [(jm, .inr (3, [.int th, .long sd, .long tp, .int (nI n), .ref ik, .ref iv, .ref ir, .ref il, .ref iy, .ref ig])), (il, .inl (dl, 43, .inl (bF L)))] [(dl, .boolean)] sz) (va_Qi (fun (r : Int32) (_ : Unit) => r = nI 0) (fun (u : Unit) => wr_B dC dI (va_A [(jm, .inr (3, [.int th, .long sd, .long tp, .int (nI n), .ref ik, .ref iv, .ref ir, .ref il, .ref iy, .ref ig])), (il, .inl (dl, 43, .inl (bF L)))] sz) [(jm, .inr (3, [.int (nI 1), .long sd, .long tp, .int (nI n), .ref ik, .ref iv, .ref ir, .ref il, .ref iy, .ref ig])), (il, .inl (dl, 43, .inl (bF L)))] [(dl, .boolean)]) (va_A [(jm, .inr (3, [.int th, .long sd, .long tp, .int (nI n), .ref ik, .ref iv, .ref ir, .ref il, .ref iy, .ref ig])), (il, .inl (dl, 43, .inl (bF L)))] sz)) 0 0 (va_A [(jm, .inr (3, [.int th, .long sd, .long tp, .int (nI n), .ref ik, .ref iv, .ref ir, .ref il, .ref iy, .ref ig])), (il, .inl (dl, 43, .inl (bF L)))] sz) := by
  refine Met.ofW (cc := b_M_without) (maxL := 3) (ret := (Option.some Jvm.ClassFile.FieldType.int)) (by decide) rfl ?_
  intro p e s m args below meth c s₁ B0 hml hv0
  obtain ⟨rfl, hsz, hP, hK, hD0, hN⟩ := hv0
  have hx := B0.exec
  have hb := B0.bytes
  have hr := B0.returns
  have hts := atoms_spec (ws := w_M_without) B0.pre
  have hown : s.vm.findClass R_M = some m.cls := findClass_of_methodNamed B0.named
  have hlocks := B0.notSynchronized
  subst hsz
  have hD := hD0.self (sz := s.heap.size)
  generalize hAe : va_A [(jm, .inr (3, [.int th, .long sd, .long tp, .int (nI n), .ref ik, .ref iv, .ref ir, .ref il, .ref iy, .ref ig])), (il, .inl (dl, 43, .inl (bF L)))] s.heap.size = A at hD ⊢
  have hA : ∀ q : Nat, s.heap.size ≤ q → A q := fun q h => by rw [← hAe]; exact Or.inr h
  have hS : va_S A s.heap s.heap [] := va_S.rf
  have hP : va_P (dC, dI) classes [(jm, .inr (3, [.int th, .long sd, .long tp, .int (nI n), .ref ik, .ref iv, .ref ir, .ref il, .ref iy, .ref ig])), (il, .inl (dl, 43, .inl (bF L)))] s.heap := hP
  have hl := lv_entry ([.ref jm, .int p0]) (n := 3) (Nat.le_of_ble_eq_true rfl)
  rw [lg_entry_eq]
  generalize (lg_sl ([.ref jm, .int p0]) ++ List.replicate (3 - (lg_sl ([.ref jm, .int p0])).length) Slot.unset).toArray = ls at hl ⊢
  have hl : lv_has ls 3 [(0, .ref jm), (1, .int p0)] := hl
  refine lv_aload_n hx hb d_M_without_0 rfl (lv_at hl 0 rfl) ?_
  refine lv_iload_n hx hb d_M_without_1 rfl (lv_at hl 1 rfl) ?_
  have hPc := hP.sub (ws' := [(jm, .inr (3, [.int th, .long sd, .long tp, .int (nI n), .ref ik, .ref iv, .ref ir, .ref il, .ref iy, .ref ig]))]) [0] rfl
  have hKc := hK.sub (tys' := []) [] rfl
  refine vp_callSi (W.runV (As := [.int p0]) (rest := []) ⟨hx, hb, hml, hown, hts⟩ (c_M_isPart l dC dI jm ik iv ir il iy ig n th sd tp p0) (cwV 1 hts (g_V big_w m_411 m_413 ms_26 m_4 m_414) rfl rfl rfl (by decide +kernel) ⟨Nat.le_of_ble_eq_true rfl, Nat.le_of_ble_eq_true rfl⟩) (ro_V hPc hKc hN (va_recv hKc hPc (ci := 3) (q0 := 0) rfl rfl)) rfl rfl hl.1 rfl (lv_room (Nat.le_of_ble_eq_true rfl)) d_M_without_2 ⟨Nat.le_of_ble_eq_true rfl, Nat.le_of_ble_eq_true rfl⟩) (fun r_1 er_1 => ?_)
  have er_1 := er_1.symm
  subst er_1
  refine lv_if_eq (tgt := 17) hx hb d_M_without_5 (by decide) (fun c_5 => ?_) (fun c_5 => ?_)
  · skip
    have c_5 := bI_f c_5
    refine lv_aload_n hx hb d_M_without_17 rfl (lv_at hl 0 rfl) ?_
    refine lv_iconst (v := nI 1) hx hb d_M_without_18 (by decide +kernel) ?_
    have hPc := hP.sub (ws' := [(jm, .inr (3, [.int th, .long sd, .long tp, .int (nI n), .ref ik, .ref iv, .ref ir, .ref il, .ref iy, .ref ig]))]) [0] rfl
    have hKc := hK.sub (tys' := []) [] rfl
    have hDc := hD.sub (ws' := [(jm, .inr (3, [.int th, .long sd, .long tp, .int (nI n), .ref ik, .ref iv, .ref ir, .ref il, .ref iy, .ref ig]))]) [0] (by decide) rfl
    have hFc := va_free (wc := [(jm, .inr (3, [.int th, .long sd, .long tp, .int (nI n), .ref ik, .ref iv, .ref ir, .ref il, .ref iy, .ref ig]))]) hD hS hA [0] rfl
    refine va_calli (va_runV (As := [.int (nI 1)]) (rest := []) ⟨hx, hb, hml, hown, hts⟩ (c_M_refuse l dC dI jm ik iv ir il iy ig n th sd tp (nI 1) _) (cwV 1 hts (g_V big_w m_378 m_380 ms_21 m_4 m_381) rfl rfl rfl (by decide +kernel) ⟨Nat.le_of_ble_eq_true rfl, Nat.le_of_ble_eq_true rfl⟩) (wr_V hPc hKc hDc hN (va_recv hKc hPc (ci := 3) (q0 := 0) rfl rfl)) rfl rfl hl.1 rfl (lv_room (Nat.le_of_ble_eq_true rfl)) d_M_without_19 ⟨Nat.le_of_ble_eq_true rfl, Nat.le_of_ble_eq_true rfl⟩) hS (fun q _ h => hFc q h) hFc (fun r_2 u t H1 locs ht hvm hw hB hz1 hk1 hS => ?_)
    obtain ⟨hP1, hK1, hD1⟩ := hB
    rw [ht] at hP1
    obtain ⟨hP, hD⟩ := va_join (wr := [(il, .inl (dl, 43, .inl (bF L)))]) (w1 := [(jm, .inr (3, [.int (nI 1), .long sd, .long tp, .int (nI n), .ref ik, .ref iv, .ref ir, .ref il, .ref iy, .ref ig]))]) hP hD [0] [1] rfl rfl (by decide) (by decide) hk1 hFc hP1 hD1
    generalize H1 = H at hP hS ⊢
    have hP : va_P (dC, dI) classes [(il, .inl (dl, 43, .inl (bF L))), (jm, .inr (3, [.int (nI 1), .long sd, .long tp, .int (nI n), .ref ik, .ref iv, .ref ir, .ref il, .ref iy, .ref ig]))] H := hP
    have hD : va_D A [(il, .inl (dl, 43, .inl (bF L))), (jm, .inr (3, [.int (nI 1), .long sd, .long tp, .int (nI n), .ref ik, .ref iv, .ref ir, .ref il, .ref iy, .ref ig]))] := hD
    have hw := hw.symm
    subst hw
    have hP9 := hP.sub (ws' := [(jm, .inr (3, [.int (nI 1), .long sd, .long tp, .int (nI n), .ref ik, .ref iv, .ref ir, .ref il, .ref iy, .ref ig])), (il, .inl (dl, 43, .inl (bF L)))]) [1, 0] rfl
    have hD9 := hD.sub (ws' := [(jm, .inr (3, [.int (nI 1), .long sd, .long tp, .int (nI n), .ref ik, .ref iv, .ref ir, .ref il, .ref iy, .ref ig])), (il, .inl (dl, 43, .inl (bF L)))]) [1, 0] (by decide) rfl
    have hK9 := hK.sub (tys' := [(dl, .boolean)]) [0] rfl
    exact W.iret (v := nI 0) hx hb hr (fun t ht hW => ⟨⟨nI 0, (), rfl, rfl, by rw [ht]; exact hP9, va_K.moved hW.alike hK9, hD9⟩, hS.F ht⟩) hS.2.2 d_M_without_22
  · skip
    have c_5 := bI_t c_5
    refine lv_aload_n hx hb d_M_without_8 rfl (lv_at hl 0 rfl) ?_
    refine va_get (D := (dC, dI)) (ci := 3) (v := .ref il) (C := R_M) (T := F_M) (N := 10) hx hb hts (lay_M _) hown hK hP 0 rfl rfl 7 (by decide) (hts _ (List.mem_cons_of_mem _ m_343)) (fun _ h9 => h9) rfl d_M_without_9 ?_
    refine lv_iload_n hx hb d_M_without_12 rfl (lv_at hl 1 rfl) ?_
    refine va_zald hx hb hK hP 1 0 rfl rfl (hB_in c_5 hn) d_M_without_13 ?_
    refine lv_topi (fun w_3 ew_3 => ?_)
    have ew_3 : (bI (L p0.toNatClampNeg)) = w_3 := (ew_3.trans (rfl)).symm
    subst ew_3
    refine lv_if_ne (tgt := 23) hx hb d_M_without_14 (by decide) (fun c_14 => ?_) (fun c_14 => ?_)
    · skip
      have c_14 := bI_t c_14
      exact absurd c_14 (by rw [c_5] at hex; rw [hex.resolve_left (by decide)]; decide)
    · skip
      have c_14 := bI_f c_14
      refine lv_aload_n hx hb d_M_without_17 rfl (lv_at hl 0 rfl) ?_
      refine lv_iconst (v := nI 1) hx hb d_M_without_18 (by decide +kernel) ?_
      have hPc := hP.sub (ws' := [(jm, .inr (3, [.int th, .long sd, .long tp, .int (nI n), .ref ik, .ref iv, .ref ir, .ref il, .ref iy, .ref ig]))]) [0] rfl
      have hKc := hK.sub (tys' := []) [] rfl
      have hDc := hD.sub (ws' := [(jm, .inr (3, [.int th, .long sd, .long tp, .int (nI n), .ref ik, .ref iv, .ref ir, .ref il, .ref iy, .ref ig]))]) [0] (by decide) rfl
      have hFc := va_free (wc := [(jm, .inr (3, [.int th, .long sd, .long tp, .int (nI n), .ref ik, .ref iv, .ref ir, .ref il, .ref iy, .ref ig]))]) hD hS hA [0] rfl
      refine va_calli (va_runV (As := [.int (nI 1)]) (rest := []) ⟨hx, hb, hml, hown, hts⟩ (c_M_refuse l dC dI jm ik iv ir il iy ig n th sd tp (nI 1) _) (cwV 1 hts (g_V big_w m_378 m_380 ms_21 m_4 m_381) rfl rfl rfl (by decide +kernel) ⟨Nat.le_of_ble_eq_true rfl, Nat.le_of_ble_eq_true rfl⟩) (wr_V hPc hKc hDc hN (va_recv hKc hPc (ci := 3) (q0 := 0) rfl rfl)) rfl rfl hl.1 rfl (lv_room (Nat.le_of_ble_eq_true rfl)) d_M_without_19 ⟨Nat.le_of_ble_eq_true rfl, Nat.le_of_ble_eq_true rfl⟩) hS (fun q _ h => hFc q h) hFc (fun r_4 u t H1 locs ht hvm hw hB hz1 hk1 hS => ?_)
      obtain ⟨hP1, hK1, hD1⟩ := hB
      rw [ht] at hP1
      obtain ⟨hP, hD⟩ := va_join (wr := [(il, .inl (dl, 43, .inl (bF L)))]) (w1 := [(jm, .inr (3, [.int (nI 1), .long sd, .long tp, .int (nI n), .ref ik, .ref iv, .ref ir, .ref il, .ref iy, .ref ig]))]) hP hD [0] [1] rfl rfl (by decide) (by decide) hk1 hFc hP1 hD1
      generalize H1 = H at hP hS ⊢
      have hP : va_P (dC, dI) classes [(il, .inl (dl, 43, .inl (bF L))), (jm, .inr (3, [.int (nI 1), .long sd, .long tp, .int (nI n), .ref ik, .ref iv, .ref ir, .ref il, .ref iy, .ref ig]))] H := hP
      have hD : va_D A [(il, .inl (dl, 43, .inl (bF L))), (jm, .inr (3, [.int (nI 1), .long sd, .long tp, .int (nI n), .ref ik, .ref iv, .ref ir, .ref il, .ref iy, .ref ig]))] := hD
      have hw := hw.symm
      subst hw
      have hP9 := hP.sub (ws' := [(jm, .inr (3, [.int (nI 1), .long sd, .long tp, .int (nI n), .ref ik, .ref iv, .ref ir, .ref il, .ref iy, .ref ig])), (il, .inl (dl, 43, .inl (bF L)))]) [1, 0] rfl
      have hD9 := hD.sub (ws' := [(jm, .inr (3, [.int (nI 1), .long sd, .long tp, .int (nI n), .ref ik, .ref iv, .ref ir, .ref il, .ref iy, .ref ig])), (il, .inl (dl, 43, .inl (bF L)))]) [1, 0] (by decide) rfl
      have hK9 := hK.sub (tys' := [(dl, .boolean)]) [0] rfl
      exact W.iret (v := nI 0) hx hb hr (fun t ht hW => ⟨⟨nI 0, (), rfl, rfl, by rw [ht]; exact hP9, va_K.moved hW.alike hK9, hD9⟩, hS.F ht⟩) hS.2.2 d_M_without_22
set_option maxHeartbeats 4000000 in
set_option maxRecDepth 100000 in
/-- reference: part, where there is one -/
theorem c_M_part (l : Launch) (dC : Nat → ClassId) (dI : Nat → Nat → Nat) (jm ik iv ir il iy ig : Nat) (n : Nat) (th : Int32) (sd tp : Int64) (dk dv dr dl : ClassId) (K V R : Nat → Int32) (L : Nat → Bool) (i0 : Nat) (p1 : Int32) (hn : n ≤ 43) (hi0 : i0 < n) (h4 : ¬ (p1.toInt < 0 ∨ 4 < p1.toInt)) (sz : Nat) : Met l y_M_part w_M_part ({ frames := 1, cells := 0, slots := 0, locals := 22 }) (wr_P dC dI [.ref jm, .int (nI i0), .int p1] [(jm, .inr (3, [.int th, .long sd, .long tp, .int (nI n), .ref ik, .ref iv, .ref ir, .ref il, .ref iy, .ref ig])), (ik, .inl (dk, 86, .inl K)), (iv, .inl (dv, 86, .inl V)), (ir, .inl (dr, 86, .inl R)), (il, .inl (dl, 43, .inl (bF L)))] [(dk, .int), (dv, .int), (dr, .int), (dl, .boolean)] sz) (va_Qi (fun (r : Int32) (_ : Unit) => r = pmI K V R L i0 p1) (fun (u : Unit) => wr_B dC dI (va_A [(jm, .inr (3, [.int th, .long sd, .long tp, .int (nI n), .ref ik, .ref iv, .ref ir, .ref il, .ref iy, .ref ig])), (ik, .inl (dk, 86, .inl K)), (iv, .inl (dv, 86, .inl V)), (ir, .inl (dr, 86, .inl R)), (il, .inl (dl, 43, .inl (bF L)))] sz) [(jm, .inr (3, [.int (nI 0), .long sd, .long tp, .int (nI n), .ref ik, .ref iv, .ref ir, .ref il, .ref iy, .ref ig])), (ik, .inl (dk, 86, .inl K)), (iv, .inl (dv, 86, .inl V)), (ir, .inl (dr, 86, .inl R)), (il, .inl (dl, 43, .inl (bF L)))] [(dk, .int), (dv, .int), (dr, .int), (dl, .boolean)]) (va_A [(jm, .inr (3, [.int th, .long sd, .long tp, .int (nI n), .ref ik, .ref iv, .ref ir, .ref il, .ref iy, .ref ig])), (ik, .inl (dk, 86, .inl K)), (iv, .inl (dv, 86, .inl V)), (ir, .inl (dr, 86, .inl R)), (il, .inl (dl, 43, .inl (bF L)))] sz)) 0 0 (va_A [(jm, .inr (3, [.int th, .long sd, .long tp, .int (nI n), .ref ik, .ref iv, .ref ir, .ref il, .ref iy, .ref ig])), (ik, .inl (dk, 86, .inl K)), (iv, .inl (dv, 86, .inl V)), (ir, .inl (dr, 86, .inl R)), (il, .inl (dl, 43, .inl (bF L)))] sz) := by
  refine Met.ofW (cc := b_M_part) (maxL := 5) (ret := (Option.some Jvm.ClassFile.FieldType.int)) (by decide) rfl ?_
  intro p e s m args below meth c s₁ B0 hml hv0
  obtain ⟨rfl, hsz, hP, hK, hD0, hN⟩ := hv0
  have hx := B0.exec
  have hb := B0.bytes
  have hr := B0.returns
  have hts := atoms_spec (ws := w_M_part) B0.pre
  have hown : s.vm.findClass R_M = some m.cls := findClass_of_methodNamed B0.named
  have hlocks := B0.notSynchronized
  subst hsz
  have hD := hD0.self (sz := s.heap.size)
  generalize hAe : va_A [(jm, .inr (3, [.int th, .long sd, .long tp, .int (nI n), .ref ik, .ref iv, .ref ir, .ref il, .ref iy, .ref ig])), (ik, .inl (dk, 86, .inl K)), (iv, .inl (dv, 86, .inl V)), (ir, .inl (dr, 86, .inl R)), (il, .inl (dl, 43, .inl (bF L)))] s.heap.size = A at hD ⊢
  have hA : ∀ q : Nat, s.heap.size ≤ q → A q := fun q h => by rw [← hAe]; exact Or.inr h
  have hS : va_S A s.heap s.heap [] := va_S.rf
  have hP : va_P (dC, dI) classes [(jm, .inr (3, [.int th, .long sd, .long tp, .int (nI n), .ref ik, .ref iv, .ref ir, .ref il, .ref iy, .ref ig])), (ik, .inl (dk, 86, .inl K)), (iv, .inl (dv, 86, .inl V)), (ir, .inl (dr, 86, .inl R)), (il, .inl (dl, 43, .inl (bF L)))] s.heap := hP
  have hl := lv_entry ([.ref jm, .int (nI i0), .int p1]) (n := 5) (Nat.le_of_ble_eq_true rfl)
  rw [lg_entry_eq]
  generalize (lg_sl ([.ref jm, .int (nI i0), .int p1]) ++ List.replicate (5 - (lg_sl ([.ref jm, .int (nI i0), .int p1])).length) Slot.unset).toArray = ls at hl ⊢
  have hl : lv_has ls 5 [(0, .ref jm), (1, .int (nI i0)), (2, .int p1)] := hl
  refine lv_aload_n hx hb d_M_part_0 rfl (lv_at hl 0 rfl) ?_
  refine lv_iload_n hx hb d_M_part_1 rfl (lv_at hl 1 rfl) ?_
  have hPc := hP.sub (ws' := [(jm, .inr (3, [.int th, .long sd, .long tp, .int (nI n), .ref ik, .ref iv, .ref ir, .ref il, .ref iy, .ref ig]))]) [0] rfl
  have hKc := hK.sub (tys' := []) [] rfl
  refine vp_callSi (W.runV (As := [.int (nI i0)]) (rest := []) ⟨hx, hb, hml, hown, hts⟩ (c_M_isPart l dC dI jm ik iv ir il iy ig n th sd tp (nI i0)) (cwV 1 hts (g_V big_w m_411 m_413 ms_26 m_4 m_414) rfl rfl rfl (by decide +kernel) ⟨Nat.le_of_ble_eq_true rfl, Nat.le_of_ble_eq_true rfl⟩) (ro_V hPc hKc hN (va_recv hKc hPc (ci := 3) (q0 := 0) rfl rfl)) rfl rfl hl.1 rfl (lv_room (Nat.le_of_ble_eq_true rfl)) d_M_part_2 ⟨Nat.le_of_ble_eq_true rfl, Nat.le_of_ble_eq_true rfl⟩) (fun r_1 er_1 => ?_)
  have er_1 := er_1.symm
  subst er_1
  refine lv_if_eq (tgt := 17) hx hb d_M_part_5 (by decide) (fun c_5 => ?_) (fun c_5 => ?_)
  · skip
    have c_5 := bI_f c_5
    exact absurd c_5 (by rw [hB_nI hi0 (by omega)]; decide)
  · skip
    have c_5 := bI_t c_5
    refine lv_iload_n hx hb d_M_part_8 rfl (lv_at hl 2 rfl) ?_
    refine lv_iconst (v := nI 0) hx hb d_M_part_9 (by decide +kernel) ?_
    refine lv_iconst (v := nI 4) hx hb d_M_part_10 (by decide +kernel) ?_
    have hPc := hP.sub (ws' := []) [] rfl
    have hKc := hK.sub (tys' := []) [] rfl
    refine vp_callSi (W.runS (As := [.int p1, .int (nI 0), .int (nI 4)]) (rest := []) ⟨hx, hb, hml, hown, hts⟩ (c_M_in_ l dC dI p1 (nI 0) (nI 4)) (va_cwS 3 hts (g_S big_w m_375 m_376 m_4 m_377) rfl rfl rfl (by decide +kernel) ⟨Nat.le_of_ble_eq_true rfl, Nat.le_of_ble_eq_true rfl⟩) (ro_S hPc hKc hN) rfl rfl hl.1 rfl (lv_room (Nat.le_of_ble_eq_true rfl)) d_M_part_11 ⟨Nat.le_of_ble_eq_true rfl, Nat.le_of_ble_eq_true rfl⟩) (fun r_2 er_2 => ?_)
    have er_2 := er_2.symm
    subst er_2
    refine lv_if_ne (tgt := 23) hx hb d_M_part_14 (by decide) (fun c_14 => ?_) (fun c_14 => ?_)
    · skip
      have c_14 := bI_t c_14
      refine lv_aload_n hx hb d_M_part_23 rfl (lv_at hl 0 rfl) ?_
      refine lv_iconst (v := nI 0) hx hb d_M_part_24 (by decide +kernel) ?_
      refine va_put (D := (dC, dI)) (ci := 3) (v := .int (nI 0)) (ty := .int) (C := R_M) (T := F_M) (N := 10) hx hb hts (lay_M _) ft_M tok_M nok_M hown hK hP hD hS 0 rfl rfl 0 (by decide) (hts _ (List.mem_cons_of_mem _ m_336)) (fun _ h9 => h9) rfl (by decide +kernel) rfl rfl (Nat.le_of_ble_eq_true rfl) d_M_part_25 (fun H locs hP hD hS => ?_)
      have hP : va_P (dC, dI) classes [(jm, .inr (3, [.int (nI 0), .long sd, .long tp, .int (nI n), .ref ik, .ref iv, .ref ir, .ref il, .ref iy, .ref ig])), (ik, .inl (dk, 86, .inl K)), (iv, .inl (dv, 86, .inl V)), (ir, .inl (dr, 86, .inl R)), (il, .inl (dl, 43, .inl (bF L)))] H := hP
      have hD : va_D A [(jm, .inr (3, [.int (nI 0), .long sd, .long tp, .int (nI n), .ref ik, .ref iv, .ref ir, .ref il, .ref iy, .ref ig])), (ik, .inl (dk, 86, .inl K)), (iv, .inl (dv, 86, .inl V)), (ir, .inl (dr, 86, .inl R)), (il, .inl (dl, 43, .inl (bF L)))] := hD
      refine lv_iconst (v := nI 0) hx hb d_M_part_28 (by decide +kernel) ?_
      refine lv_istore_n (lv' := [(3, .int (nI 0)), (0, .ref jm), (1, .int (nI i0)), (2, .int p1)]) hx hb d_M_part_29 rfl hl (by decide) rfl (fun ls hl => ?_)
      refine lv_iconst (v := nI 0) hx hb d_M_part_30 (by decide +kernel) ?_
      refine lv_istore (lv' := [(4, .int (nI 0)), (3, .int (nI 0)), (0, .ref jm), (1, .int (nI i0)), (2, .int p1)]) hx hb d_M_part_31 hl (by decide) rfl (fun ls hl => ?_)
      have lp_33 : ∀ (k9_33 : Nat), ∀ (i : Nat), i0 - i < k9_33 → (i ≤ i0) → ∀ (ls : Array Slot), lv_has ls 5 [(0, .ref jm), (1, .int (nI i0)), (2, .int p1), (3, .int (nI (cnt (kP K (K i0)) i))), (4, .int (nI i))] → W p l e (headSpec w_M_part ({ frames := 1, cells := 0, slots := 0, locals := 22 })).room s m ([.ref jm, .int (nI i0), .int p1]).toArray below meth c H locs 0 0 (MQ below (va_Qi (fun (r : Int32) (_ : Unit) => r = pmI K V R L i0 p1) (fun (u : Unit) => wr_B dC dI (A) [(jm, .inr (3, [.int (nI 0), .long sd, .long tp, .int (nI n), .ref ik, .ref iv, .ref ir, .ref il, .ref iy, .ref ig])), (ik, .inl (dk, 86, .inl K)), (iv, .inl (dv, 86, .inl V)), (ir, .inl (dr, 86, .inl R)), (il, .inl (dl, 43, .inl (bF L)))] [(dk, .int), (dv, .int), (dr, .int), (dl, .boolean)]) (A)) ([.ref jm, .int (nI i0), .int p1]).toArray s 0 0 A) (F0 m 33 ls []) := by
        intro k9_33
        induction k9_33 with
        | zero =>
          intro i hk9
          exact absurd hk9 (Nat.not_lt_zero _)
        | succ k9_33 ih_33 =>
          intro i hk9_33 hi ls hl
          refine lv_iload hx hb d_M_part_33 (lv_at hl 4 rfl) ?_
          refine lv_iload_n hx hb d_M_part_35 rfl (lv_at hl 1 rfl) ?_
          refine lv_icmp_ge (tgt := 69) hx hb d_M_part_36 (by decide) (fun c_36 => ?_) (fun c_36 => ?_)
          · skip
            have c_36 := (nI_leI (by omega) (by omega)).mp c_36
            refine lv_iload_n hx hb d_M_part_69 rfl (lv_at hl 2 rfl) ?_
            refine lv_if_ne (tgt := 82) hx hb d_M_part_70 (by decide) (fun c_70 => ?_) (fun c_70 => ?_)
            · skip
              rw [← nI_0] at c_70
              refine lv_iload_n hx hb d_M_part_82 rfl (lv_at hl 2 rfl) ?_
              refine lv_iconst (v := nI 1) hx hb d_M_part_83 (by decide +kernel) ?_
              refine lv_icmp_ne (tgt := 91) hx hb d_M_part_84 (by decide) (fun c_84 => ?_) (fun c_84 => ?_)
              · skip
                refine lv_iload_n hx hb d_M_part_91 rfl (lv_at hl 2 rfl) ?_
                refine lv_iconst (v := nI 2) hx hb d_M_part_92 (by decide +kernel) ?_
                refine lv_icmp_ne (tgt := 105) hx hb d_M_part_93 (by decide) (fun c_93 => ?_) (fun c_93 => ?_)
                · skip
                  refine lv_iload_n hx hb d_M_part_105 rfl (lv_at hl 2 rfl) ?_
                  refine lv_iconst (v := nI 3) hx hb d_M_part_106 (by decide +kernel) ?_
                  refine lv_icmp_ne (tgt := 119) hx hb d_M_part_107 (by decide) (fun c_107 => ?_) (fun c_107 => ?_)
                  · skip
                    refine lv_aload_n hx hb d_M_part_119 rfl (lv_at hl 0 rfl) ?_
                    refine va_get (D := (dC, dI)) (ci := 3) (v := .ref il) (C := R_M) (T := F_M) (N := 10) hx hb hts (lay_M _) hown hK hP 0 rfl rfl 7 (by decide) (hts _ (List.mem_cons_of_mem _ m_343)) (fun _ h9 => h9) rfl d_M_part_120 ?_
                    refine lv_iload_n hx hb d_M_part_123 rfl (lv_at hl 1 rfl) ?_
                    refine va_zald hx hb hK hP 4 3 rfl rfl (vp_in_nI (by omega) (by omega)) d_M_part_124 ?_
                    refine lv_topi (fun w_3 ew_3 => ?_)
                    have ew_3 : (bI (L i0)) = w_3 := (ew_3.trans (by rw [nI_clamp (by omega)]; rfl)).symm
                    subst ew_3
                    refine lv_if_eq (tgt := 132) hx hb d_M_part_125 (by decide) (fun c_125 => ?_) (fun c_125 => ?_)
                    · skip
                      have c_125 := bI_f c_125
                      refine lv_iconst (v := nI 0) hx hb d_M_part_132 (by decide +kernel) ?_
                      have hP9 := hP.sub (ws' := [(jm, .inr (3, [.int (nI 0), .long sd, .long tp, .int (nI n), .ref ik, .ref iv, .ref ir, .ref il, .ref iy, .ref ig])), (ik, .inl (dk, 86, .inl K)), (iv, .inl (dv, 86, .inl V)), (ir, .inl (dr, 86, .inl R)), (il, .inl (dl, 43, .inl (bF L)))]) [0, 1, 2, 3, 4] rfl
                      have hD9 := hD.sub (ws' := [(jm, .inr (3, [.int (nI 0), .long sd, .long tp, .int (nI n), .ref ik, .ref iv, .ref ir, .ref il, .ref iy, .ref ig])), (ik, .inl (dk, 86, .inl K)), (iv, .inl (dv, 86, .inl V)), (ir, .inl (dr, 86, .inl R)), (il, .inl (dl, 43, .inl (bF L)))]) [0, 1, 2, 3, 4] (by decide) rfl
                      have hK9 := hK.sub (tys' := [(dk, .int), (dv, .int), (dr, .int), (dl, .boolean)]) [0, 1, 2, 3] rfl
                      exact W.iret (v := nI 0) hx hb hr (fun t ht hW => ⟨⟨nI 0, (), rfl, (by unfold pmI; first | (rw [if_pos c_70]) | (rw [if_neg c_70, if_pos c_84, show i = i0 by omega]) | (rw [if_neg c_70, if_neg c_84, if_pos c_93]) | (rw [if_neg c_70, if_neg c_84, if_neg c_93, if_pos c_107]) | (rw [if_neg c_70, if_neg c_84, if_neg c_93, if_neg c_107, c_125]; rfl)), by rw [ht]; exact hP9, va_K.moved hW.alike hK9, hD9⟩, hS.F ht⟩) hS.2.2 d_M_part_133
                    · skip
                      have c_125 := bI_t c_125
                      refine lv_iconst (v := nI 1) hx hb d_M_part_128 (by decide +kernel) ?_
                      refine lv_goto (tgt := 133) hx hb d_M_part_129 (by decide) ?_
                      have hP9 := hP.sub (ws' := [(jm, .inr (3, [.int (nI 0), .long sd, .long tp, .int (nI n), .ref ik, .ref iv, .ref ir, .ref il, .ref iy, .ref ig])), (ik, .inl (dk, 86, .inl K)), (iv, .inl (dv, 86, .inl V)), (ir, .inl (dr, 86, .inl R)), (il, .inl (dl, 43, .inl (bF L)))]) [0, 1, 2, 3, 4] rfl
                      have hD9 := hD.sub (ws' := [(jm, .inr (3, [.int (nI 0), .long sd, .long tp, .int (nI n), .ref ik, .ref iv, .ref ir, .ref il, .ref iy, .ref ig])), (ik, .inl (dk, 86, .inl K)), (iv, .inl (dv, 86, .inl V)), (ir, .inl (dr, 86, .inl R)), (il, .inl (dl, 43, .inl (bF L)))]) [0, 1, 2, 3, 4] (by decide) rfl
                      have hK9 := hK.sub (tys' := [(dk, .int), (dv, .int), (dr, .int), (dl, .boolean)]) [0, 1, 2, 3] rfl
                      exact W.iret (v := nI 1) hx hb hr (fun t ht hW => ⟨⟨nI 1, (), rfl, (by unfold pmI; first | (rw [if_pos c_70]) | (rw [if_neg c_70, if_pos c_84, show i = i0 by omega]) | (rw [if_neg c_70, if_neg c_84, if_pos c_93]) | (rw [if_neg c_70, if_neg c_84, if_neg c_93, if_pos c_107]) | (rw [if_neg c_70, if_neg c_84, if_neg c_93, if_neg c_107, c_125]; rfl)), by rw [ht]; exact hP9, va_K.moved hW.alike hK9, hD9⟩, hS.F ht⟩) hS.2.2 d_M_part_133
                  · skip
                    refine lv_aload_n hx hb d_M_part_110 rfl (lv_at hl 0 rfl) ?_
                    refine va_get (D := (dC, dI)) (ci := 3) (v := .ref ir) (C := R_M) (T := F_M) (N := 10) hx hb hts (lay_M _) hown hK hP 0 rfl rfl 6 (by decide) (hts _ (List.mem_cons_of_mem _ m_342)) (fun _ h9 => h9) rfl d_M_part_111 ?_
                    refine lv_iload_n hx hb d_M_part_114 rfl (lv_at hl 1 rfl) ?_
                    refine va_iald hx hb hK hP 3 2 rfl rfl (vp_in_nI (by omega) (by omega)) d_M_part_115 ?_
                    refine lv_topi (fun w_4 ew_4 => ?_)
                    rw [nI_clamp (by omega)] at ew_4
                    have ew_4 := ew_4.symm
                    subst ew_4
                    refine lv_goto (tgt := 133) hx hb d_M_part_116 (by decide) ?_
                    have hP9 := hP.sub (ws' := [(jm, .inr (3, [.int (nI 0), .long sd, .long tp, .int (nI n), .ref ik, .ref iv, .ref ir, .ref il, .ref iy, .ref ig])), (ik, .inl (dk, 86, .inl K)), (iv, .inl (dv, 86, .inl V)), (ir, .inl (dr, 86, .inl R)), (il, .inl (dl, 43, .inl (bF L)))]) [0, 1, 2, 3, 4] rfl
                    have hD9 := hD.sub (ws' := [(jm, .inr (3, [.int (nI 0), .long sd, .long tp, .int (nI n), .ref ik, .ref iv, .ref ir, .ref il, .ref iy, .ref ig])), (ik, .inl (dk, 86, .inl K)), (iv, .inl (dv, 86, .inl V)), (ir, .inl (dr, 86, .inl R)), (il, .inl (dl, 43, .inl (bF L)))]) [0, 1, 2, 3, 4] (by decide) rfl
                    have hK9 := hK.sub (tys' := [(dk, .int), (dv, .int), (dr, .int), (dl, .boolean)]) [0, 1, 2, 3] rfl
                    exact W.iret (v := R i0) hx hb hr (fun t ht hW => ⟨⟨R i0, (), rfl, (by unfold pmI; first | (rw [if_pos c_70]) | (rw [if_neg c_70, if_pos c_84, show i = i0 by omega]) | (rw [if_neg c_70, if_neg c_84, if_pos c_93]) | (rw [if_neg c_70, if_neg c_84, if_neg c_93, if_pos c_107]) | (rw [if_neg c_70, if_neg c_84, if_neg c_93, if_neg c_107, c_125]; rfl)), by rw [ht]; exact hP9, va_K.moved hW.alike hK9, hD9⟩, hS.F ht⟩) hS.2.2 d_M_part_133
                · skip
                  refine lv_aload_n hx hb d_M_part_96 rfl (lv_at hl 0 rfl) ?_
                  refine va_get (D := (dC, dI)) (ci := 3) (v := .ref iv) (C := R_M) (T := F_M) (N := 10) hx hb hts (lay_M _) hown hK hP 0 rfl rfl 5 (by decide) (hts _ (List.mem_cons_of_mem _ m_341)) (fun _ h9 => h9) rfl d_M_part_97 ?_
                  refine lv_iload_n hx hb d_M_part_100 rfl (lv_at hl 1 rfl) ?_
                  refine va_iald hx hb hK hP 2 1 rfl rfl (vp_in_nI (by omega) (by omega)) d_M_part_101 ?_
                  refine lv_topi (fun w_5 ew_5 => ?_)
                  rw [nI_clamp (by omega)] at ew_5
                  have ew_5 := ew_5.symm
                  subst ew_5
                  refine lv_goto (tgt := 133) hx hb d_M_part_102 (by decide) ?_
                  have hP9 := hP.sub (ws' := [(jm, .inr (3, [.int (nI 0), .long sd, .long tp, .int (nI n), .ref ik, .ref iv, .ref ir, .ref il, .ref iy, .ref ig])), (ik, .inl (dk, 86, .inl K)), (iv, .inl (dv, 86, .inl V)), (ir, .inl (dr, 86, .inl R)), (il, .inl (dl, 43, .inl (bF L)))]) [0, 1, 2, 3, 4] rfl
                  have hD9 := hD.sub (ws' := [(jm, .inr (3, [.int (nI 0), .long sd, .long tp, .int (nI n), .ref ik, .ref iv, .ref ir, .ref il, .ref iy, .ref ig])), (ik, .inl (dk, 86, .inl K)), (iv, .inl (dv, 86, .inl V)), (ir, .inl (dr, 86, .inl R)), (il, .inl (dl, 43, .inl (bF L)))]) [0, 1, 2, 3, 4] (by decide) rfl
                  have hK9 := hK.sub (tys' := [(dk, .int), (dv, .int), (dr, .int), (dl, .boolean)]) [0, 1, 2, 3] rfl
                  exact W.iret (v := V i0) hx hb hr (fun t ht hW => ⟨⟨V i0, (), rfl, (by unfold pmI; first | (rw [if_pos c_70]) | (rw [if_neg c_70, if_pos c_84, show i = i0 by omega]) | (rw [if_neg c_70, if_neg c_84, if_pos c_93]) | (rw [if_neg c_70, if_neg c_84, if_neg c_93, if_pos c_107]) | (rw [if_neg c_70, if_neg c_84, if_neg c_93, if_neg c_107, c_125]; rfl)), by rw [ht]; exact hP9, va_K.moved hW.alike hK9, hD9⟩, hS.F ht⟩) hS.2.2 d_M_part_133
              · skip
                refine lv_iload_n hx hb d_M_part_87 rfl (lv_at hl 3 rfl) ?_
                refine lv_goto (tgt := 133) hx hb d_M_part_88 (by decide) ?_
                have hP9 := hP.sub (ws' := [(jm, .inr (3, [.int (nI 0), .long sd, .long tp, .int (nI n), .ref ik, .ref iv, .ref ir, .ref il, .ref iy, .ref ig])), (ik, .inl (dk, 86, .inl K)), (iv, .inl (dv, 86, .inl V)), (ir, .inl (dr, 86, .inl R)), (il, .inl (dl, 43, .inl (bF L)))]) [0, 1, 2, 3, 4] rfl
                have hD9 := hD.sub (ws' := [(jm, .inr (3, [.int (nI 0), .long sd, .long tp, .int (nI n), .ref ik, .ref iv, .ref ir, .ref il, .ref iy, .ref ig])), (ik, .inl (dk, 86, .inl K)), (iv, .inl (dv, 86, .inl V)), (ir, .inl (dr, 86, .inl R)), (il, .inl (dl, 43, .inl (bF L)))]) [0, 1, 2, 3, 4] (by decide) rfl
                have hK9 := hK.sub (tys' := [(dk, .int), (dv, .int), (dr, .int), (dl, .boolean)]) [0, 1, 2, 3] rfl
                exact W.iret (v := nI (cnt (kP K (K i0)) i)) hx hb hr (fun t ht hW => ⟨⟨nI (cnt (kP K (K i0)) i), (), rfl, (by unfold pmI; first | (rw [if_pos c_70]) | (rw [if_neg c_70, if_pos c_84, show i = i0 by omega]) | (rw [if_neg c_70, if_neg c_84, if_pos c_93]) | (rw [if_neg c_70, if_neg c_84, if_neg c_93, if_pos c_107]) | (rw [if_neg c_70, if_neg c_84, if_neg c_93, if_neg c_107, c_125]; rfl)), by rw [ht]; exact hP9, va_K.moved hW.alike hK9, hD9⟩, hS.F ht⟩) hS.2.2 d_M_part_133
            · skip
              rw [← nI_0] at c_70
              refine lv_aload_n hx hb d_M_part_73 rfl (lv_at hl 0 rfl) ?_
              refine va_get (D := (dC, dI)) (ci := 3) (v := .ref ik) (C := R_M) (T := F_M) (N := 10) hx hb hts (lay_M _) hown hK hP 0 rfl rfl 4 (by decide) (hts _ (List.mem_cons_of_mem _ m_340)) (fun _ h9 => h9) rfl d_M_part_74 ?_
              refine lv_iload_n hx hb d_M_part_77 rfl (lv_at hl 1 rfl) ?_
              refine va_iald hx hb hK hP 1 0 rfl rfl (vp_in_nI (by omega) (by omega)) d_M_part_78 ?_
              refine lv_topi (fun w_6 ew_6 => ?_)
              rw [nI_clamp (by omega)] at ew_6
              have ew_6 := ew_6.symm
              subst ew_6
              refine lv_goto (tgt := 133) hx hb d_M_part_79 (by decide) ?_
              have hP9 := hP.sub (ws' := [(jm, .inr (3, [.int (nI 0), .long sd, .long tp, .int (nI n), .ref ik, .ref iv, .ref ir, .ref il, .ref iy, .ref ig])), (ik, .inl (dk, 86, .inl K)), (iv, .inl (dv, 86, .inl V)), (ir, .inl (dr, 86, .inl R)), (il, .inl (dl, 43, .inl (bF L)))]) [0, 1, 2, 3, 4] rfl
              have hD9 := hD.sub (ws' := [(jm, .inr (3, [.int (nI 0), .long sd, .long tp, .int (nI n), .ref ik, .ref iv, .ref ir, .ref il, .ref iy, .ref ig])), (ik, .inl (dk, 86, .inl K)), (iv, .inl (dv, 86, .inl V)), (ir, .inl (dr, 86, .inl R)), (il, .inl (dl, 43, .inl (bF L)))]) [0, 1, 2, 3, 4] (by decide) rfl
              have hK9 := hK.sub (tys' := [(dk, .int), (dv, .int), (dr, .int), (dl, .boolean)]) [0, 1, 2, 3] rfl
              exact W.iret (v := K i0) hx hb hr (fun t ht hW => ⟨⟨K i0, (), rfl, (by unfold pmI; first | (rw [if_pos c_70]) | (rw [if_neg c_70, if_pos c_84, show i = i0 by omega]) | (rw [if_neg c_70, if_neg c_84, if_pos c_93]) | (rw [if_neg c_70, if_neg c_84, if_neg c_93, if_pos c_107]) | (rw [if_neg c_70, if_neg c_84, if_neg c_93, if_neg c_107, c_125]; rfl)), by rw [ht]; exact hP9, va_K.moved hW.alike hK9, hD9⟩, hS.F ht⟩) hS.2.2 d_M_part_133
          · skip
            have c_36 := (not_congr (nI_leI (by omega) (by omega))).mp c_36
            refine lv_iload_n hx hb d_M_part_39 rfl (lv_at hl 3 rfl) ?_
            refine lv_aload_n hx hb d_M_part_40 rfl (lv_at hl 0 rfl) ?_
            refine va_get (D := (dC, dI)) (ci := 3) (v := .ref ik) (C := R_M) (T := F_M) (N := 10) hx hb hts (lay_M _) hown hK hP 0 rfl rfl 4 (by decide) (hts _ (List.mem_cons_of_mem _ m_340)) (fun _ h9 => h9) rfl d_M_part_41 ?_
            refine lv_iload hx hb d_M_part_44 (lv_at hl 4 rfl) ?_
            refine va_iald hx hb hK hP 1 0 rfl rfl (vp_in_nI (by omega) (by omega)) d_M_part_46 ?_
            refine lv_topi (fun w_7 ew_7 => ?_)
            rw [nI_clamp (by omega)] at ew_7
            have ew_7 := ew_7.symm
            subst ew_7
            refine lv_aload_n hx hb d_M_part_47 rfl (lv_at hl 0 rfl) ?_
            refine va_get (D := (dC, dI)) (ci := 3) (v := .ref ik) (C := R_M) (T := F_M) (N := 10) hx hb hts (lay_M _) hown hK hP 0 rfl rfl 4 (by decide) (hts _ (List.mem_cons_of_mem _ m_340)) (fun _ h9 => h9) rfl d_M_part_48 ?_
            refine lv_iload_n hx hb d_M_part_51 rfl (lv_at hl 1 rfl) ?_
            refine va_iald hx hb hK hP 1 0 rfl rfl (vp_in_nI (by omega) (by omega)) d_M_part_52 ?_
            refine lv_topi (fun w_8 ew_8 => ?_)
            rw [nI_clamp (by omega)] at ew_8
            have ew_8 := ew_8.symm
            subst ew_8
            refine lv_icmp_ne (tgt := 60) hx hb d_M_part_53 (by decide) (fun c_53 => ?_) (fun c_53 => ?_)
            · skip
              refine lv_iconst (v := nI 0) hx hb d_M_part_60 (by decide +kernel) ?_
              refine lv_iadd hx hb d_M_part_61 ?_
              refine lv_topi (fun w_9 ew_9 => ?_)
              have ew_9 : (nI (cnt (kP K (K i0)) (i + 1))) = w_9 := (ew_9.trans (by first | (rw [cnt_t (P := kP K (K i0)) (n := i) (decide_eq_true c_53)]; exact nI_add _ _) | (rw [cnt_f (P := kP K (K i0)) (n := i) (decide_eq_false c_53)]; exact nI_add _ _))).symm
              subst ew_9
              refine lv_istore_n (lv' := [(3, .int (nI (cnt (kP K (K i0)) (i + 1)))), (0, .ref jm), (1, .int (nI i0)), (2, .int p1), (4, .int (nI i))]) hx hb d_M_part_62 rfl hl (by decide) rfl (fun ls hl => ?_)
              refine lv_iinc (v := nI (i + 1)) (lv' := [(4, .int (nI (i + 1))), (3, .int (nI (cnt (kP K (K i0)) (i + 1)))), (0, .ref jm), (1, .int (nI i0)), (2, .int p1)]) hx hb d_M_part_63 hl (k := 4) rfl (nI_1 _) (by decide) rfl (fun ls hl => ?_)
              refine lv_goto (tgt := 33) hx hb d_M_part_66 (by decide) ?_
              exact ih_33 (i + 1) (by omega) (by first | assumption | omega) ls (lv_sub (l' := [(0, .ref jm), (1, .int (nI i0)), (2, .int p1), (3, .int (nI (cnt (kP K (K i0)) (i + 1)))), (4, .int (nI (i + 1)))]) hl [2, 3, 4, 1, 0] rfl)
            · skip
              refine lv_iconst (v := nI 1) hx hb d_M_part_56 (by decide +kernel) ?_
              refine lv_goto (tgt := 61) hx hb d_M_part_57 (by decide) ?_
              refine lv_iadd hx hb d_M_part_61 ?_
              refine lv_topi (fun w_10 ew_10 => ?_)
              have ew_10 : (nI (cnt (kP K (K i0)) (i + 1))) = w_10 := (ew_10.trans (by first | (rw [cnt_t (P := kP K (K i0)) (n := i) (decide_eq_true c_53)]; exact nI_add _ _) | (rw [cnt_f (P := kP K (K i0)) (n := i) (decide_eq_false c_53)]; exact nI_add _ _))).symm
              subst ew_10
              refine lv_istore_n (lv' := [(3, .int (nI (cnt (kP K (K i0)) (i + 1)))), (0, .ref jm), (1, .int (nI i0)), (2, .int p1), (4, .int (nI i))]) hx hb d_M_part_62 rfl hl (by decide) rfl (fun ls hl => ?_)
              refine lv_iinc (v := nI (i + 1)) (lv' := [(4, .int (nI (i + 1))), (3, .int (nI (cnt (kP K (K i0)) (i + 1)))), (0, .ref jm), (1, .int (nI i0)), (2, .int p1)]) hx hb d_M_part_63 hl (k := 4) rfl (nI_1 _) (by decide) rfl (fun ls hl => ?_)
              refine lv_goto (tgt := 33) hx hb d_M_part_66 (by decide) ?_
              exact ih_33 (i + 1) (by omega) (by first | assumption | omega) ls (lv_sub (l' := [(0, .ref jm), (1, .int (nI i0)), (2, .int p1), (3, .int (nI (cnt (kP K (K i0)) (i + 1)))), (4, .int (nI (i + 1)))]) hl [2, 3, 4, 1, 0] rfl)
      exact lp_33 ((i0 - 0) + 1) 0 (by omega) (by first | assumption | omega) ls (lv_sub (l' := [(0, .ref jm), (1, .int (nI i0)), (2, .int p1), (3, .int (nI (cnt (kP K (K i0)) 0))), (4, .int (nI 0))]) hl [2, 3, 4, 1, 0] rfl)
    · skip
      have c_14 := bI_f c_14
      exact absurd c_14 (by rw [in4.mpr h4]; decide)
set_option maxHeartbeats 4000000 in
set_option maxRecDepth 100000 in
/-- reference: part, where there is none -/
theorem c_M_partx (l : Launch) (dC : Nat → ClassId) (dI : Nat → Nat → Nat) (jm ik iv ir il iy ig : Nat) (n : Nat) (th : Int32) (sd tp : Int64) (p0 p1 : Int32) (hn : n ≤ 43) (hex : hB n p0 = false ∨ (p1.toInt < 0 ∨ 4 < p1.toInt)) (sz : Nat) : Met l y_M_part w_M_part ({ frames := 1, cells := 0, slots := 0, locals := 22 }) (wr_P dC dI [.ref jm, .int p0, .int p1] [(jm, .inr (3, [.int th, .long sd, .long tp, .int (nI n), .ref ik, .ref iv, .ref ir, .ref il, .ref iy, .ref ig]))] [] sz) (va_Qi (fun (r : Int32) (_ : Unit) => r = nI 0) (fun (u : Unit) => wr_B dC dI (va_A [(jm, .inr (3, [.int th, .long sd, .long tp, .int (nI n), .ref ik, .ref iv, .ref ir, .ref il, .ref iy, .ref ig]))] sz) [(jm, .inr (3, [.int (nI 1), .long sd, .long tp, .int (nI n), .ref ik, .ref iv, .ref ir, .ref il, .ref iy, .ref ig]))] []) (va_A [(jm, .inr (3, [.int th, .long sd, .long tp, .int (nI n), .ref ik, .ref iv, .ref ir, .ref il, .ref iy, .ref ig]))] sz)) 0 0 (va_A [(jm, .inr (3, [.int th, .long sd, .long tp, .int (nI n), .ref ik, .ref iv, .ref ir, .ref il, .ref iy, .ref ig]))] sz) := by
  refine Met.ofW (cc := b_M_part) (maxL := 5) (ret := (Option.some Jvm.ClassFile.FieldType.int)) (by decide) rfl ?_
  intro p e s m args below meth c s₁ B0 hml hv0
  obtain ⟨rfl, hsz, hP, hK, hD0, hN⟩ := hv0
  have hx := B0.exec
  have hb := B0.bytes
  have hr := B0.returns
  have hts := atoms_spec (ws := w_M_part) B0.pre
  have hown : s.vm.findClass R_M = some m.cls := findClass_of_methodNamed B0.named
  have hlocks := B0.notSynchronized
  subst hsz
  have hD := hD0.self (sz := s.heap.size)
  generalize hAe : va_A [(jm, .inr (3, [.int th, .long sd, .long tp, .int (nI n), .ref ik, .ref iv, .ref ir, .ref il, .ref iy, .ref ig]))] s.heap.size = A at hD ⊢
  have hA : ∀ q : Nat, s.heap.size ≤ q → A q := fun q h => by rw [← hAe]; exact Or.inr h
  have hS : va_S A s.heap s.heap [] := va_S.rf
  have hP : va_P (dC, dI) classes [(jm, .inr (3, [.int th, .long sd, .long tp, .int (nI n), .ref ik, .ref iv, .ref ir, .ref il, .ref iy, .ref ig]))] s.heap := hP
  have hl := lv_entry ([.ref jm, .int p0, .int p1]) (n := 5) (Nat.le_of_ble_eq_true rfl)
  rw [lg_entry_eq]
  generalize (lg_sl ([.ref jm, .int p0, .int p1]) ++ List.replicate (5 - (lg_sl ([.ref jm, .int p0, .int p1])).length) Slot.unset).toArray = ls at hl ⊢
  have hl : lv_has ls 5 [(0, .ref jm), (1, .int p0), (2, .int p1)] := hl
  refine lv_aload_n hx hb d_M_part_0 rfl (lv_at hl 0 rfl) ?_
  refine lv_iload_n hx hb d_M_part_1 rfl (lv_at hl 1 rfl) ?_
  have hPc := hP.sub (ws' := [(jm, .inr (3, [.int th, .long sd, .long tp, .int (nI n), .ref ik, .ref iv, .ref ir, .ref il, .ref iy, .ref ig]))]) [0] rfl
  have hKc := hK.sub (tys' := []) [] rfl
  refine vp_callSi (W.runV (As := [.int p0]) (rest := []) ⟨hx, hb, hml, hown, hts⟩ (c_M_isPart l dC dI jm ik iv ir il iy ig n th sd tp p0) (cwV 1 hts (g_V big_w m_411 m_413 ms_26 m_4 m_414) rfl rfl rfl (by decide +kernel) ⟨Nat.le_of_ble_eq_true rfl, Nat.le_of_ble_eq_true rfl⟩) (ro_V hPc hKc hN (va_recv hKc hPc (ci := 3) (q0 := 0) rfl rfl)) rfl rfl hl.1 rfl (lv_room (Nat.le_of_ble_eq_true rfl)) d_M_part_2 ⟨Nat.le_of_ble_eq_true rfl, Nat.le_of_ble_eq_true rfl⟩) (fun r_1 er_1 => ?_)
  have er_1 := er_1.symm
  subst er_1
  refine lv_if_eq (tgt := 17) hx hb d_M_part_5 (by decide) (fun c_5 => ?_) (fun c_5 => ?_)
  · skip
    have c_5 := bI_f c_5
    refine lv_aload_n hx hb d_M_part_17 rfl (lv_at hl 0 rfl) ?_
    refine lv_iconst (v := nI 1) hx hb d_M_part_18 (by decide +kernel) ?_
    have hPc := hP.sub (ws' := [(jm, .inr (3, [.int th, .long sd, .long tp, .int (nI n), .ref ik, .ref iv, .ref ir, .ref il, .ref iy, .ref ig]))]) [0] rfl
    have hKc := hK.sub (tys' := []) [] rfl
    have hDc := hD.sub (ws' := [(jm, .inr (3, [.int th, .long sd, .long tp, .int (nI n), .ref ik, .ref iv, .ref ir, .ref il, .ref iy, .ref ig]))]) [0] (by decide) rfl
    have hFc := va_free (wc := [(jm, .inr (3, [.int th, .long sd, .long tp, .int (nI n), .ref ik, .ref iv, .ref ir, .ref il, .ref iy, .ref ig]))]) hD hS hA [0] rfl
    refine va_calli (va_runV (As := [.int (nI 1)]) (rest := []) ⟨hx, hb, hml, hown, hts⟩ (c_M_refuse l dC dI jm ik iv ir il iy ig n th sd tp (nI 1) _) (cwV 1 hts (g_V big_w m_378 m_380 ms_21 m_4 m_381) rfl rfl rfl (by decide +kernel) ⟨Nat.le_of_ble_eq_true rfl, Nat.le_of_ble_eq_true rfl⟩) (wr_V hPc hKc hDc hN (va_recv hKc hPc (ci := 3) (q0 := 0) rfl rfl)) rfl rfl hl.1 rfl (lv_room (Nat.le_of_ble_eq_true rfl)) d_M_part_19 ⟨Nat.le_of_ble_eq_true rfl, Nat.le_of_ble_eq_true rfl⟩) hS (fun q _ h => hFc q h) hFc (fun r_2 u t H1 locs ht hvm hw hB hz1 hk1 hS => ?_)
    obtain ⟨hP1, hK1, hD1⟩ := hB
    rw [ht] at hP1
    obtain ⟨hP, hD⟩ := va_join (wr := []) (w1 := [(jm, .inr (3, [.int (nI 1), .long sd, .long tp, .int (nI n), .ref ik, .ref iv, .ref ir, .ref il, .ref iy, .ref ig]))]) hP hD [0] [] rfl rfl (by decide) (by decide) hk1 hFc hP1 hD1
    generalize H1 = H at hP hS ⊢
    have hP : va_P (dC, dI) classes [(jm, .inr (3, [.int (nI 1), .long sd, .long tp, .int (nI n), .ref ik, .ref iv, .ref ir, .ref il, .ref iy, .ref ig]))] H := hP
    have hD : va_D A [(jm, .inr (3, [.int (nI 1), .long sd, .long tp, .int (nI n), .ref ik, .ref iv, .ref ir, .ref il, .ref iy, .ref ig]))] := hD
    have hw := hw.symm
    subst hw
    have hP9 := hP.sub (ws' := [(jm, .inr (3, [.int (nI 1), .long sd, .long tp, .int (nI n), .ref ik, .ref iv, .ref ir, .ref il, .ref iy, .ref ig]))]) [0] rfl
    have hD9 := hD.sub (ws' := [(jm, .inr (3, [.int (nI 1), .long sd, .long tp, .int (nI n), .ref ik, .ref iv, .ref ir, .ref il, .ref iy, .ref ig]))]) [0] (by decide) rfl
    have hK9 := hK.sub (tys' := []) [] rfl
    exact W.iret (v := nI 0) hx hb hr (fun t ht hW => ⟨⟨nI 0, (), rfl, rfl, by rw [ht]; exact hP9, va_K.moved hW.alike hK9, hD9⟩, hS.F ht⟩) hS.2.2 d_M_part_22
  · skip
    have c_5 := bI_t c_5
    refine lv_iload_n hx hb d_M_part_8 rfl (lv_at hl 2 rfl) ?_
    refine lv_iconst (v := nI 0) hx hb d_M_part_9 (by decide +kernel) ?_
    refine lv_iconst (v := nI 4) hx hb d_M_part_10 (by decide +kernel) ?_
    have hPc := hP.sub (ws' := []) [] rfl
    have hKc := hK.sub (tys' := []) [] rfl
    refine vp_callSi (W.runS (As := [.int p1, .int (nI 0), .int (nI 4)]) (rest := []) ⟨hx, hb, hml, hown, hts⟩ (c_M_in_ l dC dI p1 (nI 0) (nI 4)) (va_cwS 3 hts (g_S big_w m_375 m_376 m_4 m_377) rfl rfl rfl (by decide +kernel) ⟨Nat.le_of_ble_eq_true rfl, Nat.le_of_ble_eq_true rfl⟩) (ro_S hPc hKc hN) rfl rfl hl.1 rfl (lv_room (Nat.le_of_ble_eq_true rfl)) d_M_part_11 ⟨Nat.le_of_ble_eq_true rfl, Nat.le_of_ble_eq_true rfl⟩) (fun r_3 er_3 => ?_)
    have er_3 := er_3.symm
    subst er_3
    refine lv_if_ne (tgt := 23) hx hb d_M_part_14 (by decide) (fun c_14 => ?_) (fun c_14 => ?_)
    · skip
      have c_14 := bI_t c_14
      exact absurd (hex.resolve_left (by rw [c_5]; decide)) (in4.mp c_14)
    · skip
      have c_14 := bI_f c_14
      refine lv_aload_n hx hb d_M_part_17 rfl (lv_at hl 0 rfl) ?_
      refine lv_iconst (v := nI 1) hx hb d_M_part_18 (by decide +kernel) ?_
      have hPc := hP.sub (ws' := [(jm, .inr (3, [.int th, .long sd, .long tp, .int (nI n), .ref ik, .ref iv, .ref ir, .ref il, .ref iy, .ref ig]))]) [0] rfl
      have hKc := hK.sub (tys' := []) [] rfl
      have hDc := hD.sub (ws' := [(jm, .inr (3, [.int th, .long sd, .long tp, .int (nI n), .ref ik, .ref iv, .ref ir, .ref il, .ref iy, .ref ig]))]) [0] (by decide) rfl
      have hFc := va_free (wc := [(jm, .inr (3, [.int th, .long sd, .long tp, .int (nI n), .ref ik, .ref iv, .ref ir, .ref il, .ref iy, .ref ig]))]) hD hS hA [0] rfl
      refine va_calli (va_runV (As := [.int (nI 1)]) (rest := []) ⟨hx, hb, hml, hown, hts⟩ (c_M_refuse l dC dI jm ik iv ir il iy ig n th sd tp (nI 1) _) (cwV 1 hts (g_V big_w m_378 m_380 ms_21 m_4 m_381) rfl rfl rfl (by decide +kernel) ⟨Nat.le_of_ble_eq_true rfl, Nat.le_of_ble_eq_true rfl⟩) (wr_V hPc hKc hDc hN (va_recv hKc hPc (ci := 3) (q0 := 0) rfl rfl)) rfl rfl hl.1 rfl (lv_room (Nat.le_of_ble_eq_true rfl)) d_M_part_19 ⟨Nat.le_of_ble_eq_true rfl, Nat.le_of_ble_eq_true rfl⟩) hS (fun q _ h => hFc q h) hFc (fun r_4 u t H1 locs ht hvm hw hB hz1 hk1 hS => ?_)
      obtain ⟨hP1, hK1, hD1⟩ := hB
      rw [ht] at hP1
      obtain ⟨hP, hD⟩ := va_join (wr := []) (w1 := [(jm, .inr (3, [.int (nI 1), .long sd, .long tp, .int (nI n), .ref ik, .ref iv, .ref ir, .ref il, .ref iy, .ref ig]))]) hP hD [0] [] rfl rfl (by decide) (by decide) hk1 hFc hP1 hD1
      generalize H1 = H at hP hS ⊢
      have hP : va_P (dC, dI) classes [(jm, .inr (3, [.int (nI 1), .long sd, .long tp, .int (nI n), .ref ik, .ref iv, .ref ir, .ref il, .ref iy, .ref ig]))] H := hP
      have hD : va_D A [(jm, .inr (3, [.int (nI 1), .long sd, .long tp, .int (nI n), .ref ik, .ref iv, .ref ir, .ref il, .ref iy, .ref ig]))] := hD
      have hw := hw.symm
      subst hw
      have hP9 := hP.sub (ws' := [(jm, .inr (3, [.int (nI 1), .long sd, .long tp, .int (nI n), .ref ik, .ref iv, .ref ir, .ref il, .ref iy, .ref ig]))]) [0] rfl
      have hD9 := hD.sub (ws' := [(jm, .inr (3, [.int (nI 1), .long sd, .long tp, .int (nI n), .ref ik, .ref iv, .ref ir, .ref il, .ref iy, .ref ig]))]) [0] (by decide) rfl
      have hK9 := hK.sub (tys' := []) [] rfl
      exact W.iret (v := nI 0) hx hb hr (fun t ht hW => ⟨⟨nI 0, (), rfl, rfl, by rw [ht]; exact hP9, va_K.moved hW.alike hK9, hD9⟩, hS.F ht⟩) hS.2.2 d_M_part_22
set_option maxHeartbeats 4000000 in
set_option maxRecDepth 100000 in
/-- reference: count -/
theorem c_M_count (l : Launch) (dC : Nat → ClassId) (dI : Nat → Nat → Nat) (jm ik iv ir il iy ig : Nat) (n : Nat) (th : Int32) (sd tp : Int64) (dk dv dr dl dy : ClassId) (K V R : Nat → Int32) (L S : Nat → Bool) (p0 : Int32) (hn : n ≤ 43) (hR : rfK n R) (sz : Nat) : Met l y_M_count w_M_count ({ frames := 1, cells := 0, slots := 0, locals := 23 }) (wr_P dC dI [.ref jm, .int p0] [(jm, .inr (3, [.int th, .long sd, .long tp, .int (nI n), .ref ik, .ref iv, .ref ir, .ref il, .ref iy, .ref ig])), (ik, .inl (dk, 86, .inl K)), (iv, .inl (dv, 86, .inl V)), (ir, .inl (dr, 86, .inl R)), (il, .inl (dl, 43, .inl (bF L))), (iy, .inl (dy, 256, .inl (bF S)))] [(dk, .int), (dv, .int), (dr, .int), (dl, .boolean), (dy, .boolean)] sz) (va_Qi (fun (r : Int32) (_ : Unit) => r = cmI n K V R L S p0) (fun (u : Unit) => wr_B dC dI (va_A [(jm, .inr (3, [.int th, .long sd, .long tp, .int (nI n), .ref ik, .ref iv, .ref ir, .ref il, .ref iy, .ref ig])), (ik, .inl (dk, 86, .inl K)), (iv, .inl (dv, 86, .inl V)), (ir, .inl (dr, 86, .inl R)), (il, .inl (dl, 43, .inl (bF L))), (iy, .inl (dy, 256, .inl (bF S)))] sz) [(jm, .inr (3, [.int (nI 0), .long sd, .long tp, .int (nI n), .ref ik, .ref iv, .ref ir, .ref il, .ref iy, .ref ig])), (ik, .inl (dk, 86, .inl K)), (iv, .inl (dv, 86, .inl V)), (ir, .inl (dr, 86, .inl R)), (il, .inl (dl, 43, .inl (bF L))), (iy, .inl (dy, 256, .inl (bF S)))] [(dk, .int), (dv, .int), (dr, .int), (dl, .boolean), (dy, .boolean)]) (va_A [(jm, .inr (3, [.int th, .long sd, .long tp, .int (nI n), .ref ik, .ref iv, .ref ir, .ref il, .ref iy, .ref ig])), (ik, .inl (dk, 86, .inl K)), (iv, .inl (dv, 86, .inl V)), (ir, .inl (dr, 86, .inl R)), (il, .inl (dl, 43, .inl (bF L))), (iy, .inl (dy, 256, .inl (bF S)))] sz)) 0 0 (va_A [(jm, .inr (3, [.int th, .long sd, .long tp, .int (nI n), .ref ik, .ref iv, .ref ir, .ref il, .ref iy, .ref ig])), (ik, .inl (dk, 86, .inl K)), (iv, .inl (dv, 86, .inl V)), (ir, .inl (dr, 86, .inl R)), (il, .inl (dl, 43, .inl (bF L))), (iy, .inl (dy, 256, .inl (bF S)))] sz) := by
  refine Met.ofW (cc := b_M_count) (maxL := 5) (ret := (Option.some Jvm.ClassFile.FieldType.int)) (by decide) rfl ?_
  intro p e s m args below meth c s₁ B0 hml hv0
  obtain ⟨rfl, hsz, hP, hK, hD0, hN⟩ := hv0
  have hx := B0.exec
  have hb := B0.bytes
  have hr := B0.returns
  have hts := atoms_spec (ws := w_M_count) B0.pre
  have hown : s.vm.findClass R_M = some m.cls := findClass_of_methodNamed B0.named
  have hlocks := B0.notSynchronized
  subst hsz
  have hD := hD0.self (sz := s.heap.size)
  generalize hAe : va_A [(jm, .inr (3, [.int th, .long sd, .long tp, .int (nI n), .ref ik, .ref iv, .ref ir, .ref il, .ref iy, .ref ig])), (ik, .inl (dk, 86, .inl K)), (iv, .inl (dv, 86, .inl V)), (ir, .inl (dr, 86, .inl R)), (il, .inl (dl, 43, .inl (bF L))), (iy, .inl (dy, 256, .inl (bF S)))] s.heap.size = A at hD ⊢
  have hA : ∀ q : Nat, s.heap.size ≤ q → A q := fun q h => by rw [← hAe]; exact Or.inr h
  have hS : va_S A s.heap s.heap [] := va_S.rf
  have hP : va_P (dC, dI) classes [(jm, .inr (3, [.int th, .long sd, .long tp, .int (nI n), .ref ik, .ref iv, .ref ir, .ref il, .ref iy, .ref ig])), (ik, .inl (dk, 86, .inl K)), (iv, .inl (dv, 86, .inl V)), (ir, .inl (dr, 86, .inl R)), (il, .inl (dl, 43, .inl (bF L))), (iy, .inl (dy, 256, .inl (bF S)))] s.heap := hP
  have hl := lv_entry ([.ref jm, .int p0]) (n := 5) (Nat.le_of_ble_eq_true rfl)
  rw [lg_entry_eq]
  generalize (lg_sl ([.ref jm, .int p0]) ++ List.replicate (5 - (lg_sl ([.ref jm, .int p0])).length) Slot.unset).toArray = ls at hl ⊢
  have hl : lv_has ls 5 [(0, .ref jm), (1, .int p0)] := hl
  refine lv_aload_n hx hb d_M_count_0 rfl (lv_at hl 0 rfl) ?_
  refine lv_iconst (v := nI 0) hx hb d_M_count_1 (by decide +kernel) ?_
  refine va_put (D := (dC, dI)) (ci := 3) (v := .int (nI 0)) (ty := .int) (C := R_M) (T := F_M) (N := 10) hx hb hts (lay_M _) ft_M tok_M nok_M hown hK hP hD hS 0 rfl rfl 0 (by decide) (hts _ (List.mem_cons_of_mem _ m_336)) (fun _ h9 => h9) rfl (by decide +kernel) rfl rfl (Nat.le_of_ble_eq_true rfl) d_M_count_2 (fun H locs hP hD hS => ?_)
  have hP : va_P (dC, dI) classes [(jm, .inr (3, [.int (nI 0), .long sd, .long tp, .int (nI n), .ref ik, .ref iv, .ref ir, .ref il, .ref iy, .ref ig])), (ik, .inl (dk, 86, .inl K)), (iv, .inl (dv, 86, .inl V)), (ir, .inl (dr, 86, .inl R)), (il, .inl (dl, 43, .inl (bF L))), (iy, .inl (dy, 256, .inl (bF S)))] H := hP
  have hD : va_D A [(jm, .inr (3, [.int (nI 0), .long sd, .long tp, .int (nI n), .ref ik, .ref iv, .ref ir, .ref il, .ref iy, .ref ig])), (ik, .inl (dk, 86, .inl K)), (iv, .inl (dv, 86, .inl V)), (ir, .inl (dr, 86, .inl R)), (il, .inl (dl, 43, .inl (bF L))), (iy, .inl (dy, 256, .inl (bF S)))] := hD
  refine lv_iload_n hx hb d_M_count_5 rfl (lv_at hl 1 rfl) ?_
  refine lv_bipush (v := nI 10) hx hb d_M_count_6 (by decide +kernel) ?_
  refine lv_icmp_lt (tgt := 30) hx hb d_M_count_8 (by decide) (fun c_8 => ?_) (fun c_8 => ?_)
  · skip
    refine lv_iconst (v := nI 0) hx hb d_M_count_30 (by decide +kernel) ?_
    refine lv_istore_n (lv' := [(2, .int (nI 0)), (0, .ref jm), (1, .int p0)]) hx hb d_M_count_31 rfl hl (by decide) rfl (fun ls hl => ?_)
    refine lv_iconst (v := nI 0) hx hb d_M_count_32 (by decide +kernel) ?_
    refine lv_istore_n (lv' := [(3, .int (nI 0)), (2, .int (nI 0)), (0, .ref jm), (1, .int p0)]) hx hb d_M_count_33 rfl hl (by decide) rfl (fun ls hl => ?_)
    have lp_34 : ∀ (k9_34 : Nat), ∀ (i : Nat), n - i < k9_34 → (i ≤ n) → ∀ (ls : Array Slot), lv_has ls 5 [(0, .ref jm), (1, .int p0), (2, .int (nI (cnt (cfI n K V R) i))), (3, .int (nI i))] → W p l e (headSpec w_M_count ({ frames := 1, cells := 0, slots := 0, locals := 23 })).room s m ([.ref jm, .int p0]).toArray below meth c H locs 0 0 (MQ below (va_Qi (fun (r : Int32) (_ : Unit) => r = cmI n K V R L S p0) (fun (u : Unit) => wr_B dC dI (A) [(jm, .inr (3, [.int (nI 0), .long sd, .long tp, .int (nI n), .ref ik, .ref iv, .ref ir, .ref il, .ref iy, .ref ig])), (ik, .inl (dk, 86, .inl K)), (iv, .inl (dv, 86, .inl V)), (ir, .inl (dr, 86, .inl R)), (il, .inl (dl, 43, .inl (bF L))), (iy, .inl (dy, 256, .inl (bF S)))] [(dk, .int), (dv, .int), (dr, .int), (dl, .boolean), (dy, .boolean)]) (A)) ([.ref jm, .int p0]).toArray s 0 0 A) (F0 m 34 ls []) := by
      intro k9_34
      induction k9_34 with
      | zero =>
        intro i hk9
        exact absurd hk9 (Nat.not_lt_zero _)
      | succ k9_34 ih_34 =>
        intro i hk9_34 hi ls hl
        refine lv_iload_n hx hb d_M_count_34 rfl (lv_at hl 3 rfl) ?_
        refine lv_aload_n hx hb d_M_count_35 rfl (lv_at hl 0 rfl) ?_
        refine va_get (D := (dC, dI)) (ci := 3) (v := .int (nI n)) (C := R_M) (T := F_M) (N := 10) hx hb hts (lay_M _) hown hK hP 0 rfl rfl 3 (by decide) (hts _ (List.mem_cons_of_mem _ m_339)) (fun _ h9 => h9) rfl d_M_count_36 ?_
        refine lv_icmp_ge (tgt := 74) hx hb d_M_count_39 (by decide) (fun c_39 => ?_) (fun c_39 => ?_)
        · skip
          have c_39 := (nI_leI (by omega) (by omega)).mp c_39
          rw [show nI (cnt (cfI n K V R) i) = nI (cnt (cfI n K V R) n) from (by rw [show i = n by omega])] at hl
          refine lv_iconst (v := nI 0) hx hb d_M_count_74 (by decide +kernel) ?_
          refine lv_istore_n (lv' := [(3, .int (nI 0)), (0, .ref jm), (1, .int p0), (2, .int (nI (cnt (cfI n K V R) n)))]) hx hb d_M_count_75 rfl hl (by decide) rfl (fun ls hl => ?_)
          refine lv_iconst (v := nI 0) hx hb d_M_count_76 (by decide +kernel) ?_
          refine lv_istore (lv' := [(4, .int (nI 0)), (3, .int (nI 0)), (0, .ref jm), (1, .int p0), (2, .int (nI (cnt (cfI n K V R) n)))]) hx hb d_M_count_77 hl (by decide) rfl (fun ls hl => ?_)
          have lp_79 : ∀ (k9_79 : Nat), ∀ (i : Nat), 256 - i < k9_79 → (i ≤ 256) → ∀ (ls : Array Slot), lv_has ls 5 [(0, .ref jm), (1, .int p0), (2, .int (nI (cnt (cfI n K V R) n))), (3, .int (nI (cnt S i))), (4, .int (nI i))] → W p l e (headSpec w_M_count ({ frames := 1, cells := 0, slots := 0, locals := 23 })).room s m ([.ref jm, .int p0]).toArray below meth c H locs 0 0 (MQ below (va_Qi (fun (r : Int32) (_ : Unit) => r = cmI n K V R L S p0) (fun (u : Unit) => wr_B dC dI (A) [(jm, .inr (3, [.int (nI 0), .long sd, .long tp, .int (nI n), .ref ik, .ref iv, .ref ir, .ref il, .ref iy, .ref ig])), (ik, .inl (dk, 86, .inl K)), (iv, .inl (dv, 86, .inl V)), (ir, .inl (dr, 86, .inl R)), (il, .inl (dl, 43, .inl (bF L))), (iy, .inl (dy, 256, .inl (bF S)))] [(dk, .int), (dv, .int), (dr, .int), (dl, .boolean), (dy, .boolean)]) (A)) ([.ref jm, .int p0]).toArray s 0 0 A) (F0 m 79 ls []) := by
            intro k9_79
            induction k9_79 with
            | zero =>
              intro i hk9
              exact absurd hk9 (Nat.not_lt_zero _)
            | succ k9_79 ih_79 =>
              intro i hk9_79 hi ls hl
              refine lv_iload hx hb d_M_count_79 (lv_at hl 4 rfl) ?_
              refine lv_sipush (v := nI 256) hx hb d_M_count_81 (by decide +kernel) ?_
              refine lv_icmp_ge (tgt := 111) hx hb d_M_count_84 (by decide) (fun c_84 => ?_) (fun c_84 => ?_)
              · skip
                have c_84 := (nI_leI (by omega) (by omega)).mp c_84
                rw [show nI (cnt S i) = nI (cnt S 256) from (by rw [show i = 256 by omega])] at hl
                refine lv_iload_n hx hb d_M_count_111 rfl (lv_at hl 1 rfl) ?_
                by_cases o_112 : p0.toInt < 0 ∨ 4 < p0.toInt
                · skip
                  refine lv_tableOut (tgt := 168) hx hb d_M_count_112 o_112 (by decide) ?_
                  refine lv_iconst (v := (-1)) hx hb d_M_count_168 (by decide +kernel) ?_
                  have hP9 := hP.sub (ws' := [(jm, .inr (3, [.int (nI 0), .long sd, .long tp, .int (nI n), .ref ik, .ref iv, .ref ir, .ref il, .ref iy, .ref ig])), (ik, .inl (dk, 86, .inl K)), (iv, .inl (dv, 86, .inl V)), (ir, .inl (dr, 86, .inl R)), (il, .inl (dl, 43, .inl (bF L))), (iy, .inl (dy, 256, .inl (bF S)))]) [0, 1, 2, 3, 4, 5] rfl
                  have hD9 := hD.sub (ws' := [(jm, .inr (3, [.int (nI 0), .long sd, .long tp, .int (nI n), .ref ik, .ref iv, .ref ir, .ref il, .ref iy, .ref ig])), (ik, .inl (dk, 86, .inl K)), (iv, .inl (dv, 86, .inl V)), (ir, .inl (dr, 86, .inl R)), (il, .inl (dl, 43, .inl (bF L))), (iy, .inl (dy, 256, .inl (bF S)))]) [0, 1, 2, 3, 4, 5] (by decide) rfl
                  have hK9 := hK.sub (tys' := [(dk, .int), (dv, .int), (dr, .int), (dl, .boolean), (dy, .boolean)]) [0, 1, 2, 3, 4] rfl
                  exact W.iret (v := (-1)) hx hb hr (fun t ht hW => ⟨⟨(-1), (), rfl, ((cm_o c_8 o_112).symm), by rw [ht]; exact hP9, va_K.moved hW.alike hK9, hD9⟩, hS.F ht⟩) hS.2.2 d_M_count_169
                · skip
                  have o1_112 : ¬ p0.toInt < 0 := fun h => o_112 (Or.inl h)
                  have o2_112 : ¬ 4 < p0.toInt := fun h => o_112 (Or.inr h)
                  by_cases o_112_0 : p0.toInt = 0
                  · skip
                    have o3 : p0 = nI 0 := sw_eq o_112_0 (by decide +kernel)
                    refine lv_tableIn (tgt := 148) hx hb d_M_count_112 o1_112 o2_112 (by rw [o_112_0]; rfl) (by decide) ?_
                    refine lv_aload_n hx hb d_M_count_148 rfl (lv_at hl 0 rfl) ?_
                    refine va_get (D := (dC, dI)) (ci := 3) (v := .int (nI n)) (C := R_M) (T := F_M) (N := 10) hx hb hts (lay_M _) hown hK hP 0 rfl rfl 3 (by decide) (hts _ (List.mem_cons_of_mem _ m_339)) (fun _ h9 => h9) rfl d_M_count_149 ?_
                    have hP9 := hP.sub (ws' := [(jm, .inr (3, [.int (nI 0), .long sd, .long tp, .int (nI n), .ref ik, .ref iv, .ref ir, .ref il, .ref iy, .ref ig])), (ik, .inl (dk, 86, .inl K)), (iv, .inl (dv, 86, .inl V)), (ir, .inl (dr, 86, .inl R)), (il, .inl (dl, 43, .inl (bF L))), (iy, .inl (dy, 256, .inl (bF S)))]) [0, 1, 2, 3, 4, 5] rfl
                    have hD9 := hD.sub (ws' := [(jm, .inr (3, [.int (nI 0), .long sd, .long tp, .int (nI n), .ref ik, .ref iv, .ref ir, .ref il, .ref iy, .ref ig])), (ik, .inl (dk, 86, .inl K)), (iv, .inl (dv, 86, .inl V)), (ir, .inl (dr, 86, .inl R)), (il, .inl (dl, 43, .inl (bF L))), (iy, .inl (dy, 256, .inl (bF S)))]) [0, 1, 2, 3, 4, 5] (by decide) rfl
                    have hK9 := hK.sub (tys' := [(dk, .int), (dv, .int), (dr, .int), (dl, .boolean), (dy, .boolean)]) [0, 1, 2, 3, 4] rfl
                    exact W.iret (v := nI n) hx hb hr (fun t ht hW => ⟨⟨nI n, (), rfl, (by rw [o3]; exact cm_0.symm), by rw [ht]; exact hP9, va_K.moved hW.alike hK9, hD9⟩, hS.F ht⟩) hS.2.2 d_M_count_152
                  · skip
                    by_cases o_112_1 : p0.toInt = 1
                    · skip
                      have o3 : p0 = nI 1 := sw_eq o_112_1 (by decide +kernel)
                      refine lv_tableIn (tgt := 153) hx hb d_M_count_112 o1_112 o2_112 (by rw [o_112_1]; rfl) (by decide) ?_
                      refine lv_aload_n hx hb d_M_count_153 rfl (lv_at hl 0 rfl) ?_
                      have hPc := hP.sub (ws' := [(jm, .inr (3, [.int (nI 0), .long sd, .long tp, .int (nI n), .ref ik, .ref iv, .ref ir, .ref il, .ref iy, .ref ig])), (il, .inl (dl, 43, .inl (bF L)))]) [0, 4] rfl
                      have hKc := hK.sub (tys' := [(dl, .boolean)]) [3] rfl
                      refine vp_callSi (W.runV (As := []) (rest := []) ⟨hx, hb, hml, hown, hts⟩ (c_M_many l dC dI jm ik iv ir il iy ig n (nI 0) sd tp dl L (by first | assumption | omega)) (cwV 0 hts (g_V big_w m_451 m_453 ms_33 m_4 m_454) rfl rfl rfl (by decide +kernel) ⟨Nat.le_of_ble_eq_true rfl, Nat.le_of_ble_eq_true rfl⟩) (ro_V hPc hKc hN (va_recv hKc hPc (ci := 3) (q0 := 0) rfl rfl)) rfl rfl hl.1 rfl (lv_room (Nat.le_of_ble_eq_true rfl)) d_M_count_154 ⟨Nat.le_of_ble_eq_true rfl, Nat.le_of_ble_eq_true rfl⟩) (fun r_1 er_1 => ?_)
                      have er_1 := er_1.symm
                      subst er_1
                      have hP9 := hP.sub (ws' := [(jm, .inr (3, [.int (nI 0), .long sd, .long tp, .int (nI n), .ref ik, .ref iv, .ref ir, .ref il, .ref iy, .ref ig])), (ik, .inl (dk, 86, .inl K)), (iv, .inl (dv, 86, .inl V)), (ir, .inl (dr, 86, .inl R)), (il, .inl (dl, 43, .inl (bF L))), (iy, .inl (dy, 256, .inl (bF S)))]) [0, 1, 2, 3, 4, 5] rfl
                      have hD9 := hD.sub (ws' := [(jm, .inr (3, [.int (nI 0), .long sd, .long tp, .int (nI n), .ref ik, .ref iv, .ref ir, .ref il, .ref iy, .ref ig])), (ik, .inl (dk, 86, .inl K)), (iv, .inl (dv, 86, .inl V)), (ir, .inl (dr, 86, .inl R)), (il, .inl (dl, 43, .inl (bF L))), (iy, .inl (dy, 256, .inl (bF S)))]) [0, 1, 2, 3, 4, 5] (by decide) rfl
                      have hK9 := hK.sub (tys' := [(dk, .int), (dv, .int), (dr, .int), (dl, .boolean), (dy, .boolean)]) [0, 1, 2, 3, 4] rfl
                      exact W.iret (v := nI (cnt L n)) hx hb hr (fun t ht hW => ⟨⟨nI (cnt L n), (), rfl, (by rw [o3]; exact cm_1.symm), by rw [ht]; exact hP9, va_K.moved hW.alike hK9, hD9⟩, hS.F ht⟩) hS.2.2 d_M_count_157
                    · skip
                      by_cases o_112_2 : p0.toInt = 2
                      · skip
                        have o3 : p0 = nI 2 := sw_eq o_112_2 (by decide +kernel)
                        refine lv_tableIn (tgt := 158) hx hb d_M_count_112 o1_112 o2_112 (by rw [o_112_2]; rfl) (by decide) ?_
                        refine lv_aload_n hx hb d_M_count_158 rfl (lv_at hl 0 rfl) ?_
                        refine lv_iconst (v := nI 5) hx hb d_M_count_159 (by decide +kernel) ?_
                        have hPc := hP.sub (ws' := [(jm, .inr (3, [.int (nI 0), .long sd, .long tp, .int (nI n), .ref ik, .ref iv, .ref ir, .ref il, .ref iy, .ref ig])), (ik, .inl (dk, 86, .inl K))]) [0, 1] rfl
                        have hKc := hK.sub (tys' := [(dk, .int)]) [0] rfl
                        refine vp_callSi (W.runV (As := [.int (nI 5)]) (rest := []) ⟨hx, hb, hml, hown, hts⟩ (c_M_ofKind l dC dI jm ik iv ir il iy ig n (nI 0) sd tp dk K (nI 5) (by first | assumption | omega)) (cwV 1 hts (g_V big_w m_479 m_481 ms_35 m_4 m_482) rfl rfl rfl (by decide +kernel) ⟨Nat.le_of_ble_eq_true rfl, Nat.le_of_ble_eq_true rfl⟩) (ro_V hPc hKc hN (va_recv hKc hPc (ci := 3) (q0 := 0) rfl rfl)) rfl rfl hl.1 rfl (lv_room (Nat.le_of_ble_eq_true rfl)) d_M_count_160 ⟨Nat.le_of_ble_eq_true rfl, Nat.le_of_ble_eq_true rfl⟩) (fun r_2 er_2 => ?_)
                        have er_2 := er_2.symm
                        subst er_2
                        have hP9 := hP.sub (ws' := [(jm, .inr (3, [.int (nI 0), .long sd, .long tp, .int (nI n), .ref ik, .ref iv, .ref ir, .ref il, .ref iy, .ref ig])), (ik, .inl (dk, 86, .inl K)), (iv, .inl (dv, 86, .inl V)), (ir, .inl (dr, 86, .inl R)), (il, .inl (dl, 43, .inl (bF L))), (iy, .inl (dy, 256, .inl (bF S)))]) [0, 1, 2, 3, 4, 5] rfl
                        have hD9 := hD.sub (ws' := [(jm, .inr (3, [.int (nI 0), .long sd, .long tp, .int (nI n), .ref ik, .ref iv, .ref ir, .ref il, .ref iy, .ref ig])), (ik, .inl (dk, 86, .inl K)), (iv, .inl (dv, 86, .inl V)), (ir, .inl (dr, 86, .inl R)), (il, .inl (dl, 43, .inl (bF L))), (iy, .inl (dy, 256, .inl (bF S)))]) [0, 1, 2, 3, 4, 5] (by decide) rfl
                        have hK9 := hK.sub (tys' := [(dk, .int), (dv, .int), (dr, .int), (dl, .boolean), (dy, .boolean)]) [0, 1, 2, 3, 4] rfl
                        exact W.iret (v := nI (cnt (kP K (nI 5)) n)) hx hb hr (fun t ht hW => ⟨⟨nI (cnt (kP K (nI 5)) n), (), rfl, (by rw [o3]; exact cm_2.symm), by rw [ht]; exact hP9, va_K.moved hW.alike hK9, hD9⟩, hS.F ht⟩) hS.2.2 d_M_count_163
                      · skip
                        by_cases o_112_3 : p0.toInt = 3
                        · skip
                          have o3 : p0 = nI 3 := sw_eq o_112_3 (by decide +kernel)
                          refine lv_tableIn (tgt := 164) hx hb d_M_count_112 o1_112 o2_112 (by rw [o_112_3]; rfl) (by decide) ?_
                          refine lv_iload_n hx hb d_M_count_164 rfl (lv_at hl 2 rfl) ?_
                          have hP9 := hP.sub (ws' := [(jm, .inr (3, [.int (nI 0), .long sd, .long tp, .int (nI n), .ref ik, .ref iv, .ref ir, .ref il, .ref iy, .ref ig])), (ik, .inl (dk, 86, .inl K)), (iv, .inl (dv, 86, .inl V)), (ir, .inl (dr, 86, .inl R)), (il, .inl (dl, 43, .inl (bF L))), (iy, .inl (dy, 256, .inl (bF S)))]) [0, 1, 2, 3, 4, 5] rfl
                          have hD9 := hD.sub (ws' := [(jm, .inr (3, [.int (nI 0), .long sd, .long tp, .int (nI n), .ref ik, .ref iv, .ref ir, .ref il, .ref iy, .ref ig])), (ik, .inl (dk, 86, .inl K)), (iv, .inl (dv, 86, .inl V)), (ir, .inl (dr, 86, .inl R)), (il, .inl (dl, 43, .inl (bF L))), (iy, .inl (dy, 256, .inl (bF S)))]) [0, 1, 2, 3, 4, 5] (by decide) rfl
                          have hK9 := hK.sub (tys' := [(dk, .int), (dv, .int), (dr, .int), (dl, .boolean), (dy, .boolean)]) [0, 1, 2, 3, 4] rfl
                          exact W.iret (v := nI (cnt (cfI n K V R) n)) hx hb hr (fun t ht hW => ⟨⟨nI (cnt (cfI n K V R) n), (), rfl, (by rw [o3]; exact cm_3.symm), by rw [ht]; exact hP9, va_K.moved hW.alike hK9, hD9⟩, hS.F ht⟩) hS.2.2 d_M_count_165
                        · skip
                          have o_112_4 : p0.toInt = 4 := by omega
                          have o3 : p0 = nI 4 := sw_eq o_112_4 (by decide +kernel)
                          refine lv_tableIn (tgt := 166) hx hb d_M_count_112 o1_112 o2_112 (by rw [o_112_4]; rfl) (by decide) ?_
                          refine lv_iload_n hx hb d_M_count_166 rfl (lv_at hl 3 rfl) ?_
                          have hP9 := hP.sub (ws' := [(jm, .inr (3, [.int (nI 0), .long sd, .long tp, .int (nI n), .ref ik, .ref iv, .ref ir, .ref il, .ref iy, .ref ig])), (ik, .inl (dk, 86, .inl K)), (iv, .inl (dv, 86, .inl V)), (ir, .inl (dr, 86, .inl R)), (il, .inl (dl, 43, .inl (bF L))), (iy, .inl (dy, 256, .inl (bF S)))]) [0, 1, 2, 3, 4, 5] rfl
                          have hD9 := hD.sub (ws' := [(jm, .inr (3, [.int (nI 0), .long sd, .long tp, .int (nI n), .ref ik, .ref iv, .ref ir, .ref il, .ref iy, .ref ig])), (ik, .inl (dk, 86, .inl K)), (iv, .inl (dv, 86, .inl V)), (ir, .inl (dr, 86, .inl R)), (il, .inl (dl, 43, .inl (bF L))), (iy, .inl (dy, 256, .inl (bF S)))]) [0, 1, 2, 3, 4, 5] (by decide) rfl
                          have hK9 := hK.sub (tys' := [(dk, .int), (dv, .int), (dr, .int), (dl, .boolean), (dy, .boolean)]) [0, 1, 2, 3, 4] rfl
                          exact W.iret (v := nI (cnt S 256)) hx hb hr (fun t ht hW => ⟨⟨nI (cnt S 256), (), rfl, (by rw [o3]; exact cm_4.symm), by rw [ht]; exact hP9, va_K.moved hW.alike hK9, hD9⟩, hS.F ht⟩) hS.2.2 d_M_count_167
              · skip
                have c_84 := (not_congr (nI_leI (by omega) (by omega))).mp c_84
                refine lv_iload_n hx hb d_M_count_87 rfl (lv_at hl 3 rfl) ?_
                refine lv_aload_n hx hb d_M_count_88 rfl (lv_at hl 0 rfl) ?_
                refine va_get (D := (dC, dI)) (ci := 3) (v := .ref iy) (C := R_M) (T := F_M) (N := 10) hx hb hts (lay_M _) hown hK hP 0 rfl rfl 8 (by decide) (hts _ (List.mem_cons_of_mem _ m_344)) (fun _ h9 => h9) rfl d_M_count_89 ?_
                refine lv_iload hx hb d_M_count_92 (lv_at hl 4 rfl) ?_
                refine va_zald hx hb hK hP 5 4 rfl rfl (vp_in_nI (by omega) (by omega)) d_M_count_94 ?_
                refine lv_topi (fun w_3 ew_3 => ?_)
                have ew_3 : (bI (S i)) = w_3 := (ew_3.trans (by rw [nI_clamp (by omega)]; rfl)).symm
                subst ew_3
                refine lv_if_eq (tgt := 102) hx hb d_M_count_95 (by decide) (fun c_95 => ?_) (fun c_95 => ?_)
                · skip
                  have c_95 := bI_f c_95
                  refine lv_iconst (v := nI 0) hx hb d_M_count_102 (by decide +kernel) ?_
                  refine lv_iadd hx hb d_M_count_103 ?_
                  refine lv_topi (fun w_4 ew_4 => ?_)
                  have ew_4 : (nI (cnt (S) (i + 1))) = w_4 := (ew_4.trans (by first | (rw [cnt_t (P := S) (n := i) c_95]; exact nI_add _ _) | (rw [cnt_f (P := S) (n := i) c_95]; exact nI_add _ _))).symm
                  subst ew_4
                  refine lv_istore_n (lv' := [(3, .int (nI (cnt (S) (i + 1)))), (0, .ref jm), (1, .int p0), (2, .int (nI (cnt (cfI n K V R) n))), (4, .int (nI i))]) hx hb d_M_count_104 rfl hl (by decide) rfl (fun ls hl => ?_)
                  refine lv_iinc (v := nI (i + 1)) (lv' := [(4, .int (nI (i + 1))), (3, .int (nI (cnt (S) (i + 1)))), (0, .ref jm), (1, .int p0), (2, .int (nI (cnt (cfI n K V R) n)))]) hx hb d_M_count_105 hl (k := 4) rfl (nI_1 _) (by decide) rfl (fun ls hl => ?_)
                  refine lv_goto (tgt := 79) hx hb d_M_count_108 (by decide) ?_
                  exact ih_79 (i + 1) (by omega) (by first | assumption | omega) ls (lv_sub (l' := [(0, .ref jm), (1, .int p0), (2, .int (nI (cnt (cfI n K V R) n))), (3, .int (nI (cnt S (i + 1)))), (4, .int (nI (i + 1)))]) hl [2, 3, 4, 1, 0] rfl)
                · skip
                  have c_95 := bI_t c_95
                  refine lv_iconst (v := nI 1) hx hb d_M_count_98 (by decide +kernel) ?_
                  refine lv_goto (tgt := 103) hx hb d_M_count_99 (by decide) ?_
                  refine lv_iadd hx hb d_M_count_103 ?_
                  refine lv_topi (fun w_5 ew_5 => ?_)
                  have ew_5 : (nI (cnt (S) (i + 1))) = w_5 := (ew_5.trans (by first | (rw [cnt_t (P := S) (n := i) c_95]; exact nI_add _ _) | (rw [cnt_f (P := S) (n := i) c_95]; exact nI_add _ _))).symm
                  subst ew_5
                  refine lv_istore_n (lv' := [(3, .int (nI (cnt (S) (i + 1)))), (0, .ref jm), (1, .int p0), (2, .int (nI (cnt (cfI n K V R) n))), (4, .int (nI i))]) hx hb d_M_count_104 rfl hl (by decide) rfl (fun ls hl => ?_)
                  refine lv_iinc (v := nI (i + 1)) (lv' := [(4, .int (nI (i + 1))), (3, .int (nI (cnt (S) (i + 1)))), (0, .ref jm), (1, .int p0), (2, .int (nI (cnt (cfI n K V R) n)))]) hx hb d_M_count_105 hl (k := 4) rfl (nI_1 _) (by decide) rfl (fun ls hl => ?_)
                  refine lv_goto (tgt := 79) hx hb d_M_count_108 (by decide) ?_
                  exact ih_79 (i + 1) (by omega) (by first | assumption | omega) ls (lv_sub (l' := [(0, .ref jm), (1, .int p0), (2, .int (nI (cnt (cfI n K V R) n))), (3, .int (nI (cnt S (i + 1)))), (4, .int (nI (i + 1)))]) hl [2, 3, 4, 1, 0] rfl)
          exact lp_79 ((256 - 0) + 1) 0 (by omega) (by first | assumption | omega) ls (lv_sub (l' := [(0, .ref jm), (1, .int p0), (2, .int (nI (cnt (cfI n K V R) n))), (3, .int (nI (cnt S 0))), (4, .int (nI 0))]) hl [2, 3, 4, 1, 0] rfl)
        · skip
          have c_39 := (not_congr (nI_leI (by omega) (by omega))).mp c_39
          refine lv_iload_n hx hb d_M_count_42 rfl (lv_at hl 2 rfl) ?_
          refine lv_aload_n hx hb d_M_count_43 rfl (lv_at hl 0 rfl) ?_
          refine va_get (D := (dC, dI)) (ci := 3) (v := .ref ik) (C := R_M) (T := F_M) (N := 10) hx hb hts (lay_M _) hown hK hP 0 rfl rfl 4 (by decide) (hts _ (List.mem_cons_of_mem _ m_340)) (fun _ h9 => h9) rfl d_M_count_44 ?_
          refine lv_iload_n hx hb d_M_count_47 rfl (lv_at hl 3 rfl) ?_
          refine va_iald hx hb hK hP 1 0 rfl rfl (vp_in_nI (by omega) (by omega)) d_M_count_48 ?_
          refine lv_topi (fun w_6 ew_6 => ?_)
          rw [nI_clamp (by omega)] at ew_6
          have ew_6 := ew_6.symm
          subst ew_6
          refine lv_iconst (v := nI 5) hx hb d_M_count_49 (by decide +kernel) ?_
          refine lv_icmp_ne (tgt := 65) hx hb d_M_count_50 (by decide) (fun c_50 => ?_) (fun c_50 => ?_)
          · skip
            refine lv_iconst (v := nI 0) hx hb d_M_count_65 (by decide +kernel) ?_
            refine lv_iadd hx hb d_M_count_66 ?_
            refine lv_topi (fun w_7 ew_7 => ?_)
            have ew_7 : (nI (cnt (cfI n K V R) (i + 1))) = w_7 := (ew_7.trans (by first | (rw [cnt_t (P := cfI n K V R) (n := i) (by unfold cfI; rw [decide_eq_true c_50, c_58]; rfl)]; exact nI_add _ _) | (rw [cnt_f (P := cfI n K V R) (n := i) (by unfold cfI; rw [c_58, Bool.and_false])]; exact nI_add _ _) | (rw [cnt_f (P := cfI n K V R) (n := i) (by unfold cfI; rw [decide_eq_false c_50, Bool.false_and])]; exact nI_add _ _))).symm
            subst ew_7
            refine lv_istore_n (lv' := [(2, .int (nI (cnt (cfI n K V R) (i + 1)))), (0, .ref jm), (1, .int p0), (3, .int (nI i))]) hx hb d_M_count_67 rfl hl (by decide) rfl (fun ls hl => ?_)
            refine lv_iinc (v := nI (i + 1)) (lv' := [(3, .int (nI (i + 1))), (2, .int (nI (cnt (cfI n K V R) (i + 1)))), (0, .ref jm), (1, .int p0)]) hx hb d_M_count_68 hl (k := 3) rfl (nI_1 _) (by decide) rfl (fun ls hl => ?_)
            refine lv_goto (tgt := 34) hx hb d_M_count_71 (by decide) ?_
            exact ih_34 (i + 1) (by omega) (by first | assumption | omega) ls (lv_sub (l' := [(0, .ref jm), (1, .int p0), (2, .int (nI (cnt (cfI n K V R) (i + 1)))), (3, .int (nI (i + 1)))]) hl [2, 3, 1, 0] rfl)
          · skip
            refine lv_aload_n hx hb d_M_count_53 rfl (lv_at hl 0 rfl) ?_
            refine lv_iload_n hx hb d_M_count_54 rfl (lv_at hl 3 rfl) ?_
            have hPc := hP.sub (ws' := [(jm, .inr (3, [.int (nI 0), .long sd, .long tp, .int (nI n), .ref ik, .ref iv, .ref ir, .ref il, .ref iy, .ref ig])), (iv, .inl (dv, 86, .inl V)), (ir, .inl (dr, 86, .inl R))]) [0, 2, 3] rfl
            have hKc := hK.sub (tys' := [(dv, .int), (dr, .int)]) [1, 2] rfl
            refine vp_callSi (W.runV (As := [.int (nI i)]) (rest := [.int (nI (cnt (cfI n K V R) i))]) ⟨hx, hb, hml, hown, hts⟩ (c_M_isFit l dC dI jm ik iv ir il iy ig n (nI 0) sd tp dv dr V R i (by first | assumption | omega) (by first | assumption | omega) (by first | assumption | omega)) (cwV 1 hts (g_V big_w m_415 m_417 ms_27 m_4 m_418) rfl rfl rfl (by decide +kernel) ⟨Nat.le_of_ble_eq_true rfl, Nat.le_of_ble_eq_true rfl⟩) (ro_V hPc hKc hN (va_recv hKc hPc (ci := 3) (q0 := 0) rfl rfl)) rfl rfl hl.1 rfl (lv_room (Nat.le_of_ble_eq_true rfl)) d_M_count_55 ⟨Nat.le_of_ble_eq_true rfl, Nat.le_of_ble_eq_true rfl⟩) (fun r_8 er_8 => ?_)
            have er_8 := er_8.symm
            subst er_8
            refine lv_if_eq (tgt := 65) hx hb d_M_count_58 (by decide) (fun c_58 => ?_) (fun c_58 => ?_)
            · skip
              have c_58 := bI_f c_58
              refine lv_iconst (v := nI 0) hx hb d_M_count_65 (by decide +kernel) ?_
              refine lv_iadd hx hb d_M_count_66 ?_
              refine lv_topi (fun w_9 ew_9 => ?_)
              have ew_9 : (nI (cnt (cfI n K V R) (i + 1))) = w_9 := (ew_9.trans (by first | (rw [cnt_t (P := cfI n K V R) (n := i) (by unfold cfI; rw [decide_eq_true c_50, c_58]; rfl)]; exact nI_add _ _) | (rw [cnt_f (P := cfI n K V R) (n := i) (by unfold cfI; rw [c_58, Bool.and_false])]; exact nI_add _ _) | (rw [cnt_f (P := cfI n K V R) (n := i) (by unfold cfI; rw [decide_eq_false c_50, Bool.false_and])]; exact nI_add _ _))).symm
              subst ew_9
              refine lv_istore_n (lv' := [(2, .int (nI (cnt (cfI n K V R) (i + 1)))), (0, .ref jm), (1, .int p0), (3, .int (nI i))]) hx hb d_M_count_67 rfl hl (by decide) rfl (fun ls hl => ?_)
              refine lv_iinc (v := nI (i + 1)) (lv' := [(3, .int (nI (i + 1))), (2, .int (nI (cnt (cfI n K V R) (i + 1)))), (0, .ref jm), (1, .int p0)]) hx hb d_M_count_68 hl (k := 3) rfl (nI_1 _) (by decide) rfl (fun ls hl => ?_)
              refine lv_goto (tgt := 34) hx hb d_M_count_71 (by decide) ?_
              exact ih_34 (i + 1) (by omega) (by first | assumption | omega) ls (lv_sub (l' := [(0, .ref jm), (1, .int p0), (2, .int (nI (cnt (cfI n K V R) (i + 1)))), (3, .int (nI (i + 1)))]) hl [2, 3, 1, 0] rfl)
            · skip
              have c_58 := bI_t c_58
              refine lv_iconst (v := nI 1) hx hb d_M_count_61 (by decide +kernel) ?_
              refine lv_goto (tgt := 66) hx hb d_M_count_62 (by decide) ?_
              refine lv_iadd hx hb d_M_count_66 ?_
              refine lv_topi (fun w_10 ew_10 => ?_)
              have ew_10 : (nI (cnt (cfI n K V R) (i + 1))) = w_10 := (ew_10.trans (by first | (rw [cnt_t (P := cfI n K V R) (n := i) (by unfold cfI; rw [decide_eq_true c_50, c_58]; rfl)]; exact nI_add _ _) | (rw [cnt_f (P := cfI n K V R) (n := i) (by unfold cfI; rw [c_58, Bool.and_false])]; exact nI_add _ _) | (rw [cnt_f (P := cfI n K V R) (n := i) (by unfold cfI; rw [decide_eq_false c_50, Bool.false_and])]; exact nI_add _ _))).symm
              subst ew_10
              refine lv_istore_n (lv' := [(2, .int (nI (cnt (cfI n K V R) (i + 1)))), (0, .ref jm), (1, .int p0), (3, .int (nI i))]) hx hb d_M_count_67 rfl hl (by decide) rfl (fun ls hl => ?_)
              refine lv_iinc (v := nI (i + 1)) (lv' := [(3, .int (nI (i + 1))), (2, .int (nI (cnt (cfI n K V R) (i + 1)))), (0, .ref jm), (1, .int p0)]) hx hb d_M_count_68 hl (k := 3) rfl (nI_1 _) (by decide) rfl (fun ls hl => ?_)
              refine lv_goto (tgt := 34) hx hb d_M_count_71 (by decide) ?_
              exact ih_34 (i + 1) (by omega) (by first | assumption | omega) ls (lv_sub (l' := [(0, .ref jm), (1, .int p0), (2, .int (nI (cnt (cfI n K V R) (i + 1)))), (3, .int (nI (i + 1)))]) hl [2, 3, 1, 0] rfl)
    exact lp_34 ((n - 0) + 1) 0 (by omega) (by first | assumption | omega) ls (lv_sub (l' := [(0, .ref jm), (1, .int p0), (2, .int (nI (cnt (cfI n K V R) 0))), (3, .int (nI 0))]) hl [2, 3, 1, 0] rfl)
  · skip
    refine lv_iload_n hx hb d_M_count_11 rfl (lv_at hl 1 rfl) ?_
    refine lv_bipush (v := nI 17) hx hb d_M_count_12 (by decide +kernel) ?_
    refine lv_icmp_ge (tgt := 28) hx hb d_M_count_14 (by decide) (fun c_14 => ?_) (fun c_14 => ?_)
    · skip
      refine lv_iconst (v := (-1)) hx hb d_M_count_28 (by decide +kernel) ?_
      have hP9 := hP.sub (ws' := [(jm, .inr (3, [.int (nI 0), .long sd, .long tp, .int (nI n), .ref ik, .ref iv, .ref ir, .ref il, .ref iy, .ref ig])), (ik, .inl (dk, 86, .inl K)), (iv, .inl (dv, 86, .inl V)), (ir, .inl (dr, 86, .inl R)), (il, .inl (dl, 43, .inl (bF L))), (iy, .inl (dy, 256, .inl (bF S)))]) [0, 1, 2, 3, 4, 5] rfl
      have hD9 := hD.sub (ws' := [(jm, .inr (3, [.int (nI 0), .long sd, .long tp, .int (nI n), .ref ik, .ref iv, .ref ir, .ref il, .ref iy, .ref ig])), (ik, .inl (dk, 86, .inl K)), (iv, .inl (dv, 86, .inl V)), (ir, .inl (dr, 86, .inl R)), (il, .inl (dl, 43, .inl (bF L))), (iy, .inl (dy, 256, .inl (bF S)))]) [0, 1, 2, 3, 4, 5] (by decide) rfl
      have hK9 := hK.sub (tys' := [(dk, .int), (dv, .int), (dr, .int), (dl, .boolean), (dy, .boolean)]) [0, 1, 2, 3, 4] rfl
      exact W.iret (v := (-1)) hx hb hr (fun t ht hW => ⟨⟨(-1), (), rfl, (by first | exact (cm_k c_8 c_14).symm | exact (cm_n c_8 c_14).symm), by rw [ht]; exact hP9, va_K.moved hW.alike hK9, hD9⟩, hS.F ht⟩) hS.2.2 d_M_count_29
    · skip
      refine lv_aload_n hx hb d_M_count_17 rfl (lv_at hl 0 rfl) ?_
      refine lv_iload_n hx hb d_M_count_18 rfl (lv_at hl 1 rfl) ?_
      refine lv_bipush (v := nI 10) hx hb d_M_count_19 (by decide +kernel) ?_
      refine lv_isub hx hb d_M_count_21 ?_
      have hPc := hP.sub (ws' := [(jm, .inr (3, [.int (nI 0), .long sd, .long tp, .int (nI n), .ref ik, .ref iv, .ref ir, .ref il, .ref iy, .ref ig])), (ik, .inl (dk, 86, .inl K))]) [0, 1] rfl
      have hKc := hK.sub (tys' := [(dk, .int)]) [0] rfl
      refine vp_callSi (W.runV (As := [.int (p0 - (nI 10))]) (rest := []) ⟨hx, hb, hml, hown, hts⟩ (c_M_ofKind l dC dI jm ik iv ir il iy ig n (nI 0) sd tp dk K (p0 - (nI 10)) (by first | assumption | omega)) (cwV 1 hts (g_V big_w m_479 m_481 ms_35 m_4 m_482) rfl rfl rfl (by decide +kernel) ⟨Nat.le_of_ble_eq_true rfl, Nat.le_of_ble_eq_true rfl⟩) (ro_V hPc hKc hN (va_recv hKc hPc (ci := 3) (q0 := 0) rfl rfl)) rfl rfl hl.1 rfl (lv_room (Nat.le_of_ble_eq_true rfl)) d_M_count_22 ⟨Nat.le_of_ble_eq_true rfl, Nat.le_of_ble_eq_true rfl⟩) (fun r_11 er_11 => ?_)
      have er_11 := er_11.symm
      subst er_11
      refine lv_goto (tgt := 29) hx hb d_M_count_25 (by decide) ?_
      have hP9 := hP.sub (ws' := [(jm, .inr (3, [.int (nI 0), .long sd, .long tp, .int (nI n), .ref ik, .ref iv, .ref ir, .ref il, .ref iy, .ref ig])), (ik, .inl (dk, 86, .inl K)), (iv, .inl (dv, 86, .inl V)), (ir, .inl (dr, 86, .inl R)), (il, .inl (dl, 43, .inl (bF L))), (iy, .inl (dy, 256, .inl (bF S)))]) [0, 1, 2, 3, 4, 5] rfl
      have hD9 := hD.sub (ws' := [(jm, .inr (3, [.int (nI 0), .long sd, .long tp, .int (nI n), .ref ik, .ref iv, .ref ir, .ref il, .ref iy, .ref ig])), (ik, .inl (dk, 86, .inl K)), (iv, .inl (dv, 86, .inl V)), (ir, .inl (dr, 86, .inl R)), (il, .inl (dl, 43, .inl (bF L))), (iy, .inl (dy, 256, .inl (bF S)))]) [0, 1, 2, 3, 4, 5] (by decide) rfl
      have hK9 := hK.sub (tys' := [(dk, .int), (dv, .int), (dr, .int), (dl, .boolean), (dy, .boolean)]) [0, 1, 2, 3, 4] rfl
      exact W.iret (v := nI (cnt (kP K (p0 - (nI 10))) n)) hx hb hr (fun t ht hW => ⟨⟨nI (cnt (kP K (p0 - (nI 10))) n), (), rfl, (by first | exact (cm_k c_8 c_14).symm | exact (cm_n c_8 c_14).symm), by rw [ht]; exact hP9, va_K.moved hW.alike hK9, hD9⟩, hS.F ht⟩) hS.2.2 d_M_count_29
end
