section
-- ===== PART A: goes FIRST, ahead of the names: the tables' words, and 'selects' of the private methods out of them =====
/-- a private method of a class that the tables say can be made, by its rows of tables_1 -/
def lw_okq (q : MethodName × Nat) : Prop := (q.1.cls ≠ "java/lang/invoke/MethodHandle" ∧ q.1.cls ≠ "java/lang/invoke/VarHandle") ∧ Cond.instantiable q.1.cls q.2 ∈ tables_1 ∧ Cond.privateMethod q.1 ∈ tables_1 ∧ Cond.instanceMethod q.1 ∈ tables_1
theorem lw_p0 : lw_okq (⟨"PortDrawer", "verdictOf", "(J)I"⟩, 7) := ⟨⟨by decide +kernel, by decide +kernel⟩, List.mem_of_getElem? (i := 12) (by decide +kernel), List.mem_of_getElem? (i := 89) (by decide +kernel), List.mem_of_getElem? (i := 90) (by decide +kernel)⟩
theorem lw_p1 : lw_okq (⟨"PortDrawer", "staysWith", "(J)Z"⟩, 7) := ⟨⟨by decide +kernel, by decide +kernel⟩, List.mem_of_getElem? (i := 12) (by decide +kernel), List.mem_of_getElem? (i := 97) (by decide +kernel), List.mem_of_getElem? (i := 98) (by decide +kernel)⟩
theorem lw_p2 : lw_okq (⟨"PortDrawer", "allParts", "()J"⟩, 7) := ⟨⟨by decide +kernel, by decide +kernel⟩, List.mem_of_getElem? (i := 12) (by decide +kernel), List.mem_of_getElem? (i := 101) (by decide +kernel), List.mem_of_getElem? (i := 102) (by decide +kernel)⟩
theorem lw_p3 : lw_okq (⟨"PortDrawer", "firstThatMayGo", "()I"⟩, 7) := ⟨⟨by decide +kernel, by decide +kernel⟩, List.mem_of_getElem? (i := 12) (by decide +kernel), List.mem_of_getElem? (i := 111) (by decide +kernel), List.mem_of_getElem? (i := 112) (by decide +kernel)⟩
theorem lw_p4 : lw_okq (⟨"PortDrawer", "leftWithout", "(I)J"⟩, 7) := ⟨⟨by decide +kernel, by decide +kernel⟩, List.mem_of_getElem? (i := 12) (by decide +kernel), List.mem_of_getElem? (i := 118) (by decide +kernel), List.mem_of_getElem? (i := 119) (by decide +kernel)⟩
theorem lw_p5 : lw_okq (⟨"PortDrawer$Harbour", "ofKindAheadOf", "(II)I"⟩, 5) := ⟨⟨by decide +kernel, by decide +kernel⟩, List.mem_of_getElem? (i := 20) (by decide +kernel), List.mem_of_getElem? (i := 135) (by decide +kernel), List.mem_of_getElem? (i := 136) (by decide +kernel)⟩
theorem lw_p6 : lw_okq (⟨"PortDrawer", "verdictsThatStay", "()I"⟩, 7) := ⟨⟨by decide +kernel, by decide +kernel⟩, List.mem_of_getElem? (i := 12) (by decide +kernel), List.mem_of_getElem? (i := 139) (by decide +kernel), List.mem_of_getElem? (i := 140) (by decide +kernel)⟩
theorem lw_p7 : lw_okq (⟨"PortDrawer", "countOfKind", "(I)I"⟩, 7) := ⟨⟨by decide +kernel, by decide +kernel⟩, List.mem_of_getElem? (i := 12) (by decide +kernel), List.mem_of_getElem? (i := 143) (by decide +kernel), List.mem_of_getElem? (i := 144) (by decide +kernel)⟩
theorem lw_p8 : lw_okq (⟨"java/lang/Throwable", "fillInStackTrace", "(I)Ljava/lang/Throwable;"⟩, 6) := ⟨⟨by decide +kernel, by decide +kernel⟩, List.mem_of_getElem? (i := 198) (by decide +kernel), List.mem_of_getElem? (i := 196) (by decide +kernel), List.mem_of_getElem? (i := 197) (by decide +kernel)⟩
theorem lw_p9 : lw_okq (⟨"PortDrawer$Harbour", "fill", "(JI)V"⟩, 5) := ⟨⟨by decide +kernel, by decide +kernel⟩, List.mem_of_getElem? (i := 20) (by decide +kernel), List.mem_of_getElem? (i := 228) (by decide +kernel), List.mem_of_getElem? (i := 229) (by decide +kernel)⟩
theorem lw_p10 : lw_okq (⟨"PortDrawer$Tape", "rewind", "(J)V"⟩, 1) := ⟨⟨by decide +kernel, by decide +kernel⟩, List.mem_of_getElem? (i := 26) (by decide +kernel), List.mem_of_getElem? (i := 232) (by decide +kernel), List.mem_of_getElem? (i := 233) (by decide +kernel)⟩
theorem lw_p11 : lw_okq (⟨"PortDrawer$Harbour", "addPart", "(I)V"⟩, 5) := ⟨⟨by decide +kernel, by decide +kernel⟩, List.mem_of_getElem? (i := 20) (by decide +kernel), List.mem_of_getElem? (i := 236) (by decide +kernel), List.mem_of_getElem? (i := 237) (by decide +kernel)⟩
theorem lw_p12 : lw_okq (⟨"PortDrawer$Tape", "numberBelow", "(I)I"⟩, 1) := ⟨⟨by decide +kernel, by decide +kernel⟩, List.mem_of_getElem? (i := 26) (by decide +kernel), List.mem_of_getElem? (i := 240) (by decide +kernel), List.mem_of_getElem? (i := 241) (by decide +kernel)⟩
theorem lw_p13 : lw_okq (⟨"PortDrawer$Harbour", "drawReference", "(I)I"⟩, 5) := ⟨⟨by decide +kernel, by decide +kernel⟩, List.mem_of_getElem? (i := 20) (by decide +kernel), List.mem_of_getElem? (i := 246) (by decide +kernel), List.mem_of_getElem? (i := 247) (by decide +kernel)⟩
theorem lw_p14 : lw_okq (⟨"PortDrawer$Harbour", "partsToReferTo", "(I)I"⟩, 5) := ⟨⟨by decide +kernel, by decide +kernel⟩, List.mem_of_getElem? (i := 20) (by decide +kernel), List.mem_of_getElem? (i := 250) (by decide +kernel), List.mem_of_getElem? (i := 251) (by decide +kernel)⟩
theorem lw_p15 : lw_okq (⟨"PortDrawer", "noteGoingWith", "()V"⟩, 7) := ⟨⟨by decide +kernel, by decide +kernel⟩, List.mem_of_getElem? (i := 12) (by decide +kernel), List.mem_of_getElem? (i := 257) (by decide +kernel), List.mem_of_getElem? (i := 258) (by decide +kernel)⟩
def lw_privs_1 : List (MethodName × Nat) := [(⟨"PortDrawer", "verdictOf", "(J)I"⟩, 7), (⟨"PortDrawer", "staysWith", "(J)Z"⟩, 7), (⟨"PortDrawer", "allParts", "()J"⟩, 7), (⟨"PortDrawer", "firstThatMayGo", "()I"⟩, 7), (⟨"PortDrawer", "leftWithout", "(I)J"⟩, 7), (⟨"PortDrawer$Harbour", "ofKindAheadOf", "(II)I"⟩, 5), (⟨"PortDrawer", "verdictsThatStay", "()I"⟩, 7), (⟨"PortDrawer", "countOfKind", "(I)I"⟩, 7), (⟨"java/lang/Throwable", "fillInStackTrace", "(I)Ljava/lang/Throwable;"⟩, 6), (⟨"PortDrawer$Harbour", "fill", "(JI)V"⟩, 5), (⟨"PortDrawer$Tape", "rewind", "(J)V"⟩, 1), (⟨"PortDrawer$Harbour", "addPart", "(I)V"⟩, 5), (⟨"PortDrawer$Tape", "numberBelow", "(I)I"⟩, 1), (⟨"PortDrawer$Harbour", "drawReference", "(I)I"⟩, 5), (⟨"PortDrawer$Harbour", "partsToReferTo", "(I)I"⟩, 5), (⟨"PortDrawer", "noteGoingWith", "()V"⟩, 7)]
theorem lw_r1 : ∀ q ∈ lw_privs_1, lw_okq q := List.forall_mem_cons.mpr ⟨lw_p0, List.forall_mem_cons.mpr ⟨lw_p1, List.forall_mem_cons.mpr ⟨lw_p2, List.forall_mem_cons.mpr ⟨lw_p3, List.forall_mem_cons.mpr ⟨lw_p4, List.forall_mem_cons.mpr ⟨lw_p5, List.forall_mem_cons.mpr ⟨lw_p6, List.forall_mem_cons.mpr ⟨lw_p7, List.forall_mem_cons.mpr ⟨lw_p8, List.forall_mem_cons.mpr ⟨lw_p9, List.forall_mem_cons.mpr ⟨lw_p10, List.forall_mem_cons.mpr ⟨lw_p11, List.forall_mem_cons.mpr ⟨lw_p12, List.forall_mem_cons.mpr ⟨lw_p13, List.forall_mem_cons.mpr ⟨lw_p14, List.forall_mem_cons.mpr ⟨lw_p15, fun _ h => absurd h List.not_mem_nil⟩⟩⟩⟩⟩⟩⟩⟩⟩⟩⟩⟩⟩⟩⟩⟩
theorem lw_p16 : lw_okq (⟨"PortDrawer$Harbour", "has", "(I)Z"⟩, 5) := ⟨⟨by decide +kernel, by decide +kernel⟩, List.mem_of_getElem? (i := 20) (by decide +kernel), List.mem_of_getElem? (i := 261) (by decide +kernel), List.mem_of_getElem? (i := 262) (by decide +kernel)⟩
theorem lw_p17 : lw_okq (⟨"PortDrawer", "notePartsOfBits", "()V"⟩, 7) := ⟨⟨by decide +kernel, by decide +kernel⟩, List.mem_of_getElem? (i := 12) (by decide +kernel), List.mem_of_getElem? (i := 265) (by decide +kernel), List.mem_of_getElem? (i := 266) (by decide +kernel)⟩
theorem lw_p18 : lw_okq (⟨"PortDrawer$Harbour", "isFittingAct", "(I)Z"⟩, 5) := ⟨⟨by decide +kernel, by decide +kernel⟩, List.mem_of_getElem? (i := 20) (by decide +kernel), List.mem_of_getElem? (i := 269) (by decide +kernel), List.mem_of_getElem? (i := 270) (by decide +kernel)⟩
theorem lw_p19 : lw_okq (⟨"PortDrawer$Harbour", "isAct", "(I)Z"⟩, 5) := ⟨⟨by decide +kernel, by decide +kernel⟩, List.mem_of_getElem? (i := 20) (by decide +kernel), List.mem_of_getElem? (i := 273) (by decide +kernel), List.mem_of_getElem? (i := 274) (by decide +kernel)⟩
theorem lw_p20 : lw_okq (⟨"PortDrawer$Harbour", "isLike", "(LPortDrawer$Harbour;)Z"⟩, 5) := ⟨⟨by decide +kernel, by decide +kernel⟩, List.mem_of_getElem? (i := 20) (by decide +kernel), List.mem_of_getElem? (i := 327) (by decide +kernel), List.mem_of_getElem? (i := 328) (by decide +kernel)⟩
theorem lw_p21 : lw_okq (⟨"PortDrawerModel", "refuse", "(I)I"⟩, 10) := ⟨⟨by decide +kernel, by decide +kernel⟩, List.mem_of_getElem? (i := 331) (by decide +kernel), List.mem_of_getElem? (i := 379) (by decide +kernel), List.mem_of_getElem? (i := 380) (by decide +kernel)⟩
theorem lw_p22 : lw_okq (⟨"PortDrawerModel", "draws", "(JII)V"⟩, 10) := ⟨⟨by decide +kernel, by decide +kernel⟩, List.mem_of_getElem? (i := 331) (by decide +kernel), List.mem_of_getElem? (i := 383) (by decide +kernel), List.mem_of_getElem? (i := 384) (by decide +kernel)⟩
theorem lw_p23 : lw_okq (⟨"PortDrawerModel", "number", "(I)I"⟩, 10) := ⟨⟨by decide +kernel, by decide +kernel⟩, List.mem_of_getElem? (i := 331) (by decide +kernel), List.mem_of_getElem? (i := 387) (by decide +kernel), List.mem_of_getElem? (i := 388) (by decide +kernel)⟩
theorem lw_p24 : lw_okq (⟨"PortDrawerModel", "reference", "(II)I"⟩, 10) := ⟨⟨by decide +kernel, by decide +kernel⟩, List.mem_of_getElem? (i := 331) (by decide +kernel), List.mem_of_getElem? (i := 393) (by decide +kernel), List.mem_of_getElem? (i := 394) (by decide +kernel)⟩
theorem lw_p25 : lw_okq (⟨"PortDrawerModel", "all", "()V"⟩, 10) := ⟨⟨by decide +kernel, by decide +kernel⟩, List.mem_of_getElem? (i := 331) (by decide +kernel), List.mem_of_getElem? (i := 400) (by decide +kernel), List.mem_of_getElem? (i := 401) (by decide +kernel)⟩
theorem lw_p26 : lw_okq (⟨"PortDrawerModel", "isPart", "(I)Z"⟩, 10) := ⟨⟨by decide +kernel, by decide +kernel⟩, List.mem_of_getElem? (i := 331) (by decide +kernel), List.mem_of_getElem? (i := 412) (by decide +kernel), List.mem_of_getElem? (i := 413) (by decide +kernel)⟩
theorem lw_p27 : lw_okq (⟨"PortDrawerModel", "isFit", "(I)Z"⟩, 10) := ⟨⟨by decide +kernel, by decide +kernel⟩, List.mem_of_getElem? (i := 331) (by decide +kernel), List.mem_of_getElem? (i := 416) (by decide +kernel), List.mem_of_getElem? (i := 417) (by decide +kernel)⟩
theorem lw_p28 : lw_okq (⟨"PortDrawerModel", "none", "()V"⟩, 10) := ⟨⟨by decide +kernel, by decide +kernel⟩, List.mem_of_getElem? (i := 331) (by decide +kernel), List.mem_of_getElem? (i := 428) (by decide +kernel), List.mem_of_getElem? (i := 429) (by decide +kernel)⟩
theorem lw_p29 : lw_okq (⟨"PortDrawerModel", "judged", "()I"⟩, 10) := ⟨⟨by decide +kernel, by decide +kernel⟩, List.mem_of_getElem? (i := 331) (by decide +kernel), List.mem_of_getElem? (i := 432) (by decide +kernel), List.mem_of_getElem? (i := 433) (by decide +kernel)⟩
theorem lw_p30 : lw_okq (⟨"PortDrawerModel", "first", "()I"⟩, 10) := ⟨⟨by decide +kernel, by decide +kernel⟩, List.mem_of_getElem? (i := 331) (by decide +kernel), List.mem_of_getElem? (i := 440) (by decide +kernel), List.mem_of_getElem? (i := 441) (by decide +kernel)⟩
theorem lw_p31 : lw_okq (⟨"PortDrawerModel", "mayGo", "(I)Z"⟩, 10) := ⟨⟨by decide +kernel, by decide +kernel⟩, List.mem_of_getElem? (i := 331) (by decide +kernel), List.mem_of_getElem? (i := 444) (by decide +kernel), List.mem_of_getElem? (i := 445) (by decide +kernel)⟩
def lw_privs_2 : List (MethodName × Nat) := [(⟨"PortDrawer$Harbour", "has", "(I)Z"⟩, 5), (⟨"PortDrawer", "notePartsOfBits", "()V"⟩, 7), (⟨"PortDrawer$Harbour", "isFittingAct", "(I)Z"⟩, 5), (⟨"PortDrawer$Harbour", "isAct", "(I)Z"⟩, 5), (⟨"PortDrawer$Harbour", "isLike", "(LPortDrawer$Harbour;)Z"⟩, 5), (⟨"PortDrawerModel", "refuse", "(I)I"⟩, 10), (⟨"PortDrawerModel", "draws", "(JII)V"⟩, 10), (⟨"PortDrawerModel", "number", "(I)I"⟩, 10), (⟨"PortDrawerModel", "reference", "(II)I"⟩, 10), (⟨"PortDrawerModel", "all", "()V"⟩, 10), (⟨"PortDrawerModel", "isPart", "(I)Z"⟩, 10), (⟨"PortDrawerModel", "isFit", "(I)Z"⟩, 10), (⟨"PortDrawerModel", "none", "()V"⟩, 10), (⟨"PortDrawerModel", "judged", "()I"⟩, 10), (⟨"PortDrawerModel", "first", "()I"⟩, 10), (⟨"PortDrawerModel", "mayGo", "(I)Z"⟩, 10)]
theorem lw_r2 : ∀ q ∈ lw_privs_2, lw_okq q := List.forall_mem_cons.mpr ⟨lw_p16, List.forall_mem_cons.mpr ⟨lw_p17, List.forall_mem_cons.mpr ⟨lw_p18, List.forall_mem_cons.mpr ⟨lw_p19, List.forall_mem_cons.mpr ⟨lw_p20, List.forall_mem_cons.mpr ⟨lw_p21, List.forall_mem_cons.mpr ⟨lw_p22, List.forall_mem_cons.mpr ⟨lw_p23, List.forall_mem_cons.mpr ⟨lw_p24, List.forall_mem_cons.mpr ⟨lw_p25, List.forall_mem_cons.mpr ⟨lw_p26, List.forall_mem_cons.mpr ⟨lw_p27, List.forall_mem_cons.mpr ⟨lw_p28, List.forall_mem_cons.mpr ⟨lw_p29, List.forall_mem_cons.mpr ⟨lw_p30, List.forall_mem_cons.mpr ⟨lw_p31, fun _ h => absurd h List.not_mem_nil⟩⟩⟩⟩⟩⟩⟩⟩⟩⟩⟩⟩⟩⟩⟩⟩
theorem lw_p32 : lw_okq (⟨"PortDrawerModel", "marks", "(I)I"⟩, 10) := ⟨⟨by decide +kernel, by decide +kernel⟩, List.mem_of_getElem? (i := 331) (by decide +kernel), List.mem_of_getElem? (i := 448) (by decide +kernel), List.mem_of_getElem? (i := 449) (by decide +kernel)⟩
theorem lw_p33 : lw_okq (⟨"PortDrawerModel", "many", "()I"⟩, 10) := ⟨⟨by decide +kernel, by decide +kernel⟩, List.mem_of_getElem? (i := 331) (by decide +kernel), List.mem_of_getElem? (i := 452) (by decide +kernel), List.mem_of_getElem? (i := 453) (by decide +kernel)⟩
theorem lw_p34 : lw_okq (⟨"PortDrawerModel", "leaves", "()V"⟩, 10) := ⟨⟨by decide +kernel, by decide +kernel⟩, List.mem_of_getElem? (i := 331) (by decide +kernel), List.mem_of_getElem? (i := 456) (by decide +kernel), List.mem_of_getElem? (i := 457) (by decide +kernel)⟩
theorem lw_p35 : lw_okq (⟨"PortDrawerModel", "ofKind", "(I)I"⟩, 10) := ⟨⟨by decide +kernel, by decide +kernel⟩, List.mem_of_getElem? (i := 331) (by decide +kernel), List.mem_of_getElem? (i := 480) (by decide +kernel), List.mem_of_getElem? (i := 481) (by decide +kernel)⟩
def lw_privs_3 : List (MethodName × Nat) := [(⟨"PortDrawerModel", "marks", "(I)I"⟩, 10), (⟨"PortDrawerModel", "many", "()I"⟩, 10), (⟨"PortDrawerModel", "leaves", "()V"⟩, 10), (⟨"PortDrawerModel", "ofKind", "(I)I"⟩, 10)]
theorem lw_r3 : ∀ q ∈ lw_privs_3, lw_okq q := List.forall_mem_cons.mpr ⟨lw_p32, List.forall_mem_cons.mpr ⟨lw_p33, List.forall_mem_cons.mpr ⟨lw_p34, List.forall_mem_cons.mpr ⟨lw_p35, fun _ h => absurd h List.not_mem_nil⟩⟩⟩⟩
def lw_privs : List (MethodName × Nat) := lw_privs_1 ++ (lw_privs_2 ++ (lw_privs_3))
def lw_tbl : List Cond := k2_sels lw_privs ++ tables_1
theorem lw_privs_ok : ∀ q ∈ lw_privs, lw_okq q := by
  show ∀ q ∈ lw_privs_1 ++ (lw_privs_2 ++ (lw_privs_3)), lw_okq q
  exact List.forall_mem_append.mpr ⟨lw_r1, List.forall_mem_append.mpr ⟨lw_r2, lw_r3⟩⟩
end
section
/-! ===== BEGIN words of one list among another's, by their places ===== -/
theorem goodIn_r {big : List Cond} (ws : List Cond) (ps : List Nat) (hp : ws = ps.filterMap (fun i => big[i]?)) (h : ws.all goodWord = true) : GoodIn big ws := by
  intro w hw
  have h1 := List.all_eq_true.mp h w hw
  rw [hp] at hw
  obtain ⟨i, -, hi⟩ := List.mem_filterMap.mp hw
  have hm : w ∈ big := by first | exact List.mem_of_getElem? hi | exact List.getElem?_mem hi
  exact ⟨hm, good_of_word h1⟩
theorem goodIn_app {big a b : List Cond} (ha : GoodIn big a) (hb : GoodIn big b) : GoodIn big (a ++ b) := fun w h => (List.mem_append.mp h).elim (ha w) (hb w)
theorem goodIn_ca {big a b : List Cond} {c : Cond} (ha : GoodIn big (c :: a)) (hb : GoodIn big b) : GoodIn big (c :: (a ++ b)) := fun w h => (List.mem_cons.mp h).elim (fun e => ha w (List.mem_cons.mpr (Or.inl e))) (fun h => (List.mem_append.mp h).elim (fun h => ha w (List.mem_cons.mpr (Or.inr h))) (hb w))
theorem goodIn_sub {big ws : List Cond} (hm : ∀ w ∈ ws, w ∈ big) (h : ws.all goodWord = true) : GoodIn big ws := fun w hw => ⟨hm w hw, good_of_word (List.all_eq_true.mp h w hw)⟩
/-! ===== END ===== -/

/-! ===== BEGIN exceptions that leave a method, and their catching by the caller (launches without stack traces) ===== -/
section VXA
/-! The laws vx_back, vx_callV, vx_callS, vx_callSW, vx_throw0, vx_throwS follow proofs of the library, with one case more: JvmDerived/Free/Laws.lean (Back.of_free), Shelf42/LK1.lean (callV, callS), Shelf/KitTraced.lean (throwNew0V, throwNewS). -/
/-- where a method has thrown q: the class by its name, the cell, what was written, the world -/
def vx_T (XC : String → State → State → Prop) (st : State) (q : Addr) (t : State) (mc ms : Nat) (free : Addr → Prop) : Prop :=
  ∃ (E : String) (ce : Cell) (L : List Loc), XC E st t ∧ t.heap[q]? = some ce ∧ ce.vm = .none ∧ st.vm.findClass E = some ce.cls ∧ st.WarmedH t.vm ∧ st.sameButNew ({ t with vm := st.vm } : State) L mc ms ∧ ∀ z ∈ L, free z.base
def vx_Q (Qc : Array Value → State → Outcome → State → Prop) (XC : String → State → State → Prop) (mc ms : Nat) (free : Addr → Prop) : Array Value → State → Outcome → State → Prop := fun a st o t =>
  (Qc a st o t ∧ ∃ L, FrameEnd st o t L mc ms ∧ ∀ q ∈ L, free q.base) ∨ ∃ q, o = .threw q ∧ vx_T XC st q t mc ms free
/-- a callee that returns or throws -/
def vx_Met (l : Launch) (y : MethodName) (ws : List Cond) (rm : Room) (Pc : Array Value → State → Prop) (Qc : Array Value → State → Outcome → State → Prop) (XC : String → State → State → Prop) (mc ms : Nat) (free : Addr → Prop) : Prop :=
  MetFree l y (headSpec ws rm) Pc (fun _ _ _ _ _ => True) (vx_Q Qc XC mc ms free)
def vx_Post (XC : String → State → State → Prop) (mc ms : Nat) (free : Addr → Prop) : Pt → Array Value → Addr → Pt → Prop := fun A a q B =>
  ∃ (g : JFrame) (mk : MethodId) (t : State) (L : List Loc) (E : String) (ce : Cell), B.U.heap = t.heap ∧ B.U.vm = t.vm ∧ XC E (A.U.calling g mk a) t ∧ t.heap[q]? = some ce ∧ ce.vm = .none ∧ A.U.vm.findClass E = some ce.cls ∧ B.locs = A.locs ++ L ∧ (∀ z ∈ L, free z.base) ∧ B.cells = A.cells + mc ∧ B.slots = A.slots + ms
def vx_Back (l : Launch) (R : Room) (p : Program) (e : Env) (below : List Frame) (s : State) (sargs : Array Value) (y : MethodName) (len W9 : Nat)
    (Pre : Pt → Array Value → Prop) (Post : Pt → Array Value → Option Value → Pt → Prop) (PostX : Pt → Array Value → Addr → Pt → Prop) : Prop :=
  ∀ (m : MethodId) (meth : Method) (c : Code) (A : Pt) (g : JFrame) (ig : Instr) (mk : MethodId) (a : Array Value),
    Stand p l e R s m sargs below meth c A.U A.locs A.cells A.slots → g.method = m → g.locals.size = c.maxLocals → decode c.code g.pc = .ok (ig, len) →
    2 * g.monitorRoom + (g.stack.map fun v => v.category).sum ≤ W9 → A.U.methodNamed? y = some mk → Pre A a →
    (∃ (v : Option Value) (B : Pt), Stand p l e R s m sargs below meth c B.U B.locs B.cells B.slots ∧ Post A a v B ∧
      Steps p.tables e below (doInvoke e (A.U.setTop g) [] mk a).1 (B.U.setTop { g with pc := g.pc + len, stack := v.toList ++ g.stack })) ∨
    (∃ (q : Addr) (B : Pt), Stand p l e R s m sargs below meth c B.U B.locs B.cells B.slots ∧ PostX A a q B ∧
      Steps p.tables e below (doInvoke e (A.U.setTop g) [] mk a).1 ((B.U.setTop g).pushFrame (.throwing q)))
section Payer
variable {l : Launch} {R : Room} {p : Program} {e : Env} {below : List Frame} {s : State} {sargs : Array Value} {y : MethodName} {len W9 : Nat}
theorem vx_back {ws : List Cond} {rm : Room} {Pc : Array Value → State → Prop} {Qc : Array Value → State → Outcome → State → Prop} {XC : String → State → State → Prop} {mc ms : Nat} {free : Addr → Prop} {bytes : ByteArray} {maxL : Nat} {ret : Option FieldType}
    (hM : vx_Met l y ws rm Pc Qc XC mc ms free) (hblind : FrameBlind Pc) (hrc : rm.cells = mc) (hrs : rm.slots = ms)
    (hframes : rm.frames + 1 ≤ R.frames) (hlocals : W9 + (maxL + 11) + rm.locals ≤ R.locals)
    (hws : ∀ w ∈ ws, ∀ a' U, s.WarmedH U.vm → w.before a' U = true) (hcode : Cond.code y bytes maxL ret ∈ ws) (hinit : ∀ a' U, s.WarmedH U.vm → (Cond.initialized y.cls).before a' U = true) :
    vx_Back l R p e below s sargs y len W9 (PreOf R mc ms Pc) (PostOf Qc mc ms free) (vx_Post XC mc ms free) := by
  intro m meth c A g ig mk a X hg hsize hdg hW hn hp
  have h1 : (headSpec ws rm).pre.before a A.U = true := atoms_intro fun w hw => hws w hw _ _ X.warmed
  have h2 : (Cond.code y bytes maxL ret).before a A.U = true := hws _ hcode _ _ X.warmed
  have h3 : (Cond.initialized y.cls).before a A.U = true := hinit _ _ X.warmed
  have h4 : A.cells + (headSpec ws rm).room.cells ≤ R.cells := by rw [show (headSpec ws rm).room.cells = mc from hrc]; exact hp.1
  have h5 : A.slots + (headSpec ws rm).room.slots ≤ R.slots := by rw [show (headSpec ws rm).room.slots = ms from hrs]; exact hp.2.1
  have hPc : Pc a (A.U.calling g mk a) := hblind _ _ _ _ hp.2.2
  obtain ⟨U, Ls, c0, s0⟩ := A
  dsimp only [Pt.U, Pt.locs, Pt.cells, Pt.slots] at h1 h2 h3 h4 h5 X hn hPc ⊢
  obtain ⟨methY, cY, hmY, hcY, -, hlY, -, -, -, -⟩ := Cond.code_spec hn h2
  obtain ⟨kY, hkY, -⟩ := className_of_methodNamed hn
  have hinitY : kY.init = .initialized := Cond.initialized_spec (findClass_of_methodNamed hn) hkY h3
  have h : At U g.method c below := by rw [hg]; exact X.here
  have hlocals9 : W9 + (maxL + 11) + (headSpec ws rm).room.locals ≤ R.locals := hlocals
  have happ : (headSpec ws rm).appliesLoose y e.platform (U.calling g mk a) = true :=
    Spec.appliesLoose_calling (g := g) h hdg hn hkY hinitY
      (X.room_calling (g := g) (R' := (headSpec ws rm).room) hsize hmY hcY hframes (by rw [hlY]; omega) h4 h5) h1
  obtain ⟨mid, hmid⟩ := h.above
  have hfr : (U.setTop g).frames = (.java g :: mid) ++ below := by rw [State.frames_setTop' g h.top, hmid]; rfl
  obtain ⟨o, s₂, hsteps, -, hend, hq⟩ := Steps.callFree hM p X.admits X.cas X.clock (acts := []) hfr happ hPc trivial
  have hq' : vx_Q Qc XC mc ms free a (U.calling g mk a) o s₂ := hq
  rw [State.frames_setTop' g h.top] at hend
  obtain ⟨g₀, hg0⟩ := Option.isSome_iff_exists.mp h.top
  obtain ⟨r, hr⟩ := State.topJava?_eq_some.mp hg0
  have hr' : (({ U with heap := s₂.heap, slotsUsed := s₂.slotsUsed } : State).setVm s₂.vm).frames = .java g₀ :: r := hr
  rcases hq' with ⟨hqc, L, hfe, hL⟩ | ⟨q, rfl, E, ce, L, hx, hce, hcv, hcl, hW₂, hsm, hL⟩
  · obtain ⟨⟨v, rfl⟩, hW₂, e2, q2, q3, q4, q5, q6⟩ := id hfe
    have e3 : s₂ = ({ (U.calling g mk a).setFrames s₂.frames with heap := s₂.heap, slotsUsed := s₂.slotsUsed } : State).setVm s₂.vm := by
      have : s₂ = ({ s₂ with vm := (U.calling g mk a).vm } : State).setVm s₂.vm := rfl
      rw [e2] at this
      exact this
    obtain ⟨c₂, i₂, len₂, hc₂, hd₂, hf₂⟩ := hend
    have hW' : U.WarmedH s₂.vm := hW₂
    have hcc : c₂ = c := by
      have h1 : s₂.code? g.method = U.code? g.method := by
        rw [State.code?_eq, State.code?_eq, hW'.alike.method?]
      exact Option.some.inj (hc₂.symm.trans (h1.trans h.code))
    subst hcc
    have hlen : len₂ = len := by rw [hdg] at hd₂; cases hd₂; rfl
    subst hlen
    have hs₂ : s₂ = (({ U with heap := s₂.heap, slotsUsed := s₂.slotsUsed } : State).setVm s₂.vm).setTop { g with pc := g.pc + len₂, stack := v.toList ++ g.stack } := by
      refine e3.trans ?_
      rw [hf₂, State.calling_eq h.top, State.setFrames_setFrames, State.setTop_of_frames _ hr', hr]
      rfl
    have hsame : U.sameButNew ({ U with heap := s₂.heap, slotsUsed := s₂.slotsUsed } : State) L mc ms := by
      refine ⟨?_, q2, q3, q4, q5, q6⟩
      obtain ⟨t, ht, -⟩ := State.frames_cons hr
      show ({ U with heap := s₂.heap, slotsUsed := s₂.slotsUsed } : State) = { U.setFrames U.frames with heap := s₂.heap, slotsUsed := s₂.slotsUsed }
      rw [State.setFrames_self ht]
    subst hg
    refine Or.inl ⟨v, ⟨(({ U with heap := s₂.heap, slotsUsed := s₂.slotsUsed } : State).setVm s₂.vm), Ls ++ L, c0 + mc, s0 + ms⟩,
      ⟨X.admits, X.cas, X.clock, X.frames, X.room, X.hears, X.method, X.code, (X.here.setHeapUsed s₂.heap s₂.slotsUsed).setVm hW'.alike, X.tail, State.WarmedH.trans X.warmed hW', X.limits, X.bytes, X.same.trans (hsame.setVm s.vm)⟩,
      ⟨g, mk, s₂, L, rfl, rfl, hqc, rfl, hL, rfl, rfl⟩, ?_⟩
    show Steps p.tables e below _ ((({ U with heap := s₂.heap, slotsUsed := s₂.slotsUsed } : State).setVm s₂.vm).setTop { g with pc := g.pc + len₂, stack := v.toList ++ g.stack })
    rw [← hs₂]
    exact hsteps
  · obtain ⟨e2, q2, q3, q4, q5, q6⟩ := id hsm
    have e3 : s₂ = ({ (U.calling g mk a).setFrames s₂.frames with heap := s₂.heap, slotsUsed := s₂.slotsUsed } : State).setVm s₂.vm := by
      have : s₂ = ({ s₂ with vm := (U.calling g mk a).vm } : State).setVm s₂.vm := rfl
      rw [e2] at this
      exact this
    have hf₂ : s₂.frames = .throwing q :: .java g :: U.frames.tail := hend
    have hW' : U.WarmedH s₂.vm := hW₂
    have hs₂ : s₂ = ((({ U with heap := s₂.heap, slotsUsed := s₂.slotsUsed } : State).setVm s₂.vm).setTop g).pushFrame (.throwing q) := by
      refine e3.trans ?_
      rw [hf₂, State.calling_eq h.top, State.setFrames_setFrames, State.pushFrame, State.frames_setTop _ hr', State.setTop_of_frames _ hr', State.setFrames_setFrames, hr]
      rfl
    have hsame : U.sameButNew ({ U with heap := s₂.heap, slotsUsed := s₂.slotsUsed } : State) L mc ms := by
      refine ⟨?_, q2, q3, q4, q5, q6⟩
      obtain ⟨t, ht, -⟩ := State.frames_cons hr
      show ({ U with heap := s₂.heap, slotsUsed := s₂.slotsUsed } : State) = { U.setFrames U.frames with heap := s₂.heap, slotsUsed := s₂.slotsUsed }
      rw [State.setFrames_self ht]
    subst hg
    refine Or.inr ⟨q, ⟨(({ U with heap := s₂.heap, slotsUsed := s₂.slotsUsed } : State).setVm s₂.vm), Ls ++ L, c0 + mc, s0 + ms⟩,
      ⟨X.admits, X.cas, X.clock, X.frames, X.room, X.hears, X.method, X.code, (X.here.setHeapUsed s₂.heap s₂.slotsUsed).setVm hW'.alike, X.tail, State.WarmedH.trans X.warmed hW', X.limits, X.bytes, X.same.trans (hsame.setVm s.vm)⟩,
      ⟨g, mk, s₂, L, E, ce, rfl, rfl, hx, hce, hcv, hcl, rfl, hL, rfl, rfl⟩, ?_⟩
    show Steps p.tables e below _ (((({ U with heap := s₂.heap, slotsUsed := s₂.slotsUsed } : State).setVm s₂.vm).setTop g).pushFrame (.throwing q))
    rw [← hs₂]
    exact hsteps
end Payer
section Calls
variable {p : Program} {l : Launch} {e : Env} {R : Room} {s : State} {m : MethodId} {args : Array Value} {below : List Frame} {meth : Method} {c : Code} {T : State} {locs : List Loc} {cells slots : Nat}
theorem vx_callV (X : Stand p l e R s m args below meth c T locs cells slots) (hexec : p.tables.exec = Jvm.exec) {own C : String} {index : Nat} {y : MethodName} {bytes : ByteArray} {maxL : Nat} {ret : Option FieldType}
    (hown : s.vm.findClass own = some m.cls) (hlink : (Cond.methodLink own index y).before args s = true) (hinst : (Cond.instanceMethod y).before args s = true) (hsel : (Cond.selects C y y).before args s = true)
    (hcode : (Cond.code y bytes maxL ret).before args s = true) (hy : y.cls ≠ "java/lang/invoke/MethodHandle" ∧ y.cls ≠ "java/lang/invoke/VarHandle")
    {W9 : Nat} {Pre : Pt → Array Value → Prop} {Post : Pt → Array Value → Option Value → Pt → Prop} {PostX : Pt → Array Value → Addr → Pt → Prop} (hK : vx_Back l R p e below s args y 3 W9 Pre Post PostX)
    {b : Addr} {cellB : Cell} (hcell : T.heap[b]? = some cellB) (hobj : cellB.vm.isStatics = false) (hcls : s.vm.findClass C = some cellB.cls)
    {g : JFrame} (hg : g.method = m) (hsize : g.locals.size = c.maxLocals) {argsL rest : List Value} (hlen : ∀ sig, parseMethodDescriptor y.desc = some sig → argsL.length = sig.parameters.length)
    (hstack : g.stack = argsL.reverse ++ .ref b :: rest) (hW : 2 * g.monitorRoom + (rest.map fun v => v.category).sum ≤ W9) (hdg : decode c.code g.pc = .ok (.invokevirtual index, 3))
    (hpre : ∀ vm₁, s.WarmedH vm₁ → Pre ⟨T.setVm vm₁, locs, cells, slots⟩ (Value.ref b :: argsL).toArray) :
    (∃ (v : Option Value) (vm₁ : Vm) (B : Pt), s.WarmedH vm₁ ∧ Stand p l e R s m args below meth c B.U B.locs B.cells B.slots ∧ Post ⟨T.setVm vm₁, locs, cells, slots⟩ (Value.ref b :: argsL).toArray v B ∧
      ∀ target, Steps p.tables e below (B.U.setTop { g with pc := g.pc + 3, stack := v.toList ++ rest }) target → Steps p.tables e below (T.setTop g) target) ∨
    (∃ (q : Addr) (vm₁ : Vm) (B : Pt), s.WarmedH vm₁ ∧ Stand p l e R s m args below meth c B.U B.locs B.cells B.slots ∧ PostX ⟨T.setVm vm₁, locs, cells, slots⟩ (Value.ref b :: argsL).toArray q B ∧
      Steps p.tables e below (T.setTop g) ((B.U.setTop { g with stack := rest }).pushFrame (.throwing q))) := by
  obtain ⟨mk, methM, hnamed, hmethM, hstM, habM⟩ := Cond.instanceMethod_spec hinst
  obtain ⟨methM', cM, hmethM', -, -, -, -, -, -, hsigM⟩ := Cond.code_spec hnamed hcode
  cases hmethM.symm.trans hmethM'
  obtain ⟨c2, r2, m2, q1, q2, q3, q4, kP, hkP, hkPi⟩ := Cond.selects_spec hsel
  cases hcls.symm.trans q1
  cases (State.methodFound?_of_named hnamed hy).symm.trans q2
  cases hnamed.symm.trans q3
  have hselP : selectMethod e.platform s.vm cellB.cls mk = .method mk := by rw [Launch.admits_selectMethod X.admits]; exact q4
  obtain ⟨vm₁, X₁, hstep₁⟩ := X.invokevirtual hexec hown hlink hnamed hmethM hstM hkP hkPi hy (a := b) (cell := cellB) hcell
    (fun z h => by rw [h] at hobj; cases hobj) hselP hmethM habM hkP hkPi (g := g) hg (argsL := argsL) (rest := rest) (hlen _ hsigM) hstack hdg
  rcases hK m meth c ⟨T.setVm vm₁, locs, cells, slots⟩ { g with stack := rest } (.invokevirtual index) mk (Value.ref b :: argsL).toArray X₁ hg hsize hdg hW (X₁.named hnamed) (hpre vm₁ X₁.warmed) with ⟨v, B, X', hpost, hsteps⟩ | ⟨q, B, X', hpost, hsteps⟩
  · exact Or.inl ⟨v, vm₁, B, X₁.warmed, X', hpost, fun target h => hstep₁ _ fun acts => by rw [doInvoke_state]; exact hsteps.trans h⟩
  · exact Or.inr ⟨q, vm₁, B, X₁.warmed, X', hpost, hstep₁ _ fun acts => by rw [doInvoke_state]; exact hsteps⟩
theorem vx_callS (X : Stand p l e R s m args below meth c T locs cells slots) (hexec : p.tables.exec = Jvm.exec) {own : String} {index : Nat} {y : MethodName} {bytes : ByteArray} {maxL : Nat} {ret : Option FieldType}
    (hown : s.vm.findClass own = some m.cls) (hlink : (Cond.methodLink own index y).before args s = true) (hstat : (Cond.static y).before args s = true) (hinit : (Cond.initialized y.cls).before args s = true)
    (hcode : (Cond.code y bytes maxL ret).before args s = true) (hy : y.cls ≠ "java/lang/invoke/MethodHandle" ∧ y.cls ≠ "java/lang/invoke/VarHandle")
    {W9 : Nat} {Pre : Pt → Array Value → Prop} {Post : Pt → Array Value → Option Value → Pt → Prop} {PostX : Pt → Array Value → Addr → Pt → Prop} (hK : vx_Back l R p e below s args y 3 W9 Pre Post PostX)
    {g : JFrame} (hg : g.method = m) (hsize : g.locals.size = c.maxLocals) {argsL rest : List Value} (hlen : ∀ sig, parseMethodDescriptor y.desc = some sig → argsL.length = sig.parameters.length)
    (hstack : g.stack = argsL.reverse ++ rest) (hW : 2 * g.monitorRoom + (rest.map fun v => v.category).sum ≤ W9) (hdg : decode c.code g.pc = .ok (.invokestatic index, 3))
    (hpre : ∀ vm₁, s.WarmedH vm₁ → Pre ⟨T.setVm vm₁, locs, cells, slots⟩ argsL.toArray) :
    (∃ (v : Option Value) (vm₁ : Vm) (B : Pt), s.WarmedH vm₁ ∧ Stand p l e R s m args below meth c B.U B.locs B.cells B.slots ∧ Post ⟨T.setVm vm₁, locs, cells, slots⟩ argsL.toArray v B ∧
      ∀ target, Steps p.tables e below (B.U.setTop { g with pc := g.pc + 3, stack := v.toList ++ rest }) target → Steps p.tables e below (T.setTop g) target) ∨
    (∃ (q : Addr) (vm₁ : Vm) (B : Pt), s.WarmedH vm₁ ∧ Stand p l e R s m args below meth c B.U B.locs B.cells B.slots ∧ PostX ⟨T.setVm vm₁, locs, cells, slots⟩ argsL.toArray q B ∧
      Steps p.tables e below (T.setTop g) ((B.U.setTop { g with stack := rest }).pushFrame (.throwing q))) := by
  obtain ⟨mk, hnamed⟩ := Cond.code_named hcode
  obtain ⟨methM, cM, hmethM, -, -, -, -, -, -, hsigM⟩ := Cond.code_spec hnamed hcode
  have hstatic : methM.isStatic = true := Cond.static_spec hnamed hmethM hstat
  obtain ⟨kP, hkP, -⟩ := className_of_methodNamed hnamed
  have hinitP : kP.init = .initialized := Cond.initialized_spec (findClass_of_methodNamed hnamed) hkP hinit
  obtain ⟨vm₁, X₁, hstep₁⟩ := X.invokestatic hexec hown hlink hnamed hmethM hstatic hkP hinitP hy (g := g) hg (argsL := argsL) (rest := rest) (hlen _ hsigM) hstack hdg
  rcases hK m meth c ⟨T.setVm vm₁, locs, cells, slots⟩ { g with stack := rest } (.invokestatic index) mk argsL.toArray X₁ hg hsize hdg hW (X₁.named hnamed) (hpre vm₁ X₁.warmed) with ⟨v, B, X', hpost, hsteps⟩ | ⟨q, B, X', hpost, hsteps⟩
  · exact Or.inl ⟨v, vm₁, B, X₁.warmed, X', hpost, fun target h => hstep₁ _ fun acts => by rw [doInvoke_state]; exact hsteps.trans h⟩
  · exact Or.inr ⟨q, vm₁, B, X₁.warmed, X', hpost, hstep₁ _ fun acts => by rw [doInvoke_state]; exact hsteps⟩
end Calls
theorem vx_cls {s : State} {T : State} {vm₁ : Vm} {E : String} {k : ClassId} (hW : s.WarmedH vm₁) (h : (T.setVm vm₁).vm.findClass E = some k) : s.vm.findClass E = some k := by
  have h1 : vm₁.findClass E = some k := h
  rw [hW.alike.findClass] at h1
  exact h1
/-- the method's frame g, with q thrown over it -/
def vx_W (p : Program) (l : Launch) (e : Env) (R : Room) (s : State) (m : MethodId) (args : Array Value) (below : List Frame) (meth : Method) (c : Code) (H : Heap) (locs : List Loc) (cells slots : Nat) (Q : State → Prop) (g : JFrame) (q : Addr) : Prop :=
  ∀ T : State, T.heap = H → Stand p l e R s m args below meth c T locs cells slots → ∃ t, Steps p.tables e below ((T.setTop g).pushFrame (.throwing q)) t ∧ Q t
def vx_Run (p : Program) (l : Launch) (e : Env) (R : Room) (s : State) (m : MethodId) (args : Array Value) (below : List Frame) (meth : Method) (c : Code) (H : Heap) (locs : List Loc) (cells slots mc ms : Nat) (g : JFrame) (rest : List Value) (Qa : State → Outcome → State → Prop) (XC : String → State → State → Prop) (free : Addr → Prop) : Prop :=
  ∀ T : State, T.heap = H → Stand p l e R s m args below meth c T locs cells slots →
    (∃ (v : Option Value) (st₀ t T' : State) (L : List Loc), st₀.heap = H ∧ Stand p l e R s m args below meth c T' (locs ++ L) (cells + mc) (slots + ms) ∧ (∀ q ∈ L, free q.base) ∧ T'.heap = t.heap ∧ T'.vm = t.vm ∧ Qa st₀ (.returned v) t ∧
      Goes p e below T g T' { g with pc := g.pc + 3, stack := v.toList ++ rest }) ∨
    (∃ (q : Addr) (st₀ t T' : State) (L : List Loc) (E : String) (ce : Cell), st₀.heap = H ∧ Stand p l e R s m args below meth c T' (locs ++ L) (cells + mc) (slots + ms) ∧ (∀ z ∈ L, free z.base) ∧ T'.heap = t.heap ∧ T'.vm = t.vm ∧ XC E st₀ t ∧ t.heap[q]? = some ce ∧ ce.vm = .none ∧ s.vm.findClass E = some ce.cls ∧
      Steps p.tables e below (T.setTop g) ((T'.setTop { g with stack := rest }).pushFrame (.throwing q)))
def vx_X {S : Type} (px : S → Prop) (B : String → S → State → Prop) (A : Nat → Prop) : String → State → State → Prop := fun E st t => ∃ u : S, px u ∧ B E u t ∧ va_F A st t
section Runs
variable {p : Program} {l : Launch} {e : Env} {R : Room} {s : State} {m : MethodId} {args : Array Value} {below : List Frame} {meth : Method} {c : Code} {H : Heap} {locs : List Loc} {cells slots : Nat}
variable {y : MethodName} {bytes cc : ByteArray} {maxL nL mc ms n index : Nat} {ret : Option FieldType} {ws : List Cond} {rm : Room} {Pc : Array Value → State → Prop} {Qc : Array Value → State → Outcome → State → Prop} {XC : String → State → State → Prop} {free : Addr → Prop} {Ts : List Cond} {own C : String} {b : Addr} {As rest : List Value} {g : JFrame}
theorem vx_callBack (cb : CallB R s args own index y bytes maxL ret ws rm mc ms n) (hM : vx_Met l y ws rm Pc Qc XC mc ms free) (hbl : FrameBlind Pc) : vx_Back l R p e below s args y 3 8 (PreOf R mc ms Pc) (PostOf Qc mc ms free) (vx_Post XC mc ms free) := by
  obtain ⟨hrc, hrs, hfr, hlo, hws, hcw, -, hini, -⟩ := cb
  exact vx_back (bytes := bytes) (maxL := maxL) (ret := ret) hM hbl hrc hrs hfr hlo hws hcw (fun a' U hW => word_at hW (Or.inl (by first | rfl | simp [Cond.onTables, Cond.keeps, Cond.steady])) hini)
theorem vx_runV (S : CallFix p m c cc nL s args Ts own) (hM : vx_Met l y ws rm Pc Qc XC mc ms free) (cw : CallW R s args own C index y bytes maxL ret ws rm mc ms n) (hp : PreV s H C b Pc As)
    (hg : g.method = m) (hn : As.length = n) (hsize : g.locals.size = nL) (hstack : g.stack = As.reverse ++ .ref b :: rest) (hW : 2 * g.monitorRoom + (rest.map fun v => v.category).sum ≤ 8) (hdg : decode cc g.pc = .ok (.invokevirtual index, 3)) (hf : cells + mc ≤ R.cells ∧ slots + ms ≤ R.slots) :
    vx_Run p l e R s m args below meth c H locs cells slots mc ms g rest (Qc (Value.ref b :: As).toArray) XC free := by
  have hK : vx_Back l R p e below s args y 3 8 (PreOf R mc ms Pc) (PostOf Qc mc ms free) (vx_Post XC mc ms free) := vx_callBack cw.1 hM hp.1
  obtain ⟨⟨-, -, -, -, -, -, hcode, -, hy, hlen, hl⟩, hin, hse⟩ := cw
  obtain ⟨hx, hb, hml, ho, -⟩ := S
  obtain ⟨-, ⟨cellB, hcB, hoB, hclB⟩, hPc⟩ := hp
  intro T hT X
  rcases vx_callV X hx (C := C) (bytes := bytes) (maxL := maxL) (ret := ret) ho hl hin hse hcode hy hK (by rw [hT]; exact hcB) hoB hclB hg (hsize.trans hml.symm) (argsL := As) (rest := rest) (fun sig h => hn.trans (hlen sig h)) hstack hW (by rw [hb]; exact hdg)
    (fun vm₁ hW₁ => ⟨hf.1, hf.2, hPc (T.setVm vm₁) hT hW₁⟩) with ⟨v, vm₁, ⟨U', l2, c2, s2⟩, hW₁, X', ⟨g', mk, t, L, e1, e2, hq, h1, hL, h2, h3⟩, st⟩ | ⟨q, vm₁, ⟨U', l2, c2, s2⟩, hW₁, X', ⟨g', mk, t, L, E, ce, e1, e2, hq, hce, hcv, hcl, h1, hL, h2, h3⟩, st⟩
  · dsimp only [Pt.U, Pt.locs, Pt.cells, Pt.slots] at X' e1 e2 h1 h2 h3 st
    subst h1; subst h2; subst h3
    exact Or.inl ⟨v, (T.setVm vm₁).calling g' mk (Value.ref b :: As).toArray, t, U', L, hT, X', hL, e1, e2, hq, st⟩
  · dsimp only [Pt.U, Pt.locs, Pt.cells, Pt.slots] at X' e1 e2 h1 h2 h3 st hcl
    subst h1; subst h2; subst h3
    exact Or.inr ⟨q, (T.setVm vm₁).calling g' mk (Value.ref b :: As).toArray, t, U', L, E, ce, hT, X', hL, e1, e2, hq, hce, hcv, vx_cls hW₁ hcl, st⟩
theorem vx_runS (S : CallFix p m c cc nL s args Ts own) (hM : vx_Met l y ws rm Pc Qc XC mc ms free) (cw : CallB R s args own index y bytes maxL ret ws rm mc ms n ∧ (Cond.static y).before args s = true) (hp : PreS s H Pc As)
    (hg : g.method = m) (hn : As.length = n) (hsize : g.locals.size = nL) (hstack : g.stack = As.reverse ++ rest) (hW : 2 * g.monitorRoom + (rest.map fun v => v.category).sum ≤ 8) (hdg : decode cc g.pc = .ok (.invokestatic index, 3)) (hf : cells + mc ≤ R.cells ∧ slots + ms ≤ R.slots) :
    vx_Run p l e R s m args below meth c H locs cells slots mc ms g rest (Qc As.toArray) XC free := by
  have hK : vx_Back l R p e below s args y 3 8 (PreOf R mc ms Pc) (PostOf Qc mc ms free) (vx_Post XC mc ms free) := vx_callBack cw.1 hM hp.1
  obtain ⟨⟨-, -, -, -, -, -, hcode, hini, hy, hlen, hl⟩, hstt⟩ := cw
  obtain ⟨hx, hb, hml, ho, -⟩ := S
  intro T hT X
  rcases vx_callS X hx (bytes := bytes) (maxL := maxL) (ret := ret) ho hl hstt hini hcode hy hK hg (hsize.trans hml.symm) (argsL := As) (rest := rest) (fun sig h => hn.trans (hlen sig h)) hstack hW (by rw [hb]; exact hdg)
    (fun vm₁ hW₁ => ⟨hf.1, hf.2, hp.2 (T.setVm vm₁) hT hW₁⟩) with ⟨v, vm₁, ⟨U', l2, c2, s2⟩, hW₁, X', ⟨g', mk, t, L, e1, e2, hq, h1, hL, h2, h3⟩, st⟩ | ⟨q, vm₁, ⟨U', l2, c2, s2⟩, hW₁, X', ⟨g', mk, t, L, E, ce, e1, e2, hq, hce, hcv, hcl, h1, hL, h2, h3⟩, st⟩
  · dsimp only [Pt.U, Pt.locs, Pt.cells, Pt.slots] at X' e1 e2 h1 h2 h3 st
    subst h1; subst h2; subst h3
    exact Or.inl ⟨v, (T.setVm vm₁).calling g' mk As.toArray, t, U', L, hT, X', hL, e1, e2, hq, st⟩
  · dsimp only [Pt.U, Pt.locs, Pt.cells, Pt.slots] at X' e1 e2 h1 h2 h3 st hcl
    subst h1; subst h2; subst h3
    exact Or.inr ⟨q, (T.setVm vm₁).calling g' mk As.toArray, t, U', L, E, ce, hT, X', hL, e1, e2, hq, hce, hcv, vx_cls hW₁ hcl, st⟩
end Runs
section Rows
variable {p : Program} {l : Launch} {e : Env} {R : Room} {s : State} {m : MethodId} {args : Array Value} {below : List Frame} {meth : Method} {c : Code} {H : Heap} {locs : List Loc} {cells slots : Nat} {Q : State → Prop}
variable {mc ms : Nat} {free : Addr → Prop} {A0 A1 : Nat → Prop} {H0 : Heap} {a : Array Value} {pc : Nat} {ls : Array Slot} {st0 rest : List Value}
theorem vx_keep {st₀ t T' : State} {L : List Loc} (h0 : st₀.heap = H) (e1 : T'.heap = t.heap) (hS : va_S A0 H0 H locs) (hA : ∀ q, q < H.size → A1 q → A0 q) (hf : ∀ q, free q → A0 q) (hL : ∀ q ∈ L, free q.base) (hF : va_F A1 st₀ t) :
    H.size ≤ T'.heap.size ∧ (∀ q : Nat, q < H.size → ¬ A1 q → T'.heap[q]? = H[q]?) ∧ va_S A0 H0 T'.heap (locs ++ L) := by
  obtain ⟨hz, hk⟩ := hF
  rw [h0] at hz hk
  exact ⟨by rw [e1]; exact hz, fun q h1 h2 => by rw [e1]; exact hk q h1 h2,
    ⟨Nat.le_trans hS.1 (by rw [e1]; exact hz), fun q h1 h2 => by rw [e1, hk q (Nat.lt_of_lt_of_le h1 hS.1) (fun z => h2 (hA q (Nat.lt_of_lt_of_le h1 hS.1) z))]; exact hS.2.1 q h1 h2, fun q hq => by
      rcases List.mem_append.mp hq with h | h
      · exact hS.2.2 q h
      · exact hf _ (hL q h)⟩⟩
theorem vx_calli {S SX : Type} {post : Int32 → S → Prop} {px : SX → Prop} {B : S → State → Prop} {BX : String → SX → State → Prop} {AX : Nat → Prop} (hr : vx_Run p l e R s m args below meth c H locs cells slots mc ms (F0 m pc ls st0) rest (va_Qi post B A1 a) (vx_X px BX AX) free) (hS : va_S A0 H0 H locs) (hA : ∀ q, q < H.size → A1 q → A0 q) (hf : ∀ q, free q → A0 q) (hAX : ∀ q, q < H.size → AX q → A0 q)
    (kx : ∀ (E : String) (ce : Cell) (q9 : Addr) (u : SX) (t : State) (H1 : Heap) (locs1 : List Loc), t.heap = H1 → s.vm.Alike t.vm → px u → BX E u t → H.size ≤ H1.size → (∀ q : Nat, q < H.size → ¬ AX q → H1[q]? = H[q]?) → va_S A0 H0 H1 locs1 → H1[q9]? = some ce → ce.vm = .none → s.vm.findClass E = some ce.cls → vx_W p l e R s m args below meth c H1 locs1 (cells + mc) (slots + ms) Q (F0 m pc ls rest) q9)
    (kk : ∀ (r : Int32) (u : S) (t : State) (H1 : Heap) (locs1 : List Loc), t.heap = H1 → s.vm.Alike t.vm → post r u → B u t → H.size ≤ H1.size → (∀ q : Nat, q < H.size → ¬ A1 q → H1[q]? = H[q]?) → va_S A0 H0 H1 locs1 → W p l e R s m args below meth c H1 locs1 (cells + mc) (slots + ms) Q (F0 m (pc + 3) ls (.int r :: rest))) : W p l e R s m args below meth c H locs cells slots Q (F0 m pc ls st0) := by
  intro T hT X
  rcases hr T hT X with ⟨v, st₀, t, T', L, h0, X', hL, e1, e2, ⟨⟨r, u, hv, hp, hb⟩, hF⟩, st⟩ | ⟨q, st₀, t, T', L, E, ce, h0, X', hL, e1, e2, ⟨u, hp, hb, hF⟩, hce, hcv, hcl, st⟩
  · cases hv
    obtain ⟨k1, k2, k3⟩ := vx_keep h0 e1 hS hA hf hL hF
    obtain ⟨t2, a1, b1⟩ := kk r u t T'.heap (locs ++ L) e1.symm (by rw [← e2]; exact X'.warmed.alike) hp hb k1 k2 k3 T' rfl X'
    exact ⟨t2, st t2 a1, b1⟩
  · obtain ⟨k1, k2, k3⟩ := vx_keep h0 e1 hS hAX hf hL hF
    obtain ⟨t2, a1, b1⟩ := kx E ce q u t T'.heap (locs ++ L) e1.symm (by rw [← e2]; exact X'.warmed.alike) hp hb k1 k2 k3 (by rw [e1]; exact hce) hcv hcl T' rfl X'
    exact ⟨t2, st.trans a1, b1⟩
theorem vx_calll {S SX : Type} {post : Int64 → S → Prop} {px : SX → Prop} {B : S → State → Prop} {BX : String → SX → State → Prop} {AX : Nat → Prop} (hr : vx_Run p l e R s m args below meth c H locs cells slots mc ms (F0 m pc ls st0) rest (va_Ql post B A1 a) (vx_X px BX AX) free) (hS : va_S A0 H0 H locs) (hA : ∀ q, q < H.size → A1 q → A0 q) (hf : ∀ q, free q → A0 q) (hAX : ∀ q, q < H.size → AX q → A0 q)
    (kx : ∀ (E : String) (ce : Cell) (q9 : Addr) (u : SX) (t : State) (H1 : Heap) (locs1 : List Loc), t.heap = H1 → s.vm.Alike t.vm → px u → BX E u t → H.size ≤ H1.size → (∀ q : Nat, q < H.size → ¬ AX q → H1[q]? = H[q]?) → va_S A0 H0 H1 locs1 → H1[q9]? = some ce → ce.vm = .none → s.vm.findClass E = some ce.cls → vx_W p l e R s m args below meth c H1 locs1 (cells + mc) (slots + ms) Q (F0 m pc ls rest) q9)
    (kk : ∀ (r : Int64) (u : S) (t : State) (H1 : Heap) (locs1 : List Loc), t.heap = H1 → s.vm.Alike t.vm → post r u → B u t → H.size ≤ H1.size → (∀ q : Nat, q < H.size → ¬ A1 q → H1[q]? = H[q]?) → va_S A0 H0 H1 locs1 → W p l e R s m args below meth c H1 locs1 (cells + mc) (slots + ms) Q (F0 m (pc + 3) ls (.long r :: rest))) : W p l e R s m args below meth c H locs cells slots Q (F0 m pc ls st0) := by
  intro T hT X
  rcases hr T hT X with ⟨v, st₀, t, T', L, h0, X', hL, e1, e2, ⟨⟨r, u, hv, hp, hb⟩, hF⟩, st⟩ | ⟨q, st₀, t, T', L, E, ce, h0, X', hL, e1, e2, ⟨u, hp, hb, hF⟩, hce, hcv, hcl, st⟩
  · cases hv
    obtain ⟨k1, k2, k3⟩ := vx_keep h0 e1 hS hA hf hL hF
    obtain ⟨t2, a1, b1⟩ := kk r u t T'.heap (locs ++ L) e1.symm (by rw [← e2]; exact X'.warmed.alike) hp hb k1 k2 k3 T' rfl X'
    exact ⟨t2, st t2 a1, b1⟩
  · obtain ⟨k1, k2, k3⟩ := vx_keep h0 e1 hS hAX hf hL hF
    obtain ⟨t2, a1, b1⟩ := kx E ce q u t T'.heap (locs ++ L) e1.symm (by rw [← e2]; exact X'.warmed.alike) hp hb k1 k2 k3 (by rw [e1]; exact hce) hcv hcl T' rfl X'
    exact ⟨t2, st.trans a1, b1⟩
theorem vx_callf {S SX : Type} {post : UInt32 → S → Prop} {px : SX → Prop} {B : S → State → Prop} {BX : String → SX → State → Prop} {AX : Nat → Prop} (hr : vx_Run p l e R s m args below meth c H locs cells slots mc ms (F0 m pc ls st0) rest (va_Qf post B A1 a) (vx_X px BX AX) free) (hS : va_S A0 H0 H locs) (hA : ∀ q, q < H.size → A1 q → A0 q) (hf : ∀ q, free q → A0 q) (hAX : ∀ q, q < H.size → AX q → A0 q)
    (kx : ∀ (E : String) (ce : Cell) (q9 : Addr) (u : SX) (t : State) (H1 : Heap) (locs1 : List Loc), t.heap = H1 → s.vm.Alike t.vm → px u → BX E u t → H.size ≤ H1.size → (∀ q : Nat, q < H.size → ¬ AX q → H1[q]? = H[q]?) → va_S A0 H0 H1 locs1 → H1[q9]? = some ce → ce.vm = .none → s.vm.findClass E = some ce.cls → vx_W p l e R s m args below meth c H1 locs1 (cells + mc) (slots + ms) Q (F0 m pc ls rest) q9)
    (kk : ∀ (r : UInt32) (u : S) (t : State) (H1 : Heap) (locs1 : List Loc), t.heap = H1 → s.vm.Alike t.vm → post r u → B u t → H.size ≤ H1.size → (∀ q : Nat, q < H.size → ¬ A1 q → H1[q]? = H[q]?) → va_S A0 H0 H1 locs1 → W p l e R s m args below meth c H1 locs1 (cells + mc) (slots + ms) Q (F0 m (pc + 3) ls (.float r :: rest))) : W p l e R s m args below meth c H locs cells slots Q (F0 m pc ls st0) := by
  intro T hT X
  rcases hr T hT X with ⟨v, st₀, t, T', L, h0, X', hL, e1, e2, ⟨⟨r, u, hv, hp, hb⟩, hF⟩, st⟩ | ⟨q, st₀, t, T', L, E, ce, h0, X', hL, e1, e2, ⟨u, hp, hb, hF⟩, hce, hcv, hcl, st⟩
  · cases hv
    obtain ⟨k1, k2, k3⟩ := vx_keep h0 e1 hS hA hf hL hF
    obtain ⟨t2, a1, b1⟩ := kk r u t T'.heap (locs ++ L) e1.symm (by rw [← e2]; exact X'.warmed.alike) hp hb k1 k2 k3 T' rfl X'
    exact ⟨t2, st t2 a1, b1⟩
  · obtain ⟨k1, k2, k3⟩ := vx_keep h0 e1 hS hAX hf hL hF
    obtain ⟨t2, a1, b1⟩ := kx E ce q u t T'.heap (locs ++ L) e1.symm (by rw [← e2]; exact X'.warmed.alike) hp hb k1 k2 k3 (by rw [e1]; exact hce) hcv hcl T' rfl X'
    exact ⟨t2, st.trans a1, b1⟩
theorem vx_calld {S SX : Type} {post : UInt64 → S → Prop} {px : SX → Prop} {B : S → State → Prop} {BX : String → SX → State → Prop} {AX : Nat → Prop} (hr : vx_Run p l e R s m args below meth c H locs cells slots mc ms (F0 m pc ls st0) rest (va_Qd post B A1 a) (vx_X px BX AX) free) (hS : va_S A0 H0 H locs) (hA : ∀ q, q < H.size → A1 q → A0 q) (hf : ∀ q, free q → A0 q) (hAX : ∀ q, q < H.size → AX q → A0 q)
    (kx : ∀ (E : String) (ce : Cell) (q9 : Addr) (u : SX) (t : State) (H1 : Heap) (locs1 : List Loc), t.heap = H1 → s.vm.Alike t.vm → px u → BX E u t → H.size ≤ H1.size → (∀ q : Nat, q < H.size → ¬ AX q → H1[q]? = H[q]?) → va_S A0 H0 H1 locs1 → H1[q9]? = some ce → ce.vm = .none → s.vm.findClass E = some ce.cls → vx_W p l e R s m args below meth c H1 locs1 (cells + mc) (slots + ms) Q (F0 m pc ls rest) q9)
    (kk : ∀ (r : UInt64) (u : S) (t : State) (H1 : Heap) (locs1 : List Loc), t.heap = H1 → s.vm.Alike t.vm → post r u → B u t → H.size ≤ H1.size → (∀ q : Nat, q < H.size → ¬ A1 q → H1[q]? = H[q]?) → va_S A0 H0 H1 locs1 → W p l e R s m args below meth c H1 locs1 (cells + mc) (slots + ms) Q (F0 m (pc + 3) ls (.double r :: rest))) : W p l e R s m args below meth c H locs cells slots Q (F0 m pc ls st0) := by
  intro T hT X
  rcases hr T hT X with ⟨v, st₀, t, T', L, h0, X', hL, e1, e2, ⟨⟨r, u, hv, hp, hb⟩, hF⟩, st⟩ | ⟨q, st₀, t, T', L, E, ce, h0, X', hL, e1, e2, ⟨u, hp, hb, hF⟩, hce, hcv, hcl, st⟩
  · cases hv
    obtain ⟨k1, k2, k3⟩ := vx_keep h0 e1 hS hA hf hL hF
    obtain ⟨t2, a1, b1⟩ := kk r u t T'.heap (locs ++ L) e1.symm (by rw [← e2]; exact X'.warmed.alike) hp hb k1 k2 k3 T' rfl X'
    exact ⟨t2, st t2 a1, b1⟩
  · obtain ⟨k1, k2, k3⟩ := vx_keep h0 e1 hS hAX hf hL hF
    obtain ⟨t2, a1, b1⟩ := kx E ce q u t T'.heap (locs ++ L) e1.symm (by rw [← e2]; exact X'.warmed.alike) hp hb k1 k2 k3 (by rw [e1]; exact hce) hcv hcl T' rfl X'
    exact ⟨t2, st.trans a1, b1⟩
theorem vx_callv {S SX : Type} {post : S → Prop} {px : SX → Prop} {B : S → State → Prop} {BX : String → SX → State → Prop} {AX : Nat → Prop} (hr : vx_Run p l e R s m args below meth c H locs cells slots mc ms (F0 m pc ls st0) rest (va_Qv post B A1 a) (vx_X px BX AX) free) (hS : va_S A0 H0 H locs) (hA : ∀ q, q < H.size → A1 q → A0 q) (hf : ∀ q, free q → A0 q) (hAX : ∀ q, q < H.size → AX q → A0 q)
    (kx : ∀ (E : String) (ce : Cell) (q9 : Addr) (u : SX) (t : State) (H1 : Heap) (locs1 : List Loc), t.heap = H1 → s.vm.Alike t.vm → px u → BX E u t → H.size ≤ H1.size → (∀ q : Nat, q < H.size → ¬ AX q → H1[q]? = H[q]?) → va_S A0 H0 H1 locs1 → H1[q9]? = some ce → ce.vm = .none → s.vm.findClass E = some ce.cls → vx_W p l e R s m args below meth c H1 locs1 (cells + mc) (slots + ms) Q (F0 m pc ls rest) q9)
    (kk : ∀ (u : S) (t : State) (H1 : Heap) (locs1 : List Loc), t.heap = H1 → s.vm.Alike t.vm → post u → B u t → H.size ≤ H1.size → (∀ q : Nat, q < H.size → ¬ A1 q → H1[q]? = H[q]?) → va_S A0 H0 H1 locs1 → W p l e R s m args below meth c H1 locs1 (cells + mc) (slots + ms) Q (F0 m (pc + 3) ls (rest))) : W p l e R s m args below meth c H locs cells slots Q (F0 m pc ls st0) := by
  intro T hT X
  rcases hr T hT X with ⟨v, st₀, t, T', L, h0, X', hL, e1, e2, ⟨⟨u, hv, hp, hb⟩, hF⟩, st⟩ | ⟨q, st₀, t, T', L, E, ce, h0, X', hL, e1, e2, ⟨u, hp, hb, hF⟩, hce, hcv, hcl, st⟩
  · cases hv
    obtain ⟨k1, k2, k3⟩ := vx_keep h0 e1 hS hA hf hL hF
    obtain ⟨t2, a1, b1⟩ := kk u t T'.heap (locs ++ L) e1.symm (by rw [← e2]; exact X'.warmed.alike) hp hb k1 k2 k3 T' rfl X'
    exact ⟨t2, st t2 a1, b1⟩
  · obtain ⟨k1, k2, k3⟩ := vx_keep h0 e1 hS hAX hf hL hF
    obtain ⟨t2, a1, b1⟩ := kx E ce q u t T'.heap (locs ++ L) e1.symm (by rw [← e2]; exact X'.warmed.alike) hp hb k1 k2 k3 (by rw [e1]; exact hce) hcv hcl T' rfl X'
    exact ⟨t2, st.trans a1, b1⟩
/-- caught by the row x of this method's table; the rows ahead don't take it -/
theorem vx_catch {own name : String} {E : String} {ce : Cell} {q : Addr} (hown : s.vm.findClass own = some m.cls) (pre : List ExceptionTableEntry) (x : ExceptionTableEntry) (suf : List ExceptionTableEntry) (hsplit : c.exceptionTable.toList = pre ++ x :: suf)
    (hpass : ∀ z ∈ pre, covers z pc = false ∨ (z.catchType ≠ 0 ∧ ∃ nm : String, (Cond.classLink own z.catchType nm).before args s = true ∧ va_Nc E nm s)) (hx : covers x pc = true) (h0 : x.catchType ≠ 0)
    (hlink : (Cond.classLink own x.catchType name).before args s = true) (hcast : (Cond.castable E name).before args s = true) (hcell : H[q]? = some ce) (hv : ce.vm = .none) (hcl : s.vm.findClass E = some ce.cls)
    (kk : W p l e R s m args below meth c H locs cells slots Q (F0 m x.handlerPc ls [.ref q])) : vx_W p l e R s m args below meth c H locs cells slots Q (F0 m pc ls rest) q := by
  intro T hT X
  have hpl : e.platform.magicAccessors = ({} : Platform).magicAccessors := by rw [X.admits.platform]
  obtain ⟨c3, c4, hc3, hc4, hasg⟩ := Cond.castable_spec hcast
  cases Option.some.inj (hc3.symm.trans hcl)
  obtain ⟨c5, hc5, hcl5⟩ := Cond.classLink_spec hown hlink e.platform hpl
  cases Option.some.inj (hc4.symm.trans hc5)
  obtain ⟨vm', X', st⟩ := X.thenCaughtThrough q (g := F0 m pc ls rest) rfl (Steps.refl _) (by rw [hT]; exact hcell) (by rw [hv]; rfl) (by obtain ⟨k9, h9, -⟩ := Vm.findClass_spec hcl; exact ⟨k9, h9⟩) pre x suf hsplit
    (fun z hz => by
      rcases hpass z hz with h | ⟨hz0, nm, hl1, hn1⟩
      · exact Or.inl h
      · obtain ⟨c6, hc6, hcl6⟩ := Cond.classLink_spec hown hl1 e.platform hpl
        obtain ⟨a8, b8, h1, h2, h3⟩ := hn1
        cases Option.some.inj (h1.symm.trans hcl)
        cases Option.some.inj (h2.symm.trans hc6)
        exact Or.inr ⟨hz0, _, hcl6, h3⟩) hx (Or.inr ⟨h0, c4, hcl5, hasg⟩)
  obtain ⟨t, a1, b1⟩ := kk (T.setVm vm') hT X'
  exact ⟨t, st.trans a1, b1⟩
end Rows
section Ends
variable {p : Program} {l : Launch} {e : Env} {R : Room} {s : State} {m : MethodId} {args : Array Value} {below : List Frame} {meth : Method} {c : Code} {H : Heap} {locs : List Loc} {cells slots : Nat} {Q : State → Prop}
variable {mc ms : Nat} {free : Addr → Prop} {A0 A1 : Nat → Prop} {H0 : Heap} {a : Array Value} {ls : Array Slot} {st0 rest : List Value}
variable {Qc : Array Value → State → Outcome → State → Prop} {XC : String → State → State → Prop}
/-- what a body that may throw owes at its end -/
def vx_MQ (below : List Frame) (Qc : Array Value → State → Outcome → State → Prop) (XC : String → State → State → Prop) (a : Array Value) (s : State) (mc ms : Nat) (free : Addr → Prop) : State → Prop := fun t =>
  ∃ o, t.status = .running ∧ Ended t below o ∧ vx_Q Qc XC mc ms free a s o t
theorem vx_ret {g : JFrame} {mc ms : Nat} (k : W p l e R s m args below meth c H locs cells slots (MQ below Qc args s mc ms free) g) : W p l e R s m args below meth c H locs cells slots (vx_MQ below Qc XC args s mc ms free) g := by
  intro T hT X
  obtain ⟨t, a1, o, b1, b2, b3, b4⟩ := k T hT X
  exact ⟨t, a1, o, b1, b2, Or.inl ⟨b3, b4⟩⟩
/-- not caught here: it goes on to the caller -/
theorem vx_widen {g : JFrame} {q : Addr} {k n : Nat} (h1 : cells ≤ k) (h2 : slots ≤ n) (kk : vx_W p l e R s m args below meth c H locs k n Q g q) : vx_W p l e R s m args below meth c H locs cells slots Q g q := fun T hT X => kk T hT (stand_widen X h1 h2)
theorem vx_out {pc : Nat} {E : String} {ce : Cell} {q : Addr} {mc ms : Nat} (hout : ∀ x ∈ c.exceptionTable.toList, covers x pc = false) (hlocks : meth.locks = false) (hcell : H[q]? = some ce) (hv : ce.vm = .none) (hcl : s.vm.findClass E = some ce.cls)
    (hx : ∀ t : State, t.heap = H → s.vm.Alike t.vm → XC E s t) (hf : ∀ z ∈ locs, free z.base) (hc : cells ≤ mc) (hs : slots ≤ ms) :
    vx_W p l e R s m args below meth c H locs cells slots (vx_MQ below Qc XC args s mc ms free) (F0 m pc ls rest) q := by
  intro T hT X
  obtain ⟨st1, hrun, hend, hW, hsm⟩ := X.leaveThrown q (g := F0 m pc ls rest) rfl rfl rfl hout hlocks
  have hcell9 : (T.setFrames (.throwing q :: below)).heap[q]? = some ce := by
    show T.heap[q]? = some ce
    rw [hT]; exact hcell
  exact ⟨_, st1, .threw q, hrun, hend, Or.inr ⟨q, rfl, E, ce, locs, hx _ hT hW.alike, hcell9, hv, hcl, hW, hsm.mono hc hs, hf⟩⟩
theorem vx_frame {U : State} {k n : Nat} (h : s.sameButNew ({ U with vm := s.vm } : State) locs k n) : s.heap.size ≤ U.heap.size ∧ ∀ q : Nat, q < s.heap.size → (∀ z ∈ locs, z.base ≠ q) → U.heap[q]? = s.heap[q]? := by
  obtain ⟨-, h2, -, -, -, h6⟩ := h
  refine ⟨h2, fun q hq hz => ?_⟩
  obtain ⟨c9, e1, e2, e3, e4⟩ := h6 q _ (Array.getElem?_eq_getElem hq)
  have hs : c9.slots = (s.heap[q]).slots := Array.ext_getElem? fun i => e4 i fun hm => hz _ hm rfl
  have h9 : c9 = s.heap[q] := by
    rw [hs] at e2
    exact e2
  have e5 : U.heap[q]? = some c9 := e1
  rw [e5, h9, Array.getElem?_eq_getElem hq]
/-- the words of a throw but the four that speak of the heap -/
def vx_no (w : Cond) : Bool := decide (w ≠ .isRef (.static Bundle.tN "UNASSIGNED_STACK" Bundle.steD)) && decide (w ≠ .isRef (.static Bundle.tN "SUPPRESSED_SENTINEL" Bundle.listD)) && decide (w ≠ .laysStatic Bundle.tN "UNASSIGNED_STACK" Bundle.steD) && decide (w ≠ .laysStatic Bundle.tN "SUPPRESSED_SENTINEL" Bundle.listD)
def vx_at0 (own : String) (ic : Nat) (X : String) (names : List String) : List Cond := (Bundle.ownAtoms0 own ic X names).filter vx_no
def vx_atS (own : String) (ic : Nat) (X : String) (names : List String) : List Cond := (Bundle.ownAtoms own ic X names).filter vx_no
/-- a word that the tables alone decide, or a good one -/
def vx_ot (w : Cond) : Bool := w.onTables || goodWord w
theorem vx_ot_at {args a' : Array Value} {s U : State} {w : Cond} (hW : s.WarmedH U.vm) (hvm : s.vm = U.vm) (hg : vx_ot w = true) (h : w.before args s = true) : w.before a' U = true := by
  simp only [vx_ot, Bool.or_eq_true] at hg
  rcases hg with hg | hg
  · exact va_tabs hg hvm h
  · exact word_at hW (good_of_word hg) h
/-- a list's words: the good ones out of the method's own list, the others by premises of their own -/
theorem vx_hat {args : Array Value} {s : State} {L B : List Cond} (h1 : ∀ w ∈ L.filter goodWord, w.before args s = true) (h2 : ∀ w ∈ L.filter (fun w => !goodWord w), w ∈ B) (h3 : ∀ w ∈ B, w.before args s = true) : ∀ w ∈ L, w.before args s = true := by
  intro w hw
  by_cases g : goodWord w = true
  · exact h1 w (List.mem_filter.mpr ⟨hw, g⟩)
  · refine h3 w (h2 w (List.mem_filter.mpr ⟨hw, ?_⟩))
    show (!goodWord w) = true
    cases hgw : goodWord w
    · rfl
    · exact absurd hgw g
theorem vx_c {args : Array Value} {s : State} {w : Cond} {B : List Cond} (h : w.before args s = true) (t : ∀ w ∈ B, w.before args s = true) : ∀ w' ∈ w :: B, w'.before args s = true := fun w' h' => (List.mem_cons.mp h').elim (fun e => by rw [e]; exact h) (t w')
theorem vx_n {args : Array Value} {s : State} : ∀ w ∈ ([] : List Cond), w.before args s = true := fun _ h => nomatch h
theorem vx_own {args : Array Value} {s : State} {L : List Cond} (h1 : ∀ w ∈ L.filter vx_no, w.before args s = true)
    (hU : (Cond.isRef (.static Bundle.tN "UNASSIGNED_STACK" Bundle.steD)).before args s = true) (hN : (Cond.isRef (.static Bundle.tN "SUPPRESSED_SENTINEL" Bundle.listD)).before args s = true)
    (lU : (Cond.laysStatic Bundle.tN "UNASSIGNED_STACK" Bundle.steD).before args s = true) (lN : (Cond.laysStatic Bundle.tN "SUPPRESSED_SENTINEL" Bundle.listD).before args s = true) : ∀ w ∈ L, w.before args s = true := by
  intro w hw
  by_cases e1 : w = .isRef (.static Bundle.tN "UNASSIGNED_STACK" Bundle.steD)
  · rw [e1]; exact hU
  · by_cases e2 : w = .isRef (.static Bundle.tN "SUPPRESSED_SENTINEL" Bundle.listD)
    · rw [e2]; exact hN
    · by_cases e3 : w = .laysStatic Bundle.tN "UNASSIGNED_STACK" Bundle.steD
      · rw [e3]; exact lU
      · by_cases e4 : w = .laysStatic Bundle.tN "SUPPRESSED_SENTINEL" Bundle.listD
        · rw [e4]; exact lN
        · exact h1 w (List.mem_filter.mpr ⟨hw, by unfold vx_no; rw [decide_eq_true e1, decide_eq_true e2, decide_eq_true e3, decide_eq_true e4]; rfl⟩)
/-- where a static field lies, its class's statics cell in H -/
def vx_L (C n d : String) (A : Nat → Prop) (U : State) (H : Heap) : Prop := ∃ (c : ClassId) (k : Class) (i : Nat) (f : Field) (a : Nat) (cell : Cell), U.vm.findClass C = some c ∧ U.fieldFound? C n d = some (c, k, i, f) ∧ f.isStatic = true ∧ k.statics = some a ∧ H[a]? = some cell ∧ cell.vm.isStatics = true ∧ cell.cls = c ∧ f.slot < cell.slots.size ∧ k.staticTypes[f.slot]? = some f.type ∧ ¬ A a
theorem vx_L.moved {C n d : String} {A : Nat → Prop} {u U : State} {H : Heap} (hvm : u.vm.Alike U.vm) (h : vx_L C n d A u H) : vx_L C n d A U H := by
  obtain ⟨c, k, i, f, a, cell, h1, h2, h3, h4, h5, h6, h7, h8, h9, h10⟩ := h
  obtain ⟨k', hi', he⟩ := State.fieldFound?_setVm hvm h2
  exact ⟨c, k', i, f, a, cell, by rw [hvm.findClass]; exact h1, hi', h3, by rw [he]; exact h4, h5, h6, h7, h8, by rw [he]; exact h9, h10⟩
theorem vx_L.kept {C n d : String} {A : Nat → Prop} {U : State} {H H1 : Heap} (h : vx_L C n d A U H) (hq : ∀ a : Nat, a < H.size → ¬ A a → H1[a]? = H[a]?) : vx_L C n d A U H1 := by
  obtain ⟨c, k, i, f, a, cell, h1, h2, h3, h4, h5, h6, h7, h8, h9, h10⟩ := h
  exact ⟨c, k, i, f, a, cell, h1, h2, h3, h4, by rw [hq a (Array.getElem?_eq_some_iff.mp h5).1 h10]; exact h5, h6, h7, h8, h9, h10⟩
theorem vx_L.narrow {C n d : String} {A B : Nat → Prop} {U : State} {H : Heap} (h : vx_L C n d A U H) (hAB : ∀ q, B q → A q) : vx_L C n d B U H := by
  obtain ⟨c, k, i, f, a, cell, h1, h2, h3, h4, h5, h6, h7, h8, h9, h10⟩ := h
  exact ⟨c, k, i, f, a, cell, h1, h2, h3, h4, h5, h6, h7, h8, h9, fun z => h10 (hAB _ z)⟩
theorem vx_L.word {C n d : String} {A : Nat → Prop} {s : State} {args : Array Value} (h : vx_L C n d A s s.heap) : (Cond.laysStatic C n d).before args s = true := by
  obtain ⟨c, k, i, f, a, cell, h1, h2, h3, h4, h5, h6, h7, h8, h9, -⟩ := h
  show (Cond.laysStatic C n d).holds args s none s [] = true
  exact Cond.laysStatic_of h1 h2 h3 h4 h5 h6 h7 h8 h9
/-- .. and what it holds: null or some reference -/
def vx_Zq (C n d : String) (A : Nat → Prop) (U : State) (H : Heap) : Prop := va_Zq C n d A U H ∧ vx_L C n d A U H
theorem vx_Zq.moved {C n d : String} {A : Nat → Prop} {u U : State} {H : Heap} (hvm : u.vm.Alike U.vm) (h : vx_Zq C n d A u H) : vx_Zq C n d A U H := ⟨va_Zq.moved hvm h.1, vx_L.moved hvm h.2⟩
theorem vx_Zq.kept {C n d : String} {A : Nat → Prop} {U : State} {H H1 : Heap} (h : vx_Zq C n d A U H) (hq : ∀ a : Nat, a < H.size → ¬ A a → H1[a]? = H[a]?) : vx_Zq C n d A U H1 := ⟨va_Zq.kept h.1 hq, vx_L.kept h.2 hq⟩
theorem vx_Zq.narrow {C n d : String} {A B : Nat → Prop} {U : State} {H : Heap} (h : vx_Zq C n d A U H) (hAB : ∀ q, B q → A q) : vx_Zq C n d B U H := ⟨va_Zq.narrow h.1 hAB, vx_L.narrow h.2 hAB⟩
theorem vx_Zqof {args : Array Value} {s : State} {C n d : String} {A : Nat → Prop} (hl : (Cond.laysStatic C n d).before args s = true) (hini : (Cond.initialized C).before args s = true) (h : (Cond.isRef (.static C n d)).before args s = true) (hA : ∀ a : Nat, a < s.heap.size → ¬ A a) : vx_Zq C n d A s s.heap := by
  refine ⟨va_Zqof hl hini h hA, ?_⟩
  obtain ⟨c, k, i, f, a, cell, h1, h2, h3, h4, h5, h6, h7, h8, h9⟩ := Cond.laysStatic_spec hl
  exact ⟨c, k, i, f, a, cell, h1, h2, h3, h4, h5, h6, h7, h8, h9, hA a (Array.getElem?_eq_some_iff.mp h5).1⟩
theorem vx_isRef {C n d : String} {v : Value} {A : Nat → Prop} {s : State} {args : Array Value} (h : va_Z C n d v A s s.heap) (hv : v.isRef = true) : (Cond.isRef (.static C n d)).before args s = true := by
  obtain ⟨cf, kf, fi, f, a, cell, h1, h2, h3, h4, h5, h6, h7, -⟩ := h
  have he : (Term.static C n d).eval args s none [] s = some v := by
    simp [Term.eval, State.fieldNamed?, h1, h2, h4, h5, h6, h7]
  simp only [Cond.before, Cond.holds, Cond.value, he]
  cases v <;> simp_all [Value.isRef]
theorem vx_isRefq {C n d : String} {A : Nat → Prop} {s : State} {args : Array Value} (h : va_Zq C n d A s s.heap) : (Cond.isRef (.static C n d)).before args s = true := by
  rcases h with h | ⟨t, h⟩
  · exact vx_isRef h rfl
  · exact vx_isRef h rfl
/-- the same frame, seen from here: as if the method were called anew in this heap -/
theorem vx_rebase {T : State} (X : Stand p l e R s m args below meth c T locs cells slots) {R' : Room} (hf : R'.frames ≤ R.frames) (hl : R'.locals ≤ R.locals) (hc : cells + R'.cells ≤ R.cells) (hs : slots + R'.slots ≤ R.slots) :
    Stand p l e R' ((T.setVm s.vm).setFrames (.invoking m args :: below)) m args below meth c T [] 0 0 := by
  have htop : (T.setVm s.vm).topJava?.isSome := X.here.top
  have hF : ((T.setVm s.vm).setFrames (.invoking m args :: below)).frames = .invoking m args :: below := State.frames_setFrames _ (State.cur_lt_of_top htop)
  obtain ⟨g₀, hg0⟩ := Option.isSome_iff_exists.mp htop
  obtain ⟨r, hr⟩ := State.topJava?_eq_some.mp hg0
  have hl9 : e.platform.stackLimits (T.setVm s.vm).me = e.platform.stackLimits s.me := X.limits
  have hb9 : (T.setVm s.vm).me.stackBytes = s.me.stackBytes := X.bytes
  refine ⟨X.admits, X.cas, X.clock, hF, ?_, X.hears, X.method, X.code, X.here, X.tail, X.warmed, ?_, ?_, ?_⟩
  · have h := X.room
    have hU : ((T.setVm s.vm).setFrames (.invoking m args :: below)).localsInUse = s.localsInUse := by
      rw [State.localsInUse_invoking hF (meth := meth) (c := c) X.method X.code, State.localsInUse_invoking X.frames X.method X.code]
    simp only [State.hasRoom, Bool.and_eq_true, decide_eq_true_eq] at h ⊢
    obtain ⟨⟨⟨⟨h1, h2, h3, h4, h5, h6⟩, h7⟩, h8⟩, h9⟩ := h
    rw [X.frames, List.length_cons] at h2 h3
    have q1 := X.heapSize
    have q2 := X.used
    simp only [hF, hU, List.length_cons, State.stackLimits_setFrames, State.stackBytes_setFrames, hl9, hb9]
    refine ⟨⟨⟨⟨by omega, by omega, by omega, by omega, by omega, h6⟩, ?_⟩, ?_⟩, X.book⟩
    · show T.heap.size + R'.cells ≤ e.platform.maxCells
      omega
    · show T.slotsUsed + R'.slots ≤ e.platform.maxSlots
      omega
  · rw [State.stackLimits_setFrames]; rfl
  · rw [State.stackBytes_setFrames]; rfl
  · refine ⟨?_, Nat.le_refl _, Nat.le_refl _, ?_, ?_, fun a c9 h9 => ⟨c9, h9, rfl, rfl, fun _ _ => rfl⟩⟩
    · obtain ⟨t, ht, -⟩ := State.frames_cons hr
      show T.setVm s.vm = { ((T.setVm s.vm).setFrames (.invoking m args :: below)).setFrames (T.setVm s.vm).frames with heap := T.heap, slotsUsed := T.slotsUsed }
      rw [State.setFrames_setFrames, State.setFrames_self ht]
      rfl
    · show T.slotsUsed = T.slotsUsed + ((T.heap.toList.drop T.heap.size).map (·.slots.size)).sum
      rw [List.drop_eq_nil_of_le (Nat.le_of_eq Array.length_toList)]
      rfl
    · show ((T.heap.toList.drop T.heap.size).map (·.slots.size)).sum ≤ 0
      rw [List.drop_eq_nil_of_le (Nat.le_of_eq Array.length_toList)]
      exact Nat.le_refl _
/-- 'throw new E()': new; dup; invokespecial; athrow -/
theorem vx_throw0 {cc : ByteArray} {pc : Nat} (hexec : p.tables.exec = Jvm.exec) (hb : c.code = cc) (hl : l.stackTraces = false) {own cls : String} {names : List String} {ik ic mc ms : Nat} {A : Nat → Prop}
    (hown : s.vm.findClass own = some m.cls) (hcls : Bundle.fit cls = true) (hnames : ∀ n ∈ names, Bundle.fit n = true)
    (hk : (Cond.classLink own ik cls).before args s = true) (hini : (Cond.initialized cls).before args s = true) (hat : ∀ w ∈ vx_at0 own ic cls names, w.before args s = true)
    (hgood : ∀ w ∈ Cond.classLink own ik cls :: Cond.initialized cls :: vx_at0 own ic cls names, vx_ot w = true)
    (hU : vx_Zq Bundle.tN "UNASSIGNED_STACK" Bundle.steD A s s.heap) (hN : vx_Zq Bundle.tN "SUPPRESSED_SENTINEL" Bundle.listD A s s.heap) (hS : va_S A s.heap H locs) (hsize : ls.size = c.maxLocals)
    (d0 : decode cc pc = .ok (.new ik, 3)) (d3 : decode cc (pc + 3) = .ok (.dup, 1)) (d4 : decode cc (pc + 4) = .ok (.invokespecial ic, 3)) (d7 : decode cc (pc + 7) = .ok (.athrow, 1))
    (hout : ∀ x ∈ c.exceptionTable.toList, covers x (pc + 7) = false)
    (hRframes : names.length + 3 < R.frames) (hRlocals : (rest.map fun v => v.category).sum + (13 * (names.length + 1) + 42) ≤ R.locals) (hRcells : cells + 1 ≤ R.cells) (hRslots : slots + 6 ≤ R.slots) (hlocks : meth.locks = false)
    (hx : ∀ t : State, s.vm.Alike t.vm → H.size ≤ t.heap.size → (∀ q : Nat, q < H.size → t.heap[q]? = H[q]?) → XC cls s t)
    (hf : ∀ z ∈ locs, free z.base) (hc : cells + 1 ≤ mc) (hs : slots + 6 ≤ ms) :
    W p l e R s m args below meth c H locs cells slots (vx_MQ below Qc XC args s mc ms free) (F0 m pc ls rest) := by
  intro T hT X
  have htr : e.platform.stackTraces = false := (show e.platform.stackTraces = l.stackTraces by rw [X.admits.platform]).trans hl
  have Y := vx_rebase X (R' := { frames := R.frames, locals := R.locals, cells := 1, slots := 6 }) (Nat.le_refl _) (Nat.le_refl _) hRcells hRslots
  obtain ⟨s', hA⟩ : ∃ z, z = (T.setVm s.vm).setFrames (.invoking m args :: below) := ⟨_, rfl⟩
  rw [← hA] at Y
  have hvm : s'.vm = s.vm := by rw [hA]; rfl
  have hhp : s'.heap = H := by rw [hA]; exact hT
  have hW0 : s.WarmedH s'.vm := by rw [hvm]; exact State.WarmedH.refl s
  have hat' : ∀ w ∈ vx_at0 own ic cls names, w.before args s' = true := fun w hw => vx_ot_at hW0 hvm.symm (hgood w (List.mem_cons_of_mem _ (List.mem_cons_of_mem _ hw))) (hat w hw)
  have hk' : (Cond.classLink own ik cls).before args s' = true := vx_ot_at hW0 hvm.symm (hgood _ List.mem_cons_self) hk
  have hini' : (Cond.initialized cls).before args s' = true := vx_ot_at hW0 hvm.symm (hgood _ (List.mem_cons_of_mem _ List.mem_cons_self)) hini
  have hU' : vx_Zq Bundle.tN "UNASSIGNED_STACK" Bundle.steD A s' s'.heap := by rw [hhp]; exact vx_Zq.moved hW0.alike (hU.kept hS.2.1)
  have hN' : vx_Zq Bundle.tN "SUPPRESSED_SENTINEL" Bundle.listD A s' s'.heap := by rw [hhp]; exact vx_Zq.moved hW0.alike (hN.kept hS.2.1)
  have h : ∀ w ∈ Bundle.ownAtoms0 own ic cls names, w.before args s' = true := vx_own hat' (vx_isRefq hU'.1) (vx_isRefq hN'.1) hU'.2.word hN'.2.word
  have hown' : s'.vm.findClass own = some m.cls := by rw [hvm]; exact hown
  have hins : (Cond.instantiable cls 6).before args s' = true := h _ (by simp [Bundle.ownAtoms0])
  obtain ⟨vm₁, cX, kX, hfX, hkX, -, -, X₁, st1⟩ := Y.newCold hexec (own := own) (C := cls) (index := ik) (n := 6) hown' hk' hins hini'
    (g := F0 m pc ls rest) rfl (by rw [hb]; exact d0) (Nat.le_refl _) (Nat.le_refl _)
  generalize hT1 : (T.setVm vm₁).pushCell { cls := cX, slots := kX.instanceTypes.map defaultValue, vm := .none } = T1 at X₁ st1
  have hcat : (Value.ref T.heap.size).category = 1 := rfl
  have hcellA : T1.heap[T.heap.size]? = some (freshCell cX kX) := by rw [← hT1]; exact State.heap_pushCell_size _ _
  have d3' : decode c.code (pc + 3) = .ok (.dup, 1) := by rw [hb]; exact d3
  obtain ⟨U, hsteps, hrun, hend, hW, hsame, ce, hce, hO⟩ := X₁.ctorThrow0 hexec htr (own := own) (cls := cls) (names := names) (ic := ic) hown' hcls hnames h (fun x hx => nomatch hx) hfX hkX hcellA (by rw [hhp, hT]; exact Nat.le_refl _)
    (g := { method := m, pc := pc + 4, locals := ls, stack := .ref T.heap.size :: .ref T.heap.size :: rest, locked := none }) rfl hsize rfl rfl (rest := rest) rfl
    (by rw [hb]; exact d4) (by rw [hb]; exact d7) hout hRframes (by simp only [List.map_cons, List.sum_cons, hcat]; omega) hlocks
  obtain ⟨f1, f2⟩ := vx_frame hsame
  rw [hhp] at f1 f2
  have hWs : s.WarmedH U.vm := State.WarmedH.trans hW0 hW
  have hcl : s.vm.findClass cls = some ce.cls := by
    have h9 := hO.cls
    rw [hvm] at h9
    exact h9
  have hall : s.sameButNew ({ U with vm := s.vm } : State) locs mc ms := by
    subst hA
    obtain ⟨e1, e2⟩ := hsame
    rw [State.setFrames_setFrames] at e1
    have h2 : (T.setVm s.vm).sameButNew ({ U with vm := s.vm } : State) [] (0 + 1) (0 + 6) := ⟨e1, e2⟩
    have h3 := X.same.trans h2
    rw [List.append_nil] at h3
    exact h3.mono hc hs
  refine ⟨U, ?_, .threw T.heap.size, hrun, hend, Or.inr ⟨T.heap.size, rfl, cls, ce, locs, hx U hWs.alike f1 (fun q hq => f2 q hq (fun z hz => nomatch hz)), hce, hO.vm, hcl, hWs, hall, hf⟩⟩
  refine st1 _ ?_
  show Steps p.tables e below (T1.setTop { method := m, pc := pc + 3, locals := ls, stack := .ref T.heap.size :: rest, locked := none }) _
  jvm_step X₁.here [X₁.here.top, hexec, d3', Value.category]
  exact hsteps
/-- 'throw new E("text")': new; dup; ldc; invokespecial; athrow -/
theorem vx_throwS {cc : ByteArray} {pc : Nat} (hexec : p.tables.exec = Jvm.exec) (hb : c.code = cc) (hl : l.stackTraces = false) {own cls text : String} {names : List String} {ik is ic mc ms sa : Nat} {A : Nat → Prop}
    (hown : s.vm.findClass own = some m.cls) (hcls : Bundle.fit cls = true) (hnames : ∀ n ∈ names, Bundle.fit n = true)
    (hk : (Cond.classLink own ik cls).before args s = true) (hini : (Cond.initialized cls).before args s = true) (hstr : vk_R own is text sa s) (hat : ∀ w ∈ vx_atS own ic cls names, w.before args s = true)
    (hgood : ∀ w ∈ Cond.classLink own ik cls :: Cond.initialized cls :: vx_atS own ic cls names, vx_ot w = true)
    (hU : vx_Zq Bundle.tN "UNASSIGNED_STACK" Bundle.steD A s s.heap) (hN : vx_Zq Bundle.tN "SUPPRESSED_SENTINEL" Bundle.listD A s s.heap) (hS : va_S A s.heap H locs) (hsize : ls.size = c.maxLocals)
    (d0 : decode cc pc = .ok (.new ik, 3)) (d3 : decode cc (pc + 3) = .ok (.dup, 1)) (d4 : decode cc (pc + 4) = .ok (.ldc is, 2)) (d6 : decode cc (pc + 6) = .ok (.invokespecial ic, 3)) (d9 : decode cc (pc + 9) = .ok (.athrow, 1))
    (hout : ∀ x ∈ c.exceptionTable.toList, covers x (pc + 9) = false)
    (hRframes : names.length + 3 < R.frames) (hRlocals : (rest.map fun v => v.category).sum + (13 * (names.length + 1) + 43) ≤ R.locals) (hRcells : cells + 1 ≤ R.cells) (hRslots : slots + 6 ≤ R.slots) (hlocks : meth.locks = false)
    (hx : ∀ t : State, s.vm.Alike t.vm → H.size ≤ t.heap.size → (∀ q : Nat, q < H.size → t.heap[q]? = H[q]?) → XC cls s t)
    (hf : ∀ z ∈ locs, free z.base) (hc : cells + 1 ≤ mc) (hs : slots + 6 ≤ ms) :
    W p l e R s m args below meth c H locs cells slots (vx_MQ below Qc XC args s mc ms free) (F0 m pc ls rest) := by
  intro T hT X
  have htr : e.platform.stackTraces = false := (show e.platform.stackTraces = l.stackTraces by rw [X.admits.platform]).trans hl
  have Y := vx_rebase X (R' := { frames := R.frames, locals := R.locals, cells := 1, slots := 6 }) (Nat.le_refl _) (Nat.le_refl _) hRcells hRslots
  obtain ⟨s', hA⟩ : ∃ z, z = (T.setVm s.vm).setFrames (.invoking m args :: below) := ⟨_, rfl⟩
  rw [← hA] at Y
  have hvm : s'.vm = s.vm := by rw [hA]; rfl
  have hhp : s'.heap = H := by rw [hA]; exact hT
  have hW0 : s.WarmedH s'.vm := by rw [hvm]; exact State.WarmedH.refl s
  have hat' : ∀ w ∈ vx_atS own ic cls names, w.before args s' = true := fun w hw => vx_ot_at hW0 hvm.symm (hgood w (List.mem_cons_of_mem _ (List.mem_cons_of_mem _ hw))) (hat w hw)
  have hk' : (Cond.classLink own ik cls).before args s' = true := vx_ot_at hW0 hvm.symm (hgood _ List.mem_cons_self) hk
  have hini' : (Cond.initialized cls).before args s' = true := vx_ot_at hW0 hvm.symm (hgood _ (List.mem_cons_of_mem _ List.mem_cons_self)) hini
  have hU' : vx_Zq Bundle.tN "UNASSIGNED_STACK" Bundle.steD A s' s'.heap := by rw [hhp]; exact vx_Zq.moved hW0.alike (hU.kept hS.2.1)
  have hN' : vx_Zq Bundle.tN "SUPPRESSED_SENTINEL" Bundle.listD A s' s'.heap := by rw [hhp]; exact vx_Zq.moved hW0.alike (hN.kept hS.2.1)
  have h : ∀ w ∈ Bundle.ownAtoms own ic cls names, w.before args s' = true := vx_own hat' (vx_isRefq hU'.1) (vx_isRefq hN'.1) hU'.2.word hN'.2.word
  have hown' : s'.vm.findClass own = some m.cls := by rw [hvm]; exact hown
  have hins : (Cond.instantiable cls 6).before args s' = true := h _ (by simp [Bundle.ownAtoms])
  obtain ⟨vm₁, cX, kX, hfX, hkX, -, -, X₁, st1⟩ := Y.newCold hexec (own := own) (C := cls) (index := ik) (n := 6) hown' hk' hins hini'
    (g := F0 m pc ls rest) rfl (by rw [hb]; exact d0) (Nat.le_refl _) (Nat.le_refl _)
  generalize hT1 : (T.setVm vm₁).pushCell { cls := cX, slots := kX.instanceTypes.map defaultValue, vm := .none } = T1 at X₁ st1
  have hcat : (Value.ref T.heap.size).category = 1 := rfl
  have hcellA : T1.heap[T.heap.size]? = some (freshCell cX kX) := by rw [← hT1]; exact State.heap_pushCell_size _ _
  have d3' : decode c.code (pc + 3) = .ok (.dup, 1) := by rw [hb]; exact d3
  have d4' : decode c.code (pc + 4) = .ok (.ldc is, 2) := by rw [hb]; exact d4
  have hstr' : vk_R own is text sa s' := vk_R.warm hW0 hstr
  obtain ⟨U, hsteps, hrun, hend, hW, hsame, ce, hce, hO⟩ := X₁.ctorThrowS hexec htr (own := own) (cls := cls) (names := names) (ic := ic) hown' hcls hnames h (fun x hx => nomatch hx) hfX hkX hcellA (by rw [hhp, hT]; exact Nat.le_refl _) (msg := .ref sa) rfl
    (g := { method := m, pc := pc + 6, locals := ls, stack := .ref sa :: .ref T.heap.size :: .ref T.heap.size :: rest, locked := none }) rfl hsize rfl rfl (rest := rest) rfl
    (by rw [hb]; exact d6) (by rw [hb]; exact d9) hout hRframes (by simp only [List.map_cons, List.sum_cons, hcat]; omega) hlocks
  obtain ⟨f1, f2⟩ := vx_frame hsame
  rw [hhp] at f1 f2
  have hWs : s.WarmedH U.vm := State.WarmedH.trans hW0 hW
  have hcl : s.vm.findClass cls = some ce.cls := by
    have h9 := hO.cls
    rw [hvm] at h9
    exact h9
  have hall : s.sameButNew ({ U with vm := s.vm } : State) locs mc ms := by
    subst hA
    obtain ⟨e1, e2⟩ := hsame
    rw [State.setFrames_setFrames] at e1
    have h2 : (T.setVm s.vm).sameButNew ({ U with vm := s.vm } : State) [] (0 + 1) (0 + 6) := ⟨e1, e2⟩
    have h3 := X.same.trans h2
    rw [List.append_nil] at h3
    exact h3.mono hc hs
  refine ⟨U, ?_, .threw T.heap.size, hrun, hend, Or.inr ⟨T.heap.size, rfl, cls, ce, locs, hx U hWs.alike f1 (fun q hq => f2 q hq (fun z hz => nomatch hz)), hce, hO.vm, hcl, hWs, hall, hf⟩⟩
  refine st1 _ ?_
  show Steps p.tables e below (T1.setTop { method := m, pc := pc + 3, locals := ls, stack := .ref T.heap.size :: rest, locked := none }) _
  jvm_step X₁.here [X₁.here.top, hexec, d3', Value.category]
  exact X₁.ldcString hexec (own := own) (text := text) (index := is) (a := sa) hown' hstr'.1 hstr'.2
    (g := { method := m, pc := pc + 4, locals := ls, stack := .ref T.heap.size :: .ref T.heap.size :: rest, locked := none }) rfl d4' _ hsteps
/-- 'throw new E("text")', the text by a wide index -/
theorem vx_throwSW {cc : ByteArray} {pc : Nat} (hexec : p.tables.exec = Jvm.exec) (hb : c.code = cc) (hl : l.stackTraces = false) {own cls text : String} {names : List String} {ik is ic mc ms sa : Nat} {A : Nat → Prop}
    (hown : s.vm.findClass own = some m.cls) (hcls : Bundle.fit cls = true) (hnames : ∀ n ∈ names, Bundle.fit n = true)
    (hk : (Cond.classLink own ik cls).before args s = true) (hini : (Cond.initialized cls).before args s = true) (hstr : vk_R own is text sa s) (hat : ∀ w ∈ vx_atS own ic cls names, w.before args s = true)
    (hgood : ∀ w ∈ Cond.classLink own ik cls :: Cond.initialized cls :: vx_atS own ic cls names, vx_ot w = true)
    (hU : vx_Zq Bundle.tN "UNASSIGNED_STACK" Bundle.steD A s s.heap) (hN : vx_Zq Bundle.tN "SUPPRESSED_SENTINEL" Bundle.listD A s s.heap) (hS : va_S A s.heap H locs) (hsize : ls.size = c.maxLocals)
    (d0 : decode cc pc = .ok (.new ik, 3)) (d3 : decode cc (pc + 3) = .ok (.dup, 1)) (d4 : decode cc (pc + 4) = .ok (.ldc_w is, 3)) (d7 : decode cc (pc + 7) = .ok (.invokespecial ic, 3)) (d10 : decode cc (pc + 10) = .ok (.athrow, 1))
    (hout : ∀ x ∈ c.exceptionTable.toList, covers x (pc + 10) = false)
    (hRframes : names.length + 3 < R.frames) (hRlocals : (rest.map fun v => v.category).sum + (13 * (names.length + 1) + 43) ≤ R.locals) (hRcells : cells + 1 ≤ R.cells) (hRslots : slots + 6 ≤ R.slots) (hlocks : meth.locks = false)
    (hx : ∀ t : State, s.vm.Alike t.vm → H.size ≤ t.heap.size → (∀ q : Nat, q < H.size → t.heap[q]? = H[q]?) → XC cls s t)
    (hf : ∀ z ∈ locs, free z.base) (hc : cells + 1 ≤ mc) (hs : slots + 6 ≤ ms) :
    W p l e R s m args below meth c H locs cells slots (vx_MQ below Qc XC args s mc ms free) (F0 m pc ls rest) := by
  intro T hT X
  have htr : e.platform.stackTraces = false := (show e.platform.stackTraces = l.stackTraces by rw [X.admits.platform]).trans hl
  have Y := vx_rebase X (R' := { frames := R.frames, locals := R.locals, cells := 1, slots := 6 }) (Nat.le_refl _) (Nat.le_refl _) hRcells hRslots
  obtain ⟨s', hA⟩ : ∃ z, z = (T.setVm s.vm).setFrames (.invoking m args :: below) := ⟨_, rfl⟩
  rw [← hA] at Y
  have hvm : s'.vm = s.vm := by rw [hA]; rfl
  have hhp : s'.heap = H := by rw [hA]; exact hT
  have hW0 : s.WarmedH s'.vm := by rw [hvm]; exact State.WarmedH.refl s
  have hat' : ∀ w ∈ vx_atS own ic cls names, w.before args s' = true := fun w hw => vx_ot_at hW0 hvm.symm (hgood w (List.mem_cons_of_mem _ (List.mem_cons_of_mem _ hw))) (hat w hw)
  have hk' : (Cond.classLink own ik cls).before args s' = true := vx_ot_at hW0 hvm.symm (hgood _ List.mem_cons_self) hk
  have hini' : (Cond.initialized cls).before args s' = true := vx_ot_at hW0 hvm.symm (hgood _ (List.mem_cons_of_mem _ List.mem_cons_self)) hini
  have hU' : vx_Zq Bundle.tN "UNASSIGNED_STACK" Bundle.steD A s' s'.heap := by rw [hhp]; exact vx_Zq.moved hW0.alike (hU.kept hS.2.1)
  have hN' : vx_Zq Bundle.tN "SUPPRESSED_SENTINEL" Bundle.listD A s' s'.heap := by rw [hhp]; exact vx_Zq.moved hW0.alike (hN.kept hS.2.1)
  have h : ∀ w ∈ Bundle.ownAtoms own ic cls names, w.before args s' = true := vx_own hat' (vx_isRefq hU'.1) (vx_isRefq hN'.1) hU'.2.word hN'.2.word
  have hown' : s'.vm.findClass own = some m.cls := by rw [hvm]; exact hown
  have hins : (Cond.instantiable cls 6).before args s' = true := h _ (by simp [Bundle.ownAtoms])
  obtain ⟨vm₁, cX, kX, hfX, hkX, -, -, X₁, st1⟩ := Y.newCold hexec (own := own) (C := cls) (index := ik) (n := 6) hown' hk' hins hini'
    (g := F0 m pc ls rest) rfl (by rw [hb]; exact d0) (Nat.le_refl _) (Nat.le_refl _)
  generalize hT1 : (T.setVm vm₁).pushCell { cls := cX, slots := kX.instanceTypes.map defaultValue, vm := .none } = T1 at X₁ st1
  have hcat : (Value.ref T.heap.size).category = 1 := rfl
  have hcellA : T1.heap[T.heap.size]? = some (freshCell cX kX) := by rw [← hT1]; exact State.heap_pushCell_size _ _
  have d3' : decode c.code (pc + 3) = .ok (.dup, 1) := by rw [hb]; exact d3
  have d4' : decode c.code (pc + 4) = .ok (.ldc_w is, 3) := by rw [hb]; exact d4
  have hstr' : vk_R own is text sa s' := vk_R.warm hW0 hstr
  obtain ⟨U, hsteps, hrun, hend, hW, hsame, ce, hce, hO⟩ := X₁.ctorThrowS hexec htr (own := own) (cls := cls) (names := names) (ic := ic) hown' hcls hnames h (fun x hx => nomatch hx) hfX hkX hcellA (by rw [hhp, hT]; exact Nat.le_refl _) (msg := .ref sa) rfl
    (g := { method := m, pc := pc + 7, locals := ls, stack := .ref sa :: .ref T.heap.size :: .ref T.heap.size :: rest, locked := none }) rfl hsize rfl rfl (rest := rest) rfl
    (by rw [hb]; exact d7) (by rw [hb]; exact d10) hout hRframes (by simp only [List.map_cons, List.sum_cons, hcat]; omega) hlocks
  obtain ⟨f1, f2⟩ := vx_frame hsame
  rw [hhp] at f1 f2
  have hWs : s.WarmedH U.vm := State.WarmedH.trans hW0 hW
  have hcl : s.vm.findClass cls = some ce.cls := by
    have h9 := hO.cls
    rw [hvm] at h9
    exact h9
  have hall : s.sameButNew ({ U with vm := s.vm } : State) locs mc ms := by
    subst hA
    obtain ⟨e1, e2⟩ := hsame
    rw [State.setFrames_setFrames] at e1
    have h2 : (T.setVm s.vm).sameButNew ({ U with vm := s.vm } : State) [] (0 + 1) (0 + 6) := ⟨e1, e2⟩
    have h3 := X.same.trans h2
    rw [List.append_nil] at h3
    exact h3.mono hc hs
  refine ⟨U, ?_, .threw T.heap.size, hrun, hend, Or.inr ⟨T.heap.size, rfl, cls, ce, locs, hx U hWs.alike f1 (fun q hq => f2 q hq (fun z hz => nomatch hz)), hce, hO.vm, hcl, hWs, hall, hf⟩⟩
  refine st1 _ ?_
  show Steps p.tables e below (T1.setTop { method := m, pc := pc + 3, locals := ls, stack := .ref T.heap.size :: rest, locked := none }) _
  jvm_step X₁.here [X₁.here.top, hexec, d3', Value.category]
  exact X₁.ldcStringW hexec (own := own) (text := text) (index := is) (a := sa) hown' hstr'.1 hstr'.2
    (g := { method := m, pc := pc + 4, locals := ls, stack := .ref T.heap.size :: .ref T.heap.size :: rest, locked := none }) rfl d4' _ hsteps
end Ends
section Bodies
variable {l : Launch}
theorem vx_ofW {y : MethodName} {ws ws' : List Cond} {rm : Room} {Pc : Array Value → State → Prop} {Qc : Array Value → State → Outcome → State → Prop} {XC : String → State → State → Prop} {mc ms : Nat} {free : Addr → Prop} {cc : ByteArray} {maxL : Nat} {ret : Option FieldType}
    (hy : plainName y.cls = true) (hw : ws = Cond.code y cc maxL ret :: ws')
    (body : ∀ p e s m args below meth c s₁, BodyLoose p l y (headSpec ws rm) cc maxL ret e s m args below meth c s₁ → c.maxLocals = maxL → (∀ x ∈ c.exceptionTable.toList, False) → Pc args s →
      W p l e (headSpec ws rm).room s m args below meth c s.heap [] 0 0 (vx_MQ below Qc XC args s mc ms free) (entryFrame m args maxL)) : vx_Met l y ws rm Pc Qc XC mc ms free := by
  refine MetFree.of_bodyS (code := cc) (maxLocals := maxL) (ret := ret) hy ?_ ?_
  · intro args s m h hn
    obtain ⟨meth, c, h1, h2, h3, h4, h5, h6, -, -⟩ := Cond.code_spec hn (atoms_spec (ws := ws) h _ (by rw [hw]; exact List.mem_cons_self))
    exact ⟨meth, c, h1, h2, h3, h4, h5, h6⟩
  · intro p e s m args below meth c s₁ B hml hP _
    have hh0 : s₁.heap = s.heap := by rw [B.state]; rfl
    have ht : ∀ x ∈ c.exceptionTable.toList, False := by
      obtain ⟨meth9, c9, h1, h2, -, -, -, -, h7, -⟩ := Cond.code_spec B.named (atoms_spec (ws := ws) B.pre _ (by rw [hw]; exact List.mem_cons_self))
      cases Option.some.inj (h1.symm.trans B.method)
      cases Option.some.inj (h2.symm.trans (Stand.of_body B).code)
      intro x hx
      rw [Array.isEmpty_iff.mp h7] at hx
      cases hx
    obtain ⟨t, a1, o, b1, b2, b3⟩ := body p e s m args below meth c s₁ B hml ht hP s₁ hh0 (Stand.of_body B)
    exact ⟨t, o, a1, b1, b2, b3⟩
/-- the table of a body with handlers -/
theorem vx_table {p : Program} {x y : MethodName} {S : Spec} {cc bytes : ByteArray} {maxL maxL' : Nat} {ret ret' : Option FieldType} {e : Env} {s s₁ : State} {m : MethodId} {args : Array Value} {below : List Frame} {meth : Method} {c : Code} {hh : List (Nat × Nat × Nat × Nat)}
    (B : BodyLoose p l y S cc maxL ret e s m args below meth c s₁) (h : (Cond.codeWith y bytes maxL' ret' hh).before args s = true) : c.exceptionTable.toList = tableOf hh := by
  obtain ⟨m9, meth9, c9, hn9, h1, h2, -, -, h6, -⟩ := Cond.codeWith_spec h
  cases Option.some.inj (hn9.symm.trans B.named)
  cases Option.some.inj (h1.symm.trans B.method)
  cases Option.some.inj (h2.symm.trans (Stand.of_body B).code)
  rw [← h6, table_eq]
end Bodies
end VXA
/-! ===== END ===== -/
/-! ===== BEGIN a static call of a method with an exception table ===== -/
section VXS
variable {p : Program} {l : Launch} {e : Env} {R : Room} {s : State} {m : MethodId} {args : Array Value} {below : List Frame} {meth : Method} {c : Code} {T : State} {H : Heap} {locs : List Loc} {cells slots : Nat}
abbrev vx_CSW (R : Room) (s : State) (args : Array Value) (own : String) (index : Nat) (y : MethodName) (bytes : ByteArray) (maxL : Nat) (ret : Option FieldType) (hh : List (Nat × Nat × Nat × Nat)) (ws : List Cond) (rm : Room) (mc ms n : Nat) : Prop :=
  (rm.cells = mc ∧ rm.slots = ms ∧ rm.frames + 1 ≤ R.frames ∧ 8 + (maxL + 11) + rm.locals ≤ R.locals ∧ (∀ w ∈ ws, ∀ (a' : Array Value) (U : State), s.WarmedH U.vm → w.before a' U = true) ∧ Cond.codeWith y bytes maxL ret hh ∈ ws) ∧
  (Cond.codeWith y bytes maxL ret hh).before args s = true ∧ (Cond.initialized y.cls).before args s = true ∧ (y.cls ≠ "java/lang/invoke/MethodHandle" ∧ y.cls ≠ "java/lang/invoke/VarHandle") ∧
  (∀ sig, parseMethodDescriptor y.desc = some sig → n = sig.parameters.length) ∧ (Cond.methodLink own index y).before args s = true ∧ (Cond.static y).before args s = true
theorem vx_cwSW {own : String} {index maxL mc ms : Nat} {y : MethodName} {bytes : ByteArray} {ret : Option FieldType} {hh : List (Nat × Nat × Nat × Nat)} {Ts ws ws' : List Cond} {rm : Room} (n : Nat) (ht : ∀ w ∈ Ts, w.before args s = true) (hT : GoodIn Ts (va_wsS own index y ws)) (hw : ws = Cond.codeWith y bytes maxL ret hh :: ws') (hrc : rm.cells = mc) (hrs : rm.slots = ms)
    (hd : y.cls ≠ "java/lang/invoke/MethodHandle" ∧ y.cls ≠ "java/lang/invoke/VarHandle" ∧ (parseMethodDescriptor y.desc).map (fun d => d.parameters.length) = some n) (hR : rm.frames + 1 ≤ R.frames ∧ 8 + (maxL + 11) + rm.locals ≤ R.locals) :
    vx_CSW R s args own index y bytes maxL ret hh ws rm mc ms n := by
  have ok : ∀ w ∈ va_wsS own index y ws, w.before args s = true := fun w h => ht w (hT w h).1
  have hG : GoodIn Ts ws := fun w h => hT w (by unfold va_wsS; exact List.mem_append_right _ h)
  have hc : Cond.codeWith y bytes maxL ret hh ∈ ws := by rw [hw]; exact List.mem_cons_self
  refine ⟨⟨hrc, hrs, hR.1, hR.2, pay_in ht hG, hc⟩, ht _ (hG _ hc).1, ok _ (by simp [va_wsS]), ⟨hd.1, hd.2.1⟩, fun sig h => ?_, ok _ (by simp [va_wsS]), ok _ (by simp [va_wsS])⟩
  have h2 := hd.2.2
  rw [h] at h2
  exact (Option.some.inj h2).symm
theorem vx_callSW (X : Stand p l e R s m args below meth c T locs cells slots) (hexec : p.tables.exec = Jvm.exec) {own : String} {index : Nat} {y : MethodName} {bytes : ByteArray} {maxL : Nat} {ret : Option FieldType} {hh : List (Nat × Nat × Nat × Nat)}
    (hown : s.vm.findClass own = some m.cls) (hlink : (Cond.methodLink own index y).before args s = true) (hstat : (Cond.static y).before args s = true) (hinit : (Cond.initialized y.cls).before args s = true)
    (hcode : (Cond.codeWith y bytes maxL ret hh).before args s = true) (hy : y.cls ≠ "java/lang/invoke/MethodHandle" ∧ y.cls ≠ "java/lang/invoke/VarHandle")
    {W9 : Nat} {Pre : Pt → Array Value → Prop} {Post : Pt → Array Value → Option Value → Pt → Prop} (hK : Back l R p e below s args y 3 W9 Pre Post)
    {g : JFrame} (hg : g.method = m) (hsize : g.locals.size = c.maxLocals) {argsL rest : List Value} (hlen : ∀ sig, parseMethodDescriptor y.desc = some sig → argsL.length = sig.parameters.length)
    (hstack : g.stack = argsL.reverse ++ rest) (hW : 2 * g.monitorRoom + (rest.map fun v => v.category).sum ≤ W9) (hdg : decode c.code g.pc = .ok (.invokestatic index, 3))
    (hpre : ∀ vm₁, s.WarmedH vm₁ → Pre ⟨T.setVm vm₁, locs, cells, slots⟩ argsL.toArray) :
    ∃ (v : Option Value) (vm₁ : Vm) (B : Pt), s.WarmedH vm₁ ∧ Stand p l e R s m args below meth c B.U B.locs B.cells B.slots ∧ Post ⟨T.setVm vm₁, locs, cells, slots⟩ argsL.toArray v B ∧
      ∀ target, Steps p.tables e below (B.U.setTop { g with pc := g.pc + 3, stack := v.toList ++ rest }) target → Steps p.tables e below (T.setTop g) target := by
  obtain ⟨mk, methM, cM, hnamed, hmethM, -, -, -, -, -, -, hsigM⟩ := Cond.codeWith_spec hcode
  have hstatic : methM.isStatic = true := Cond.static_spec hnamed hmethM hstat
  obtain ⟨kP, hkP, -⟩ := className_of_methodNamed hnamed
  have hinitP : kP.init = .initialized := Cond.initialized_spec (findClass_of_methodNamed hnamed) hkP hinit
  obtain ⟨vm₁, X₁, hstep₁⟩ := X.invokestatic hexec hown hlink hnamed hmethM hstatic hkP hinitP hy (g := g) hg (argsL := argsL) (rest := rest) (hlen _ hsigM) hstack hdg
  obtain ⟨v, B, X', hpost, hsteps⟩ := hK m meth c ⟨T.setVm vm₁, locs, cells, slots⟩ { g with stack := rest } (.invokestatic index) mk argsL.toArray X₁ hg hsize hdg hW (X₁.named hnamed) (hpre vm₁ X₁.warmed)
  exact ⟨v, vm₁, B, X₁.warmed, X', hpost, fun target h => hstep₁ _ fun acts => by rw [doInvoke_state]; exact hsteps.trans h⟩
theorem vx_runSW {y : MethodName} {bytes cc : ByteArray} {maxL nL mc ms n index : Nat} {ret : Option FieldType} {hh : List (Nat × Nat × Nat × Nat)} {ws : List Cond} {rm : Room} {Pc : Array Value → State → Prop} {Qc : Array Value → State → Outcome → State → Prop} {free : Addr → Prop} {Ts : List Cond} {own : String} {As rest : List Value} {g : JFrame}
    (S : CallFix p m c cc nL s args Ts own) (hM : Met l y ws rm Pc Qc mc ms free) (cw : vx_CSW R s args own index y bytes maxL ret hh ws rm mc ms n) (hp : PreS s H Pc As)
    (hg : g.method = m) (hn : As.length = n) (hsize : g.locals.size = nL) (hstack : g.stack = As.reverse ++ rest) (hW : 2 * g.monitorRoom + (rest.map fun v => v.category).sum ≤ 8) (hdg : decode cc g.pc = .ok (.invokestatic index, 3)) (hf : cells + mc ≤ R.cells ∧ slots + ms ≤ R.slots) :
    va_Run p l e R s m args below meth c H locs cells slots mc ms g rest (Qc As.toArray) (free) := by
  obtain ⟨⟨hrc, hrs, hfr, hlo, hws, hcw⟩, hcode, hini, hy, hlen, hl, hstt⟩ := cw
  have hK : Back l R p e below s args y 3 8 (PreOf R mc ms Pc) (PostOf Qc mc ms free) := va_backW (hh := hh) (bytes := bytes) (maxL := maxL) (ret := ret) hM hp.1 hrc hrs hfr hlo hws hcw (fun a' U hW => word_at hW (Or.inl (by first | rfl | simp [Cond.onTables, Cond.keeps, Cond.steady])) hini)
  obtain ⟨hx, hb, hml, ho, -⟩ := S
  intro T hT X
  obtain ⟨v, vm₁, ⟨U', l2, c2, s2⟩, hW₁, X', ⟨g', mk, t, L, e1, e2, hq, h1, hL, h2, h3⟩, st⟩ := vx_callSW X hx (hh := hh) (bytes := bytes) (maxL := maxL) (ret := ret) ho hl hstt hini hcode hy hK hg (hsize.trans hml.symm) (argsL := As) (rest := rest) (fun sig h => hn.trans (hlen sig h)) hstack hW (by rw [hb]; exact hdg)
    (fun vm₁ hW₁ => ⟨hf.1, hf.2, hp.2 (T.setVm vm₁) hT hW₁⟩)
  dsimp only [Pt.U, Pt.locs, Pt.cells, Pt.slots] at X' e1 e2 h1 h2 h3 st
  subst h1; subst h2; subst h3
  exact ⟨v, (T.setVm vm₁).calling g' mk As.toArray, t, U', L, hT, X', hL, e1, e2, hq, st⟩
/-- not caught here, past rows that name other classes: it goes on to the caller -/
theorem vx_outP {p : Program} {l : Launch} {e : Env} {R : Room} {s : State} {m : MethodId} {args : Array Value} {below : List Frame} {meth : Method} {c : Code} {H : Heap} {locs : List Loc} {cells slots : Nat} {free : Addr → Prop} {ls : Array Slot} {rest : List Value} {Qc : Array Value → State → Outcome → State → Prop} {XC : String → State → State → Prop}
    {pc : Nat} {own E : String} {ce : Cell} {q : Addr} {mc ms : Nat} (hown : s.vm.findClass own = some m.cls) (hlocks : meth.locks = false)
    (hpass : ∀ z ∈ c.exceptionTable.toList, covers z pc = false ∨ (z.catchType ≠ 0 ∧ ∃ nm : String, (Cond.classLink own z.catchType nm).before args s = true ∧ va_Nc E nm s)) (hcell : H[q]? = some ce) (hv : ce.vm = .none) (hcl : s.vm.findClass E = some ce.cls)
    (hx : ∀ t : State, t.heap = H → s.vm.Alike t.vm → XC E s t) (hf : ∀ z ∈ locs, free z.base) (hc : cells ≤ mc) (hs : slots ≤ ms) :
    vx_W p l e R s m args below meth c H locs cells slots (vx_MQ below Qc XC args s mc ms free) (F0 m pc ls rest) q := by
  intro T hT X
  have hpl : e.platform.magicAccessors = ({} : Platform).magicAccessors := by rw [X.admits.platform]
  obtain ⟨vm', hW', X', st⟩ := X.outThrough hlocks q (g := F0 m pc ls rest) rfl rfl rfl (cell := ce) (by rw [hT]; exact hcell) (by rw [hv]; rfl)
    (by obtain ⟨k9, h9, -⟩ := Vm.findClass_spec hcl; exact ⟨k9, h9⟩) (fun z hz => by
      rcases hpass z hz with h | ⟨hz0, nm, hl1, hn1⟩
      · exact Or.inl h
      · obtain ⟨c6, hc6, hcl6⟩ := Cond.classLink_spec hown hl1 e.platform hpl
        obtain ⟨a8, b8, h1, h2, h3⟩ := hn1
        cases Option.some.inj (h1.symm.trans hcl)
        cases Option.some.inj (h2.symm.trans hc6)
        exact Or.inr ⟨hz0, _, hcl6, h3⟩)
  obtain ⟨g₀, hfr⟩ := X'.frames_eq
  have hcell9 : ((T.setVm vm').setFrames (.throwing q :: below)).heap[q]? = some ce := by
    show T.heap[q]? = some ce
    rw [hT]; exact hcell
  have hend : Ended ((T.setVm vm').setFrames (.throwing q :: below)) below (.threw q) := State.frames_setFrames _ (State.cur_lt_of_frames hfr)
  refine ⟨(T.setVm vm').setFrames (.throwing q :: below), ?_, .threw q, X'.here.running, hend, Or.inr ⟨q, rfl, E, ce, locs, hx _ hT (X'.ends _).1.alike, hcell9, hv, hcl, (X'.ends _).1, (X'.ends _).2.mono hc hs, hf⟩⟩
  rw [X.pushThrowing_eq]
  exact st
/-- a thing of a world lies in the heap -/
theorem vx_lt {D : va_G} {cl : List vw_C} {ws : va_W} {H1 : Heap} (h : va_P D cl ws H1) {k : Nat} {q : Nat × va_E} (hk : ws[k]? = some q) : q.1 < H1.size := (h k q hk).lt
end VXS
/-! ===== END ===== -/
/-! ===== BEGIN methods with a table of their own: called by a name, returning or throwing ===== -/
section VXH
/-! vx_backW, vx_callVX, vx_callSX, vx_callVW, vx_runVW, vx_runVX, vx_runSX, vx_ofWH follow the same proofs as their sisters above (Free/Laws.lean, Shelf42/LK1.lean); vx_outP calls Shelf42/NT130.lean (outThrough). -/
section
variable {l : Launch} {R : Room} {p : Program} {e : Env} {below : List Frame} {s : State} {sargs : Array Value} {y : MethodName} {len W9 : Nat}
theorem vx_backW {ws : List Cond} {rm : Room} {Pc : Array Value → State → Prop} {Qc : Array Value → State → Outcome → State → Prop} {XC : String → State → State → Prop} {mc ms : Nat} {free : Addr → Prop} {bytes : ByteArray} {maxL : Nat} {ret : Option FieldType} {hh : List (Nat × Nat × Nat × Nat)}
    (hM : vx_Met l y ws rm Pc Qc XC mc ms free) (hblind : FrameBlind Pc) (hrc : rm.cells = mc) (hrs : rm.slots = ms)
    (hframes : rm.frames + 1 ≤ R.frames) (hlocals : W9 + (maxL + 11) + rm.locals ≤ R.locals)
    (hws : ∀ w ∈ ws, ∀ a' U, s.WarmedH U.vm → w.before a' U = true) (hcode : Cond.codeWith y bytes maxL ret hh ∈ ws) (hinit : ∀ a' U, s.WarmedH U.vm → (Cond.initialized y.cls).before a' U = true) :
    vx_Back l R p e below s sargs y len W9 (PreOf R mc ms Pc) (PostOf Qc mc ms free) (vx_Post XC mc ms free) := by
  intro m meth c A g ig mk a X hg hsize hdg hW hn hp
  have h1 : (headSpec ws rm).pre.before a A.U = true := atoms_intro fun w hw => hws w hw _ _ X.warmed
  have h2 : (Cond.codeWith y bytes maxL ret hh).before a A.U = true := hws _ hcode _ _ X.warmed
  have h3 : (Cond.initialized y.cls).before a A.U = true := hinit _ _ X.warmed
  have h4 : A.cells + (headSpec ws rm).room.cells ≤ R.cells := by rw [show (headSpec ws rm).room.cells = mc from hrc]; exact hp.1
  have h5 : A.slots + (headSpec ws rm).room.slots ≤ R.slots := by rw [show (headSpec ws rm).room.slots = ms from hrs]; exact hp.2.1
  have hPc : Pc a (A.U.calling g mk a) := hblind _ _ _ _ hp.2.2
  obtain ⟨U, Ls, c0, s0⟩ := A
  dsimp only [Pt.U, Pt.locs, Pt.cells, Pt.slots] at h1 h2 h3 h4 h5 X hn hPc ⊢
  obtain ⟨m9, methY, cY, hn9, hmY, hcY, -, hlY, -⟩ := Cond.codeWith_spec h2
  cases Option.some.inj (hn9.symm.trans hn)
  obtain ⟨kY, hkY, -⟩ := className_of_methodNamed hn
  have hinitY : kY.init = .initialized := Cond.initialized_spec (findClass_of_methodNamed hn) hkY h3
  have h : At U g.method c below := by rw [hg]; exact X.here
  have hlocals9 : W9 + (maxL + 11) + (headSpec ws rm).room.locals ≤ R.locals := hlocals
  have happ : (headSpec ws rm).appliesLoose y e.platform (U.calling g mk a) = true :=
    Spec.appliesLoose_calling (g := g) h hdg hn hkY hinitY
      (X.room_calling (g := g) (R' := (headSpec ws rm).room) hsize hmY hcY hframes (by rw [hlY]; omega) h4 h5) h1
  obtain ⟨mid, hmid⟩ := h.above
  have hfr : (U.setTop g).frames = (.java g :: mid) ++ below := by rw [State.frames_setTop' g h.top, hmid]; rfl
  obtain ⟨o, s₂, hsteps, -, hend, hq⟩ := Steps.callFree hM p X.admits X.cas X.clock (acts := []) hfr happ hPc trivial
  have hq' : vx_Q Qc XC mc ms free a (U.calling g mk a) o s₂ := hq
  rw [State.frames_setTop' g h.top] at hend
  obtain ⟨g₀, hg0⟩ := Option.isSome_iff_exists.mp h.top
  obtain ⟨r, hr⟩ := State.topJava?_eq_some.mp hg0
  have hr' : (({ U with heap := s₂.heap, slotsUsed := s₂.slotsUsed } : State).setVm s₂.vm).frames = .java g₀ :: r := hr
  rcases hq' with ⟨hqc, L, hfe, hL⟩ | ⟨q, rfl, E, ce, L, hx, hce, hcv, hcl, hW₂, hsm, hL⟩
  · obtain ⟨⟨v, rfl⟩, hW₂, e2, q2, q3, q4, q5, q6⟩ := id hfe
    have e3 : s₂ = ({ (U.calling g mk a).setFrames s₂.frames with heap := s₂.heap, slotsUsed := s₂.slotsUsed } : State).setVm s₂.vm := by
      have : s₂ = ({ s₂ with vm := (U.calling g mk a).vm } : State).setVm s₂.vm := rfl
      rw [e2] at this
      exact this
    obtain ⟨c₂, i₂, len₂, hc₂, hd₂, hf₂⟩ := hend
    have hW' : U.WarmedH s₂.vm := hW₂
    have hcc : c₂ = c := by
      have h1 : s₂.code? g.method = U.code? g.method := by
        rw [State.code?_eq, State.code?_eq, hW'.alike.method?]
      exact Option.some.inj (hc₂.symm.trans (h1.trans h.code))
    subst hcc
    have hlen : len₂ = len := by rw [hdg] at hd₂; cases hd₂; rfl
    subst hlen
    have hs₂ : s₂ = (({ U with heap := s₂.heap, slotsUsed := s₂.slotsUsed } : State).setVm s₂.vm).setTop { g with pc := g.pc + len₂, stack := v.toList ++ g.stack } := by
      refine e3.trans ?_
      rw [hf₂, State.calling_eq h.top, State.setFrames_setFrames, State.setTop_of_frames _ hr', hr]
      rfl
    have hsame : U.sameButNew ({ U with heap := s₂.heap, slotsUsed := s₂.slotsUsed } : State) L mc ms := by
      refine ⟨?_, q2, q3, q4, q5, q6⟩
      obtain ⟨t, ht, -⟩ := State.frames_cons hr
      show ({ U with heap := s₂.heap, slotsUsed := s₂.slotsUsed } : State) = { U.setFrames U.frames with heap := s₂.heap, slotsUsed := s₂.slotsUsed }
      rw [State.setFrames_self ht]
    subst hg
    refine Or.inl ⟨v, ⟨(({ U with heap := s₂.heap, slotsUsed := s₂.slotsUsed } : State).setVm s₂.vm), Ls ++ L, c0 + mc, s0 + ms⟩,
      ⟨X.admits, X.cas, X.clock, X.frames, X.room, X.hears, X.method, X.code, (X.here.setHeapUsed s₂.heap s₂.slotsUsed).setVm hW'.alike, X.tail, State.WarmedH.trans X.warmed hW', X.limits, X.bytes, X.same.trans (hsame.setVm s.vm)⟩,
      ⟨g, mk, s₂, L, rfl, rfl, hqc, rfl, hL, rfl, rfl⟩, ?_⟩
    show Steps p.tables e below _ ((({ U with heap := s₂.heap, slotsUsed := s₂.slotsUsed } : State).setVm s₂.vm).setTop { g with pc := g.pc + len₂, stack := v.toList ++ g.stack })
    rw [← hs₂]
    exact hsteps
  · obtain ⟨e2, q2, q3, q4, q5, q6⟩ := id hsm
    have e3 : s₂ = ({ (U.calling g mk a).setFrames s₂.frames with heap := s₂.heap, slotsUsed := s₂.slotsUsed } : State).setVm s₂.vm := by
      have : s₂ = ({ s₂ with vm := (U.calling g mk a).vm } : State).setVm s₂.vm := rfl
      rw [e2] at this
      exact this
    have hf₂ : s₂.frames = .throwing q :: .java g :: U.frames.tail := hend
    have hW' : U.WarmedH s₂.vm := hW₂
    have hs₂ : s₂ = ((({ U with heap := s₂.heap, slotsUsed := s₂.slotsUsed } : State).setVm s₂.vm).setTop g).pushFrame (.throwing q) := by
      refine e3.trans ?_
      rw [hf₂, State.calling_eq h.top, State.setFrames_setFrames, State.pushFrame, State.frames_setTop _ hr', State.setTop_of_frames _ hr', State.setFrames_setFrames, hr]
      rfl
    have hsame : U.sameButNew ({ U with heap := s₂.heap, slotsUsed := s₂.slotsUsed } : State) L mc ms := by
      refine ⟨?_, q2, q3, q4, q5, q6⟩
      obtain ⟨t, ht, -⟩ := State.frames_cons hr
      show ({ U with heap := s₂.heap, slotsUsed := s₂.slotsUsed } : State) = { U.setFrames U.frames with heap := s₂.heap, slotsUsed := s₂.slotsUsed }
      rw [State.setFrames_self ht]
    subst hg
    refine Or.inr ⟨q, ⟨(({ U with heap := s₂.heap, slotsUsed := s₂.slotsUsed } : State).setVm s₂.vm), Ls ++ L, c0 + mc, s0 + ms⟩,
      ⟨X.admits, X.cas, X.clock, X.frames, X.room, X.hears, X.method, X.code, (X.here.setHeapUsed s₂.heap s₂.slotsUsed).setVm hW'.alike, X.tail, State.WarmedH.trans X.warmed hW', X.limits, X.bytes, X.same.trans (hsame.setVm s.vm)⟩,
      ⟨g, mk, s₂, L, E, ce, rfl, rfl, hx, hce, hcv, hcl, rfl, hL, rfl, rfl⟩, ?_⟩
    show Steps p.tables e below _ (((({ U with heap := s₂.heap, slotsUsed := s₂.slotsUsed } : State).setVm s₂.vm).setTop g).pushFrame (.throwing q))
    rw [← hs₂]
    exact hsteps
end
variable {p : Program} {l : Launch} {e : Env} {R : Room} {s : State} {m : MethodId} {args : Array Value} {below : List Frame} {meth : Method} {c : Code} {T : State} {H : Heap} {locs : List Loc} {cells slots : Nat}
theorem vx_callVX (X : Stand p l e R s m args below meth c T locs cells slots) (hexec : p.tables.exec = Jvm.exec) {own C : String} {index : Nat} {y : MethodName} {bytes : ByteArray} {maxL : Nat} {ret : Option FieldType} {hh : List (Nat × Nat × Nat × Nat)}
    (hown : s.vm.findClass own = some m.cls) (hlink : (Cond.methodLink own index y).before args s = true) (hinst : (Cond.instanceMethod y).before args s = true) (hsel : (Cond.selects C y y).before args s = true)
    (hcode : (Cond.codeWith y bytes maxL ret hh).before args s = true) (hy : y.cls ≠ "java/lang/invoke/MethodHandle" ∧ y.cls ≠ "java/lang/invoke/VarHandle")
    {W9 : Nat} {Pre : Pt → Array Value → Prop} {Post : Pt → Array Value → Option Value → Pt → Prop} {PostX : Pt → Array Value → Addr → Pt → Prop} (hK : vx_Back l R p e below s args y 3 W9 Pre Post PostX)
    {b : Addr} {cellB : Cell} (hcell : T.heap[b]? = some cellB) (hobj : cellB.vm.isStatics = false) (hcls : s.vm.findClass C = some cellB.cls)
    {g : JFrame} (hg : g.method = m) (hsize : g.locals.size = c.maxLocals) {argsL rest : List Value} (hlen : ∀ sig, parseMethodDescriptor y.desc = some sig → argsL.length = sig.parameters.length)
    (hstack : g.stack = argsL.reverse ++ .ref b :: rest) (hW : 2 * g.monitorRoom + (rest.map fun v => v.category).sum ≤ W9) (hdg : decode c.code g.pc = .ok (.invokevirtual index, 3))
    (hpre : ∀ vm₁, s.WarmedH vm₁ → Pre ⟨T.setVm vm₁, locs, cells, slots⟩ (Value.ref b :: argsL).toArray) :
    (∃ (v : Option Value) (vm₁ : Vm) (B : Pt), s.WarmedH vm₁ ∧ Stand p l e R s m args below meth c B.U B.locs B.cells B.slots ∧ Post ⟨T.setVm vm₁, locs, cells, slots⟩ (Value.ref b :: argsL).toArray v B ∧
      ∀ target, Steps p.tables e below (B.U.setTop { g with pc := g.pc + 3, stack := v.toList ++ rest }) target → Steps p.tables e below (T.setTop g) target) ∨
    (∃ (q : Addr) (vm₁ : Vm) (B : Pt), s.WarmedH vm₁ ∧ Stand p l e R s m args below meth c B.U B.locs B.cells B.slots ∧ PostX ⟨T.setVm vm₁, locs, cells, slots⟩ (Value.ref b :: argsL).toArray q B ∧
      Steps p.tables e below (T.setTop g) ((B.U.setTop { g with stack := rest }).pushFrame (.throwing q))) := by
  obtain ⟨mk, methM, hnamed, hmethM, hstM, habM⟩ := Cond.instanceMethod_spec hinst
  obtain ⟨m8, methM', cM, hn8, hmethM', -, -, -, -, -, -, hsigM⟩ := Cond.codeWith_spec hcode
  cases Option.some.inj (hn8.symm.trans hnamed)
  cases hmethM.symm.trans hmethM'
  obtain ⟨c2, r2, m2, q1, q2, q3, q4, kP, hkP, hkPi⟩ := Cond.selects_spec hsel
  cases hcls.symm.trans q1
  cases (State.methodFound?_of_named hnamed hy).symm.trans q2
  cases hnamed.symm.trans q3
  have hselP : selectMethod e.platform s.vm cellB.cls mk = .method mk := by rw [Launch.admits_selectMethod X.admits]; exact q4
  obtain ⟨vm₁, X₁, hstep₁⟩ := X.invokevirtual hexec hown hlink hnamed hmethM hstM hkP hkPi hy (a := b) (cell := cellB) hcell
    (fun z h => by rw [h] at hobj; cases hobj) hselP hmethM habM hkP hkPi (g := g) hg (argsL := argsL) (rest := rest) (hlen _ hsigM) hstack hdg
  rcases hK m meth c ⟨T.setVm vm₁, locs, cells, slots⟩ { g with stack := rest } (.invokevirtual index) mk (Value.ref b :: argsL).toArray X₁ hg hsize hdg hW (X₁.named hnamed) (hpre vm₁ X₁.warmed) with ⟨v, B, X', hpost, hsteps⟩ | ⟨q, B, X', hpost, hsteps⟩
  · exact Or.inl ⟨v, vm₁, B, X₁.warmed, X', hpost, fun target h => hstep₁ _ fun acts => by rw [doInvoke_state]; exact hsteps.trans h⟩
  · exact Or.inr ⟨q, vm₁, B, X₁.warmed, X', hpost, hstep₁ _ fun acts => by rw [doInvoke_state]; exact hsteps⟩
theorem vx_callSX (X : Stand p l e R s m args below meth c T locs cells slots) (hexec : p.tables.exec = Jvm.exec) {own : String} {index : Nat} {y : MethodName} {bytes : ByteArray} {maxL : Nat} {ret : Option FieldType} {hh : List (Nat × Nat × Nat × Nat)}
    (hown : s.vm.findClass own = some m.cls) (hlink : (Cond.methodLink own index y).before args s = true) (hstat : (Cond.static y).before args s = true) (hinit : (Cond.initialized y.cls).before args s = true)
    (hcode : (Cond.codeWith y bytes maxL ret hh).before args s = true) (hy : y.cls ≠ "java/lang/invoke/MethodHandle" ∧ y.cls ≠ "java/lang/invoke/VarHandle")
    {W9 : Nat} {Pre : Pt → Array Value → Prop} {Post : Pt → Array Value → Option Value → Pt → Prop} {PostX : Pt → Array Value → Addr → Pt → Prop} (hK : vx_Back l R p e below s args y 3 W9 Pre Post PostX)
    {g : JFrame} (hg : g.method = m) (hsize : g.locals.size = c.maxLocals) {argsL rest : List Value} (hlen : ∀ sig, parseMethodDescriptor y.desc = some sig → argsL.length = sig.parameters.length)
    (hstack : g.stack = argsL.reverse ++ rest) (hW : 2 * g.monitorRoom + (rest.map fun v => v.category).sum ≤ W9) (hdg : decode c.code g.pc = .ok (.invokestatic index, 3))
    (hpre : ∀ vm₁, s.WarmedH vm₁ → Pre ⟨T.setVm vm₁, locs, cells, slots⟩ argsL.toArray) :
    (∃ (v : Option Value) (vm₁ : Vm) (B : Pt), s.WarmedH vm₁ ∧ Stand p l e R s m args below meth c B.U B.locs B.cells B.slots ∧ Post ⟨T.setVm vm₁, locs, cells, slots⟩ argsL.toArray v B ∧
      ∀ target, Steps p.tables e below (B.U.setTop { g with pc := g.pc + 3, stack := v.toList ++ rest }) target → Steps p.tables e below (T.setTop g) target) ∨
    (∃ (q : Addr) (vm₁ : Vm) (B : Pt), s.WarmedH vm₁ ∧ Stand p l e R s m args below meth c B.U B.locs B.cells B.slots ∧ PostX ⟨T.setVm vm₁, locs, cells, slots⟩ argsL.toArray q B ∧
      Steps p.tables e below (T.setTop g) ((B.U.setTop { g with stack := rest }).pushFrame (.throwing q))) := by
  obtain ⟨mk, methM, cM, hnamed, hmethM, -, -, -, -, -, -, hsigM⟩ := Cond.codeWith_spec hcode
  have hstatic : methM.isStatic = true := Cond.static_spec hnamed hmethM hstat
  obtain ⟨kP, hkP, -⟩ := className_of_methodNamed hnamed
  have hinitP : kP.init = .initialized := Cond.initialized_spec (findClass_of_methodNamed hnamed) hkP hinit
  obtain ⟨vm₁, X₁, hstep₁⟩ := X.invokestatic hexec hown hlink hnamed hmethM hstatic hkP hinitP hy (g := g) hg (argsL := argsL) (rest := rest) (hlen _ hsigM) hstack hdg
  rcases hK m meth c ⟨T.setVm vm₁, locs, cells, slots⟩ { g with stack := rest } (.invokestatic index) mk argsL.toArray X₁ hg hsize hdg hW (X₁.named hnamed) (hpre vm₁ X₁.warmed) with ⟨v, B, X', hpost, hsteps⟩ | ⟨q, B, X', hpost, hsteps⟩
  · exact Or.inl ⟨v, vm₁, B, X₁.warmed, X', hpost, fun target h => hstep₁ _ fun acts => by rw [doInvoke_state]; exact hsteps.trans h⟩
  · exact Or.inr ⟨q, vm₁, B, X₁.warmed, X', hpost, hstep₁ _ fun acts => by rw [doInvoke_state]; exact hsteps⟩
theorem vx_callVW (X : Stand p l e R s m args below meth c T locs cells slots) (hexec : p.tables.exec = Jvm.exec) {own C : String} {index : Nat} {y : MethodName} {bytes : ByteArray} {maxL : Nat} {ret : Option FieldType} {hh : List (Nat × Nat × Nat × Nat)}
    (hown : s.vm.findClass own = some m.cls) (hlink : (Cond.methodLink own index y).before args s = true) (hinst : (Cond.instanceMethod y).before args s = true) (hsel : (Cond.selects C y y).before args s = true)
    (hcode : (Cond.codeWith y bytes maxL ret hh).before args s = true) (hy : y.cls ≠ "java/lang/invoke/MethodHandle" ∧ y.cls ≠ "java/lang/invoke/VarHandle")
    {W9 : Nat} {Pre : Pt → Array Value → Prop} {Post : Pt → Array Value → Option Value → Pt → Prop} (hK : Back l R p e below s args y 3 W9 Pre Post)
    {b : Addr} {cellB : Cell} (hcell : T.heap[b]? = some cellB) (hobj : cellB.vm.isStatics = false) (hcls : s.vm.findClass C = some cellB.cls)
    {g : JFrame} (hg : g.method = m) (hsize : g.locals.size = c.maxLocals) {argsL rest : List Value} (hlen : ∀ sig, parseMethodDescriptor y.desc = some sig → argsL.length = sig.parameters.length)
    (hstack : g.stack = argsL.reverse ++ .ref b :: rest) (hW : 2 * g.monitorRoom + (rest.map fun v => v.category).sum ≤ W9) (hdg : decode c.code g.pc = .ok (.invokevirtual index, 3))
    (hpre : ∀ vm₁, s.WarmedH vm₁ → Pre ⟨T.setVm vm₁, locs, cells, slots⟩ (Value.ref b :: argsL).toArray) :
    ∃ (v : Option Value) (vm₁ : Vm) (B : Pt), s.WarmedH vm₁ ∧ Stand p l e R s m args below meth c B.U B.locs B.cells B.slots ∧ Post ⟨T.setVm vm₁, locs, cells, slots⟩ (Value.ref b :: argsL).toArray v B ∧
      ∀ target, Steps p.tables e below (B.U.setTop { g with pc := g.pc + 3, stack := v.toList ++ rest }) target → Steps p.tables e below (T.setTop g) target := by
  obtain ⟨mk, methM, hnamed, hmethM, hstM, habM⟩ := Cond.instanceMethod_spec hinst
  obtain ⟨m8, methM', cM, hn8, hmethM', -, -, -, -, -, -, hsigM⟩ := Cond.codeWith_spec hcode
  cases Option.some.inj (hn8.symm.trans hnamed)
  cases hmethM.symm.trans hmethM'
  obtain ⟨c2, r2, m2, q1, q2, q3, q4, kP, hkP, hkPi⟩ := Cond.selects_spec hsel
  cases hcls.symm.trans q1
  cases (State.methodFound?_of_named hnamed hy).symm.trans q2
  cases hnamed.symm.trans q3
  have hselP : selectMethod e.platform s.vm cellB.cls mk = .method mk := by rw [Launch.admits_selectMethod X.admits]; exact q4
  obtain ⟨vm₁, X₁, hstep₁⟩ := X.invokevirtual hexec hown hlink hnamed hmethM hstM hkP hkPi hy (a := b) (cell := cellB) hcell
    (fun z h => by rw [h] at hobj; cases hobj) hselP hmethM habM hkP hkPi (g := g) hg (argsL := argsL) (rest := rest) (hlen _ hsigM) hstack hdg
  obtain ⟨v, B, X', hpost, hsteps⟩ := hK m meth c ⟨T.setVm vm₁, locs, cells, slots⟩ { g with stack := rest } (.invokevirtual index) mk (Value.ref b :: argsL).toArray X₁ hg hsize hdg hW (X₁.named hnamed) (hpre vm₁ X₁.warmed)
  exact ⟨v, vm₁, B, X₁.warmed, X', hpost, fun target h => hstep₁ _ fun acts => by rw [doInvoke_state]; exact hsteps.trans h⟩
abbrev vx_CVW (R : Room) (s : State) (args : Array Value) (own C : String) (index : Nat) (y : MethodName) (bytes : ByteArray) (maxL : Nat) (ret : Option FieldType) (hh : List (Nat × Nat × Nat × Nat)) (ws : List Cond) (rm : Room) (mc ms n : Nat) : Prop :=
  (rm.cells = mc ∧ rm.slots = ms ∧ rm.frames + 1 ≤ R.frames ∧ 8 + (maxL + 11) + rm.locals ≤ R.locals ∧ (∀ w ∈ ws, ∀ (a' : Array Value) (U : State), s.WarmedH U.vm → w.before a' U = true) ∧ Cond.codeWith y bytes maxL ret hh ∈ ws) ∧
  (Cond.codeWith y bytes maxL ret hh).before args s = true ∧ (Cond.initialized y.cls).before args s = true ∧ (y.cls ≠ "java/lang/invoke/MethodHandle" ∧ y.cls ≠ "java/lang/invoke/VarHandle") ∧
  (∀ sig, parseMethodDescriptor y.desc = some sig → n = sig.parameters.length) ∧ (Cond.methodLink own index y).before args s = true ∧ (Cond.instanceMethod y).before args s = true ∧ (Cond.selects C y y).before args s = true
theorem vx_cwVW {own C : String} {index maxL mc ms : Nat} {y : MethodName} {bytes : ByteArray} {ret : Option FieldType} {hh : List (Nat × Nat × Nat × Nat)} {Ts ws ws' : List Cond} {rm : Room} (n : Nat) (ht : ∀ w ∈ Ts, w.before args s = true) (hT : GoodIn Ts (wsV own index C y ws)) (hw : ws = Cond.codeWith y bytes maxL ret hh :: ws') (hrc : rm.cells = mc) (hrs : rm.slots = ms)
    (hd : y.cls = C ∧ y.cls ≠ "java/lang/invoke/MethodHandle" ∧ y.cls ≠ "java/lang/invoke/VarHandle" ∧ (parseMethodDescriptor y.desc).map (fun d => d.parameters.length) = some n) (hR : rm.frames + 1 ≤ R.frames ∧ 8 + (maxL + 11) + rm.locals ≤ R.locals) :
    vx_CVW R s args own C index y bytes maxL ret hh ws rm mc ms n := by
  obtain ⟨hC, hd⟩ := hd
  subst hC
  have ok : ∀ w ∈ wsV own index y.cls y ws, w.before args s = true := fun w h => ht w (hT w h).1
  have hG : GoodIn Ts ws := fun w h => hT w (by unfold wsV; exact List.mem_append_right _ h)
  have hc : Cond.codeWith y bytes maxL ret hh ∈ ws := by rw [hw]; exact List.mem_cons_self
  refine ⟨⟨hrc, hrs, hR.1, hR.2, pay_in ht hG, hc⟩, ht _ (hG _ hc).1, ok _ (by simp [wsV]), ⟨hd.1, hd.2.1⟩, fun sig h => ?_, ok _ (by simp [wsV]), ok _ (by simp [wsV]), ok _ (by simp [wsV])⟩
  have h2 := hd.2.2
  rw [h] at h2
  exact (Option.some.inj h2).symm
theorem vx_runVW {y : MethodName} {bytes cc : ByteArray} {maxL nL mc ms n index : Nat} {ret : Option FieldType} {hh : List (Nat × Nat × Nat × Nat)} {ws : List Cond} {rm : Room} {Pc : Array Value → State → Prop} {Qc : Array Value → State → Outcome → State → Prop} {free : Addr → Prop} {Ts : List Cond} {own C : String} {b : Addr} {As rest : List Value} {g : JFrame}
    (S : CallFix p m c cc nL s args Ts own) (hM : Met l y ws rm Pc Qc mc ms free) (cw : vx_CVW R s args own C index y bytes maxL ret hh ws rm mc ms n) (hp : PreV s H C b Pc As)
    (hg : g.method = m) (hn : As.length = n) (hsize : g.locals.size = nL) (hstack : g.stack = As.reverse ++ .ref b :: rest) (hW : 2 * g.monitorRoom + (rest.map fun v => v.category).sum ≤ 8) (hdg : decode cc g.pc = .ok (.invokevirtual index, 3)) (hf : cells + mc ≤ R.cells ∧ slots + ms ≤ R.slots) :
    va_Run p l e R s m args below meth c H locs cells slots mc ms g rest (Qc (Value.ref b :: As).toArray) free := by
  obtain ⟨⟨hrc, hrs, hfr, hlo, hws, hcw⟩, hcode, hini, hy, hlen, hl, hin, hse⟩ := cw
  have hK : Back l R p e below s args y 3 8 (PreOf R mc ms Pc) (PostOf Qc mc ms free) := va_backW (hh := hh) (bytes := bytes) (maxL := maxL) (ret := ret) hM hp.1 hrc hrs hfr hlo hws hcw (fun a' U hW => word_at hW (Or.inl (by first | rfl | simp [Cond.onTables, Cond.keeps, Cond.steady])) hini)
  obtain ⟨hx, hb, hml, ho, -⟩ := S
  obtain ⟨-, ⟨cellB, hcB, hoB, hclB⟩, hPc⟩ := hp
  intro T hT X
  obtain ⟨v, vm₁, ⟨U', l2, c2, s2⟩, hW₁, X', ⟨g', mk, t, L, e1, e2, hq, h1, hL, h2, h3⟩, st⟩ := vx_callVW X hx (C := C) (hh := hh) (bytes := bytes) (maxL := maxL) (ret := ret) ho hl hin hse hcode hy hK (by rw [hT]; exact hcB) hoB hclB hg (hsize.trans hml.symm) (argsL := As) (rest := rest) (fun sig h => hn.trans (hlen sig h)) hstack hW (by rw [hb]; exact hdg)
    (fun vm₁ hW₁ => ⟨hf.1, hf.2, hPc (T.setVm vm₁) hT hW₁⟩)
  dsimp only [Pt.U, Pt.locs, Pt.cells, Pt.slots] at X' e1 e2 h1 h2 h3 st
  subst h1; subst h2; subst h3
  exact ⟨v, (T.setVm vm₁).calling g' mk (Value.ref b :: As).toArray, t, U', L, hT, X', hL, e1, e2, hq, st⟩
section
variable {y : MethodName} {bytes cc : ByteArray} {maxL nL mc ms n index : Nat} {ret : Option FieldType} {ws : List Cond} {rm : Room} {Pc : Array Value → State → Prop} {Qc : Array Value → State → Outcome → State → Prop} {XC : String → State → State → Prop} {free : Addr → Prop} {Ts : List Cond} {own C : String} {b : Addr} {As rest : List Value} {g : JFrame}
theorem vx_runVX {hh : List (Nat × Nat × Nat × Nat)} (S : CallFix p m c cc nL s args Ts own) (hM : vx_Met l y ws rm Pc Qc XC mc ms free) (cw : vx_CVW R s args own C index y bytes maxL ret hh ws rm mc ms n) (hp : PreV s H C b Pc As)
    (hg : g.method = m) (hn : As.length = n) (hsize : g.locals.size = nL) (hstack : g.stack = As.reverse ++ .ref b :: rest) (hW : 2 * g.monitorRoom + (rest.map fun v => v.category).sum ≤ 8) (hdg : decode cc g.pc = .ok (.invokevirtual index, 3)) (hf : cells + mc ≤ R.cells ∧ slots + ms ≤ R.slots) :
    vx_Run p l e R s m args below meth c H locs cells slots mc ms g rest (Qc (Value.ref b :: As).toArray) XC free := by
  obtain ⟨⟨hrc, hrs, hfr, hlo, hws, hcw⟩, hcode, hini, hy, hlen, hl, hin, hse⟩ := cw
  have hK : vx_Back l R p e below s args y 3 8 (PreOf R mc ms Pc) (PostOf Qc mc ms free) (vx_Post XC mc ms free) := vx_backW (hh := hh) (bytes := bytes) (maxL := maxL) (ret := ret) hM hp.1 hrc hrs hfr hlo hws hcw (fun a' U hW => word_at hW (Or.inl (by first | rfl | simp [Cond.onTables, Cond.keeps, Cond.steady])) hini)
  obtain ⟨hx, hb, hml, ho, -⟩ := S
  obtain ⟨-, ⟨cellB, hcB, hoB, hclB⟩, hPc⟩ := hp
  intro T hT X
  rcases vx_callVX X hx (C := C) (hh := hh) (bytes := bytes) (maxL := maxL) (ret := ret) ho hl hin hse hcode hy hK (by rw [hT]; exact hcB) hoB hclB hg (hsize.trans hml.symm) (argsL := As) (rest := rest) (fun sig h => hn.trans (hlen sig h)) hstack hW (by rw [hb]; exact hdg)
    (fun vm₁ hW₁ => ⟨hf.1, hf.2, hPc (T.setVm vm₁) hT hW₁⟩) with ⟨v, vm₁, ⟨U', l2, c2, s2⟩, hW₁, X', ⟨g', mk, t, L, e1, e2, hq, h1, hL, h2, h3⟩, st⟩ | ⟨q, vm₁, ⟨U', l2, c2, s2⟩, hW₁, X', ⟨g', mk, t, L, E, ce, e1, e2, hq, hce, hcv, hcl, h1, hL, h2, h3⟩, st⟩
  · dsimp only [Pt.U, Pt.locs, Pt.cells, Pt.slots] at X' e1 e2 h1 h2 h3 st
    subst h1; subst h2; subst h3
    exact Or.inl ⟨v, (T.setVm vm₁).calling g' mk (Value.ref b :: As).toArray, t, U', L, hT, X', hL, e1, e2, hq, st⟩
  · dsimp only [Pt.U, Pt.locs, Pt.cells, Pt.slots] at X' e1 e2 h1 h2 h3 st hcl
    subst h1; subst h2; subst h3
    exact Or.inr ⟨q, (T.setVm vm₁).calling g' mk (Value.ref b :: As).toArray, t, U', L, E, ce, hT, X', hL, e1, e2, hq, hce, hcv, vx_cls hW₁ hcl, st⟩
theorem vx_runSX {hh : List (Nat × Nat × Nat × Nat)} (S : CallFix p m c cc nL s args Ts own) (hM : vx_Met l y ws rm Pc Qc XC mc ms free) (cw : vx_CSW R s args own index y bytes maxL ret hh ws rm mc ms n) (hp : PreS s H Pc As)
    (hg : g.method = m) (hn : As.length = n) (hsize : g.locals.size = nL) (hstack : g.stack = As.reverse ++ rest) (hW : 2 * g.monitorRoom + (rest.map fun v => v.category).sum ≤ 8) (hdg : decode cc g.pc = .ok (.invokestatic index, 3)) (hf : cells + mc ≤ R.cells ∧ slots + ms ≤ R.slots) :
    vx_Run p l e R s m args below meth c H locs cells slots mc ms g rest (Qc As.toArray) XC free := by
  obtain ⟨⟨hrc, hrs, hfr, hlo, hws, hcw⟩, hcode, hini, hy, hlen, hl, hstt⟩ := cw
  have hK : vx_Back l R p e below s args y 3 8 (PreOf R mc ms Pc) (PostOf Qc mc ms free) (vx_Post XC mc ms free) := vx_backW (hh := hh) (bytes := bytes) (maxL := maxL) (ret := ret) hM hp.1 hrc hrs hfr hlo hws hcw (fun a' U hW => word_at hW (Or.inl (by first | rfl | simp [Cond.onTables, Cond.keeps, Cond.steady])) hini)
  obtain ⟨hx, hb, hml, ho, -⟩ := S
  intro T hT X
  rcases vx_callSX X hx (hh := hh) (bytes := bytes) (maxL := maxL) (ret := ret) ho hl hstt hini hcode hy hK hg (hsize.trans hml.symm) (argsL := As) (rest := rest) (fun sig h => hn.trans (hlen sig h)) hstack hW (by rw [hb]; exact hdg)
    (fun vm₁ hW₁ => ⟨hf.1, hf.2, hp.2 (T.setVm vm₁) hT hW₁⟩) with ⟨v, vm₁, ⟨U', l2, c2, s2⟩, hW₁, X', ⟨g', mk, t, L, e1, e2, hq, h1, hL, h2, h3⟩, st⟩ | ⟨q, vm₁, ⟨U', l2, c2, s2⟩, hW₁, X', ⟨g', mk, t, L, E, ce, e1, e2, hq, hce, hcv, hcl, h1, hL, h2, h3⟩, st⟩
  · dsimp only [Pt.U, Pt.locs, Pt.cells, Pt.slots] at X' e1 e2 h1 h2 h3 st
    subst h1; subst h2; subst h3
    exact Or.inl ⟨v, (T.setVm vm₁).calling g' mk As.toArray, t, U', L, hT, X', hL, e1, e2, hq, st⟩
  · dsimp only [Pt.U, Pt.locs, Pt.cells, Pt.slots] at X' e1 e2 h1 h2 h3 st hcl
    subst h1; subst h2; subst h3
    exact Or.inr ⟨q, (T.setVm vm₁).calling g' mk As.toArray, t, U', L, E, ce, hT, X', hL, e1, e2, hq, hce, hcv, vx_cls hW₁ hcl, st⟩
end
end VXH
theorem vx_ofWH {l : Launch} {y : MethodName} {ws ws' : List Cond} {rm : Room} {Pc : Array Value → State → Prop} {Qc : Array Value → State → Outcome → State → Prop} {XC : String → State → State → Prop} {mc ms : Nat} {free : Addr → Prop} {cc : ByteArray} {maxL : Nat} {ret : Option FieldType} {hh : List (Nat × Nat × Nat × Nat)}
    (hy : plainName y.cls = true) (hw : ws = Cond.codeWith y cc maxL ret hh :: ws')
    (body : ∀ p e s m args below meth c s₁, BodyLoose p l y (headSpec ws rm) cc maxL ret e s m args below meth c s₁ → c.maxLocals = maxL → Pc args s →
      W p l e (headSpec ws rm).room s m args below meth c s.heap [] 0 0 (vx_MQ below Qc XC args s mc ms free) (entryFrame m args maxL)) : vx_Met l y ws rm Pc Qc XC mc ms free := by
  refine MetFree.of_bodyS (code := cc) (maxLocals := maxL) (ret := ret) hy ?_ ?_
  · intro args s m h hn
    obtain ⟨m9, meth, c, hn9, h1, h2, h3, h4, -, h5, h6, -⟩ := Cond.codeWith_spec (atoms_spec (ws := ws) h _ (by rw [hw]; exact List.mem_cons_self))
    cases hn.symm.trans hn9
    exact ⟨meth, c, h1, h2, h3, h4, h5, h6⟩
  · intro p e s m args below meth c s₁ B hml hP _
    have hh0 : s₁.heap = s.heap := by rw [B.state]; rfl
    obtain ⟨t, a1, o, b1, b2, b3⟩ := body p e s m args below meth c s₁ B hml hP s₁ hh0 (Stand.of_body B)
    exact ⟨t, o, a1, b1, b2, b3⟩
/-! ===== END ===== -/
end
section
abbrev R_T : String := "PortDrawer$Tape"
def F_T : u_T := fun k => match k with
  | _ => ("PortDrawer$Tape", "x", "J", false)
def ft_T : Nat → FieldType := fun k => match k with
  | _ => .long
theorem nok_T : ∀ a, a < 1 → ∀ b, b < 1 → a ≠ b → (F_T a).2.1 ≠ (F_T b).2.1 := by decide +kernel
theorem tok_T : ∀ k, k < 1 → parseFieldDescriptor (F_T k).2.2.1 = some (ft_T k) := by decide +kernel
abbrev R_H : String := "PortDrawer$Harbour"
def F_H : u_T := fun k => match k with
  | 0 => ("PortDrawer$Harbour", "tape", "LPortDrawer$Tape;", true)
  | 1 => ("PortDrawer$Harbour", "kinds", "[I", true)
  | 2 => ("PortDrawer$Harbour", "values", "[I", true)
  | 3 => ("PortDrawer$Harbour", "references", "[I", true)
  | _ => ("PortDrawer$Harbour", "parts", "I", false)
def ft_H : Nat → FieldType := fun k => match k with
  | 0 => .object "PortDrawer$Tape"
  | 1 => .array .int
  | 2 => .array .int
  | 3 => .array .int
  | _ => .int
theorem nok_H : ∀ a, a < 5 → ∀ b, b < 5 → a ≠ b → (F_H a).2.1 ≠ (F_H b).2.1 := by decide +kernel
theorem tok_H : ∀ k, k < 5 → parseFieldDescriptor (F_H k).2.2.1 = some (ft_H k) := by decide +kernel
abbrev R_D : String := "PortDrawer"
def F_D : u_T := fun k => match k with
  | 0 => ("PortDrawer", "seed", "J", true)
  | 1 => ("PortDrawer", "harbour", "LPortDrawer$Harbour;", true)
  | 2 => ("PortDrawer", "otherHarbour", "LPortDrawer$Harbour;", true)
  | 3 => ("PortDrawer", "goingWith", "[J", true)
  | 4 => ("PortDrawer", "partsOfBit", "[J", true)
  | 5 => ("PortDrawer", "staying", "[Z", true)
  | _ => ("PortDrawer", "leftParts", "J", false)
def ft_D : Nat → FieldType := fun k => match k with
  | 0 => .long
  | 1 => .object "PortDrawer$Harbour"
  | 2 => .object "PortDrawer$Harbour"
  | 3 => .array .long
  | 4 => .array .long
  | 5 => .array .boolean
  | _ => .long
theorem nok_D : ∀ a, a < 7 → ∀ b, b < 7 → a ≠ b → (F_D a).2.1 ≠ (F_D b).2.1 := by decide +kernel
theorem tok_D : ∀ k, k < 7 → parseFieldDescriptor (F_D k).2.2.1 = some (ft_D k) := by decide +kernel
abbrev R_M : String := "PortDrawerModel"
def F_M : u_T := fun k => match k with
  | 0 => ("PortDrawerModel", "thrown", "I", false)
  | 1 => ("PortDrawerModel", "seed", "J", true)
  | 2 => ("PortDrawerModel", "tape", "J", false)
  | 3 => ("PortDrawerModel", "parts", "I", false)
  | 4 => ("PortDrawerModel", "kind", "[I", true)
  | 5 => ("PortDrawerModel", "value", "[I", true)
  | 6 => ("PortDrawerModel", "refers", "[I", true)
  | 7 => ("PortDrawerModel", "isLeft", "[Z", true)
  | 8 => ("PortDrawerModel", "stays", "[Z", true)
  | _ => ("PortDrawerModel", "goes", "[Z", true)
def ft_M : Nat → FieldType := fun k => match k with
  | 0 => .int
  | 1 => .long
  | 2 => .long
  | 3 => .int
  | 4 => .array .int
  | 5 => .array .int
  | 6 => .array .int
  | 7 => .array .boolean
  | 8 => .array .boolean
  | _ => .array .boolean
theorem nok_M : ∀ a, a < 10 → ∀ b, b < 10 → a ≠ b → (F_M a).2.1 ≠ (F_M b).2.1 := by decide +kernel
theorem tok_M : ∀ k, k < 10 → parseFieldDescriptor (F_M k).2.2.1 = some (ft_M k) := by decide +kernel
abbrev R_J : String := "java/lang/Long"
abbrev R_L : String := "PortDrawerLaw"
abbrev classes : List vw_C := [(R_T, F_T, 1), (R_H, F_H, 5), (R_D, F_D, 7), (R_M, F_M, 10)]
def tblG : List Cond := lw_tbl.filter goodWord
theorem tblG_in {w : Cond} (h : w ∈ tblG) : w ∈ lw_tbl := (List.mem_filter.mp h).1
theorem tblG_ok {w : Cond} (h : w ∈ tblG) : goodWord w = true := (List.mem_filter.mp h).2
theorem m_t {w : Cond} {i : Nat} (h : tables_1[i]? = some w) (hg : goodWord w = true) : w ∈ tblG := List.mem_filter.mpr ⟨List.mem_append_right _ (List.mem_of_getElem? h), hg⟩
theorem m_s {w : Cond} {i : Nat} (h : (k2_sels lw_privs)[i]? = some w) (hg : goodWord w = true) : w ∈ tblG := List.mem_filter.mpr ⟨List.mem_append_left _ (List.mem_of_getElem? h), hg⟩
theorem lay0_T : ∀ w ∈ u_ws R_T F_T 1, w ∈ tblG := List.forall_mem_cons.mpr ⟨m_t (i := 32) rfl rfl, fun _ h => absurd h List.not_mem_nil⟩
theorem lay_T (c : Cond) : ∀ w ∈ u_ws R_T F_T 1, w ∈ c :: tblG := fun w h => List.mem_cons_of_mem _ (lay0_T w h)
theorem lay0_H : ∀ w ∈ u_ws R_H F_H 5, w ∈ tblG := List.forall_mem_cons.mpr ⟨m_t (i := 44) rfl rfl, List.forall_mem_cons.mpr ⟨m_t (i := 46) rfl rfl, List.forall_mem_cons.mpr ⟨m_t (i := 48) rfl rfl, List.forall_mem_cons.mpr ⟨m_t (i := 50) rfl rfl, List.forall_mem_cons.mpr ⟨m_t (i := 52) rfl rfl, fun _ h => absurd h List.not_mem_nil⟩⟩⟩⟩⟩
theorem lay_H (c : Cond) : ∀ w ∈ u_ws R_H F_H 5, w ∈ c :: tblG := fun w h => List.mem_cons_of_mem _ (lay0_H w h)
theorem lay0_D : ∀ w ∈ u_ws R_D F_D 7, w ∈ tblG := List.forall_mem_cons.mpr ⟨m_t (i := 63) rfl rfl, List.forall_mem_cons.mpr ⟨m_t (i := 65) rfl rfl, List.forall_mem_cons.mpr ⟨m_t (i := 67) rfl rfl, List.forall_mem_cons.mpr ⟨m_t (i := 69) rfl rfl, List.forall_mem_cons.mpr ⟨m_t (i := 71) rfl rfl, List.forall_mem_cons.mpr ⟨m_t (i := 73) rfl rfl, List.forall_mem_cons.mpr ⟨m_t (i := 75) rfl rfl, fun _ h => absurd h List.not_mem_nil⟩⟩⟩⟩⟩⟩⟩
theorem lay_D (c : Cond) : ∀ w ∈ u_ws R_D F_D 7, w ∈ c :: tblG := fun w h => List.mem_cons_of_mem _ (lay0_D w h)
theorem lay0_M : ∀ w ∈ u_ws R_M F_M 10, w ∈ tblG := List.forall_mem_cons.mpr ⟨m_t (i := 346) rfl rfl, List.forall_mem_cons.mpr ⟨m_t (i := 348) rfl rfl, List.forall_mem_cons.mpr ⟨m_t (i := 350) rfl rfl, List.forall_mem_cons.mpr ⟨m_t (i := 352) rfl rfl, List.forall_mem_cons.mpr ⟨m_t (i := 354) rfl rfl, List.forall_mem_cons.mpr ⟨m_t (i := 356) rfl rfl, List.forall_mem_cons.mpr ⟨m_t (i := 358) rfl rfl, List.forall_mem_cons.mpr ⟨m_t (i := 360) rfl rfl, List.forall_mem_cons.mpr ⟨m_t (i := 362) rfl rfl, List.forall_mem_cons.mpr ⟨m_t (i := 364) rfl rfl, fun _ h => absurd h List.not_mem_nil⟩⟩⟩⟩⟩⟩⟩⟩⟩⟩
theorem lay_M (c : Cond) : ∀ w ∈ u_ws R_M F_M 10, w ∈ c :: tblG := fun w h => List.mem_cons_of_mem _ (lay0_M w h)
def NWl : List Cond := [(Jvm.Cond.methodLinkNest "PortDrawer" (9 : Nat) ({ cls := "PortDrawer$Harbour", name := "<init>", desc := "()V" } : Jvm.MethodName) "PortDrawer"), (Jvm.Cond.methodLinkNest "PortDrawer$Harbour" (11 : Nat) ({ cls := "PortDrawer$Tape", name := "<init>", desc := "()V" } : Jvm.MethodName) "PortDrawer"), (Jvm.Cond.fieldLinkNest "PortDrawer" (74 : Nat) "PortDrawer$Harbour" "kinds" "[I" "PortDrawer"), (Jvm.Cond.fieldLinkNest "PortDrawer" (82 : Nat) "PortDrawer$Harbour" "values" "[I" "PortDrawer"), (Jvm.Cond.fieldLinkNest "PortDrawer" (85 : Nat) "PortDrawer$Harbour" "references" "[I" "PortDrawer"), (Jvm.Cond.fieldLinkNest "PortDrawer" (62 : Nat) "PortDrawer$Harbour" "parts" "I" "PortDrawer"), (Jvm.Cond.methodLinkNest "PortDrawer" (78 : Nat) ({ cls := "PortDrawer$Harbour", name := "ofKindAheadOf", desc := "(II)I" } : Jvm.MethodName) "PortDrawer"), (Jvm.Cond.castable "java/lang/IllegalArgumentException" "java/lang/IllegalArgumentException"), (Jvm.Cond.declares ({ cls := "java/lang/RuntimeException", name := "<init>", desc := "()V" } : Jvm.MethodName)), (Jvm.Cond.declares ({ cls := "java/lang/RuntimeException", name := "<init>", desc := "(Ljava/lang/String;)V" } : Jvm.MethodName)), (Jvm.Cond.declares ({ cls := "java/lang/Exception", name := "<init>", desc := "()V" } : Jvm.MethodName)), (Jvm.Cond.declares ({ cls := "java/lang/Exception", name := "<init>", desc := "(Ljava/lang/String;)V" } : Jvm.MethodName)), (Jvm.Cond.declares ({ cls := "java/lang/Throwable", name := "<init>", desc := "()V" } : Jvm.MethodName)), (Jvm.Cond.declares ({ cls := "java/lang/Throwable", name := "<init>", desc := "(Ljava/lang/String;)V" } : Jvm.MethodName)), (Jvm.Cond.methodLinkNest "PortDrawer" (48 : Nat) ({ cls := "PortDrawer$Harbour", name := "fill", desc := "(JI)V" } : Jvm.MethodName) "PortDrawer"), (Jvm.Cond.methodLinkNest "PortDrawer$Harbour" (32 : Nat) ({ cls := "PortDrawer$Tape", name := "rewind", desc := "(J)V" } : Jvm.MethodName) "PortDrawer"), (Jvm.Cond.methodLinkNest "PortDrawer$Harbour" (40 : Nat) ({ cls := "PortDrawer$Tape", name := "numberBelow", desc := "(I)I" } : Jvm.MethodName) "PortDrawer"), (Jvm.Cond.methodLinkNest "PortDrawer$Harbour" (50 : Nat) ({ cls := "PortDrawer", name := "mayRefer", desc := "(II)Z" } : Jvm.MethodName) "PortDrawer"), (Jvm.Cond.methodLinkNest "PortDrawer" (66 : Nat) ({ cls := "PortDrawer$Harbour", name := "has", desc := "(I)Z" } : Jvm.MethodName) "PortDrawer"), (Jvm.Cond.methodLinkNest "PortDrawer" (99 : Nat) ({ cls := "PortDrawer$Harbour", name := "isFittingAct", desc := "(I)Z" } : Jvm.MethodName) "PortDrawer"), (Jvm.Cond.castable "java/lang/IndexOutOfBoundsException" "java/lang/IndexOutOfBoundsException"), (Jvm.Cond.methodLinkNest "PortDrawer" (94 : Nat) ({ cls := "PortDrawer$Harbour", name := "isAct", desc := "(I)Z" } : Jvm.MethodName) "PortDrawer"), (Jvm.Cond.methodLinkNest "PortDrawer" (125 : Nat) ({ cls := "PortDrawer$Harbour", name := "isLike", desc := "(LPortDrawer$Harbour;)Z" } : Jvm.MethodName) "PortDrawer")]
def txl : List (Nat × String) := [(43, "the size is not 0 .. 40"), (71, "no such part"), (92, "no such what"), (97, "no such act"), (123, "no such part is left")]
theorem big_w {c : Cond} : ∀ w ∈ tblG, w ∈ c :: tblG := fun _ h => List.mem_cons_of_mem _ h
theorem g_c {big : List Cond} (hb : ∀ w ∈ tblG, w ∈ big) {c : Cond} (hc : c ∈ tblG) : GoodIn big (c :: tblG) := fun w h => (List.mem_cons.mp h).elim (fun e => ⟨hb w (e ▸ hc), good_of_word (tblG_ok (e ▸ hc))⟩) (fun h => ⟨hb w h, good_of_word (tblG_ok h)⟩)
theorem g_1 {big : List Cond} (hb : ∀ w ∈ tblG, w ∈ big) {c : Cond} {ws : List Cond} (hc : c ∈ tblG) (h : GoodIn big ws) : GoodIn big (c :: ws) := fun w hw => (List.mem_cons.mp hw).elim (fun e => ⟨hb w (e ▸ hc), good_of_word (tblG_ok (e ▸ hc))⟩) (h w)
theorem g_V {big : List Cond} (hb : ∀ w ∈ tblG, w ∈ big) {own : String} {idx : Nat} {C : String} {y : MethodName} {c : Cond} (h1 : Cond.methodLink own idx y ∈ tblG) (h2 : Cond.instanceMethod y ∈ tblG) (h3 : Cond.selects C y y ∈ tblG) (h4 : Cond.initialized C ∈ tblG) (hc : c ∈ tblG) : GoodIn big (wsV own idx C y (c :: tblG)) := g_1 hb h1 (g_1 hb h2 (g_1 hb h3 (g_1 hb h4 (g_c hb hc))))
theorem g_S {big : List Cond} (hb : ∀ w ∈ tblG, w ∈ big) {own : String} {idx : Nat} {y : MethodName} {c : Cond} (h1 : Cond.methodLink own idx y ∈ tblG) (h2 : Cond.static y ∈ tblG) (h4 : Cond.initialized y.cls ∈ tblG) (hc : c ∈ tblG) : GoodIn big (va_wsS own idx y (c :: tblG)) := g_1 hb h1 (g_1 hb h2 (g_1 hb h4 (g_c hb hc)))
abbrev b_J_bitCount : ByteArray := prog_9_method_50_code
abbrev y_J_bitCount : MethodName := ⟨"java/lang/Long", "bitCount", "(J)I"⟩
abbrev w_J_bitCount : List Cond := .code y_J_bitCount b_J_bitCount 2 (Option.some Jvm.ClassFile.FieldType.int) :: tblG
abbrev b_T_init : ByteArray := prog_3_method_1_code
abbrev y_T_init : MethodName := ⟨"PortDrawer$Tape", "<init>", "()V"⟩
abbrev w_T_init : List Cond := .code y_T_init b_T_init 1 (Option.none : Option Jvm.ClassFile.FieldType) :: tblG
abbrev b_T_rewind : ByteArray := prog_3_method_2_code
abbrev y_T_rewind : MethodName := ⟨"PortDrawer$Tape", "rewind", "(J)V"⟩
abbrev w_T_rewind : List Cond := .code y_T_rewind b_T_rewind 3 (Option.none : Option Jvm.ClassFile.FieldType) :: tblG
abbrev b_T_numberBelow : ByteArray := prog_3_method_3_code
abbrev y_T_numberBelow : MethodName := ⟨"PortDrawer$Tape", "numberBelow", "(I)I"⟩
abbrev w_T_numberBelow : List Cond := .code y_T_numberBelow b_T_numberBelow 2 (Option.some Jvm.ClassFile.FieldType.int) :: tblG
abbrev b_H_init : ByteArray := prog_2_method_1_code
abbrev y_H_init : MethodName := ⟨"PortDrawer$Harbour", "<init>", "()V"⟩
abbrev w_H_init : List Cond := .code y_H_init b_H_init 1 (Option.none : Option Jvm.ClassFile.FieldType) :: tblG
abbrev b_D_mayRefer : ByteArray := prog_1_method_24_code
abbrev y_D_mayRefer : MethodName := ⟨"PortDrawer", "mayRefer", "(II)Z"⟩
abbrev w_D_mayRefer : List Cond := .code y_D_mayRefer b_D_mayRefer 2 (Option.some Jvm.ClassFile.FieldType.boolean) :: tblG
abbrev b_H_has : ByteArray := prog_2_method_6_code
abbrev y_H_has : MethodName := ⟨"PortDrawer$Harbour", "has", "(I)Z"⟩
abbrev w_H_has : List Cond := .code y_H_has b_H_has 2 (Option.some Jvm.ClassFile.FieldType.boolean) :: tblG
abbrev b_H_isAct : ByteArray := prog_2_method_7_code
abbrev y_H_isAct : MethodName := ⟨"PortDrawer$Harbour", "isAct", "(I)Z"⟩
abbrev w_H_isAct : List Cond := .code y_H_isAct b_H_isAct 2 (Option.some Jvm.ClassFile.FieldType.boolean) :: tblG
abbrev b_H_isFittingAct : ByteArray := prog_2_method_8_code
abbrev y_H_isFittingAct : MethodName := ⟨"PortDrawer$Harbour", "isFittingAct", "(I)Z"⟩
abbrev w_H_isFittingAct : List Cond := .code y_H_isFittingAct b_H_isFittingAct 3 (Option.some Jvm.ClassFile.FieldType.boolean) :: tblG
abbrev b_H_ofKindAheadOf : ByteArray := prog_2_method_9_code
abbrev y_H_ofKindAheadOf : MethodName := ⟨"PortDrawer$Harbour", "ofKindAheadOf", "(II)I"⟩
abbrev w_H_ofKindAheadOf : List Cond := .code y_H_ofKindAheadOf b_H_ofKindAheadOf 5 (Option.some Jvm.ClassFile.FieldType.int) :: tblG
abbrev b_H_partsToReferTo : ByteArray := prog_2_method_5_code
abbrev y_H_partsToReferTo : MethodName := ⟨"PortDrawer$Harbour", "partsToReferTo", "(I)I"⟩
abbrev w_H_partsToReferTo : List Cond := .code y_H_partsToReferTo b_H_partsToReferTo 4 (Option.some Jvm.ClassFile.FieldType.int) :: tblG
abbrev b_H_drawReference : ByteArray := prog_2_method_4_code
abbrev y_H_drawReference : MethodName := ⟨"PortDrawer$Harbour", "drawReference", "(I)I"⟩
abbrev w_H_drawReference : List Cond := .code y_H_drawReference b_H_drawReference 5 (Option.some Jvm.ClassFile.FieldType.int) :: tblG
abbrev b_H_addPart : ByteArray := prog_2_method_3_code
abbrev y_H_addPart : MethodName := ⟨"PortDrawer$Harbour", "addPart", "(I)V"⟩
abbrev w_H_addPart : List Cond := .code y_H_addPart b_H_addPart 2 (Option.none : Option Jvm.ClassFile.FieldType) :: tblG
abbrev b_H_fill : ByteArray := prog_2_method_2_code
abbrev y_H_fill : MethodName := ⟨"PortDrawer$Harbour", "fill", "(JI)V"⟩
abbrev w_H_fill : List Cond := .code y_H_fill b_H_fill 5 (Option.none : Option Jvm.ClassFile.FieldType) :: tblG
abbrev b_H_isLike : ByteArray := prog_2_method_10_code
abbrev y_H_isLike : MethodName := ⟨"PortDrawer$Harbour", "isLike", "(LPortDrawer$Harbour;)Z"⟩
abbrev w_H_isLike : List Cond := .code y_H_isLike b_H_isLike 3 (Option.some Jvm.ClassFile.FieldType.boolean) :: tblG
abbrev b_D_isIn : ByteArray := prog_1_method_22_code
abbrev y_D_isIn : MethodName := ⟨"PortDrawer", "isIn", "(JI)Z"⟩
abbrev w_D_isIn : List Cond := .code y_D_isIn b_D_isIn 3 (Option.some Jvm.ClassFile.FieldType.boolean) :: tblG
abbrev b_D_isSize : ByteArray := prog_1_method_23_code
abbrev y_D_isSize : MethodName := ⟨"PortDrawer", "isSize", "(I)Z"⟩
abbrev w_D_isSize : List Cond := .code y_D_isSize b_D_isSize 1 (Option.some Jvm.ClassFile.FieldType.boolean) :: tblG
abbrev b_D_allParts : ByteArray := prog_1_method_15_code
abbrev y_D_allParts : MethodName := ⟨"PortDrawer", "allParts", "()J"⟩
abbrev w_D_allParts : List Cond := .code y_D_allParts b_D_allParts 1 (Option.some Jvm.ClassFile.FieldType.long) :: tblG
abbrev b_D_leftWithout : ByteArray := prog_1_method_16_code
abbrev y_D_leftWithout : MethodName := ⟨"PortDrawer", "leftWithout", "(I)J"⟩
abbrev w_D_leftWithout : List Cond := .code y_D_leftWithout b_D_leftWithout 2 (Option.some Jvm.ClassFile.FieldType.long) :: tblG
abbrev b_D_verdictOf : ByteArray := prog_1_method_18_code
abbrev y_D_verdictOf : MethodName := ⟨"PortDrawer", "verdictOf", "(J)I"⟩
abbrev w_D_verdictOf : List Cond := .code y_D_verdictOf b_D_verdictOf 5 (Option.some Jvm.ClassFile.FieldType.int) :: tblG
abbrev b_D_staysWith : ByteArray := prog_1_method_17_code
abbrev y_D_staysWith : MethodName := ⟨"PortDrawer", "staysWith", "(J)Z"⟩
abbrev w_D_staysWith : List Cond := .code y_D_staysWith b_D_staysWith 3 (Option.some Jvm.ClassFile.FieldType.boolean) :: tblG
abbrev b_D_firstThatMayGo : ByteArray := prog_1_method_19_code
abbrev y_D_firstThatMayGo : MethodName := ⟨"PortDrawer", "firstThatMayGo", "()I"⟩
abbrev w_D_firstThatMayGo : List Cond := .code y_D_firstThatMayGo b_D_firstThatMayGo 4 (Option.some Jvm.ClassFile.FieldType.int) :: tblG
abbrev b_D_verdictsThatStay : ByteArray := prog_1_method_14_code
abbrev y_D_verdictsThatStay : MethodName := ⟨"PortDrawer", "verdictsThatStay", "()I"⟩
abbrev w_D_verdictsThatStay : List Cond := .code y_D_verdictsThatStay b_D_verdictsThatStay 3 (Option.some Jvm.ClassFile.FieldType.int) :: tblG
abbrev b_D_countOfKind : ByteArray := prog_1_method_13_code
abbrev y_D_countOfKind : MethodName := ⟨"PortDrawer", "countOfKind", "(I)I"⟩
abbrev w_D_countOfKind : List Cond := .code y_D_countOfKind b_D_countOfKind 2 (Option.some Jvm.ClassFile.FieldType.int) :: tblG
abbrev b_D_now : ByteArray := prog_1_method_6_code
abbrev y_D_now : MethodName := ⟨"PortDrawer", "now", "()I"⟩
abbrev w_D_now : List Cond := .code y_D_now b_D_now 1 (Option.some Jvm.ClassFile.FieldType.int) :: tblG
abbrev b_D_left : ByteArray := prog_1_method_8_code
abbrev y_D_left : MethodName := ⟨"PortDrawer", "left", "(I)I"⟩
abbrev w_D_left : List Cond := .code y_D_left b_D_left 4 (Option.some Jvm.ClassFile.FieldType.int) :: tblG
abbrev b_D_minimal : ByteArray := prog_1_method_9_code
abbrev y_D_minimal : MethodName := ⟨"PortDrawer", "minimal", "()Z"⟩
abbrev w_D_minimal : List Cond := .code y_D_minimal b_D_minimal 1 (Option.some Jvm.ClassFile.FieldType.boolean) :: tblG
abbrev b_D_verdict : ByteArray := prog_1_method_5_code
abbrev y_D_verdict : MethodName := ⟨"PortDrawer", "verdict", "(IZ)Z"⟩
abbrev w_D_verdict : List Cond := .code y_D_verdict b_D_verdict 3 (Option.some Jvm.ClassFile.FieldType.boolean) :: tblG
abbrev b_D_noteGoingWith : ByteArray := prog_1_method_20_code
abbrev y_D_noteGoingWith : MethodName := ⟨"PortDrawer", "noteGoingWith", "()V"⟩
abbrev w_D_noteGoingWith : List Cond := .code y_D_noteGoingWith b_D_noteGoingWith 3 (Option.none : Option Jvm.ClassFile.FieldType) :: tblG
abbrev b_D_notePartsOfBits : ByteArray := prog_1_method_21_code
abbrev y_D_notePartsOfBits : MethodName := ⟨"PortDrawer", "notePartsOfBits", "()V"⟩
abbrev w_D_notePartsOfBits : List Cond := .code y_D_notePartsOfBits b_D_notePartsOfBits 3 (Option.none : Option Jvm.ClassFile.FieldType) :: tblG
abbrev b_D_shorter : ByteArray := prog_1_method_7_code
abbrev y_D_shorter : MethodName := ⟨"PortDrawer", "shorter", "()I"⟩
abbrev w_D_shorter : List Cond := .code y_D_shorter b_D_shorter 3 (Option.some Jvm.ClassFile.FieldType.int) :: tblG
abbrev b_D_count : ByteArray := prog_1_method_12_code
abbrev y_D_count : MethodName := ⟨"PortDrawer", "count", "(I)I"⟩
abbrev w_D_count : List Cond := .code y_D_count b_D_count 2 (Option.some Jvm.ClassFile.FieldType.int) :: tblG
abbrev b_D_draw : ByteArray := prog_1_method_2_code
abbrev y_D_draw : MethodName := ⟨"PortDrawer", "draw", "(I)I"⟩
abbrev w_D_draw : List Cond := .code y_D_draw b_D_draw 2 (Option.some Jvm.ClassFile.FieldType.int) :: tblG
abbrev b_D_part : ByteArray := prog_1_method_3_code
abbrev y_D_part : MethodName := ⟨"PortDrawer", "part", "(II)I"⟩
abbrev w_D_part : List Cond := .code y_D_part b_D_part 3 (Option.some Jvm.ClassFile.FieldType.int) :: tblG
abbrev b_D_fits : ByteArray := prog_1_method_4_code
abbrev y_D_fits : MethodName := ⟨"PortDrawer", "fits", "(I)Z"⟩
abbrev w_D_fits : List Cond := .code y_D_fits b_D_fits 2 (Option.some Jvm.ClassFile.FieldType.boolean) :: tblG
abbrev b_D_without : ByteArray := prog_1_method_10_code
abbrev y_D_without : MethodName := ⟨"PortDrawer", "without", "(I)I"⟩
abbrev w_D_without : List Cond := .code y_D_without b_D_without 3 (Option.some Jvm.ClassFile.FieldType.int) :: tblG
abbrev b_D_same : ByteArray := prog_1_method_11_code
abbrev y_D_same : MethodName := ⟨"PortDrawer", "same", "(JI)Z"⟩
abbrev w_D_same : List Cond := .code y_D_same b_D_same 4 (Option.some Jvm.ClassFile.FieldType.boolean) :: tblG
abbrev b_D_init : ByteArray := prog_1_method_1_code
abbrev y_D_init : MethodName := ⟨"PortDrawer", "<init>", "(J)V"⟩
abbrev w_D_init : List Cond := .code y_D_init b_D_init 3 (Option.none : Option Jvm.ClassFile.FieldType) :: tblG
end
section
/-! FORMS OF CONTRACTS: readers (ro), writers (wr), those that may throw (wx). NWl: words across nests and casts; TX: the texts of the exceptions -/
def nk9 : Cond → Bool
  | .fieldLinkNest .. => true
  | .methodLinkNest .. => true
  | .castable .. => true
  | .declares .. => true
  | _ => false
theorem nk9_warm {w : Cond} {s U : State} (hk : nk9 w = true) (hW : s.WarmedH U.vm) (h : va_Nw w s) : va_Nw w U := by
  cases w <;> first | exact va_Nw.warmF hW h | exact va_Nw.warmM hW h | exact va_Nw.warmC hW h | exact va_Nw.warmD hW h | (exfalso; simp [nk9] at hk)
theorem NWl_k : ∀ w ∈ NWl, nk9 w = true := by decide +kernel
theorem NWl_t : ∀ w ∈ NWl, w.onTables = true := by decide +kernel
def NW (U : State) : Prop := ∀ w ∈ NWl, va_Nw w U
theorem NW.same {u U : State} (h : u.vm = U.vm) (hN : NW u) : NW U := fun w hw => va_Nw.same (NWl_t w hw) h (hN w hw)
theorem NW.warm {s U : State} (hW : s.WarmedH U.vm) (hN : NW s) : NW U := fun w hw => nk9_warm (NWl_k w hw) hW (hN w hw)
theorem NW.use {U : State} {A : Array Value} (hN : NW U) {w : Cond} (hw : w ∈ NWl) : w.before A U = true := va_Nw.use (NWl_t w hw) (hN w hw)
def TX (sa : Nat → Nat) (U : State) : Prop := ∀ q ∈ txl, vk_R R_D q.1 q.2 (sa q.1) U
theorem TX.same {sa : Nat → Nat} {u U : State} (h : U.vm = u.vm) (hT : TX sa u) : TX sa U := fun q hq => vk_R.same h (hT q hq)
theorem TX.warm {sa : Nat → Nat} {s U : State} (hW : s.WarmedH U.vm) (hT : TX sa s) : TX sa U := fun q hq => vk_R.warm hW (hT q hq)
section Forms
variable {dC : Nat → ClassId} {dI : Nat → Nat → Nat} {s : State} {H : Heap} {ws : va_W} {tys : List (ClassId × FieldType)} {C : String} {b : Addr} {As : List Value}
abbrev ro_P (dC : Nat → ClassId) (dI : Nat → Nat → Nat) (av : List Value) (ws : va_W) (tys : List (ClassId × FieldType)) : Array Value → State → Prop :=
  va_Pc av (fun U => va_P (dC, dI) classes ws U.heap ∧ va_K (dC, dI) classes tys U ∧ NW U)
theorem ro_blind {av : List Value} : FrameBlind (ro_P dC dI av ws tys) := fun a U g mk q => by
  obtain ⟨q0, qP, qK, qN⟩ := q
  exact ⟨q0, qP, va_K.moved (u := U) (U := U.calling g mk a) (Vm.Alike.refl U.vm) qK, NW.same (u := U) (U := U.calling g mk a) rfl qN⟩
theorem ro_V (hP : va_P (dC, dI) classes ws H) (hK : va_K (dC, dI) classes tys s) (hN : NW s) (hr : ∃ cellB : Cell, H[b]? = some cellB ∧ cellB.vm.isStatics = false ∧ s.vm.findClass C = some cellB.cls) : PreV s H C b (ro_P dC dI (.ref b :: As) ws tys) As :=
  ⟨ro_blind, hr, fun U hU hW => ⟨rfl, by rw [hU]; exact hP, va_K.moved hW.alike hK, NW.warm hW hN⟩⟩
theorem ro_S (hP : va_P (dC, dI) classes ws H) (hK : va_K (dC, dI) classes tys s) (hN : NW s) : PreS s H (ro_P dC dI As ws tys) As :=
  ⟨ro_blind, fun U hU hW => ⟨rfl, by rw [hU]; exact hP, va_K.moved hW.alike hK, NW.warm hW hN⟩⟩
abbrev wr_P (dC : Nat → ClassId) (dI : Nat → Nat → Nat) (av : List Value) (ws : va_W) (tys : List (ClassId × FieldType)) (sz : Nat) : Array Value → State → Prop :=
  va_Pc av (fun U => U.heap.size = sz ∧ va_P (dC, dI) classes ws U.heap ∧ va_K (dC, dI) classes tys U ∧ va_D (fun _ => True) ws ∧ NW U)
abbrev wr_B (dC : Nat → ClassId) (dI : Nat → Nat → Nat) (A : Nat → Prop) (ws : va_W) (tys : List (ClassId × FieldType)) (t : State) : Prop :=
  va_P (dC, dI) classes ws t.heap ∧ va_K (dC, dI) classes tys t ∧ va_D A ws
theorem wr_blind {av : List Value} {sz : Nat} : FrameBlind (wr_P dC dI av ws tys sz) := fun a U g mk q => by
  obtain ⟨q0, q1, qP, qK, qD, qN⟩ := q
  exact ⟨q0, q1, qP, va_K.moved (u := U) (U := U.calling g mk a) (Vm.Alike.refl U.vm) qK, qD, NW.same (u := U) (U := U.calling g mk a) rfl qN⟩
theorem wr_V {A : Nat → Prop} (hP : va_P (dC, dI) classes ws H) (hK : va_K (dC, dI) classes tys s) (hD : va_D A ws) (hN : NW s) (hr : ∃ cellB : Cell, H[b]? = some cellB ∧ cellB.vm.isStatics = false ∧ s.vm.findClass C = some cellB.cls) : PreV s H C b (wr_P dC dI (.ref b :: As) ws tys H.size) As :=
  ⟨wr_blind, hr, fun U hU hW => ⟨rfl, by rw [hU], by rw [hU]; exact hP, va_K.moved hW.alike hK, hD.weaken (fun _ _ _ _ => trivial), NW.warm hW hN⟩⟩
theorem wr_S {A : Nat → Prop} (hP : va_P (dC, dI) classes ws H) (hK : va_K (dC, dI) classes tys s) (hD : va_D A ws) (hN : NW s) : PreS s H (wr_P dC dI As ws tys H.size) As :=
  ⟨wr_blind, fun U hU hW => ⟨rfl, by rw [hU], by rw [hU]; exact hP, va_K.moved hW.alike hK, hD.weaken (fun _ _ _ _ => trivial), NW.warm hW hN⟩⟩
abbrev zqU (A : Nat → Prop) (U : State) (H : Heap) : Prop := vx_Zq Bundle.tN "UNASSIGNED_STACK" Bundle.steD A U H ∧ vx_Zq Bundle.tN "SUPPRESSED_SENTINEL" Bundle.listD A U H
abbrev wx_P (dC : Nat → ClassId) (dI : Nat → Nat → Nat) (av : List Value) (ws : va_W) (tys : List (ClassId × FieldType)) (sa : Nat → Nat) (sz : Nat) : Array Value → State → Prop :=
  va_Pc av (fun U => U.heap.size = sz ∧ va_P (dC, dI) classes ws U.heap ∧ va_K (dC, dI) classes tys U ∧ va_D (fun _ => True) ws ∧ NW U ∧ TX sa U ∧ zqU (va_A ws sz) U U.heap)
theorem wx_blind {av : List Value} {sz : Nat} {sa : Nat → Nat} : FrameBlind (wx_P dC dI av ws tys sa sz) := fun a U g mk q => by
  obtain ⟨q0, q1, qP, qK, qD, qN, qT, qU, qZ⟩ := q
  exact ⟨q0, q1, qP, va_K.moved (u := U) (U := U.calling g mk a) (Vm.Alike.refl U.vm) qK, qD, NW.same (u := U) (U := U.calling g mk a) rfl qN, TX.same (u := U) (U := U.calling g mk a) rfl qT, vx_Zq.moved (u := U) (U := U.calling g mk a) (Vm.Alike.refl U.vm) qU, vx_Zq.moved (u := U) (U := U.calling g mk a) (Vm.Alike.refl U.vm) qZ⟩
theorem zq_go {A : Nat → Prop} {H0 : Heap} {locs : List Loc} {U : State} (h : zqU A s H0) (hS : va_S A H0 H locs) (hF : ∀ q, va_A ws H.size q → A q) (hU : U.heap = H) (hW : s.WarmedH U.vm) : zqU (va_A ws H.size) U U.heap := by
  rw [hU]
  exact ⟨((vx_Zq.kept h.1 (fun a h1 h2 => hS.2.1 a h1 h2)).narrow hF).moved hW.alike, ((vx_Zq.kept h.2 (fun a h1 h2 => hS.2.1 a h1 h2)).narrow hF).moved hW.alike⟩
theorem wx_V {A : Nat → Prop} {sa : Nat → Nat} {H0 : Heap} {locs : List Loc} (hP : va_P (dC, dI) classes ws H) (hK : va_K (dC, dI) classes tys s) (hD : va_D A ws) (hN : NW s) (hT : TX sa s) (hZ : zqU A s H0) (hS : va_S A H0 H locs) (hF : ∀ q, va_A ws H.size q → A q) (hr : ∃ cellB : Cell, H[b]? = some cellB ∧ cellB.vm.isStatics = false ∧ s.vm.findClass C = some cellB.cls) : PreV s H C b (wx_P dC dI (.ref b :: As) ws tys sa H.size) As :=
  ⟨wx_blind, hr, fun U hU hW => ⟨rfl, by rw [hU], by rw [hU]; exact hP, va_K.moved hW.alike hK, hD.weaken (fun _ _ _ _ => trivial), NW.warm hW hN, TX.warm hW hT, zq_go hZ hS hF hU hW⟩⟩
theorem wx_S {A : Nat → Prop} {sa : Nat → Nat} {H0 : Heap} {locs : List Loc} (hP : va_P (dC, dI) classes ws H) (hK : va_K (dC, dI) classes tys s) (hD : va_D A ws) (hN : NW s) (hT : TX sa s) (hZ : zqU A s H0) (hS : va_S A H0 H locs) (hF : ∀ q, va_A ws H.size q → A q) : PreS s H (wx_P dC dI As ws tys sa H.size) As :=
  ⟨wx_blind, fun U hU hW => ⟨rfl, by rw [hU], by rw [hU]; exact hP, va_K.moved hW.alike hK, hD.weaken (fun _ _ _ _ => trivial), NW.warm hW hN, TX.warm hW hT, zq_go hZ hS hF hU hW⟩⟩
abbrev wx_X (dC : Nat → ClassId) (dI : Nat → Nat → Nat) (E9 : String) (A : Nat → Prop) (ws : va_W) (tys : List (ClassId × FieldType)) : String → State → State → Prop :=
  vx_X (fun _ : Unit => True) (fun E (_ : Unit) t => E = E9 ∧ wr_B dC dI A ws tys t) A
end Forms
theorem hat_ok {args : Array Value} {s : State} {c : Cond} {L : List Cond} (hts : ∀ w ∈ c :: tblG, w.before args s = true) (hN : NW s) (h1 : ∀ w ∈ L.filter goodWord, w ∈ lw_tbl) (h2 : ∀ w ∈ L.filter (fun w => !goodWord w), w ∈ NWl) : ∀ w ∈ L, w.before args s = true := by
  intro w hw
  cases hg : goodWord w
  · exact hN.use (h2 w (List.mem_filter.mpr ⟨hw, by rw [hg]; rfl⟩))
  · exact hts w (List.mem_cons_of_mem _ (List.mem_filter.mpr ⟨h1 w (List.mem_filter.mpr ⟨hw, hg⟩), hg⟩))
end
section
/-! PURE: booleans as ints, counting, the first place, choices -/
def bI (b : Bool) : Int32 := cond b (nI 1) (nI 0)
theorem bI_t {b : Bool} (h : ¬ bI b = 0) : b = true := by
  cases b
  · exact absurd rfl h
  · rfl
theorem bI_f {b : Bool} (h : bI b = 0) : b = false := by
  cases b
  · rfl
  · exact absurd h (by decide)
theorem bI_nar (b : Bool) : narrow .boolean (.int (bI b)) = .int (bI b) := by cases b <;> rfl
theorem bI_fit (b : Bool) : fits .boolean (.int (bI b)) = true := by cases b <;> rfl
theorem bI_vp (b : Bool) : vp_nar .boolean (bI b) = bI b := by cases b <;> rfl
theorem bI_inj {a b : Bool} : bI a = bI b ↔ a = b := by
  cases a <;> cases b <;> simp [bI] <;> decide
theorem lc_eq {x y : Int64} : lg_cmp x y = 0 ↔ x = y := by
  unfold lg_cmp
  by_cases h1 : x > y
  · rw [if_pos h1]
    refine ⟨fun h => absurd h (by decide), fun h => ?_⟩
    subst h
    exact absurd h1 Int64.lt_irrefl
  · rw [if_neg h1]
    by_cases h2 : x = y
    · rw [if_pos h2]; exact ⟨fun _ => h2, fun _ => rfl⟩
    · rw [if_neg h2]; exact ⟨fun h => absurd h (by decide), fun h => absurd h h2⟩
theorem nI_z {a : Nat} (h : a < 2 ^ 31) : nI a = 0 ↔ a = 0 := by
  rw [← nI_0, nI_eq h (by omega)]
theorem sw_eq {x y : Int32} {k : Int} (h : x.toInt = k) (h2 : y.toInt = k) : x = y := Int32.toInt_inj.mp (h.trans h2.symm)
def bF (S : Nat → Bool) : Nat → Int32 := fun j => bI (S j)
def uB (S : Nat → Bool) (k : Nat) (b : Bool) : Nat → Bool := fun j => if j = k then b else S j
theorem bF_up (S : Nat → Bool) (k : Nat) (b : Bool) : upd (bF S) k (bI b) = bF (uB S k b) := by
  funext j
  unfold upd bF uB
  by_cases h : j = k <;> simp [h]
/-- how many places below n have P -/
def cnt (P : Nat → Bool) : Nat → Nat
  | 0 => 0
  | n + 1 => cnt P n + (P n).toNat
theorem cnt_t {P : Nat → Bool} {n : Nat} (h : P n = true) : cnt P (n + 1) = cnt P n + 1 := by simp [cnt, h]
theorem cnt_f {P : Nat → Bool} {n : Nat} (h : P n = false) : cnt P (n + 1) = cnt P n := by simp [cnt, h]
theorem cnt_le (P : Nat → Bool) : ∀ n, cnt P n ≤ n
  | 0 => Nat.le_refl 0
  | n + 1 => by
    have h := cnt_le P n
    cases hp : P n
    · rw [cnt_f hp]; omega
    · rw [cnt_t hp]; omega
theorem cnt_mono (P : Nat → Bool) {a : Nat} : ∀ {n}, a ≤ n → cnt P a ≤ cnt P n := by
  intro n h
  induction n with
  | zero => rw [Nat.le_zero.mp h]; exact Nat.le_refl _
  | succ n ih =>
    rcases Nat.lt_or_ge n a with q | q
    · have : a = n + 1 := by omega
      rw [this]; exact Nat.le_refl _
    · exact Nat.le_trans (ih q) (Nat.le_add_right (cnt P n) (P n).toNat)
theorem cnt_congr {P Q : Nat → Bool} : ∀ {n}, (∀ j, j < n → P j = Q j) → cnt P n = cnt Q n
  | 0, _ => rfl
  | n + 1, h => by
    unfold cnt
    rw [cnt_congr (n := n) (fun j hj => h j (by omega)), h n (by omega)]
theorem cnt_all {n : Nat} : ∀ {P : Nat → Bool}, (∀ j, j < n → P j = true) → cnt P n = n := by
  intro P h
  induction n with
  | zero => rfl
  | succ n ih => rw [cnt_t (h n (by omega)), ih (fun j hj => h j (by omega))]
theorem cnt_0 {n : Nat} : ∀ {P : Nat → Bool}, (∀ j, j < n → P j = false) → cnt P n = 0 := by
  intro P h
  induction n with
  | zero => rfl
  | succ n ih => rw [cnt_f (h n (by omega)), ih (fun j hj => h j (by omega))]
theorem cnt_pos {P : Nat → Bool} {n j : Nat} (hj : j < n) (h : P j = true) : 0 < cnt P n := by
  have h1 := cnt_mono P (a := j + 1) (n := n) hj
  rw [cnt_t h] at h1
  omega
/-- P has no more places than Q: strictly fewer if Q has one that P has not -/
theorem cnt_sub {P Q : Nat → Bool} : ∀ {n}, (∀ j, j < n → P j = true → Q j = true) → cnt P n ≤ cnt Q n
  | 0, _ => Nat.le_refl 0
  | n + 1, h => by
    have h1 := cnt_sub (n := n) (fun j hj => h j (by omega))
    have h2 := h n (by omega)
    unfold cnt
    cases hp : P n
    · simp; omega
    · rw [h2 hp]; simp; exact h1
theorem cnt_lt {P Q : Nat → Bool} {n i : Nat} (h : ∀ j, j < n → P j = true → Q j = true) (hi : i < n) (hq : Q i = true) (hp : P i = false) : cnt P n < cnt Q n := by
  induction n with
  | zero => exact absurd hi (Nat.not_lt_zero _)
  | succ n ih =>
    by_cases e : i = n
    · subst e
      have h1 := cnt_sub (n := i) (P := P) (Q := Q) (fun j hj => h j (by omega))
      rw [cnt_t hq, cnt_f hp]
      omega
    · have h1 := ih (fun j hj => h j (by omega)) (by omega)
      have h2 := h n (by omega)
      unfold cnt
      cases hp2 : P n
      · simp; omega
      · rw [h2 hp2]; simp; exact h1
/-- the first place below n that has Q -/
def fst9 (Q : Nat → Bool) : Nat → Option Nat
  | 0 => none
  | n + 1 => match fst9 Q n with
    | some i => some i
    | none => if Q n = true then some n else none
theorem fst9_none {Q : Nat → Bool} : ∀ {n}, (∀ a, a < n → Q a = false) → fst9 Q n = none
  | 0, _ => rfl
  | n + 1, h => by
    unfold fst9
    rw [fst9_none (n := n) (fun a ha => h a (by omega)), h n (by omega)]
    rfl
theorem fst9_some {Q : Nat → Bool} {i : Nat} (hq : Q i = true) (hb : ∀ a, a < i → Q a = false) : ∀ {n}, i < n → fst9 Q n = some i := by
  intro n h
  induction n with
  | zero => exact absurd h (Nat.not_lt_zero _)
  | succ n ih =>
    unfold fst9
    by_cases e : i = n
    · subst e
      rw [fst9_none hb, hq]
      rfl
    · rw [ih (by omega)]
theorem fst9_spec {Q : Nat → Bool} {i : Nat} : ∀ {n}, fst9 Q n = some i → i < n ∧ Q i = true ∧ ∀ a, a < i → Q a = false := by
  intro n h
  by_cases hx : ∃ k, k < n ∧ Q k = true
  · obtain ⟨k, hk, hl⟩ := pk_least (fun k => k < n ∧ Q k = true) hx
    have e : fst9 Q n = some k := fst9_some hk.2 (fun a ha => by
      cases hq : Q a
      · rfl
      · exact absurd ⟨by omega, hq⟩ (hl a ha)) hk.1
    rw [h] at e
    cases e
    exact ⟨hk.1, hk.2, fun a ha => by
      cases hq : Q a
      · rfl
      · exact absurd ⟨by omega, hq⟩ (hl a ha)⟩
  · rw [fst9_none (fun a ha => by
      cases hq : Q a
      · rfl
      · exact absurd ⟨a, ha, hq⟩ hx)] at h
    cases h
theorem fst9_no {Q : Nat → Bool} {n : Nat} (h : fst9 Q n = none) : ∀ a, a < n → Q a = false := by
  intro a ha
  cases hq : Q a
  · rfl
  · exfalso
    obtain ⟨k, hk, hl⟩ := pk_least (fun k => k < n ∧ Q k = true) ⟨a, ha, hq⟩
    have e : fst9 Q n = some k := fst9_some hk.2 (fun b hb => by
      cases hq : Q b
      · rfl
      · exact absurd ⟨by omega, hq⟩ (hl b hb)) hk.1
    rw [h] at e
    cases e
theorem fst9_congr {P Q : Nat → Bool} : ∀ {n}, (∀ j, j < n → P j = Q j) → fst9 P n = fst9 Q n
  | 0, _ => rfl
  | n + 1, h => by
    unfold fst9
    rw [fst9_congr (n := n) (fun j hj => h j (by omega)), h n (by omega)]
def oI : Option Nat → Int32
  | none => -1
  | some i => nI i
theorem oI_m1 {o : Option Nat} (h : ∀ i, o = some i → i < 2 ^ 31) : oI o = -1 ↔ o = none := by
  cases o with
  | none => exact ⟨fun _ => rfl, fun _ => rfl⟩
  | some i =>
    refine ⟨fun e => ?_, fun e => by cases e⟩
    have h1 := nI_toInt (h i rfl)
    have e2 : nI i = -1 := e
    rw [e2] at h1
    have h3 : (-1 : Int32).toInt = -1 := by decide
    omega
/-- is x a place below n -/
def hB (n : Nat) (x : Int32) : Bool := !(decide (x < 0)) && !(decide (nI n ≤ x))
theorem hB_of {n : Nat} {x : Int32} (h : hB n x = true) (hn : n < 2 ^ 31) : ∃ j, j < n ∧ x = nI j := by
  unfold hB at h
  simp only [Bool.and_eq_true, Bool.not_eq_true', decide_eq_false_iff_not] at h
  rcases pk_ix x hn with q | q | q
  · exact absurd q h.1
  · exact absurd q h.2
  · exact q
theorem hB_nI {n j : Nat} (h : j < n) (hn : n < 2 ^ 31) : hB n (nI j) = true := by
  unfold hB
  rw [decide_eq_false (nI_pos (by omega)), decide_eq_false (nI_ge h hn)]
  rfl
theorem hB_m1 (n : Nat) : hB n (-1) = false := by
  unfold hB
  rw [decide_eq_true (by decide)]
  rfl
theorem hB_in {n : Nat} {x : Int32} (h : hB n x = true) (hn : n ≤ 43) : vp_in x 43 := by
  obtain ⟨j, hj, rfl⟩ := hB_of h (by omega)
  exact vp_in_nI (by omega) (by omega)
end
section
/-! families out of kit/laws/BITS.to-paste, whole -/
/-! ===== Int32 by its bits: bt x i ===== -/
def bt (x : Int32) (i : Nat) : Bool := x.toBitVec.getLsbD i
theorem b_ext {x y : Int32} (h : ∀ i, i < 32 → bt x i = bt y i) : x = y := Int32.toBitVec_inj.mp (BitVec.eq_of_getLsbD_eq (fun i hi => h i hi))
theorem b_or (x y : Int32) (i : Nat) : bt (x ||| y) i = (bt x i || bt y i) := by unfold bt; rw [Int32.toBitVec_or, BitVec.getLsbD_or]
theorem b_and (x y : Int32) (i : Nat) : bt (x &&& y) i = (bt x i && bt y i) := by unfold bt; rw [Int32.toBitVec_and, BitVec.getLsbD_and]
theorem b_xor (x y : Int32) (i : Nat) : bt (x ^^^ y) i = (bt x i ^^ bt y i) := by unfold bt; rw [Int32.toBitVec_xor, BitVec.getLsbD_xor]
theorem b_big {x : Int32} {i : Nat} (h : 32 ≤ i) : bt x i = false := BitVec.getLsbD_of_ge _ _ h
theorem b_255 (i : Nat) : bt 255 i = decide (i < 8) := by
  rcases Nat.lt_or_ge i 32 with h | h
  · exact (by decide +kernel : ∀ i, i < 32 → bt 255 i = decide (i < 8)) i h
  · rw [b_big h, decide_eq_false (by omega)]
theorem b_65535 (i : Nat) : bt 65535 i = decide (i < 16) := by
  rcases Nat.lt_or_ge i 32 with h | h
  · exact (by decide +kernel : ∀ i, i < 32 → bt 65535 i = decide (i < 16)) i h
  · rw [b_big h, decide_eq_false (by omega)]
theorem b_m1 : ∀ i, i < 32 → bt (-1) i = true := by decide +kernel
theorem b_0 (i : Nat) : bt 0 i = false := BitVec.getLsbD_zero
theorem s_l : ∀ n, n < 32 → ((nI n &&& 31).toBitVec.smod 32).toNat = n := by decide +kernel
theorem s_u : ∀ n, n < 32 → (((nI n).toUInt32 &&& Int32.toUInt32 31).toBitVec % 32).toNat = n := by decide +kernel
theorem b_shl (n : Nat) (hn : n < 32) (x : Int32) {i : Nat} (hi : i < 32) : bt (x <<< (nI n &&& 31)) i = (decide (n ≤ i) && bt x (i - n)) := by
  unfold bt
  rw [Int32.toBitVec_shiftLeft]
  show (x.toBitVec <<< ((nI n &&& 31).toBitVec.smod 32).toNat).getLsbD i = _
  rw [s_l n hn, BitVec.getLsbD_shiftLeft]
  rcases Nat.lt_or_ge i n with h | h
  · simp [h, Nat.not_le.mpr h]
  · simp [hi, h, Nat.not_lt.mpr h]
theorem b_ushr (n : Nat) (hn : n < 32) (x : Int32) (i : Nat) : bt ((x.toUInt32 >>> ((nI n).toUInt32 &&& Int32.toUInt32 31)).toInt32) i = bt x (n + i) := by
  show (x.toUInt32 >>> ((nI n).toUInt32 &&& Int32.toUInt32 31)).toBitVec.getLsbD i = x.toUInt32.toBitVec.getLsbD (n + i)
  rw [UInt32.toBitVec_shiftRight]
  show (x.toUInt32.toBitVec >>> (((nI n).toUInt32 &&& Int32.toUInt32 31).toBitVec % 32).toNat).getLsbD i = _
  rw [s_u n hn, BitVec.getLsbD_ushiftRight]
theorem b_sshr (n : Nat) (hn : n < 32) (x : Int32) {i : Nat} (hi : i < 32) : bt (x >>> (nI n &&& 31)) i = if n + i < 32 then bt x (n + i) else bt x 31 := by
  unfold bt
  rw [Int32.toBitVec_shiftRight]
  show (x.toBitVec.sshiftRight ((nI n &&& 31).toBitVec.smod 32).toNat).getLsbD i = _
  rw [s_l n hn, BitVec.getLsbD_sshiftRight, BitVec.msb_eq_getLsbD_last]
  simp [hi]
theorem b_shl8 (x : Int32) {i : Nat} (hi : i < 32) : bt (x <<< ((8 : Int32) &&& 31)) i = (decide (8 ≤ i) && bt x (i - 8)) := b_shl 8 (by omega) x hi
theorem b_shl16 (x : Int32) {i : Nat} (hi : i < 32) : bt (x <<< ((16 : Int32) &&& 31)) i = (decide (16 ≤ i) && bt x (i - 16)) := b_shl 16 (by omega) x hi
theorem b_shl24 (x : Int32) {i : Nat} (hi : i < 32) : bt (x <<< ((24 : Int32) &&& 31)) i = (decide (24 ≤ i) && bt x (i - 24)) := b_shl 24 (by omega) x hi
theorem b_sshr8 (x : Int32) {i : Nat} (hi : i < 32) : bt (x >>> ((8 : Int32) &&& 31)) i = if 8 + i < 32 then bt x (8 + i) else bt x 31 := b_sshr 8 (by omega) x hi
/-! ===== Int64 as a set of bits: test, set, clear ===== -/
theorem ts_nf {x : Bool} (h : ¬ x = false) : x = true := by cases x <;> first | rfl | exact absurd rfl h
theorem ts_nt {x : Bool} (h : ¬ x = true) : x = false := by cases x <;> first | rfl | exact absurd rfl h
theorem ts_bit {w : Int64} {s : UInt64} {j : Nat} (hj : j < 64) (hs : s.toNat = j) : ((w.toUInt64 >>> s).toInt64 &&& 1) = 0 ↔ w.toBitVec.getLsbD j = false := by
  have e : (w.toUInt64 >>> s).toInt64.toBitVec = w.toBitVec >>> j := by
    apply BitVec.eq_of_toNat_eq
    show (w.toUInt64 >>> s).toNat = _
    rw [UInt64.toNat_shiftRight, hs, Nat.mod_eq_of_lt hj, BitVec.toNat_ushiftRight]
    rfl
  rw [← Int64.toBitVec_inj, Int64.toBitVec_and, e]
  show w.toBitVec >>> j &&& 1#64 = 0#64 ↔ _
  constructor
  · intro h
    have t := congrArg (fun x => x.getLsbD 0) h
    simpa using t
  · intro h
    apply BitVec.eq_of_getLsbD_eq
    intro i hi
    cases i with
    | zero => simp [h]
    | succ i => simp
theorem ts_or {w m : Int64} {j : Nat} (hj : j < 64) (hm : m.toBitVec = BitVec.twoPow 64 j) : (w ||| m) = w ↔ w.toBitVec.getLsbD j = true := by
  rw [← Int64.toBitVec_inj, Int64.toBitVec_or, hm]
  constructor
  · intro h
    have t := congrArg (fun x => x.getLsbD j) h
    simp only [BitVec.getLsbD_or, BitVec.getLsbD_twoPow] at t
    simpa [hj] using t.symm
  · intro h
    apply BitVec.eq_of_getLsbD_eq
    intro i hi
    rw [BitVec.getLsbD_or, BitVec.getLsbD_twoPow]
    by_cases e : j = i
    · subst e; rw [h, Bool.true_or]
    · simp [e]
theorem ts_and {w m : Int64} {j : Nat} (hj : j < 64) (hm : m.toBitVec = BitVec.twoPow 64 j) : (w &&& (m ^^^ (-1))) = w ↔ w.toBitVec.getLsbD j = false := by
  have ha : (-1 : Int64).toBitVec = BitVec.allOnes 64 := by decide
  rw [← Int64.toBitVec_inj, Int64.toBitVec_and, Int64.toBitVec_xor, hm, ha]
  constructor
  · intro h
    have t := congrArg (fun x => x.getLsbD j) h
    simp only [BitVec.getLsbD_and, BitVec.getLsbD_xor, BitVec.getLsbD_twoPow, BitVec.getLsbD_allOnes] at t
    simpa [hj] using t.symm
  · intro h
    apply BitVec.eq_of_getLsbD_eq
    intro i hi
    rw [BitVec.getLsbD_and, BitVec.getLsbD_xor, BitVec.getLsbD_twoPow, BitVec.getLsbD_allOnes]
    by_cases e : j = i
    · subst e; rw [h, Bool.false_and]
    · simp [e, hi]
/-! ===== lN n to 2^64: shifts, and, or, masks, one bit ===== -/
theorem wb_tb (n : Nat) : (lN n).toBitVec = BitVec.ofNat 64 n := rfl
theorem wb_inj {a b : Int64} (h : a.toBitVec = b.toBitVec) : a = b := Int64.toBitVec_inj.mp h
theorem wb_tn {n : Nat} (h : n < 2 ^ 64) : (lN n).toBitVec.toNat = n := by rw [wb_tb, BitVec.toNat_ofNat, Nat.mod_eq_of_lt h]
theorem wb_of (x : Int64) : ∃ n, n < 2 ^ 64 ∧ x = lN n := ⟨x.toBitVec.toNat, x.toBitVec.isLt, wb_inj (by rw [wb_tb]; simp)⟩
theorem wb_of32 (x : Int32) : ∃ n, n < 2 ^ 32 ∧ x = nI n := ⟨x.toBitVec.toNat, x.toBitVec.isLt, Int32.toBitVec_inj.mp (by show _ = BitVec.ofNat 32 _; simp)⟩
theorem wb_c : ∀ k, k < 64 → ((nI k).toInt64 &&& 63) = lN k := by decide +kernel
theorem wb_cu : ∀ k, k < 64 → ((nI k).toInt64.toUInt64 &&& Int64.toUInt64 63) = UInt64.ofNat k := by decide +kernel
theorem wb_sm : ∀ k, k < 64 → (BitVec.ofNat 64 k).smod 64 = BitVec.ofNat 64 k := by decide +kernel
theorem wb_pw {a b : Nat} (h : a ≤ b) : 2 ^ b = 2 ^ a * 2 ^ (b - a) := by rw [← Nat.pow_add]; congr 1; omega
theorem wb_lt2 {a b : Nat} (h : a < b) : 2 ^ a < 2 ^ b := Nat.pow_lt_pow_right (by decide) h
theorem wb_mod (n : Nat) : lN n = lN (n % 2 ^ 64) := wb_inj (by rw [wb_tb, wb_tb]; apply BitVec.eq_of_toNat_eq; rw [BitVec.toNat_ofNat, BitVec.toNat_ofNat, Nat.mod_mod])
theorem wb_shr {n k : Nat} (hn : n < 2 ^ 64) (hk : k < 64) : ((lN n).toUInt64 >>> ((nI k).toInt64.toUInt64 &&& Int64.toUInt64 63)).toInt64 = lN (n / 2 ^ k) := by
  rw [wb_cu k hk]
  apply wb_inj
  apply BitVec.eq_of_toNat_eq
  show ((lN n).toUInt64 >>> UInt64.ofNat k).toNat = (BitVec.ofNat 64 _).toNat
  have h1 : (UInt64.ofNat k).toNat = k := by
    show (BitVec.ofNat 64 k).toNat = k
    rw [BitVec.toNat_ofNat, Nat.mod_eq_of_lt (by omega)]
  have h2 : (lN n).toUInt64.toNat = n := wb_tn hn
  rw [UInt64.toNat_shiftRight, h1, h2, Nat.mod_eq_of_lt hk, Nat.shiftRight_eq_div_pow, BitVec.toNat_ofNat, Nat.mod_eq_of_lt (Nat.lt_of_le_of_lt (Nat.div_le_self _ _) hn)]
theorem wb_shl (n : Nat) {k : Nat} (hk : k < 64) : lN n <<< ((nI k).toInt64 &&& 63) = lN (n * 2 ^ k) := by
  rw [wb_c k hk]
  apply wb_inj
  rw [Int64.toBitVec_shiftLeft, wb_tb, wb_tb, wb_tb, wb_sm k hk]
  apply BitVec.eq_of_toNat_eq
  rw [BitVec.shiftLeft_eq', BitVec.toNat_shiftLeft, BitVec.toNat_ofNat, BitVec.toNat_ofNat, BitVec.toNat_ofNat, Nat.mod_eq_of_lt (show k < 2 ^ 64 by omega), Nat.shiftLeft_eq, Nat.mul_mod, Nat.mod_mod, ← Nat.mul_mod]
theorem wb_and {a b : Nat} (ha : a < 2 ^ 64) (hb : b < 2 ^ 64) : lN a &&& lN b = lN (a &&& b) := by
  apply wb_inj
  rw [Int64.toBitVec_and, wb_tb, wb_tb, wb_tb]
  apply BitVec.eq_of_toNat_eq
  rw [BitVec.toNat_and, BitVec.toNat_ofNat, BitVec.toNat_ofNat, BitVec.toNat_ofNat, Nat.mod_eq_of_lt ha, Nat.mod_eq_of_lt hb, Nat.mod_eq_of_lt (Nat.and_lt_two_pow _ hb)]
theorem wb_or {a b : Nat} (ha : a < 2 ^ 64) (hb : b < 2 ^ 64) : lN a ||| lN b = lN (a ||| b) := by
  apply wb_inj
  rw [Int64.toBitVec_or, wb_tb, wb_tb, wb_tb]
  apply BitVec.eq_of_toNat_eq
  rw [BitVec.toNat_or, BitVec.toNat_ofNat, BitVec.toNat_ofNat, BitVec.toNat_ofNat, Nat.mod_eq_of_lt ha, Nat.mod_eq_of_lt hb, Nat.mod_eq_of_lt (Nat.or_lt_two_pow ha hb)]
theorem wb_mask {n k : Nat} (hn : n < 2 ^ 64) (hk : k < 64) : lN n &&& lN (2 ^ k - 1) = lN (n % 2 ^ k) := by
  rw [wb_and hn (by have := wb_lt2 hk; omega), Nat.and_two_pow_sub_one_eq_mod]
theorem wb_a1 {n : Nat} (hn : n < 2 ^ 64) : lN n &&& 1 = lN (n % 2) := wb_mask (k := 1) hn (by decide)
theorem wb_bit {n k : Nat} (hn : n < 2 ^ 64) (hk : k < 64) : ((lN n).toUInt64 >>> ((nI k).toInt64.toUInt64 &&& Int64.toUInt64 63)).toInt64 &&& 1 = lN (n / 2 ^ k % 2) := by
  rw [wb_shr hn hk, wb_a1 (Nat.lt_of_le_of_lt (Nat.div_le_self _ _) hn)]
theorem wb_xor {q k : Nat} (hk : k < 63) (h : 2 ^ k ≤ q) (h2 : q < 2 ^ (k + 1)) : lN q ^^^ lN (2 ^ k) = lN (q - 2 ^ k) := by
  obtain ⟨r, rfl⟩ : ∃ r, q = 2 ^ k + r := ⟨q - 2 ^ k, by omega⟩
  have hr : r < 2 ^ k := by rw [Nat.pow_succ] at h2; omega
  have hx : (2 ^ k + r) ^^^ 2 ^ k = r := by
    apply Nat.eq_of_testBit_eq
    intro i
    rw [Nat.testBit_xor, Nat.testBit_two_pow]
    rcases Nat.lt_trichotomy i k with h | h | h
    · rw [Nat.testBit_two_pow_add_gt h]
      simp [show ¬ k = i by omega]
    · subst h
      rw [Nat.testBit_two_pow_add_eq]
      simp
    · have a1 : 2 ^ (k + 1) ≤ 2 ^ i := Nat.pow_le_pow_right (by decide) h
      rw [Nat.testBit_lt_two_pow (show 2 ^ k + r < 2 ^ i by omega), Nat.testBit_lt_two_pow (show r < 2 ^ i by omega)]
      simp [show ¬ k = i by omega]
  have b1 := wb_lt2 (show k + 1 < 64 by omega)
  have b2 := wb_lt2 (show k < 64 by omega)
  apply wb_inj
  rw [Int64.toBitVec_xor, wb_tb, wb_tb, wb_tb]
  apply BitVec.eq_of_toNat_eq
  rw [BitVec.toNat_xor, BitVec.toNat_ofNat, BitVec.toNat_ofNat, BitVec.toNat_ofNat, Nat.mod_eq_of_lt (by omega : 2 ^ k + r < 2 ^ 64), Nat.mod_eq_of_lt b2, hx, Nat.add_sub_cancel_left, Nat.mod_eq_of_lt (by omega)]
end
section
/-! PURE: a long as a set of bits; how many bits -/
def wbit (w : Int64) (j : Nat) : Bool := w.toBitVec.getLsbD j
theorem wbit_ext {x y : Int64} (h : ∀ j, j < 64 → wbit x j = wbit y j) : x = y := Int64.toBitVec_inj.mp (BitVec.eq_of_getLsbD_eq (fun i hi => h i hi))
theorem wbit_or (x y : Int64) (j : Nat) : wbit (x ||| y) j = (wbit x j || wbit y j) := by unfold wbit; rw [Int64.toBitVec_or, BitVec.getLsbD_or]
theorem wbit_and (x y : Int64) (j : Nat) : wbit (x &&& y) j = (wbit x j && wbit y j) := by unfold wbit; rw [Int64.toBitVec_and, BitVec.getLsbD_and]
theorem wbit_xor (x y : Int64) (j : Nat) : wbit (x ^^^ y) j = (wbit x j ^^ wbit y j) := by unfold wbit; rw [Int64.toBitVec_xor, BitVec.getLsbD_xor]
theorem wbit_big {x : Int64} {j : Nat} (h : 64 ≤ j) : wbit x j = false := BitVec.getLsbD_of_ge _ _ h
theorem wbit_0 (j : Nat) : wbit 0 j = false := BitVec.getLsbD_zero
theorem wbit_m1 : ∀ j, j < 64 → wbit (-1) j = true := by decide +kernel
theorem wbit_no (x y : Int64) {j : Nat} (h : j < 64) : wbit (x &&& (y ^^^ (-1))) j = (wbit x j && !wbit y j) := by
  rw [wbit_and, wbit_xor, wbit_m1 j h]
  cases wbit y j <;> rfl
theorem wbit_one : ∀ i, i < 64 → ∀ j, j < 64 → wbit ((1 : Int64) <<< ((nI i).toInt64 &&& 63)) j = decide (j = i) := by decide +kernel
theorem wbit_all : ∀ n, n < 64 → ∀ j, j < 64 → wbit (((1 : Int64) <<< ((nI n).toInt64 &&& 63)) - 1) j = decide (j < n) := by decide +kernel
theorem wbit_tst (w : Int64) {i : Nat} (hi : i < 64) : ((w.toUInt64 >>> ((nI i).toInt64.toUInt64 &&& Int64.toUInt64 63)).toInt64 &&& 1) = 0 ↔ wbit w i = false :=
  ts_bit hi (by rw [wb_cu i hi]; exact Nat.mod_eq_of_lt (by omega))
theorem wbit_z {w : Int64} : w = 0 ↔ ∀ j, j < 64 → wbit w j = false := by
  refine ⟨fun h j _ => by rw [h]; exact wbit_0 j, fun h => wbit_ext (fun j hj => by rw [h j hj, wbit_0])⟩
theorem wbit_lN {n : Nat} (h : n < 2 ^ 64) (j : Nat) : wbit (lN n) j = n.testBit j := by
  unfold wbit
  rw [BitVec.getLsbD, wb_tn h]
/-! how many bits: the library's way, byte by byte -/
def mk9 (b : Nat) : Nat → Nat
  | 0 => 0
  | k + 1 => 256 * mk9 b k + b
theorem and8 {a p : Nat} (ha : a < 256) (hp : p < 256) (m q : Nat) : (256 * m + a) &&& (256 * q + p) = 256 * (m &&& q) + (a &&& p) := by
  have hap : a &&& p < 2 ^ 8 := Nat.and_lt_two_pow a hp
  apply Nat.eq_of_testBit_eq
  intro i
  rw [Nat.testBit_and, show 256 * m + a = 2 ^ 8 * m + a from rfl, show 256 * q + p = 2 ^ 8 * q + p from rfl, show 256 * (m &&& q) + (a &&& p) = 2 ^ 8 * (m &&& q) + (a &&& p) from rfl,
    Nat.testBit_two_pow_mul_add _ ha, Nat.testBit_two_pow_mul_add _ hp, Nat.testBit_two_pow_mul_add _ hap]
  by_cases h : i < 8
  · rw [if_pos h, if_pos h, if_pos h, Nat.testBit_and]
  · rw [if_neg h, if_neg h, if_neg h, Nat.testBit_and]
def s19 (k n : Nat) : Nat := n - ((n / 2) &&& mk9 0x55 k)
def s29 (k n : Nat) : Nat := (n &&& mk9 0x33 k) + ((n / 4) &&& mk9 0x33 k)
def s39 (k n : Nat) : Nat := (n + n / 16) &&& mk9 0x0f k
theorem b19 : ∀ a, a < 256 → ∀ z, z < 2 → (128 * z + a / 2) &&& 0x55 = (a / 2) &&& 0x55 := by decide +kernel
theorem b29 : ∀ a, a < 256 → ∀ z, z < 4 → (64 * z + a / 4) &&& 0x33 = (a / 4) &&& 0x33 := by decide +kernel
theorem s19_1 (a : Nat) : s19 1 a = a - ((a / 2) &&& 0x55) := rfl
theorem s29_1 (a : Nat) : s29 1 a = (a &&& 0x33) + ((a / 4) &&& 0x33) := rfl
theorem s19_s (k m a : Nat) (ha : a < 256) : s19 (k + 1) (256 * m + a) = 256 * s19 k m + s19 1 a := by
  have e : (256 * m + a) / 2 = 256 * (m / 2) + (128 * (m % 2) + a / 2) := by omega
  have h1 : m / 2 &&& mk9 0x55 k ≤ m / 2 := Nat.and_le_left
  have h2 : a / 2 &&& 0x55 ≤ a / 2 := Nat.and_le_left
  rw [s19_1]
  show 256 * m + a - ((256 * m + a) / 2 &&& (256 * mk9 0x55 k + 0x55)) = 256 * (m - (m / 2 &&& mk9 0x55 k)) + (a - (a / 2 &&& 0x55))
  rw [e, and8 (by omega) (by decide), b19 a ha (m % 2) (Nat.mod_lt _ (by decide))]
  omega
theorem s29_s (k m a : Nat) (ha : a < 256) : s29 (k + 1) (256 * m + a) = 256 * s29 k m + s29 1 a := by
  have e : (256 * m + a) / 4 = 256 * (m / 4) + (64 * (m % 4) + a / 4) := by omega
  rw [s29_1]
  show (256 * m + a &&& (256 * mk9 0x33 k + 0x33)) + ((256 * m + a) / 4 &&& (256 * mk9 0x33 k + 0x33)) = 256 * ((m &&& mk9 0x33 k) + (m / 4 &&& mk9 0x33 k)) + ((a &&& 0x33) + (a / 4 &&& 0x33))
  rw [e, and8 ha (by decide), and8 (by omega) (by decide), b29 a ha (m % 4) (Nat.mod_lt _ (by decide))]
  omega
/-- the bits of a byte -/
def pb9 (a : Nat) : Nat := cnt a.testBit 8
def t29 (k n : Nat) : Nat := s29 k (s19 k n)
theorem t29_b : ∀ a, a < 256 → s19 1 a < 256 ∧ t29 1 a ≤ 0x44 ∧ t29 1 a % 16 ≤ 4 ∧ (t29 1 a + t29 1 a / 16) % 16 = pb9 a := by decide +kernel
theorem t29_s (k m a : Nat) (ha : a < 256) : t29 (k + 1) (256 * m + a) = 256 * t29 k m + t29 1 a := by
  unfold t29
  rw [s19_s k m a ha, s29_s k _ _ (t29_b a ha).1]
theorem t29_m : ∀ k n, t29 k n % 16 ≤ 4
  | 0, n => by
    have e : t29 0 n = 0 := by
      show (n - (n / 2 &&& 0) &&& 0) + ((n - (n / 2 &&& 0)) / 4 &&& 0) = 0
      simp
    rw [e]; decide
  | k + 1, n => by
    have e : n = 256 * (n / 256) + n % 256 := by omega
    have h := t29_b (n % 256) (Nat.mod_lt _ (by decide))
    rw [e, t29_s k _ _ (Nat.mod_lt _ (by decide))]
    omega
/-- the bytes' numbers of bits, side by side -/
def T9 : Nat → Nat → Nat
  | 0, _ => 0
  | k + 1, n => 256 * T9 k (n / 256) + pb9 (n % 256)
theorem s39_T : ∀ k n, s39 k (t29 k n) = T9 k n
  | 0, n => by
    show (_ &&& 0) = 0
    simp
  | k + 1, n => by
    have ha : n % 256 < 256 := Nat.mod_lt _ (by decide)
    have hb := t29_b (n % 256) ha
    have hm := t29_m k (n / 256)
    have ih := s39_T k (n / 256)
    have e : n = 256 * (n / 256) + n % 256 := by omega
    have e1 : t29 (k + 1) n = 256 * t29 k (n / 256) + t29 1 (n % 256) := by
      conv => lhs; rw [e]
      exact t29_s k _ _ ha
    rw [e1]
    unfold T9
    rw [← ih, ← hb.2.2.2]
    generalize t29 k (n / 256) = m at hm ⊢
    generalize t29 1 (n % 256) = a at hb ⊢
    show (256 * m + a + (256 * m + a) / 16) &&& (256 * mk9 0x0f k + 0x0f) = 256 * ((m + m / 16) &&& mk9 0x0f k) + (a + a / 16) % 16
    have e2 : 256 * m + a + (256 * m + a) / 16 = 256 * (m + m / 16) + (a + a / 16 + 16 * (m % 16)) := by omega
    rw [e2, and8 (by omega) (by decide), show (0x0f : Nat) = 2 ^ 4 - 1 from rfl, Nat.and_two_pow_sub_one_eq_mod (a + a / 16 + 16 * (m % 16)) 4]
    omega
theorem pb9_le (a : Nat) : pb9 a ≤ 8 := cnt_le _ 8
/-- the sum of the bytes' numbers -/
def S9 : Nat → Nat → Nat
  | 0, _ => 0
  | k + 1, n => S9 k (n / 256) + pb9 (n % 256)
theorem f9a {u v c : Nat} (e : u = 256 * v + c) (g : c ≤ 32) : u / 256 = v := by omega
theorem f9b {X Y a b : Nat} (e : X = 65536 * Y + (256 * a + b)) (ha : a ≤ 16) (hb : b ≤ 16) : X / 65536 = Y := by omega
theorem f9c {X0 X1 X2 X3 X4 a0 a1 a2 a3 : Nat} (e0 : X0 = 256 * X1 + a0) (e1 : X1 = 256 * X2 + a1) (e2 : X2 = 256 * X3 + a2) (e3 : X3 = 256 * X4 + a3) (g0 : a0 ≤ 32) (g1 : a1 ≤ 32) (g2 : a2 ≤ 32) (g3 : a3 ≤ 32) : X0 / 4294967296 = X4 := by
  have y : X0 = 4294967296 * X4 + (16777216 * a3 + 65536 * a2 + 256 * a1 + a0) := by omega
  clear e0 e1 e2 e3
  omega
theorem f9d {u0 u1 u2 c0 c1 u3 c2 : Nat} (e0 : u0 = 256 * u1 + c0) (e1 : u1 = 256 * u2 + c1) (e2 : u2 = 256 * u3 + c2) : u0 + u1 = 65536 * (u2 + u3) + (256 * (c1 + c2) + (c0 + c1)) := by omega
theorem f9e {u0 u1 u2 u3 u4 c0 c1 c2 c3 : Nat} (e0 : u0 = 256 * u1 + c0) (e1 : u1 = 256 * u2 + c1) (e2 : u2 = 256 * u3 + c2) (e3 : u3 = 256 * u4 + c3) : u0 + u1 + (u2 + u3) = 256 * (u1 + u2 + (u3 + u4)) + (c0 + c1 + c2 + c3) := by omega
theorem f9f {u v c b : Nat} (e : u = 256 * v + c) (g : c ≤ 8) (h : v + 1 ≤ b) : u + 1 ≤ 256 * b := by omega
theorem f9g {u0 u1 u2 u3 u4 u5 u6 u7 : Nat} (b0 : u0 + 1 ≤ 648518346341351424) (b1 : u1 + 1 ≤ 2533274790395904) (b2 : u2 + 1 ≤ 2533274790395904) (b3 : u3 + 1 ≤ 2533274790395904) (b4 : u4 + 1 ≤ 2533274790395904) (b5 : u5 + 1 ≤ 2533274790395904) (b6 : u6 + 1 ≤ 2533274790395904) (b7 : u7 + 1 ≤ 2533274790395904) : u0 < 18446744073709551616 ∧ u0 + u1 < 18446744073709551616 ∧ u0 + u1 + (u2 + u3) < 18446744073709551616 ∧ u0 + u1 + (u2 + u3) + (u4 + u5 + (u6 + u7)) < 18446744073709551616 := by omega
theorem f9h {u0 u1 u2 u3 u4 u5 u6 u7 c0 c1 c2 c3 c4 c5 c6 c7 : Nat} (e0 : u0 = 256 * u1 + c0) (e1 : u1 = 256 * u2 + c1) (e2 : u2 = 256 * u3 + c2) (e3 : u3 = 256 * u4 + c3) (e4 : u4 = 256 * u5 + c4) (e5 : u5 = 256 * u6 + c5) (e6 : u6 = 256 * u7 + c6) (e7 : u7 = c7) : u0 + u1 + (u2 + u3) + (u4 + u5 + (u6 + u7)) = 128 * (2 * (u1 + u2 + u3 + u4 + u5 + u6 + u7)) + (c7 + c6 + c5 + c4 + c3 + c2 + c1 + c0) := by omega
theorem f9i {X Y z : Nat} (e : X = 128 * Y + z) (h : z ≤ 64) : X % 128 = z := by omega
theorem T9_s (k n : Nat) : T9 (k + 1) n = 256 * T9 k (n / 256) + pb9 (n % 256) := rfl
theorem T9_1 (n : Nat) : T9 1 n = pb9 (n % 256) := by rw [T9_s 0, show T9 0 (n / 256) = 0 from rfl]; omega
theorem S9_s (k n : Nat) : S9 (k + 1) n = S9 k (n / 256) + pb9 (n % 256) := rfl
theorem S9_1 (n : Nat) : S9 1 n = pb9 (n % 256) := by rw [S9_s 0, show S9 0 (n / 256) = 0 from rfl]; omega
theorem fold9 (n : Nat) : T9 8 n < 18446744073709551616 ∧ T9 8 n + T9 8 n / 256 < 18446744073709551616 ∧ T9 8 n + T9 8 n / 256 + (T9 8 n + T9 8 n / 256) / 65536 < 18446744073709551616 ∧ ∃ z, T9 8 n + T9 8 n / 256 + (T9 8 n + T9 8 n / 256) / 65536 + (T9 8 n + T9 8 n / 256 + (T9 8 n + T9 8 n / 256) / 65536) / 4294967296 = z ∧ z < 18446744073709551616 ∧ z % 128 = S9 8 n := by
  have e0 := T9_s 7 n
  have e1 := T9_s 6 (n / 256)
  have e2 := T9_s 5 (n / 256 / 256)
  have e3 := T9_s 4 (n / 256 / 256 / 256)
  have e4 := T9_s 3 (n / 256 / 256 / 256 / 256)
  have e5 := T9_s 2 (n / 256 / 256 / 256 / 256 / 256)
  have e6 := T9_s 1 (n / 256 / 256 / 256 / 256 / 256 / 256)
  have e7 := T9_1 (n / 256 / 256 / 256 / 256 / 256 / 256 / 256)
  have es : S9 8 n = pb9 (n / 256 / 256 / 256 / 256 / 256 / 256 / 256 % 256) + pb9 (n / 256 / 256 / 256 / 256 / 256 / 256 % 256) + pb9 (n / 256 / 256 / 256 / 256 / 256 % 256) + pb9 (n / 256 / 256 / 256 / 256 % 256) + pb9 (n / 256 / 256 / 256 % 256) + pb9 (n / 256 / 256 % 256) + pb9 (n / 256 % 256) + pb9 (n % 256) := by
    rw [S9_s 7, S9_s 6, S9_s 5, S9_s 4, S9_s 3, S9_s 2, S9_s 1, S9_1]
  rw [es]
  have g0 := pb9_le (n % 256)
  have g1 := pb9_le (n / 256 % 256)
  have g2 := pb9_le (n / 256 / 256 % 256)
  have g3 := pb9_le (n / 256 / 256 / 256 % 256)
  have g4 := pb9_le (n / 256 / 256 / 256 / 256 % 256)
  have g5 := pb9_le (n / 256 / 256 / 256 / 256 / 256 % 256)
  have g6 := pb9_le (n / 256 / 256 / 256 / 256 / 256 / 256 % 256)
  have g7 := pb9_le (n / 256 / 256 / 256 / 256 / 256 / 256 / 256 % 256)
  clear es
  generalize pb9 (n % 256) = c0 at e0 g0 ⊢
  generalize pb9 (n / 256 % 256) = c1 at e1 g1 ⊢
  generalize pb9 (n / 256 / 256 % 256) = c2 at e2 g2 ⊢
  generalize pb9 (n / 256 / 256 / 256 % 256) = c3 at e3 g3 ⊢
  generalize pb9 (n / 256 / 256 / 256 / 256 % 256) = c4 at e4 g4 ⊢
  generalize pb9 (n / 256 / 256 / 256 / 256 / 256 % 256) = c5 at e5 g5 ⊢
  generalize pb9 (n / 256 / 256 / 256 / 256 / 256 / 256 % 256) = c6 at e6 g6 ⊢
  generalize pb9 (n / 256 / 256 / 256 / 256 / 256 / 256 / 256 % 256) = c7 at e7 g7 ⊢
  generalize T9 1 (n / 256 / 256 / 256 / 256 / 256 / 256 / 256) = u7 at e6 e7
  generalize T9 2 (n / 256 / 256 / 256 / 256 / 256 / 256) = u6 at e5 e6
  generalize T9 3 (n / 256 / 256 / 256 / 256 / 256) = u5 at e4 e5
  generalize T9 4 (n / 256 / 256 / 256 / 256) = u4 at e3 e4
  generalize T9 5 (n / 256 / 256 / 256) = u3 at e2 e3
  generalize T9 6 (n / 256 / 256) = u2 at e1 e2
  generalize T9 7 (n / 256) = u1 at e0 e1
  generalize T9 8 n = u0 at e0 ⊢
  have d1 : u0 / 256 = u1 := f9a e0 (by omega)
  have d2 : (u0 + u1) / 65536 = u2 + u3 := f9b (f9d e0 e1 e2) (by omega) (by omega)
  have d3 : (u0 + u1 + (u2 + u3)) / 4294967296 = u4 + u5 + (u6 + u7) := f9c (f9e e0 e1 e2 e3) (f9e e1 e2 e3 e4) (f9e e2 e3 e4 e5) (f9e e3 e4 e5 e6) (by omega) (by omega) (by omega) (by omega)
  have b7 : u7 + 1 ≤ 9 := by rw [e7]; omega
  have b6 := f9f e6 g6 b7
  have b5 := f9f e5 g5 b6
  have b4 := f9f e4 g4 b5
  have b3 := f9f e3 g3 b4
  have b2 := f9f e2 g2 b3
  have b1 := f9f e1 g1 b2
  have b0 := f9f e0 g0 b1
  obtain ⟨k0, k1, k2, k3⟩ := f9g (u0 := u0) (u1 := u1) (u2 := u2) (u3 := u3) (u4 := u4) (u5 := u5) (u6 := u6) (u7 := u7) (Nat.le_trans b0 (by decide)) (Nat.le_trans b1 (by decide)) (Nat.le_trans b2 (by decide)) (Nat.le_trans b3 (by decide)) (Nat.le_trans b4 (by decide)) (Nat.le_trans b5 (by decide)) (Nat.le_trans b6 (by decide)) (Nat.le_trans b7 (by decide))
  rw [d1, d2, d3]
  exact ⟨k0, k1, k2, _, rfl, k3, f9i (f9h e0 e1 e2 e3 e4 e5 e6 e7) (by omega)⟩
theorem cnt_add (P : Nat → Bool) (a : Nat) : ∀ b, cnt P (a + b) = cnt P a + cnt (fun j => P (a + j)) b
  | 0 => rfl
  | b + 1 => by
    show cnt P (a + b) + (P (a + b)).toNat = cnt P a + (cnt (fun j => P (a + j)) b + (P (a + b)).toNat)
    rw [cnt_add P a b]
    omega
theorem S9_cnt : ∀ k n, S9 k n = cnt n.testBit (8 * k)
  | 0, _ => rfl
  | k + 1, n => by
    have ha : n % 256 < 2 ^ 8 := Nat.mod_lt _ (by decide)
    have e : n = 2 ^ 8 * (n / 256) + n % 256 := by omega
    show S9 k (n / 256) + pb9 (n % 256) = _
    rw [S9_cnt k, show 8 * (k + 1) = 8 + 8 * k by omega, cnt_add]
    have h1 : cnt n.testBit 8 = pb9 (n % 256) := cnt_congr (fun j hj => by
      conv => lhs; rw [e]
      rw [Nat.testBit_two_pow_mul_add _ ha, if_pos hj])
    have h2 : cnt (fun j => n.testBit (8 + j)) (8 * k) = cnt (n / 256).testBit (8 * k) := cnt_congr (fun j _ => by
      show n.testBit (8 + j) = _
      conv => lhs; rw [e]
      rw [Nat.testBit_two_pow_mul_add _ ha, if_neg (by omega)]
      congr 1
      omega)
    rw [h1, h2]
    omega
/-- Long.bitCount, as its rows have it -/
def bc1 (x : Int64) : Int64 := x - ((x.toUInt64 >>> ((nI 1).toInt64.toUInt64 &&& Int64.toUInt64 63)).toInt64 &&& 6148914691236517205)
def bc2 (x : Int64) : Int64 := (x &&& 3689348814741910323) + ((x.toUInt64 >>> ((nI 2).toInt64.toUInt64 &&& Int64.toUInt64 63)).toInt64 &&& 3689348814741910323)
def bc3 (x : Int64) : Int64 := (x + (x.toUInt64 >>> ((nI 4).toInt64.toUInt64 &&& Int64.toUInt64 63)).toInt64) &&& 1085102592571150095
def bcS (k : Nat) (x : Int64) : Int64 := x + (x.toUInt64 >>> ((nI k).toInt64.toUInt64 &&& Int64.toUInt64 63)).toInt64
theorem mk55 : mk9 0x55 8 = 6148914691236517205 := by decide +kernel
theorem mk33 : mk9 0x33 8 = 3689348814741910323 := by decide +kernel
theorem mk0f : mk9 0x0f 8 = 1085102592571150095 := by decide +kernel
theorem bc1_N {n : Nat} (h : n < 2 ^ 64) : bc1 (lN n) = lN (s19 8 n) := by
  unfold bc1 s19
  rw [wb_shr h (by decide), show (6148914691236517205 : Int64) = lN 6148914691236517205 from rfl, wb_and (Nat.lt_of_le_of_lt (Nat.div_le_self _ _) h) (by decide), mk55]
  exact lN_sub (Nat.le_trans Nat.and_le_left (Nat.div_le_self _ _))
theorem bc2_N {n : Nat} (h : n < 2 ^ 64) : bc2 (lN n) = lN (s29 8 n) := by
  unfold bc2 s29
  rw [wb_shr h (by decide), show (3689348814741910323 : Int64) = lN 3689348814741910323 from rfl, wb_and (Nat.lt_of_le_of_lt (Nat.div_le_self _ _) h) (by decide), wb_and h (by decide), mk33]
  exact lN_add _ _
theorem bc3_N {n : Nat} (h : n < 2 ^ 64) (h2 : n + n / 16 < 2 ^ 64) : bc3 (lN n) = lN (s39 8 n) := by
  unfold bc3 s39
  rw [wb_shr h (by decide), show (1085102592571150095 : Int64) = lN 1085102592571150095 from rfl, lN_add, mk0f]
  exact wb_and h2 (by decide)
theorem bcS_N {n k : Nat} (h : n < 2 ^ 64) (hk : k < 64) : bcS k (lN n) = lN (n + n / 2 ^ k) := by
  unfold bcS
  rw [wb_shr h hk]
  exact lN_add _ _
theorem t29_le : ∀ k n, 15 * t29 k n + 4 ≤ 4 * 256 ^ k
  | 0, n => by
    have e : t29 0 n = 0 := by
      show (n - (n / 2 &&& 0) &&& 0) + ((n - (n / 2 &&& 0)) / 4 &&& 0) = 0
      simp
    rw [e]; decide
  | k + 1, n => by
    have ha : n % 256 < 256 := Nat.mod_lt _ (by decide)
    have hb := t29_b (n % 256) ha
    have e : n = 256 * (n / 256) + n % 256 := by omega
    have e1 : t29 (k + 1) n = 256 * t29 k (n / 256) + t29 1 (n % 256) := by
      conv => lhs; rw [e]
      exact t29_s k _ _ ha
    have ih := t29_le k (n / 256)
    rw [e1, Nat.pow_succ]
    have h2 := hb.2.1
    clear hb
    generalize t29 k (n / 256) = u at ih ⊢
    generalize t29 1 (n % 256) = v at h2 ⊢
    generalize 256 ^ k = z at ih ⊢
    omega
theorem s19_lt {n : Nat} (h : n < 2 ^ 64) : s19 8 n < 2 ^ 64 := Nat.lt_of_le_of_lt (Nat.sub_le _ _) h
theorem bits9 (x : Int64) : (bcS 32 (bcS 16 (bcS 8 (bc3 (bc2 (bc1 x)))))).toInt32 &&& nI 127 = nI (cnt (wbit x) 64) := by
  obtain ⟨n, hn, rfl⟩ := wb_of x
  have h1 := t29_le 8 n
  have hp : (256 : Nat) ^ 8 = 2 ^ 64 := by decide
  rw [hp] at h1
  rw [bc1_N hn, bc2_N (s19_lt hn)]
  show (bcS 32 (bcS 16 (bcS 8 (bc3 (lN (t29 8 n)))))).toInt32 &&& nI 127 = _
  rw [bc3_N (by omega) (by omega), s39_T]
  obtain ⟨am, a4, a5, z, hz, a6, e6⟩ := fold9 n
  rw [bcS_N am (by decide), show (2 : Nat) ^ 8 = 256 from rfl, bcS_N a4 (by decide), show (2 : Nat) ^ 16 = 65536 from rfl, bcS_N a5 (by decide), show (2 : Nat) ^ 32 = 4294967296 from rfl, lN_i, hz]
  have e7 : nI z &&& nI 127 = nI (z % 128) := by
    rw [pk_and (nI z) 7 (m := nI 127) (by decide)]
    congr 1
    show (BitVec.ofNat 32 z).toNat % 2 ^ 7 = z % 128
    rw [BitVec.toNat_ofNat]
    omega
  rw [e7, e6, S9_cnt]
  congr 1
  exact cnt_congr (fun j _ => (wbit_lN hn j).symm)
end
section
/-! PURE: what the methods of PortDrawer answer and leave, as functions of the numbers in their cells -/
def nx9 (x : Int64) : Int64 := x * 6364136223846793005 + 1442695040888963407
def hi9 (x : Int64) : Nat := x.toBitVec.toNat / 2 ^ 33
def nbX (x : Int64) (q : Nat) : Int64 := if q = 0 then x else nx9 x
def nbI (x : Int64) (q : Nat) : Int32 := if q = 0 then -1 else nI (hi9 (nx9 x) % q)
theorem hi9_lt (x : Int64) : hi9 x < 2 ^ 31 := by
  unfold hi9
  have := x.toBitVec.isLt
  omega
theorem hi9_sh (x : Int64) : ((x.toUInt64 >>> ((nI 33).toInt64.toUInt64 &&& Int64.toUInt64 63)).toInt64).toInt32 = nI (hi9 x) := by
  obtain ⟨n, hn, rfl⟩ := wb_of x
  rw [wb_shr hn (by decide), lN_i]
  unfold hi9
  rw [wb_tn hn]
theorem nb_rem (x : Int64) {q : Nat} (h0 : 0 < q) (hq : q < 2 ^ 31) : nI (hi9 x) - nI (hi9 x) / nI q * nI q = nI (hi9 x % q) := pk_rem (hi9_lt x) h0 hq
/-- may a part of kind k refer to one of kind t -/
def mR (k t : Int32) : Bool :=
  if k = nI 1 then decide (t = nI 0) else if k = nI 3 then decide (t = nI 0) else if k = nI 4 then decide (t = nI 2)
  else if k = nI 5 then (decide (t = nI 1) || decide (t = nI 3) || decide (t = nI 4)) else if k = nI 6 then (decide (t = nI 4) || decide (t = nI 5)) else false
def mP (K : Nat → Int32) (kd : Int32) : Nat → Bool := fun j => mR kd (K j)
def rm2 (x : Int32) : Int32 := x - x / nI 2 * nI 2
def aB (n : Nat) (K : Nat → Int32) (x : Int32) : Bool := hB n x && decide (K x.toNatClampNeg = nI 5)
def fB (n : Nat) (K V R : Nat → Int32) (x : Int32) : Bool := aB n K x && (hB n (R x.toNatClampNeg) && decide (rm2 (V (R x.toNatClampNeg).toNatClampNeg) = rm2 (V x.toNatClampNeg)))
def kP (K : Nat → Int32) (kd : Int32) : Nat → Bool := fun j => decide (K j = kd)
def dQ (P : Nat → Bool) (pick : Int32) : Nat → Bool := fun a => P a && decide (nI (cnt P a) = pick)
/-- what a part of kind kd refers to -/
def rfI (K : Nat → Int32) (n : Nat) (kd : Int32) (x : Int64) : Int32 := oI (fst9 (dQ (mP K kd) (nbI x (cnt (mP K kd) n))) n)
def rfX (K : Nat → Int32) (n : Nat) (kd : Int32) (x : Int64) : Int64 := nbX x (cnt (mP K kd) n)
abbrev HS : Type := Int64 × (Nat → Int32) × (Nat → Int32) × (Nat → Int32)
def adS (kd : Int32) (n : Nat) (t : HS) : HS := (rfX (upd t.2.1 n kd) n kd (nbX t.1 100), upd t.2.1 n kd, upd t.2.2.1 n (nbI t.1 100), upd t.2.2.2 n (rfI (upd t.2.1 n kd) n kd (nbX t.1 100)))
def fl3 (t : HS) : HS := adS (nI 2) 2 (adS (nI 1) 1 (adS (nI 0) 0 t))
def flL (t : HS) : Nat → HS
  | 0 => t
  | j + 1 => adS (nbI (flL t j).1 7) (j + 3) (nbX (flL t j).1 7, (flL t j).2)
def flS (sd : Int64) (K V R : Nat → Int32) (z : Nat) : HS := flL (fl3 (sd, K, V, R)) z
def eq3 (K V R K' V' R' : Nat → Int32) : Nat → Bool := fun j => decide (K j = K' j) && (decide (V j = V' j) && decide (R j = R' j))
def lkB (n n' : Nat) (K V R K' V' R' : Nat → Int32) : Bool := decide (n' = n) && (fst9 (fun j => !(eq3 K V R K' V' R' j)) n).isNone
def szB (x : Int32) : Bool := !(decide (x < 0)) && !(decide (nI 40 < x))
def allW (n : Nat) : Int64 := ((1 : Int64) <<< ((nI n).toInt64 &&& 63)) - 1
def noW (w g : Int64) : Int64 := w &&& (g ^^^ (-1))
def vdL (v : Int64) (B : Nat → Int64) : Nat → Int32
  | 0 => nI 0
  | k + 1 => if v &&& B k = 0 then vdL v B k else vdL v B k ||| (nI 1 <<< (nI k &&& 31))
def vdI (v : Int64) (B : Nat → Int64) : Int32 := vdL v B 8
theorem vdL_bt (v : Int64) (B : Nat → Int64) : ∀ k, k ≤ 32 → ∀ i, i < 32 → bt (vdL v B k) i = (decide (i < k) && !decide (v &&& B i = 0))
  | 0, _, i, _ => by
    rw [show vdL v B 0 = 0 from rfl, b_0]
    simp
  | k + 1, hk, i, hi => by
    have ih := vdL_bt v B k (by omega) i hi
    unfold vdL
    by_cases h : v &&& B k = 0
    · rw [if_pos h, ih]
      by_cases e : i = k
      · subst e; simp [h]
      · have : (i < k + 1) = (i < k) := by apply propext; omega
        simp [this]
    · rw [if_neg h, b_or, ih]
      have h1 : bt (nI 1 <<< (nI k &&& 31)) i = decide (i = k) := by
        rw [b_shl k (by omega) (nI 1) hi]
        have : ∀ j, j < 32 → bt (nI 1) j = decide (j = 0) := by decide +kernel
        by_cases e : k ≤ i
        · rw [this (i - k) (by omega)]
          by_cases e2 : i = k
          · subst e2; simp
          · simp [e, e2]; omega
        · simp [e]; omega
      rw [h1]
      by_cases e : i = k
      · subst e; simp [h]
      · have : (i < k + 1) = (i < k) := by apply propext; omega
        simp [this, e]
/-- an int whose bits from k on are 0 is a number below 2^k -/
theorem bt_lt {x : Int32} {k : Nat} (hk : k ≤ 31) (h : ∀ i, i < 32 → k ≤ i → bt x i = false) : ∃ j, j < 2 ^ k ∧ x = nI j := by
  refine ⟨x.toBitVec.toNat, ?_, ?_⟩
  · apply Nat.lt_pow_two_of_testBit
    intro i hi
    by_cases e : i < 32
    · exact h i e hi
    · exact Nat.testBit_lt_two_pow (Nat.lt_of_lt_of_le x.toBitVec.isLt (Nat.pow_le_pow_right (by decide) (by omega)))
  · apply Int32.toBitVec_inj.1
    show x.toBitVec = BitVec.ofNat 32 x.toBitVec.toNat
    simp
theorem vdI_lt (v : Int64) (B : Nat → Int64) : ∃ j, j < 256 ∧ vdI v B = nI j := by
  refine bt_lt (k := 8) (by decide) (fun i hi h => ?_)
  unfold vdI
  rw [vdL_bt v B 8 (by decide) i hi, decide_eq_false (by omega)]
  rfl
theorem vdI_in (v : Int64) (B : Nat → Int64) : vp_in (vdI v B) 256 := by
  obtain ⟨j, h, e⟩ := vdI_lt v B
  rw [e]
  exact vp_in_nI h (by decide)
def syB (S : Nat → Bool) (B : Nat → Int64) (v : Int64) : Bool := S (vdI v B).toNatClampNeg
def mgB (S : Nat → Bool) (G B : Nat → Int64) (w : Int64) : Nat → Bool := fun a => wbit w a && (!decide (noW w (G a) = 0) && syB S B (noW w (G a)))
def fgO (S : Nat → Bool) (G B : Nat → Int64) (n : Nat) (w : Int64) : Option Nat := fst9 (mgB S G B w) n
def onL (G : Nat → Int64) : Nat → Nat → Int64
  | 0 => G
  | i + 1 => vp_updL (onL G i) i ((1 : Int64) <<< ((nI i).toInt64 &&& 63))
def goS (n : Nat) (R : Nat → Int32) (i : Nat) (g : Nat → Int64) : Nat → Int64 := if hB n (R i) = true then vp_updL g (R i).toNatClampNeg (g (R i).toNatClampNeg ||| g i) else g
/-- the rows behind the parts from i on -/
def goL (n : Nat) (R : Nat → Int32) (g : Nat → Int64) : Nat → Nat → Int64
  | 0 => g
  | k + 1 => goS n R (n - (k + 1)) (goL n R g k)
def gwG (n : Nat) (R : Nat → Int32) (G : Nat → Int64) : Nat → Int64 := goL n R (onL G n) n
def zeL (B : Nat → Int64) : Nat → Nat → Int64
  | 0 => B
  | i + 1 => vp_updL (zeL B i) i 0
def kiB (k : Int32) : Bool := !(decide (k < 0)) && !(decide (nI 7 ≤ k))
def p1S (K V : Nat → Int32) (i : Nat) (b : Nat → Int64) : Nat → Int64 := if (!(decide (V i < nI 50)) && kiB (K i)) = true then vp_updL b (K i).toNatClampNeg (b (K i).toNatClampNeg ||| ((1 : Int64) <<< ((nI i).toInt64 &&& 63))) else b
def p2S (n : Nat) (K V R : Nat → Int32) (i : Nat) (b : Nat → Int64) : Nat → Int64 := if fB n K V R (nI i) = true then vp_updL b 7 (b 7 ||| ((1 : Int64) <<< ((nI i).toInt64 &&& 63))) else b
def pbL (n : Nat) (K V R : Nat → Int32) (B : Nat → Int64) : Nat → Nat → Int64
  | 0 => B
  | i + 1 => p2S n K V R i (p1S K V i (pbL n K V R B i))
def pbB (n : Nat) (K V R : Nat → Int32) (B : Nat → Int64) : Nat → Int64 := pbL n K V R (zeL B 8) n
/-- shorter: at most k turns -/
def shW (S : Nat → Bool) (G B : Nat → Int64) (n : Nat) : Nat → Int64 → Int64
  | 0, w => w
  | k + 1, w => match fgO S G B n w with
    | none => w
    | some i => shW S G B n k (noW w (G i))
def lfQ (w : Int64) (p : Int32) : Nat → Bool := fun a => wbit w a && decide (nI (cnt (wbit w) a) = p)
theorem aB_h {n : Nat} {K : Nat → Int32} {x : Int32} (h : aB n K x = true) : hB n x = true := by
  unfold aB at h
  exact (Bool.and_eq_true_iff.mp h).1
theorem mR_1 (t : Int32) : mR (nI 1) t = decide (t = nI 0) := by unfold mR; rw [if_pos rfl]
theorem mR_2 (t : Int32) : mR (nI 2) t = false := by
  unfold mR
  rw [if_neg (by decide), if_neg (by decide), if_neg (by decide), if_neg (by decide), if_neg (by decide)]
theorem mR_3 (t : Int32) : mR (nI 3) t = decide (t = nI 0) := by unfold mR; rw [if_neg (by decide), if_pos rfl]
theorem mR_4 (t : Int32) : mR (nI 4) t = decide (t = nI 2) := by unfold mR; rw [if_neg (by decide), if_neg (by decide), if_pos rfl]
theorem mR_5 (t : Int32) : mR (nI 5) t = (decide (t = nI 1) || decide (t = nI 3) || decide (t = nI 4)) := by
  unfold mR; rw [if_neg (by decide), if_neg (by decide), if_neg (by decide), if_pos rfl]
theorem mR_6 (t : Int32) : mR (nI 6) t = (decide (t = nI 4) || decide (t = nI 5)) := by
  unfold mR; rw [if_neg (by decide), if_neg (by decide), if_neg (by decide), if_neg (by decide), if_pos rfl]
theorem mR_o {k t : Int32} (h : k.toInt < 1 ∨ 6 < k.toInt) : mR k t = false := by
  have e : ∀ j, 1 ≤ j → j ≤ 6 → ¬ k = nI j := by
    intro j h1 h2 e
    rw [e, nI_toInt (by omega)] at h
    omega
  unfold mR
  rw [if_neg (e 1 (by omega) (by omega)), if_neg (e 3 (by omega) (by omega)), if_neg (e 4 (by omega) (by omega)), if_neg (e 5 (by omega) (by omega)), if_neg (e 6 (by omega) (by omega))]
theorem lkB_no {n n' i : Nat} {K V R K' V' R' : Nat → Int32} (_ : n' = n) (hi : i < n) (h : eq3 K V R K' V' R' i = false) : nI 0 = bI (lkB n n' K V R K' V' R') := by
  have h1 : (fst9 (fun j => !(eq3 K V R K' V' R' j)) n).isNone = false := by
    cases e : fst9 (fun j => !(eq3 K V R K' V' R' j)) n with
    | none =>
      have := fst9_no e i hi
      rw [h] at this
      cases this
    | some k => rfl
  unfold lkB
  rw [h1, Bool.and_false]
  rfl
def ckI (n : Nat) (K : Nat → Int32) (p : Int32) : Int32 := if p < nI 10 ∨ ¬ p < nI 17 then -1 else nI (cnt (kP K (p - nI 10)) n)
def mnB (S : Nat → Bool) (G B : Nat → Int64) (n : Nat) (w : Int64) : Bool := !decide (w = 0) && (syB S B w && decide (oI (fgO S G B n w) = -1))
def veO (S : Nat → Bool) (p : Int32) (z : Bool) : Bool := !(decide (p < 0)) && (!(decide (nI 256 ≤ p)) && !(decide (S p.toNatClampNeg = z)))
def veS (S : Nat → Bool) (p : Int32) (z : Bool) : Nat → Bool := if veO S p z = true then uB S p.toNatClampNeg z else S
theorem in_of {x : Int32} {n : Nat} (h0 : ¬ x < 0) (h1 : ¬ nI n ≤ x) (hn : n < 2 ^ 31) : vp_in x n := by
  rcases pk_ix x hn with q | q | ⟨j, hj, rfl⟩
  · exact absurd q h0
  · exact absurd q h1
  · exact vp_in_nI hj hn
theorem in_78 {x : Int32} (h0 : ¬ x < 0) (h1 : ¬ nI 7 ≤ x) : vp_in x 8 := by
  rcases pk_ix x (n := 7) (by decide) with q | q | ⟨j, hj, rfl⟩
  · exact absurd q h0
  · exact absurd q h1
  · exact vp_in_nI (by omega) (by decide)
theorem dn_lt {k : Nat} (h : k ≤ 43) : (nI k) - (nI 1) < 0 ↔ k = 0 := by
  rcases k with _ | k
  · exact ⟨fun _ => rfl, fun _ => by decide⟩
  · have e : nI (k + 1) - nI 1 = nI k := nI_pred k
    rw [e]
    exact ⟨fun z => absurd z (nI_pos (by omega)), fun z => by omega⟩
theorem dn_inc (k : Nat) : nI k + (-1) = nI k - nI 1 := by
  rw [Int32.sub_eq_add_neg]
  rfl
theorem goL_f {n k r : Nat} {R : Nat → Int32} {g : Nat → Int64} (h : k + 1 + r = n) (c : hB n (R k) = false) : goL n R g (r + 1) = goL n R g r := by
  show goS n R (n - (r + 1)) (goL n R g r) = _
  rw [show n - (r + 1) = k by omega]
  unfold goS
  rw [c]
  rfl
theorem goL_t {n k r : Nat} {R : Nat → Int32} {g : Nat → Int64} (h : k + 1 + r = n) (c : hB n (R k) = true) : goL n R g (r + 1) = vp_updL (goL n R g r) (R k).toNatClampNeg (goL n R g r (R k).toNatClampNeg ||| goL n R g r k) := by
  show goS n R (n - (r + 1)) (goL n R g r) = _
  rw [show n - (r + 1) = k by omega]
  unfold goS
  rw [if_pos c]
def shO (S : Nat → Bool) (G B : Nat → Int64) (n : Nat) (w : Int64) : Int64 := if syB S B w = true then shW S G B n 43 w else allW n
theorem fgO_lt {S : Nat → Bool} {G B : Nat → Int64} {n i : Nat} {w : Int64} (h : fgO S G B n w = some i) : i < n := (fst9_spec h).1
theorem fg_some {S : Nat → Bool} {G B : Nat → Int64} {n : Nat} {w : Int64} (h : ¬ oI (fgO S G B n w) = -1) : ∃ i, i < n ∧ fgO S G B n w = some i := by
  cases e : fgO S G B n w with
  | none => rw [e] at h; exact absurd rfl h
  | some i => exact ⟨i, fgO_lt e, rfl⟩
theorem shW_s {S : Nat → Bool} {G B : Nat → Int64} {n r i : Nat} {v : Int64} (h : r < 43) (ho : fgO S G B n v = some i) : shW S G B n (43 - r) v = shW S G B n (43 - (r + 1)) (noW v (G i)) := by
  rw [show 43 - r = (43 - (r + 1)) + 1 by omega]
  show (match fgO S G B n v with | none => v | some i => shW S G B n (43 - (r + 1)) (noW v (G i))) = _
  rw [ho]
theorem shO_v {S : Nat → Bool} {G B : Nat → Int64} {n r : Nat} {v w : Int64} (hs : syB S B w = true) (h : shW S G B n (43 - r) v = shW S G B n 43 w) (ho : r = 43 ∨ oI (fgO S G B n v) = -1) (hn : n ≤ 43) : v = shO S G B n w := by
  unfold shO
  rw [if_pos hs, ← h]
  rcases ho with e | e
  · rw [e]; rfl
  · have e2 : fgO S G B n v = none := (oI_m1 (fun i hi => by have := fgO_lt hi; omega)).mp e
    cases hk : 43 - r with
    | zero => rfl
    | succ k =>
      show v = (match fgO S G B n v with | none => v | some i => shW S G B n k (noW v (G i)))
      rw [e2]
def ptI (K V R : Nat → Int32) (w : Int64) (i : Nat) (p : Int32) : Int32 := if p = nI 0 then K i else if p = nI 1 then nI (cnt (kP K (K i)) i) else if p = nI 2 then V i else if p = nI 3 then R i else bI (wbit w i)
section Pt
variable {K V R : Nat → Int32} {w : Int64} {i : Nat}
theorem pt_0 : ptI K V R w i (nI 0) = K i := by unfold ptI; rw [if_pos rfl]
theorem pt_1 : ptI K V R w i (nI 1) = nI (cnt (kP K (K i)) i) := by unfold ptI; rw [if_neg (by decide), if_pos rfl]
theorem pt_2 : ptI K V R w i (nI 2) = V i := by unfold ptI; rw [if_neg (by decide), if_neg (by decide), if_pos rfl]
theorem pt_3 : ptI K V R w i (nI 3) = R i := by unfold ptI; rw [if_neg (by decide), if_neg (by decide), if_neg (by decide), if_pos rfl]
theorem pt_4 : ptI K V R w i (nI 4) = bI (wbit w i) := by unfold ptI; rw [if_neg (by decide), if_neg (by decide), if_neg (by decide), if_neg (by decide)]
end Pt
theorem szB_nI {z : Nat} (h : z ≤ 40) : szB (nI z) = true := by
  unfold szB
  rw [decide_eq_false (nI_pos (by omega)), decide_eq_false (nI_nlt h (by decide))]
  rfl
theorem szB_of {x : Int32} (h : szB x = true) : ∃ z, z ≤ 40 ∧ x = nI z := by
  unfold szB at h
  simp only [Bool.and_eq_true, Bool.not_eq_true', decide_eq_false_iff_not] at h
  obtain ⟨j, hj, rfl⟩ := nI_of h.1
  have h2 := (not_congr (nI_ltI (by decide) hj)).mp h.2
  exact ⟨j, by omega, rfl⟩
def ctI (n : Nat) (K : Nat → Int32) (B : Nat → Int64) (S : Nat → Bool) (w : Int64) (p : Int32) : Int32 := if p = nI 0 then nI n else if p = nI 1 then nI (cnt (wbit w) 64) else if p = nI 2 then nI (cnt (kP K (nI 5)) n) else if p = nI 3 then nI (cnt (wbit (B 7)) 64) else if p = nI 4 then nI (cnt S 256) else ckI n K p
section Ct
variable {n : Nat} {K : Nat → Int32} {B : Nat → Int64} {S : Nat → Bool} {w : Int64} {p : Int32}
theorem ct_0 : ctI n K B S w (nI 0) = nI n := by unfold ctI; rw [if_pos rfl]
theorem ct_1 : ctI n K B S w (nI 1) = nI (cnt (wbit w) 64) := by unfold ctI; rw [if_neg (by decide), if_pos rfl]
theorem ct_2 : ctI n K B S w (nI 2) = nI (cnt (kP K (nI 5)) n) := by unfold ctI; rw [if_neg (by decide), if_neg (by decide), if_pos rfl]
theorem ct_3 : ctI n K B S w (nI 3) = nI (cnt (wbit (B 7)) 64) := by unfold ctI; rw [if_neg (by decide), if_neg (by decide), if_neg (by decide), if_pos rfl]
theorem ct_4 : ctI n K B S w (nI 4) = nI (cnt S 256) := by unfold ctI; rw [if_neg (by decide), if_neg (by decide), if_neg (by decide), if_neg (by decide), if_pos rfl]
theorem ct_o (h : p.toInt < 0 ∨ 4 < p.toInt) : ctI n K B S w p = ckI n K p := by
  have e : ∀ j, j ≤ 4 → ¬ p = nI j := by
    intro j h2 e
    rw [e, nI_toInt (by omega)] at h
    omega
  unfold ctI
  rw [if_neg (e 0 (by omega)), if_neg (e 1 (by omega)), if_neg (e 2 (by omega)), if_neg (e 3 (by omega)), if_neg (e 4 (by omega))]
end Ct
theorem vdL_z {v : Int64} {B : Nat → Int64} {k : Nat} (h : v &&& B k = 0) : vdL v B (k + 1) = vdL v B k := if_pos h
theorem vdL_n {v : Int64} {B : Nat → Int64} {k : Nat} (h : ¬ v &&& B k = 0) : vdL v B (k + 1) = vdL v B k ||| (nI 1 <<< (nI k &&& 31)) := if_neg h
end
section
/-! PURE: what goes with a part, bit by bit; which parts have a verdict's bit -/
def gwI (n : Nat) (R : Nat → Int32) (k t : Nat) (m : Nat) : Bool :=
  decide (m = t) || (decide (k ≤ m) && (hB n (R m) && (if h : (R m).toNatClampNeg < m then gwI n R k t (R m).toNatClampNeg else false)))
termination_by m
def rOK (n : Nat) (R : Nat → Int32) : Prop := ∀ m, m < n → hB n (R m) = true → (R m).toNatClampNeg < m
theorem gwI_lt {n k t m : Nat} {R : Nat → Int32} (h : m < k) : gwI n R k t m = decide (m = t) := by
  rw [gwI, decide_eq_false (by omega : ¬ k ≤ m)]
  simp
theorem gwI_f {n k t m : Nat} {R : Nat → Int32} (h : hB n (R m) = false) : gwI n R k t m = decide (m = t) := by
  rw [gwI, h]
  simp
theorem gwI_t {n k t m : Nat} {R : Nat → Int32} (hk : k ≤ m) (h : hB n (R m) = true) (hl : (R m).toNatClampNeg < m) : gwI n R k t m = (decide (m = t) || gwI n R k t (R m).toNatClampNeg) := by
  rw [gwI, h, decide_eq_true hk, dif_pos hl]
  simp
theorem gwI_step {n k t : Nat} {R : Nat → Int32} (hR : rOK n R) (hk : k < n) : ∀ m, m < n → gwI n R k t m = (gwI n R (k + 1) t m || (decide (t = (R k).toNatClampNeg) && (hB n (R k) && gwI n R (k + 1) k m))) := by
  intro m
  induction m using Nat.strongRecOn with
  | ind m ih =>
    intro hm
    rcases Nat.lt_trichotomy m k with h | h | h
    · rw [gwI_lt h, gwI_lt (by omega), gwI_lt (by omega), decide_eq_false (by omega : ¬ m = k)]
      simp
    · subst h
      rw [gwI_lt (k := m + 1) (t := t) (by omega), gwI_lt (k := m + 1) (t := m) (by omega), decide_eq_true (rfl : m = m)]
      cases hb : hB n (R m)
      · rw [gwI_f hb]; simp
      · have hl := hR m hm hb
        rw [gwI_t (Nat.le_refl m) hb hl, gwI_lt hl]
        have e : decide ((R m).toNatClampNeg = t) = decide (t = (R m).toNatClampNeg) := by
          by_cases e : t = (R m).toNatClampNeg
          · rw [decide_eq_true e, decide_eq_true e.symm]
          · rw [decide_eq_false e, decide_eq_false (fun z => e z.symm)]
        rw [e]
        simp
    · cases hb : hB n (R m)
      · rw [gwI_f hb, gwI_f hb, gwI_f hb, decide_eq_false (by omega : ¬ m = k)]
        simp
      · have hl := hR m hm hb
        rw [gwI_t (by omega) hb hl, gwI_t (k := k + 1) (t := t) (by omega) hb hl, gwI_t (k := k + 1) (t := k) (by omega) hb hl, decide_eq_false (by omega : ¬ m = k), ih _ hl (by omega)]
        generalize gwI n R (k + 1) t (R m).toNatClampNeg = a
        generalize gwI n R (k + 1) k (R m).toNatClampNeg = b
        generalize decide (m = t) = c
        generalize decide (t = (R k).toNatClampNeg) = d
        generalize hB n (R k) = e
        cases a <;> cases b <;> cases c <;> cases d <;> cases e <;> rfl
theorem onL_at (G : Nat → Int64) : ∀ i t, t < i → onL G i t = ((1 : Int64) <<< ((nI t).toInt64 &&& 63))
  | 0, t, h => absurd h (Nat.not_lt_zero _)
  | i + 1, t, h => by
    show vp_updL (onL G i) i ((1 : Int64) <<< ((nI i).toInt64 &&& 63)) t = _
    by_cases e : t = i
    · subst e; exact pk_uLs
    · rw [pk_uLn e]; exact onL_at G i t (by omega)
theorem goL_bit {n : Nat} {R : Nat → Int32} {G : Nat → Int64} (hn : n ≤ 43) (hR : rOK n R) : ∀ r k, k + r = n → ∀ t, t < n → ∀ m, m < 64 → wbit (goL n R (onL G n) r t) m = (decide (m < n) && gwI n R k t m) := by
  intro r
  induction r with
  | zero =>
    intro k hk t ht m hm
    show wbit (onL G n t) m = _
    rw [onL_at G n t ht, wbit_one t (by omega) m hm]
    by_cases h : m < n
    · rw [gwI_lt (by omega), decide_eq_true h]; rfl
    · rw [decide_eq_false h, decide_eq_false (by omega)]; rfl
  | succ r ih =>
    intro k hk t ht m hm
    have h0 := ih (k + 1) (by omega)
    by_cases h : m < n
    · have hs := gwI_step (t := t) hR (by omega : k < n) m h
      cases hb : hB n (R k)
      · rw [goL_f (by omega : k + 1 + r = n) hb, h0 t ht m hm, hs, hb]
        simp
      · have hl := hR k (by omega) hb
        rw [goL_t (by omega : k + 1 + r = n) hb, hs, hb]
        by_cases e : t = (R k).toNatClampNeg
        · rw [← e, pk_uLs, wbit_or, h0 t ht m hm, h0 k (by omega) m hm, decide_eq_true h, decide_eq_true (rfl : t = t)]
          simp
        · rw [pk_uLn e, h0 t ht m hm, decide_eq_false e]
          simp
    · rw [decide_eq_false h]
      cases hb : hB n (R k)
      · rw [goL_f (by omega : k + 1 + r = n) hb, h0 t ht m hm, decide_eq_false h]
        simp
      · have hl := hR k (by omega) hb
        rw [goL_t (by omega : k + 1 + r = n) hb]
        by_cases e : t = (R k).toNatClampNeg
        · rw [← e, pk_uLs, wbit_or, h0 t ht m hm, h0 k (by omega) m hm, decide_eq_false h]
          simp
        · rw [pk_uLn e, h0 t ht m hm, decide_eq_false h]
          simp
theorem gwG_bit {n : Nat} {R : Nat → Int32} {G : Nat → Int64} (hn : n ≤ 43) (hR : rOK n R) {t m : Nat} (ht : t < n) (hm : m < 64) : wbit (gwG n R G t) m = (decide (m < n) && gwI n R 0 t m) := goL_bit hn hR n 0 (by omega) t ht m hm
theorem zeL_at (B : Nat → Int64) : ∀ i b, b < i → zeL B i b = 0
  | 0, _, h => absurd h (Nat.not_lt_zero _)
  | i + 1, b, h => by
    show vp_updL (zeL B i) i 0 b = 0
    by_cases e : b = i
    · subst e; exact pk_uLs
    · rw [pk_uLn e]; exact zeL_at B i b (by omega)
theorem kiB_of {k : Int32} (h : kiB k = true) : ∃ j, j < 7 ∧ k = nI j := hB_of (n := 7) h (by decide)
/-- has part i the verdict's bit b -/
def pq9 (n : Nat) (K V R : Nat → Int32) (b i : Nat) : Bool := if b = 7 then fB n K V R (nI i) else (!(decide (V i < nI 50)) && decide (K i = nI b))
theorem p1S_7 (K V : Nat → Int32) (i : Nat) (g : Nat → Int64) : p1S K V i g 7 = g 7 := by
  unfold p1S
  by_cases h : (!(decide (V i < nI 50)) && kiB (K i)) = true
  · rw [if_pos h]
    obtain ⟨j, hj, e⟩ := kiB_of (Bool.and_eq_true_iff.mp h).2
    rw [e, nI_clamp (by omega), pk_uLn (by omega)]
  · rw [if_neg h]
theorem p1S_b {K V : Nat → Int32} {i b : Nat} {g : Nat → Int64} (hb : b < 7) (m : Nat) : wbit (p1S K V i g b) m = (wbit (g b) m || ((!(decide (V i < nI 50)) && decide (K i = nI b)) && wbit ((1 : Int64) <<< ((nI i).toInt64 &&& 63)) m)) := by
  unfold p1S
  by_cases h : (!(decide (V i < nI 50)) && kiB (K i)) = true
  · rw [if_pos h]
    obtain ⟨h1, h2⟩ := Bool.and_eq_true_iff.mp h
    obtain ⟨j, hj, e⟩ := kiB_of h2
    rw [h1, e, nI_clamp (by omega)]
    by_cases e2 : b = j
    · subst e2
      rw [pk_uLs, wbit_or, decide_eq_true (rfl : nI b = nI b)]
      simp
    · rw [pk_uLn e2, decide_eq_false (fun z => e2 ((nI_eq (by omega) (by omega)).mp z).symm)]
      simp
  · rw [if_neg h]
    have h3 : (!(decide (V i < nI 50)) && decide (K i = nI b)) = false := by
      cases hv : (!(decide (V i < nI 50)))
      · rfl
      · rw [hv] at h
        by_cases e : K i = nI b
        · exfalso
          apply h
          rw [e]
          exact hB_nI (n := 7) hb (by decide)
        · rw [decide_eq_false e]; rfl
    rw [h3]
    simp
theorem p2S_b {n : Nat} {K V R : Nat → Int32} {i b : Nat} {g : Nat → Int64} (hb : b < 7) : p2S n K V R i g b = g b := by
  unfold p2S
  by_cases h : fB n K V R (nI i) = true
  · rw [if_pos h, pk_uLn (by omega)]
  · rw [if_neg h]
theorem p2S_7 {n : Nat} {K V R : Nat → Int32} {i : Nat} {g : Nat → Int64} (m : Nat) : wbit (p2S n K V R i g 7) m = (wbit (g 7) m || (fB n K V R (nI i) && wbit ((1 : Int64) <<< ((nI i).toInt64 &&& 63)) m)) := by
  unfold p2S
  cases h : fB n K V R (nI i)
  · simp
  · rw [if_pos rfl, pk_uLs, wbit_or]
    simp
theorem pbL_bit {n : Nat} {K V R : Nat → Int32} {B : Nat → Int64} {b : Nat} (hb : b < 8) : ∀ i0, i0 ≤ 43 → ∀ m, m < 64 → wbit (pbL n K V R (zeL B 8) i0 b) m = (decide (m < i0) && pq9 n K V R b m) := by
  intro i0
  induction i0 with
  | zero =>
    intro _ m _
    show wbit (zeL B 8 b) m = _
    rw [zeL_at B 8 b hb, wbit_0]
    simp
  | succ i ih =>
    intro hi m hm
    have h0 := ih (by omega) m hm
    show wbit (p2S n K V R i (p1S K V i (pbL n K V R (zeL B 8) i)) b) m = _
    have hone := wbit_one i (by omega) m hm
    have hsp : (decide (m < i + 1) && pq9 n K V R b m) = ((decide (m < i) && pq9 n K V R b m) || (pq9 n K V R b i && decide (m = i))) := by
      rcases Nat.lt_trichotomy m i with h | h | h
      · rw [decide_eq_true (by omega : m < i + 1), decide_eq_true h, decide_eq_false (by omega : ¬ m = i)]
        simp
      · subst h
        rw [decide_eq_true (by omega : m < m + 1), decide_eq_false (by omega : ¬ m < m), decide_eq_true rfl]
        simp
      · rw [decide_eq_false (by omega : ¬ m < i + 1), decide_eq_false (by omega : ¬ m < i), decide_eq_false (by omega : ¬ m = i)]
        simp
    rw [hsp]
    by_cases e : b = 7
    · subst e
      rw [p2S_7, p1S_7, h0, hone]
      rfl
    · rw [p2S_b (by omega), p1S_b (by omega), h0, hone]
      unfold pq9
      rw [if_neg e, if_neg e]
theorem pbB_bit {n : Nat} {K V R : Nat → Int32} {B : Nat → Int64} {b m : Nat} (hn : n ≤ 43) (hb : b < 8) (hm : m < 64) : wbit (pbB n K V R B b) m = (decide (m < n) && pq9 n K V R b m) := pbL_bit hb n hn m hm
/-- has some place below n Q -/
def anB (Q : Nat → Bool) (n : Nat) : Bool := decide (0 < cnt Q n)
theorem anB_t {Q : Nat → Bool} {n i : Nat} (hi : i < n) (h : Q i = true) : anB Q n = true := decide_eq_true (cnt_pos hi h)
theorem anB_f {Q : Nat → Bool} {n : Nat} (h : ∀ i, i < n → Q i = false) : anB Q n = false := by
  unfold anB
  rw [cnt_0 h]
  rfl
theorem anB_of {Q : Nat → Bool} {n : Nat} (h : anB Q n = true) : ∃ i, i < n ∧ Q i = true := by
  cases e : fst9 Q n with
  | none => rw [anB_f (fst9_no e)] at h; cases h
  | some i => exact ⟨i, (fst9_spec e).1, (fst9_spec e).2.1⟩
theorem anB_congr {P Q : Nat → Bool} {n : Nat} (h : ∀ j, j < n → P j = Q j) : anB P n = anB Q n := by
  unfold anB
  rw [cnt_congr h]
theorem and_z {v u : Int64} {n : Nat} {P Q : Nat → Bool} (hn : n ≤ 64) (hv : ∀ m, m < 64 → wbit v m = (decide (m < n) && P m)) (hu : ∀ m, m < 64 → wbit u m = (decide (m < n) && Q m)) : decide (v &&& u = 0) = !(anB (fun m => P m && Q m) n) := by
  cases e : anB (fun m => P m && Q m) n
  · have h : v &&& u = 0 := wbit_z.mpr (fun m hm => by
      rw [wbit_and, hv m hm, hu m hm]
      by_cases h : m < n
      · cases hp : P m <;> cases hq : Q m <;> simp
        rw [anB_t (Q := fun m => P m && Q m) h (by simp [hp, hq])] at e
        cases e
      · rw [decide_eq_false h]; rfl)
    rw [decide_eq_true h]
    rfl
  · obtain ⟨i, hi, h⟩ := anB_of e
    have h2 : ¬ v &&& u = 0 := fun z => by
      have h3 := wbit_z.mp z i (by omega)
      rw [wbit_and, hv i (by omega), hu i (by omega), decide_eq_true hi] at h3
      simp only [Bool.true_and] at h3
      rw [h] at h3
      cases h3
    rw [decide_eq_false h2]
    rfl
end
section
theorem m_107 : (Jvm.Cond.constantLong "java/lang/Long" (314 : Nat) (6148914691236517205 : Int64)) ∈ tblG := m_t (i := 107) rfl rfl
theorem m_108 : (Jvm.Cond.constantLong "java/lang/Long" (316 : Nat) (3689348814741910323 : Int64)) ∈ tblG := m_t (i := 108) rfl rfl
theorem m_109 : (Jvm.Cond.constantLong "java/lang/Long" (318 : Nat) (1085102592571150095 : Int64)) ∈ tblG := m_t (i := 109) rfl rfl
theorem m_30 : (Jvm.Cond.methodLink "PortDrawer$Tape" (3 : Nat) ({ cls := "java/lang/Object", name := "<init>", desc := "()V" } : Jvm.MethodName)) ∈ tblG := m_t (i := 30) rfl rfl
theorem m_17 : (Jvm.Cond.instanceMethod ({ cls := "java/lang/Object", name := "<init>", desc := "()V" } : Jvm.MethodName)) ∈ tblG := m_t (i := 17) rfl rfl
theorem m_18 : (Jvm.Cond.code ({ cls := "java/lang/Object", name := "<init>", desc := "()V" } : Jvm.MethodName) object_method_1_code (1 : Nat) (Option.none : Option Jvm.ClassFile.FieldType)) ∈ tblG := m_t (i := 18) rfl rfl
theorem m_31 : (Jvm.Cond.fieldLink "PortDrawer$Tape" (9 : Nat) "PortDrawer$Tape" "x" "J") ∈ tblG := m_t (i := 31) rfl rfl
theorem m_243 : (Jvm.Cond.constantLong "PortDrawer$Tape" (15 : Nat) (6364136223846793005 : Int64)) ∈ tblG := m_t (i := 243) rfl rfl
theorem m_244 : (Jvm.Cond.constantLong "PortDrawer$Tape" (17 : Nat) (1442695040888963407 : Int64)) ∈ tblG := m_t (i := 244) rfl rfl
theorem d_J_bitCount_0 : decode b_J_bitCount 0 = .ok (.lload_n 0, 1) := by decide +kernel
theorem d_J_bitCount_1 : decode b_J_bitCount 1 = .ok (.lload_n 0, 1) := by decide +kernel
theorem d_J_bitCount_2 : decode b_J_bitCount 2 = .ok (.iconst 1, 1) := by decide +kernel
theorem d_J_bitCount_3 : decode b_J_bitCount 3 = .ok (.lushr, 1) := by decide +kernel
theorem d_J_bitCount_4 : decode b_J_bitCount 4 = .ok (.ldc2_w 314, 3) := by decide +kernel
theorem d_J_bitCount_7 : decode b_J_bitCount 7 = .ok (.land, 1) := by decide +kernel
theorem d_J_bitCount_8 : decode b_J_bitCount 8 = .ok (.lsub, 1) := by decide +kernel
theorem d_J_bitCount_9 : decode b_J_bitCount 9 = .ok (.lstore_n 0, 1) := by decide +kernel
theorem d_J_bitCount_10 : decode b_J_bitCount 10 = .ok (.lload_n 0, 1) := by decide +kernel
theorem d_J_bitCount_11 : decode b_J_bitCount 11 = .ok (.ldc2_w 316, 3) := by decide +kernel
theorem d_J_bitCount_14 : decode b_J_bitCount 14 = .ok (.land, 1) := by decide +kernel
theorem d_J_bitCount_15 : decode b_J_bitCount 15 = .ok (.lload_n 0, 1) := by decide +kernel
theorem d_J_bitCount_16 : decode b_J_bitCount 16 = .ok (.iconst 2, 1) := by decide +kernel
theorem d_J_bitCount_17 : decode b_J_bitCount 17 = .ok (.lushr, 1) := by decide +kernel
theorem d_J_bitCount_18 : decode b_J_bitCount 18 = .ok (.ldc2_w 316, 3) := by decide +kernel
theorem d_J_bitCount_21 : decode b_J_bitCount 21 = .ok (.land, 1) := by decide +kernel
theorem d_J_bitCount_22 : decode b_J_bitCount 22 = .ok (.ladd, 1) := by decide +kernel
theorem d_J_bitCount_23 : decode b_J_bitCount 23 = .ok (.lstore_n 0, 1) := by decide +kernel
theorem d_J_bitCount_24 : decode b_J_bitCount 24 = .ok (.lload_n 0, 1) := by decide +kernel
theorem d_J_bitCount_25 : decode b_J_bitCount 25 = .ok (.lload_n 0, 1) := by decide +kernel
theorem d_J_bitCount_26 : decode b_J_bitCount 26 = .ok (.iconst 4, 1) := by decide +kernel
theorem d_J_bitCount_27 : decode b_J_bitCount 27 = .ok (.lushr, 1) := by decide +kernel
theorem d_J_bitCount_28 : decode b_J_bitCount 28 = .ok (.ladd, 1) := by decide +kernel
theorem d_J_bitCount_29 : decode b_J_bitCount 29 = .ok (.ldc2_w 318, 3) := by decide +kernel
theorem d_J_bitCount_32 : decode b_J_bitCount 32 = .ok (.land, 1) := by decide +kernel
theorem d_J_bitCount_33 : decode b_J_bitCount 33 = .ok (.lstore_n 0, 1) := by decide +kernel
theorem d_J_bitCount_34 : decode b_J_bitCount 34 = .ok (.lload_n 0, 1) := by decide +kernel
theorem d_J_bitCount_35 : decode b_J_bitCount 35 = .ok (.lload_n 0, 1) := by decide +kernel
theorem d_J_bitCount_36 : decode b_J_bitCount 36 = .ok (.bipush 8, 2) := by decide +kernel
theorem d_J_bitCount_38 : decode b_J_bitCount 38 = .ok (.lushr, 1) := by decide +kernel
theorem d_J_bitCount_39 : decode b_J_bitCount 39 = .ok (.ladd, 1) := by decide +kernel
theorem d_J_bitCount_40 : decode b_J_bitCount 40 = .ok (.lstore_n 0, 1) := by decide +kernel
theorem d_J_bitCount_41 : decode b_J_bitCount 41 = .ok (.lload_n 0, 1) := by decide +kernel
theorem d_J_bitCount_42 : decode b_J_bitCount 42 = .ok (.lload_n 0, 1) := by decide +kernel
theorem d_J_bitCount_43 : decode b_J_bitCount 43 = .ok (.bipush 16, 2) := by decide +kernel
theorem d_J_bitCount_45 : decode b_J_bitCount 45 = .ok (.lushr, 1) := by decide +kernel
theorem d_J_bitCount_46 : decode b_J_bitCount 46 = .ok (.ladd, 1) := by decide +kernel
theorem d_J_bitCount_47 : decode b_J_bitCount 47 = .ok (.lstore_n 0, 1) := by decide +kernel
theorem d_J_bitCount_48 : decode b_J_bitCount 48 = .ok (.lload_n 0, 1) := by decide +kernel
theorem d_J_bitCount_49 : decode b_J_bitCount 49 = .ok (.lload_n 0, 1) := by decide +kernel
theorem d_J_bitCount_50 : decode b_J_bitCount 50 = .ok (.bipush 32, 2) := by decide +kernel
theorem d_J_bitCount_52 : decode b_J_bitCount 52 = .ok (.lushr, 1) := by decide +kernel
theorem d_J_bitCount_53 : decode b_J_bitCount 53 = .ok (.ladd, 1) := by decide +kernel
theorem d_J_bitCount_54 : decode b_J_bitCount 54 = .ok (.lstore_n 0, 1) := by decide +kernel
theorem d_J_bitCount_55 : decode b_J_bitCount 55 = .ok (.lload_n 0, 1) := by decide +kernel
theorem d_J_bitCount_56 : decode b_J_bitCount 56 = .ok (.l2i, 1) := by decide +kernel
theorem d_J_bitCount_57 : decode b_J_bitCount 57 = .ok (.bipush 127, 2) := by decide +kernel
theorem d_J_bitCount_59 : decode b_J_bitCount 59 = .ok (.iand, 1) := by decide +kernel
theorem d_J_bitCount_60 : decode b_J_bitCount 60 = .ok (.ireturn, 1) := by decide +kernel
theorem d_T_init_0 : decode b_T_init 0 = .ok (.aload_n 0, 1) := by decide +kernel
theorem d_T_init_1 : decode b_T_init 1 = .ok (.invokespecial 3, 3) := by decide +kernel
theorem d_T_init_4 : decode b_T_init 4 = .ok (.aload_n 0, 1) := by decide +kernel
theorem d_T_init_5 : decode b_T_init 5 = .ok (.lconst 0, 1) := by decide +kernel
theorem d_T_init_6 : decode b_T_init 6 = .ok (.putfield 9, 3) := by decide +kernel
theorem d_T_init_9 : decode b_T_init 9 = .ok (.return_, 1) := by decide +kernel
theorem d_T_rewind_0 : decode b_T_rewind 0 = .ok (.aload_n 0, 1) := by decide +kernel
theorem d_T_rewind_1 : decode b_T_rewind 1 = .ok (.lload_n 1, 1) := by decide +kernel
theorem d_T_rewind_2 : decode b_T_rewind 2 = .ok (.putfield 9, 3) := by decide +kernel
theorem d_T_rewind_5 : decode b_T_rewind 5 = .ok (.return_, 1) := by decide +kernel
theorem d_T_numberBelow_0 : decode b_T_numberBelow 0 = .ok (.iload_n 1, 1) := by decide +kernel
theorem d_T_numberBelow_1 : decode b_T_numberBelow 1 = .ok (.iconst 1, 1) := by decide +kernel
theorem d_T_numberBelow_2 : decode b_T_numberBelow 2 = .ok (.if_icmp .ge 5, 3) := by decide +kernel
theorem d_T_numberBelow_5 : decode b_T_numberBelow 5 = .ok (.iconst (-1), 1) := by decide +kernel
theorem d_T_numberBelow_6 : decode b_T_numberBelow 6 = .ok (.ireturn, 1) := by decide +kernel
theorem d_T_numberBelow_7 : decode b_T_numberBelow 7 = .ok (.aload_n 0, 1) := by decide +kernel
theorem d_T_numberBelow_8 : decode b_T_numberBelow 8 = .ok (.aload_n 0, 1) := by decide +kernel
theorem d_T_numberBelow_9 : decode b_T_numberBelow 9 = .ok (.getfield 9, 3) := by decide +kernel
theorem d_T_numberBelow_12 : decode b_T_numberBelow 12 = .ok (.ldc2_w 15, 3) := by decide +kernel
theorem d_T_numberBelow_15 : decode b_T_numberBelow 15 = .ok (.lmul, 1) := by decide +kernel
theorem d_T_numberBelow_16 : decode b_T_numberBelow 16 = .ok (.ldc2_w 17, 3) := by decide +kernel
theorem d_T_numberBelow_19 : decode b_T_numberBelow 19 = .ok (.ladd, 1) := by decide +kernel
theorem d_T_numberBelow_20 : decode b_T_numberBelow 20 = .ok (.putfield 9, 3) := by decide +kernel
theorem d_T_numberBelow_23 : decode b_T_numberBelow 23 = .ok (.aload_n 0, 1) := by decide +kernel
theorem d_T_numberBelow_24 : decode b_T_numberBelow 24 = .ok (.getfield 9, 3) := by decide +kernel
theorem d_T_numberBelow_27 : decode b_T_numberBelow 27 = .ok (.bipush 33, 2) := by decide +kernel
theorem d_T_numberBelow_29 : decode b_T_numberBelow 29 = .ok (.lushr, 1) := by decide +kernel
theorem d_T_numberBelow_30 : decode b_T_numberBelow 30 = .ok (.l2i, 1) := by decide +kernel
theorem d_T_numberBelow_31 : decode b_T_numberBelow 31 = .ok (.iload_n 1, 1) := by decide +kernel
theorem d_T_numberBelow_32 : decode b_T_numberBelow 32 = .ok (.irem, 1) := by decide +kernel
theorem d_T_numberBelow_33 : decode b_T_numberBelow 33 = .ok (.ireturn, 1) := by decide +kernel
theorem d_D_mayRefer_0 : decode b_D_mayRefer 0 = .ok (.iload_n 0, 1) := by decide +kernel
theorem d_D_mayRefer_1 : decode b_D_mayRefer 1 = .ok (.tableswitch 97 1 6 #[39, 97, 39, 49, 60, 81], 39) := by decide +kernel
theorem d_D_mayRefer_40 : decode b_D_mayRefer 40 = .ok (.iload_n 1, 1) := by decide +kernel
theorem d_D_mayRefer_41 : decode b_D_mayRefer 41 = .ok (.ifCond .ne 7, 3) := by decide +kernel
theorem d_D_mayRefer_44 : decode b_D_mayRefer 44 = .ok (.iconst 1, 1) := by decide +kernel
theorem d_D_mayRefer_45 : decode b_D_mayRefer 45 = .ok (.goto 4, 3) := by decide +kernel
theorem d_D_mayRefer_48 : decode b_D_mayRefer 48 = .ok (.iconst 0, 1) := by decide +kernel
theorem d_D_mayRefer_49 : decode b_D_mayRefer 49 = .ok (.ireturn, 1) := by decide +kernel
theorem d_D_mayRefer_50 : decode b_D_mayRefer 50 = .ok (.iload_n 1, 1) := by decide +kernel
theorem d_D_mayRefer_51 : decode b_D_mayRefer 51 = .ok (.iconst 2, 1) := by decide +kernel
theorem d_D_mayRefer_52 : decode b_D_mayRefer 52 = .ok (.if_icmp .ne 7, 3) := by decide +kernel
theorem d_D_mayRefer_55 : decode b_D_mayRefer 55 = .ok (.iconst 1, 1) := by decide +kernel
theorem d_D_mayRefer_56 : decode b_D_mayRefer 56 = .ok (.goto 4, 3) := by decide +kernel
theorem d_D_mayRefer_59 : decode b_D_mayRefer 59 = .ok (.iconst 0, 1) := by decide +kernel
theorem d_D_mayRefer_60 : decode b_D_mayRefer 60 = .ok (.ireturn, 1) := by decide +kernel
theorem d_D_mayRefer_61 : decode b_D_mayRefer 61 = .ok (.iload_n 1, 1) := by decide +kernel
theorem d_D_mayRefer_62 : decode b_D_mayRefer 62 = .ok (.iconst 1, 1) := by decide +kernel
theorem d_D_mayRefer_63 : decode b_D_mayRefer 63 = .ok (.if_icmp .eq 13, 3) := by decide +kernel
theorem d_D_mayRefer_66 : decode b_D_mayRefer 66 = .ok (.iload_n 1, 1) := by decide +kernel
theorem d_D_mayRefer_67 : decode b_D_mayRefer 67 = .ok (.iconst 3, 1) := by decide +kernel
theorem d_D_mayRefer_68 : decode b_D_mayRefer 68 = .ok (.if_icmp .eq 8, 3) := by decide +kernel
theorem d_D_mayRefer_71 : decode b_D_mayRefer 71 = .ok (.iload_n 1, 1) := by decide +kernel
theorem d_D_mayRefer_72 : decode b_D_mayRefer 72 = .ok (.iconst 4, 1) := by decide +kernel
theorem d_D_mayRefer_73 : decode b_D_mayRefer 73 = .ok (.if_icmp .ne 7, 3) := by decide +kernel
theorem d_D_mayRefer_76 : decode b_D_mayRefer 76 = .ok (.iconst 1, 1) := by decide +kernel
theorem d_D_mayRefer_77 : decode b_D_mayRefer 77 = .ok (.goto 4, 3) := by decide +kernel
theorem d_D_mayRefer_80 : decode b_D_mayRefer 80 = .ok (.iconst 0, 1) := by decide +kernel
theorem d_D_mayRefer_81 : decode b_D_mayRefer 81 = .ok (.ireturn, 1) := by decide +kernel
theorem d_D_mayRefer_82 : decode b_D_mayRefer 82 = .ok (.iload_n 1, 1) := by decide +kernel
theorem d_D_mayRefer_83 : decode b_D_mayRefer 83 = .ok (.iconst 4, 1) := by decide +kernel
theorem d_D_mayRefer_84 : decode b_D_mayRefer 84 = .ok (.if_icmp .eq 8, 3) := by decide +kernel
theorem d_D_mayRefer_87 : decode b_D_mayRefer 87 = .ok (.iload_n 1, 1) := by decide +kernel
theorem d_D_mayRefer_88 : decode b_D_mayRefer 88 = .ok (.iconst 5, 1) := by decide +kernel
theorem d_D_mayRefer_89 : decode b_D_mayRefer 89 = .ok (.if_icmp .ne 7, 3) := by decide +kernel
theorem d_D_mayRefer_92 : decode b_D_mayRefer 92 = .ok (.iconst 1, 1) := by decide +kernel
theorem d_D_mayRefer_93 : decode b_D_mayRefer 93 = .ok (.goto 4, 3) := by decide +kernel
theorem d_D_mayRefer_96 : decode b_D_mayRefer 96 = .ok (.iconst 0, 1) := by decide +kernel
theorem d_D_mayRefer_97 : decode b_D_mayRefer 97 = .ok (.ireturn, 1) := by decide +kernel
theorem d_D_mayRefer_98 : decode b_D_mayRefer 98 = .ok (.iconst 0, 1) := by decide +kernel
theorem d_D_mayRefer_99 : decode b_D_mayRefer 99 = .ok (.ireturn, 1) := by decide +kernel
theorem d_D_isIn_0 : decode b_D_isIn 0 = .ok (.lload_n 0, 1) := by decide +kernel
theorem d_D_isIn_1 : decode b_D_isIn 1 = .ok (.iload_n 2, 1) := by decide +kernel
theorem d_D_isIn_2 : decode b_D_isIn 2 = .ok (.lushr, 1) := by decide +kernel
theorem d_D_isIn_3 : decode b_D_isIn 3 = .ok (.lconst 1, 1) := by decide +kernel
theorem d_D_isIn_4 : decode b_D_isIn 4 = .ok (.land, 1) := by decide +kernel
theorem d_D_isIn_5 : decode b_D_isIn 5 = .ok (.lconst 0, 1) := by decide +kernel
theorem d_D_isIn_6 : decode b_D_isIn 6 = .ok (.lcmp, 1) := by decide +kernel
theorem d_D_isIn_7 : decode b_D_isIn 7 = .ok (.ifCond .eq 7, 3) := by decide +kernel
theorem d_D_isIn_10 : decode b_D_isIn 10 = .ok (.iconst 1, 1) := by decide +kernel
theorem d_D_isIn_11 : decode b_D_isIn 11 = .ok (.goto 4, 3) := by decide +kernel
theorem d_D_isIn_14 : decode b_D_isIn 14 = .ok (.iconst 0, 1) := by decide +kernel
theorem d_D_isIn_15 : decode b_D_isIn 15 = .ok (.ireturn, 1) := by decide +kernel
theorem d_D_isSize_0 : decode b_D_isSize 0 = .ok (.iload_n 0, 1) := by decide +kernel
theorem d_D_isSize_1 : decode b_D_isSize 1 = .ok (.ifCond .lt 13, 3) := by decide +kernel
theorem d_D_isSize_4 : decode b_D_isSize 4 = .ok (.iload_n 0, 1) := by decide +kernel
theorem d_D_isSize_5 : decode b_D_isSize 5 = .ok (.bipush 40, 2) := by decide +kernel
theorem d_D_isSize_7 : decode b_D_isSize 7 = .ok (.if_icmp .gt 7, 3) := by decide +kernel
theorem d_D_isSize_10 : decode b_D_isSize 10 = .ok (.iconst 1, 1) := by decide +kernel
theorem d_D_isSize_11 : decode b_D_isSize 11 = .ok (.goto 4, 3) := by decide +kernel
theorem d_D_isSize_14 : decode b_D_isSize 14 = .ok (.iconst 0, 1) := by decide +kernel
theorem d_D_isSize_15 : decode b_D_isSize 15 = .ok (.ireturn, 1) := by decide +kernel
set_option maxHeartbeats 4000000 in
set_option maxRecDepth 100000 in
/-- Long.bitCount: how many bits -/
theorem c_J_bitCount (l : Launch) (dC : Nat → ClassId) (dI : Nat → Nat → Nat) (x : Int64)  : Met l y_J_bitCount w_J_bitCount ({ frames := 0, cells := 0, slots := 0, locals := 0 }) (ro_P dC dI [.long x] [] []) (vp_Si (fun r => r = nI (cnt (wbit x) 64))) 0 0 (fun _ => False) := by
  refine Met.ofW (cc := b_J_bitCount) (maxL := 2) (ret := (Option.some Jvm.ClassFile.FieldType.int)) (by decide) rfl ?_
  intro p e s m args below meth c s₁ B0 hml hv0
  obtain ⟨rfl, hP, hK, hN⟩ := hv0
  have hx := B0.exec
  have hb := B0.bytes
  have hr := B0.returns
  have hts := atoms_spec (ws := w_J_bitCount) B0.pre
  have hown : s.vm.findClass R_J = some m.cls := findClass_of_methodNamed B0.named
  have hlocks := B0.notSynchronized
  have hP : va_P (dC, dI) classes [] s.heap := hP
  have hl := lv_entry ([.long x]) (n := 2) (Nat.le_of_ble_eq_true rfl)
  rw [lg_entry_eq]
  generalize (lg_sl ([.long x]) ++ List.replicate (2 - (lg_sl ([.long x])).length) Slot.unset).toArray = ls at hl ⊢
  have hl : lv_has ls 2 [(0, .long x)] := hl
  refine lv_lload_n hx hb d_J_bitCount_0 rfl (lv_at hl 0 rfl) ?_
  refine lv_lload_n hx hb d_J_bitCount_1 rfl (lv_at hl 0 rfl) ?_
  refine lv_iconst (v := nI 1) hx hb d_J_bitCount_2 (by decide +kernel) ?_
  refine lv_lushr hx hb d_J_bitCount_3 rfl ?_
  refine lv_ldc2 (v := 6148914691236517205) hx hb hown (hts _ (List.mem_cons_of_mem _ m_107)) d_J_bitCount_4 ?_
  refine lv_land hx hb d_J_bitCount_7 ?_
  refine lv_lsub hx hb d_J_bitCount_8 ?_
  refine lv_topl (fun w_1 ew_1 => ?_)
  have ew_1 : w_1 = bc1 x := ew_1.trans (rfl)
  subst ew_1
  refine lv_lstore_n (lv' := [(0, .long (bc1 x))]) hx hb d_J_bitCount_9 rfl hl (by decide) rfl (fun ls hl => ?_)
  refine lv_lload_n hx hb d_J_bitCount_10 rfl (lv_at hl 0 rfl) ?_
  refine lv_ldc2 (v := 3689348814741910323) hx hb hown (hts _ (List.mem_cons_of_mem _ m_108)) d_J_bitCount_11 ?_
  refine lv_land hx hb d_J_bitCount_14 ?_
  refine lv_lload_n hx hb d_J_bitCount_15 rfl (lv_at hl 0 rfl) ?_
  refine lv_iconst (v := nI 2) hx hb d_J_bitCount_16 (by decide +kernel) ?_
  refine lv_lushr hx hb d_J_bitCount_17 rfl ?_
  refine lv_ldc2 (v := 3689348814741910323) hx hb hown (hts _ (List.mem_cons_of_mem _ m_108)) d_J_bitCount_18 ?_
  refine lv_land hx hb d_J_bitCount_21 ?_
  refine lv_ladd hx hb d_J_bitCount_22 ?_
  refine lv_topl (fun w_2 ew_2 => ?_)
  have ew_2 : w_2 = bc2 (bc1 x) := ew_2.trans (rfl)
  subst ew_2
  refine lv_lstore_n (lv' := [(0, .long (bc2 (bc1 x)))]) hx hb d_J_bitCount_23 rfl hl (by decide) rfl (fun ls hl => ?_)
  refine lv_lload_n hx hb d_J_bitCount_24 rfl (lv_at hl 0 rfl) ?_
  refine lv_lload_n hx hb d_J_bitCount_25 rfl (lv_at hl 0 rfl) ?_
  refine lv_iconst (v := nI 4) hx hb d_J_bitCount_26 (by decide +kernel) ?_
  refine lv_lushr hx hb d_J_bitCount_27 rfl ?_
  refine lv_ladd hx hb d_J_bitCount_28 ?_
  refine lv_ldc2 (v := 1085102592571150095) hx hb hown (hts _ (List.mem_cons_of_mem _ m_109)) d_J_bitCount_29 ?_
  refine lv_land hx hb d_J_bitCount_32 ?_
  refine lv_topl (fun w_3 ew_3 => ?_)
  have ew_3 : w_3 = bc3 (bc2 (bc1 x)) := ew_3.trans (rfl)
  subst ew_3
  refine lv_lstore_n (lv' := [(0, .long (bc3 (bc2 (bc1 x))))]) hx hb d_J_bitCount_33 rfl hl (by decide) rfl (fun ls hl => ?_)
  refine lv_lload_n hx hb d_J_bitCount_34 rfl (lv_at hl 0 rfl) ?_
  refine lv_lload_n hx hb d_J_bitCount_35 rfl (lv_at hl 0 rfl) ?_
  refine lv_bipush (v := nI 8) hx hb d_J_bitCount_36 (by decide +kernel) ?_
  refine lv_lushr hx hb d_J_bitCount_38 rfl ?_
  refine lv_ladd hx hb d_J_bitCount_39 ?_
  refine lv_topl (fun w_4 ew_4 => ?_)
  have ew_4 : w_4 = bcS 8 (bc3 (bc2 (bc1 x))) := ew_4.trans (rfl)
  subst ew_4
  refine lv_lstore_n (lv' := [(0, .long (bcS 8 (bc3 (bc2 (bc1 x)))))]) hx hb d_J_bitCount_40 rfl hl (by decide) rfl (fun ls hl => ?_)
  refine lv_lload_n hx hb d_J_bitCount_41 rfl (lv_at hl 0 rfl) ?_
  refine lv_lload_n hx hb d_J_bitCount_42 rfl (lv_at hl 0 rfl) ?_
  refine lv_bipush (v := nI 16) hx hb d_J_bitCount_43 (by decide +kernel) ?_
  refine lv_lushr hx hb d_J_bitCount_45 rfl ?_
  refine lv_ladd hx hb d_J_bitCount_46 ?_
  refine lv_topl (fun w_5 ew_5 => ?_)
  have ew_5 : w_5 = bcS 16 (bcS 8 (bc3 (bc2 (bc1 x)))) := ew_5.trans (rfl)
  subst ew_5
  refine lv_lstore_n (lv' := [(0, .long (bcS 16 (bcS 8 (bc3 (bc2 (bc1 x))))))]) hx hb d_J_bitCount_47 rfl hl (by decide) rfl (fun ls hl => ?_)
  refine lv_lload_n hx hb d_J_bitCount_48 rfl (lv_at hl 0 rfl) ?_
  refine lv_lload_n hx hb d_J_bitCount_49 rfl (lv_at hl 0 rfl) ?_
  refine lv_bipush (v := nI 32) hx hb d_J_bitCount_50 (by decide +kernel) ?_
  refine lv_lushr hx hb d_J_bitCount_52 rfl ?_
  refine lv_ladd hx hb d_J_bitCount_53 ?_
  refine lv_topl (fun w_6 ew_6 => ?_)
  have ew_6 : w_6 = bcS 32 (bcS 16 (bcS 8 (bc3 (bc2 (bc1 x))))) := ew_6.trans (rfl)
  subst ew_6
  refine lv_lstore_n (lv' := [(0, .long (bcS 32 (bcS 16 (bcS 8 (bc3 (bc2 (bc1 x)))))))]) hx hb d_J_bitCount_54 rfl hl (by decide) rfl (fun ls hl => ?_)
  refine lv_lload_n hx hb d_J_bitCount_55 rfl (lv_at hl 0 rfl) ?_
  refine lv_l2i hx hb d_J_bitCount_56 rfl ?_
  refine lv_bipush (v := nI 127) hx hb d_J_bitCount_57 (by decide +kernel) ?_
  refine lv_iand hx hb d_J_bitCount_59 ?_
  exact W.iret (v := ((bcS 32 (bcS 16 (bcS 8 (bc3 (bc2 (bc1 x)))))).toInt32) &&& (nI 127)) hx hb hr (fun t ht hW => ⟨((bcS 32 (bcS 16 (bcS 8 (bc3 (bc2 (bc1 x)))))).toInt32) &&& (nI 127), rfl, (bits9 x), ht⟩) (fun _ h => nomatch h) d_J_bitCount_60
set_option maxHeartbeats 4000000 in
set_option maxRecDepth 100000 in
/-- Tape() -/
theorem c_T_init (l : Launch) (dC : Nat → ClassId) (dI : Nat → Nat → Nat) (jt : Nat) (x : Int64)  (sz : Nat) : Met l y_T_init w_T_init ({ frames := 1, cells := 0, slots := 0, locals := 20 }) (wr_P dC dI [.ref jt] [(jt, .inr (0, [.long x]))] [] sz) (va_Qv (fun (_ : Unit) => True) (fun (u : Unit) => wr_B dC dI (va_A [(jt, .inr (0, [.long x]))] sz) [(jt, .inr (0, [.long 0]))] []) (va_A [(jt, .inr (0, [.long x]))] sz)) 0 0 (va_A [(jt, .inr (0, [.long x]))] sz) := by
  refine Met.ofW (cc := b_T_init) (maxL := 1) (ret := (Option.none : Option Jvm.ClassFile.FieldType)) (by decide) rfl ?_
  intro p e s m args below meth c s₁ B0 hml hv0
  obtain ⟨rfl, hsz, hP, hK, hD0, hN⟩ := hv0
  have hx := B0.exec
  have hb := B0.bytes
  have hr := B0.returns
  have hts := atoms_spec (ws := w_T_init) B0.pre
  have hown : s.vm.findClass R_T = some m.cls := findClass_of_methodNamed B0.named
  have hlocks := B0.notSynchronized
  have hin : meth.name = "<init>" := (name_of_methodNamed B0.named B0.method).1
  subst hsz
  have hD := hD0.self (sz := s.heap.size)
  generalize hAe : va_A [(jt, .inr (0, [.long x]))] s.heap.size = A at hD ⊢
  have hA : ∀ q : Nat, s.heap.size ≤ q → A q := fun q h => by rw [← hAe]; exact Or.inr h
  have hS : va_S A s.heap s.heap [] := va_S.rf
  have hP : va_P (dC, dI) classes [(jt, .inr (0, [.long x]))] s.heap := hP
  have hl := lv_entry ([.ref jt]) (n := 1) (Nat.le_of_ble_eq_true rfl)
  rw [lg_entry_eq]
  generalize (lg_sl ([.ref jt]) ++ List.replicate (1 - (lg_sl ([.ref jt])).length) Slot.unset).toArray = ls at hl ⊢
  have hl : lv_has ls 1 [(0, .ref jt)] := hl
  refine lv_aload_n hx hb d_T_init_0 rfl (lv_at hl 0 rfl) ?_
  refine W.objInit hx hb hown (hts _ (List.mem_cons_of_mem _ m_30)) (hts _ (List.mem_cons_of_mem _ m_17)) (hts _ (List.mem_cons_of_mem _ m_18)) rfl (by rw [hml]; exact hl.1) rfl d_T_init_1 (Nat.le_of_ble_eq_true rfl) (Nat.le_of_ble_eq_true rfl) ?_
  refine W.eq (g2 := F0 m 4 ls []) rfl ?_
  refine lv_aload_n hx hb d_T_init_4 rfl (lv_at hl 0 rfl) ?_
  refine lv_lconst (v := 0) hx hb d_T_init_5 (by decide +kernel) ?_
  refine va_put (D := (dC, dI)) (ci := 0) (v := .long 0) (ty := .long) (C := R_T) (T := F_T) (N := 1) hx hb hts (lay_T _) ft_T tok_T nok_T hown hK hP hD hS 0 rfl rfl 0 (by decide) (hts _ (List.mem_cons_of_mem _ m_31)) (fun _ h9 => h9) rfl (by decide +kernel) rfl rfl (Nat.le_of_ble_eq_true rfl) d_T_init_6 (fun H locs hP hD hS => ?_)
  have hP : va_P (dC, dI) classes [(jt, .inr (0, [.long 0]))] H := hP
  have hD : va_D A [(jt, .inr (0, [.long 0]))] := hD
  have hP9 := hP.sub (ws' := [(jt, .inr (0, [.long 0]))]) [0] rfl
  have hD9 := hD.sub (ws' := [(jt, .inr (0, [.long 0]))]) [0] (by decide) rfl
  have hK9 := hK.sub (tys' := []) [] rfl
  exact W.vret hx hb hr (fun t ht hW => ⟨⟨(), rfl, trivial, by rw [ht]; exact hP9, va_K.moved hW.alike hK9, hD9⟩, hS.F ht⟩) hS.2.2 d_T_init_9
set_option maxHeartbeats 4000000 in
set_option maxRecDepth 100000 in
/-- Tape.rewind -/
theorem c_T_rewind (l : Launch) (dC : Nat → ClassId) (dI : Nat → Nat → Nat) (jt : Nat) (x sd : Int64)  (sz : Nat) : Met l y_T_rewind w_T_rewind ({ frames := 0, cells := 0, slots := 0, locals := 0 }) (wr_P dC dI [.ref jt, .long sd] [(jt, .inr (0, [.long x]))] [] sz) (va_Qv (fun (_ : Unit) => True) (fun (u : Unit) => wr_B dC dI (va_A [(jt, .inr (0, [.long x]))] sz) [(jt, .inr (0, [.long sd]))] []) (va_A [(jt, .inr (0, [.long x]))] sz)) 0 0 (va_A [(jt, .inr (0, [.long x]))] sz) := by
  refine Met.ofW (cc := b_T_rewind) (maxL := 3) (ret := (Option.none : Option Jvm.ClassFile.FieldType)) (by decide) rfl ?_
  intro p e s m args below meth c s₁ B0 hml hv0
  obtain ⟨rfl, hsz, hP, hK, hD0, hN⟩ := hv0
  have hx := B0.exec
  have hb := B0.bytes
  have hr := B0.returns
  have hts := atoms_spec (ws := w_T_rewind) B0.pre
  have hown : s.vm.findClass R_T = some m.cls := findClass_of_methodNamed B0.named
  have hlocks := B0.notSynchronized
  subst hsz
  have hD := hD0.self (sz := s.heap.size)
  generalize hAe : va_A [(jt, .inr (0, [.long x]))] s.heap.size = A at hD ⊢
  have hA : ∀ q : Nat, s.heap.size ≤ q → A q := fun q h => by rw [← hAe]; exact Or.inr h
  have hS : va_S A s.heap s.heap [] := va_S.rf
  have hP : va_P (dC, dI) classes [(jt, .inr (0, [.long x]))] s.heap := hP
  have hl := lv_entry ([.ref jt, .long sd]) (n := 3) (Nat.le_of_ble_eq_true rfl)
  rw [lg_entry_eq]
  generalize (lg_sl ([.ref jt, .long sd]) ++ List.replicate (3 - (lg_sl ([.ref jt, .long sd])).length) Slot.unset).toArray = ls at hl ⊢
  have hl : lv_has ls 3 [(0, .ref jt), (1, .long sd)] := hl
  refine lv_aload_n hx hb d_T_rewind_0 rfl (lv_at hl 0 rfl) ?_
  refine lv_lload_n hx hb d_T_rewind_1 rfl (lv_at hl 1 rfl) ?_
  refine va_put (D := (dC, dI)) (ci := 0) (v := .long sd) (ty := .long) (C := R_T) (T := F_T) (N := 1) hx hb hts (lay_T _) ft_T tok_T nok_T hown hK hP hD hS 0 rfl rfl 0 (by decide) (hts _ (List.mem_cons_of_mem _ m_31)) (fun _ h9 => h9) rfl (by decide +kernel) rfl rfl (Nat.le_of_ble_eq_true rfl) d_T_rewind_2 (fun H locs hP hD hS => ?_)
  have hP : va_P (dC, dI) classes [(jt, .inr (0, [.long sd]))] H := hP
  have hD : va_D A [(jt, .inr (0, [.long sd]))] := hD
  have hP9 := hP.sub (ws' := [(jt, .inr (0, [.long sd]))]) [0] rfl
  have hD9 := hD.sub (ws' := [(jt, .inr (0, [.long sd]))]) [0] (by decide) rfl
  have hK9 := hK.sub (tys' := []) [] rfl
  exact W.vret hx hb hr (fun t ht hW => ⟨⟨(), rfl, trivial, by rw [ht]; exact hP9, va_K.moved hW.alike hK9, hD9⟩, hS.F ht⟩) hS.2.2 d_T_rewind_5
set_option maxHeartbeats 4000000 in
set_option maxRecDepth 100000 in
/-- Tape.numberBelow -/
theorem c_T_numberBelow (l : Launch) (dC : Nat → ClassId) (dI : Nat → Nat → Nat) (jt : Nat) (x : Int64) (q : Nat) (hq : q < 2 ^ 31) (sz : Nat) : Met l y_T_numberBelow w_T_numberBelow ({ frames := 0, cells := 0, slots := 0, locals := 0 }) (wr_P dC dI [.ref jt, .int (nI q)] [(jt, .inr (0, [.long x]))] [] sz) (va_Qi (fun (r : Int32) (_ : Unit) => r = nbI x q) (fun (u : Unit) => wr_B dC dI (va_A [(jt, .inr (0, [.long x]))] sz) [(jt, .inr (0, [.long (nbX x q)]))] []) (va_A [(jt, .inr (0, [.long x]))] sz)) 0 0 (va_A [(jt, .inr (0, [.long x]))] sz) := by
  refine Met.ofW (cc := b_T_numberBelow) (maxL := 2) (ret := (Option.some Jvm.ClassFile.FieldType.int)) (by decide) rfl ?_
  intro p e s m args below meth c s₁ B0 hml hv0
  obtain ⟨rfl, hsz, hP, hK, hD0, hN⟩ := hv0
  have hx := B0.exec
  have hb := B0.bytes
  have hr := B0.returns
  have hts := atoms_spec (ws := w_T_numberBelow) B0.pre
  have hown : s.vm.findClass R_T = some m.cls := findClass_of_methodNamed B0.named
  have hlocks := B0.notSynchronized
  subst hsz
  have hD := hD0.self (sz := s.heap.size)
  generalize hAe : va_A [(jt, .inr (0, [.long x]))] s.heap.size = A at hD ⊢
  have hA : ∀ q : Nat, s.heap.size ≤ q → A q := fun q h => by rw [← hAe]; exact Or.inr h
  have hS : va_S A s.heap s.heap [] := va_S.rf
  have hP : va_P (dC, dI) classes [(jt, .inr (0, [.long x]))] s.heap := hP
  have hl := lv_entry ([.ref jt, .int (nI q)]) (n := 2) (Nat.le_of_ble_eq_true rfl)
  rw [lg_entry_eq]
  generalize (lg_sl ([.ref jt, .int (nI q)]) ++ List.replicate (2 - (lg_sl ([.ref jt, .int (nI q)])).length) Slot.unset).toArray = ls at hl ⊢
  have hl : lv_has ls 2 [(0, .ref jt), (1, .int (nI q))] := hl
  refine lv_iload_n hx hb d_T_numberBelow_0 rfl (lv_at hl 1 rfl) ?_
  refine lv_iconst (v := nI 1) hx hb d_T_numberBelow_1 (by decide +kernel) ?_
  refine lv_icmp_ge (tgt := 7) hx hb d_T_numberBelow_2 (by decide) (fun c_2 => ?_) (fun c_2 => ?_)
  · skip
    have c_2 := (nI_leI (by omega) (by omega)).mp c_2
    refine lv_aload_n hx hb d_T_numberBelow_7 rfl (lv_at hl 0 rfl) ?_
    refine lv_aload_n hx hb d_T_numberBelow_8 rfl (lv_at hl 0 rfl) ?_
    refine va_get (D := (dC, dI)) (ci := 0) (v := .long x) (C := R_T) (T := F_T) (N := 1) hx hb hts (lay_T _) hown hK hP 0 rfl rfl 0 (by decide) (hts _ (List.mem_cons_of_mem _ m_31)) (fun _ h9 => h9) rfl d_T_numberBelow_9 ?_
    refine lv_ldc2 (v := 6364136223846793005) hx hb hown (hts _ (List.mem_cons_of_mem _ m_243)) d_T_numberBelow_12 ?_
    refine lv_lmul hx hb d_T_numberBelow_15 ?_
    refine lv_ldc2 (v := 1442695040888963407) hx hb hown (hts _ (List.mem_cons_of_mem _ m_244)) d_T_numberBelow_16 ?_
    refine lv_ladd hx hb d_T_numberBelow_19 ?_
    refine lv_topl (fun w_1 ew_1 => ?_)
    have ew_1 : w_1 = nbX x q := ew_1.trans (by unfold nbX; rw [if_neg (by omega)]; rfl)
    subst ew_1
    refine va_put (D := (dC, dI)) (ci := 0) (v := .long (nbX x q)) (ty := .long) (C := R_T) (T := F_T) (N := 1) hx hb hts (lay_T _) ft_T tok_T nok_T hown hK hP hD hS 0 rfl rfl 0 (by decide) (hts _ (List.mem_cons_of_mem _ m_31)) (fun _ h9 => h9) rfl (by decide +kernel) rfl rfl (Nat.le_of_ble_eq_true rfl) d_T_numberBelow_20 (fun H locs hP hD hS => ?_)
    have hP : va_P (dC, dI) classes [(jt, .inr (0, [.long (nbX x q)]))] H := hP
    have hD : va_D A [(jt, .inr (0, [.long (nbX x q)]))] := hD
    refine lv_aload_n hx hb d_T_numberBelow_23 rfl (lv_at hl 0 rfl) ?_
    refine va_get (D := (dC, dI)) (ci := 0) (v := .long (nbX x q)) (C := R_T) (T := F_T) (N := 1) hx hb hts (lay_T _) hown hK hP 0 rfl rfl 0 (by decide) (hts _ (List.mem_cons_of_mem _ m_31)) (fun _ h9 => h9) rfl d_T_numberBelow_24 ?_
    refine lv_bipush (v := nI 33) hx hb d_T_numberBelow_27 (by decide +kernel) ?_
    refine lv_lushr hx hb d_T_numberBelow_29 rfl ?_
    refine lv_l2i hx hb d_T_numberBelow_30 rfl ?_
    refine lv_topi (fun w_2 ew_2 => ?_)
    have ew_2 : w_2 = nI (hi9 (nbX x q)) := ew_2.trans (hi9_sh _)
    subst ew_2
    refine lv_iload_n hx hb d_T_numberBelow_31 rfl (lv_at hl 1 rfl) ?_
    refine lv_irem hx hb d_T_numberBelow_32 (nI_ne0 (by omega) (by omega)) ?_
    refine lv_topi (fun w_3 ew_3 => ?_)
    have ew_3 : w_3 = nbI x q := ew_3.trans (by rw [nb_rem _ (by omega) (by omega)]; unfold nbI nbX; rw [if_neg (by omega), if_neg (by omega)])
    subst ew_3
    have hP9 := hP.sub (ws' := [(jt, .inr (0, [.long (nbX x q)]))]) [0] rfl
    have hD9 := hD.sub (ws' := [(jt, .inr (0, [.long (nbX x q)]))]) [0] (by decide) rfl
    have hK9 := hK.sub (tys' := []) [] rfl
    exact W.iret (v := nbI x q) hx hb hr (fun t ht hW => ⟨⟨nbI x q, (), rfl, rfl, by rw [ht]; exact hP9, va_K.moved hW.alike hK9, hD9⟩, hS.F ht⟩) hS.2.2 d_T_numberBelow_33
  · skip
    have c_2 := (not_congr (nI_leI (by omega) (by omega))).mp c_2
    refine lv_iconst (v := (-1)) hx hb d_T_numberBelow_5 (by decide +kernel) ?_
    have e9 : x = nbX x q := by unfold nbX; rw [if_pos (by omega)]
    rw [e9] at hP hD
    have hP9 := hP.sub (ws' := [(jt, .inr (0, [.long (nbX x q)]))]) [0] rfl
    have hD9 := hD.sub (ws' := [(jt, .inr (0, [.long (nbX x q)]))]) [0] (by decide) rfl
    have hK9 := hK.sub (tys' := []) [] rfl
    exact W.iret (v := (-1)) hx hb hr (fun t ht hW => ⟨⟨(-1), (), rfl, (by unfold nbI; rw [if_pos (by omega)]), by rw [ht]; exact hP9, va_K.moved hW.alike hK9, hD9⟩, hS.F ht⟩) hS.2.2 d_T_numberBelow_6
set_option maxHeartbeats 4000000 in
set_option maxRecDepth 100000 in
/-- mayRefer -/
theorem c_D_mayRefer (l : Launch) (dC : Nat → ClassId) (dI : Nat → Nat → Nat) (kd tk : Int32)  : Met l y_D_mayRefer w_D_mayRefer ({ frames := 0, cells := 0, slots := 0, locals := 0 }) (ro_P dC dI [.int kd, .int tk] [] []) (vp_Si (fun r => r = bI (mR kd tk))) 0 0 (fun _ => False) := by
  refine Met.ofW (cc := b_D_mayRefer) (maxL := 2) (ret := (Option.some Jvm.ClassFile.FieldType.boolean)) (by decide) rfl ?_
  intro p e s m args below meth c s₁ B0 hml hv0
  obtain ⟨rfl, hP, hK, hN⟩ := hv0
  have hx := B0.exec
  have hb := B0.bytes
  have hr := B0.returns
  have hts := atoms_spec (ws := w_D_mayRefer) B0.pre
  have hown : s.vm.findClass R_D = some m.cls := findClass_of_methodNamed B0.named
  have hlocks := B0.notSynchronized
  have hP : va_P (dC, dI) classes [] s.heap := hP
  have hl := lv_entry ([.int kd, .int tk]) (n := 2) (Nat.le_of_ble_eq_true rfl)
  rw [lg_entry_eq]
  generalize (lg_sl ([.int kd, .int tk]) ++ List.replicate (2 - (lg_sl ([.int kd, .int tk])).length) Slot.unset).toArray = ls at hl ⊢
  have hl : lv_has ls 2 [(0, .int kd), (1, .int tk)] := hl
  refine lv_iload_n hx hb d_D_mayRefer_0 rfl (lv_at hl 0 rfl) ?_
  by_cases o_1 : kd.toInt < 1 ∨ 6 < kd.toInt
  · skip
    refine lv_tableOut (tgt := 98) hx hb d_D_mayRefer_1 o_1 (by decide) ?_
    have e_m : mR kd tk = false := mR_o o_1
    refine lv_iconst (v := nI 0) hx hb d_D_mayRefer_98 (by decide +kernel) ?_
    exact W.zret (v := nI 0) (ty := .boolean) hx hb hr (by decide +kernel) (fun t ht hW => ⟨nI 0, rfl, (by rw [e_m]; simp [bI]), ht⟩) (fun _ h => nomatch h) d_D_mayRefer_99
  · skip
    have o1_1 : ¬ kd.toInt < 1 := fun h => o_1 (Or.inl h)
    have o2_1 : ¬ 6 < kd.toInt := fun h => o_1 (Or.inr h)
    by_cases o_1_1 : kd.toInt = 1
    · skip
      have o3 : kd = nI 1 := sw_eq o_1_1 (by decide +kernel)
      refine lv_tableIn (tgt := 40) hx hb d_D_mayRefer_1 o1_1 o2_1 (by rw [o_1_1]; rfl) (by decide) ?_
      have e_m : mR kd tk = decide (tk = nI 0) := by rw [o3]; exact mR_1 tk
      refine lv_iload_n hx hb d_D_mayRefer_40 rfl (lv_at hl 1 rfl) ?_
      refine lv_if_ne (tgt := 48) hx hb d_D_mayRefer_41 (by decide) (fun c_41 => ?_) (fun c_41 => ?_)
      · skip
        rw [← nI_0] at c_41
        refine lv_iconst (v := nI 0) hx hb d_D_mayRefer_48 (by decide +kernel) ?_
        exact W.zret (v := nI 0) (ty := .boolean) hx hb hr (by decide +kernel) (fun t ht hW => ⟨nI 0, rfl, (by rw [e_m]; simp [bI, c_41]), ht⟩) (fun _ h => nomatch h) d_D_mayRefer_49
      · skip
        rw [← nI_0] at c_41
        refine lv_iconst (v := nI 1) hx hb d_D_mayRefer_44 (by decide +kernel) ?_
        refine lv_goto (tgt := 49) hx hb d_D_mayRefer_45 (by decide) ?_
        exact W.zret (v := nI 1) (ty := .boolean) hx hb hr (by decide +kernel) (fun t ht hW => ⟨nI 1, rfl, (by rw [e_m]; simp [bI, c_41]), ht⟩) (fun _ h => nomatch h) d_D_mayRefer_49
    · skip
      by_cases o_1_2 : kd.toInt = 2
      · skip
        have o3 : kd = nI 2 := sw_eq o_1_2 (by decide +kernel)
        refine lv_tableIn (tgt := 98) hx hb d_D_mayRefer_1 o1_1 o2_1 (by rw [o_1_2]; rfl) (by decide) ?_
        have e_m : mR kd tk = false := by rw [o3]; exact mR_2 tk
        refine lv_iconst (v := nI 0) hx hb d_D_mayRefer_98 (by decide +kernel) ?_
        exact W.zret (v := nI 0) (ty := .boolean) hx hb hr (by decide +kernel) (fun t ht hW => ⟨nI 0, rfl, (by rw [e_m]; simp [bI]), ht⟩) (fun _ h => nomatch h) d_D_mayRefer_99
      · skip
        by_cases o_1_3 : kd.toInt = 3
        · skip
          have o3 : kd = nI 3 := sw_eq o_1_3 (by decide +kernel)
          refine lv_tableIn (tgt := 40) hx hb d_D_mayRefer_1 o1_1 o2_1 (by rw [o_1_3]; rfl) (by decide) ?_
          have e_m : mR kd tk = decide (tk = nI 0) := by rw [o3]; exact mR_3 tk
          refine lv_iload_n hx hb d_D_mayRefer_40 rfl (lv_at hl 1 rfl) ?_
          refine lv_if_ne (tgt := 48) hx hb d_D_mayRefer_41 (by decide) (fun c_41 => ?_) (fun c_41 => ?_)
          · skip
            rw [← nI_0] at c_41
            refine lv_iconst (v := nI 0) hx hb d_D_mayRefer_48 (by decide +kernel) ?_
            exact W.zret (v := nI 0) (ty := .boolean) hx hb hr (by decide +kernel) (fun t ht hW => ⟨nI 0, rfl, (by rw [e_m]; simp [bI, c_41]), ht⟩) (fun _ h => nomatch h) d_D_mayRefer_49
          · skip
            rw [← nI_0] at c_41
            refine lv_iconst (v := nI 1) hx hb d_D_mayRefer_44 (by decide +kernel) ?_
            refine lv_goto (tgt := 49) hx hb d_D_mayRefer_45 (by decide) ?_
            exact W.zret (v := nI 1) (ty := .boolean) hx hb hr (by decide +kernel) (fun t ht hW => ⟨nI 1, rfl, (by rw [e_m]; simp [bI, c_41]), ht⟩) (fun _ h => nomatch h) d_D_mayRefer_49
        · skip
          by_cases o_1_4 : kd.toInt = 4
          · skip
            have o3 : kd = nI 4 := sw_eq o_1_4 (by decide +kernel)
            refine lv_tableIn (tgt := 50) hx hb d_D_mayRefer_1 o1_1 o2_1 (by rw [o_1_4]; rfl) (by decide) ?_
            have e_m : mR kd tk = decide (tk = nI 2) := by rw [o3]; exact mR_4 tk
            refine lv_iload_n hx hb d_D_mayRefer_50 rfl (lv_at hl 1 rfl) ?_
            refine lv_iconst (v := nI 2) hx hb d_D_mayRefer_51 (by decide +kernel) ?_
            refine lv_icmp_ne (tgt := 59) hx hb d_D_mayRefer_52 (by decide) (fun c_52 => ?_) (fun c_52 => ?_)
            · skip
              refine lv_iconst (v := nI 0) hx hb d_D_mayRefer_59 (by decide +kernel) ?_
              exact W.zret (v := nI 0) (ty := .boolean) hx hb hr (by decide +kernel) (fun t ht hW => ⟨nI 0, rfl, (by rw [e_m]; simp [bI, c_52]), ht⟩) (fun _ h => nomatch h) d_D_mayRefer_60
            · skip
              refine lv_iconst (v := nI 1) hx hb d_D_mayRefer_55 (by decide +kernel) ?_
              refine lv_goto (tgt := 60) hx hb d_D_mayRefer_56 (by decide) ?_
              exact W.zret (v := nI 1) (ty := .boolean) hx hb hr (by decide +kernel) (fun t ht hW => ⟨nI 1, rfl, (by rw [e_m]; simp [bI, c_52]), ht⟩) (fun _ h => nomatch h) d_D_mayRefer_60
          · skip
            by_cases o_1_5 : kd.toInt = 5
            · skip
              have o3 : kd = nI 5 := sw_eq o_1_5 (by decide +kernel)
              refine lv_tableIn (tgt := 61) hx hb d_D_mayRefer_1 o1_1 o2_1 (by rw [o_1_5]; rfl) (by decide) ?_
              have e_m : mR kd tk = (decide (tk = nI 1) || decide (tk = nI 3) || decide (tk = nI 4)) := by rw [o3]; exact mR_5 tk
              refine lv_iload_n hx hb d_D_mayRefer_61 rfl (lv_at hl 1 rfl) ?_
              refine lv_iconst (v := nI 1) hx hb d_D_mayRefer_62 (by decide +kernel) ?_
              refine lv_icmp_eq (tgt := 76) hx hb d_D_mayRefer_63 (by decide) (fun c_63 => ?_) (fun c_63 => ?_)
              · skip
                refine lv_iconst (v := nI 1) hx hb d_D_mayRefer_76 (by decide +kernel) ?_
                refine lv_goto (tgt := 81) hx hb d_D_mayRefer_77 (by decide) ?_
                exact W.zret (v := nI 1) (ty := .boolean) hx hb hr (by decide +kernel) (fun t ht hW => ⟨nI 1, rfl, (by rw [e_m]; simp [bI, c_63]), ht⟩) (fun _ h => nomatch h) d_D_mayRefer_81
              · skip
                refine lv_iload_n hx hb d_D_mayRefer_66 rfl (lv_at hl 1 rfl) ?_
                refine lv_iconst (v := nI 3) hx hb d_D_mayRefer_67 (by decide +kernel) ?_
                refine lv_icmp_eq (tgt := 76) hx hb d_D_mayRefer_68 (by decide) (fun c_68 => ?_) (fun c_68 => ?_)
                · skip
                  refine lv_iconst (v := nI 1) hx hb d_D_mayRefer_76 (by decide +kernel) ?_
                  refine lv_goto (tgt := 81) hx hb d_D_mayRefer_77 (by decide) ?_
                  exact W.zret (v := nI 1) (ty := .boolean) hx hb hr (by decide +kernel) (fun t ht hW => ⟨nI 1, rfl, (by rw [e_m]; simp [bI, c_63, c_68]), ht⟩) (fun _ h => nomatch h) d_D_mayRefer_81
                · skip
                  refine lv_iload_n hx hb d_D_mayRefer_71 rfl (lv_at hl 1 rfl) ?_
                  refine lv_iconst (v := nI 4) hx hb d_D_mayRefer_72 (by decide +kernel) ?_
                  refine lv_icmp_ne (tgt := 80) hx hb d_D_mayRefer_73 (by decide) (fun c_73 => ?_) (fun c_73 => ?_)
                  · skip
                    refine lv_iconst (v := nI 0) hx hb d_D_mayRefer_80 (by decide +kernel) ?_
                    exact W.zret (v := nI 0) (ty := .boolean) hx hb hr (by decide +kernel) (fun t ht hW => ⟨nI 0, rfl, (by rw [e_m]; simp [bI, c_63, c_68, c_73]), ht⟩) (fun _ h => nomatch h) d_D_mayRefer_81
                  · skip
                    refine lv_iconst (v := nI 1) hx hb d_D_mayRefer_76 (by decide +kernel) ?_
                    refine lv_goto (tgt := 81) hx hb d_D_mayRefer_77 (by decide) ?_
                    exact W.zret (v := nI 1) (ty := .boolean) hx hb hr (by decide +kernel) (fun t ht hW => ⟨nI 1, rfl, (by rw [e_m]; simp [bI, c_63, c_68, c_73]), ht⟩) (fun _ h => nomatch h) d_D_mayRefer_81
            · skip
              have o_1_6 : kd.toInt = 6 := by omega
              have o3 : kd = nI 6 := sw_eq o_1_6 (by decide +kernel)
              refine lv_tableIn (tgt := 82) hx hb d_D_mayRefer_1 o1_1 o2_1 (by rw [o_1_6]; rfl) (by decide) ?_
              have e_m : mR kd tk = (decide (tk = nI 4) || decide (tk = nI 5)) := by rw [o3]; exact mR_6 tk
              refine lv_iload_n hx hb d_D_mayRefer_82 rfl (lv_at hl 1 rfl) ?_
              refine lv_iconst (v := nI 4) hx hb d_D_mayRefer_83 (by decide +kernel) ?_
              refine lv_icmp_eq (tgt := 92) hx hb d_D_mayRefer_84 (by decide) (fun c_84 => ?_) (fun c_84 => ?_)
              · skip
                refine lv_iconst (v := nI 1) hx hb d_D_mayRefer_92 (by decide +kernel) ?_
                refine lv_goto (tgt := 97) hx hb d_D_mayRefer_93 (by decide) ?_
                exact W.zret (v := nI 1) (ty := .boolean) hx hb hr (by decide +kernel) (fun t ht hW => ⟨nI 1, rfl, (by rw [e_m]; simp [bI, c_84]), ht⟩) (fun _ h => nomatch h) d_D_mayRefer_97
              · skip
                refine lv_iload_n hx hb d_D_mayRefer_87 rfl (lv_at hl 1 rfl) ?_
                refine lv_iconst (v := nI 5) hx hb d_D_mayRefer_88 (by decide +kernel) ?_
                refine lv_icmp_ne (tgt := 96) hx hb d_D_mayRefer_89 (by decide) (fun c_89 => ?_) (fun c_89 => ?_)
                · skip
                  refine lv_iconst (v := nI 0) hx hb d_D_mayRefer_96 (by decide +kernel) ?_
                  exact W.zret (v := nI 0) (ty := .boolean) hx hb hr (by decide +kernel) (fun t ht hW => ⟨nI 0, rfl, (by rw [e_m]; simp [bI, c_84, c_89]), ht⟩) (fun _ h => nomatch h) d_D_mayRefer_97
                · skip
                  refine lv_iconst (v := nI 1) hx hb d_D_mayRefer_92 (by decide +kernel) ?_
                  refine lv_goto (tgt := 97) hx hb d_D_mayRefer_93 (by decide) ?_
                  exact W.zret (v := nI 1) (ty := .boolean) hx hb hr (by decide +kernel) (fun t ht hW => ⟨nI 1, rfl, (by rw [e_m]; simp [bI, c_84, c_89]), ht⟩) (fun _ h => nomatch h) d_D_mayRefer_97
set_option maxHeartbeats 4000000 in
set_option maxRecDepth 100000 in
/-- isIn -/
theorem c_D_isIn (l : Launch) (dC : Nat → ClassId) (dI : Nat → Nat → Nat) (w : Int64) (i0 : Nat) (hi0 : i0 < 64) : Met l y_D_isIn w_D_isIn ({ frames := 0, cells := 0, slots := 0, locals := 0 }) (ro_P dC dI [.long w, .int (nI i0)] [] []) (vp_Si (fun r => r = bI (wbit w i0))) 0 0 (fun _ => False) := by
  refine Met.ofW (cc := b_D_isIn) (maxL := 3) (ret := (Option.some Jvm.ClassFile.FieldType.boolean)) (by decide) rfl ?_
  intro p e s m args below meth c s₁ B0 hml hv0
  obtain ⟨rfl, hP, hK, hN⟩ := hv0
  have hx := B0.exec
  have hb := B0.bytes
  have hr := B0.returns
  have hts := atoms_spec (ws := w_D_isIn) B0.pre
  have hown : s.vm.findClass R_D = some m.cls := findClass_of_methodNamed B0.named
  have hlocks := B0.notSynchronized
  have hP : va_P (dC, dI) classes [] s.heap := hP
  have hl := lv_entry ([.long w, .int (nI i0)]) (n := 3) (Nat.le_of_ble_eq_true rfl)
  rw [lg_entry_eq]
  generalize (lg_sl ([.long w, .int (nI i0)]) ++ List.replicate (3 - (lg_sl ([.long w, .int (nI i0)])).length) Slot.unset).toArray = ls at hl ⊢
  have hl : lv_has ls 3 [(0, .long w), (2, .int (nI i0))] := hl
  refine lv_lload_n hx hb d_D_isIn_0 rfl (lv_at hl 0 rfl) ?_
  refine lv_iload_n hx hb d_D_isIn_1 rfl (lv_at hl 1 rfl) ?_
  refine lv_lushr hx hb d_D_isIn_2 rfl ?_
  refine lv_lconst (v := 1) hx hb d_D_isIn_3 (by decide +kernel) ?_
  refine lv_land hx hb d_D_isIn_4 ?_
  refine lv_lconst (v := 0) hx hb d_D_isIn_5 (by decide +kernel) ?_
  refine W.lcmp hx hb d_D_isIn_6 ?_
  refine lv_if_eq (tgt := 14) hx hb d_D_isIn_7 (by decide) (fun c_7 => ?_) (fun c_7 => ?_)
  · skip
    have c_7 := lc_eq.mp c_7
    refine lv_iconst (v := nI 0) hx hb d_D_isIn_14 (by decide +kernel) ?_
    exact W.zret (v := nI 0) (ty := .boolean) hx hb hr (by decide +kernel) (fun t ht hW => ⟨nI 0, rfl, (by first | (rw [(wbit_tst w hi0).mp c_7]; rfl) | (rw [ts_nf (fun jh => c_7 ((wbit_tst w hi0).mpr jh))]; rfl)), ht⟩) (fun _ h => nomatch h) d_D_isIn_15
  · skip
    have c_7 := (not_congr lc_eq).mp c_7
    refine lv_iconst (v := nI 1) hx hb d_D_isIn_10 (by decide +kernel) ?_
    refine lv_goto (tgt := 15) hx hb d_D_isIn_11 (by decide) ?_
    exact W.zret (v := nI 1) (ty := .boolean) hx hb hr (by decide +kernel) (fun t ht hW => ⟨nI 1, rfl, (by first | (rw [(wbit_tst w hi0).mp c_7]; rfl) | (rw [ts_nf (fun jh => c_7 ((wbit_tst w hi0).mpr jh))]; rfl)), ht⟩) (fun _ h => nomatch h) d_D_isIn_15
set_option maxHeartbeats 4000000 in
set_option maxRecDepth 100000 in
/-- isSize -/
theorem c_D_isSize (l : Launch) (dC : Nat → ClassId) (dI : Nat → Nat → Nat) (p0 : Int32)  : Met l y_D_isSize w_D_isSize ({ frames := 0, cells := 0, slots := 0, locals := 0 }) (ro_P dC dI [.int p0] [] []) (vp_Si (fun r => r = bI (szB p0))) 0 0 (fun _ => False) := by
  refine Met.ofW (cc := b_D_isSize) (maxL := 1) (ret := (Option.some Jvm.ClassFile.FieldType.boolean)) (by decide) rfl ?_
  intro p e s m args below meth c s₁ B0 hml hv0
  obtain ⟨rfl, hP, hK, hN⟩ := hv0
  have hx := B0.exec
  have hb := B0.bytes
  have hr := B0.returns
  have hts := atoms_spec (ws := w_D_isSize) B0.pre
  have hown : s.vm.findClass R_D = some m.cls := findClass_of_methodNamed B0.named
  have hlocks := B0.notSynchronized
  have hP : va_P (dC, dI) classes [] s.heap := hP
  have hl := lv_entry ([.int p0]) (n := 1) (Nat.le_of_ble_eq_true rfl)
  rw [lg_entry_eq]
  generalize (lg_sl ([.int p0]) ++ List.replicate (1 - (lg_sl ([.int p0])).length) Slot.unset).toArray = ls at hl ⊢
  have hl : lv_has ls 1 [(0, .int p0)] := hl
  refine lv_iload_n hx hb d_D_isSize_0 rfl (lv_at hl 0 rfl) ?_
  refine lv_if_lt (tgt := 14) hx hb d_D_isSize_1 (by decide) (fun c_1 => ?_) (fun c_1 => ?_)
  · skip
    refine lv_iconst (v := nI 0) hx hb d_D_isSize_14 (by decide +kernel) ?_
    exact W.zret (v := nI 0) (ty := .boolean) hx hb hr (by decide +kernel) (fun t ht hW => ⟨nI 0, rfl, (by simp [szB, bI, c_1]), ht⟩) (fun _ h => nomatch h) d_D_isSize_15
  · skip
    refine lv_iload_n hx hb d_D_isSize_4 rfl (lv_at hl 0 rfl) ?_
    refine lv_bipush (v := nI 40) hx hb d_D_isSize_5 (by decide +kernel) ?_
    refine lv_icmp_gt (tgt := 14) hx hb d_D_isSize_7 (by decide) (fun c_7 => ?_) (fun c_7 => ?_)
    · skip
      refine lv_iconst (v := nI 0) hx hb d_D_isSize_14 (by decide +kernel) ?_
      exact W.zret (v := nI 0) (ty := .boolean) hx hb hr (by decide +kernel) (fun t ht hW => ⟨nI 0, rfl, (by simp [szB, bI, c_1, c_7]), ht⟩) (fun _ h => nomatch h) d_D_isSize_15
    · skip
      refine lv_iconst (v := nI 1) hx hb d_D_isSize_10 (by decide +kernel) ?_
      refine lv_goto (tgt := 15) hx hb d_D_isSize_11 (by decide) ?_
      exact W.zret (v := nI 1) (ty := .boolean) hx hb hr (by decide +kernel) (fun t ht hW => ⟨nI 1, rfl, (by simp [szB, bI, c_1, c_7]), ht⟩) (fun _ h => nomatch h) d_D_isSize_15
end
section
theorem m_24 : (Jvm.Cond.methodLink "PortDrawer$Harbour" (3 : Nat) ({ cls := "java/lang/Object", name := "<init>", desc := "()V" } : Jvm.MethodName)) ∈ tblG := m_t (i := 24) rfl rfl
theorem m_25 : (Jvm.Cond.classLink "PortDrawer$Harbour" (9 : Nat) "PortDrawer$Tape") ∈ tblG := m_t (i := 25) rfl rfl
theorem m_26 : (Jvm.Cond.instantiable "PortDrawer$Tape" (1 : Nat)) ∈ tblG := m_t (i := 26) rfl rfl
theorem m_3 : (Jvm.Cond.initialized "PortDrawer$Tape") ∈ tblG := m_t (i := 3) rfl rfl
theorem m_29 : (Jvm.Cond.code ({ cls := "PortDrawer$Tape", name := "<init>", desc := "()V" } : Jvm.MethodName) prog_3_method_1_code (1 : Nat) (Option.none : Option Jvm.ClassFile.FieldType)) ∈ tblG := m_t (i := 29) rfl rfl
theorem m_28 : (Jvm.Cond.instanceMethod ({ cls := "PortDrawer$Tape", name := "<init>", desc := "()V" } : Jvm.MethodName)) ∈ tblG := m_t (i := 28) rfl rfl
theorem m_35 : (Jvm.Cond.fieldLink "PortDrawer$Harbour" (12 : Nat) "PortDrawer$Harbour" "tape" "LPortDrawer$Tape;") ∈ tblG := m_t (i := 35) rfl rfl
theorem m_55 : (Jvm.Cond.arrayClass Jvm.ClassFile.FieldType.int) ∈ tblG := m_t (i := 55) rfl rfl
theorem m_36 : (Jvm.Cond.fieldLink "PortDrawer$Harbour" (18 : Nat) "PortDrawer$Harbour" "kinds" "[I") ∈ tblG := m_t (i := 36) rfl rfl
theorem m_38 : (Jvm.Cond.fieldLink "PortDrawer$Harbour" (22 : Nat) "PortDrawer$Harbour" "values" "[I") ∈ tblG := m_t (i := 38) rfl rfl
theorem m_40 : (Jvm.Cond.fieldLink "PortDrawer$Harbour" (25 : Nat) "PortDrawer$Harbour" "references" "[I") ∈ tblG := m_t (i := 40) rfl rfl
theorem m_42 : (Jvm.Cond.fieldLink "PortDrawer$Harbour" (28 : Nat) "PortDrawer$Harbour" "parts" "I") ∈ tblG := m_t (i := 42) rfl rfl
theorem m_263 : (Jvm.Cond.code ({ cls := "PortDrawer$Harbour", name := "has", desc := "(I)Z" } : Jvm.MethodName) prog_2_method_6_code (2 : Nat) (Option.some Jvm.ClassFile.FieldType.boolean)) ∈ tblG := m_t (i := 263) rfl rfl
theorem ms_16 : Cond.selects "PortDrawer$Harbour" ⟨"PortDrawer$Harbour", "has", "(I)Z"⟩ ⟨"PortDrawer$Harbour", "has", "(I)Z"⟩ ∈ tblG := m_s (i := 16) rfl rfl
theorem m_276 : (Jvm.Cond.methodLink "PortDrawer$Harbour" (54 : Nat) ({ cls := "PortDrawer$Harbour", name := "has", desc := "(I)Z" } : Jvm.MethodName)) ∈ tblG := m_t (i := 276) rfl rfl
theorem m_262 : (Jvm.Cond.instanceMethod ({ cls := "PortDrawer$Harbour", name := "has", desc := "(I)Z" } : Jvm.MethodName)) ∈ tblG := m_t (i := 262) rfl rfl
theorem m_2 : (Jvm.Cond.initialized "PortDrawer$Harbour") ∈ tblG := m_t (i := 2) rfl rfl
theorem m_275 : (Jvm.Cond.code ({ cls := "PortDrawer$Harbour", name := "isAct", desc := "(I)Z" } : Jvm.MethodName) prog_2_method_7_code (2 : Nat) (Option.some Jvm.ClassFile.FieldType.boolean)) ∈ tblG := m_t (i := 275) rfl rfl
theorem ms_19 : Cond.selects "PortDrawer$Harbour" ⟨"PortDrawer$Harbour", "isAct", "(I)Z"⟩ ⟨"PortDrawer$Harbour", "isAct", "(I)Z"⟩ ∈ tblG := m_s (i := 19) rfl rfl
theorem m_272 : (Jvm.Cond.methodLink "PortDrawer$Harbour" (58 : Nat) ({ cls := "PortDrawer$Harbour", name := "isAct", desc := "(I)Z" } : Jvm.MethodName)) ∈ tblG := m_t (i := 272) rfl rfl
theorem m_274 : (Jvm.Cond.instanceMethod ({ cls := "PortDrawer$Harbour", name := "isAct", desc := "(I)Z" } : Jvm.MethodName)) ∈ tblG := m_t (i := 274) rfl rfl
theorem m_255 : (Jvm.Cond.code ({ cls := "PortDrawer", name := "mayRefer", desc := "(II)Z" } : Jvm.MethodName) prog_1_method_24_code (2 : Nat) (Option.some Jvm.ClassFile.FieldType.boolean)) ∈ tblG := m_t (i := 255) rfl rfl
theorem m_1 : (Jvm.Cond.initialized "PortDrawer") ∈ tblG := m_t (i := 1) rfl rfl
theorem m_254 : (Jvm.Cond.static ({ cls := "PortDrawer", name := "mayRefer", desc := "(II)Z" } : Jvm.MethodName)) ∈ tblG := m_t (i := 254) rfl rfl
theorem d_H_init_0 : decode b_H_init 0 = .ok (.aload_n 0, 1) := by decide +kernel
theorem d_H_init_1 : decode b_H_init 1 = .ok (.invokespecial 3, 3) := by decide +kernel
theorem d_H_init_4 : decode b_H_init 4 = .ok (.aload_n 0, 1) := by decide +kernel
theorem d_H_init_5 : decode b_H_init 5 = .ok (.new 9, 3) := by decide +kernel
theorem d_H_init_8 : decode b_H_init 8 = .ok (.dup, 1) := by decide +kernel
theorem d_H_init_9 : decode b_H_init 9 = .ok (.invokespecial 11, 3) := by decide +kernel
theorem d_H_init_12 : decode b_H_init 12 = .ok (.putfield 12, 3) := by decide +kernel
theorem d_H_init_15 : decode b_H_init 15 = .ok (.aload_n 0, 1) := by decide +kernel
theorem d_H_init_16 : decode b_H_init 16 = .ok (.bipush 43, 2) := by decide +kernel
theorem d_H_init_18 : decode b_H_init 18 = .ok (.newarray .int, 2) := by decide +kernel
theorem d_H_init_20 : decode b_H_init 20 = .ok (.putfield 18, 3) := by decide +kernel
theorem d_H_init_23 : decode b_H_init 23 = .ok (.aload_n 0, 1) := by decide +kernel
theorem d_H_init_24 : decode b_H_init 24 = .ok (.bipush 43, 2) := by decide +kernel
theorem d_H_init_26 : decode b_H_init 26 = .ok (.newarray .int, 2) := by decide +kernel
theorem d_H_init_28 : decode b_H_init 28 = .ok (.putfield 22, 3) := by decide +kernel
theorem d_H_init_31 : decode b_H_init 31 = .ok (.aload_n 0, 1) := by decide +kernel
theorem d_H_init_32 : decode b_H_init 32 = .ok (.bipush 43, 2) := by decide +kernel
theorem d_H_init_34 : decode b_H_init 34 = .ok (.newarray .int, 2) := by decide +kernel
theorem d_H_init_36 : decode b_H_init 36 = .ok (.putfield 25, 3) := by decide +kernel
theorem d_H_init_39 : decode b_H_init 39 = .ok (.aload_n 0, 1) := by decide +kernel
theorem d_H_init_40 : decode b_H_init 40 = .ok (.iconst 0, 1) := by decide +kernel
theorem d_H_init_41 : decode b_H_init 41 = .ok (.putfield 28, 3) := by decide +kernel
theorem d_H_init_44 : decode b_H_init 44 = .ok (.return_, 1) := by decide +kernel
theorem d_H_has_0 : decode b_H_has 0 = .ok (.iload_n 1, 1) := by decide +kernel
theorem d_H_has_1 : decode b_H_has 1 = .ok (.ifCond .lt 15, 3) := by decide +kernel
theorem d_H_has_4 : decode b_H_has 4 = .ok (.iload_n 1, 1) := by decide +kernel
theorem d_H_has_5 : decode b_H_has 5 = .ok (.aload_n 0, 1) := by decide +kernel
theorem d_H_has_6 : decode b_H_has 6 = .ok (.getfield 28, 3) := by decide +kernel
theorem d_H_has_9 : decode b_H_has 9 = .ok (.if_icmp .ge 7, 3) := by decide +kernel
theorem d_H_has_12 : decode b_H_has 12 = .ok (.iconst 1, 1) := by decide +kernel
theorem d_H_has_13 : decode b_H_has 13 = .ok (.goto 4, 3) := by decide +kernel
theorem d_H_has_16 : decode b_H_has 16 = .ok (.iconst 0, 1) := by decide +kernel
theorem d_H_has_17 : decode b_H_has 17 = .ok (.ireturn, 1) := by decide +kernel
theorem d_H_isAct_0 : decode b_H_isAct 0 = .ok (.aload_n 0, 1) := by decide +kernel
theorem d_H_isAct_1 : decode b_H_isAct 1 = .ok (.iload_n 1, 1) := by decide +kernel
theorem d_H_isAct_2 : decode b_H_isAct 2 = .ok (.invokevirtual 54, 3) := by decide +kernel
theorem d_H_isAct_5 : decode b_H_isAct 5 = .ok (.ifCond .eq 17, 3) := by decide +kernel
theorem d_H_isAct_8 : decode b_H_isAct 8 = .ok (.aload_n 0, 1) := by decide +kernel
theorem d_H_isAct_9 : decode b_H_isAct 9 = .ok (.getfield 18, 3) := by decide +kernel
theorem d_H_isAct_12 : decode b_H_isAct 12 = .ok (.iload_n 1, 1) := by decide +kernel
theorem d_H_isAct_13 : decode b_H_isAct 13 = .ok (.iaload, 1) := by decide +kernel
theorem d_H_isAct_14 : decode b_H_isAct 14 = .ok (.iconst 5, 1) := by decide +kernel
theorem d_H_isAct_15 : decode b_H_isAct 15 = .ok (.if_icmp .ne 7, 3) := by decide +kernel
theorem d_H_isAct_18 : decode b_H_isAct 18 = .ok (.iconst 1, 1) := by decide +kernel
theorem d_H_isAct_19 : decode b_H_isAct 19 = .ok (.goto 4, 3) := by decide +kernel
theorem d_H_isAct_22 : decode b_H_isAct 22 = .ok (.iconst 0, 1) := by decide +kernel
theorem d_H_isAct_23 : decode b_H_isAct 23 = .ok (.ireturn, 1) := by decide +kernel
theorem d_H_isFittingAct_0 : decode b_H_isFittingAct 0 = .ok (.aload_n 0, 1) := by decide +kernel
theorem d_H_isFittingAct_1 : decode b_H_isFittingAct 1 = .ok (.iload_n 1, 1) := by decide +kernel
theorem d_H_isFittingAct_2 : decode b_H_isFittingAct 2 = .ok (.invokevirtual 58, 3) := by decide +kernel
theorem d_H_isFittingAct_5 : decode b_H_isFittingAct 5 = .ok (.ifCond .ne 5, 3) := by decide +kernel
theorem d_H_isFittingAct_8 : decode b_H_isFittingAct 8 = .ok (.iconst 0, 1) := by decide +kernel
theorem d_H_isFittingAct_9 : decode b_H_isFittingAct 9 = .ok (.ireturn, 1) := by decide +kernel
theorem d_H_isFittingAct_10 : decode b_H_isFittingAct 10 = .ok (.aload_n 0, 1) := by decide +kernel
theorem d_H_isFittingAct_11 : decode b_H_isFittingAct 11 = .ok (.getfield 25, 3) := by decide +kernel
theorem d_H_isFittingAct_14 : decode b_H_isFittingAct 14 = .ok (.iload_n 1, 1) := by decide +kernel
theorem d_H_isFittingAct_15 : decode b_H_isFittingAct 15 = .ok (.iaload, 1) := by decide +kernel
theorem d_H_isFittingAct_16 : decode b_H_isFittingAct 16 = .ok (.istore_n 2, 1) := by decide +kernel
theorem d_H_isFittingAct_17 : decode b_H_isFittingAct 17 = .ok (.aload_n 0, 1) := by decide +kernel
theorem d_H_isFittingAct_18 : decode b_H_isFittingAct 18 = .ok (.iload_n 2, 1) := by decide +kernel
theorem d_H_isFittingAct_19 : decode b_H_isFittingAct 19 = .ok (.invokevirtual 54, 3) := by decide +kernel
theorem d_H_isFittingAct_22 : decode b_H_isFittingAct 22 = .ok (.ifCond .eq 26, 3) := by decide +kernel
theorem d_H_isFittingAct_25 : decode b_H_isFittingAct 25 = .ok (.aload_n 0, 1) := by decide +kernel
theorem d_H_isFittingAct_26 : decode b_H_isFittingAct 26 = .ok (.getfield 22, 3) := by decide +kernel
theorem d_H_isFittingAct_29 : decode b_H_isFittingAct 29 = .ok (.iload_n 2, 1) := by decide +kernel
theorem d_H_isFittingAct_30 : decode b_H_isFittingAct 30 = .ok (.iaload, 1) := by decide +kernel
theorem d_H_isFittingAct_31 : decode b_H_isFittingAct 31 = .ok (.iconst 2, 1) := by decide +kernel
theorem d_H_isFittingAct_32 : decode b_H_isFittingAct 32 = .ok (.irem, 1) := by decide +kernel
theorem d_H_isFittingAct_33 : decode b_H_isFittingAct 33 = .ok (.aload_n 0, 1) := by decide +kernel
theorem d_H_isFittingAct_34 : decode b_H_isFittingAct 34 = .ok (.getfield 22, 3) := by decide +kernel
theorem d_H_isFittingAct_37 : decode b_H_isFittingAct 37 = .ok (.iload_n 1, 1) := by decide +kernel
theorem d_H_isFittingAct_38 : decode b_H_isFittingAct 38 = .ok (.iaload, 1) := by decide +kernel
theorem d_H_isFittingAct_39 : decode b_H_isFittingAct 39 = .ok (.iconst 2, 1) := by decide +kernel
theorem d_H_isFittingAct_40 : decode b_H_isFittingAct 40 = .ok (.irem, 1) := by decide +kernel
theorem d_H_isFittingAct_41 : decode b_H_isFittingAct 41 = .ok (.if_icmp .ne 7, 3) := by decide +kernel
theorem d_H_isFittingAct_44 : decode b_H_isFittingAct 44 = .ok (.iconst 1, 1) := by decide +kernel
theorem d_H_isFittingAct_45 : decode b_H_isFittingAct 45 = .ok (.goto 4, 3) := by decide +kernel
theorem d_H_isFittingAct_48 : decode b_H_isFittingAct 48 = .ok (.iconst 0, 1) := by decide +kernel
theorem d_H_isFittingAct_49 : decode b_H_isFittingAct 49 = .ok (.ireturn, 1) := by decide +kernel
theorem d_H_ofKindAheadOf_0 : decode b_H_ofKindAheadOf 0 = .ok (.iconst 0, 1) := by decide +kernel
theorem d_H_ofKindAheadOf_1 : decode b_H_ofKindAheadOf 1 = .ok (.istore_n 3, 1) := by decide +kernel
theorem d_H_ofKindAheadOf_2 : decode b_H_ofKindAheadOf 2 = .ok (.iconst 0, 1) := by decide +kernel
theorem d_H_ofKindAheadOf_3 : decode b_H_ofKindAheadOf 3 = .ok (.istore 4, 2) := by decide +kernel
theorem d_H_ofKindAheadOf_5 : decode b_H_ofKindAheadOf 5 = .ok (.iload 4, 2) := by decide +kernel
theorem d_H_ofKindAheadOf_7 : decode b_H_ofKindAheadOf 7 = .ok (.iload_n 2, 1) := by decide +kernel
theorem d_H_ofKindAheadOf_8 : decode b_H_ofKindAheadOf 8 = .ok (.if_icmp .ge 32, 3) := by decide +kernel
theorem d_H_ofKindAheadOf_11 : decode b_H_ofKindAheadOf 11 = .ok (.iload 4, 2) := by decide +kernel
theorem d_H_ofKindAheadOf_13 : decode b_H_ofKindAheadOf 13 = .ok (.aload_n 0, 1) := by decide +kernel
theorem d_H_ofKindAheadOf_14 : decode b_H_ofKindAheadOf 14 = .ok (.getfield 28, 3) := by decide +kernel
theorem d_H_ofKindAheadOf_17 : decode b_H_ofKindAheadOf 17 = .ok (.if_icmp .ge 23, 3) := by decide +kernel
theorem d_H_ofKindAheadOf_20 : decode b_H_ofKindAheadOf 20 = .ok (.aload_n 0, 1) := by decide +kernel
theorem d_H_ofKindAheadOf_21 : decode b_H_ofKindAheadOf 21 = .ok (.getfield 18, 3) := by decide +kernel
theorem d_H_ofKindAheadOf_24 : decode b_H_ofKindAheadOf 24 = .ok (.iload 4, 2) := by decide +kernel
theorem d_H_ofKindAheadOf_26 : decode b_H_ofKindAheadOf 26 = .ok (.iaload, 1) := by decide +kernel
theorem d_H_ofKindAheadOf_27 : decode b_H_ofKindAheadOf 27 = .ok (.iload_n 1, 1) := by decide +kernel
theorem d_H_ofKindAheadOf_28 : decode b_H_ofKindAheadOf 28 = .ok (.if_icmp .ne 6, 3) := by decide +kernel
theorem d_H_ofKindAheadOf_31 : decode b_H_ofKindAheadOf 31 = .ok (.iinc 3 1, 3) := by decide +kernel
theorem d_H_ofKindAheadOf_34 : decode b_H_ofKindAheadOf 34 = .ok (.iinc 4 1, 3) := by decide +kernel
theorem d_H_ofKindAheadOf_37 : decode b_H_ofKindAheadOf 37 = .ok (.goto (-32), 3) := by decide +kernel
theorem d_H_ofKindAheadOf_40 : decode b_H_ofKindAheadOf 40 = .ok (.iload_n 3, 1) := by decide +kernel
theorem d_H_ofKindAheadOf_41 : decode b_H_ofKindAheadOf 41 = .ok (.ireturn, 1) := by decide +kernel
theorem d_H_partsToReferTo_0 : decode b_H_partsToReferTo 0 = .ok (.iconst 0, 1) := by decide +kernel
theorem d_H_partsToReferTo_1 : decode b_H_partsToReferTo 1 = .ok (.istore_n 2, 1) := by decide +kernel
theorem d_H_partsToReferTo_2 : decode b_H_partsToReferTo 2 = .ok (.iconst 0, 1) := by decide +kernel
theorem d_H_partsToReferTo_3 : decode b_H_partsToReferTo 3 = .ok (.istore_n 3, 1) := by decide +kernel
theorem d_H_partsToReferTo_4 : decode b_H_partsToReferTo 4 = .ok (.iload_n 3, 1) := by decide +kernel
theorem d_H_partsToReferTo_5 : decode b_H_partsToReferTo 5 = .ok (.aload_n 0, 1) := by decide +kernel
theorem d_H_partsToReferTo_6 : decode b_H_partsToReferTo 6 = .ok (.getfield 28, 3) := by decide +kernel
theorem d_H_partsToReferTo_9 : decode b_H_partsToReferTo 9 = .ok (.if_icmp .ge 25, 3) := by decide +kernel
theorem d_H_partsToReferTo_12 : decode b_H_partsToReferTo 12 = .ok (.iload_n 1, 1) := by decide +kernel
theorem d_H_partsToReferTo_13 : decode b_H_partsToReferTo 13 = .ok (.aload_n 0, 1) := by decide +kernel
theorem d_H_partsToReferTo_14 : decode b_H_partsToReferTo 14 = .ok (.getfield 18, 3) := by decide +kernel
theorem d_H_partsToReferTo_17 : decode b_H_partsToReferTo 17 = .ok (.iload_n 3, 1) := by decide +kernel
theorem d_H_partsToReferTo_18 : decode b_H_partsToReferTo 18 = .ok (.iaload, 1) := by decide +kernel
theorem d_H_partsToReferTo_19 : decode b_H_partsToReferTo 19 = .ok (.invokestatic 50, 3) := by decide +kernel
theorem d_H_partsToReferTo_22 : decode b_H_partsToReferTo 22 = .ok (.ifCond .eq 6, 3) := by decide +kernel
theorem d_H_partsToReferTo_25 : decode b_H_partsToReferTo 25 = .ok (.iinc 2 1, 3) := by decide +kernel
theorem d_H_partsToReferTo_28 : decode b_H_partsToReferTo 28 = .ok (.iinc 3 1, 3) := by decide +kernel
theorem d_H_partsToReferTo_31 : decode b_H_partsToReferTo 31 = .ok (.goto (-27), 3) := by decide +kernel
theorem d_H_partsToReferTo_34 : decode b_H_partsToReferTo 34 = .ok (.iload_n 2, 1) := by decide +kernel
theorem d_H_partsToReferTo_35 : decode b_H_partsToReferTo 35 = .ok (.ireturn, 1) := by decide +kernel
theorem d_H_isLike_0 : decode b_H_isLike 0 = .ok (.aload_n 1, 1) := by decide +kernel
theorem d_H_isLike_1 : decode b_H_isLike 1 = .ok (.ifnull 14, 3) := by decide +kernel
theorem d_H_isLike_4 : decode b_H_isLike 4 = .ok (.aload_n 1, 1) := by decide +kernel
theorem d_H_isLike_5 : decode b_H_isLike 5 = .ok (.getfield 28, 3) := by decide +kernel
theorem d_H_isLike_8 : decode b_H_isLike 8 = .ok (.aload_n 0, 1) := by decide +kernel
theorem d_H_isLike_9 : decode b_H_isLike 9 = .ok (.getfield 28, 3) := by decide +kernel
theorem d_H_isLike_12 : decode b_H_isLike 12 = .ok (.if_icmp .eq 5, 3) := by decide +kernel
theorem d_H_isLike_15 : decode b_H_isLike 15 = .ok (.iconst 0, 1) := by decide +kernel
theorem d_H_isLike_16 : decode b_H_isLike 16 = .ok (.ireturn, 1) := by decide +kernel
theorem d_H_isLike_17 : decode b_H_isLike 17 = .ok (.iconst 0, 1) := by decide +kernel
theorem d_H_isLike_18 : decode b_H_isLike 18 = .ok (.istore_n 2, 1) := by decide +kernel
theorem d_H_isLike_19 : decode b_H_isLike 19 = .ok (.iload_n 2, 1) := by decide +kernel
theorem d_H_isLike_20 : decode b_H_isLike 20 = .ok (.aload_n 0, 1) := by decide +kernel
theorem d_H_isLike_21 : decode b_H_isLike 21 = .ok (.getfield 28, 3) := by decide +kernel
theorem d_H_isLike_24 : decode b_H_isLike 24 = .ok (.if_icmp .ge 56, 3) := by decide +kernel
theorem d_H_isLike_27 : decode b_H_isLike 27 = .ok (.aload_n 0, 1) := by decide +kernel
theorem d_H_isLike_28 : decode b_H_isLike 28 = .ok (.getfield 18, 3) := by decide +kernel
theorem d_H_isLike_31 : decode b_H_isLike 31 = .ok (.iload_n 2, 1) := by decide +kernel
theorem d_H_isLike_32 : decode b_H_isLike 32 = .ok (.iaload, 1) := by decide +kernel
theorem d_H_isLike_33 : decode b_H_isLike 33 = .ok (.aload_n 1, 1) := by decide +kernel
theorem d_H_isLike_34 : decode b_H_isLike 34 = .ok (.getfield 18, 3) := by decide +kernel
theorem d_H_isLike_37 : decode b_H_isLike 37 = .ok (.iload_n 2, 1) := by decide +kernel
theorem d_H_isLike_38 : decode b_H_isLike 38 = .ok (.iaload, 1) := by decide +kernel
theorem d_H_isLike_39 : decode b_H_isLike 39 = .ok (.if_icmp .ne 33, 3) := by decide +kernel
theorem d_H_isLike_42 : decode b_H_isLike 42 = .ok (.aload_n 0, 1) := by decide +kernel
theorem d_H_isLike_43 : decode b_H_isLike 43 = .ok (.getfield 22, 3) := by decide +kernel
theorem d_H_isLike_46 : decode b_H_isLike 46 = .ok (.iload_n 2, 1) := by decide +kernel
theorem d_H_isLike_47 : decode b_H_isLike 47 = .ok (.iaload, 1) := by decide +kernel
theorem d_H_isLike_48 : decode b_H_isLike 48 = .ok (.aload_n 1, 1) := by decide +kernel
theorem d_H_isLike_49 : decode b_H_isLike 49 = .ok (.getfield 22, 3) := by decide +kernel
theorem d_H_isLike_52 : decode b_H_isLike 52 = .ok (.iload_n 2, 1) := by decide +kernel
theorem d_H_isLike_53 : decode b_H_isLike 53 = .ok (.iaload, 1) := by decide +kernel
theorem d_H_isLike_54 : decode b_H_isLike 54 = .ok (.if_icmp .ne 18, 3) := by decide +kernel
theorem d_H_isLike_57 : decode b_H_isLike 57 = .ok (.aload_n 0, 1) := by decide +kernel
theorem d_H_isLike_58 : decode b_H_isLike 58 = .ok (.getfield 25, 3) := by decide +kernel
theorem d_H_isLike_61 : decode b_H_isLike 61 = .ok (.iload_n 2, 1) := by decide +kernel
theorem d_H_isLike_62 : decode b_H_isLike 62 = .ok (.iaload, 1) := by decide +kernel
theorem d_H_isLike_63 : decode b_H_isLike 63 = .ok (.aload_n 1, 1) := by decide +kernel
theorem d_H_isLike_64 : decode b_H_isLike 64 = .ok (.getfield 25, 3) := by decide +kernel
theorem d_H_isLike_67 : decode b_H_isLike 67 = .ok (.iload_n 2, 1) := by decide +kernel
theorem d_H_isLike_68 : decode b_H_isLike 68 = .ok (.iaload, 1) := by decide +kernel
theorem d_H_isLike_69 : decode b_H_isLike 69 = .ok (.if_icmp .eq 5, 3) := by decide +kernel
theorem d_H_isLike_72 : decode b_H_isLike 72 = .ok (.iconst 0, 1) := by decide +kernel
theorem d_H_isLike_73 : decode b_H_isLike 73 = .ok (.ireturn, 1) := by decide +kernel
theorem d_H_isLike_74 : decode b_H_isLike 74 = .ok (.iinc 2 1, 3) := by decide +kernel
theorem d_H_isLike_77 : decode b_H_isLike 77 = .ok (.goto (-58), 3) := by decide +kernel
theorem d_H_isLike_80 : decode b_H_isLike 80 = .ok (.iconst 1, 1) := by decide +kernel
theorem d_H_isLike_81 : decode b_H_isLike 81 = .ok (.ireturn, 1) := by decide +kernel
set_option maxHeartbeats 4000000 in
set_option maxRecDepth 100000 in
/-- Harbour() -/
theorem c_H_init (l : Launch) (dC : Nat → ClassId) (dI : Nat → Nat → Nat) (jh : Nat) (n0 : Int32)  (sz : Nat) : Met l y_H_init w_H_init ({ frames := 2, cells := 4, slots := 130, locals := 40 }) (wr_P dC dI [.ref jh] [(jh, .inr (1, [.null, .null, .null, .null, .int n0]))] [] sz) (va_Qv (fun (_ : Nat × Nat × Nat × Nat × ClassId × ClassId × ClassId) => True) (fun (u : Nat × Nat × Nat × Nat × ClassId × ClassId × ClassId) => wr_B dC dI (va_A [(jh, .inr (1, [.null, .null, .null, .null, .int n0]))] sz) [(jh, .inr (1, [.ref u.1, .ref u.2.1, .ref u.2.2.1, .ref u.2.2.2.1, .int (nI 0)])), (u.1, .inr (0, [.long 0])), (u.2.1, .inl (u.2.2.2.2.1, 43, .inl (fun _ => 0))), (u.2.2.1, .inl (u.2.2.2.2.2.1, 43, .inl (fun _ => 0))), (u.2.2.2.1, .inl (u.2.2.2.2.2.2, 43, .inl (fun _ => 0)))] [(u.2.2.2.2.1, .int), (u.2.2.2.2.2.1, .int), (u.2.2.2.2.2.2, .int)]) (va_A [(jh, .inr (1, [.null, .null, .null, .null, .int n0]))] sz)) 4 130 (va_A [(jh, .inr (1, [.null, .null, .null, .null, .int n0]))] sz) := by
  refine Met.ofW (cc := b_H_init) (maxL := 1) (ret := (Option.none : Option Jvm.ClassFile.FieldType)) (by decide) rfl ?_
  intro p e s m args below meth c s₁ B0 hml hv0
  obtain ⟨rfl, hsz, hP, hK, hD0, hN⟩ := hv0
  have hx := B0.exec
  have hb := B0.bytes
  have hr := B0.returns
  have hts := atoms_spec (ws := w_H_init) B0.pre
  have hown : s.vm.findClass R_H = some m.cls := findClass_of_methodNamed B0.named
  have hlocks := B0.notSynchronized
  have hin : meth.name = "<init>" := (name_of_methodNamed B0.named B0.method).1
  subst hsz
  have hD := hD0.self (sz := s.heap.size)
  generalize hAe : va_A [(jh, .inr (1, [.null, .null, .null, .null, .int n0]))] s.heap.size = A at hD ⊢
  have hA : ∀ q : Nat, s.heap.size ≤ q → A q := fun q h => by rw [← hAe]; exact Or.inr h
  have hS : va_S A s.heap s.heap [] := va_S.rf
  have hP : va_P (dC, dI) classes [(jh, .inr (1, [.null, .null, .null, .null, .int n0]))] s.heap := hP
  have hl := lv_entry ([.ref jh]) (n := 1) (Nat.le_of_ble_eq_true rfl)
  rw [lg_entry_eq]
  generalize (lg_sl ([.ref jh]) ++ List.replicate (1 - (lg_sl ([.ref jh])).length) Slot.unset).toArray = ls at hl ⊢
  have hl : lv_has ls 1 [(0, .ref jh)] := hl
  refine lv_aload_n hx hb d_H_init_0 rfl (lv_at hl 0 rfl) ?_
  refine W.objInit hx hb hown (hts _ (List.mem_cons_of_mem _ m_24)) (hts _ (List.mem_cons_of_mem _ m_17)) (hts _ (List.mem_cons_of_mem _ m_18)) rfl (by rw [hml]; exact hl.1) rfl d_H_init_1 (Nat.le_of_ble_eq_true rfl) (Nat.le_of_ble_eq_true rfl) ?_
  refine W.eq (g2 := F0 m 4 ls []) rfl ?_
  refine lv_aload_n hx hb d_H_init_4 rfl (lv_at hl 0 rfl) ?_
  refine va_new (ci := 0) (fs := [.long 0]) (C := R_T) (T := F_T) (N := 1) hx hb hts (lay_T _) ft_T tok_T hown (hts _ (List.mem_cons_of_mem _ m_25)) (hts _ (List.mem_cons_of_mem _ m_26)) (hts _ (List.mem_cons_of_mem _ m_3)) hK hP hD hS hA rfl (fun j hj => by rcases (show j = 0 by omega) with rfl <;> rfl) (Nat.le_of_ble_eq_true rfl) (Nat.le_of_ble_eq_true rfl) d_H_init_5 (fun q_1 H hP hD hS => ?_)
  have hP : va_P (dC, dI) classes [(jh, .inr (1, [.null, .null, .null, .null, .int n0])), (q_1, .inr (0, [.long 0]))] H := hP
  have hD : va_D A [(jh, .inr (1, [.null, .null, .null, .null, .int n0])), (q_1, .inr (0, [.long 0]))] := hD
  refine W.cs (cells' := 1) (slots' := 1) rfl rfl ?_
  refine lv_dup hx hb d_H_init_8 rfl ?_
  have hPc := hP.sub (ws' := [(q_1, .inr (0, [.long 0]))]) [1] rfl
  have hKc := hK.sub (tys' := []) [] rfl
  have hDc := hD.sub (ws' := [(q_1, .inr (0, [.long 0]))]) [1] (by decide) rfl
  have hFc := va_free (wc := [(q_1, .inr (0, [.long 0]))]) hD hS hA [1] rfl
  refine va_callv (va_runIN (As := []) (rest := [.ref q_1, .ref jh]) ⟨hx, hb, hml, hown, hts⟩ (c_T_init l dC dI q_1 0 _) ⟨va_cnB 0 hts (g_c big_w m_29) rfl rfl rfl (hN _ (by decide +kernel : (Jvm.Cond.methodLinkNest "PortDrawer$Harbour" (11 : Nat) ({ cls := "PortDrawer$Tape", name := "<init>", desc := "()V" } : Jvm.MethodName) "PortDrawer") ∈ NWl)) (hts _ (List.mem_cons_of_mem _ m_3)) (by decide +kernel) ⟨Nat.le_of_ble_eq_true rfl, Nat.le_of_ble_eq_true rfl⟩, rfl, (hts _ (List.mem_cons_of_mem _ m_28))⟩ (wr_S hPc hKc hDc hN) rfl rfl hl.1 rfl (lv_room (Nat.le_of_ble_eq_true rfl)) d_H_init_9 ⟨Nat.le_of_ble_eq_true rfl, Nat.le_of_ble_eq_true rfl⟩) hS (fun q _ h => hFc q h) hFc (fun u t H1 locs ht hvm hw hB hz1 hk1 hS => ?_)
  obtain ⟨hP1, hK1, hD1⟩ := hB
  rw [ht] at hP1
  obtain ⟨hP, hD⟩ := va_join (wr := [(jh, .inr (1, [.null, .null, .null, .null, .int n0]))]) (w1 := [(q_1, .inr (0, [.long 0]))]) hP hD [1] [0] rfl rfl (by decide) (by decide) hk1 hFc hP1 hD1
  generalize H1 = H at hP hS ⊢
  have hP : va_P (dC, dI) classes [(jh, .inr (1, [.null, .null, .null, .null, .int n0])), (q_1, .inr (0, [.long 0]))] H := hP
  have hD : va_D A [(jh, .inr (1, [.null, .null, .null, .null, .int n0])), (q_1, .inr (0, [.long 0]))] := hD
  refine va_putF (D := (dC, dI)) (ci := 1) (v := .ref q_1) (ty := .object "PortDrawer$Tape") (C := R_H) (T := F_H) (N := 5) hx hb hts (lay_H _) ft_H tok_H nok_H hown hK hP hD hS 0 rfl rfl 0 (by decide) (hts _ (List.mem_cons_of_mem _ m_35)) (fun _ h9 => h9) rfl hin rfl (by decide +kernel) rfl rfl (Nat.le_of_ble_eq_true rfl) d_H_init_12 (fun H locs hP hD hS => ?_)
  have hP : va_P (dC, dI) classes [(jh, .inr (1, [.ref q_1, .null, .null, .null, .int n0])), (q_1, .inr (0, [.long 0]))] H := hP
  have hD : va_D A [(jh, .inr (1, [.ref q_1, .null, .null, .null, .int n0])), (q_1, .inr (0, [.long 0]))] := hD
  refine lv_aload_n hx hb d_H_init_15 rfl (lv_at hl 0 rfl) ?_
  refine lv_bipush (v := nI 43) hx hb d_H_init_16 (by decide +kernel) ?_
  refine va_newa (atype := .int) (ty := .int) (a0 := (43, .inl (fun _ => 0))) hx hb (hts _ (List.mem_cons_of_mem _ m_55)) rfl hK hP hD hS hA (fun _ => rfl) (nI_pos (by omega)) (nI_clamp (by omega)) (by decide) (Nat.le_of_ble_eq_true rfl) (Nat.le_of_ble_eq_true rfl) d_H_init_18 (fun q_3 cA_4 H hK hP hD hS => ?_)
  have hK : va_K (dC, dI) classes [(cA_4, .int)] s := hK
  have hP : va_P (dC, dI) classes [(jh, .inr (1, [.ref q_1, .null, .null, .null, .int n0])), (q_1, .inr (0, [.long 0])), (q_3, .inl (cA_4, 43, .inl (fun _ => 0)))] H := hP
  have hD : va_D A [(jh, .inr (1, [.ref q_1, .null, .null, .null, .int n0])), (q_1, .inr (0, [.long 0])), (q_3, .inl (cA_4, 43, .inl (fun _ => 0)))] := hD
  refine W.cs (cells' := 2) (slots' := 44) rfl rfl ?_
  refine va_putF (D := (dC, dI)) (ci := 1) (v := .ref q_3) (ty := .array .int) (C := R_H) (T := F_H) (N := 5) hx hb hts (lay_H _) ft_H tok_H nok_H hown hK hP hD hS 0 rfl rfl 1 (by decide) (hts _ (List.mem_cons_of_mem _ m_36)) (fun _ h9 => h9) rfl hin rfl (by decide +kernel) rfl rfl (Nat.le_of_ble_eq_true rfl) d_H_init_20 (fun H locs hP hD hS => ?_)
  have hP : va_P (dC, dI) classes [(jh, .inr (1, [.ref q_1, .ref q_3, .null, .null, .int n0])), (q_1, .inr (0, [.long 0])), (q_3, .inl (cA_4, 43, .inl (fun _ => 0)))] H := hP
  have hD : va_D A [(jh, .inr (1, [.ref q_1, .ref q_3, .null, .null, .int n0])), (q_1, .inr (0, [.long 0])), (q_3, .inl (cA_4, 43, .inl (fun _ => 0)))] := hD
  refine lv_aload_n hx hb d_H_init_23 rfl (lv_at hl 0 rfl) ?_
  refine lv_bipush (v := nI 43) hx hb d_H_init_24 (by decide +kernel) ?_
  refine va_newa (atype := .int) (ty := .int) (a0 := (43, .inl (fun _ => 0))) hx hb (hts _ (List.mem_cons_of_mem _ m_55)) rfl hK hP hD hS hA (fun _ => rfl) (nI_pos (by omega)) (nI_clamp (by omega)) (by decide) (Nat.le_of_ble_eq_true rfl) (Nat.le_of_ble_eq_true rfl) d_H_init_26 (fun q_5 cA_6 H hK hP hD hS => ?_)
  have hK : va_K (dC, dI) classes [(cA_4, .int), (cA_6, .int)] s := hK
  have hP : va_P (dC, dI) classes [(jh, .inr (1, [.ref q_1, .ref q_3, .null, .null, .int n0])), (q_1, .inr (0, [.long 0])), (q_3, .inl (cA_4, 43, .inl (fun _ => 0))), (q_5, .inl (cA_6, 43, .inl (fun _ => 0)))] H := hP
  have hD : va_D A [(jh, .inr (1, [.ref q_1, .ref q_3, .null, .null, .int n0])), (q_1, .inr (0, [.long 0])), (q_3, .inl (cA_4, 43, .inl (fun _ => 0))), (q_5, .inl (cA_6, 43, .inl (fun _ => 0)))] := hD
  refine W.cs (cells' := 3) (slots' := 87) rfl rfl ?_
  refine va_putF (D := (dC, dI)) (ci := 1) (v := .ref q_5) (ty := .array .int) (C := R_H) (T := F_H) (N := 5) hx hb hts (lay_H _) ft_H tok_H nok_H hown hK hP hD hS 0 rfl rfl 2 (by decide) (hts _ (List.mem_cons_of_mem _ m_38)) (fun _ h9 => h9) rfl hin rfl (by decide +kernel) rfl rfl (Nat.le_of_ble_eq_true rfl) d_H_init_28 (fun H locs hP hD hS => ?_)
  have hP : va_P (dC, dI) classes [(jh, .inr (1, [.ref q_1, .ref q_3, .ref q_5, .null, .int n0])), (q_1, .inr (0, [.long 0])), (q_3, .inl (cA_4, 43, .inl (fun _ => 0))), (q_5, .inl (cA_6, 43, .inl (fun _ => 0)))] H := hP
  have hD : va_D A [(jh, .inr (1, [.ref q_1, .ref q_3, .ref q_5, .null, .int n0])), (q_1, .inr (0, [.long 0])), (q_3, .inl (cA_4, 43, .inl (fun _ => 0))), (q_5, .inl (cA_6, 43, .inl (fun _ => 0)))] := hD
  refine lv_aload_n hx hb d_H_init_31 rfl (lv_at hl 0 rfl) ?_
  refine lv_bipush (v := nI 43) hx hb d_H_init_32 (by decide +kernel) ?_
  refine va_newa (atype := .int) (ty := .int) (a0 := (43, .inl (fun _ => 0))) hx hb (hts _ (List.mem_cons_of_mem _ m_55)) rfl hK hP hD hS hA (fun _ => rfl) (nI_pos (by omega)) (nI_clamp (by omega)) (by decide) (Nat.le_of_ble_eq_true rfl) (Nat.le_of_ble_eq_true rfl) d_H_init_34 (fun q_7 cA_8 H hK hP hD hS => ?_)
  have hK : va_K (dC, dI) classes [(cA_4, .int), (cA_6, .int), (cA_8, .int)] s := hK
  have hP : va_P (dC, dI) classes [(jh, .inr (1, [.ref q_1, .ref q_3, .ref q_5, .null, .int n0])), (q_1, .inr (0, [.long 0])), (q_3, .inl (cA_4, 43, .inl (fun _ => 0))), (q_5, .inl (cA_6, 43, .inl (fun _ => 0))), (q_7, .inl (cA_8, 43, .inl (fun _ => 0)))] H := hP
  have hD : va_D A [(jh, .inr (1, [.ref q_1, .ref q_3, .ref q_5, .null, .int n0])), (q_1, .inr (0, [.long 0])), (q_3, .inl (cA_4, 43, .inl (fun _ => 0))), (q_5, .inl (cA_6, 43, .inl (fun _ => 0))), (q_7, .inl (cA_8, 43, .inl (fun _ => 0)))] := hD
  refine W.cs (cells' := 4) (slots' := 130) rfl rfl ?_
  refine va_putF (D := (dC, dI)) (ci := 1) (v := .ref q_7) (ty := .array .int) (C := R_H) (T := F_H) (N := 5) hx hb hts (lay_H _) ft_H tok_H nok_H hown hK hP hD hS 0 rfl rfl 3 (by decide) (hts _ (List.mem_cons_of_mem _ m_40)) (fun _ h9 => h9) rfl hin rfl (by decide +kernel) rfl rfl (Nat.le_of_ble_eq_true rfl) d_H_init_36 (fun H locs hP hD hS => ?_)
  have hP : va_P (dC, dI) classes [(jh, .inr (1, [.ref q_1, .ref q_3, .ref q_5, .ref q_7, .int n0])), (q_1, .inr (0, [.long 0])), (q_3, .inl (cA_4, 43, .inl (fun _ => 0))), (q_5, .inl (cA_6, 43, .inl (fun _ => 0))), (q_7, .inl (cA_8, 43, .inl (fun _ => 0)))] H := hP
  have hD : va_D A [(jh, .inr (1, [.ref q_1, .ref q_3, .ref q_5, .ref q_7, .int n0])), (q_1, .inr (0, [.long 0])), (q_3, .inl (cA_4, 43, .inl (fun _ => 0))), (q_5, .inl (cA_6, 43, .inl (fun _ => 0))), (q_7, .inl (cA_8, 43, .inl (fun _ => 0)))] := hD
  refine lv_aload_n hx hb d_H_init_39 rfl (lv_at hl 0 rfl) ?_
  refine lv_iconst (v := nI 0) hx hb d_H_init_40 (by decide +kernel) ?_
  refine va_put (D := (dC, dI)) (ci := 1) (v := .int (nI 0)) (ty := .int) (C := R_H) (T := F_H) (N := 5) hx hb hts (lay_H _) ft_H tok_H nok_H hown hK hP hD hS 0 rfl rfl 4 (by decide) (hts _ (List.mem_cons_of_mem _ m_42)) (fun _ h9 => h9) rfl (by decide +kernel) rfl rfl (Nat.le_of_ble_eq_true rfl) d_H_init_41 (fun H locs hP hD hS => ?_)
  have hP : va_P (dC, dI) classes [(jh, .inr (1, [.ref q_1, .ref q_3, .ref q_5, .ref q_7, .int (nI 0)])), (q_1, .inr (0, [.long 0])), (q_3, .inl (cA_4, 43, .inl (fun _ => 0))), (q_5, .inl (cA_6, 43, .inl (fun _ => 0))), (q_7, .inl (cA_8, 43, .inl (fun _ => 0)))] H := hP
  have hD : va_D A [(jh, .inr (1, [.ref q_1, .ref q_3, .ref q_5, .ref q_7, .int (nI 0)])), (q_1, .inr (0, [.long 0])), (q_3, .inl (cA_4, 43, .inl (fun _ => 0))), (q_5, .inl (cA_6, 43, .inl (fun _ => 0))), (q_7, .inl (cA_8, 43, .inl (fun _ => 0)))] := hD
  have hP9 := hP.sub (ws' := [(jh, .inr (1, [.ref q_1, .ref q_3, .ref q_5, .ref q_7, .int (nI 0)])), (q_1, .inr (0, [.long 0])), (q_3, .inl (cA_4, 43, .inl (fun _ => 0))), (q_5, .inl (cA_6, 43, .inl (fun _ => 0))), (q_7, .inl (cA_8, 43, .inl (fun _ => 0)))]) [0, 1, 2, 3, 4] rfl
  have hD9 := hD.sub (ws' := [(jh, .inr (1, [.ref q_1, .ref q_3, .ref q_5, .ref q_7, .int (nI 0)])), (q_1, .inr (0, [.long 0])), (q_3, .inl (cA_4, 43, .inl (fun _ => 0))), (q_5, .inl (cA_6, 43, .inl (fun _ => 0))), (q_7, .inl (cA_8, 43, .inl (fun _ => 0)))]) [0, 1, 2, 3, 4] (by decide) rfl
  have hK9 := hK.sub (tys' := [(cA_4, .int), (cA_6, .int), (cA_8, .int)]) [0, 1, 2] rfl
  exact W.vret hx hb hr (fun t ht hW => ⟨⟨(q_1, q_3, q_5, q_7, cA_4, cA_6, cA_8), rfl, trivial, by rw [ht]; exact hP9, va_K.moved hW.alike hK9, hD9⟩, hS.F ht⟩) hS.2.2 d_H_init_44
set_option maxHeartbeats 4000000 in
set_option maxRecDepth 100000 in
/-- Harbour.has -/
theorem c_H_has (l : Launch) (dC : Nat → ClassId) (dI : Nat → Nat → Nat) (jh jt jk jv jr n : Nat) (p0 : Int32)  : Met l y_H_has w_H_has ({ frames := 0, cells := 0, slots := 0, locals := 0 }) (ro_P dC dI [.ref jh, .int p0] [(jh, .inr (1, [.ref jt, .ref jk, .ref jv, .ref jr, .int (nI n)]))] []) (vp_Si (fun r => r = bI (hB n p0))) 0 0 (fun _ => False) := by
  refine Met.ofW (cc := b_H_has) (maxL := 2) (ret := (Option.some Jvm.ClassFile.FieldType.boolean)) (by decide) rfl ?_
  intro p e s m args below meth c s₁ B0 hml hv0
  obtain ⟨rfl, hP, hK, hN⟩ := hv0
  have hx := B0.exec
  have hb := B0.bytes
  have hr := B0.returns
  have hts := atoms_spec (ws := w_H_has) B0.pre
  have hown : s.vm.findClass R_H = some m.cls := findClass_of_methodNamed B0.named
  have hlocks := B0.notSynchronized
  have hP : va_P (dC, dI) classes [(jh, .inr (1, [.ref jt, .ref jk, .ref jv, .ref jr, .int (nI n)]))] s.heap := hP
  have hl := lv_entry ([.ref jh, .int p0]) (n := 2) (Nat.le_of_ble_eq_true rfl)
  rw [lg_entry_eq]
  generalize (lg_sl ([.ref jh, .int p0]) ++ List.replicate (2 - (lg_sl ([.ref jh, .int p0])).length) Slot.unset).toArray = ls at hl ⊢
  have hl : lv_has ls 2 [(0, .ref jh), (1, .int p0)] := hl
  refine lv_iload_n hx hb d_H_has_0 rfl (lv_at hl 1 rfl) ?_
  refine lv_if_lt (tgt := 16) hx hb d_H_has_1 (by decide) (fun c_1 => ?_) (fun c_1 => ?_)
  · skip
    refine lv_iconst (v := nI 0) hx hb d_H_has_16 (by decide +kernel) ?_
    exact W.zret (v := nI 0) (ty := .boolean) hx hb hr (by decide +kernel) (fun t ht hW => ⟨nI 0, rfl, (by simp [hB, bI, c_1]), ht⟩) (fun _ h => nomatch h) d_H_has_17
  · skip
    refine lv_iload_n hx hb d_H_has_4 rfl (lv_at hl 1 rfl) ?_
    refine lv_aload_n hx hb d_H_has_5 rfl (lv_at hl 0 rfl) ?_
    refine va_get (D := (dC, dI)) (ci := 1) (v := .int (nI n)) (C := R_H) (T := F_H) (N := 5) hx hb hts (lay_H _) hown hK hP 0 rfl rfl 4 (by decide) (hts _ (List.mem_cons_of_mem _ m_42)) (fun _ h9 => h9) rfl d_H_has_6 ?_
    refine lv_icmp_ge (tgt := 16) hx hb d_H_has_9 (by decide) (fun c_9 => ?_) (fun c_9 => ?_)
    · skip
      refine lv_iconst (v := nI 0) hx hb d_H_has_16 (by decide +kernel) ?_
      exact W.zret (v := nI 0) (ty := .boolean) hx hb hr (by decide +kernel) (fun t ht hW => ⟨nI 0, rfl, (by simp [hB, bI, c_1, c_9]), ht⟩) (fun _ h => nomatch h) d_H_has_17
    · skip
      refine lv_iconst (v := nI 1) hx hb d_H_has_12 (by decide +kernel) ?_
      refine lv_goto (tgt := 17) hx hb d_H_has_13 (by decide) ?_
      exact W.zret (v := nI 1) (ty := .boolean) hx hb hr (by decide +kernel) (fun t ht hW => ⟨nI 1, rfl, (by simp [hB, bI, c_1, c_9]), ht⟩) (fun _ h => nomatch h) d_H_has_17
set_option maxHeartbeats 4000000 in
set_option maxRecDepth 100000 in
/-- Harbour.isAct -/
theorem c_H_isAct (l : Launch) (dC : Nat → ClassId) (dI : Nat → Nat → Nat) (jh jt jk jv jr n : Nat) (ck : ClassId) (K : Nat → Int32) (p0 : Int32) (hn : n ≤ 43) : Met l y_H_isAct w_H_isAct ({ frames := 1, cells := 0, slots := 0, locals := 21 }) (ro_P dC dI [.ref jh, .int p0] [(jh, .inr (1, [.ref jt, .ref jk, .ref jv, .ref jr, .int (nI n)])), (jk, .inl (ck, 43, .inl K))] [(ck, .int)]) (vp_Si (fun r => r = bI (aB n K p0))) 0 0 (fun _ => False) := by
  refine Met.ofW (cc := b_H_isAct) (maxL := 2) (ret := (Option.some Jvm.ClassFile.FieldType.boolean)) (by decide) rfl ?_
  intro p e s m args below meth c s₁ B0 hml hv0
  obtain ⟨rfl, hP, hK, hN⟩ := hv0
  have hx := B0.exec
  have hb := B0.bytes
  have hr := B0.returns
  have hts := atoms_spec (ws := w_H_isAct) B0.pre
  have hown : s.vm.findClass R_H = some m.cls := findClass_of_methodNamed B0.named
  have hlocks := B0.notSynchronized
  have hP : va_P (dC, dI) classes [(jh, .inr (1, [.ref jt, .ref jk, .ref jv, .ref jr, .int (nI n)])), (jk, .inl (ck, 43, .inl K))] s.heap := hP
  have hl := lv_entry ([.ref jh, .int p0]) (n := 2) (Nat.le_of_ble_eq_true rfl)
  rw [lg_entry_eq]
  generalize (lg_sl ([.ref jh, .int p0]) ++ List.replicate (2 - (lg_sl ([.ref jh, .int p0])).length) Slot.unset).toArray = ls at hl ⊢
  have hl : lv_has ls 2 [(0, .ref jh), (1, .int p0)] := hl
  refine lv_aload_n hx hb d_H_isAct_0 rfl (lv_at hl 0 rfl) ?_
  refine lv_iload_n hx hb d_H_isAct_1 rfl (lv_at hl 1 rfl) ?_
  have hPc := hP.sub (ws' := [(jh, .inr (1, [.ref jt, .ref jk, .ref jv, .ref jr, .int (nI n)]))]) [0] rfl
  have hKc := hK.sub (tys' := []) [] rfl
  refine vp_callSi (W.runV (As := [.int p0]) (rest := []) ⟨hx, hb, hml, hown, hts⟩ (c_H_has l dC dI jh jt jk jv jr n p0) (cwV 1 hts (g_V big_w m_276 m_262 ms_16 m_2 m_263) rfl rfl rfl (by decide +kernel) ⟨Nat.le_of_ble_eq_true rfl, Nat.le_of_ble_eq_true rfl⟩) (ro_V hPc hKc hN (va_recv hKc hPc (ci := 1) (q0 := 0) rfl rfl)) rfl rfl hl.1 rfl (lv_room (Nat.le_of_ble_eq_true rfl)) d_H_isAct_2 ⟨Nat.le_of_ble_eq_true rfl, Nat.le_of_ble_eq_true rfl⟩) (fun r_1 er_1 => ?_)
  subst er_1
  refine lv_if_eq (tgt := 22) hx hb d_H_isAct_5 (by decide) (fun c_5 => ?_) (fun c_5 => ?_)
  · skip
    have c_5 := bI_f c_5
    refine lv_iconst (v := nI 0) hx hb d_H_isAct_22 (by decide +kernel) ?_
    exact W.zret (v := nI 0) (ty := .boolean) hx hb hr (by decide +kernel) (fun t ht hW => ⟨nI 0, rfl, (by simp [aB, bI, c_5]), ht⟩) (fun _ h => nomatch h) d_H_isAct_23
  · skip
    have c_5 := bI_t c_5
    refine lv_aload_n hx hb d_H_isAct_8 rfl (lv_at hl 0 rfl) ?_
    refine va_get (D := (dC, dI)) (ci := 1) (v := .ref jk) (C := R_H) (T := F_H) (N := 5) hx hb hts (lay_H _) hown hK hP 0 rfl rfl 1 (by decide) (hts _ (List.mem_cons_of_mem _ m_36)) (fun _ h9 => h9) rfl d_H_isAct_9 ?_
    refine lv_iload_n hx hb d_H_isAct_12 rfl (lv_at hl 1 rfl) ?_
    refine va_iald hx hb hK hP 1 0 rfl rfl (hB_in c_5 hn) d_H_isAct_13 ?_
    refine lv_iconst (v := nI 5) hx hb d_H_isAct_14 (by decide +kernel) ?_
    refine lv_icmp_ne (tgt := 22) hx hb d_H_isAct_15 (by decide) (fun c_15 => ?_) (fun c_15 => ?_)
    · skip
      refine lv_iconst (v := nI 0) hx hb d_H_isAct_22 (by decide +kernel) ?_
      exact W.zret (v := nI 0) (ty := .boolean) hx hb hr (by decide +kernel) (fun t ht hW => ⟨nI 0, rfl, (by simp [aB, bI, c_5, c_15]), ht⟩) (fun _ h => nomatch h) d_H_isAct_23
    · skip
      refine lv_iconst (v := nI 1) hx hb d_H_isAct_18 (by decide +kernel) ?_
      refine lv_goto (tgt := 23) hx hb d_H_isAct_19 (by decide) ?_
      exact W.zret (v := nI 1) (ty := .boolean) hx hb hr (by decide +kernel) (fun t ht hW => ⟨nI 1, rfl, (by simp [aB, bI, c_5, c_15]), ht⟩) (fun _ h => nomatch h) d_H_isAct_23
set_option maxHeartbeats 4000000 in
set_option maxRecDepth 100000 in
/-- Harbour.isFittingAct -/
theorem c_H_isFittingAct (l : Launch) (dC : Nat → ClassId) (dI : Nat → Nat → Nat) (jh jt jk jv jr n : Nat) (ck cv cr : ClassId) (K V R : Nat → Int32) (p0 : Int32) (hn : n ≤ 43) : Met l y_H_isFittingAct w_H_isFittingAct ({ frames := 2, cells := 0, slots := 0, locals := 42 }) (ro_P dC dI [.ref jh, .int p0] [(jh, .inr (1, [.ref jt, .ref jk, .ref jv, .ref jr, .int (nI n)])), (jk, .inl (ck, 43, .inl K)), (jv, .inl (cv, 43, .inl V)), (jr, .inl (cr, 43, .inl R))] [(ck, .int), (cv, .int), (cr, .int)]) (vp_Si (fun r => r = bI (fB n K V R p0))) 0 0 (fun _ => False) := by
  refine Met.ofW (cc := b_H_isFittingAct) (maxL := 3) (ret := (Option.some Jvm.ClassFile.FieldType.boolean)) (by decide) rfl ?_
  intro p e s m args below meth c s₁ B0 hml hv0
  obtain ⟨rfl, hP, hK, hN⟩ := hv0
  have hx := B0.exec
  have hb := B0.bytes
  have hr := B0.returns
  have hts := atoms_spec (ws := w_H_isFittingAct) B0.pre
  have hown : s.vm.findClass R_H = some m.cls := findClass_of_methodNamed B0.named
  have hlocks := B0.notSynchronized
  have hP : va_P (dC, dI) classes [(jh, .inr (1, [.ref jt, .ref jk, .ref jv, .ref jr, .int (nI n)])), (jk, .inl (ck, 43, .inl K)), (jv, .inl (cv, 43, .inl V)), (jr, .inl (cr, 43, .inl R))] s.heap := hP
  have hl := lv_entry ([.ref jh, .int p0]) (n := 3) (Nat.le_of_ble_eq_true rfl)
  rw [lg_entry_eq]
  generalize (lg_sl ([.ref jh, .int p0]) ++ List.replicate (3 - (lg_sl ([.ref jh, .int p0])).length) Slot.unset).toArray = ls at hl ⊢
  have hl : lv_has ls 3 [(0, .ref jh), (1, .int p0)] := hl
  refine lv_aload_n hx hb d_H_isFittingAct_0 rfl (lv_at hl 0 rfl) ?_
  refine lv_iload_n hx hb d_H_isFittingAct_1 rfl (lv_at hl 1 rfl) ?_
  have hPc := hP.sub (ws' := [(jh, .inr (1, [.ref jt, .ref jk, .ref jv, .ref jr, .int (nI n)])), (jk, .inl (ck, 43, .inl K))]) [0, 1] rfl
  have hKc := hK.sub (tys' := [(ck, .int)]) [0] rfl
  refine vp_callSi (W.runV (As := [.int p0]) (rest := []) ⟨hx, hb, hml, hown, hts⟩ (c_H_isAct l dC dI jh jt jk jv jr n ck K p0 (by first | assumption | omega)) (cwV 1 hts (g_V big_w m_272 m_274 ms_19 m_2 m_275) rfl rfl rfl (by decide +kernel) ⟨Nat.le_of_ble_eq_true rfl, Nat.le_of_ble_eq_true rfl⟩) (ro_V hPc hKc hN (va_recv hKc hPc (ci := 1) (q0 := 0) rfl rfl)) rfl rfl hl.1 rfl (lv_room (Nat.le_of_ble_eq_true rfl)) d_H_isFittingAct_2 ⟨Nat.le_of_ble_eq_true rfl, Nat.le_of_ble_eq_true rfl⟩) (fun r_1 er_1 => ?_)
  subst er_1
  refine lv_if_ne (tgt := 10) hx hb d_H_isFittingAct_5 (by decide) (fun c_5 => ?_) (fun c_5 => ?_)
  · skip
    have c_5 := bI_t c_5
    refine lv_aload_n hx hb d_H_isFittingAct_10 rfl (lv_at hl 0 rfl) ?_
    refine va_get (D := (dC, dI)) (ci := 1) (v := .ref jr) (C := R_H) (T := F_H) (N := 5) hx hb hts (lay_H _) hown hK hP 0 rfl rfl 3 (by decide) (hts _ (List.mem_cons_of_mem _ m_40)) (fun _ h9 => h9) rfl d_H_isFittingAct_11 ?_
    refine lv_iload_n hx hb d_H_isFittingAct_14 rfl (lv_at hl 1 rfl) ?_
    refine va_iald hx hb hK hP 3 2 rfl rfl (hB_in (aB_h c_5) hn) d_H_isFittingAct_15 ?_
    refine lv_istore_n (lv' := [(2, .int (R p0.toNatClampNeg)), (0, .ref jh), (1, .int p0)]) hx hb d_H_isFittingAct_16 rfl hl (by decide) rfl (fun ls hl => ?_)
    refine lv_aload_n hx hb d_H_isFittingAct_17 rfl (lv_at hl 1 rfl) ?_
    refine lv_iload_n hx hb d_H_isFittingAct_18 rfl (lv_at hl 0 rfl) ?_
    have hPc := hP.sub (ws' := [(jh, .inr (1, [.ref jt, .ref jk, .ref jv, .ref jr, .int (nI n)]))]) [0] rfl
    have hKc := hK.sub (tys' := []) [] rfl
    refine vp_callSi (W.runV (As := [.int (R p0.toNatClampNeg)]) (rest := []) ⟨hx, hb, hml, hown, hts⟩ (c_H_has l dC dI jh jt jk jv jr n (R p0.toNatClampNeg)) (cwV 1 hts (g_V big_w m_276 m_262 ms_16 m_2 m_263) rfl rfl rfl (by decide +kernel) ⟨Nat.le_of_ble_eq_true rfl, Nat.le_of_ble_eq_true rfl⟩) (ro_V hPc hKc hN (va_recv hKc hPc (ci := 1) (q0 := 0) rfl rfl)) rfl rfl hl.1 rfl (lv_room (Nat.le_of_ble_eq_true rfl)) d_H_isFittingAct_19 ⟨Nat.le_of_ble_eq_true rfl, Nat.le_of_ble_eq_true rfl⟩) (fun r_2 er_2 => ?_)
    subst er_2
    refine lv_if_eq (tgt := 48) hx hb d_H_isFittingAct_22 (by decide) (fun c_22 => ?_) (fun c_22 => ?_)
    · skip
      have c_22 := bI_f c_22
      refine lv_iconst (v := nI 0) hx hb d_H_isFittingAct_48 (by decide +kernel) ?_
      exact W.zret (v := nI 0) (ty := .boolean) hx hb hr (by decide +kernel) (fun t ht hW => ⟨nI 0, rfl, (by simp [fB, bI, c_5, c_22]), ht⟩) (fun _ h => nomatch h) d_H_isFittingAct_49
    · skip
      have c_22 := bI_t c_22
      refine lv_aload_n hx hb d_H_isFittingAct_25 rfl (lv_at hl 1 rfl) ?_
      refine va_get (D := (dC, dI)) (ci := 1) (v := .ref jv) (C := R_H) (T := F_H) (N := 5) hx hb hts (lay_H _) hown hK hP 0 rfl rfl 2 (by decide) (hts _ (List.mem_cons_of_mem _ m_38)) (fun _ h9 => h9) rfl d_H_isFittingAct_26 ?_
      refine lv_iload_n hx hb d_H_isFittingAct_29 rfl (lv_at hl 0 rfl) ?_
      refine va_iald hx hb hK hP 2 1 rfl rfl (hB_in c_22 hn) d_H_isFittingAct_30 ?_
      refine lv_iconst (v := nI 2) hx hb d_H_isFittingAct_31 (by decide +kernel) ?_
      refine lv_irem hx hb d_H_isFittingAct_32 (by decide +kernel) ?_
      refine lv_topi (fun w_3 ew_3 => ?_)
      have ew_3 : w_3 = rm2 (V (R p0.toNatClampNeg).toNatClampNeg) := ew_3.trans (rfl)
      subst ew_3
      refine lv_aload_n hx hb d_H_isFittingAct_33 rfl (lv_at hl 1 rfl) ?_
      refine va_get (D := (dC, dI)) (ci := 1) (v := .ref jv) (C := R_H) (T := F_H) (N := 5) hx hb hts (lay_H _) hown hK hP 0 rfl rfl 2 (by decide) (hts _ (List.mem_cons_of_mem _ m_38)) (fun _ h9 => h9) rfl d_H_isFittingAct_34 ?_
      refine lv_iload_n hx hb d_H_isFittingAct_37 rfl (lv_at hl 2 rfl) ?_
      refine va_iald hx hb hK hP 2 1 rfl rfl (hB_in (aB_h c_5) hn) d_H_isFittingAct_38 ?_
      refine lv_iconst (v := nI 2) hx hb d_H_isFittingAct_39 (by decide +kernel) ?_
      refine lv_irem hx hb d_H_isFittingAct_40 (by decide +kernel) ?_
      refine lv_topi (fun w_4 ew_4 => ?_)
      have ew_4 : w_4 = rm2 (V p0.toNatClampNeg) := ew_4.trans (rfl)
      subst ew_4
      refine lv_icmp_ne (tgt := 48) hx hb d_H_isFittingAct_41 (by decide) (fun c_41 => ?_) (fun c_41 => ?_)
      · skip
        refine lv_iconst (v := nI 0) hx hb d_H_isFittingAct_48 (by decide +kernel) ?_
        exact W.zret (v := nI 0) (ty := .boolean) hx hb hr (by decide +kernel) (fun t ht hW => ⟨nI 0, rfl, (by simp [fB, bI, c_5, c_22, c_41]), ht⟩) (fun _ h => nomatch h) d_H_isFittingAct_49
      · skip
        refine lv_iconst (v := nI 1) hx hb d_H_isFittingAct_44 (by decide +kernel) ?_
        refine lv_goto (tgt := 49) hx hb d_H_isFittingAct_45 (by decide) ?_
        exact W.zret (v := nI 1) (ty := .boolean) hx hb hr (by decide +kernel) (fun t ht hW => ⟨nI 1, rfl, (by simp [fB, bI, c_5, c_22, c_41]), ht⟩) (fun _ h => nomatch h) d_H_isFittingAct_49
  · skip
    have c_5 := bI_f c_5
    refine lv_iconst (v := nI 0) hx hb d_H_isFittingAct_8 (by decide +kernel) ?_
    exact W.zret (v := nI 0) (ty := .boolean) hx hb hr (by decide +kernel) (fun t ht hW => ⟨nI 0, rfl, (by simp [fB, bI, c_5]), ht⟩) (fun _ h => nomatch h) d_H_isFittingAct_9
set_option maxHeartbeats 4000000 in
set_option maxRecDepth 100000 in
/-- Harbour.ofKindAheadOf -/
theorem c_H_ofKindAheadOf (l : Launch) (dC : Nat → ClassId) (dI : Nat → Nat → Nat) (jh jt jk jv jr n : Nat) (ck : ClassId) (K : Nat → Int32) (kd : Int32) (e0 : Nat) (hn : n ≤ 43) (he : e0 ≤ n) : Met l y_H_ofKindAheadOf w_H_ofKindAheadOf ({ frames := 0, cells := 0, slots := 0, locals := 0 }) (ro_P dC dI [.ref jh, .int kd, .int (nI e0)] [(jh, .inr (1, [.ref jt, .ref jk, .ref jv, .ref jr, .int (nI n)])), (jk, .inl (ck, 43, .inl K))] [(ck, .int)]) (vp_Si (fun r => r = nI (cnt (kP K kd) e0))) 0 0 (fun _ => False) := by
  refine Met.ofW (cc := b_H_ofKindAheadOf) (maxL := 5) (ret := (Option.some Jvm.ClassFile.FieldType.int)) (by decide) rfl ?_
  intro p e s m args below meth c s₁ B0 hml hv0
  obtain ⟨rfl, hP, hK, hN⟩ := hv0
  have hx := B0.exec
  have hb := B0.bytes
  have hr := B0.returns
  have hts := atoms_spec (ws := w_H_ofKindAheadOf) B0.pre
  have hown : s.vm.findClass R_H = some m.cls := findClass_of_methodNamed B0.named
  have hlocks := B0.notSynchronized
  have hP : va_P (dC, dI) classes [(jh, .inr (1, [.ref jt, .ref jk, .ref jv, .ref jr, .int (nI n)])), (jk, .inl (ck, 43, .inl K))] s.heap := hP
  have hl := lv_entry ([.ref jh, .int kd, .int (nI e0)]) (n := 5) (Nat.le_of_ble_eq_true rfl)
  rw [lg_entry_eq]
  generalize (lg_sl ([.ref jh, .int kd, .int (nI e0)]) ++ List.replicate (5 - (lg_sl ([.ref jh, .int kd, .int (nI e0)])).length) Slot.unset).toArray = ls at hl ⊢
  have hl : lv_has ls 5 [(0, .ref jh), (1, .int kd), (2, .int (nI e0))] := hl
  refine lv_iconst (v := nI 0) hx hb d_H_ofKindAheadOf_0 (by decide +kernel) ?_
  refine lv_istore_n (lv' := [(3, .int (nI 0)), (0, .ref jh), (1, .int kd), (2, .int (nI e0))]) hx hb d_H_ofKindAheadOf_1 rfl hl (by decide) rfl (fun ls hl => ?_)
  refine lv_iconst (v := nI 0) hx hb d_H_ofKindAheadOf_2 (by decide +kernel) ?_
  refine lv_istore (lv' := [(4, .int (nI 0)), (3, .int (nI 0)), (0, .ref jh), (1, .int kd), (2, .int (nI e0))]) hx hb d_H_ofKindAheadOf_3 hl (by decide) rfl (fun ls hl => ?_)
  have lp_5 : ∀ (k9_5 : Nat), ∀ (i : Nat), e0 - i < k9_5 → (i ≤ e0) → ∀ (ls : Array Slot), lv_has ls 5 [(0, .ref jh), (1, .int kd), (2, .int (nI e0)), (3, .int (nI (cnt (kP K kd) i))), (4, .int (nI i))] → W p l e (headSpec w_H_ofKindAheadOf ({ frames := 0, cells := 0, slots := 0, locals := 0 })).room s m ([.ref jh, .int kd, .int (nI e0)]).toArray below meth c s.heap [] 0 0 (MQ below (vp_Si (fun r => r = nI (cnt (kP K kd) e0))) ([.ref jh, .int kd, .int (nI e0)]).toArray s 0 0 (fun _ => False)) (F0 m 5 ls []) := by
    intro k9_5
    induction k9_5 with
    | zero =>
      intro i hk9
      exact absurd hk9 (Nat.not_lt_zero _)
    | succ k9_5 ih_5 =>
      intro i hk9_5 hi ls hl
      refine lv_iload hx hb d_H_ofKindAheadOf_5 (lv_at hl 4 rfl) ?_
      refine lv_iload_n hx hb d_H_ofKindAheadOf_7 rfl (lv_at hl 2 rfl) ?_
      refine lv_icmp_ge (tgt := 40) hx hb d_H_ofKindAheadOf_8 (by decide) (fun c_8 => ?_) (fun c_8 => ?_)
      · skip
        have c_8 := (nI_leI (by omega) (by omega)).mp c_8
        refine lv_iload_n hx hb d_H_ofKindAheadOf_40 rfl (lv_at hl 3 rfl) ?_
        exact W.iret (v := nI (cnt (kP K kd) i)) hx hb hr (fun t ht hW => ⟨nI (cnt (kP K kd) i), rfl, (by rw [show i = e0 by omega]), ht⟩) (fun _ h => nomatch h) d_H_ofKindAheadOf_41
      · skip
        have c_8 := (not_congr (nI_leI (by omega) (by omega))).mp c_8
        refine lv_iload hx hb d_H_ofKindAheadOf_11 (lv_at hl 4 rfl) ?_
        refine lv_aload_n hx hb d_H_ofKindAheadOf_13 rfl (lv_at hl 0 rfl) ?_
        refine va_get (D := (dC, dI)) (ci := 1) (v := .int (nI n)) (C := R_H) (T := F_H) (N := 5) hx hb hts (lay_H _) hown hK hP 0 rfl rfl 4 (by decide) (hts _ (List.mem_cons_of_mem _ m_42)) (fun _ h9 => h9) rfl d_H_ofKindAheadOf_14 ?_
        refine lv_icmp_ge (tgt := 40) hx hb d_H_ofKindAheadOf_17 (by decide) (fun c_17 => ?_) (fun c_17 => ?_)
        · skip
          have c_17 := (nI_leI (by omega) (by omega)).mp c_17
          exact absurd c_17 (by omega)
        · skip
          have c_17 := (not_congr (nI_leI (by omega) (by omega))).mp c_17
          refine lv_aload_n hx hb d_H_ofKindAheadOf_20 rfl (lv_at hl 0 rfl) ?_
          refine va_get (D := (dC, dI)) (ci := 1) (v := .ref jk) (C := R_H) (T := F_H) (N := 5) hx hb hts (lay_H _) hown hK hP 0 rfl rfl 1 (by decide) (hts _ (List.mem_cons_of_mem _ m_36)) (fun _ h9 => h9) rfl d_H_ofKindAheadOf_21 ?_
          refine lv_iload hx hb d_H_ofKindAheadOf_24 (lv_at hl 4 rfl) ?_
          refine va_iald hx hb hK hP 1 0 rfl rfl (vp_in_nI (by omega) (by omega)) d_H_ofKindAheadOf_26 ?_
          refine lv_topi (fun w_1 ew_1 => ?_)
          rw [nI_clamp (by omega)] at ew_1
          subst ew_1
          refine lv_iload_n hx hb d_H_ofKindAheadOf_27 rfl (lv_at hl 1 rfl) ?_
          refine lv_icmp_ne (tgt := 34) hx hb d_H_ofKindAheadOf_28 (by decide) (fun c_28 => ?_) (fun c_28 => ?_)
          · skip
            rw [show nI (cnt (kP K kd) i) = nI (cnt (kP K kd) (i + 1)) from (by rw [cnt_f (P := kP K kd) (n := i) (decide_eq_false c_28)])] at hl
            refine lv_iinc (v := nI (i + 1)) (lv' := [(4, .int (nI (i + 1))), (0, .ref jh), (1, .int kd), (2, .int (nI e0)), (3, .int (nI (cnt (kP K kd) (i + 1))))]) hx hb d_H_ofKindAheadOf_34 hl (k := 4) rfl (nI_1 _) (by decide) rfl (fun ls hl => ?_)
            refine lv_goto (tgt := 5) hx hb d_H_ofKindAheadOf_37 (by decide) ?_
            exact ih_5 (i + 1) (by omega) (by first | assumption | omega) ls (lv_sub (l' := [(0, .ref jh), (1, .int kd), (2, .int (nI e0)), (3, .int (nI (cnt (kP K kd) (i + 1)))), (4, .int (nI (i + 1)))]) hl [1, 2, 3, 4, 0] rfl)
          · skip
            refine lv_iinc (v := nI (cnt (kP K kd) (i + 1))) (lv' := [(3, .int (nI (cnt (kP K kd) (i + 1)))), (0, .ref jh), (1, .int kd), (2, .int (nI e0)), (4, .int (nI i))]) hx hb d_H_ofKindAheadOf_31 hl (k := 3) rfl (by rw [cnt_t (P := kP K kd) (n := i) (decide_eq_true c_28)]; exact nI_1 _) (by decide) rfl (fun ls hl => ?_)
            refine lv_iinc (v := nI (i + 1)) (lv' := [(4, .int (nI (i + 1))), (3, .int (nI (cnt (kP K kd) (i + 1)))), (0, .ref jh), (1, .int kd), (2, .int (nI e0))]) hx hb d_H_ofKindAheadOf_34 hl (k := 4) rfl (nI_1 _) (by decide) rfl (fun ls hl => ?_)
            refine lv_goto (tgt := 5) hx hb d_H_ofKindAheadOf_37 (by decide) ?_
            exact ih_5 (i + 1) (by omega) (by first | assumption | omega) ls (lv_sub (l' := [(0, .ref jh), (1, .int kd), (2, .int (nI e0)), (3, .int (nI (cnt (kP K kd) (i + 1)))), (4, .int (nI (i + 1)))]) hl [2, 3, 4, 1, 0] rfl)
  exact lp_5 ((e0 - 0) + 1) 0 (by omega) (by first | assumption | omega) ls (lv_sub (l' := [(0, .ref jh), (1, .int kd), (2, .int (nI e0)), (3, .int (nI (cnt (kP K kd) 0))), (4, .int (nI 0))]) hl [2, 3, 4, 1, 0] rfl)
set_option maxHeartbeats 4000000 in
set_option maxRecDepth 100000 in
/-- Harbour.partsToReferTo -/
theorem c_H_partsToReferTo (l : Launch) (dC : Nat → ClassId) (dI : Nat → Nat → Nat) (jh jt jk jv jr n : Nat) (ck : ClassId) (K : Nat → Int32) (kd : Int32) (hn : n ≤ 43) : Met l y_H_partsToReferTo w_H_partsToReferTo ({ frames := 1, cells := 0, slots := 0, locals := 21 }) (ro_P dC dI [.ref jh, .int kd] [(jh, .inr (1, [.ref jt, .ref jk, .ref jv, .ref jr, .int (nI n)])), (jk, .inl (ck, 43, .inl K))] [(ck, .int)]) (vp_Si (fun r => r = nI (cnt (mP K kd) n))) 0 0 (fun _ => False) := by
  refine Met.ofW (cc := b_H_partsToReferTo) (maxL := 4) (ret := (Option.some Jvm.ClassFile.FieldType.int)) (by decide) rfl ?_
  intro p e s m args below meth c s₁ B0 hml hv0
  obtain ⟨rfl, hP, hK, hN⟩ := hv0
  have hx := B0.exec
  have hb := B0.bytes
  have hr := B0.returns
  have hts := atoms_spec (ws := w_H_partsToReferTo) B0.pre
  have hown : s.vm.findClass R_H = some m.cls := findClass_of_methodNamed B0.named
  have hlocks := B0.notSynchronized
  have hP : va_P (dC, dI) classes [(jh, .inr (1, [.ref jt, .ref jk, .ref jv, .ref jr, .int (nI n)])), (jk, .inl (ck, 43, .inl K))] s.heap := hP
  have hl := lv_entry ([.ref jh, .int kd]) (n := 4) (Nat.le_of_ble_eq_true rfl)
  rw [lg_entry_eq]
  generalize (lg_sl ([.ref jh, .int kd]) ++ List.replicate (4 - (lg_sl ([.ref jh, .int kd])).length) Slot.unset).toArray = ls at hl ⊢
  have hl : lv_has ls 4 [(0, .ref jh), (1, .int kd)] := hl
  refine lv_iconst (v := nI 0) hx hb d_H_partsToReferTo_0 (by decide +kernel) ?_
  refine lv_istore_n (lv' := [(2, .int (nI 0)), (0, .ref jh), (1, .int kd)]) hx hb d_H_partsToReferTo_1 rfl hl (by decide) rfl (fun ls hl => ?_)
  refine lv_iconst (v := nI 0) hx hb d_H_partsToReferTo_2 (by decide +kernel) ?_
  refine lv_istore_n (lv' := [(3, .int (nI 0)), (2, .int (nI 0)), (0, .ref jh), (1, .int kd)]) hx hb d_H_partsToReferTo_3 rfl hl (by decide) rfl (fun ls hl => ?_)
  have lp_4 : ∀ (k9_4 : Nat), ∀ (i : Nat), n - i < k9_4 → (i ≤ n) → ∀ (ls : Array Slot), lv_has ls 4 [(0, .ref jh), (1, .int kd), (2, .int (nI (cnt (mP K kd) i))), (3, .int (nI i))] → W p l e (headSpec w_H_partsToReferTo ({ frames := 1, cells := 0, slots := 0, locals := 21 })).room s m ([.ref jh, .int kd]).toArray below meth c s.heap [] 0 0 (MQ below (vp_Si (fun r => r = nI (cnt (mP K kd) n))) ([.ref jh, .int kd]).toArray s 0 0 (fun _ => False)) (F0 m 4 ls []) := by
    intro k9_4
    induction k9_4 with
    | zero =>
      intro i hk9
      exact absurd hk9 (Nat.not_lt_zero _)
    | succ k9_4 ih_4 =>
      intro i hk9_4 hi ls hl
      refine lv_iload_n hx hb d_H_partsToReferTo_4 rfl (lv_at hl 3 rfl) ?_
      refine lv_aload_n hx hb d_H_partsToReferTo_5 rfl (lv_at hl 0 rfl) ?_
      refine va_get (D := (dC, dI)) (ci := 1) (v := .int (nI n)) (C := R_H) (T := F_H) (N := 5) hx hb hts (lay_H _) hown hK hP 0 rfl rfl 4 (by decide) (hts _ (List.mem_cons_of_mem _ m_42)) (fun _ h9 => h9) rfl d_H_partsToReferTo_6 ?_
      refine lv_icmp_ge (tgt := 34) hx hb d_H_partsToReferTo_9 (by decide) (fun c_9 => ?_) (fun c_9 => ?_)
      · skip
        have c_9 := (nI_leI (by omega) (by omega)).mp c_9
        refine lv_iload_n hx hb d_H_partsToReferTo_34 rfl (lv_at hl 2 rfl) ?_
        exact W.iret (v := nI (cnt (mP K kd) i)) hx hb hr (fun t ht hW => ⟨nI (cnt (mP K kd) i), rfl, (by rw [show i = n by omega]), ht⟩) (fun _ h => nomatch h) d_H_partsToReferTo_35
      · skip
        have c_9 := (not_congr (nI_leI (by omega) (by omega))).mp c_9
        refine lv_iload_n hx hb d_H_partsToReferTo_12 rfl (lv_at hl 1 rfl) ?_
        refine lv_aload_n hx hb d_H_partsToReferTo_13 rfl (lv_at hl 0 rfl) ?_
        refine va_get (D := (dC, dI)) (ci := 1) (v := .ref jk) (C := R_H) (T := F_H) (N := 5) hx hb hts (lay_H _) hown hK hP 0 rfl rfl 1 (by decide) (hts _ (List.mem_cons_of_mem _ m_36)) (fun _ h9 => h9) rfl d_H_partsToReferTo_14 ?_
        refine lv_iload_n hx hb d_H_partsToReferTo_17 rfl (lv_at hl 3 rfl) ?_
        refine va_iald hx hb hK hP 1 0 rfl rfl (vp_in_nI (by omega) (by omega)) d_H_partsToReferTo_18 ?_
        refine lv_topi (fun w_1 ew_1 => ?_)
        rw [nI_clamp (by omega)] at ew_1
        subst ew_1
        have hPc := hP.sub (ws' := []) [] rfl
        have hKc := hK.sub (tys' := []) [] rfl
        refine vp_callSi (va_Run.run (va_runSN (As := [.int kd, .int (K i)]) (rest := []) ⟨hx, hb, hml, hown, hts⟩ (c_D_mayRefer l dC dI kd (K i)) ⟨va_cnB 2 hts (g_c big_w m_255) rfl rfl rfl (hN _ (by decide +kernel : (Jvm.Cond.methodLinkNest "PortDrawer$Harbour" (50 : Nat) ({ cls := "PortDrawer", name := "mayRefer", desc := "(II)Z" } : Jvm.MethodName) "PortDrawer") ∈ NWl)) (hts _ (List.mem_cons_of_mem _ m_1)) (by decide +kernel) ⟨Nat.le_of_ble_eq_true rfl, Nat.le_of_ble_eq_true rfl⟩, (hts _ (List.mem_cons_of_mem _ m_254)), trivial⟩ (ro_S hPc hKc hN) rfl rfl hl.1 rfl (lv_room (Nat.le_of_ble_eq_true rfl)) d_H_partsToReferTo_19 ⟨Nat.le_of_ble_eq_true rfl, Nat.le_of_ble_eq_true rfl⟩)) (fun r_2 er_2 => ?_)
        subst er_2
        refine lv_if_eq (tgt := 28) hx hb d_H_partsToReferTo_22 (by decide) (fun c_22 => ?_) (fun c_22 => ?_)
        · skip
          have c_22 := bI_f c_22
          rw [show nI (cnt (mP K kd) i) = nI (cnt (mP K kd) (i + 1)) from (by rw [cnt_f (P := mP K kd) (n := i) c_22])] at hl
          refine lv_iinc (v := nI (i + 1)) (lv' := [(3, .int (nI (i + 1))), (0, .ref jh), (1, .int kd), (2, .int (nI (cnt (mP K kd) (i + 1))))]) hx hb d_H_partsToReferTo_28 hl (k := 3) rfl (nI_1 _) (by decide) rfl (fun ls hl => ?_)
          refine lv_goto (tgt := 4) hx hb d_H_partsToReferTo_31 (by decide) ?_
          exact ih_4 (i + 1) (by omega) (by first | assumption | omega) ls (lv_sub (l' := [(0, .ref jh), (1, .int kd), (2, .int (nI (cnt (mP K kd) (i + 1)))), (3, .int (nI (i + 1)))]) hl [1, 2, 3, 0] rfl)
        · skip
          have c_22 := bI_t c_22
          refine lv_iinc (v := nI (cnt (mP K kd) (i + 1))) (lv' := [(2, .int (nI (cnt (mP K kd) (i + 1)))), (0, .ref jh), (1, .int kd), (3, .int (nI i))]) hx hb d_H_partsToReferTo_25 hl (k := 2) rfl (by rw [cnt_t (P := mP K kd) (n := i) c_22]; exact nI_1 _) (by decide) rfl (fun ls hl => ?_)
          refine lv_iinc (v := nI (i + 1)) (lv' := [(3, .int (nI (i + 1))), (2, .int (nI (cnt (mP K kd) (i + 1)))), (0, .ref jh), (1, .int kd)]) hx hb d_H_partsToReferTo_28 hl (k := 3) rfl (nI_1 _) (by decide) rfl (fun ls hl => ?_)
          refine lv_goto (tgt := 4) hx hb d_H_partsToReferTo_31 (by decide) ?_
          exact ih_4 (i + 1) (by omega) (by first | assumption | omega) ls (lv_sub (l' := [(0, .ref jh), (1, .int kd), (2, .int (nI (cnt (mP K kd) (i + 1)))), (3, .int (nI (i + 1)))]) hl [2, 3, 1, 0] rfl)
  exact lp_4 ((n - 0) + 1) 0 (by omega) (by first | assumption | omega) ls (lv_sub (l' := [(0, .ref jh), (1, .int kd), (2, .int (nI (cnt (mP K kd) 0))), (3, .int (nI 0))]) hl [2, 3, 1, 0] rfl)
set_option maxHeartbeats 4000000 in
set_option maxRecDepth 100000 in
/-- Harbour.isLike -/
theorem c_H_isLike (l : Launch) (dC : Nat → ClassId) (dI : Nat → Nat → Nat) (jh jt jk jv jr n : Nat) (ck cv cr : ClassId) (K V R : Nat → Int32) (jh2 jt2 jk2 jv2 jr2 n2 : Nat) (ck2 cv2 cr2 : ClassId) (K2 V2 R2 : Nat → Int32) (hn : n ≤ 43) (hn2 : n2 ≤ 43) : Met l y_H_isLike w_H_isLike ({ frames := 0, cells := 0, slots := 0, locals := 0 }) (ro_P dC dI [.ref jh, .ref jh2] [(jh, .inr (1, [.ref jt, .ref jk, .ref jv, .ref jr, .int (nI n)])), (jk, .inl (ck, 43, .inl K)), (jv, .inl (cv, 43, .inl V)), (jr, .inl (cr, 43, .inl R)), (jh2, .inr (1, [.ref jt2, .ref jk2, .ref jv2, .ref jr2, .int (nI n2)])), (jk2, .inl (ck2, 43, .inl K2)), (jv2, .inl (cv2, 43, .inl V2)), (jr2, .inl (cr2, 43, .inl R2))] [(ck, .int), (cv, .int), (cr, .int), (ck2, .int), (cv2, .int), (cr2, .int)]) (vp_Si (fun r => r = bI (lkB n n2 K V R K2 V2 R2))) 0 0 (fun _ => False) := by
  refine Met.ofW (cc := b_H_isLike) (maxL := 3) (ret := (Option.some Jvm.ClassFile.FieldType.boolean)) (by decide) rfl ?_
  intro p e s m args below meth c s₁ B0 hml hv0
  obtain ⟨rfl, hP, hK, hN⟩ := hv0
  have hx := B0.exec
  have hb := B0.bytes
  have hr := B0.returns
  have hts := atoms_spec (ws := w_H_isLike) B0.pre
  have hown : s.vm.findClass R_H = some m.cls := findClass_of_methodNamed B0.named
  have hlocks := B0.notSynchronized
  have hP : va_P (dC, dI) classes [(jh, .inr (1, [.ref jt, .ref jk, .ref jv, .ref jr, .int (nI n)])), (jk, .inl (ck, 43, .inl K)), (jv, .inl (cv, 43, .inl V)), (jr, .inl (cr, 43, .inl R)), (jh2, .inr (1, [.ref jt2, .ref jk2, .ref jv2, .ref jr2, .int (nI n2)])), (jk2, .inl (ck2, 43, .inl K2)), (jv2, .inl (cv2, 43, .inl V2)), (jr2, .inl (cr2, 43, .inl R2))] s.heap := hP
  have hl := lv_entry ([.ref jh, .ref jh2]) (n := 3) (Nat.le_of_ble_eq_true rfl)
  rw [lg_entry_eq]
  generalize (lg_sl ([.ref jh, .ref jh2]) ++ List.replicate (3 - (lg_sl ([.ref jh, .ref jh2])).length) Slot.unset).toArray = ls at hl ⊢
  have hl : lv_has ls 3 [(0, .ref jh), (1, .ref jh2)] := hl
  refine lv_aload_n hx hb d_H_isLike_0 rfl (lv_at hl 1 rfl) ?_
  refine lv_ifnull hx hb d_H_isLike_1 ?_
  refine lv_aload_n hx hb d_H_isLike_4 rfl (lv_at hl 1 rfl) ?_
  refine va_get (D := (dC, dI)) (ci := 1) (v := .int (nI n2)) (C := R_H) (T := F_H) (N := 5) hx hb hts (lay_H _) hown hK hP 4 rfl rfl 4 (by decide) (hts _ (List.mem_cons_of_mem _ m_42)) (fun _ h9 => h9) rfl d_H_isLike_5 ?_
  refine lv_aload_n hx hb d_H_isLike_8 rfl (lv_at hl 0 rfl) ?_
  refine va_get (D := (dC, dI)) (ci := 1) (v := .int (nI n)) (C := R_H) (T := F_H) (N := 5) hx hb hts (lay_H _) hown hK hP 0 rfl rfl 4 (by decide) (hts _ (List.mem_cons_of_mem _ m_42)) (fun _ h9 => h9) rfl d_H_isLike_9 ?_
  refine lv_icmp_eq (tgt := 17) hx hb d_H_isLike_12 (by decide) (fun c_12 => ?_) (fun c_12 => ?_)
  · skip
    have c_12 := (nI_eq (by omega) (by omega)).mp c_12
    refine lv_iconst (v := nI 0) hx hb d_H_isLike_17 (by decide +kernel) ?_
    refine lv_istore_n (lv' := [(2, .int (nI 0)), (0, .ref jh), (1, .ref jh2)]) hx hb d_H_isLike_18 rfl hl (by decide) rfl (fun ls hl => ?_)
    have lp_19 : ∀ (k9_19 : Nat), ∀ (i : Nat), n - i < k9_19 → (i ≤ n) → (∀ a, a < i → (!(eq3 K V R K2 V2 R2 a)) = false) → ∀ (ls : Array Slot), lv_has ls 3 [(0, .ref jh), (1, .ref jh2), (2, .int (nI i))] → W p l e (headSpec w_H_isLike ({ frames := 0, cells := 0, slots := 0, locals := 0 })).room s m ([.ref jh, .ref jh2]).toArray below meth c s.heap [] 0 0 (MQ below (vp_Si (fun r => r = bI (lkB n n2 K V R K2 V2 R2))) ([.ref jh, .ref jh2]).toArray s 0 0 (fun _ => False)) (F0 m 19 ls []) := by
      intro k9_19
      induction k9_19 with
      | zero =>
        intro i hk9
        exact absurd hk9 (Nat.not_lt_zero _)
      | succ k9_19 ih_19 =>
        intro i hk9_19 hi hno ls hl
        refine lv_iload_n hx hb d_H_isLike_19 rfl (lv_at hl 2 rfl) ?_
        refine lv_aload_n hx hb d_H_isLike_20 rfl (lv_at hl 0 rfl) ?_
        refine va_get (D := (dC, dI)) (ci := 1) (v := .int (nI n)) (C := R_H) (T := F_H) (N := 5) hx hb hts (lay_H _) hown hK hP 0 rfl rfl 4 (by decide) (hts _ (List.mem_cons_of_mem _ m_42)) (fun _ h9 => h9) rfl d_H_isLike_21 ?_
        refine lv_icmp_ge (tgt := 80) hx hb d_H_isLike_24 (by decide) (fun c_24 => ?_) (fun c_24 => ?_)
        · skip
          have c_24 := (nI_leI (by omega) (by omega)).mp c_24
          refine lv_iconst (v := nI 1) hx hb d_H_isLike_80 (by decide +kernel) ?_
          exact W.zret (v := nI 1) (ty := .boolean) hx hb hr (by decide +kernel) (fun t ht hW => ⟨nI 1, rfl, (by unfold lkB; rw [decide_eq_true c_12, fst9_none (fun a ha => hno a (by omega))]; rfl), ht⟩) (fun _ h => nomatch h) d_H_isLike_81
        · skip
          have c_24 := (not_congr (nI_leI (by omega) (by omega))).mp c_24
          refine lv_aload_n hx hb d_H_isLike_27 rfl (lv_at hl 0 rfl) ?_
          refine va_get (D := (dC, dI)) (ci := 1) (v := .ref jk) (C := R_H) (T := F_H) (N := 5) hx hb hts (lay_H _) hown hK hP 0 rfl rfl 1 (by decide) (hts _ (List.mem_cons_of_mem _ m_36)) (fun _ h9 => h9) rfl d_H_isLike_28 ?_
          refine lv_iload_n hx hb d_H_isLike_31 rfl (lv_at hl 2 rfl) ?_
          refine va_iald hx hb hK hP 1 0 rfl rfl (vp_in_nI (by omega) (by omega)) d_H_isLike_32 ?_
          refine lv_topi (fun w_1 ew_1 => ?_)
          rw [nI_clamp (by omega)] at ew_1
          subst ew_1
          refine lv_aload_n hx hb d_H_isLike_33 rfl (lv_at hl 1 rfl) ?_
          refine va_get (D := (dC, dI)) (ci := 1) (v := .ref jk2) (C := R_H) (T := F_H) (N := 5) hx hb hts (lay_H _) hown hK hP 4 rfl rfl 1 (by decide) (hts _ (List.mem_cons_of_mem _ m_36)) (fun _ h9 => h9) rfl d_H_isLike_34 ?_
          refine lv_iload_n hx hb d_H_isLike_37 rfl (lv_at hl 2 rfl) ?_
          refine va_iald hx hb hK hP 5 3 rfl rfl (vp_in_nI (by omega) (by omega)) d_H_isLike_38 ?_
          refine lv_topi (fun w_2 ew_2 => ?_)
          rw [nI_clamp (by omega)] at ew_2
          subst ew_2
          refine lv_icmp_ne (tgt := 72) hx hb d_H_isLike_39 (by decide) (fun c_39 => ?_) (fun c_39 => ?_)
          · skip
            refine lv_iconst (v := nI 0) hx hb d_H_isLike_72 (by decide +kernel) ?_
            exact W.zret (v := nI 0) (ty := .boolean) hx hb hr (by decide +kernel) (fun t ht hW => ⟨nI 0, rfl, (lkB_no c_12 (i := i) (by omega) (by unfold eq3; first | (rw [decide_eq_false c_69, decide_eq_true c_39, decide_eq_true c_54]; rfl) | (rw [decide_eq_false c_54, decide_eq_true c_39]; rfl) | (rw [decide_eq_false c_39]; rfl))), ht⟩) (fun _ h => nomatch h) d_H_isLike_73
          · skip
            refine lv_aload_n hx hb d_H_isLike_42 rfl (lv_at hl 0 rfl) ?_
            refine va_get (D := (dC, dI)) (ci := 1) (v := .ref jv) (C := R_H) (T := F_H) (N := 5) hx hb hts (lay_H _) hown hK hP 0 rfl rfl 2 (by decide) (hts _ (List.mem_cons_of_mem _ m_38)) (fun _ h9 => h9) rfl d_H_isLike_43 ?_
            refine lv_iload_n hx hb d_H_isLike_46 rfl (lv_at hl 2 rfl) ?_
            refine va_iald hx hb hK hP 2 1 rfl rfl (vp_in_nI (by omega) (by omega)) d_H_isLike_47 ?_
            refine lv_topi (fun w_3 ew_3 => ?_)
            rw [nI_clamp (by omega)] at ew_3
            subst ew_3
            refine lv_aload_n hx hb d_H_isLike_48 rfl (lv_at hl 1 rfl) ?_
            refine va_get (D := (dC, dI)) (ci := 1) (v := .ref jv2) (C := R_H) (T := F_H) (N := 5) hx hb hts (lay_H _) hown hK hP 4 rfl rfl 2 (by decide) (hts _ (List.mem_cons_of_mem _ m_38)) (fun _ h9 => h9) rfl d_H_isLike_49 ?_
            refine lv_iload_n hx hb d_H_isLike_52 rfl (lv_at hl 2 rfl) ?_
            refine va_iald hx hb hK hP 6 4 rfl rfl (vp_in_nI (by omega) (by omega)) d_H_isLike_53 ?_
            refine lv_topi (fun w_4 ew_4 => ?_)
            rw [nI_clamp (by omega)] at ew_4
            subst ew_4
            refine lv_icmp_ne (tgt := 72) hx hb d_H_isLike_54 (by decide) (fun c_54 => ?_) (fun c_54 => ?_)
            · skip
              refine lv_iconst (v := nI 0) hx hb d_H_isLike_72 (by decide +kernel) ?_
              exact W.zret (v := nI 0) (ty := .boolean) hx hb hr (by decide +kernel) (fun t ht hW => ⟨nI 0, rfl, (lkB_no c_12 (i := i) (by omega) (by unfold eq3; first | (rw [decide_eq_false c_69, decide_eq_true c_39, decide_eq_true c_54]; rfl) | (rw [decide_eq_false c_54, decide_eq_true c_39]; rfl) | (rw [decide_eq_false c_39]; rfl))), ht⟩) (fun _ h => nomatch h) d_H_isLike_73
            · skip
              refine lv_aload_n hx hb d_H_isLike_57 rfl (lv_at hl 0 rfl) ?_
              refine va_get (D := (dC, dI)) (ci := 1) (v := .ref jr) (C := R_H) (T := F_H) (N := 5) hx hb hts (lay_H _) hown hK hP 0 rfl rfl 3 (by decide) (hts _ (List.mem_cons_of_mem _ m_40)) (fun _ h9 => h9) rfl d_H_isLike_58 ?_
              refine lv_iload_n hx hb d_H_isLike_61 rfl (lv_at hl 2 rfl) ?_
              refine va_iald hx hb hK hP 3 2 rfl rfl (vp_in_nI (by omega) (by omega)) d_H_isLike_62 ?_
              refine lv_topi (fun w_5 ew_5 => ?_)
              rw [nI_clamp (by omega)] at ew_5
              subst ew_5
              refine lv_aload_n hx hb d_H_isLike_63 rfl (lv_at hl 1 rfl) ?_
              refine va_get (D := (dC, dI)) (ci := 1) (v := .ref jr2) (C := R_H) (T := F_H) (N := 5) hx hb hts (lay_H _) hown hK hP 4 rfl rfl 3 (by decide) (hts _ (List.mem_cons_of_mem _ m_40)) (fun _ h9 => h9) rfl d_H_isLike_64 ?_
              refine lv_iload_n hx hb d_H_isLike_67 rfl (lv_at hl 2 rfl) ?_
              refine va_iald hx hb hK hP 7 5 rfl rfl (vp_in_nI (by omega) (by omega)) d_H_isLike_68 ?_
              refine lv_topi (fun w_6 ew_6 => ?_)
              rw [nI_clamp (by omega)] at ew_6
              subst ew_6
              refine lv_icmp_eq (tgt := 74) hx hb d_H_isLike_69 (by decide) (fun c_69 => ?_) (fun c_69 => ?_)
              · skip
                refine lv_iinc (v := nI (i + 1)) (lv' := [(2, .int (nI (i + 1))), (0, .ref jh), (1, .ref jh2)]) hx hb d_H_isLike_74 hl (k := 2) rfl (nI_1 _) (by decide) rfl (fun ls hl => ?_)
                refine lv_goto (tgt := 19) hx hb d_H_isLike_77 (by decide) ?_
                exact ih_19 (i + 1) (by omega) (by omega) (lt_s (p := fun a => (!(eq3 K V R K2 V2 R2 a)) = false) hno (by show (!(eq3 K V R K2 V2 R2 i)) = false; unfold eq3; rw [decide_eq_true c_39, decide_eq_true c_54, decide_eq_true c_69]; rfl)) ls (lv_sub (l' := [(0, .ref jh), (1, .ref jh2), (2, .int (nI (i + 1)))]) hl [1, 2, 0] rfl)
              · skip
                refine lv_iconst (v := nI 0) hx hb d_H_isLike_72 (by decide +kernel) ?_
                exact W.zret (v := nI 0) (ty := .boolean) hx hb hr (by decide +kernel) (fun t ht hW => ⟨nI 0, rfl, (lkB_no c_12 (i := i) (by omega) (by unfold eq3; first | (rw [decide_eq_false c_69, decide_eq_true c_39, decide_eq_true c_54]; rfl) | (rw [decide_eq_false c_54, decide_eq_true c_39]; rfl) | (rw [decide_eq_false c_39]; rfl))), ht⟩) (fun _ h => nomatch h) d_H_isLike_73
    exact lp_19 ((n - 0) + 1) 0 (by omega) (by omega) lt_0 ls (lv_sub (l' := [(0, .ref jh), (1, .ref jh2), (2, .int (nI 0))]) hl [1, 2, 0] rfl)
  · skip
    have c_12 := (not_congr (nI_eq (by omega) (by omega))).mp c_12
    refine lv_iconst (v := nI 0) hx hb d_H_isLike_15 (by decide +kernel) ?_
    exact W.zret (v := nI 0) (ty := .boolean) hx hb hr (by decide +kernel) (fun t ht hW => ⟨nI 0, rfl, (by unfold lkB; rw [decide_eq_false (by omega)]; rfl), ht⟩) (fun _ h => nomatch h) d_H_isLike_16
end
section
theorem m_252 : (Jvm.Cond.code ({ cls := "PortDrawer$Harbour", name := "partsToReferTo", desc := "(I)I" } : Jvm.MethodName) prog_2_method_5_code (4 : Nat) (Option.some Jvm.ClassFile.FieldType.int)) ∈ tblG := m_t (i := 252) rfl rfl
theorem ms_14 : Cond.selects "PortDrawer$Harbour" ⟨"PortDrawer$Harbour", "partsToReferTo", "(I)I"⟩ ⟨"PortDrawer$Harbour", "partsToReferTo", "(I)I"⟩ ∈ tblG := m_s (i := 14) rfl rfl
theorem m_249 : (Jvm.Cond.methodLink "PortDrawer$Harbour" (47 : Nat) ({ cls := "PortDrawer$Harbour", name := "partsToReferTo", desc := "(I)I" } : Jvm.MethodName)) ∈ tblG := m_t (i := 249) rfl rfl
theorem m_251 : (Jvm.Cond.instanceMethod ({ cls := "PortDrawer$Harbour", name := "partsToReferTo", desc := "(I)I" } : Jvm.MethodName)) ∈ tblG := m_t (i := 251) rfl rfl
theorem m_242 : (Jvm.Cond.code ({ cls := "PortDrawer$Tape", name := "numberBelow", desc := "(I)I" } : Jvm.MethodName) prog_3_method_3_code (2 : Nat) (Option.some Jvm.ClassFile.FieldType.int)) ∈ tblG := m_t (i := 242) rfl rfl
theorem ms_12 : Cond.selects "PortDrawer$Tape" ⟨"PortDrawer$Tape", "numberBelow", "(I)I"⟩ ⟨"PortDrawer$Tape", "numberBelow", "(I)I"⟩ ∈ tblG := m_s (i := 12) rfl rfl
theorem m_241 : (Jvm.Cond.instanceMethod ({ cls := "PortDrawer$Tape", name := "numberBelow", desc := "(I)I" } : Jvm.MethodName)) ∈ tblG := m_t (i := 241) rfl rfl
theorem m_248 : (Jvm.Cond.code ({ cls := "PortDrawer$Harbour", name := "drawReference", desc := "(I)I" } : Jvm.MethodName) prog_2_method_4_code (5 : Nat) (Option.some Jvm.ClassFile.FieldType.int)) ∈ tblG := m_t (i := 248) rfl rfl
theorem ms_13 : Cond.selects "PortDrawer$Harbour" ⟨"PortDrawer$Harbour", "drawReference", "(I)I"⟩ ⟨"PortDrawer$Harbour", "drawReference", "(I)I"⟩ ∈ tblG := m_s (i := 13) rfl rfl
theorem m_245 : (Jvm.Cond.methodLink "PortDrawer$Harbour" (44 : Nat) ({ cls := "PortDrawer$Harbour", name := "drawReference", desc := "(I)I" } : Jvm.MethodName)) ∈ tblG := m_t (i := 245) rfl rfl
theorem m_247 : (Jvm.Cond.instanceMethod ({ cls := "PortDrawer$Harbour", name := "drawReference", desc := "(I)I" } : Jvm.MethodName)) ∈ tblG := m_t (i := 247) rfl rfl
theorem m_234 : (Jvm.Cond.code ({ cls := "PortDrawer$Tape", name := "rewind", desc := "(J)V" } : Jvm.MethodName) prog_3_method_2_code (3 : Nat) (Option.none : Option Jvm.ClassFile.FieldType)) ∈ tblG := m_t (i := 234) rfl rfl
theorem ms_10 : Cond.selects "PortDrawer$Tape" ⟨"PortDrawer$Tape", "rewind", "(J)V"⟩ ⟨"PortDrawer$Tape", "rewind", "(J)V"⟩ ∈ tblG := m_s (i := 10) rfl rfl
theorem m_233 : (Jvm.Cond.instanceMethod ({ cls := "PortDrawer$Tape", name := "rewind", desc := "(J)V" } : Jvm.MethodName)) ∈ tblG := m_t (i := 233) rfl rfl
theorem m_238 : (Jvm.Cond.code ({ cls := "PortDrawer$Harbour", name := "addPart", desc := "(I)V" } : Jvm.MethodName) prog_2_method_3_code (2 : Nat) (Option.none : Option Jvm.ClassFile.FieldType)) ∈ tblG := m_t (i := 238) rfl rfl
theorem ms_11 : Cond.selects "PortDrawer$Harbour" ⟨"PortDrawer$Harbour", "addPart", "(I)V"⟩ ⟨"PortDrawer$Harbour", "addPart", "(I)V"⟩ ∈ tblG := m_s (i := 11) rfl rfl
theorem m_235 : (Jvm.Cond.methodLink "PortDrawer$Harbour" (36 : Nat) ({ cls := "PortDrawer$Harbour", name := "addPart", desc := "(I)V" } : Jvm.MethodName)) ∈ tblG := m_t (i := 235) rfl rfl
theorem m_237 : (Jvm.Cond.instanceMethod ({ cls := "PortDrawer$Harbour", name := "addPart", desc := "(I)V" } : Jvm.MethodName)) ∈ tblG := m_t (i := 237) rfl rfl
theorem d_H_drawReference_0 : decode b_H_drawReference 0 = .ok (.aload_n 0, 1) := by decide +kernel
theorem d_H_drawReference_1 : decode b_H_drawReference 1 = .ok (.getfield 12, 3) := by decide +kernel
theorem d_H_drawReference_4 : decode b_H_drawReference 4 = .ok (.aload_n 0, 1) := by decide +kernel
theorem d_H_drawReference_5 : decode b_H_drawReference 5 = .ok (.iload_n 1, 1) := by decide +kernel
theorem d_H_drawReference_6 : decode b_H_drawReference 6 = .ok (.invokevirtual 47, 3) := by decide +kernel
theorem d_H_drawReference_9 : decode b_H_drawReference 9 = .ok (.invokevirtual 40, 3) := by decide +kernel
theorem d_H_drawReference_12 : decode b_H_drawReference 12 = .ok (.istore_n 2, 1) := by decide +kernel
theorem d_H_drawReference_13 : decode b_H_drawReference 13 = .ok (.iconst 0, 1) := by decide +kernel
theorem d_H_drawReference_14 : decode b_H_drawReference 14 = .ok (.istore_n 3, 1) := by decide +kernel
theorem d_H_drawReference_15 : decode b_H_drawReference 15 = .ok (.iconst 0, 1) := by decide +kernel
theorem d_H_drawReference_16 : decode b_H_drawReference 16 = .ok (.istore 4, 2) := by decide +kernel
theorem d_H_drawReference_18 : decode b_H_drawReference 18 = .ok (.iload 4, 2) := by decide +kernel
theorem d_H_drawReference_20 : decode b_H_drawReference 20 = .ok (.aload_n 0, 1) := by decide +kernel
theorem d_H_drawReference_21 : decode b_H_drawReference 21 = .ok (.getfield 28, 3) := by decide +kernel
theorem d_H_drawReference_24 : decode b_H_drawReference 24 = .ok (.if_icmp .ge 34, 3) := by decide +kernel
theorem d_H_drawReference_27 : decode b_H_drawReference 27 = .ok (.iload_n 1, 1) := by decide +kernel
theorem d_H_drawReference_28 : decode b_H_drawReference 28 = .ok (.aload_n 0, 1) := by decide +kernel
theorem d_H_drawReference_29 : decode b_H_drawReference 29 = .ok (.getfield 18, 3) := by decide +kernel
theorem d_H_drawReference_32 : decode b_H_drawReference 32 = .ok (.iload 4, 2) := by decide +kernel
theorem d_H_drawReference_34 : decode b_H_drawReference 34 = .ok (.iaload, 1) := by decide +kernel
theorem d_H_drawReference_35 : decode b_H_drawReference 35 = .ok (.invokestatic 50, 3) := by decide +kernel
theorem d_H_drawReference_38 : decode b_H_drawReference 38 = .ok (.ifCond .eq 14, 3) := by decide +kernel
theorem d_H_drawReference_41 : decode b_H_drawReference 41 = .ok (.iload_n 3, 1) := by decide +kernel
theorem d_H_drawReference_42 : decode b_H_drawReference 42 = .ok (.iload_n 2, 1) := by decide +kernel
theorem d_H_drawReference_43 : decode b_H_drawReference 43 = .ok (.if_icmp .ne 6, 3) := by decide +kernel
theorem d_H_drawReference_46 : decode b_H_drawReference 46 = .ok (.iload 4, 2) := by decide +kernel
theorem d_H_drawReference_48 : decode b_H_drawReference 48 = .ok (.ireturn, 1) := by decide +kernel
theorem d_H_drawReference_49 : decode b_H_drawReference 49 = .ok (.iinc 3 1, 3) := by decide +kernel
theorem d_H_drawReference_52 : decode b_H_drawReference 52 = .ok (.iinc 4 1, 3) := by decide +kernel
theorem d_H_drawReference_55 : decode b_H_drawReference 55 = .ok (.goto (-37), 3) := by decide +kernel
theorem d_H_drawReference_58 : decode b_H_drawReference 58 = .ok (.iconst (-1), 1) := by decide +kernel
theorem d_H_drawReference_59 : decode b_H_drawReference 59 = .ok (.ireturn, 1) := by decide +kernel
theorem d_H_addPart_0 : decode b_H_addPart 0 = .ok (.aload_n 0, 1) := by decide +kernel
theorem d_H_addPart_1 : decode b_H_addPart 1 = .ok (.getfield 28, 3) := by decide +kernel
theorem d_H_addPart_4 : decode b_H_addPart 4 = .ok (.bipush 43, 2) := by decide +kernel
theorem d_H_addPart_6 : decode b_H_addPart 6 = .ok (.if_icmp .lt 4, 3) := by decide +kernel
theorem d_H_addPart_10 : decode b_H_addPart 10 = .ok (.aload_n 0, 1) := by decide +kernel
theorem d_H_addPart_11 : decode b_H_addPart 11 = .ok (.getfield 18, 3) := by decide +kernel
theorem d_H_addPart_14 : decode b_H_addPart 14 = .ok (.aload_n 0, 1) := by decide +kernel
theorem d_H_addPart_15 : decode b_H_addPart 15 = .ok (.getfield 28, 3) := by decide +kernel
theorem d_H_addPart_18 : decode b_H_addPart 18 = .ok (.iload_n 1, 1) := by decide +kernel
theorem d_H_addPart_19 : decode b_H_addPart 19 = .ok (.iastore, 1) := by decide +kernel
theorem d_H_addPart_20 : decode b_H_addPart 20 = .ok (.aload_n 0, 1) := by decide +kernel
theorem d_H_addPart_21 : decode b_H_addPart 21 = .ok (.getfield 22, 3) := by decide +kernel
theorem d_H_addPart_24 : decode b_H_addPart 24 = .ok (.aload_n 0, 1) := by decide +kernel
theorem d_H_addPart_25 : decode b_H_addPart 25 = .ok (.getfield 28, 3) := by decide +kernel
theorem d_H_addPart_28 : decode b_H_addPart 28 = .ok (.aload_n 0, 1) := by decide +kernel
theorem d_H_addPart_29 : decode b_H_addPart 29 = .ok (.getfield 12, 3) := by decide +kernel
theorem d_H_addPart_32 : decode b_H_addPart 32 = .ok (.bipush 100, 2) := by decide +kernel
theorem d_H_addPart_34 : decode b_H_addPart 34 = .ok (.invokevirtual 40, 3) := by decide +kernel
theorem d_H_addPart_37 : decode b_H_addPart 37 = .ok (.iastore, 1) := by decide +kernel
theorem d_H_addPart_38 : decode b_H_addPart 38 = .ok (.aload_n 0, 1) := by decide +kernel
theorem d_H_addPart_39 : decode b_H_addPart 39 = .ok (.getfield 25, 3) := by decide +kernel
theorem d_H_addPart_42 : decode b_H_addPart 42 = .ok (.aload_n 0, 1) := by decide +kernel
theorem d_H_addPart_43 : decode b_H_addPart 43 = .ok (.getfield 28, 3) := by decide +kernel
theorem d_H_addPart_46 : decode b_H_addPart 46 = .ok (.aload_n 0, 1) := by decide +kernel
theorem d_H_addPart_47 : decode b_H_addPart 47 = .ok (.iload_n 1, 1) := by decide +kernel
theorem d_H_addPart_48 : decode b_H_addPart 48 = .ok (.invokevirtual 44, 3) := by decide +kernel
theorem d_H_addPart_51 : decode b_H_addPart 51 = .ok (.iastore, 1) := by decide +kernel
theorem d_H_addPart_52 : decode b_H_addPart 52 = .ok (.aload_n 0, 1) := by decide +kernel
theorem d_H_addPart_53 : decode b_H_addPart 53 = .ok (.dup, 1) := by decide +kernel
theorem d_H_addPart_54 : decode b_H_addPart 54 = .ok (.getfield 28, 3) := by decide +kernel
theorem d_H_addPart_57 : decode b_H_addPart 57 = .ok (.iconst 1, 1) := by decide +kernel
theorem d_H_addPart_58 : decode b_H_addPart 58 = .ok (.iadd, 1) := by decide +kernel
theorem d_H_addPart_59 : decode b_H_addPart 59 = .ok (.putfield 28, 3) := by decide +kernel
theorem d_H_addPart_62 : decode b_H_addPart 62 = .ok (.return_, 1) := by decide +kernel
theorem d_H_fill_0 : decode b_H_fill 0 = .ok (.aload_n 0, 1) := by decide +kernel
theorem d_H_fill_1 : decode b_H_fill 1 = .ok (.getfield 12, 3) := by decide +kernel
theorem d_H_fill_4 : decode b_H_fill 4 = .ok (.lload_n 1, 1) := by decide +kernel
theorem d_H_fill_5 : decode b_H_fill 5 = .ok (.invokevirtual 32, 3) := by decide +kernel
theorem d_H_fill_8 : decode b_H_fill 8 = .ok (.aload_n 0, 1) := by decide +kernel
theorem d_H_fill_9 : decode b_H_fill 9 = .ok (.iconst 0, 1) := by decide +kernel
theorem d_H_fill_10 : decode b_H_fill 10 = .ok (.putfield 28, 3) := by decide +kernel
theorem d_H_fill_13 : decode b_H_fill 13 = .ok (.aload_n 0, 1) := by decide +kernel
theorem d_H_fill_14 : decode b_H_fill 14 = .ok (.iconst 0, 1) := by decide +kernel
theorem d_H_fill_15 : decode b_H_fill 15 = .ok (.invokevirtual 36, 3) := by decide +kernel
theorem d_H_fill_18 : decode b_H_fill 18 = .ok (.aload_n 0, 1) := by decide +kernel
theorem d_H_fill_19 : decode b_H_fill 19 = .ok (.iconst 1, 1) := by decide +kernel
theorem d_H_fill_20 : decode b_H_fill 20 = .ok (.invokevirtual 36, 3) := by decide +kernel
theorem d_H_fill_23 : decode b_H_fill 23 = .ok (.aload_n 0, 1) := by decide +kernel
theorem d_H_fill_24 : decode b_H_fill 24 = .ok (.iconst 2, 1) := by decide +kernel
theorem d_H_fill_25 : decode b_H_fill 25 = .ok (.invokevirtual 36, 3) := by decide +kernel
theorem d_H_fill_28 : decode b_H_fill 28 = .ok (.iconst 0, 1) := by decide +kernel
theorem d_H_fill_29 : decode b_H_fill 29 = .ok (.istore 4, 2) := by decide +kernel
theorem d_H_fill_31 : decode b_H_fill 31 = .ok (.iload 4, 2) := by decide +kernel
theorem d_H_fill_33 : decode b_H_fill 33 = .ok (.iload_n 3, 1) := by decide +kernel
theorem d_H_fill_34 : decode b_H_fill 34 = .ok (.if_icmp .ge 22, 3) := by decide +kernel
theorem d_H_fill_37 : decode b_H_fill 37 = .ok (.aload_n 0, 1) := by decide +kernel
theorem d_H_fill_38 : decode b_H_fill 38 = .ok (.aload_n 0, 1) := by decide +kernel
theorem d_H_fill_39 : decode b_H_fill 39 = .ok (.getfield 12, 3) := by decide +kernel
theorem d_H_fill_42 : decode b_H_fill 42 = .ok (.bipush 7, 2) := by decide +kernel
theorem d_H_fill_44 : decode b_H_fill 44 = .ok (.invokevirtual 40, 3) := by decide +kernel
theorem d_H_fill_47 : decode b_H_fill 47 = .ok (.invokevirtual 36, 3) := by decide +kernel
theorem d_H_fill_50 : decode b_H_fill 50 = .ok (.iinc 4 1, 3) := by decide +kernel
theorem d_H_fill_53 : decode b_H_fill 53 = .ok (.goto (-22), 3) := by decide +kernel
theorem d_H_fill_56 : decode b_H_fill 56 = .ok (.return_, 1) := by decide +kernel
set_option maxHeartbeats 4000000 in
set_option maxRecDepth 100000 in
/-- Harbour.drawReference -/
theorem c_H_drawReference (l : Launch) (dC : Nat → ClassId) (dI : Nat → Nat → Nat) (jh jt jk jv jr n : Nat) (ck : ClassId) (x : Int64) (K : Nat → Int32) (kd : Int32) (hn : n ≤ 43) (sz : Nat) : Met l y_H_drawReference w_H_drawReference ({ frames := 2, cells := 0, slots := 0, locals := 44 }) (wr_P dC dI [.ref jh, .int kd] [(jh, .inr (1, [.ref jt, .ref jk, .ref jv, .ref jr, .int (nI n)])), (jt, .inr (0, [.long x])), (jk, .inl (ck, 43, .inl K))] [(ck, .int)] sz) (va_Qi (fun (r : Int32) (_ : Unit) => r = rfI K n kd x) (fun (u : Unit) => wr_B dC dI (va_A [(jh, .inr (1, [.ref jt, .ref jk, .ref jv, .ref jr, .int (nI n)])), (jt, .inr (0, [.long x])), (jk, .inl (ck, 43, .inl K))] sz) [(jh, .inr (1, [.ref jt, .ref jk, .ref jv, .ref jr, .int (nI n)])), (jt, .inr (0, [.long (rfX K n kd x)])), (jk, .inl (ck, 43, .inl K))] [(ck, .int)]) (va_A [(jh, .inr (1, [.ref jt, .ref jk, .ref jv, .ref jr, .int (nI n)])), (jt, .inr (0, [.long x])), (jk, .inl (ck, 43, .inl K))] sz)) 0 0 (va_A [(jh, .inr (1, [.ref jt, .ref jk, .ref jv, .ref jr, .int (nI n)])), (jt, .inr (0, [.long x])), (jk, .inl (ck, 43, .inl K))] sz) := by
  refine Met.ofW (cc := b_H_drawReference) (maxL := 5) (ret := (Option.some Jvm.ClassFile.FieldType.int)) (by decide) rfl ?_
  intro p e s m args below meth c s₁ B0 hml hv0
  obtain ⟨rfl, hsz, hP, hK, hD0, hN⟩ := hv0
  have hx := B0.exec
  have hb := B0.bytes
  have hr := B0.returns
  have hts := atoms_spec (ws := w_H_drawReference) B0.pre
  have hown : s.vm.findClass R_H = some m.cls := findClass_of_methodNamed B0.named
  have hlocks := B0.notSynchronized
  subst hsz
  have hD := hD0.self (sz := s.heap.size)
  generalize hAe : va_A [(jh, .inr (1, [.ref jt, .ref jk, .ref jv, .ref jr, .int (nI n)])), (jt, .inr (0, [.long x])), (jk, .inl (ck, 43, .inl K))] s.heap.size = A at hD ⊢
  have hA : ∀ q : Nat, s.heap.size ≤ q → A q := fun q h => by rw [← hAe]; exact Or.inr h
  have hS : va_S A s.heap s.heap [] := va_S.rf
  have hP : va_P (dC, dI) classes [(jh, .inr (1, [.ref jt, .ref jk, .ref jv, .ref jr, .int (nI n)])), (jt, .inr (0, [.long x])), (jk, .inl (ck, 43, .inl K))] s.heap := hP
  have hl := lv_entry ([.ref jh, .int kd]) (n := 5) (Nat.le_of_ble_eq_true rfl)
  rw [lg_entry_eq]
  generalize (lg_sl ([.ref jh, .int kd]) ++ List.replicate (5 - (lg_sl ([.ref jh, .int kd])).length) Slot.unset).toArray = ls at hl ⊢
  have hl : lv_has ls 5 [(0, .ref jh), (1, .int kd)] := hl
  have hcn := cnt_le (mP K kd) n
  refine lv_aload_n hx hb d_H_drawReference_0 rfl (lv_at hl 0 rfl) ?_
  refine va_get (D := (dC, dI)) (ci := 1) (v := .ref jt) (C := R_H) (T := F_H) (N := 5) hx hb hts (lay_H _) hown hK hP 0 rfl rfl 0 (by decide) (hts _ (List.mem_cons_of_mem _ m_35)) (fun _ h9 => h9) rfl d_H_drawReference_1 ?_
  refine lv_aload_n hx hb d_H_drawReference_4 rfl (lv_at hl 0 rfl) ?_
  refine lv_iload_n hx hb d_H_drawReference_5 rfl (lv_at hl 1 rfl) ?_
  have hPc := hP.sub (ws' := [(jh, .inr (1, [.ref jt, .ref jk, .ref jv, .ref jr, .int (nI n)])), (jk, .inl (ck, 43, .inl K))]) [0, 2] rfl
  have hKc := hK.sub (tys' := [(ck, .int)]) [0] rfl
  refine vp_callSi (W.runV (As := [.int kd]) (rest := [.ref jt]) ⟨hx, hb, hml, hown, hts⟩ (c_H_partsToReferTo l dC dI jh jt jk jv jr n ck K kd (by first | assumption | omega)) (cwV 1 hts (g_V big_w m_249 m_251 ms_14 m_2 m_252) rfl rfl rfl (by decide +kernel) ⟨Nat.le_of_ble_eq_true rfl, Nat.le_of_ble_eq_true rfl⟩) (ro_V hPc hKc hN (va_recv hKc hPc (ci := 1) (q0 := 0) rfl rfl)) rfl rfl hl.1 rfl (lv_room (Nat.le_of_ble_eq_true rfl)) d_H_drawReference_6 ⟨Nat.le_of_ble_eq_true rfl, Nat.le_of_ble_eq_true rfl⟩) (fun r_1 er_1 => ?_)
  subst er_1
  have hPc := hP.sub (ws' := [(jt, .inr (0, [.long x]))]) [1] rfl
  have hKc := hK.sub (tys' := []) [] rfl
  have hDc := hD.sub (ws' := [(jt, .inr (0, [.long x]))]) [1] (by decide) rfl
  have hFc := va_free (wc := [(jt, .inr (0, [.long x]))]) hD hS hA [1] rfl
  refine va_calli (va_runVN (As := [.int (nI (cnt (mP K kd) n))]) (rest := []) ⟨hx, hb, hml, hown, hts⟩ (c_T_numberBelow l dC dI jt x (cnt (mP K kd) n) (by first | assumption | omega) _) ⟨va_cnB 1 hts (g_c big_w m_242) rfl rfl rfl (hN _ (by decide +kernel : (Jvm.Cond.methodLinkNest "PortDrawer$Harbour" (40 : Nat) ({ cls := "PortDrawer$Tape", name := "numberBelow", desc := "(I)I" } : Jvm.MethodName) "PortDrawer") ∈ NWl)) (hts _ (List.mem_cons_of_mem _ m_3)) (by decide +kernel) ⟨Nat.le_of_ble_eq_true rfl, Nat.le_of_ble_eq_true rfl⟩, (hts _ (List.mem_cons_of_mem _ m_241)), (hts _ (List.mem_cons_of_mem _ ms_12))⟩ (wr_V hPc hKc hDc hN (va_recv hKc hPc (ci := 0) (q0 := 0) rfl rfl)) rfl rfl hl.1 rfl (lv_room (Nat.le_of_ble_eq_true rfl)) d_H_drawReference_9 ⟨Nat.le_of_ble_eq_true rfl, Nat.le_of_ble_eq_true rfl⟩) hS (fun q _ h => hFc q h) hFc (fun r_2 u t H1 locs ht hvm hw hB hz1 hk1 hS => ?_)
  obtain ⟨hP1, hK1, hD1⟩ := hB
  rw [ht] at hP1
  obtain ⟨hP, hD⟩ := va_join (wr := [(jh, .inr (1, [.ref jt, .ref jk, .ref jv, .ref jr, .int (nI n)])), (jk, .inl (ck, 43, .inl K))]) (w1 := [(jt, .inr (0, [.long (nbX x (cnt (mP K kd) n))]))]) hP hD [1] [0, 2] rfl rfl (by decide) (by decide) hk1 hFc hP1 hD1
  generalize H1 = H at hP hS ⊢
  have hP : va_P (dC, dI) classes [(jh, .inr (1, [.ref jt, .ref jk, .ref jv, .ref jr, .int (nI n)])), (jk, .inl (ck, 43, .inl K)), (jt, .inr (0, [.long (nbX x (cnt (mP K kd) n))]))] H := hP
  have hD : va_D A [(jh, .inr (1, [.ref jt, .ref jk, .ref jv, .ref jr, .int (nI n)])), (jk, .inl (ck, 43, .inl K)), (jt, .inr (0, [.long (nbX x (cnt (mP K kd) n))]))] := hD
  subst hw
  refine lv_istore_n (lv' := [(2, .int (nbI x (cnt (mP K kd) n))), (0, .ref jh), (1, .int kd)]) hx hb d_H_drawReference_12 rfl hl (by decide) rfl (fun ls hl => ?_)
  refine lv_iconst (v := nI 0) hx hb d_H_drawReference_13 (by decide +kernel) ?_
  refine lv_istore_n (lv' := [(3, .int (nI 0)), (2, .int (nbI x (cnt (mP K kd) n))), (0, .ref jh), (1, .int kd)]) hx hb d_H_drawReference_14 rfl hl (by decide) rfl (fun ls hl => ?_)
  refine lv_iconst (v := nI 0) hx hb d_H_drawReference_15 (by decide +kernel) ?_
  refine lv_istore (lv' := [(4, .int (nI 0)), (3, .int (nI 0)), (2, .int (nbI x (cnt (mP K kd) n))), (0, .ref jh), (1, .int kd)]) hx hb d_H_drawReference_16 hl (by decide) rfl (fun ls hl => ?_)
  have lp_18 : ∀ (k9_18 : Nat), ∀ (i : Nat), n - i < k9_18 → (i ≤ n) → (∀ a, a < i → dQ (mP K kd) (nbI x (cnt (mP K kd) n)) a = false) → ∀ (ls : Array Slot), lv_has ls 5 [(0, .ref jh), (1, .int kd), (2, .int (nbI x (cnt (mP K kd) n))), (3, .int (nI (cnt (mP K kd) i))), (4, .int (nI i))] → W p l e (headSpec w_H_drawReference ({ frames := 2, cells := 0, slots := 0, locals := 44 })).room s m ([.ref jh, .int kd]).toArray below meth c H locs 0 0 (MQ below (va_Qi (fun (r : Int32) (_ : Unit) => r = rfI K n kd x) (fun (u : Unit) => wr_B dC dI (A) [(jh, .inr (1, [.ref jt, .ref jk, .ref jv, .ref jr, .int (nI n)])), (jt, .inr (0, [.long (rfX K n kd x)])), (jk, .inl (ck, 43, .inl K))] [(ck, .int)]) (A)) ([.ref jh, .int kd]).toArray s 0 0 A) (F0 m 18 ls []) := by
    intro k9_18
    induction k9_18 with
    | zero =>
      intro i hk9
      exact absurd hk9 (Nat.not_lt_zero _)
    | succ k9_18 ih_18 =>
      intro i hk9_18 hi hno ls hl
      have hci := cnt_le (mP K kd) i
      refine lv_iload hx hb d_H_drawReference_18 (lv_at hl 4 rfl) ?_
      refine lv_aload_n hx hb d_H_drawReference_20 rfl (lv_at hl 0 rfl) ?_
      refine va_get (D := (dC, dI)) (ci := 1) (v := .int (nI n)) (C := R_H) (T := F_H) (N := 5) hx hb hts (lay_H _) hown hK hP 0 rfl rfl 4 (by decide) (hts _ (List.mem_cons_of_mem _ m_42)) (fun _ h9 => h9) rfl d_H_drawReference_21 ?_
      refine lv_icmp_ge (tgt := 58) hx hb d_H_drawReference_24 (by decide) (fun c_24 => ?_) (fun c_24 => ?_)
      · skip
        have c_24 := (nI_leI (by omega) (by omega)).mp c_24
        refine lv_iconst (v := (-1)) hx hb d_H_drawReference_58 (by decide +kernel) ?_
        have hP9 := hP.sub (ws' := [(jh, .inr (1, [.ref jt, .ref jk, .ref jv, .ref jr, .int (nI n)])), (jt, .inr (0, [.long (rfX K n kd x)])), (jk, .inl (ck, 43, .inl K))]) [0, 2, 1] rfl
        have hD9 := hD.sub (ws' := [(jh, .inr (1, [.ref jt, .ref jk, .ref jv, .ref jr, .int (nI n)])), (jt, .inr (0, [.long (rfX K n kd x)])), (jk, .inl (ck, 43, .inl K))]) [0, 2, 1] (by decide) rfl
        have hK9 := hK.sub (tys' := [(ck, .int)]) [0] rfl
        exact W.iret (v := (-1)) hx hb hr (fun t ht hW => ⟨⟨(-1), (), rfl, (by unfold rfI; rw [fst9_none (fun a ha => hno a (by omega))]; rfl), by rw [ht]; exact hP9, va_K.moved hW.alike hK9, hD9⟩, hS.F ht⟩) hS.2.2 d_H_drawReference_59
      · skip
        have c_24 := (not_congr (nI_leI (by omega) (by omega))).mp c_24
        refine lv_iload_n hx hb d_H_drawReference_27 rfl (lv_at hl 1 rfl) ?_
        refine lv_aload_n hx hb d_H_drawReference_28 rfl (lv_at hl 0 rfl) ?_
        refine va_get (D := (dC, dI)) (ci := 1) (v := .ref jk) (C := R_H) (T := F_H) (N := 5) hx hb hts (lay_H _) hown hK hP 0 rfl rfl 1 (by decide) (hts _ (List.mem_cons_of_mem _ m_36)) (fun _ h9 => h9) rfl d_H_drawReference_29 ?_
        refine lv_iload hx hb d_H_drawReference_32 (lv_at hl 4 rfl) ?_
        refine va_iald hx hb hK hP 1 0 rfl rfl (vp_in_nI (by omega) (by omega)) d_H_drawReference_34 ?_
        refine lv_topi (fun w_3 ew_3 => ?_)
        rw [nI_clamp (by omega)] at ew_3
        subst ew_3
        have hPc := hP.sub (ws' := []) [] rfl
        have hKc := hK.sub (tys' := []) [] rfl
        refine vp_callSi (va_Run.run (va_runSN (As := [.int kd, .int (K i)]) (rest := []) ⟨hx, hb, hml, hown, hts⟩ (c_D_mayRefer l dC dI kd (K i)) ⟨va_cnB 2 hts (g_c big_w m_255) rfl rfl rfl (hN _ (by decide +kernel : (Jvm.Cond.methodLinkNest "PortDrawer$Harbour" (50 : Nat) ({ cls := "PortDrawer", name := "mayRefer", desc := "(II)Z" } : Jvm.MethodName) "PortDrawer") ∈ NWl)) (hts _ (List.mem_cons_of_mem _ m_1)) (by decide +kernel) ⟨Nat.le_of_ble_eq_true rfl, Nat.le_of_ble_eq_true rfl⟩, (hts _ (List.mem_cons_of_mem _ m_254)), trivial⟩ (ro_S hPc hKc hN) rfl rfl hl.1 rfl (lv_room (Nat.le_of_ble_eq_true rfl)) d_H_drawReference_35 ⟨Nat.le_of_ble_eq_true rfl, Nat.le_of_ble_eq_true rfl⟩)) (fun r_4 er_4 => ?_)
        subst er_4
        refine lv_if_eq (tgt := 52) hx hb d_H_drawReference_38 (by decide) (fun c_38 => ?_) (fun c_38 => ?_)
        · skip
          have c_38 := bI_f c_38
          have hq9 : dQ (mP K kd) (nbI x (cnt (mP K kd) n)) i = false := by unfold dQ; rw [show mP K kd i = false from c_38, Bool.false_and]
          rw [show nI (cnt (mP K kd) i) = nI (cnt (mP K kd) (i + 1)) from (by rw [cnt_f (P := mP K kd) (n := i) c_38])] at hl
          refine lv_iinc (v := nI (i + 1)) (lv' := [(4, .int (nI (i + 1))), (0, .ref jh), (1, .int kd), (2, .int (nbI x (cnt (mP K kd) n))), (3, .int (nI (cnt (mP K kd) (i + 1))))]) hx hb d_H_drawReference_52 hl (k := 4) rfl (nI_1 _) (by decide) rfl (fun ls hl => ?_)
          refine lv_goto (tgt := 18) hx hb d_H_drawReference_55 (by decide) ?_
          exact ih_18 (i + 1) (by omega) (by omega) (lt_s hno hq9) ls (lv_sub (l' := [(0, .ref jh), (1, .int kd), (2, .int (nbI x (cnt (mP K kd) n))), (3, .int (nI (cnt (mP K kd) (i + 1)))), (4, .int (nI (i + 1)))]) hl [1, 2, 3, 4, 0] rfl)
        · skip
          have c_38 := bI_t c_38
          refine lv_iload_n hx hb d_H_drawReference_41 rfl (lv_at hl 3 rfl) ?_
          refine lv_iload_n hx hb d_H_drawReference_42 rfl (lv_at hl 2 rfl) ?_
          refine lv_icmp_ne (tgt := 49) hx hb d_H_drawReference_43 (by decide) (fun c_43 => ?_) (fun c_43 => ?_)
          · skip
            have hq9 : dQ (mP K kd) (nbI x (cnt (mP K kd) n)) i = false := by unfold dQ; rw [decide_eq_false c_43, Bool.and_false]
            refine lv_iinc (v := nI (cnt (mP K kd) (i + 1))) (lv' := [(3, .int (nI (cnt (mP K kd) (i + 1)))), (0, .ref jh), (1, .int kd), (2, .int (nbI x (cnt (mP K kd) n))), (4, .int (nI i))]) hx hb d_H_drawReference_49 hl (k := 3) rfl (by rw [cnt_t (P := mP K kd) (n := i) c_38]; exact nI_1 _) (by decide) rfl (fun ls hl => ?_)
            refine lv_iinc (v := nI (i + 1)) (lv' := [(4, .int (nI (i + 1))), (3, .int (nI (cnt (mP K kd) (i + 1)))), (0, .ref jh), (1, .int kd), (2, .int (nbI x (cnt (mP K kd) n)))]) hx hb d_H_drawReference_52 hl (k := 4) rfl (nI_1 _) (by decide) rfl (fun ls hl => ?_)
            refine lv_goto (tgt := 18) hx hb d_H_drawReference_55 (by decide) ?_
            exact ih_18 (i + 1) (by omega) (by omega) (lt_s hno hq9) ls (lv_sub (l' := [(0, .ref jh), (1, .int kd), (2, .int (nbI x (cnt (mP K kd) n))), (3, .int (nI (cnt (mP K kd) (i + 1)))), (4, .int (nI (i + 1)))]) hl [2, 3, 4, 1, 0] rfl)
          · skip
            refine lv_iload hx hb d_H_drawReference_46 (lv_at hl 4 rfl) ?_
            have hP9 := hP.sub (ws' := [(jh, .inr (1, [.ref jt, .ref jk, .ref jv, .ref jr, .int (nI n)])), (jt, .inr (0, [.long (rfX K n kd x)])), (jk, .inl (ck, 43, .inl K))]) [0, 2, 1] rfl
            have hD9 := hD.sub (ws' := [(jh, .inr (1, [.ref jt, .ref jk, .ref jv, .ref jr, .int (nI n)])), (jt, .inr (0, [.long (rfX K n kd x)])), (jk, .inl (ck, 43, .inl K))]) [0, 2, 1] (by decide) rfl
            have hK9 := hK.sub (tys' := [(ck, .int)]) [0] rfl
            exact W.iret (v := nI i) hx hb hr (fun t ht hW => ⟨⟨nI i, (), rfl, (by unfold rfI; rw [fst9_some (Q := dQ (mP K kd) (nbI x (cnt (mP K kd) n))) (i := i) (by unfold dQ; rw [show mP K kd i = true from c_38, decide_eq_true c_43]; rfl) hno (by omega)]; rfl), by rw [ht]; exact hP9, va_K.moved hW.alike hK9, hD9⟩, hS.F ht⟩) hS.2.2 d_H_drawReference_48
  exact lp_18 ((n - 0) + 1) 0 (by omega) (by omega) lt_0 ls (lv_sub (l' := [(0, .ref jh), (1, .int kd), (2, .int (nbI x (cnt (mP K kd) n))), (3, .int (nI (cnt (mP K kd) 0))), (4, .int (nI 0))]) hl [3, 4, 2, 1, 0] rfl)
set_option maxHeartbeats 4000000 in
set_option maxRecDepth 100000 in
/-- Harbour.addPart -/
theorem c_H_addPart (l : Launch) (dC : Nat → ClassId) (dI : Nat → Nat → Nat) (jh jt jk jv jr n : Nat) (ck cv cr : ClassId) (x : Int64) (K V R : Nat → Int32) (kd : Int32) (hn : n < 43) (sz : Nat) : Met l y_H_addPart w_H_addPart ({ frames := 3, cells := 0, slots := 0, locals := 68 }) (wr_P dC dI [.ref jh, .int kd] [(jh, .inr (1, [.ref jt, .ref jk, .ref jv, .ref jr, .int (nI n)])), (jt, .inr (0, [.long x])), (jk, .inl (ck, 43, .inl K)), (jv, .inl (cv, 43, .inl V)), (jr, .inl (cr, 43, .inl R))] [(ck, .int), (cv, .int), (cr, .int)] sz) (va_Qv (fun (_ : Unit) => True) (fun (u : Unit) => wr_B dC dI (va_A [(jh, .inr (1, [.ref jt, .ref jk, .ref jv, .ref jr, .int (nI n)])), (jt, .inr (0, [.long x])), (jk, .inl (ck, 43, .inl K)), (jv, .inl (cv, 43, .inl V)), (jr, .inl (cr, 43, .inl R))] sz) [(jh, .inr (1, [.ref jt, .ref jk, .ref jv, .ref jr, .int (nI (n + 1))])), (jt, .inr (0, [.long ((adS kd n (x, K, V, R)).1)])), (jk, .inl (ck, 43, .inl ((adS kd n (x, K, V, R)).2.1))), (jv, .inl (cv, 43, .inl ((adS kd n (x, K, V, R)).2.2.1))), (jr, .inl (cr, 43, .inl ((adS kd n (x, K, V, R)).2.2.2)))] [(ck, .int), (cv, .int), (cr, .int)]) (va_A [(jh, .inr (1, [.ref jt, .ref jk, .ref jv, .ref jr, .int (nI n)])), (jt, .inr (0, [.long x])), (jk, .inl (ck, 43, .inl K)), (jv, .inl (cv, 43, .inl V)), (jr, .inl (cr, 43, .inl R))] sz)) 0 0 (va_A [(jh, .inr (1, [.ref jt, .ref jk, .ref jv, .ref jr, .int (nI n)])), (jt, .inr (0, [.long x])), (jk, .inl (ck, 43, .inl K)), (jv, .inl (cv, 43, .inl V)), (jr, .inl (cr, 43, .inl R))] sz) := by
  refine Met.ofW (cc := b_H_addPart) (maxL := 2) (ret := (Option.none : Option Jvm.ClassFile.FieldType)) (by decide) rfl ?_
  intro p e s m args below meth c s₁ B0 hml hv0
  obtain ⟨rfl, hsz, hP, hK, hD0, hN⟩ := hv0
  have hx := B0.exec
  have hb := B0.bytes
  have hr := B0.returns
  have hts := atoms_spec (ws := w_H_addPart) B0.pre
  have hown : s.vm.findClass R_H = some m.cls := findClass_of_methodNamed B0.named
  have hlocks := B0.notSynchronized
  subst hsz
  have hD := hD0.self (sz := s.heap.size)
  generalize hAe : va_A [(jh, .inr (1, [.ref jt, .ref jk, .ref jv, .ref jr, .int (nI n)])), (jt, .inr (0, [.long x])), (jk, .inl (ck, 43, .inl K)), (jv, .inl (cv, 43, .inl V)), (jr, .inl (cr, 43, .inl R))] s.heap.size = A at hD ⊢
  have hA : ∀ q : Nat, s.heap.size ≤ q → A q := fun q h => by rw [← hAe]; exact Or.inr h
  have hS : va_S A s.heap s.heap [] := va_S.rf
  have hP : va_P (dC, dI) classes [(jh, .inr (1, [.ref jt, .ref jk, .ref jv, .ref jr, .int (nI n)])), (jt, .inr (0, [.long x])), (jk, .inl (ck, 43, .inl K)), (jv, .inl (cv, 43, .inl V)), (jr, .inl (cr, 43, .inl R))] s.heap := hP
  have hl := lv_entry ([.ref jh, .int kd]) (n := 2) (Nat.le_of_ble_eq_true rfl)
  rw [lg_entry_eq]
  generalize (lg_sl ([.ref jh, .int kd]) ++ List.replicate (2 - (lg_sl ([.ref jh, .int kd])).length) Slot.unset).toArray = ls at hl ⊢
  have hl : lv_has ls 2 [(0, .ref jh), (1, .int kd)] := hl
  refine lv_aload_n hx hb d_H_addPart_0 rfl (lv_at hl 0 rfl) ?_
  refine va_get (D := (dC, dI)) (ci := 1) (v := .int (nI n)) (C := R_H) (T := F_H) (N := 5) hx hb hts (lay_H _) hown hK hP 0 rfl rfl 4 (by decide) (hts _ (List.mem_cons_of_mem _ m_42)) (fun _ h9 => h9) rfl d_H_addPart_1 ?_
  refine lv_bipush (v := nI 43) hx hb d_H_addPart_4 (by decide +kernel) ?_
  refine lv_icmp_lt (tgt := 10) hx hb d_H_addPart_6 (by decide) (fun c_6 => ?_) (fun c_6 => ?_)
  · skip
    have c_6 := (nI_ltI (by omega) (by omega)).mp c_6
    refine lv_aload_n hx hb d_H_addPart_10 rfl (lv_at hl 0 rfl) ?_
    refine va_get (D := (dC, dI)) (ci := 1) (v := .ref jk) (C := R_H) (T := F_H) (N := 5) hx hb hts (lay_H _) hown hK hP 0 rfl rfl 1 (by decide) (hts _ (List.mem_cons_of_mem _ m_36)) (fun _ h9 => h9) rfl d_H_addPart_11 ?_
    refine lv_aload_n hx hb d_H_addPart_14 rfl (lv_at hl 0 rfl) ?_
    refine va_get (D := (dC, dI)) (ci := 1) (v := .int (nI n)) (C := R_H) (T := F_H) (N := 5) hx hb hts (lay_H _) hown hK hP 0 rfl rfl 4 (by decide) (hts _ (List.mem_cons_of_mem _ m_42)) (fun _ h9 => h9) rfl d_H_addPart_15 ?_
    refine lv_iload_n hx hb d_H_addPart_18 rfl (lv_at hl 1 rfl) ?_
    refine va_iast hx hb hK hP hD hS 2 0 rfl rfl (vp_in_nI (by omega) (by omega)) d_H_addPart_19 (fun H locs hP hD hS => ?_)
    rw [nI_clamp (by omega)] at hP hD
    have hP : va_P (dC, dI) classes [(jh, .inr (1, [.ref jt, .ref jk, .ref jv, .ref jr, .int (nI n)])), (jt, .inr (0, [.long x])), (jk, .inl (ck, 43, .inl (upd K n kd))), (jv, .inl (cv, 43, .inl V)), (jr, .inl (cr, 43, .inl R))] H := hP
    have hD : va_D A [(jh, .inr (1, [.ref jt, .ref jk, .ref jv, .ref jr, .int (nI n)])), (jt, .inr (0, [.long x])), (jk, .inl (ck, 43, .inl (upd K n kd))), (jv, .inl (cv, 43, .inl V)), (jr, .inl (cr, 43, .inl R))] := hD
    refine lv_aload_n hx hb d_H_addPart_20 rfl (lv_at hl 0 rfl) ?_
    refine va_get (D := (dC, dI)) (ci := 1) (v := .ref jv) (C := R_H) (T := F_H) (N := 5) hx hb hts (lay_H _) hown hK hP 0 rfl rfl 2 (by decide) (hts _ (List.mem_cons_of_mem _ m_38)) (fun _ h9 => h9) rfl d_H_addPart_21 ?_
    refine lv_aload_n hx hb d_H_addPart_24 rfl (lv_at hl 0 rfl) ?_
    refine va_get (D := (dC, dI)) (ci := 1) (v := .int (nI n)) (C := R_H) (T := F_H) (N := 5) hx hb hts (lay_H _) hown hK hP 0 rfl rfl 4 (by decide) (hts _ (List.mem_cons_of_mem _ m_42)) (fun _ h9 => h9) rfl d_H_addPart_25 ?_
    refine lv_aload_n hx hb d_H_addPart_28 rfl (lv_at hl 0 rfl) ?_
    refine va_get (D := (dC, dI)) (ci := 1) (v := .ref jt) (C := R_H) (T := F_H) (N := 5) hx hb hts (lay_H _) hown hK hP 0 rfl rfl 0 (by decide) (hts _ (List.mem_cons_of_mem _ m_35)) (fun _ h9 => h9) rfl d_H_addPart_29 ?_
    refine lv_bipush (v := nI 100) hx hb d_H_addPart_32 (by decide +kernel) ?_
    have hPc := hP.sub (ws' := [(jt, .inr (0, [.long x]))]) [1] rfl
    have hKc := hK.sub (tys' := []) [] rfl
    have hDc := hD.sub (ws' := [(jt, .inr (0, [.long x]))]) [1] (by decide) rfl
    have hFc := va_free (wc := [(jt, .inr (0, [.long x]))]) hD hS hA [1] rfl
    refine va_calli (va_runVN (As := [.int (nI 100)]) (rest := [.int (nI n), .ref jv]) ⟨hx, hb, hml, hown, hts⟩ (c_T_numberBelow l dC dI jt x 100 (by first | assumption | omega) _) ⟨va_cnB 1 hts (g_c big_w m_242) rfl rfl rfl (hN _ (by decide +kernel : (Jvm.Cond.methodLinkNest "PortDrawer$Harbour" (40 : Nat) ({ cls := "PortDrawer$Tape", name := "numberBelow", desc := "(I)I" } : Jvm.MethodName) "PortDrawer") ∈ NWl)) (hts _ (List.mem_cons_of_mem _ m_3)) (by decide +kernel) ⟨Nat.le_of_ble_eq_true rfl, Nat.le_of_ble_eq_true rfl⟩, (hts _ (List.mem_cons_of_mem _ m_241)), (hts _ (List.mem_cons_of_mem _ ms_12))⟩ (wr_V hPc hKc hDc hN (va_recv hKc hPc (ci := 0) (q0 := 0) rfl rfl)) rfl rfl hl.1 rfl (lv_room (Nat.le_of_ble_eq_true rfl)) d_H_addPart_34 ⟨Nat.le_of_ble_eq_true rfl, Nat.le_of_ble_eq_true rfl⟩) hS (fun q _ h => hFc q h) hFc (fun r_1 u t H1 locs ht hvm hw hB hz1 hk1 hS => ?_)
    obtain ⟨hP1, hK1, hD1⟩ := hB
    rw [ht] at hP1
    obtain ⟨hP, hD⟩ := va_join (wr := [(jh, .inr (1, [.ref jt, .ref jk, .ref jv, .ref jr, .int (nI n)])), (jk, .inl (ck, 43, .inl (upd K n kd))), (jv, .inl (cv, 43, .inl V)), (jr, .inl (cr, 43, .inl R))]) (w1 := [(jt, .inr (0, [.long (nbX x 100)]))]) hP hD [1] [0, 2, 3, 4] rfl rfl (by decide) (by decide) hk1 hFc hP1 hD1
    generalize H1 = H at hP hS ⊢
    have hP : va_P (dC, dI) classes [(jh, .inr (1, [.ref jt, .ref jk, .ref jv, .ref jr, .int (nI n)])), (jk, .inl (ck, 43, .inl (upd K n kd))), (jv, .inl (cv, 43, .inl V)), (jr, .inl (cr, 43, .inl R)), (jt, .inr (0, [.long (nbX x 100)]))] H := hP
    have hD : va_D A [(jh, .inr (1, [.ref jt, .ref jk, .ref jv, .ref jr, .int (nI n)])), (jk, .inl (ck, 43, .inl (upd K n kd))), (jv, .inl (cv, 43, .inl V)), (jr, .inl (cr, 43, .inl R)), (jt, .inr (0, [.long (nbX x 100)]))] := hD
    subst hw
    refine va_iast hx hb hK hP hD hS 2 1 rfl rfl (vp_in_nI (by omega) (by omega)) d_H_addPart_37 (fun H locs hP hD hS => ?_)
    rw [nI_clamp (by omega)] at hP hD
    have hP : va_P (dC, dI) classes [(jh, .inr (1, [.ref jt, .ref jk, .ref jv, .ref jr, .int (nI n)])), (jk, .inl (ck, 43, .inl (upd K n kd))), (jv, .inl (cv, 43, .inl (upd V n (nbI x 100)))), (jr, .inl (cr, 43, .inl R)), (jt, .inr (0, [.long (nbX x 100)]))] H := hP
    have hD : va_D A [(jh, .inr (1, [.ref jt, .ref jk, .ref jv, .ref jr, .int (nI n)])), (jk, .inl (ck, 43, .inl (upd K n kd))), (jv, .inl (cv, 43, .inl (upd V n (nbI x 100)))), (jr, .inl (cr, 43, .inl R)), (jt, .inr (0, [.long (nbX x 100)]))] := hD
    refine lv_aload_n hx hb d_H_addPart_38 rfl (lv_at hl 0 rfl) ?_
    refine va_get (D := (dC, dI)) (ci := 1) (v := .ref jr) (C := R_H) (T := F_H) (N := 5) hx hb hts (lay_H _) hown hK hP 0 rfl rfl 3 (by decide) (hts _ (List.mem_cons_of_mem _ m_40)) (fun _ h9 => h9) rfl d_H_addPart_39 ?_
    refine lv_aload_n hx hb d_H_addPart_42 rfl (lv_at hl 0 rfl) ?_
    refine va_get (D := (dC, dI)) (ci := 1) (v := .int (nI n)) (C := R_H) (T := F_H) (N := 5) hx hb hts (lay_H _) hown hK hP 0 rfl rfl 4 (by decide) (hts _ (List.mem_cons_of_mem _ m_42)) (fun _ h9 => h9) rfl d_H_addPart_43 ?_
    refine lv_aload_n hx hb d_H_addPart_46 rfl (lv_at hl 0 rfl) ?_
    refine lv_iload_n hx hb d_H_addPart_47 rfl (lv_at hl 1 rfl) ?_
    have hPc := hP.sub (ws' := [(jh, .inr (1, [.ref jt, .ref jk, .ref jv, .ref jr, .int (nI n)])), (jt, .inr (0, [.long (nbX x 100)])), (jk, .inl (ck, 43, .inl (upd K n kd)))]) [0, 4, 1] rfl
    have hKc := hK.sub (tys' := [(ck, .int)]) [0] rfl
    have hDc := hD.sub (ws' := [(jh, .inr (1, [.ref jt, .ref jk, .ref jv, .ref jr, .int (nI n)])), (jt, .inr (0, [.long (nbX x 100)])), (jk, .inl (ck, 43, .inl (upd K n kd)))]) [0, 4, 1] (by decide) rfl
    have hFc := va_free (wc := [(jh, .inr (1, [.ref jt, .ref jk, .ref jv, .ref jr, .int (nI n)])), (jt, .inr (0, [.long (nbX x 100)])), (jk, .inl (ck, 43, .inl (upd K n kd)))]) hD hS hA [0, 4, 1] rfl
    refine va_calli (va_runV (As := [.int kd]) (rest := [.int (nI n), .ref jr]) ⟨hx, hb, hml, hown, hts⟩ (c_H_drawReference l dC dI jh jt jk jv jr n ck (nbX x 100) (upd K n kd) kd (by first | assumption | omega) _) (cwV 1 hts (g_V big_w m_245 m_247 ms_13 m_2 m_248) rfl rfl rfl (by decide +kernel) ⟨Nat.le_of_ble_eq_true rfl, Nat.le_of_ble_eq_true rfl⟩) (wr_V hPc hKc hDc hN (va_recv hKc hPc (ci := 1) (q0 := 0) rfl rfl)) rfl rfl hl.1 rfl (lv_room (Nat.le_of_ble_eq_true rfl)) d_H_addPart_48 ⟨Nat.le_of_ble_eq_true rfl, Nat.le_of_ble_eq_true rfl⟩) hS (fun q _ h => hFc q h) hFc (fun r_2 u t H1 locs ht hvm hw hB hz1 hk1 hS => ?_)
    obtain ⟨hP1, hK1, hD1⟩ := hB
    rw [ht] at hP1
    obtain ⟨hP, hD⟩ := va_join (wr := [(jv, .inl (cv, 43, .inl (upd V n (nbI x 100)))), (jr, .inl (cr, 43, .inl R))]) (w1 := [(jh, .inr (1, [.ref jt, .ref jk, .ref jv, .ref jr, .int (nI n)])), (jt, .inr (0, [.long (rfX (upd K n kd) n kd (nbX x 100))])), (jk, .inl (ck, 43, .inl (upd K n kd)))]) hP hD [0, 4, 1] [2, 3] rfl rfl (by decide) (by decide) hk1 hFc hP1 hD1
    generalize H1 = H at hP hS ⊢
    have hP : va_P (dC, dI) classes [(jv, .inl (cv, 43, .inl (upd V n (nbI x 100)))), (jr, .inl (cr, 43, .inl R)), (jh, .inr (1, [.ref jt, .ref jk, .ref jv, .ref jr, .int (nI n)])), (jt, .inr (0, [.long (rfX (upd K n kd) n kd (nbX x 100))])), (jk, .inl (ck, 43, .inl (upd K n kd)))] H := hP
    have hD : va_D A [(jv, .inl (cv, 43, .inl (upd V n (nbI x 100)))), (jr, .inl (cr, 43, .inl R)), (jh, .inr (1, [.ref jt, .ref jk, .ref jv, .ref jr, .int (nI n)])), (jt, .inr (0, [.long (rfX (upd K n kd) n kd (nbX x 100))])), (jk, .inl (ck, 43, .inl (upd K n kd)))] := hD
    subst hw
    refine va_iast hx hb hK hP hD hS 1 2 rfl rfl (vp_in_nI (by omega) (by omega)) d_H_addPart_51 (fun H locs hP hD hS => ?_)
    rw [nI_clamp (by omega)] at hP hD
    have hP : va_P (dC, dI) classes [(jv, .inl (cv, 43, .inl (upd V n (nbI x 100)))), (jr, .inl (cr, 43, .inl (upd R n (rfI (upd K n kd) n kd (nbX x 100))))), (jh, .inr (1, [.ref jt, .ref jk, .ref jv, .ref jr, .int (nI n)])), (jt, .inr (0, [.long (rfX (upd K n kd) n kd (nbX x 100))])), (jk, .inl (ck, 43, .inl (upd K n kd)))] H := hP
    have hD : va_D A [(jv, .inl (cv, 43, .inl (upd V n (nbI x 100)))), (jr, .inl (cr, 43, .inl (upd R n (rfI (upd K n kd) n kd (nbX x 100))))), (jh, .inr (1, [.ref jt, .ref jk, .ref jv, .ref jr, .int (nI n)])), (jt, .inr (0, [.long (rfX (upd K n kd) n kd (nbX x 100))])), (jk, .inl (ck, 43, .inl (upd K n kd)))] := hD
    refine lv_aload_n hx hb d_H_addPart_52 rfl (lv_at hl 0 rfl) ?_
    refine lv_dup hx hb d_H_addPart_53 rfl ?_
    refine va_get (D := (dC, dI)) (ci := 1) (v := .int (nI n)) (C := R_H) (T := F_H) (N := 5) hx hb hts (lay_H _) hown hK hP 2 rfl rfl 4 (by decide) (hts _ (List.mem_cons_of_mem _ m_42)) (fun _ h9 => h9) rfl d_H_addPart_54 ?_
    refine lv_iconst (v := nI 1) hx hb d_H_addPart_57 (by decide +kernel) ?_
    refine lv_iadd hx hb d_H_addPart_58 ?_
    refine lv_topi (fun w_3 ew_3 => ?_)
    have ew_3 : w_3 = nI (n + 1) := ew_3.trans (nI_add _ _)
    subst ew_3
    refine va_put (D := (dC, dI)) (ci := 1) (v := .int (nI (n + 1))) (ty := .int) (C := R_H) (T := F_H) (N := 5) hx hb hts (lay_H _) ft_H tok_H nok_H hown hK hP hD hS 2 rfl rfl 4 (by decide) (hts _ (List.mem_cons_of_mem _ m_42)) (fun _ h9 => h9) rfl (by decide +kernel) rfl rfl (Nat.le_of_ble_eq_true rfl) d_H_addPart_59 (fun H locs hP hD hS => ?_)
    have hP : va_P (dC, dI) classes [(jv, .inl (cv, 43, .inl (upd V n (nbI x 100)))), (jr, .inl (cr, 43, .inl (upd R n (rfI (upd K n kd) n kd (nbX x 100))))), (jh, .inr (1, [.ref jt, .ref jk, .ref jv, .ref jr, .int (nI (n + 1))])), (jt, .inr (0, [.long (rfX (upd K n kd) n kd (nbX x 100))])), (jk, .inl (ck, 43, .inl (upd K n kd)))] H := hP
    have hD : va_D A [(jv, .inl (cv, 43, .inl (upd V n (nbI x 100)))), (jr, .inl (cr, 43, .inl (upd R n (rfI (upd K n kd) n kd (nbX x 100))))), (jh, .inr (1, [.ref jt, .ref jk, .ref jv, .ref jr, .int (nI (n + 1))])), (jt, .inr (0, [.long (rfX (upd K n kd) n kd (nbX x 100))])), (jk, .inl (ck, 43, .inl (upd K n kd)))] := hD
    have hP9 := hP.sub (ws' := [(jh, .inr (1, [.ref jt, .ref jk, .ref jv, .ref jr, .int (nI (n + 1))])), (jt, .inr (0, [.long ((adS kd n (x, K, V, R)).1)])), (jk, .inl (ck, 43, .inl ((adS kd n (x, K, V, R)).2.1))), (jv, .inl (cv, 43, .inl ((adS kd n (x, K, V, R)).2.2.1))), (jr, .inl (cr, 43, .inl ((adS kd n (x, K, V, R)).2.2.2)))]) [2, 3, 4, 0, 1] rfl
    have hD9 := hD.sub (ws' := [(jh, .inr (1, [.ref jt, .ref jk, .ref jv, .ref jr, .int (nI (n + 1))])), (jt, .inr (0, [.long ((adS kd n (x, K, V, R)).1)])), (jk, .inl (ck, 43, .inl ((adS kd n (x, K, V, R)).2.1))), (jv, .inl (cv, 43, .inl ((adS kd n (x, K, V, R)).2.2.1))), (jr, .inl (cr, 43, .inl ((adS kd n (x, K, V, R)).2.2.2)))]) [2, 3, 4, 0, 1] (by decide) rfl
    have hK9 := hK.sub (tys' := [(ck, .int), (cv, .int), (cr, .int)]) [0, 1, 2] rfl
    exact W.vret hx hb hr (fun t ht hW => ⟨⟨(), rfl, trivial, by rw [ht]; exact hP9, va_K.moved hW.alike hK9, hD9⟩, hS.F ht⟩) hS.2.2 d_H_addPart_62
  · skip
    have c_6 := (not_congr (nI_ltI (by omega) (by omega))).mp c_6
    exact absurd hn c_6
set_option maxHeartbeats 4000000 in
set_option maxRecDepth 100000 in
/-- Harbour.fill -/
theorem c_H_fill (l : Launch) (dC : Nat → ClassId) (dI : Nat → Nat → Nat) (jh jt jk jv jr n : Nat) (ck cv cr : ClassId) (x : Int64) (K V R : Nat → Int32) (sd : Int64) (z : Nat) (hz : z ≤ 40) (sz : Nat) : Met l y_H_fill w_H_fill ({ frames := 4, cells := 0, slots := 0, locals := 89 }) (wr_P dC dI [.ref jh, .long sd, .int (nI z)] [(jh, .inr (1, [.ref jt, .ref jk, .ref jv, .ref jr, .int (nI n)])), (jt, .inr (0, [.long x])), (jk, .inl (ck, 43, .inl K)), (jv, .inl (cv, 43, .inl V)), (jr, .inl (cr, 43, .inl R))] [(ck, .int), (cv, .int), (cr, .int)] sz) (va_Qv (fun (_ : Unit) => True) (fun (u : Unit) => wr_B dC dI (va_A [(jh, .inr (1, [.ref jt, .ref jk, .ref jv, .ref jr, .int (nI n)])), (jt, .inr (0, [.long x])), (jk, .inl (ck, 43, .inl K)), (jv, .inl (cv, 43, .inl V)), (jr, .inl (cr, 43, .inl R))] sz) [(jh, .inr (1, [.ref jt, .ref jk, .ref jv, .ref jr, .int (nI (z + 3))])), (jt, .inr (0, [.long ((flS sd K V R z).1)])), (jk, .inl (ck, 43, .inl ((flS sd K V R z).2.1))), (jv, .inl (cv, 43, .inl ((flS sd K V R z).2.2.1))), (jr, .inl (cr, 43, .inl ((flS sd K V R z).2.2.2)))] [(ck, .int), (cv, .int), (cr, .int)]) (va_A [(jh, .inr (1, [.ref jt, .ref jk, .ref jv, .ref jr, .int (nI n)])), (jt, .inr (0, [.long x])), (jk, .inl (ck, 43, .inl K)), (jv, .inl (cv, 43, .inl V)), (jr, .inl (cr, 43, .inl R))] sz)) 0 0 (va_A [(jh, .inr (1, [.ref jt, .ref jk, .ref jv, .ref jr, .int (nI n)])), (jt, .inr (0, [.long x])), (jk, .inl (ck, 43, .inl K)), (jv, .inl (cv, 43, .inl V)), (jr, .inl (cr, 43, .inl R))] sz) := by
  refine Met.ofW (cc := b_H_fill) (maxL := 5) (ret := (Option.none : Option Jvm.ClassFile.FieldType)) (by decide) rfl ?_
  intro p e s m args below meth c s₁ B0 hml hv0
  obtain ⟨rfl, hsz, hP, hK, hD0, hN⟩ := hv0
  have hx := B0.exec
  have hb := B0.bytes
  have hr := B0.returns
  have hts := atoms_spec (ws := w_H_fill) B0.pre
  have hown : s.vm.findClass R_H = some m.cls := findClass_of_methodNamed B0.named
  have hlocks := B0.notSynchronized
  subst hsz
  have hD := hD0.self (sz := s.heap.size)
  generalize hAe : va_A [(jh, .inr (1, [.ref jt, .ref jk, .ref jv, .ref jr, .int (nI n)])), (jt, .inr (0, [.long x])), (jk, .inl (ck, 43, .inl K)), (jv, .inl (cv, 43, .inl V)), (jr, .inl (cr, 43, .inl R))] s.heap.size = A at hD ⊢
  have hA : ∀ q : Nat, s.heap.size ≤ q → A q := fun q h => by rw [← hAe]; exact Or.inr h
  have hS : va_S A s.heap s.heap [] := va_S.rf
  have hP : va_P (dC, dI) classes [(jh, .inr (1, [.ref jt, .ref jk, .ref jv, .ref jr, .int (nI n)])), (jt, .inr (0, [.long x])), (jk, .inl (ck, 43, .inl K)), (jv, .inl (cv, 43, .inl V)), (jr, .inl (cr, 43, .inl R))] s.heap := hP
  have hl := lv_entry ([.ref jh, .long sd, .int (nI z)]) (n := 5) (Nat.le_of_ble_eq_true rfl)
  rw [lg_entry_eq]
  generalize (lg_sl ([.ref jh, .long sd, .int (nI z)]) ++ List.replicate (5 - (lg_sl ([.ref jh, .long sd, .int (nI z)])).length) Slot.unset).toArray = ls at hl ⊢
  have hl : lv_has ls 5 [(0, .ref jh), (1, .long sd), (3, .int (nI z))] := hl
  refine lv_aload_n hx hb d_H_fill_0 rfl (lv_at hl 0 rfl) ?_
  refine va_get (D := (dC, dI)) (ci := 1) (v := .ref jt) (C := R_H) (T := F_H) (N := 5) hx hb hts (lay_H _) hown hK hP 0 rfl rfl 0 (by decide) (hts _ (List.mem_cons_of_mem _ m_35)) (fun _ h9 => h9) rfl d_H_fill_1 ?_
  refine lv_lload_n hx hb d_H_fill_4 rfl (lv_at hl 1 rfl) ?_
  have hPc := hP.sub (ws' := [(jt, .inr (0, [.long x]))]) [1] rfl
  have hKc := hK.sub (tys' := []) [] rfl
  have hDc := hD.sub (ws' := [(jt, .inr (0, [.long x]))]) [1] (by decide) rfl
  have hFc := va_free (wc := [(jt, .inr (0, [.long x]))]) hD hS hA [1] rfl
  refine va_callv (va_runVN (As := [.long sd]) (rest := []) ⟨hx, hb, hml, hown, hts⟩ (c_T_rewind l dC dI jt x sd _) ⟨va_cnB 1 hts (g_c big_w m_234) rfl rfl rfl (hN _ (by decide +kernel : (Jvm.Cond.methodLinkNest "PortDrawer$Harbour" (32 : Nat) ({ cls := "PortDrawer$Tape", name := "rewind", desc := "(J)V" } : Jvm.MethodName) "PortDrawer") ∈ NWl)) (hts _ (List.mem_cons_of_mem _ m_3)) (by decide +kernel) ⟨Nat.le_of_ble_eq_true rfl, Nat.le_of_ble_eq_true rfl⟩, (hts _ (List.mem_cons_of_mem _ m_233)), (hts _ (List.mem_cons_of_mem _ ms_10))⟩ (wr_V hPc hKc hDc hN (va_recv hKc hPc (ci := 0) (q0 := 0) rfl rfl)) rfl rfl hl.1 rfl (lv_room (Nat.le_of_ble_eq_true rfl)) d_H_fill_5 ⟨Nat.le_of_ble_eq_true rfl, Nat.le_of_ble_eq_true rfl⟩) hS (fun q _ h => hFc q h) hFc (fun u t H1 locs ht hvm hw hB hz1 hk1 hS => ?_)
  obtain ⟨hP1, hK1, hD1⟩ := hB
  rw [ht] at hP1
  obtain ⟨hP, hD⟩ := va_join (wr := [(jh, .inr (1, [.ref jt, .ref jk, .ref jv, .ref jr, .int (nI n)])), (jk, .inl (ck, 43, .inl K)), (jv, .inl (cv, 43, .inl V)), (jr, .inl (cr, 43, .inl R))]) (w1 := [(jt, .inr (0, [.long sd]))]) hP hD [1] [0, 2, 3, 4] rfl rfl (by decide) (by decide) hk1 hFc hP1 hD1
  generalize H1 = H at hP hS ⊢
  have hP : va_P (dC, dI) classes [(jh, .inr (1, [.ref jt, .ref jk, .ref jv, .ref jr, .int (nI n)])), (jk, .inl (ck, 43, .inl K)), (jv, .inl (cv, 43, .inl V)), (jr, .inl (cr, 43, .inl R)), (jt, .inr (0, [.long sd]))] H := hP
  have hD : va_D A [(jh, .inr (1, [.ref jt, .ref jk, .ref jv, .ref jr, .int (nI n)])), (jk, .inl (ck, 43, .inl K)), (jv, .inl (cv, 43, .inl V)), (jr, .inl (cr, 43, .inl R)), (jt, .inr (0, [.long sd]))] := hD
  refine lv_aload_n hx hb d_H_fill_8 rfl (lv_at hl 0 rfl) ?_
  refine lv_iconst (v := nI 0) hx hb d_H_fill_9 (by decide +kernel) ?_
  refine va_put (D := (dC, dI)) (ci := 1) (v := .int (nI 0)) (ty := .int) (C := R_H) (T := F_H) (N := 5) hx hb hts (lay_H _) ft_H tok_H nok_H hown hK hP hD hS 0 rfl rfl 4 (by decide) (hts _ (List.mem_cons_of_mem _ m_42)) (fun _ h9 => h9) rfl (by decide +kernel) rfl rfl (Nat.le_of_ble_eq_true rfl) d_H_fill_10 (fun H locs hP hD hS => ?_)
  have hP : va_P (dC, dI) classes [(jh, .inr (1, [.ref jt, .ref jk, .ref jv, .ref jr, .int (nI 0)])), (jk, .inl (ck, 43, .inl K)), (jv, .inl (cv, 43, .inl V)), (jr, .inl (cr, 43, .inl R)), (jt, .inr (0, [.long sd]))] H := hP
  have hD : va_D A [(jh, .inr (1, [.ref jt, .ref jk, .ref jv, .ref jr, .int (nI 0)])), (jk, .inl (ck, 43, .inl K)), (jv, .inl (cv, 43, .inl V)), (jr, .inl (cr, 43, .inl R)), (jt, .inr (0, [.long sd]))] := hD
  refine lv_aload_n hx hb d_H_fill_13 rfl (lv_at hl 0 rfl) ?_
  refine lv_iconst (v := nI 0) hx hb d_H_fill_14 (by decide +kernel) ?_
  have hPc := hP.sub (ws' := [(jh, .inr (1, [.ref jt, .ref jk, .ref jv, .ref jr, .int (nI 0)])), (jt, .inr (0, [.long sd])), (jk, .inl (ck, 43, .inl K)), (jv, .inl (cv, 43, .inl V)), (jr, .inl (cr, 43, .inl R))]) [0, 4, 1, 2, 3] rfl
  have hKc := hK.sub (tys' := [(ck, .int), (cv, .int), (cr, .int)]) [0, 1, 2] rfl
  have hDc := hD.sub (ws' := [(jh, .inr (1, [.ref jt, .ref jk, .ref jv, .ref jr, .int (nI 0)])), (jt, .inr (0, [.long sd])), (jk, .inl (ck, 43, .inl K)), (jv, .inl (cv, 43, .inl V)), (jr, .inl (cr, 43, .inl R))]) [0, 4, 1, 2, 3] (by decide) rfl
  have hFc := va_free (wc := [(jh, .inr (1, [.ref jt, .ref jk, .ref jv, .ref jr, .int (nI 0)])), (jt, .inr (0, [.long sd])), (jk, .inl (ck, 43, .inl K)), (jv, .inl (cv, 43, .inl V)), (jr, .inl (cr, 43, .inl R))]) hD hS hA [0, 4, 1, 2, 3] rfl
  refine va_callv (va_runV (As := [.int (nI 0)]) (rest := []) ⟨hx, hb, hml, hown, hts⟩ (c_H_addPart l dC dI jh jt jk jv jr 0 ck cv cr sd K V R (nI 0) (by first | assumption | omega) _) (cwV 1 hts (g_V big_w m_235 m_237 ms_11 m_2 m_238) rfl rfl rfl (by decide +kernel) ⟨Nat.le_of_ble_eq_true rfl, Nat.le_of_ble_eq_true rfl⟩) (wr_V hPc hKc hDc hN (va_recv hKc hPc (ci := 1) (q0 := 0) rfl rfl)) rfl rfl hl.1 rfl (lv_room (Nat.le_of_ble_eq_true rfl)) d_H_fill_15 ⟨Nat.le_of_ble_eq_true rfl, Nat.le_of_ble_eq_true rfl⟩) hS (fun q _ h => hFc q h) hFc (fun u t H1 locs ht hvm hw hB hz1 hk1 hS => ?_)
  obtain ⟨hP1, hK1, hD1⟩ := hB
  rw [ht] at hP1
  obtain ⟨hP, hD⟩ := va_join (wr := []) (w1 := [(jh, .inr (1, [.ref jt, .ref jk, .ref jv, .ref jr, .int (nI (0 + 1))])), (jt, .inr (0, [.long ((adS (nI 0) 0 (sd, K, V, R)).1)])), (jk, .inl (ck, 43, .inl ((adS (nI 0) 0 (sd, K, V, R)).2.1))), (jv, .inl (cv, 43, .inl ((adS (nI 0) 0 (sd, K, V, R)).2.2.1))), (jr, .inl (cr, 43, .inl ((adS (nI 0) 0 (sd, K, V, R)).2.2.2)))]) hP hD [0, 4, 1, 2, 3] [] rfl rfl (by decide) (by decide) hk1 hFc hP1 hD1
  generalize H1 = H at hP hS ⊢
  have hP : va_P (dC, dI) classes [(jh, .inr (1, [.ref jt, .ref jk, .ref jv, .ref jr, .int (nI (0 + 1))])), (jt, .inr (0, [.long ((adS (nI 0) 0 (sd, K, V, R)).1)])), (jk, .inl (ck, 43, .inl ((adS (nI 0) 0 (sd, K, V, R)).2.1))), (jv, .inl (cv, 43, .inl ((adS (nI 0) 0 (sd, K, V, R)).2.2.1))), (jr, .inl (cr, 43, .inl ((adS (nI 0) 0 (sd, K, V, R)).2.2.2)))] H := hP
  have hD : va_D A [(jh, .inr (1, [.ref jt, .ref jk, .ref jv, .ref jr, .int (nI (0 + 1))])), (jt, .inr (0, [.long ((adS (nI 0) 0 (sd, K, V, R)).1)])), (jk, .inl (ck, 43, .inl ((adS (nI 0) 0 (sd, K, V, R)).2.1))), (jv, .inl (cv, 43, .inl ((adS (nI 0) 0 (sd, K, V, R)).2.2.1))), (jr, .inl (cr, 43, .inl ((adS (nI 0) 0 (sd, K, V, R)).2.2.2)))] := hD
  refine lv_aload_n hx hb d_H_fill_18 rfl (lv_at hl 0 rfl) ?_
  refine lv_iconst (v := nI 1) hx hb d_H_fill_19 (by decide +kernel) ?_
  have hPc := hP.sub (ws' := [(jh, .inr (1, [.ref jt, .ref jk, .ref jv, .ref jr, .int (nI (0 + 1))])), (jt, .inr (0, [.long ((adS (nI 0) 0 (sd, K, V, R)).1)])), (jk, .inl (ck, 43, .inl ((adS (nI 0) 0 (sd, K, V, R)).2.1))), (jv, .inl (cv, 43, .inl ((adS (nI 0) 0 (sd, K, V, R)).2.2.1))), (jr, .inl (cr, 43, .inl ((adS (nI 0) 0 (sd, K, V, R)).2.2.2)))]) [0, 1, 2, 3, 4] rfl
  have hKc := hK.sub (tys' := [(ck, .int), (cv, .int), (cr, .int)]) [0, 1, 2] rfl
  have hDc := hD.sub (ws' := [(jh, .inr (1, [.ref jt, .ref jk, .ref jv, .ref jr, .int (nI (0 + 1))])), (jt, .inr (0, [.long ((adS (nI 0) 0 (sd, K, V, R)).1)])), (jk, .inl (ck, 43, .inl ((adS (nI 0) 0 (sd, K, V, R)).2.1))), (jv, .inl (cv, 43, .inl ((adS (nI 0) 0 (sd, K, V, R)).2.2.1))), (jr, .inl (cr, 43, .inl ((adS (nI 0) 0 (sd, K, V, R)).2.2.2)))]) [0, 1, 2, 3, 4] (by decide) rfl
  have hFc := va_free (wc := [(jh, .inr (1, [.ref jt, .ref jk, .ref jv, .ref jr, .int (nI (0 + 1))])), (jt, .inr (0, [.long ((adS (nI 0) 0 (sd, K, V, R)).1)])), (jk, .inl (ck, 43, .inl ((adS (nI 0) 0 (sd, K, V, R)).2.1))), (jv, .inl (cv, 43, .inl ((adS (nI 0) 0 (sd, K, V, R)).2.2.1))), (jr, .inl (cr, 43, .inl ((adS (nI 0) 0 (sd, K, V, R)).2.2.2)))]) hD hS hA [0, 1, 2, 3, 4] rfl
  refine va_callv (va_runV (As := [.int (nI 1)]) (rest := []) ⟨hx, hb, hml, hown, hts⟩ (c_H_addPart l dC dI jh jt jk jv jr (0 + 1) ck cv cr ((adS (nI 0) 0 (sd, K, V, R)).1) ((adS (nI 0) 0 (sd, K, V, R)).2.1) ((adS (nI 0) 0 (sd, K, V, R)).2.2.1) ((adS (nI 0) 0 (sd, K, V, R)).2.2.2) (nI 1) (by first | assumption | omega) _) (cwV 1 hts (g_V big_w m_235 m_237 ms_11 m_2 m_238) rfl rfl rfl (by decide +kernel) ⟨Nat.le_of_ble_eq_true rfl, Nat.le_of_ble_eq_true rfl⟩) (wr_V hPc hKc hDc hN (va_recv hKc hPc (ci := 1) (q0 := 0) rfl rfl)) rfl rfl hl.1 rfl (lv_room (Nat.le_of_ble_eq_true rfl)) d_H_fill_20 ⟨Nat.le_of_ble_eq_true rfl, Nat.le_of_ble_eq_true rfl⟩) hS (fun q _ h => hFc q h) hFc (fun u t H1 locs ht hvm hw hB hz1 hk1 hS => ?_)
  obtain ⟨hP1, hK1, hD1⟩ := hB
  rw [ht] at hP1
  obtain ⟨hP, hD⟩ := va_join (wr := []) (w1 := [(jh, .inr (1, [.ref jt, .ref jk, .ref jv, .ref jr, .int (nI ((0 + 1) + 1))])), (jt, .inr (0, [.long ((adS (nI 1) (0 + 1) (((adS (nI 0) 0 (sd, K, V, R)).1), ((adS (nI 0) 0 (sd, K, V, R)).2.1), ((adS (nI 0) 0 (sd, K, V, R)).2.2.1), ((adS (nI 0) 0 (sd, K, V, R)).2.2.2))).1)])), (jk, .inl (ck, 43, .inl ((adS (nI 1) (0 + 1) (((adS (nI 0) 0 (sd, K, V, R)).1), ((adS (nI 0) 0 (sd, K, V, R)).2.1), ((adS (nI 0) 0 (sd, K, V, R)).2.2.1), ((adS (nI 0) 0 (sd, K, V, R)).2.2.2))).2.1))), (jv, .inl (cv, 43, .inl ((adS (nI 1) (0 + 1) (((adS (nI 0) 0 (sd, K, V, R)).1), ((adS (nI 0) 0 (sd, K, V, R)).2.1), ((adS (nI 0) 0 (sd, K, V, R)).2.2.1), ((adS (nI 0) 0 (sd, K, V, R)).2.2.2))).2.2.1))), (jr, .inl (cr, 43, .inl ((adS (nI 1) (0 + 1) (((adS (nI 0) 0 (sd, K, V, R)).1), ((adS (nI 0) 0 (sd, K, V, R)).2.1), ((adS (nI 0) 0 (sd, K, V, R)).2.2.1), ((adS (nI 0) 0 (sd, K, V, R)).2.2.2))).2.2.2)))]) hP hD [0, 1, 2, 3, 4] [] rfl rfl (by decide) (by decide) hk1 hFc hP1 hD1
  generalize H1 = H at hP hS ⊢
  have hP : va_P (dC, dI) classes [(jh, .inr (1, [.ref jt, .ref jk, .ref jv, .ref jr, .int (nI ((0 + 1) + 1))])), (jt, .inr (0, [.long ((adS (nI 1) (0 + 1) (((adS (nI 0) 0 (sd, K, V, R)).1), ((adS (nI 0) 0 (sd, K, V, R)).2.1), ((adS (nI 0) 0 (sd, K, V, R)).2.2.1), ((adS (nI 0) 0 (sd, K, V, R)).2.2.2))).1)])), (jk, .inl (ck, 43, .inl ((adS (nI 1) (0 + 1) (((adS (nI 0) 0 (sd, K, V, R)).1), ((adS (nI 0) 0 (sd, K, V, R)).2.1), ((adS (nI 0) 0 (sd, K, V, R)).2.2.1), ((adS (nI 0) 0 (sd, K, V, R)).2.2.2))).2.1))), (jv, .inl (cv, 43, .inl ((adS (nI 1) (0 + 1) (((adS (nI 0) 0 (sd, K, V, R)).1), ((adS (nI 0) 0 (sd, K, V, R)).2.1), ((adS (nI 0) 0 (sd, K, V, R)).2.2.1), ((adS (nI 0) 0 (sd, K, V, R)).2.2.2))).2.2.1))), (jr, .inl (cr, 43, .inl ((adS (nI 1) (0 + 1) (((adS (nI 0) 0 (sd, K, V, R)).1), ((adS (nI 0) 0 (sd, K, V, R)).2.1), ((adS (nI 0) 0 (sd, K, V, R)).2.2.1), ((adS (nI 0) 0 (sd, K, V, R)).2.2.2))).2.2.2)))] H := hP
  have hD : va_D A [(jh, .inr (1, [.ref jt, .ref jk, .ref jv, .ref jr, .int (nI ((0 + 1) + 1))])), (jt, .inr (0, [.long ((adS (nI 1) (0 + 1) (((adS (nI 0) 0 (sd, K, V, R)).1), ((adS (nI 0) 0 (sd, K, V, R)).2.1), ((adS (nI 0) 0 (sd, K, V, R)).2.2.1), ((adS (nI 0) 0 (sd, K, V, R)).2.2.2))).1)])), (jk, .inl (ck, 43, .inl ((adS (nI 1) (0 + 1) (((adS (nI 0) 0 (sd, K, V, R)).1), ((adS (nI 0) 0 (sd, K, V, R)).2.1), ((adS (nI 0) 0 (sd, K, V, R)).2.2.1), ((adS (nI 0) 0 (sd, K, V, R)).2.2.2))).2.1))), (jv, .inl (cv, 43, .inl ((adS (nI 1) (0 + 1) (((adS (nI 0) 0 (sd, K, V, R)).1), ((adS (nI 0) 0 (sd, K, V, R)).2.1), ((adS (nI 0) 0 (sd, K, V, R)).2.2.1), ((adS (nI 0) 0 (sd, K, V, R)).2.2.2))).2.2.1))), (jr, .inl (cr, 43, .inl ((adS (nI 1) (0 + 1) (((adS (nI 0) 0 (sd, K, V, R)).1), ((adS (nI 0) 0 (sd, K, V, R)).2.1), ((adS (nI 0) 0 (sd, K, V, R)).2.2.1), ((adS (nI 0) 0 (sd, K, V, R)).2.2.2))).2.2.2)))] := hD
  refine lv_aload_n hx hb d_H_fill_23 rfl (lv_at hl 0 rfl) ?_
  refine lv_iconst (v := nI 2) hx hb d_H_fill_24 (by decide +kernel) ?_
  have hPc := hP.sub (ws' := [(jh, .inr (1, [.ref jt, .ref jk, .ref jv, .ref jr, .int (nI ((0 + 1) + 1))])), (jt, .inr (0, [.long ((adS (nI 1) (0 + 1) (((adS (nI 0) 0 (sd, K, V, R)).1), ((adS (nI 0) 0 (sd, K, V, R)).2.1), ((adS (nI 0) 0 (sd, K, V, R)).2.2.1), ((adS (nI 0) 0 (sd, K, V, R)).2.2.2))).1)])), (jk, .inl (ck, 43, .inl ((adS (nI 1) (0 + 1) (((adS (nI 0) 0 (sd, K, V, R)).1), ((adS (nI 0) 0 (sd, K, V, R)).2.1), ((adS (nI 0) 0 (sd, K, V, R)).2.2.1), ((adS (nI 0) 0 (sd, K, V, R)).2.2.2))).2.1))), (jv, .inl (cv, 43, .inl ((adS (nI 1) (0 + 1) (((adS (nI 0) 0 (sd, K, V, R)).1), ((adS (nI 0) 0 (sd, K, V, R)).2.1), ((adS (nI 0) 0 (sd, K, V, R)).2.2.1), ((adS (nI 0) 0 (sd, K, V, R)).2.2.2))).2.2.1))), (jr, .inl (cr, 43, .inl ((adS (nI 1) (0 + 1) (((adS (nI 0) 0 (sd, K, V, R)).1), ((adS (nI 0) 0 (sd, K, V, R)).2.1), ((adS (nI 0) 0 (sd, K, V, R)).2.2.1), ((adS (nI 0) 0 (sd, K, V, R)).2.2.2))).2.2.2)))]) [0, 1, 2, 3, 4] rfl
  have hKc := hK.sub (tys' := [(ck, .int), (cv, .int), (cr, .int)]) [0, 1, 2] rfl
  have hDc := hD.sub (ws' := [(jh, .inr (1, [.ref jt, .ref jk, .ref jv, .ref jr, .int (nI ((0 + 1) + 1))])), (jt, .inr (0, [.long ((adS (nI 1) (0 + 1) (((adS (nI 0) 0 (sd, K, V, R)).1), ((adS (nI 0) 0 (sd, K, V, R)).2.1), ((adS (nI 0) 0 (sd, K, V, R)).2.2.1), ((adS (nI 0) 0 (sd, K, V, R)).2.2.2))).1)])), (jk, .inl (ck, 43, .inl ((adS (nI 1) (0 + 1) (((adS (nI 0) 0 (sd, K, V, R)).1), ((adS (nI 0) 0 (sd, K, V, R)).2.1), ((adS (nI 0) 0 (sd, K, V, R)).2.2.1), ((adS (nI 0) 0 (sd, K, V, R)).2.2.2))).2.1))), (jv, .inl (cv, 43, .inl ((adS (nI 1) (0 + 1) (((adS (nI 0) 0 (sd, K, V, R)).1), ((adS (nI 0) 0 (sd, K, V, R)).2.1), ((adS (nI 0) 0 (sd, K, V, R)).2.2.1), ((adS (nI 0) 0 (sd, K, V, R)).2.2.2))).2.2.1))), (jr, .inl (cr, 43, .inl ((adS (nI 1) (0 + 1) (((adS (nI 0) 0 (sd, K, V, R)).1), ((adS (nI 0) 0 (sd, K, V, R)).2.1), ((adS (nI 0) 0 (sd, K, V, R)).2.2.1), ((adS (nI 0) 0 (sd, K, V, R)).2.2.2))).2.2.2)))]) [0, 1, 2, 3, 4] (by decide) rfl
  have hFc := va_free (wc := [(jh, .inr (1, [.ref jt, .ref jk, .ref jv, .ref jr, .int (nI ((0 + 1) + 1))])), (jt, .inr (0, [.long ((adS (nI 1) (0 + 1) (((adS (nI 0) 0 (sd, K, V, R)).1), ((adS (nI 0) 0 (sd, K, V, R)).2.1), ((adS (nI 0) 0 (sd, K, V, R)).2.2.1), ((adS (nI 0) 0 (sd, K, V, R)).2.2.2))).1)])), (jk, .inl (ck, 43, .inl ((adS (nI 1) (0 + 1) (((adS (nI 0) 0 (sd, K, V, R)).1), ((adS (nI 0) 0 (sd, K, V, R)).2.1), ((adS (nI 0) 0 (sd, K, V, R)).2.2.1), ((adS (nI 0) 0 (sd, K, V, R)).2.2.2))).2.1))), (jv, .inl (cv, 43, .inl ((adS (nI 1) (0 + 1) (((adS (nI 0) 0 (sd, K, V, R)).1), ((adS (nI 0) 0 (sd, K, V, R)).2.1), ((adS (nI 0) 0 (sd, K, V, R)).2.2.1), ((adS (nI 0) 0 (sd, K, V, R)).2.2.2))).2.2.1))), (jr, .inl (cr, 43, .inl ((adS (nI 1) (0 + 1) (((adS (nI 0) 0 (sd, K, V, R)).1), ((adS (nI 0) 0 (sd, K, V, R)).2.1), ((adS (nI 0) 0 (sd, K, V, R)).2.2.1), ((adS (nI 0) 0 (sd, K, V, R)).2.2.2))).2.2.2)))]) hD hS hA [0, 1, 2, 3, 4] rfl
  refine va_callv (va_runV (As := [.int (nI 2)]) (rest := []) ⟨hx, hb, hml, hown, hts⟩ (c_H_addPart l dC dI jh jt jk jv jr ((0 + 1) + 1) ck cv cr ((adS (nI 1) (0 + 1) (((adS (nI 0) 0 (sd, K, V, R)).1), ((adS (nI 0) 0 (sd, K, V, R)).2.1), ((adS (nI 0) 0 (sd, K, V, R)).2.2.1), ((adS (nI 0) 0 (sd, K, V, R)).2.2.2))).1) ((adS (nI 1) (0 + 1) (((adS (nI 0) 0 (sd, K, V, R)).1), ((adS (nI 0) 0 (sd, K, V, R)).2.1), ((adS (nI 0) 0 (sd, K, V, R)).2.2.1), ((adS (nI 0) 0 (sd, K, V, R)).2.2.2))).2.1) ((adS (nI 1) (0 + 1) (((adS (nI 0) 0 (sd, K, V, R)).1), ((adS (nI 0) 0 (sd, K, V, R)).2.1), ((adS (nI 0) 0 (sd, K, V, R)).2.2.1), ((adS (nI 0) 0 (sd, K, V, R)).2.2.2))).2.2.1) ((adS (nI 1) (0 + 1) (((adS (nI 0) 0 (sd, K, V, R)).1), ((adS (nI 0) 0 (sd, K, V, R)).2.1), ((adS (nI 0) 0 (sd, K, V, R)).2.2.1), ((adS (nI 0) 0 (sd, K, V, R)).2.2.2))).2.2.2) (nI 2) (by first | assumption | omega) _) (cwV 1 hts (g_V big_w m_235 m_237 ms_11 m_2 m_238) rfl rfl rfl (by decide +kernel) ⟨Nat.le_of_ble_eq_true rfl, Nat.le_of_ble_eq_true rfl⟩) (wr_V hPc hKc hDc hN (va_recv hKc hPc (ci := 1) (q0 := 0) rfl rfl)) rfl rfl hl.1 rfl (lv_room (Nat.le_of_ble_eq_true rfl)) d_H_fill_25 ⟨Nat.le_of_ble_eq_true rfl, Nat.le_of_ble_eq_true rfl⟩) hS (fun q _ h => hFc q h) hFc (fun u t H1 locs ht hvm hw hB hz1 hk1 hS => ?_)
  obtain ⟨hP1, hK1, hD1⟩ := hB
  rw [ht] at hP1
  obtain ⟨hP, hD⟩ := va_join (wr := []) (w1 := [(jh, .inr (1, [.ref jt, .ref jk, .ref jv, .ref jr, .int (nI (((0 + 1) + 1) + 1))])), (jt, .inr (0, [.long ((adS (nI 2) ((0 + 1) + 1) (((adS (nI 1) (0 + 1) (((adS (nI 0) 0 (sd, K, V, R)).1), ((adS (nI 0) 0 (sd, K, V, R)).2.1), ((adS (nI 0) 0 (sd, K, V, R)).2.2.1), ((adS (nI 0) 0 (sd, K, V, R)).2.2.2))).1), ((adS (nI 1) (0 + 1) (((adS (nI 0) 0 (sd, K, V, R)).1), ((adS (nI 0) 0 (sd, K, V, R)).2.1), ((adS (nI 0) 0 (sd, K, V, R)).2.2.1), ((adS (nI 0) 0 (sd, K, V, R)).2.2.2))).2.1), ((adS (nI 1) (0 + 1) (((adS (nI 0) 0 (sd, K, V, R)).1), ((adS (nI 0) 0 (sd, K, V, R)).2.1), ((adS (nI 0) 0 (sd, K, V, R)).2.2.1), ((adS (nI 0) 0 (sd, K, V, R)).2.2.2))).2.2.1), ((adS (nI 1) (0 + 1) (((adS (nI 0) 0 (sd, K, V, R)).1), ((adS (nI 0) 0 (sd, K, V, R)).2.1), ((adS (nI 0) 0 (sd, K, V, R)).2.2.1), ((adS (nI 0) 0 (sd, K, V, R)).2.2.2))).2.2.2))).1)])), (jk, .inl (ck, 43, .inl ((adS (nI 2) ((0 + 1) + 1) (((adS (nI 1) (0 + 1) (((adS (nI 0) 0 (sd, K, V, R)).1), ((adS (nI 0) 0 (sd, K, V, R)).2.1), ((adS (nI 0) 0 (sd, K, V, R)).2.2.1), ((adS (nI 0) 0 (sd, K, V, R)).2.2.2))).1), ((adS (nI 1) (0 + 1) (((adS (nI 0) 0 (sd, K, V, R)).1), ((adS (nI 0) 0 (sd, K, V, R)).2.1), ((adS (nI 0) 0 (sd, K, V, R)).2.2.1), ((adS (nI 0) 0 (sd, K, V, R)).2.2.2))).2.1), ((adS (nI 1) (0 + 1) (((adS (nI 0) 0 (sd, K, V, R)).1), ((adS (nI 0) 0 (sd, K, V, R)).2.1), ((adS (nI 0) 0 (sd, K, V, R)).2.2.1), ((adS (nI 0) 0 (sd, K, V, R)).2.2.2))).2.2.1), ((adS (nI 1) (0 + 1) (((adS (nI 0) 0 (sd, K, V, R)).1), ((adS (nI 0) 0 (sd, K, V, R)).2.1), ((adS (nI 0) 0 (sd, K, V, R)).2.2.1), ((adS (nI 0) 0 (sd, K, V, R)).2.2.2))).2.2.2))).2.1))), (jv, .inl (cv, 43, .inl ((adS (nI 2) ((0 + 1) + 1) (((adS (nI 1) (0 + 1) (((adS (nI 0) 0 (sd, K, V, R)).1), ((adS (nI 0) 0 (sd, K, V, R)).2.1), ((adS (nI 0) 0 (sd, K, V, R)).2.2.1), ((adS (nI 0) 0 (sd, K, V, R)).2.2.2))).1), ((adS (nI 1) (0 + 1) (((adS (nI 0) 0 (sd, K, V, R)).1), ((adS (nI 0) 0 (sd, K, V, R)).2.1), ((adS (nI 0) 0 (sd, K, V, R)).2.2.1), ((adS (nI 0) 0 (sd, K, V, R)).2.2.2))).2.1), ((adS (nI 1) (0 + 1) (((adS (nI 0) 0 (sd, K, V, R)).1), ((adS (nI 0) 0 (sd, K, V, R)).2.1), ((adS (nI 0) 0 (sd, K, V, R)).2.2.1), ((adS (nI 0) 0 (sd, K, V, R)).2.2.2))).2.2.1), ((adS (nI 1) (0 + 1) (((adS (nI 0) 0 (sd, K, V, R)).1), ((adS (nI 0) 0 (sd, K, V, R)).2.1), ((adS (nI 0) 0 (sd, K, V, R)).2.2.1), ((adS (nI 0) 0 (sd, K, V, R)).2.2.2))).2.2.2))).2.2.1))), (jr, .inl (cr, 43, .inl ((adS (nI 2) ((0 + 1) + 1) (((adS (nI 1) (0 + 1) (((adS (nI 0) 0 (sd, K, V, R)).1), ((adS (nI 0) 0 (sd, K, V, R)).2.1), ((adS (nI 0) 0 (sd, K, V, R)).2.2.1), ((adS (nI 0) 0 (sd, K, V, R)).2.2.2))).1), ((adS (nI 1) (0 + 1) (((adS (nI 0) 0 (sd, K, V, R)).1), ((adS (nI 0) 0 (sd, K, V, R)).2.1), ((adS (nI 0) 0 (sd, K, V, R)).2.2.1), ((adS (nI 0) 0 (sd, K, V, R)).2.2.2))).2.1), ((adS (nI 1) (0 + 1) (((adS (nI 0) 0 (sd, K, V, R)).1), ((adS (nI 0) 0 (sd, K, V, R)).2.1), ((adS (nI 0) 0 (sd, K, V, R)).2.2.1), ((adS (nI 0) 0 (sd, K, V, R)).2.2.2))).2.2.1), ((adS (nI 1) (0 + 1) (((adS (nI 0) 0 (sd, K, V, R)).1), ((adS (nI 0) 0 (sd, K, V, R)).2.1), ((adS (nI 0) 0 (sd, K, V, R)).2.2.1), ((adS (nI 0) 0 (sd, K, V, R)).2.2.2))).2.2.2))).2.2.2)))]) hP hD [0, 1, 2, 3, 4] [] rfl rfl (by decide) (by decide) hk1 hFc hP1 hD1
  generalize H1 = H at hP hS ⊢
  have hP : va_P (dC, dI) classes [(jh, .inr (1, [.ref jt, .ref jk, .ref jv, .ref jr, .int (nI (((0 + 1) + 1) + 1))])), (jt, .inr (0, [.long ((adS (nI 2) ((0 + 1) + 1) (((adS (nI 1) (0 + 1) (((adS (nI 0) 0 (sd, K, V, R)).1), ((adS (nI 0) 0 (sd, K, V, R)).2.1), ((adS (nI 0) 0 (sd, K, V, R)).2.2.1), ((adS (nI 0) 0 (sd, K, V, R)).2.2.2))).1), ((adS (nI 1) (0 + 1) (((adS (nI 0) 0 (sd, K, V, R)).1), ((adS (nI 0) 0 (sd, K, V, R)).2.1), ((adS (nI 0) 0 (sd, K, V, R)).2.2.1), ((adS (nI 0) 0 (sd, K, V, R)).2.2.2))).2.1), ((adS (nI 1) (0 + 1) (((adS (nI 0) 0 (sd, K, V, R)).1), ((adS (nI 0) 0 (sd, K, V, R)).2.1), ((adS (nI 0) 0 (sd, K, V, R)).2.2.1), ((adS (nI 0) 0 (sd, K, V, R)).2.2.2))).2.2.1), ((adS (nI 1) (0 + 1) (((adS (nI 0) 0 (sd, K, V, R)).1), ((adS (nI 0) 0 (sd, K, V, R)).2.1), ((adS (nI 0) 0 (sd, K, V, R)).2.2.1), ((adS (nI 0) 0 (sd, K, V, R)).2.2.2))).2.2.2))).1)])), (jk, .inl (ck, 43, .inl ((adS (nI 2) ((0 + 1) + 1) (((adS (nI 1) (0 + 1) (((adS (nI 0) 0 (sd, K, V, R)).1), ((adS (nI 0) 0 (sd, K, V, R)).2.1), ((adS (nI 0) 0 (sd, K, V, R)).2.2.1), ((adS (nI 0) 0 (sd, K, V, R)).2.2.2))).1), ((adS (nI 1) (0 + 1) (((adS (nI 0) 0 (sd, K, V, R)).1), ((adS (nI 0) 0 (sd, K, V, R)).2.1), ((adS (nI 0) 0 (sd, K, V, R)).2.2.1), ((adS (nI 0) 0 (sd, K, V, R)).2.2.2))).2.1), ((adS (nI 1) (0 + 1) (((adS (nI 0) 0 (sd, K, V, R)).1), ((adS (nI 0) 0 (sd, K, V, R)).2.1), ((adS (nI 0) 0 (sd, K, V, R)).2.2.1), ((adS (nI 0) 0 (sd, K, V, R)).2.2.2))).2.2.1), ((adS (nI 1) (0 + 1) (((adS (nI 0) 0 (sd, K, V, R)).1), ((adS (nI 0) 0 (sd, K, V, R)).2.1), ((adS (nI 0) 0 (sd, K, V, R)).2.2.1), ((adS (nI 0) 0 (sd, K, V, R)).2.2.2))).2.2.2))).2.1))), (jv, .inl (cv, 43, .inl ((adS (nI 2) ((0 + 1) + 1) (((adS (nI 1) (0 + 1) (((adS (nI 0) 0 (sd, K, V, R)).1), ((adS (nI 0) 0 (sd, K, V, R)).2.1), ((adS (nI 0) 0 (sd, K, V, R)).2.2.1), ((adS (nI 0) 0 (sd, K, V, R)).2.2.2))).1), ((adS (nI 1) (0 + 1) (((adS (nI 0) 0 (sd, K, V, R)).1), ((adS (nI 0) 0 (sd, K, V, R)).2.1), ((adS (nI 0) 0 (sd, K, V, R)).2.2.1), ((adS (nI 0) 0 (sd, K, V, R)).2.2.2))).2.1), ((adS (nI 1) (0 + 1) (((adS (nI 0) 0 (sd, K, V, R)).1), ((adS (nI 0) 0 (sd, K, V, R)).2.1), ((adS (nI 0) 0 (sd, K, V, R)).2.2.1), ((adS (nI 0) 0 (sd, K, V, R)).2.2.2))).2.2.1), ((adS (nI 1) (0 + 1) (((adS (nI 0) 0 (sd, K, V, R)).1), ((adS (nI 0) 0 (sd, K, V, R)).2.1), ((adS (nI 0) 0 (sd, K, V, R)).2.2.1), ((adS (nI 0) 0 (sd, K, V, R)).2.2.2))).2.2.2))).2.2.1))), (jr, .inl (cr, 43, .inl ((adS (nI 2) ((0 + 1) + 1) (((adS (nI 1) (0 + 1) (((adS (nI 0) 0 (sd, K, V, R)).1), ((adS (nI 0) 0 (sd, K, V, R)).2.1), ((adS (nI 0) 0 (sd, K, V, R)).2.2.1), ((adS (nI 0) 0 (sd, K, V, R)).2.2.2))).1), ((adS (nI 1) (0 + 1) (((adS (nI 0) 0 (sd, K, V, R)).1), ((adS (nI 0) 0 (sd, K, V, R)).2.1), ((adS (nI 0) 0 (sd, K, V, R)).2.2.1), ((adS (nI 0) 0 (sd, K, V, R)).2.2.2))).2.1), ((adS (nI 1) (0 + 1) (((adS (nI 0) 0 (sd, K, V, R)).1), ((adS (nI 0) 0 (sd, K, V, R)).2.1), ((adS (nI 0) 0 (sd, K, V, R)).2.2.1), ((adS (nI 0) 0 (sd, K, V, R)).2.2.2))).2.2.1), ((adS (nI 1) (0 + 1) (((adS (nI 0) 0 (sd, K, V, R)).1), ((adS (nI 0) 0 (sd, K, V, R)).2.1), ((adS (nI 0) 0 (sd, K, V, R)).2.2.1), ((adS (nI 0) 0 (sd, K, V, R)).2.2.2))).2.2.2))).2.2.2)))] H := hP
  have hD : va_D A [(jh, .inr (1, [.ref jt, .ref jk, .ref jv, .ref jr, .int (nI (((0 + 1) + 1) + 1))])), (jt, .inr (0, [.long ((adS (nI 2) ((0 + 1) + 1) (((adS (nI 1) (0 + 1) (((adS (nI 0) 0 (sd, K, V, R)).1), ((adS (nI 0) 0 (sd, K, V, R)).2.1), ((adS (nI 0) 0 (sd, K, V, R)).2.2.1), ((adS (nI 0) 0 (sd, K, V, R)).2.2.2))).1), ((adS (nI 1) (0 + 1) (((adS (nI 0) 0 (sd, K, V, R)).1), ((adS (nI 0) 0 (sd, K, V, R)).2.1), ((adS (nI 0) 0 (sd, K, V, R)).2.2.1), ((adS (nI 0) 0 (sd, K, V, R)).2.2.2))).2.1), ((adS (nI 1) (0 + 1) (((adS (nI 0) 0 (sd, K, V, R)).1), ((adS (nI 0) 0 (sd, K, V, R)).2.1), ((adS (nI 0) 0 (sd, K, V, R)).2.2.1), ((adS (nI 0) 0 (sd, K, V, R)).2.2.2))).2.2.1), ((adS (nI 1) (0 + 1) (((adS (nI 0) 0 (sd, K, V, R)).1), ((adS (nI 0) 0 (sd, K, V, R)).2.1), ((adS (nI 0) 0 (sd, K, V, R)).2.2.1), ((adS (nI 0) 0 (sd, K, V, R)).2.2.2))).2.2.2))).1)])), (jk, .inl (ck, 43, .inl ((adS (nI 2) ((0 + 1) + 1) (((adS (nI 1) (0 + 1) (((adS (nI 0) 0 (sd, K, V, R)).1), ((adS (nI 0) 0 (sd, K, V, R)).2.1), ((adS (nI 0) 0 (sd, K, V, R)).2.2.1), ((adS (nI 0) 0 (sd, K, V, R)).2.2.2))).1), ((adS (nI 1) (0 + 1) (((adS (nI 0) 0 (sd, K, V, R)).1), ((adS (nI 0) 0 (sd, K, V, R)).2.1), ((adS (nI 0) 0 (sd, K, V, R)).2.2.1), ((adS (nI 0) 0 (sd, K, V, R)).2.2.2))).2.1), ((adS (nI 1) (0 + 1) (((adS (nI 0) 0 (sd, K, V, R)).1), ((adS (nI 0) 0 (sd, K, V, R)).2.1), ((adS (nI 0) 0 (sd, K, V, R)).2.2.1), ((adS (nI 0) 0 (sd, K, V, R)).2.2.2))).2.2.1), ((adS (nI 1) (0 + 1) (((adS (nI 0) 0 (sd, K, V, R)).1), ((adS (nI 0) 0 (sd, K, V, R)).2.1), ((adS (nI 0) 0 (sd, K, V, R)).2.2.1), ((adS (nI 0) 0 (sd, K, V, R)).2.2.2))).2.2.2))).2.1))), (jv, .inl (cv, 43, .inl ((adS (nI 2) ((0 + 1) + 1) (((adS (nI 1) (0 + 1) (((adS (nI 0) 0 (sd, K, V, R)).1), ((adS (nI 0) 0 (sd, K, V, R)).2.1), ((adS (nI 0) 0 (sd, K, V, R)).2.2.1), ((adS (nI 0) 0 (sd, K, V, R)).2.2.2))).1), ((adS (nI 1) (0 + 1) (((adS (nI 0) 0 (sd, K, V, R)).1), ((adS (nI 0) 0 (sd, K, V, R)).2.1), ((adS (nI 0) 0 (sd, K, V, R)).2.2.1), ((adS (nI 0) 0 (sd, K, V, R)).2.2.2))).2.1), ((adS (nI 1) (0 + 1) (((adS (nI 0) 0 (sd, K, V, R)).1), ((adS (nI 0) 0 (sd, K, V, R)).2.1), ((adS (nI 0) 0 (sd, K, V, R)).2.2.1), ((adS (nI 0) 0 (sd, K, V, R)).2.2.2))).2.2.1), ((adS (nI 1) (0 + 1) (((adS (nI 0) 0 (sd, K, V, R)).1), ((adS (nI 0) 0 (sd, K, V, R)).2.1), ((adS (nI 0) 0 (sd, K, V, R)).2.2.1), ((adS (nI 0) 0 (sd, K, V, R)).2.2.2))).2.2.2))).2.2.1))), (jr, .inl (cr, 43, .inl ((adS (nI 2) ((0 + 1) + 1) (((adS (nI 1) (0 + 1) (((adS (nI 0) 0 (sd, K, V, R)).1), ((adS (nI 0) 0 (sd, K, V, R)).2.1), ((adS (nI 0) 0 (sd, K, V, R)).2.2.1), ((adS (nI 0) 0 (sd, K, V, R)).2.2.2))).1), ((adS (nI 1) (0 + 1) (((adS (nI 0) 0 (sd, K, V, R)).1), ((adS (nI 0) 0 (sd, K, V, R)).2.1), ((adS (nI 0) 0 (sd, K, V, R)).2.2.1), ((adS (nI 0) 0 (sd, K, V, R)).2.2.2))).2.1), ((adS (nI 1) (0 + 1) (((adS (nI 0) 0 (sd, K, V, R)).1), ((adS (nI 0) 0 (sd, K, V, R)).2.1), ((adS (nI 0) 0 (sd, K, V, R)).2.2.1), ((adS (nI 0) 0 (sd, K, V, R)).2.2.2))).2.2.1), ((adS (nI 1) (0 + 1) (((adS (nI 0) 0 (sd, K, V, R)).1), ((adS (nI 0) 0 (sd, K, V, R)).2.1), ((adS (nI 0) 0 (sd, K, V, R)).2.2.1), ((adS (nI 0) 0 (sd, K, V, R)).2.2.2))).2.2.2))).2.2.2)))] := hD
  refine lv_iconst (v := nI 0) hx hb d_H_fill_28 (by decide +kernel) ?_
  refine lv_istore (lv' := [(4, .int (nI 0)), (0, .ref jh), (1, .long sd), (3, .int (nI z))]) hx hb d_H_fill_29 hl (by decide) rfl (fun ls hl => ?_)
  have lp_31 : ∀ (k9_31 : Nat), ∀ (j : Nat), z - j < k9_31 → (j ≤ z) → ∀ (H : Heap) (locs : List Loc), va_P (dC, dI) classes [(jh, .inr (1, [.ref jt, .ref jk, .ref jv, .ref jr, .int (nI (j + 3))])), (jt, .inr (0, [.long ((flL (fl3 (sd, K, V, R)) j).1)])), (jk, .inl (ck, 43, .inl ((flL (fl3 (sd, K, V, R)) j).2.1))), (jv, .inl (cv, 43, .inl ((flL (fl3 (sd, K, V, R)) j).2.2.1))), (jr, .inl (cr, 43, .inl ((flL (fl3 (sd, K, V, R)) j).2.2.2)))] H → va_D A [(jh, .inr (1, [.ref jt, .ref jk, .ref jv, .ref jr, .int (nI (j + 3))])), (jt, .inr (0, [.long ((flL (fl3 (sd, K, V, R)) j).1)])), (jk, .inl (ck, 43, .inl ((flL (fl3 (sd, K, V, R)) j).2.1))), (jv, .inl (cv, 43, .inl ((flL (fl3 (sd, K, V, R)) j).2.2.1))), (jr, .inl (cr, 43, .inl ((flL (fl3 (sd, K, V, R)) j).2.2.2)))] → va_S A s.heap H locs → ∀ (ls : Array Slot), lv_has ls 5 [(0, .ref jh), (1, .long sd), (3, .int (nI z)), (4, .int (nI j))] → W p l e (headSpec w_H_fill ({ frames := 4, cells := 0, slots := 0, locals := 89 })).room s m ([.ref jh, .long sd, .int (nI z)]).toArray below meth c H locs 0 0 (MQ below (va_Qv (fun (_ : Unit) => True) (fun (u : Unit) => wr_B dC dI (A) [(jh, .inr (1, [.ref jt, .ref jk, .ref jv, .ref jr, .int (nI (z + 3))])), (jt, .inr (0, [.long ((flS sd K V R z).1)])), (jk, .inl (ck, 43, .inl ((flS sd K V R z).2.1))), (jv, .inl (cv, 43, .inl ((flS sd K V R z).2.2.1))), (jr, .inl (cr, 43, .inl ((flS sd K V R z).2.2.2)))] [(ck, .int), (cv, .int), (cr, .int)]) (A)) ([.ref jh, .long sd, .int (nI z)]).toArray s 0 0 A) (F0 m 31 ls []) := by
    intro k9_31
    induction k9_31 with
    | zero =>
      intro j hk9
      exact absurd hk9 (Nat.not_lt_zero _)
    | succ k9_31 ih_31 =>
      intro j hk9_31 hj H locs hP hD hS ls hl
      refine lv_iload hx hb d_H_fill_31 (lv_at hl 3 rfl) ?_
      refine lv_iload_n hx hb d_H_fill_33 rfl (lv_at hl 2 rfl) ?_
      refine lv_icmp_ge (tgt := 56) hx hb d_H_fill_34 (by decide) (fun c_34 => ?_) (fun c_34 => ?_)
      · skip
        have c_34 := (nI_leI (by omega) (by omega)).mp c_34
        rw [show j = z by omega] at hP hD
        have hP9 := hP.sub (ws' := [(jh, .inr (1, [.ref jt, .ref jk, .ref jv, .ref jr, .int (nI (z + 3))])), (jt, .inr (0, [.long ((flS sd K V R z).1)])), (jk, .inl (ck, 43, .inl ((flS sd K V R z).2.1))), (jv, .inl (cv, 43, .inl ((flS sd K V R z).2.2.1))), (jr, .inl (cr, 43, .inl ((flS sd K V R z).2.2.2)))]) [0, 1, 2, 3, 4] rfl
        have hD9 := hD.sub (ws' := [(jh, .inr (1, [.ref jt, .ref jk, .ref jv, .ref jr, .int (nI (z + 3))])), (jt, .inr (0, [.long ((flS sd K V R z).1)])), (jk, .inl (ck, 43, .inl ((flS sd K V R z).2.1))), (jv, .inl (cv, 43, .inl ((flS sd K V R z).2.2.1))), (jr, .inl (cr, 43, .inl ((flS sd K V R z).2.2.2)))]) [0, 1, 2, 3, 4] (by decide) rfl
        have hK9 := hK.sub (tys' := [(ck, .int), (cv, .int), (cr, .int)]) [0, 1, 2] rfl
        exact W.vret hx hb hr (fun t ht hW => ⟨⟨(), rfl, trivial, by rw [ht]; exact hP9, va_K.moved hW.alike hK9, hD9⟩, hS.F ht⟩) hS.2.2 d_H_fill_56
      · skip
        have c_34 := (not_congr (nI_leI (by omega) (by omega))).mp c_34
        refine lv_aload_n hx hb d_H_fill_37 rfl (lv_at hl 0 rfl) ?_
        refine lv_aload_n hx hb d_H_fill_38 rfl (lv_at hl 0 rfl) ?_
        refine va_get (D := (dC, dI)) (ci := 1) (v := .ref jt) (C := R_H) (T := F_H) (N := 5) hx hb hts (lay_H _) hown hK hP 0 rfl rfl 0 (by decide) (hts _ (List.mem_cons_of_mem _ m_35)) (fun _ h9 => h9) rfl d_H_fill_39 ?_
        refine lv_bipush (v := nI 7) hx hb d_H_fill_42 (by decide +kernel) ?_
        have hPc := hP.sub (ws' := [(jt, .inr (0, [.long ((flL (fl3 (sd, K, V, R)) j).1)]))]) [1] rfl
        have hKc := hK.sub (tys' := []) [] rfl
        have hDc := hD.sub (ws' := [(jt, .inr (0, [.long ((flL (fl3 (sd, K, V, R)) j).1)]))]) [1] (by decide) rfl
        have hFc := va_free (wc := [(jt, .inr (0, [.long ((flL (fl3 (sd, K, V, R)) j).1)]))]) hD hS hA [1] rfl
        refine va_calli (va_runVN (As := [.int (nI 7)]) (rest := [.ref jh]) ⟨hx, hb, hml, hown, hts⟩ (c_T_numberBelow l dC dI jt ((flL (fl3 (sd, K, V, R)) j).1) 7 (by first | assumption | omega) _) ⟨va_cnB 1 hts (g_c big_w m_242) rfl rfl rfl (hN _ (by decide +kernel : (Jvm.Cond.methodLinkNest "PortDrawer$Harbour" (40 : Nat) ({ cls := "PortDrawer$Tape", name := "numberBelow", desc := "(I)I" } : Jvm.MethodName) "PortDrawer") ∈ NWl)) (hts _ (List.mem_cons_of_mem _ m_3)) (by decide +kernel) ⟨Nat.le_of_ble_eq_true rfl, Nat.le_of_ble_eq_true rfl⟩, (hts _ (List.mem_cons_of_mem _ m_241)), (hts _ (List.mem_cons_of_mem _ ms_12))⟩ (wr_V hPc hKc hDc hN (va_recv hKc hPc (ci := 0) (q0 := 0) rfl rfl)) rfl rfl hl.1 rfl (lv_room (Nat.le_of_ble_eq_true rfl)) d_H_fill_44 ⟨Nat.le_of_ble_eq_true rfl, Nat.le_of_ble_eq_true rfl⟩) hS (fun q _ h => hFc q h) hFc (fun r_5 u t H1 locs ht hvm hw hB hz1 hk1 hS => ?_)
        obtain ⟨hP1, hK1, hD1⟩ := hB
        rw [ht] at hP1
        obtain ⟨hP, hD⟩ := va_join (wr := [(jh, .inr (1, [.ref jt, .ref jk, .ref jv, .ref jr, .int (nI (j + 3))])), (jk, .inl (ck, 43, .inl ((flL (fl3 (sd, K, V, R)) j).2.1))), (jv, .inl (cv, 43, .inl ((flL (fl3 (sd, K, V, R)) j).2.2.1))), (jr, .inl (cr, 43, .inl ((flL (fl3 (sd, K, V, R)) j).2.2.2)))]) (w1 := [(jt, .inr (0, [.long (nbX ((flL (fl3 (sd, K, V, R)) j).1) 7)]))]) hP hD [1] [0, 2, 3, 4] rfl rfl (by decide) (by decide) hk1 hFc hP1 hD1
        generalize H1 = H at hP hS ⊢
        have hP : va_P (dC, dI) classes [(jh, .inr (1, [.ref jt, .ref jk, .ref jv, .ref jr, .int (nI (j + 3))])), (jk, .inl (ck, 43, .inl ((flL (fl3 (sd, K, V, R)) j).2.1))), (jv, .inl (cv, 43, .inl ((flL (fl3 (sd, K, V, R)) j).2.2.1))), (jr, .inl (cr, 43, .inl ((flL (fl3 (sd, K, V, R)) j).2.2.2))), (jt, .inr (0, [.long (nbX ((flL (fl3 (sd, K, V, R)) j).1) 7)]))] H := hP
        have hD : va_D A [(jh, .inr (1, [.ref jt, .ref jk, .ref jv, .ref jr, .int (nI (j + 3))])), (jk, .inl (ck, 43, .inl ((flL (fl3 (sd, K, V, R)) j).2.1))), (jv, .inl (cv, 43, .inl ((flL (fl3 (sd, K, V, R)) j).2.2.1))), (jr, .inl (cr, 43, .inl ((flL (fl3 (sd, K, V, R)) j).2.2.2))), (jt, .inr (0, [.long (nbX ((flL (fl3 (sd, K, V, R)) j).1) 7)]))] := hD
        subst hw
        have hPc := hP.sub (ws' := [(jh, .inr (1, [.ref jt, .ref jk, .ref jv, .ref jr, .int (nI (j + 3))])), (jt, .inr (0, [.long (nbX ((flL (fl3 (sd, K, V, R)) j).1) 7)])), (jk, .inl (ck, 43, .inl ((flL (fl3 (sd, K, V, R)) j).2.1))), (jv, .inl (cv, 43, .inl ((flL (fl3 (sd, K, V, R)) j).2.2.1))), (jr, .inl (cr, 43, .inl ((flL (fl3 (sd, K, V, R)) j).2.2.2)))]) [0, 4, 1, 2, 3] rfl
        have hKc := hK.sub (tys' := [(ck, .int), (cv, .int), (cr, .int)]) [0, 1, 2] rfl
        have hDc := hD.sub (ws' := [(jh, .inr (1, [.ref jt, .ref jk, .ref jv, .ref jr, .int (nI (j + 3))])), (jt, .inr (0, [.long (nbX ((flL (fl3 (sd, K, V, R)) j).1) 7)])), (jk, .inl (ck, 43, .inl ((flL (fl3 (sd, K, V, R)) j).2.1))), (jv, .inl (cv, 43, .inl ((flL (fl3 (sd, K, V, R)) j).2.2.1))), (jr, .inl (cr, 43, .inl ((flL (fl3 (sd, K, V, R)) j).2.2.2)))]) [0, 4, 1, 2, 3] (by decide) rfl
        have hFc := va_free (wc := [(jh, .inr (1, [.ref jt, .ref jk, .ref jv, .ref jr, .int (nI (j + 3))])), (jt, .inr (0, [.long (nbX ((flL (fl3 (sd, K, V, R)) j).1) 7)])), (jk, .inl (ck, 43, .inl ((flL (fl3 (sd, K, V, R)) j).2.1))), (jv, .inl (cv, 43, .inl ((flL (fl3 (sd, K, V, R)) j).2.2.1))), (jr, .inl (cr, 43, .inl ((flL (fl3 (sd, K, V, R)) j).2.2.2)))]) hD hS hA [0, 4, 1, 2, 3] rfl
        refine va_callv (va_runV (As := [.int (nbI ((flL (fl3 (sd, K, V, R)) j).1) 7)]) (rest := []) ⟨hx, hb, hml, hown, hts⟩ (c_H_addPart l dC dI jh jt jk jv jr (j + 3) ck cv cr (nbX ((flL (fl3 (sd, K, V, R)) j).1) 7) ((flL (fl3 (sd, K, V, R)) j).2.1) ((flL (fl3 (sd, K, V, R)) j).2.2.1) ((flL (fl3 (sd, K, V, R)) j).2.2.2) (nbI ((flL (fl3 (sd, K, V, R)) j).1) 7) (by first | assumption | omega) _) (cwV 1 hts (g_V big_w m_235 m_237 ms_11 m_2 m_238) rfl rfl rfl (by decide +kernel) ⟨Nat.le_of_ble_eq_true rfl, Nat.le_of_ble_eq_true rfl⟩) (wr_V hPc hKc hDc hN (va_recv hKc hPc (ci := 1) (q0 := 0) rfl rfl)) rfl rfl hl.1 rfl (lv_room (Nat.le_of_ble_eq_true rfl)) d_H_fill_47 ⟨Nat.le_of_ble_eq_true rfl, Nat.le_of_ble_eq_true rfl⟩) hS (fun q _ h => hFc q h) hFc (fun u t H1 locs ht hvm hw hB hz1 hk1 hS => ?_)
        obtain ⟨hP1, hK1, hD1⟩ := hB
        rw [ht] at hP1
        obtain ⟨hP, hD⟩ := va_join (wr := []) (w1 := [(jh, .inr (1, [.ref jt, .ref jk, .ref jv, .ref jr, .int (nI ((j + 3) + 1))])), (jt, .inr (0, [.long ((adS (nbI ((flL (fl3 (sd, K, V, R)) j).1) 7) (j + 3) ((nbX ((flL (fl3 (sd, K, V, R)) j).1) 7), ((flL (fl3 (sd, K, V, R)) j).2.1), ((flL (fl3 (sd, K, V, R)) j).2.2.1), ((flL (fl3 (sd, K, V, R)) j).2.2.2))).1)])), (jk, .inl (ck, 43, .inl ((adS (nbI ((flL (fl3 (sd, K, V, R)) j).1) 7) (j + 3) ((nbX ((flL (fl3 (sd, K, V, R)) j).1) 7), ((flL (fl3 (sd, K, V, R)) j).2.1), ((flL (fl3 (sd, K, V, R)) j).2.2.1), ((flL (fl3 (sd, K, V, R)) j).2.2.2))).2.1))), (jv, .inl (cv, 43, .inl ((adS (nbI ((flL (fl3 (sd, K, V, R)) j).1) 7) (j + 3) ((nbX ((flL (fl3 (sd, K, V, R)) j).1) 7), ((flL (fl3 (sd, K, V, R)) j).2.1), ((flL (fl3 (sd, K, V, R)) j).2.2.1), ((flL (fl3 (sd, K, V, R)) j).2.2.2))).2.2.1))), (jr, .inl (cr, 43, .inl ((adS (nbI ((flL (fl3 (sd, K, V, R)) j).1) 7) (j + 3) ((nbX ((flL (fl3 (sd, K, V, R)) j).1) 7), ((flL (fl3 (sd, K, V, R)) j).2.1), ((flL (fl3 (sd, K, V, R)) j).2.2.1), ((flL (fl3 (sd, K, V, R)) j).2.2.2))).2.2.2)))]) hP hD [0, 4, 1, 2, 3] [] rfl rfl (by decide) (by decide) hk1 hFc hP1 hD1
        generalize H1 = H at hP hS ⊢
        have hP : va_P (dC, dI) classes [(jh, .inr (1, [.ref jt, .ref jk, .ref jv, .ref jr, .int (nI ((j + 3) + 1))])), (jt, .inr (0, [.long ((adS (nbI ((flL (fl3 (sd, K, V, R)) j).1) 7) (j + 3) ((nbX ((flL (fl3 (sd, K, V, R)) j).1) 7), ((flL (fl3 (sd, K, V, R)) j).2.1), ((flL (fl3 (sd, K, V, R)) j).2.2.1), ((flL (fl3 (sd, K, V, R)) j).2.2.2))).1)])), (jk, .inl (ck, 43, .inl ((adS (nbI ((flL (fl3 (sd, K, V, R)) j).1) 7) (j + 3) ((nbX ((flL (fl3 (sd, K, V, R)) j).1) 7), ((flL (fl3 (sd, K, V, R)) j).2.1), ((flL (fl3 (sd, K, V, R)) j).2.2.1), ((flL (fl3 (sd, K, V, R)) j).2.2.2))).2.1))), (jv, .inl (cv, 43, .inl ((adS (nbI ((flL (fl3 (sd, K, V, R)) j).1) 7) (j + 3) ((nbX ((flL (fl3 (sd, K, V, R)) j).1) 7), ((flL (fl3 (sd, K, V, R)) j).2.1), ((flL (fl3 (sd, K, V, R)) j).2.2.1), ((flL (fl3 (sd, K, V, R)) j).2.2.2))).2.2.1))), (jr, .inl (cr, 43, .inl ((adS (nbI ((flL (fl3 (sd, K, V, R)) j).1) 7) (j + 3) ((nbX ((flL (fl3 (sd, K, V, R)) j).1) 7), ((flL (fl3 (sd, K, V, R)) j).2.1), ((flL (fl3 (sd, K, V, R)) j).2.2.1), ((flL (fl3 (sd, K, V, R)) j).2.2.2))).2.2.2)))] H := hP
        have hD : va_D A [(jh, .inr (1, [.ref jt, .ref jk, .ref jv, .ref jr, .int (nI ((j + 3) + 1))])), (jt, .inr (0, [.long ((adS (nbI ((flL (fl3 (sd, K, V, R)) j).1) 7) (j + 3) ((nbX ((flL (fl3 (sd, K, V, R)) j).1) 7), ((flL (fl3 (sd, K, V, R)) j).2.1), ((flL (fl3 (sd, K, V, R)) j).2.2.1), ((flL (fl3 (sd, K, V, R)) j).2.2.2))).1)])), (jk, .inl (ck, 43, .inl ((adS (nbI ((flL (fl3 (sd, K, V, R)) j).1) 7) (j + 3) ((nbX ((flL (fl3 (sd, K, V, R)) j).1) 7), ((flL (fl3 (sd, K, V, R)) j).2.1), ((flL (fl3 (sd, K, V, R)) j).2.2.1), ((flL (fl3 (sd, K, V, R)) j).2.2.2))).2.1))), (jv, .inl (cv, 43, .inl ((adS (nbI ((flL (fl3 (sd, K, V, R)) j).1) 7) (j + 3) ((nbX ((flL (fl3 (sd, K, V, R)) j).1) 7), ((flL (fl3 (sd, K, V, R)) j).2.1), ((flL (fl3 (sd, K, V, R)) j).2.2.1), ((flL (fl3 (sd, K, V, R)) j).2.2.2))).2.2.1))), (jr, .inl (cr, 43, .inl ((adS (nbI ((flL (fl3 (sd, K, V, R)) j).1) 7) (j + 3) ((nbX ((flL (fl3 (sd, K, V, R)) j).1) 7), ((flL (fl3 (sd, K, V, R)) j).2.1), ((flL (fl3 (sd, K, V, R)) j).2.2.1), ((flL (fl3 (sd, K, V, R)) j).2.2.2))).2.2.2)))] := hD
        refine lv_iinc (v := nI (j + 1)) (lv' := [(4, .int (nI (j + 1))), (0, .ref jh), (1, .long sd), (3, .int (nI z))]) hx hb d_H_fill_50 hl (k := 3) rfl (nI_1 _) (by decide) rfl (fun ls hl => ?_)
        refine lv_goto (tgt := 31) hx hb d_H_fill_53 (by decide) ?_
        exact ih_31 (j + 1) (by omega) (by first | assumption | omega) _ _ (hP.sub (ws' := [(jh, .inr (1, [.ref jt, .ref jk, .ref jv, .ref jr, .int (nI ((j + 1) + 3))])), (jt, .inr (0, [.long ((flL (fl3 (sd, K, V, R)) (j + 1)).1)])), (jk, .inl (ck, 43, .inl ((flL (fl3 (sd, K, V, R)) (j + 1)).2.1))), (jv, .inl (cv, 43, .inl ((flL (fl3 (sd, K, V, R)) (j + 1)).2.2.1))), (jr, .inl (cr, 43, .inl ((flL (fl3 (sd, K, V, R)) (j + 1)).2.2.2)))]) [0, 1, 2, 3, 4] rfl) (hD.sub (ws' := [(jh, .inr (1, [.ref jt, .ref jk, .ref jv, .ref jr, .int (nI ((j + 1) + 3))])), (jt, .inr (0, [.long ((flL (fl3 (sd, K, V, R)) (j + 1)).1)])), (jk, .inl (ck, 43, .inl ((flL (fl3 (sd, K, V, R)) (j + 1)).2.1))), (jv, .inl (cv, 43, .inl ((flL (fl3 (sd, K, V, R)) (j + 1)).2.2.1))), (jr, .inl (cr, 43, .inl ((flL (fl3 (sd, K, V, R)) (j + 1)).2.2.2)))]) [0, 1, 2, 3, 4] (by decide) rfl) hS ls (lv_sub (l' := [(0, .ref jh), (1, .long sd), (3, .int (nI z)), (4, .int (nI (j + 1)))]) hl [1, 2, 3, 0] rfl)
  exact lp_31 ((z - 0) + 1) 0 (by omega) (by first | assumption | omega) _ _ (hP.sub (ws' := [(jh, .inr (1, [.ref jt, .ref jk, .ref jv, .ref jr, .int (nI (0 + 3))])), (jt, .inr (0, [.long ((flL (fl3 (sd, K, V, R)) 0).1)])), (jk, .inl (ck, 43, .inl ((flL (fl3 (sd, K, V, R)) 0).2.1))), (jv, .inl (cv, 43, .inl ((flL (fl3 (sd, K, V, R)) 0).2.2.1))), (jr, .inl (cr, 43, .inl ((flL (fl3 (sd, K, V, R)) 0).2.2.2)))]) [0, 1, 2, 3, 4] rfl) (hD.sub (ws' := [(jh, .inr (1, [.ref jt, .ref jk, .ref jv, .ref jr, .int (nI (0 + 3))])), (jt, .inr (0, [.long ((flL (fl3 (sd, K, V, R)) 0).1)])), (jk, .inl (ck, 43, .inl ((flL (fl3 (sd, K, V, R)) 0).2.1))), (jv, .inl (cv, 43, .inl ((flL (fl3 (sd, K, V, R)) 0).2.2.1))), (jr, .inl (cr, 43, .inl ((flL (fl3 (sd, K, V, R)) 0).2.2.2)))]) [0, 1, 2, 3, 4] (by decide) rfl) hS ls (lv_sub (l' := [(0, .ref jh), (1, .long sd), (3, .int (nI z)), (4, .int (nI 0))]) hl [1, 2, 3, 0] rfl)
end
section
theorem m_57 : (Jvm.Cond.fieldLink "PortDrawer" (10 : Nat) "PortDrawer" "harbour" "LPortDrawer$Harbour;") ∈ tblG := m_t (i := 57) rfl rfl
theorem m_62 : (Jvm.Cond.fieldLink "PortDrawer" (30 : Nat) "PortDrawer" "leftParts" "J") ∈ tblG := m_t (i := 62) rfl rfl
theorem m_59 : (Jvm.Cond.fieldLink "PortDrawer" (19 : Nat) "PortDrawer" "goingWith" "[J") ∈ tblG := m_t (i := 59) rfl rfl
theorem m_121 : (Jvm.Cond.constantLong "PortDrawer" (136 : Nat) (-1 : Int64)) ∈ tblG := m_t (i := 121) rfl rfl
theorem m_60 : (Jvm.Cond.fieldLink "PortDrawer" (23 : Nat) "PortDrawer" "partsOfBit" "[J") ∈ tblG := m_t (i := 60) rfl rfl
theorem m_61 : (Jvm.Cond.fieldLink "PortDrawer" (26 : Nat) "PortDrawer" "staying" "[Z") ∈ tblG := m_t (i := 61) rfl rfl
theorem m_91 : (Jvm.Cond.code ({ cls := "PortDrawer", name := "verdictOf", desc := "(J)I" } : Jvm.MethodName) prog_1_method_18_code (5 : Nat) (Option.some Jvm.ClassFile.FieldType.int)) ∈ tblG := m_t (i := 91) rfl rfl
theorem ms_0 : Cond.selects "PortDrawer" ⟨"PortDrawer", "verdictOf", "(J)I"⟩ ⟨"PortDrawer", "verdictOf", "(J)I"⟩ ∈ tblG := m_s (i := 0) rfl rfl
theorem m_88 : (Jvm.Cond.methodLink "PortDrawer" (102 : Nat) ({ cls := "PortDrawer", name := "verdictOf", desc := "(J)I" } : Jvm.MethodName)) ∈ tblG := m_t (i := 88) rfl rfl
theorem m_90 : (Jvm.Cond.instanceMethod ({ cls := "PortDrawer", name := "verdictOf", desc := "(J)I" } : Jvm.MethodName)) ∈ tblG := m_t (i := 90) rfl rfl
theorem m_116 : (Jvm.Cond.code ({ cls := "PortDrawer", name := "isIn", desc := "(JI)Z" } : Jvm.MethodName) prog_1_method_22_code (3 : Nat) (Option.some Jvm.ClassFile.FieldType.boolean)) ∈ tblG := m_t (i := 116) rfl rfl
theorem m_114 : (Jvm.Cond.methodLink "PortDrawer" (88 : Nat) ({ cls := "PortDrawer", name := "isIn", desc := "(JI)Z" } : Jvm.MethodName)) ∈ tblG := m_t (i := 114) rfl rfl
theorem m_115 : (Jvm.Cond.static ({ cls := "PortDrawer", name := "isIn", desc := "(JI)Z" } : Jvm.MethodName)) ∈ tblG := m_t (i := 115) rfl rfl
theorem m_120 : (Jvm.Cond.code ({ cls := "PortDrawer", name := "leftWithout", desc := "(I)J" } : Jvm.MethodName) prog_1_method_16_code (2 : Nat) (Option.some Jvm.ClassFile.FieldType.long)) ∈ tblG := m_t (i := 120) rfl rfl
theorem ms_4 : Cond.selects "PortDrawer" ⟨"PortDrawer", "leftWithout", "(I)J"⟩ ⟨"PortDrawer", "leftWithout", "(I)J"⟩ ∈ tblG := m_s (i := 4) rfl rfl
theorem m_117 : (Jvm.Cond.methodLink "PortDrawer" (119 : Nat) ({ cls := "PortDrawer", name := "leftWithout", desc := "(I)J" } : Jvm.MethodName)) ∈ tblG := m_t (i := 117) rfl rfl
theorem m_119 : (Jvm.Cond.instanceMethod ({ cls := "PortDrawer", name := "leftWithout", desc := "(I)J" } : Jvm.MethodName)) ∈ tblG := m_t (i := 119) rfl rfl
theorem m_99 : (Jvm.Cond.code ({ cls := "PortDrawer", name := "staysWith", desc := "(J)Z" } : Jvm.MethodName) prog_1_method_17_code (3 : Nat) (Option.some Jvm.ClassFile.FieldType.boolean)) ∈ tblG := m_t (i := 99) rfl rfl
theorem ms_1 : Cond.selects "PortDrawer" ⟨"PortDrawer", "staysWith", "(J)Z"⟩ ⟨"PortDrawer", "staysWith", "(J)Z"⟩ ∈ tblG := m_s (i := 1) rfl rfl
theorem m_96 : (Jvm.Cond.methodLink "PortDrawer" (106 : Nat) ({ cls := "PortDrawer", name := "staysWith", desc := "(J)Z" } : Jvm.MethodName)) ∈ tblG := m_t (i := 96) rfl rfl
theorem m_98 : (Jvm.Cond.instanceMethod ({ cls := "PortDrawer", name := "staysWith", desc := "(J)Z" } : Jvm.MethodName)) ∈ tblG := m_t (i := 98) rfl rfl
theorem m_137 : (Jvm.Cond.code ({ cls := "PortDrawer$Harbour", name := "ofKindAheadOf", desc := "(II)I" } : Jvm.MethodName) prog_2_method_9_code (5 : Nat) (Option.some Jvm.ClassFile.FieldType.int)) ∈ tblG := m_t (i := 137) rfl rfl
theorem ms_5 : Cond.selects "PortDrawer$Harbour" ⟨"PortDrawer$Harbour", "ofKindAheadOf", "(II)I"⟩ ⟨"PortDrawer$Harbour", "ofKindAheadOf", "(II)I"⟩ ∈ tblG := m_s (i := 5) rfl rfl
theorem m_136 : (Jvm.Cond.instanceMethod ({ cls := "PortDrawer$Harbour", name := "ofKindAheadOf", desc := "(II)I" } : Jvm.MethodName)) ∈ tblG := m_t (i := 136) rfl rfl
theorem m_113 : (Jvm.Cond.code ({ cls := "PortDrawer", name := "firstThatMayGo", desc := "()I" } : Jvm.MethodName) prog_1_method_19_code (4 : Nat) (Option.some Jvm.ClassFile.FieldType.int)) ∈ tblG := m_t (i := 113) rfl rfl
theorem ms_3 : Cond.selects "PortDrawer" ⟨"PortDrawer", "firstThatMayGo", "()I"⟩ ⟨"PortDrawer", "firstThatMayGo", "()I"⟩ ∈ tblG := m_s (i := 3) rfl rfl
theorem m_110 : (Jvm.Cond.methodLink "PortDrawer" (115 : Nat) ({ cls := "PortDrawer", name := "firstThatMayGo", desc := "()I" } : Jvm.MethodName)) ∈ tblG := m_t (i := 110) rfl rfl
theorem m_112 : (Jvm.Cond.instanceMethod ({ cls := "PortDrawer", name := "firstThatMayGo", desc := "()I" } : Jvm.MethodName)) ∈ tblG := m_t (i := 112) rfl rfl
theorem m_145 : (Jvm.Cond.code ({ cls := "PortDrawer", name := "countOfKind", desc := "(I)I" } : Jvm.MethodName) prog_1_method_13_code (2 : Nat) (Option.some Jvm.ClassFile.FieldType.int)) ∈ tblG := m_t (i := 145) rfl rfl
theorem ms_7 : Cond.selects "PortDrawer" ⟨"PortDrawer", "countOfKind", "(I)I"⟩ ⟨"PortDrawer", "countOfKind", "(I)I"⟩ ∈ tblG := m_s (i := 7) rfl rfl
theorem m_142 : (Jvm.Cond.methodLink "PortDrawer" (132 : Nat) ({ cls := "PortDrawer", name := "countOfKind", desc := "(I)I" } : Jvm.MethodName)) ∈ tblG := m_t (i := 142) rfl rfl
theorem m_144 : (Jvm.Cond.instanceMethod ({ cls := "PortDrawer", name := "countOfKind", desc := "(I)I" } : Jvm.MethodName)) ∈ tblG := m_t (i := 144) rfl rfl
theorem m_106 : (Jvm.Cond.code ({ cls := "java/lang/Long", name := "bitCount", desc := "(J)I" } : Jvm.MethodName) prog_9_method_50_code (2 : Nat) (Option.some Jvm.ClassFile.FieldType.int)) ∈ tblG := m_t (i := 106) rfl rfl
theorem m_104 : (Jvm.Cond.methodLink "PortDrawer" (110 : Nat) ({ cls := "java/lang/Long", name := "bitCount", desc := "(J)I" } : Jvm.MethodName)) ∈ tblG := m_t (i := 104) rfl rfl
theorem m_105 : (Jvm.Cond.static ({ cls := "java/lang/Long", name := "bitCount", desc := "(J)I" } : Jvm.MethodName)) ∈ tblG := m_t (i := 105) rfl rfl
theorem m_10 : (Jvm.Cond.initialized "java/lang/Long") ∈ tblG := m_t (i := 10) rfl rfl
theorem m_141 : (Jvm.Cond.code ({ cls := "PortDrawer", name := "verdictsThatStay", desc := "()I" } : Jvm.MethodName) prog_1_method_14_code (3 : Nat) (Option.some Jvm.ClassFile.FieldType.int)) ∈ tblG := m_t (i := 141) rfl rfl
theorem ms_6 : Cond.selects "PortDrawer" ⟨"PortDrawer", "verdictsThatStay", "()I"⟩ ⟨"PortDrawer", "verdictsThatStay", "()I"⟩ ∈ tblG := m_s (i := 6) rfl rfl
theorem m_138 : (Jvm.Cond.methodLink "PortDrawer" (129 : Nat) ({ cls := "PortDrawer", name := "verdictsThatStay", desc := "()I" } : Jvm.MethodName)) ∈ tblG := m_t (i := 138) rfl rfl
theorem m_140 : (Jvm.Cond.instanceMethod ({ cls := "PortDrawer", name := "verdictsThatStay", desc := "()I" } : Jvm.MethodName)) ∈ tblG := m_t (i := 140) rfl rfl
theorem d_D_allParts_0 : decode b_D_allParts 0 = .ok (.lconst 1, 1) := by decide +kernel
theorem d_D_allParts_1 : decode b_D_allParts 1 = .ok (.aload_n 0, 1) := by decide +kernel
theorem d_D_allParts_2 : decode b_D_allParts 2 = .ok (.getfield 10, 3) := by decide +kernel
theorem d_D_allParts_5 : decode b_D_allParts 5 = .ok (.getfield 62, 3) := by decide +kernel
theorem d_D_allParts_8 : decode b_D_allParts 8 = .ok (.lshl, 1) := by decide +kernel
theorem d_D_allParts_9 : decode b_D_allParts 9 = .ok (.lconst 1, 1) := by decide +kernel
theorem d_D_allParts_10 : decode b_D_allParts 10 = .ok (.lsub, 1) := by decide +kernel
theorem d_D_allParts_11 : decode b_D_allParts 11 = .ok (.lreturn, 1) := by decide +kernel
theorem d_D_leftWithout_0 : decode b_D_leftWithout 0 = .ok (.aload_n 0, 1) := by decide +kernel
theorem d_D_leftWithout_1 : decode b_D_leftWithout 1 = .ok (.getfield 30, 3) := by decide +kernel
theorem d_D_leftWithout_4 : decode b_D_leftWithout 4 = .ok (.aload_n 0, 1) := by decide +kernel
theorem d_D_leftWithout_5 : decode b_D_leftWithout 5 = .ok (.getfield 19, 3) := by decide +kernel
theorem d_D_leftWithout_8 : decode b_D_leftWithout 8 = .ok (.iload_n 1, 1) := by decide +kernel
theorem d_D_leftWithout_9 : decode b_D_leftWithout 9 = .ok (.laload, 1) := by decide +kernel
theorem d_D_leftWithout_10 : decode b_D_leftWithout 10 = .ok (.ldc2_w 136, 3) := by decide +kernel
theorem d_D_leftWithout_13 : decode b_D_leftWithout 13 = .ok (.lxor, 1) := by decide +kernel
theorem d_D_leftWithout_14 : decode b_D_leftWithout 14 = .ok (.land, 1) := by decide +kernel
theorem d_D_leftWithout_15 : decode b_D_leftWithout 15 = .ok (.lreturn, 1) := by decide +kernel
theorem d_D_verdictOf_0 : decode b_D_verdictOf 0 = .ok (.iconst 0, 1) := by decide +kernel
theorem d_D_verdictOf_1 : decode b_D_verdictOf 1 = .ok (.istore_n 3, 1) := by decide +kernel
theorem d_D_verdictOf_2 : decode b_D_verdictOf 2 = .ok (.iconst 0, 1) := by decide +kernel
theorem d_D_verdictOf_3 : decode b_D_verdictOf 3 = .ok (.istore 4, 2) := by decide +kernel
theorem d_D_verdictOf_5 : decode b_D_verdictOf 5 = .ok (.iload 4, 2) := by decide +kernel
theorem d_D_verdictOf_7 : decode b_D_verdictOf 7 = .ok (.bipush 8, 2) := by decide +kernel
theorem d_D_verdictOf_9 : decode b_D_verdictOf 9 = .ok (.if_icmp .ge 30, 3) := by decide +kernel
theorem d_D_verdictOf_12 : decode b_D_verdictOf 12 = .ok (.lload_n 1, 1) := by decide +kernel
theorem d_D_verdictOf_13 : decode b_D_verdictOf 13 = .ok (.aload_n 0, 1) := by decide +kernel
theorem d_D_verdictOf_14 : decode b_D_verdictOf 14 = .ok (.getfield 23, 3) := by decide +kernel
theorem d_D_verdictOf_17 : decode b_D_verdictOf 17 = .ok (.iload 4, 2) := by decide +kernel
theorem d_D_verdictOf_19 : decode b_D_verdictOf 19 = .ok (.laload, 1) := by decide +kernel
theorem d_D_verdictOf_20 : decode b_D_verdictOf 20 = .ok (.land, 1) := by decide +kernel
theorem d_D_verdictOf_21 : decode b_D_verdictOf 21 = .ok (.lconst 0, 1) := by decide +kernel
theorem d_D_verdictOf_22 : decode b_D_verdictOf 22 = .ok (.lcmp, 1) := by decide +kernel
theorem d_D_verdictOf_23 : decode b_D_verdictOf 23 = .ok (.ifCond .eq 10, 3) := by decide +kernel
theorem d_D_verdictOf_26 : decode b_D_verdictOf 26 = .ok (.iload_n 3, 1) := by decide +kernel
theorem d_D_verdictOf_27 : decode b_D_verdictOf 27 = .ok (.iconst 1, 1) := by decide +kernel
theorem d_D_verdictOf_28 : decode b_D_verdictOf 28 = .ok (.iload 4, 2) := by decide +kernel
theorem d_D_verdictOf_30 : decode b_D_verdictOf 30 = .ok (.ishl, 1) := by decide +kernel
theorem d_D_verdictOf_31 : decode b_D_verdictOf 31 = .ok (.ior, 1) := by decide +kernel
theorem d_D_verdictOf_32 : decode b_D_verdictOf 32 = .ok (.istore_n 3, 1) := by decide +kernel
theorem d_D_verdictOf_33 : decode b_D_verdictOf 33 = .ok (.iinc 4 1, 3) := by decide +kernel
theorem d_D_verdictOf_36 : decode b_D_verdictOf 36 = .ok (.goto (-31), 3) := by decide +kernel
theorem d_D_verdictOf_39 : decode b_D_verdictOf 39 = .ok (.iload_n 3, 1) := by decide +kernel
theorem d_D_verdictOf_40 : decode b_D_verdictOf 40 = .ok (.ireturn, 1) := by decide +kernel
theorem d_D_staysWith_0 : decode b_D_staysWith 0 = .ok (.aload_n 0, 1) := by decide +kernel
theorem d_D_staysWith_1 : decode b_D_staysWith 1 = .ok (.getfield 26, 3) := by decide +kernel
theorem d_D_staysWith_4 : decode b_D_staysWith 4 = .ok (.aload_n 0, 1) := by decide +kernel
theorem d_D_staysWith_5 : decode b_D_staysWith 5 = .ok (.lload_n 1, 1) := by decide +kernel
theorem d_D_staysWith_6 : decode b_D_staysWith 6 = .ok (.invokevirtual 102, 3) := by decide +kernel
theorem d_D_staysWith_9 : decode b_D_staysWith 9 = .ok (.baload, 1) := by decide +kernel
theorem d_D_staysWith_10 : decode b_D_staysWith 10 = .ok (.ireturn, 1) := by decide +kernel
theorem d_D_firstThatMayGo_0 : decode b_D_firstThatMayGo 0 = .ok (.iconst 0, 1) := by decide +kernel
theorem d_D_firstThatMayGo_1 : decode b_D_firstThatMayGo 1 = .ok (.istore_n 1, 1) := by decide +kernel
theorem d_D_firstThatMayGo_2 : decode b_D_firstThatMayGo 2 = .ok (.iload_n 1, 1) := by decide +kernel
theorem d_D_firstThatMayGo_3 : decode b_D_firstThatMayGo 3 = .ok (.aload_n 0, 1) := by decide +kernel
theorem d_D_firstThatMayGo_4 : decode b_D_firstThatMayGo 4 = .ok (.getfield 10, 3) := by decide +kernel
theorem d_D_firstThatMayGo_7 : decode b_D_firstThatMayGo 7 = .ok (.getfield 62, 3) := by decide +kernel
theorem d_D_firstThatMayGo_10 : decode b_D_firstThatMayGo 10 = .ok (.if_icmp .ge 42, 3) := by decide +kernel
theorem d_D_firstThatMayGo_13 : decode b_D_firstThatMayGo 13 = .ok (.aload_n 0, 1) := by decide +kernel
theorem d_D_firstThatMayGo_14 : decode b_D_firstThatMayGo 14 = .ok (.getfield 30, 3) := by decide +kernel
theorem d_D_firstThatMayGo_17 : decode b_D_firstThatMayGo 17 = .ok (.iload_n 1, 1) := by decide +kernel
theorem d_D_firstThatMayGo_18 : decode b_D_firstThatMayGo 18 = .ok (.invokestatic 88, 3) := by decide +kernel
theorem d_D_firstThatMayGo_21 : decode b_D_firstThatMayGo 21 = .ok (.ifCond .eq 25, 3) := by decide +kernel
theorem d_D_firstThatMayGo_24 : decode b_D_firstThatMayGo 24 = .ok (.aload_n 0, 1) := by decide +kernel
theorem d_D_firstThatMayGo_25 : decode b_D_firstThatMayGo 25 = .ok (.iload_n 1, 1) := by decide +kernel
theorem d_D_firstThatMayGo_26 : decode b_D_firstThatMayGo 26 = .ok (.invokevirtual 119, 3) := by decide +kernel
theorem d_D_firstThatMayGo_29 : decode b_D_firstThatMayGo 29 = .ok (.lstore_n 2, 1) := by decide +kernel
theorem d_D_firstThatMayGo_30 : decode b_D_firstThatMayGo 30 = .ok (.lload_n 2, 1) := by decide +kernel
theorem d_D_firstThatMayGo_31 : decode b_D_firstThatMayGo 31 = .ok (.lconst 0, 1) := by decide +kernel
theorem d_D_firstThatMayGo_32 : decode b_D_firstThatMayGo 32 = .ok (.lcmp, 1) := by decide +kernel
theorem d_D_firstThatMayGo_33 : decode b_D_firstThatMayGo 33 = .ok (.ifCond .eq 13, 3) := by decide +kernel
theorem d_D_firstThatMayGo_36 : decode b_D_firstThatMayGo 36 = .ok (.aload_n 0, 1) := by decide +kernel
theorem d_D_firstThatMayGo_37 : decode b_D_firstThatMayGo 37 = .ok (.lload_n 2, 1) := by decide +kernel
theorem d_D_firstThatMayGo_38 : decode b_D_firstThatMayGo 38 = .ok (.invokevirtual 106, 3) := by decide +kernel
theorem d_D_firstThatMayGo_41 : decode b_D_firstThatMayGo 41 = .ok (.ifCond .eq 5, 3) := by decide +kernel
theorem d_D_firstThatMayGo_44 : decode b_D_firstThatMayGo 44 = .ok (.iload_n 1, 1) := by decide +kernel
theorem d_D_firstThatMayGo_45 : decode b_D_firstThatMayGo 45 = .ok (.ireturn, 1) := by decide +kernel
theorem d_D_firstThatMayGo_46 : decode b_D_firstThatMayGo 46 = .ok (.iinc 1 1, 3) := by decide +kernel
theorem d_D_firstThatMayGo_49 : decode b_D_firstThatMayGo 49 = .ok (.goto (-47), 3) := by decide +kernel
theorem d_D_firstThatMayGo_52 : decode b_D_firstThatMayGo 52 = .ok (.iconst (-1), 1) := by decide +kernel
theorem d_D_firstThatMayGo_53 : decode b_D_firstThatMayGo 53 = .ok (.ireturn, 1) := by decide +kernel
theorem d_D_verdictsThatStay_0 : decode b_D_verdictsThatStay 0 = .ok (.iconst 0, 1) := by decide +kernel
theorem d_D_verdictsThatStay_1 : decode b_D_verdictsThatStay 1 = .ok (.istore_n 1, 1) := by decide +kernel
theorem d_D_verdictsThatStay_2 : decode b_D_verdictsThatStay 2 = .ok (.iconst 0, 1) := by decide +kernel
theorem d_D_verdictsThatStay_3 : decode b_D_verdictsThatStay 3 = .ok (.istore_n 2, 1) := by decide +kernel
theorem d_D_verdictsThatStay_4 : decode b_D_verdictsThatStay 4 = .ok (.iload_n 2, 1) := by decide +kernel
theorem d_D_verdictsThatStay_5 : decode b_D_verdictsThatStay 5 = .ok (.sipush 256, 3) := by decide +kernel
theorem d_D_verdictsThatStay_8 : decode b_D_verdictsThatStay 8 = .ok (.if_icmp .ge 21, 3) := by decide +kernel
theorem d_D_verdictsThatStay_11 : decode b_D_verdictsThatStay 11 = .ok (.aload_n 0, 1) := by decide +kernel
theorem d_D_verdictsThatStay_12 : decode b_D_verdictsThatStay 12 = .ok (.getfield 26, 3) := by decide +kernel
theorem d_D_verdictsThatStay_15 : decode b_D_verdictsThatStay 15 = .ok (.iload_n 2, 1) := by decide +kernel
theorem d_D_verdictsThatStay_16 : decode b_D_verdictsThatStay 16 = .ok (.baload, 1) := by decide +kernel
theorem d_D_verdictsThatStay_17 : decode b_D_verdictsThatStay 17 = .ok (.ifCond .eq 6, 3) := by decide +kernel
theorem d_D_verdictsThatStay_20 : decode b_D_verdictsThatStay 20 = .ok (.iinc 1 1, 3) := by decide +kernel
theorem d_D_verdictsThatStay_23 : decode b_D_verdictsThatStay 23 = .ok (.iinc 2 1, 3) := by decide +kernel
theorem d_D_verdictsThatStay_26 : decode b_D_verdictsThatStay 26 = .ok (.goto (-22), 3) := by decide +kernel
theorem d_D_verdictsThatStay_29 : decode b_D_verdictsThatStay 29 = .ok (.iload_n 1, 1) := by decide +kernel
theorem d_D_verdictsThatStay_30 : decode b_D_verdictsThatStay 30 = .ok (.ireturn, 1) := by decide +kernel
theorem d_D_countOfKind_0 : decode b_D_countOfKind 0 = .ok (.iload_n 1, 1) := by decide +kernel
theorem d_D_countOfKind_1 : decode b_D_countOfKind 1 = .ok (.bipush 10, 2) := by decide +kernel
theorem d_D_countOfKind_3 : decode b_D_countOfKind 3 = .ok (.if_icmp .lt 9, 3) := by decide +kernel
theorem d_D_countOfKind_6 : decode b_D_countOfKind 6 = .ok (.iload_n 1, 1) := by decide +kernel
theorem d_D_countOfKind_7 : decode b_D_countOfKind 7 = .ok (.bipush 17, 2) := by decide +kernel
theorem d_D_countOfKind_9 : decode b_D_countOfKind 9 = .ok (.if_icmp .lt 5, 3) := by decide +kernel
theorem d_D_countOfKind_12 : decode b_D_countOfKind 12 = .ok (.iconst (-1), 1) := by decide +kernel
theorem d_D_countOfKind_13 : decode b_D_countOfKind 13 = .ok (.ireturn, 1) := by decide +kernel
theorem d_D_countOfKind_14 : decode b_D_countOfKind 14 = .ok (.aload_n 0, 1) := by decide +kernel
theorem d_D_countOfKind_15 : decode b_D_countOfKind 15 = .ok (.getfield 10, 3) := by decide +kernel
theorem d_D_countOfKind_18 : decode b_D_countOfKind 18 = .ok (.iload_n 1, 1) := by decide +kernel
theorem d_D_countOfKind_19 : decode b_D_countOfKind 19 = .ok (.bipush 10, 2) := by decide +kernel
theorem d_D_countOfKind_21 : decode b_D_countOfKind 21 = .ok (.isub, 1) := by decide +kernel
theorem d_D_countOfKind_22 : decode b_D_countOfKind 22 = .ok (.aload_n 0, 1) := by decide +kernel
theorem d_D_countOfKind_23 : decode b_D_countOfKind 23 = .ok (.getfield 10, 3) := by decide +kernel
theorem d_D_countOfKind_26 : decode b_D_countOfKind 26 = .ok (.getfield 62, 3) := by decide +kernel
theorem d_D_countOfKind_29 : decode b_D_countOfKind 29 = .ok (.invokevirtual 78, 3) := by decide +kernel
theorem d_D_countOfKind_32 : decode b_D_countOfKind 32 = .ok (.ireturn, 1) := by decide +kernel
theorem d_D_now_0 : decode b_D_now 0 = .ok (.aload_n 0, 1) := by decide +kernel
theorem d_D_now_1 : decode b_D_now 1 = .ok (.aload_n 0, 1) := by decide +kernel
theorem d_D_now_2 : decode b_D_now 2 = .ok (.getfield 30, 3) := by decide +kernel
theorem d_D_now_5 : decode b_D_now 5 = .ok (.invokevirtual 102, 3) := by decide +kernel
theorem d_D_now_8 : decode b_D_now 8 = .ok (.ireturn, 1) := by decide +kernel
theorem d_D_left_0 : decode b_D_left 0 = .ok (.iconst 0, 1) := by decide +kernel
theorem d_D_left_1 : decode b_D_left 1 = .ok (.istore_n 2, 1) := by decide +kernel
theorem d_D_left_2 : decode b_D_left 2 = .ok (.iconst 0, 1) := by decide +kernel
theorem d_D_left_3 : decode b_D_left 3 = .ok (.istore_n 3, 1) := by decide +kernel
theorem d_D_left_4 : decode b_D_left 4 = .ok (.iload_n 3, 1) := by decide +kernel
theorem d_D_left_5 : decode b_D_left 5 = .ok (.aload_n 0, 1) := by decide +kernel
theorem d_D_left_6 : decode b_D_left 6 = .ok (.getfield 10, 3) := by decide +kernel
theorem d_D_left_9 : decode b_D_left 9 = .ok (.getfield 62, 3) := by decide +kernel
theorem d_D_left_12 : decode b_D_left 12 = .ok (.if_icmp .ge 30, 3) := by decide +kernel
theorem d_D_left_15 : decode b_D_left 15 = .ok (.aload_n 0, 1) := by decide +kernel
theorem d_D_left_16 : decode b_D_left 16 = .ok (.getfield 30, 3) := by decide +kernel
theorem d_D_left_19 : decode b_D_left 19 = .ok (.iload_n 3, 1) := by decide +kernel
theorem d_D_left_20 : decode b_D_left 20 = .ok (.invokestatic 88, 3) := by decide +kernel
theorem d_D_left_23 : decode b_D_left 23 = .ok (.ifCond .eq 13, 3) := by decide +kernel
theorem d_D_left_26 : decode b_D_left 26 = .ok (.iload_n 2, 1) := by decide +kernel
theorem d_D_left_27 : decode b_D_left 27 = .ok (.iload_n 1, 1) := by decide +kernel
theorem d_D_left_28 : decode b_D_left 28 = .ok (.if_icmp .ne 5, 3) := by decide +kernel
theorem d_D_left_31 : decode b_D_left 31 = .ok (.iload_n 3, 1) := by decide +kernel
theorem d_D_left_32 : decode b_D_left 32 = .ok (.ireturn, 1) := by decide +kernel
theorem d_D_left_33 : decode b_D_left 33 = .ok (.iinc 2 1, 3) := by decide +kernel
theorem d_D_left_36 : decode b_D_left 36 = .ok (.iinc 3 1, 3) := by decide +kernel
theorem d_D_left_39 : decode b_D_left 39 = .ok (.goto (-35), 3) := by decide +kernel
theorem d_D_left_42 : decode b_D_left 42 = .ok (.iconst (-1), 1) := by decide +kernel
theorem d_D_left_43 : decode b_D_left 43 = .ok (.ireturn, 1) := by decide +kernel
theorem d_D_minimal_0 : decode b_D_minimal 0 = .ok (.aload_n 0, 1) := by decide +kernel
theorem d_D_minimal_1 : decode b_D_minimal 1 = .ok (.getfield 30, 3) := by decide +kernel
theorem d_D_minimal_4 : decode b_D_minimal 4 = .ok (.lconst 0, 1) := by decide +kernel
theorem d_D_minimal_5 : decode b_D_minimal 5 = .ok (.lcmp, 1) := by decide +kernel
theorem d_D_minimal_6 : decode b_D_minimal 6 = .ok (.ifCond .eq 26, 3) := by decide +kernel
theorem d_D_minimal_9 : decode b_D_minimal 9 = .ok (.aload_n 0, 1) := by decide +kernel
theorem d_D_minimal_10 : decode b_D_minimal 10 = .ok (.aload_n 0, 1) := by decide +kernel
theorem d_D_minimal_11 : decode b_D_minimal 11 = .ok (.getfield 30, 3) := by decide +kernel
theorem d_D_minimal_14 : decode b_D_minimal 14 = .ok (.invokevirtual 106, 3) := by decide +kernel
theorem d_D_minimal_17 : decode b_D_minimal 17 = .ok (.ifCond .eq 15, 3) := by decide +kernel
theorem d_D_minimal_20 : decode b_D_minimal 20 = .ok (.aload_n 0, 1) := by decide +kernel
theorem d_D_minimal_21 : decode b_D_minimal 21 = .ok (.invokevirtual 115, 3) := by decide +kernel
theorem d_D_minimal_24 : decode b_D_minimal 24 = .ok (.iconst (-1), 1) := by decide +kernel
theorem d_D_minimal_25 : decode b_D_minimal 25 = .ok (.if_icmp .ne 7, 3) := by decide +kernel
theorem d_D_minimal_28 : decode b_D_minimal 28 = .ok (.iconst 1, 1) := by decide +kernel
theorem d_D_minimal_29 : decode b_D_minimal 29 = .ok (.goto 4, 3) := by decide +kernel
theorem d_D_minimal_32 : decode b_D_minimal 32 = .ok (.iconst 0, 1) := by decide +kernel
theorem d_D_minimal_33 : decode b_D_minimal 33 = .ok (.ireturn, 1) := by decide +kernel
theorem d_D_count_0 : decode b_D_count 0 = .ok (.iload_n 1, 1) := by decide +kernel
theorem d_D_count_1 : decode b_D_count 1 = .ok (.tableswitch 83 0 4 #[35, 43, 51, 67, 78], 35) := by decide +kernel
theorem d_D_count_36 : decode b_D_count 36 = .ok (.aload_n 0, 1) := by decide +kernel
theorem d_D_count_37 : decode b_D_count 37 = .ok (.getfield 10, 3) := by decide +kernel
theorem d_D_count_40 : decode b_D_count 40 = .ok (.getfield 62, 3) := by decide +kernel
theorem d_D_count_43 : decode b_D_count 43 = .ok (.ireturn, 1) := by decide +kernel
theorem d_D_count_44 : decode b_D_count 44 = .ok (.aload_n 0, 1) := by decide +kernel
theorem d_D_count_45 : decode b_D_count 45 = .ok (.getfield 30, 3) := by decide +kernel
theorem d_D_count_48 : decode b_D_count 48 = .ok (.invokestatic 110, 3) := by decide +kernel
theorem d_D_count_51 : decode b_D_count 51 = .ok (.ireturn, 1) := by decide +kernel
theorem d_D_count_52 : decode b_D_count 52 = .ok (.aload_n 0, 1) := by decide +kernel
theorem d_D_count_53 : decode b_D_count 53 = .ok (.getfield 10, 3) := by decide +kernel
theorem d_D_count_56 : decode b_D_count 56 = .ok (.iconst 5, 1) := by decide +kernel
theorem d_D_count_57 : decode b_D_count 57 = .ok (.aload_n 0, 1) := by decide +kernel
theorem d_D_count_58 : decode b_D_count 58 = .ok (.getfield 10, 3) := by decide +kernel
theorem d_D_count_61 : decode b_D_count 61 = .ok (.getfield 62, 3) := by decide +kernel
theorem d_D_count_64 : decode b_D_count 64 = .ok (.invokevirtual 78, 3) := by decide +kernel
theorem d_D_count_67 : decode b_D_count 67 = .ok (.ireturn, 1) := by decide +kernel
theorem d_D_count_68 : decode b_D_count 68 = .ok (.aload_n 0, 1) := by decide +kernel
theorem d_D_count_69 : decode b_D_count 69 = .ok (.getfield 23, 3) := by decide +kernel
theorem d_D_count_72 : decode b_D_count 72 = .ok (.bipush 7, 2) := by decide +kernel
theorem d_D_count_74 : decode b_D_count 74 = .ok (.laload, 1) := by decide +kernel
theorem d_D_count_75 : decode b_D_count 75 = .ok (.invokestatic 110, 3) := by decide +kernel
theorem d_D_count_78 : decode b_D_count 78 = .ok (.ireturn, 1) := by decide +kernel
theorem d_D_count_79 : decode b_D_count 79 = .ok (.aload_n 0, 1) := by decide +kernel
theorem d_D_count_80 : decode b_D_count 80 = .ok (.invokevirtual 129, 3) := by decide +kernel
theorem d_D_count_83 : decode b_D_count 83 = .ok (.ireturn, 1) := by decide +kernel
theorem d_D_count_84 : decode b_D_count 84 = .ok (.aload_n 0, 1) := by decide +kernel
theorem d_D_count_85 : decode b_D_count 85 = .ok (.iload_n 1, 1) := by decide +kernel
theorem d_D_count_86 : decode b_D_count 86 = .ok (.invokevirtual 132, 3) := by decide +kernel
theorem d_D_count_89 : decode b_D_count 89 = .ok (.ireturn, 1) := by decide +kernel
set_option maxHeartbeats 4000000 in
set_option maxRecDepth 100000 in
/-- allParts -/
theorem c_D_allParts (l : Launch) (dC : Nat → ClassId) (dI : Nat → Nat → Nat) (jd jh jh2 jg jb jy : Nat) (sd w : Int64) (jt jk jv jr n : Nat)   : Met l y_D_allParts w_D_allParts ({ frames := 0, cells := 0, slots := 0, locals := 0 }) (ro_P dC dI [.ref jd] [(jd, .inr (2, [.long sd, .ref jh, .ref jh2, .ref jg, .ref jb, .ref jy, .long w])), (jh, .inr (1, [.ref jt, .ref jk, .ref jv, .ref jr, .int (nI n)]))] []) (vp_Sl (fun r => r = allW n)) 0 0 (fun _ => False) := by
  refine Met.ofW (cc := b_D_allParts) (maxL := 1) (ret := (Option.some Jvm.ClassFile.FieldType.long)) (by decide) rfl ?_
  intro p e s m args below meth c s₁ B0 hml hv0
  obtain ⟨rfl, hP, hK, hN⟩ := hv0
  have hx := B0.exec
  have hb := B0.bytes
  have hr := B0.returns
  have hts := atoms_spec (ws := w_D_allParts) B0.pre
  have hown : s.vm.findClass R_D = some m.cls := findClass_of_methodNamed B0.named
  have hlocks := B0.notSynchronized
  have hP : va_P (dC, dI) classes [(jd, .inr (2, [.long sd, .ref jh, .ref jh2, .ref jg, .ref jb, .ref jy, .long w])), (jh, .inr (1, [.ref jt, .ref jk, .ref jv, .ref jr, .int (nI n)]))] s.heap := hP
  have hl := lv_entry ([.ref jd]) (n := 1) (Nat.le_of_ble_eq_true rfl)
  rw [lg_entry_eq]
  generalize (lg_sl ([.ref jd]) ++ List.replicate (1 - (lg_sl ([.ref jd])).length) Slot.unset).toArray = ls at hl ⊢
  have hl : lv_has ls 1 [(0, .ref jd)] := hl
  refine lv_lconst (v := 1) hx hb d_D_allParts_0 (by decide +kernel) ?_
  refine lv_aload_n hx hb d_D_allParts_1 rfl (lv_at hl 0 rfl) ?_
  refine va_get (D := (dC, dI)) (ci := 2) (v := .ref jh) (C := R_D) (T := F_D) (N := 7) hx hb hts (lay_D _) hown hK hP 0 rfl rfl 1 (by decide) (hts _ (List.mem_cons_of_mem _ m_57)) (fun _ h9 => h9) rfl d_D_allParts_2 ?_
  refine va_getN (D := (dC, dI)) (ci := 1) (v := .int (nI n)) (C := R_H) (T := F_H) (N := 5) hx hb hts (lay_H _) hown hK hP 1 rfl rfl 4 (by decide) (hN.use (by decide +kernel : (Jvm.Cond.fieldLinkNest "PortDrawer" (62 : Nat) "PortDrawer$Harbour" "parts" "I" "PortDrawer") ∈ NWl)) (fun _ h9 => h9) rfl d_D_allParts_5 ?_
  refine lv_lshl hx hb d_D_allParts_8 rfl ?_
  refine lv_lconst (v := 1) hx hb d_D_allParts_9 (by decide +kernel) ?_
  refine lv_lsub hx hb d_D_allParts_10 ?_
  exact W.lret (v := (1 <<< ((nI n).toInt64 &&& 63)) - 1) hx hb hr (fun t ht hW => ⟨(1 <<< ((nI n).toInt64 &&& 63)) - 1, rfl, rfl, ht⟩) (fun _ h => nomatch h) d_D_allParts_11
set_option maxHeartbeats 4000000 in
set_option maxRecDepth 100000 in
/-- leftWithout -/
theorem c_D_leftWithout (l : Launch) (dC : Nat → ClassId) (dI : Nat → Nat → Nat) (jd jh jh2 jg jb jy : Nat) (sd w : Int64) (cg : ClassId) (G : Nat → Int64) (i0 : Nat) (hi0 : i0 < 43) : Met l y_D_leftWithout w_D_leftWithout ({ frames := 0, cells := 0, slots := 0, locals := 0 }) (ro_P dC dI [.ref jd, .int (nI i0)] [(jd, .inr (2, [.long sd, .ref jh, .ref jh2, .ref jg, .ref jb, .ref jy, .long w])), (jg, .inl (cg, 43, .inr (.inl G)))] [(cg, .long)]) (vp_Sl (fun r => r = noW w (G i0))) 0 0 (fun _ => False) := by
  refine Met.ofW (cc := b_D_leftWithout) (maxL := 2) (ret := (Option.some Jvm.ClassFile.FieldType.long)) (by decide) rfl ?_
  intro p e s m args below meth c s₁ B0 hml hv0
  obtain ⟨rfl, hP, hK, hN⟩ := hv0
  have hx := B0.exec
  have hb := B0.bytes
  have hr := B0.returns
  have hts := atoms_spec (ws := w_D_leftWithout) B0.pre
  have hown : s.vm.findClass R_D = some m.cls := findClass_of_methodNamed B0.named
  have hlocks := B0.notSynchronized
  have hP : va_P (dC, dI) classes [(jd, .inr (2, [.long sd, .ref jh, .ref jh2, .ref jg, .ref jb, .ref jy, .long w])), (jg, .inl (cg, 43, .inr (.inl G)))] s.heap := hP
  have hl := lv_entry ([.ref jd, .int (nI i0)]) (n := 2) (Nat.le_of_ble_eq_true rfl)
  rw [lg_entry_eq]
  generalize (lg_sl ([.ref jd, .int (nI i0)]) ++ List.replicate (2 - (lg_sl ([.ref jd, .int (nI i0)])).length) Slot.unset).toArray = ls at hl ⊢
  have hl : lv_has ls 2 [(0, .ref jd), (1, .int (nI i0))] := hl
  refine lv_aload_n hx hb d_D_leftWithout_0 rfl (lv_at hl 0 rfl) ?_
  refine va_get (D := (dC, dI)) (ci := 2) (v := .long w) (C := R_D) (T := F_D) (N := 7) hx hb hts (lay_D _) hown hK hP 0 rfl rfl 6 (by decide) (hts _ (List.mem_cons_of_mem _ m_62)) (fun _ h9 => h9) rfl d_D_leftWithout_1 ?_
  refine lv_aload_n hx hb d_D_leftWithout_4 rfl (lv_at hl 0 rfl) ?_
  refine va_get (D := (dC, dI)) (ci := 2) (v := .ref jg) (C := R_D) (T := F_D) (N := 7) hx hb hts (lay_D _) hown hK hP 0 rfl rfl 3 (by decide) (hts _ (List.mem_cons_of_mem _ m_59)) (fun _ h9 => h9) rfl d_D_leftWithout_5 ?_
  refine lv_iload_n hx hb d_D_leftWithout_8 rfl (lv_at hl 1 rfl) ?_
  refine va_lald hx hb hK hP 1 0 rfl rfl (vp_in_nI (by omega) (by omega)) d_D_leftWithout_9 ?_
  refine lv_topl (fun w_1 ew_1 => ?_)
  rw [nI_clamp (by omega)] at ew_1
  subst ew_1
  refine lv_ldc2 (v := -1) hx hb hown (hts _ (List.mem_cons_of_mem _ m_121)) d_D_leftWithout_10 ?_
  refine lv_lxor hx hb d_D_leftWithout_13 ?_
  refine lv_land hx hb d_D_leftWithout_14 ?_
  exact W.lret (v := w &&& ((G i0) ^^^ (-1))) hx hb hr (fun t ht hW => ⟨w &&& ((G i0) ^^^ (-1)), rfl, rfl, ht⟩) (fun _ h => nomatch h) d_D_leftWithout_15
set_option maxHeartbeats 4000000 in
set_option maxRecDepth 100000 in
/-- verdictOf -/
theorem c_D_verdictOf (l : Launch) (dC : Nat → ClassId) (dI : Nat → Nat → Nat) (jd jh jh2 jg jb jy : Nat) (sd w : Int64) (cb : ClassId) (B : Nat → Int64) (v : Int64)  : Met l y_D_verdictOf w_D_verdictOf ({ frames := 0, cells := 0, slots := 0, locals := 0 }) (ro_P dC dI [.ref jd, .long v] [(jd, .inr (2, [.long sd, .ref jh, .ref jh2, .ref jg, .ref jb, .ref jy, .long w])), (jb, .inl (cb, 8, .inr (.inl B)))] [(cb, .long)]) (vp_Si (fun r => r = vdI v B)) 0 0 (fun _ => False) := by
  refine Met.ofW (cc := b_D_verdictOf) (maxL := 5) (ret := (Option.some Jvm.ClassFile.FieldType.int)) (by decide) rfl ?_
  intro p e s m args below meth c s₁ B0 hml hv0
  obtain ⟨rfl, hP, hK, hN⟩ := hv0
  have hx := B0.exec
  have hb := B0.bytes
  have hr := B0.returns
  have hts := atoms_spec (ws := w_D_verdictOf) B0.pre
  have hown : s.vm.findClass R_D = some m.cls := findClass_of_methodNamed B0.named
  have hlocks := B0.notSynchronized
  have hP : va_P (dC, dI) classes [(jd, .inr (2, [.long sd, .ref jh, .ref jh2, .ref jg, .ref jb, .ref jy, .long w])), (jb, .inl (cb, 8, .inr (.inl B)))] s.heap := hP
  have hl := lv_entry ([.ref jd, .long v]) (n := 5) (Nat.le_of_ble_eq_true rfl)
  rw [lg_entry_eq]
  generalize (lg_sl ([.ref jd, .long v]) ++ List.replicate (5 - (lg_sl ([.ref jd, .long v])).length) Slot.unset).toArray = ls at hl ⊢
  have hl : lv_has ls 5 [(0, .ref jd), (1, .long v)] := hl
  refine lv_iconst (v := nI 0) hx hb d_D_verdictOf_0 (by decide +kernel) ?_
  refine lv_istore_n (lv' := [(3, .int (nI 0)), (0, .ref jd), (1, .long v)]) hx hb d_D_verdictOf_1 rfl hl (by decide) rfl (fun ls hl => ?_)
  refine lv_iconst (v := nI 0) hx hb d_D_verdictOf_2 (by decide +kernel) ?_
  refine lv_istore (lv' := [(4, .int (nI 0)), (3, .int (nI 0)), (0, .ref jd), (1, .long v)]) hx hb d_D_verdictOf_3 hl (by decide) rfl (fun ls hl => ?_)
  have lp_5 : ∀ (k9_5 : Nat), ∀ (i : Nat), 8 - i < k9_5 → (i ≤ 8) → ∀ (ls : Array Slot), lv_has ls 5 [(0, .ref jd), (1, .long v), (3, .int (vdL v B i)), (4, .int (nI i))] → W p l e (headSpec w_D_verdictOf ({ frames := 0, cells := 0, slots := 0, locals := 0 })).room s m ([.ref jd, .long v]).toArray below meth c s.heap [] 0 0 (MQ below (vp_Si (fun r => r = vdI v B)) ([.ref jd, .long v]).toArray s 0 0 (fun _ => False)) (F0 m 5 ls []) := by
    intro k9_5
    induction k9_5 with
    | zero =>
      intro i hk9
      exact absurd hk9 (Nat.not_lt_zero _)
    | succ k9_5 ih_5 =>
      intro i hk9_5 hi ls hl
      refine lv_iload hx hb d_D_verdictOf_5 (lv_at hl 3 rfl) ?_
      refine lv_bipush (v := nI 8) hx hb d_D_verdictOf_7 (by decide +kernel) ?_
      refine lv_icmp_ge (tgt := 39) hx hb d_D_verdictOf_9 (by decide) (fun c_9 => ?_) (fun c_9 => ?_)
      · skip
        have c_9 := (nI_leI (by omega) (by omega)).mp c_9
        refine lv_iload_n hx hb d_D_verdictOf_39 rfl (lv_at hl 2 rfl) ?_
        exact W.iret (v := vdL v B i) hx hb hr (fun t ht hW => ⟨vdL v B i, rfl, (by rw [show i = 8 by omega]; rfl), ht⟩) (fun _ h => nomatch h) d_D_verdictOf_40
      · skip
        have c_9 := (not_congr (nI_leI (by omega) (by omega))).mp c_9
        refine lv_lload_n hx hb d_D_verdictOf_12 rfl (lv_at hl 1 rfl) ?_
        refine lv_aload_n hx hb d_D_verdictOf_13 rfl (lv_at hl 0 rfl) ?_
        refine va_get (D := (dC, dI)) (ci := 2) (v := .ref jb) (C := R_D) (T := F_D) (N := 7) hx hb hts (lay_D _) hown hK hP 0 rfl rfl 4 (by decide) (hts _ (List.mem_cons_of_mem _ m_60)) (fun _ h9 => h9) rfl d_D_verdictOf_14 ?_
        refine lv_iload hx hb d_D_verdictOf_17 (lv_at hl 3 rfl) ?_
        refine va_lald hx hb hK hP 1 0 rfl rfl (vp_in_nI (by omega) (by omega)) d_D_verdictOf_19 ?_
        refine lv_topl (fun w_1 ew_1 => ?_)
        rw [nI_clamp (by omega)] at ew_1
        subst ew_1
        refine lv_land hx hb d_D_verdictOf_20 ?_
        refine lv_lconst (v := 0) hx hb d_D_verdictOf_21 (by decide +kernel) ?_
        refine W.lcmp hx hb d_D_verdictOf_22 ?_
        refine lv_if_eq (tgt := 33) hx hb d_D_verdictOf_23 (by decide) (fun c_23 => ?_) (fun c_23 => ?_)
        · skip
          have c_23 := lc_eq.mp c_23
          rw [show vdL v B i = vdL v B (i + 1) from ((vdL_z c_23).symm)] at hl
          refine lv_iinc (v := nI (i + 1)) (lv' := [(4, .int (nI (i + 1))), (0, .ref jd), (1, .long v), (3, .int (vdL v B (i + 1)))]) hx hb d_D_verdictOf_33 hl (k := 3) rfl (nI_1 _) (by decide) rfl (fun ls hl => ?_)
          refine lv_goto (tgt := 5) hx hb d_D_verdictOf_36 (by decide) ?_
          exact ih_5 (i + 1) (by omega) (by first | assumption | omega) ls (lv_sub (l' := [(0, .ref jd), (1, .long v), (3, .int (vdL v B (i + 1))), (4, .int (nI (i + 1)))]) hl [1, 2, 3, 0] rfl)
        · skip
          have c_23 := (not_congr lc_eq).mp c_23
          refine lv_iload_n hx hb d_D_verdictOf_26 rfl (lv_at hl 2 rfl) ?_
          refine lv_iconst (v := nI 1) hx hb d_D_verdictOf_27 (by decide +kernel) ?_
          refine lv_iload hx hb d_D_verdictOf_28 (lv_at hl 3 rfl) ?_
          refine lv_ishl hx hb d_D_verdictOf_30 ?_
          refine lv_ior hx hb d_D_verdictOf_31 ?_
          refine lv_topi (fun w_2 ew_2 => ?_)
          have ew_2 : w_2 = vdL v B (i + 1) := ew_2.trans ((vdL_n c_23).symm)
          subst ew_2
          refine lv_istore_n (lv' := [(3, .int (vdL v B (i + 1))), (0, .ref jd), (1, .long v), (4, .int (nI i))]) hx hb d_D_verdictOf_32 rfl hl (by decide) rfl (fun ls hl => ?_)
          refine lv_iinc (v := nI (i + 1)) (lv' := [(4, .int (nI (i + 1))), (3, .int (vdL v B (i + 1))), (0, .ref jd), (1, .long v)]) hx hb d_D_verdictOf_33 hl (k := 3) rfl (nI_1 _) (by decide) rfl (fun ls hl => ?_)
          refine lv_goto (tgt := 5) hx hb d_D_verdictOf_36 (by decide) ?_
          exact ih_5 (i + 1) (by omega) (by first | assumption | omega) ls (lv_sub (l' := [(0, .ref jd), (1, .long v), (3, .int (vdL v B (i + 1))), (4, .int (nI (i + 1)))]) hl [2, 3, 1, 0] rfl)
  exact lp_5 ((8 - 0) + 1) 0 (by omega) (by first | assumption | omega) ls (lv_sub (l' := [(0, .ref jd), (1, .long v), (3, .int (vdL v B 0)), (4, .int (nI 0))]) hl [2, 3, 1, 0] rfl)
set_option maxHeartbeats 4000000 in
set_option maxRecDepth 100000 in
/-- staysWith -/
theorem c_D_staysWith (l : Launch) (dC : Nat → ClassId) (dI : Nat → Nat → Nat) (jd jh jh2 jg jb jy : Nat) (sd w : Int64) (cb cy : ClassId) (B : Nat → Int64) (S : Nat → Bool) (v : Int64)  : Met l y_D_staysWith w_D_staysWith ({ frames := 1, cells := 0, slots := 0, locals := 24 }) (ro_P dC dI [.ref jd, .long v] [(jd, .inr (2, [.long sd, .ref jh, .ref jh2, .ref jg, .ref jb, .ref jy, .long w])), (jb, .inl (cb, 8, .inr (.inl B))), (jy, .inl (cy, 256, .inl (bF S)))] [(cb, .long), (cy, .boolean)]) (vp_Si (fun r => r = bI (syB S B v))) 0 0 (fun _ => False) := by
  refine Met.ofW (cc := b_D_staysWith) (maxL := 3) (ret := (Option.some Jvm.ClassFile.FieldType.boolean)) (by decide) rfl ?_
  intro p e s m args below meth c s₁ B0 hml hv0
  obtain ⟨rfl, hP, hK, hN⟩ := hv0
  have hx := B0.exec
  have hb := B0.bytes
  have hr := B0.returns
  have hts := atoms_spec (ws := w_D_staysWith) B0.pre
  have hown : s.vm.findClass R_D = some m.cls := findClass_of_methodNamed B0.named
  have hlocks := B0.notSynchronized
  have hP : va_P (dC, dI) classes [(jd, .inr (2, [.long sd, .ref jh, .ref jh2, .ref jg, .ref jb, .ref jy, .long w])), (jb, .inl (cb, 8, .inr (.inl B))), (jy, .inl (cy, 256, .inl (bF S)))] s.heap := hP
  have hl := lv_entry ([.ref jd, .long v]) (n := 3) (Nat.le_of_ble_eq_true rfl)
  rw [lg_entry_eq]
  generalize (lg_sl ([.ref jd, .long v]) ++ List.replicate (3 - (lg_sl ([.ref jd, .long v])).length) Slot.unset).toArray = ls at hl ⊢
  have hl : lv_has ls 3 [(0, .ref jd), (1, .long v)] := hl
  refine lv_aload_n hx hb d_D_staysWith_0 rfl (lv_at hl 0 rfl) ?_
  refine va_get (D := (dC, dI)) (ci := 2) (v := .ref jy) (C := R_D) (T := F_D) (N := 7) hx hb hts (lay_D _) hown hK hP 0 rfl rfl 5 (by decide) (hts _ (List.mem_cons_of_mem _ m_61)) (fun _ h9 => h9) rfl d_D_staysWith_1 ?_
  refine lv_aload_n hx hb d_D_staysWith_4 rfl (lv_at hl 0 rfl) ?_
  refine lv_lload_n hx hb d_D_staysWith_5 rfl (lv_at hl 1 rfl) ?_
  have hPc := hP.sub (ws' := [(jd, .inr (2, [.long sd, .ref jh, .ref jh2, .ref jg, .ref jb, .ref jy, .long w])), (jb, .inl (cb, 8, .inr (.inl B)))]) [0, 1] rfl
  have hKc := hK.sub (tys' := [(cb, .long)]) [0] rfl
  refine vp_callSi (W.runV (As := [.long v]) (rest := [.ref jy]) ⟨hx, hb, hml, hown, hts⟩ (c_D_verdictOf l dC dI jd jh jh2 jg jb jy sd w cb B v) (cwV 1 hts (g_V big_w m_88 m_90 ms_0 m_1 m_91) rfl rfl rfl (by decide +kernel) ⟨Nat.le_of_ble_eq_true rfl, Nat.le_of_ble_eq_true rfl⟩) (ro_V hPc hKc hN (va_recv hKc hPc (ci := 2) (q0 := 0) rfl rfl)) rfl rfl hl.1 rfl (lv_room (Nat.le_of_ble_eq_true rfl)) d_D_staysWith_6 ⟨Nat.le_of_ble_eq_true rfl, Nat.le_of_ble_eq_true rfl⟩) (fun r_1 er_1 => ?_)
  subst er_1
  refine va_zald hx hb hK hP 2 1 rfl rfl (vdI_in v B) d_D_staysWith_9 ?_
  refine lv_topi (fun w_2 ew_2 => ?_)
  have ew_2 : w_2 = bI (syB S B v) := ew_2.trans (rfl)
  subst ew_2
  exact W.zret (v := bI (syB S B v)) (ty := .boolean) hx hb hr (bI_nar _) (fun t ht hW => ⟨bI (syB S B v), rfl, rfl, ht⟩) (fun _ h => nomatch h) d_D_staysWith_10
set_option maxHeartbeats 4000000 in
set_option maxRecDepth 100000 in
/-- firstThatMayGo -/
theorem c_D_firstThatMayGo (l : Launch) (dC : Nat → ClassId) (dI : Nat → Nat → Nat) (jd jh jh2 jg jb jy : Nat) (sd w : Int64) (jt jk jv jr n : Nat) (cg cb cy : ClassId) (G B : Nat → Int64) (S : Nat → Bool) (hn : n ≤ 43) : Met l y_D_firstThatMayGo w_D_firstThatMayGo ({ frames := 2, cells := 0, slots := 0, locals := 46 }) (ro_P dC dI [.ref jd] [(jd, .inr (2, [.long sd, .ref jh, .ref jh2, .ref jg, .ref jb, .ref jy, .long w])), (jh, .inr (1, [.ref jt, .ref jk, .ref jv, .ref jr, .int (nI n)])), (jg, .inl (cg, 43, .inr (.inl G))), (jb, .inl (cb, 8, .inr (.inl B))), (jy, .inl (cy, 256, .inl (bF S)))] [(cg, .long), (cb, .long), (cy, .boolean)]) (vp_Si (fun r => r = oI (fgO S G B n w))) 0 0 (fun _ => False) := by
  refine Met.ofW (cc := b_D_firstThatMayGo) (maxL := 4) (ret := (Option.some Jvm.ClassFile.FieldType.int)) (by decide) rfl ?_
  intro p e s m args below meth c s₁ B0 hml hv0
  obtain ⟨rfl, hP, hK, hN⟩ := hv0
  have hx := B0.exec
  have hb := B0.bytes
  have hr := B0.returns
  have hts := atoms_spec (ws := w_D_firstThatMayGo) B0.pre
  have hown : s.vm.findClass R_D = some m.cls := findClass_of_methodNamed B0.named
  have hlocks := B0.notSynchronized
  have hP : va_P (dC, dI) classes [(jd, .inr (2, [.long sd, .ref jh, .ref jh2, .ref jg, .ref jb, .ref jy, .long w])), (jh, .inr (1, [.ref jt, .ref jk, .ref jv, .ref jr, .int (nI n)])), (jg, .inl (cg, 43, .inr (.inl G))), (jb, .inl (cb, 8, .inr (.inl B))), (jy, .inl (cy, 256, .inl (bF S)))] s.heap := hP
  have hl := lv_entry ([.ref jd]) (n := 4) (Nat.le_of_ble_eq_true rfl)
  rw [lg_entry_eq]
  generalize (lg_sl ([.ref jd]) ++ List.replicate (4 - (lg_sl ([.ref jd])).length) Slot.unset).toArray = ls at hl ⊢
  have hl : lv_has ls 4 [(0, .ref jd)] := hl
  refine lv_iconst (v := nI 0) hx hb d_D_firstThatMayGo_0 (by decide +kernel) ?_
  refine lv_istore_n (lv' := [(1, .int (nI 0)), (0, .ref jd)]) hx hb d_D_firstThatMayGo_1 rfl hl (by decide) rfl (fun ls hl => ?_)
  have lp_2 : ∀ (k9_2 : Nat), ∀ (i : Nat), n - i < k9_2 → (i ≤ n) → (∀ a, a < i → mgB S G B w a = false) → ∀ (ls : Array Slot), lv_has ls 4 [(0, .ref jd), (1, .int (nI i))] → W p l e (headSpec w_D_firstThatMayGo ({ frames := 2, cells := 0, slots := 0, locals := 46 })).room s m ([.ref jd]).toArray below meth c s.heap [] 0 0 (MQ below (vp_Si (fun r => r = oI (fgO S G B n w))) ([.ref jd]).toArray s 0 0 (fun _ => False)) (F0 m 2 ls []) := by
    intro k9_2
    induction k9_2 with
    | zero =>
      intro i hk9
      exact absurd hk9 (Nat.not_lt_zero _)
    | succ k9_2 ih_2 =>
      intro i hk9_2 hi hno ls hl
      refine lv_iload_n hx hb d_D_firstThatMayGo_2 rfl (lv_at hl 1 rfl) ?_
      refine lv_aload_n hx hb d_D_firstThatMayGo_3 rfl (lv_at hl 0 rfl) ?_
      refine va_get (D := (dC, dI)) (ci := 2) (v := .ref jh) (C := R_D) (T := F_D) (N := 7) hx hb hts (lay_D _) hown hK hP 0 rfl rfl 1 (by decide) (hts _ (List.mem_cons_of_mem _ m_57)) (fun _ h9 => h9) rfl d_D_firstThatMayGo_4 ?_
      refine va_getN (D := (dC, dI)) (ci := 1) (v := .int (nI n)) (C := R_H) (T := F_H) (N := 5) hx hb hts (lay_H _) hown hK hP 1 rfl rfl 4 (by decide) (hN.use (by decide +kernel : (Jvm.Cond.fieldLinkNest "PortDrawer" (62 : Nat) "PortDrawer$Harbour" "parts" "I" "PortDrawer") ∈ NWl)) (fun _ h9 => h9) rfl d_D_firstThatMayGo_7 ?_
      refine lv_icmp_ge (tgt := 52) hx hb d_D_firstThatMayGo_10 (by decide) (fun c_10 => ?_) (fun c_10 => ?_)
      · skip
        have c_10 := (nI_leI (by omega) (by omega)).mp c_10
        refine lv_iconst (v := (-1)) hx hb d_D_firstThatMayGo_52 (by decide +kernel) ?_
        exact W.iret (v := (-1)) hx hb hr (fun t ht hW => ⟨(-1), rfl, (by unfold fgO; rw [fst9_none (fun a ha => hno a (by omega))]; rfl), ht⟩) (fun _ h => nomatch h) d_D_firstThatMayGo_53
      · skip
        have c_10 := (not_congr (nI_leI (by omega) (by omega))).mp c_10
        refine lv_aload_n hx hb d_D_firstThatMayGo_13 rfl (lv_at hl 0 rfl) ?_
        refine va_get (D := (dC, dI)) (ci := 2) (v := .long w) (C := R_D) (T := F_D) (N := 7) hx hb hts (lay_D _) hown hK hP 0 rfl rfl 6 (by decide) (hts _ (List.mem_cons_of_mem _ m_62)) (fun _ h9 => h9) rfl d_D_firstThatMayGo_14 ?_
        refine lv_iload_n hx hb d_D_firstThatMayGo_17 rfl (lv_at hl 1 rfl) ?_
        have hPc := hP.sub (ws' := []) [] rfl
        have hKc := hK.sub (tys' := []) [] rfl
        refine vp_callSi (W.runS (As := [.long w, .int (nI i)]) (rest := []) ⟨hx, hb, hml, hown, hts⟩ (c_D_isIn l dC dI w i (by first | assumption | omega)) (va_cwS 2 hts (g_S big_w m_114 m_115 m_1 m_116) rfl rfl rfl (by decide +kernel) ⟨Nat.le_of_ble_eq_true rfl, Nat.le_of_ble_eq_true rfl⟩) (ro_S hPc hKc hN) rfl rfl hl.1 rfl (lv_room (Nat.le_of_ble_eq_true rfl)) d_D_firstThatMayGo_18 ⟨Nat.le_of_ble_eq_true rfl, Nat.le_of_ble_eq_true rfl⟩) (fun r_1 er_1 => ?_)
        subst er_1
        refine lv_if_eq (tgt := 46) hx hb d_D_firstThatMayGo_21 (by decide) (fun c_21 => ?_) (fun c_21 => ?_)
        · skip
          have c_21 := bI_f c_21
          have hq9 : mgB S G B w i = false := by unfold mgB; rw [c_21]; rfl
          refine lv_iinc (v := nI (i + 1)) (lv' := [(1, .int (nI (i + 1))), (0, .ref jd)]) hx hb d_D_firstThatMayGo_46 hl (k := 1) rfl (nI_1 _) (by decide) rfl (fun ls hl => ?_)
          refine lv_goto (tgt := 2) hx hb d_D_firstThatMayGo_49 (by decide) ?_
          exact ih_2 (i + 1) (by omega) (by omega) (lt_s hno hq9) ls (lv_sub (l' := [(0, .ref jd), (1, .int (nI (i + 1)))]) hl [1, 0] rfl)
        · skip
          have c_21 := bI_t c_21
          refine lv_aload_n hx hb d_D_firstThatMayGo_24 rfl (lv_at hl 0 rfl) ?_
          refine lv_iload_n hx hb d_D_firstThatMayGo_25 rfl (lv_at hl 1 rfl) ?_
          have hPc := hP.sub (ws' := [(jd, .inr (2, [.long sd, .ref jh, .ref jh2, .ref jg, .ref jb, .ref jy, .long w])), (jg, .inl (cg, 43, .inr (.inl G)))]) [0, 2] rfl
          have hKc := hK.sub (tys' := [(cg, .long)]) [0] rfl
          refine vp_callSl (W.runV (As := [.int (nI i)]) (rest := []) ⟨hx, hb, hml, hown, hts⟩ (c_D_leftWithout l dC dI jd jh jh2 jg jb jy sd w cg G i (by first | assumption | omega)) (cwV 1 hts (g_V big_w m_117 m_119 ms_4 m_1 m_120) rfl rfl rfl (by decide +kernel) ⟨Nat.le_of_ble_eq_true rfl, Nat.le_of_ble_eq_true rfl⟩) (ro_V hPc hKc hN (va_recv hKc hPc (ci := 2) (q0 := 0) rfl rfl)) rfl rfl hl.1 rfl (lv_room (Nat.le_of_ble_eq_true rfl)) d_D_firstThatMayGo_26 ⟨Nat.le_of_ble_eq_true rfl, Nat.le_of_ble_eq_true rfl⟩) (fun r_2 er_2 => ?_)
          subst er_2
          refine lv_lstore_n (lv' := [(2, .long (noW w (G i))), (0, .ref jd), (1, .int (nI i))]) hx hb d_D_firstThatMayGo_29 rfl hl (by decide) rfl (fun ls hl => ?_)
          refine lv_lload_n hx hb d_D_firstThatMayGo_30 rfl (lv_at hl 0 rfl) ?_
          refine lv_lconst (v := 0) hx hb d_D_firstThatMayGo_31 (by decide +kernel) ?_
          refine W.lcmp hx hb d_D_firstThatMayGo_32 ?_
          refine lv_if_eq (tgt := 46) hx hb d_D_firstThatMayGo_33 (by decide) (fun c_33 => ?_) (fun c_33 => ?_)
          · skip
            have c_33 := lc_eq.mp c_33
            have hq9 : mgB S G B w i = false := by unfold mgB; rw [decide_eq_true c_33, c_21]; rfl
            refine lv_iinc (v := nI (i + 1)) (lv' := [(1, .int (nI (i + 1))), (2, .long (noW w (G i))), (0, .ref jd)]) hx hb d_D_firstThatMayGo_46 hl (k := 2) rfl (nI_1 _) (by decide) rfl (fun ls hl => ?_)
            refine lv_goto (tgt := 2) hx hb d_D_firstThatMayGo_49 (by decide) ?_
            exact ih_2 (i + 1) (by omega) (by omega) (lt_s hno hq9) ls (lv_sub (l' := [(0, .ref jd), (1, .int (nI (i + 1)))]) hl [2, 0] rfl)
          · skip
            have c_33 := (not_congr lc_eq).mp c_33
            refine lv_aload_n hx hb d_D_firstThatMayGo_36 rfl (lv_at hl 1 rfl) ?_
            refine lv_lload_n hx hb d_D_firstThatMayGo_37 rfl (lv_at hl 0 rfl) ?_
            have hPc := hP.sub (ws' := [(jd, .inr (2, [.long sd, .ref jh, .ref jh2, .ref jg, .ref jb, .ref jy, .long w])), (jb, .inl (cb, 8, .inr (.inl B))), (jy, .inl (cy, 256, .inl (bF S)))]) [0, 3, 4] rfl
            have hKc := hK.sub (tys' := [(cb, .long), (cy, .boolean)]) [1, 2] rfl
            refine vp_callSi (W.runV (As := [.long (noW w (G i))]) (rest := []) ⟨hx, hb, hml, hown, hts⟩ (c_D_staysWith l dC dI jd jh jh2 jg jb jy sd w cb cy B S (noW w (G i))) (cwV 1 hts (g_V big_w m_96 m_98 ms_1 m_1 m_99) rfl rfl rfl (by decide +kernel) ⟨Nat.le_of_ble_eq_true rfl, Nat.le_of_ble_eq_true rfl⟩) (ro_V hPc hKc hN (va_recv hKc hPc (ci := 2) (q0 := 0) rfl rfl)) rfl rfl hl.1 rfl (lv_room (Nat.le_of_ble_eq_true rfl)) d_D_firstThatMayGo_38 ⟨Nat.le_of_ble_eq_true rfl, Nat.le_of_ble_eq_true rfl⟩) (fun r_3 er_3 => ?_)
            subst er_3
            refine lv_if_eq (tgt := 46) hx hb d_D_firstThatMayGo_41 (by decide) (fun c_41 => ?_) (fun c_41 => ?_)
            · skip
              have c_41 := bI_f c_41
              have hq9 : mgB S G B w i = false := by unfold mgB; rw [c_41, c_21, Bool.and_false]; rfl
              refine lv_iinc (v := nI (i + 1)) (lv' := [(1, .int (nI (i + 1))), (2, .long (noW w (G i))), (0, .ref jd)]) hx hb d_D_firstThatMayGo_46 hl (k := 2) rfl (nI_1 _) (by decide) rfl (fun ls hl => ?_)
              refine lv_goto (tgt := 2) hx hb d_D_firstThatMayGo_49 (by decide) ?_
              exact ih_2 (i + 1) (by omega) (by omega) (lt_s hno hq9) ls (lv_sub (l' := [(0, .ref jd), (1, .int (nI (i + 1)))]) hl [2, 0] rfl)
            · skip
              have c_41 := bI_t c_41
              refine lv_iload_n hx hb d_D_firstThatMayGo_44 rfl (lv_at hl 2 rfl) ?_
              exact W.iret (v := nI i) hx hb hr (fun t ht hW => ⟨nI i, rfl, (by unfold fgO; rw [fst9_some (Q := mgB S G B w) (i := i) (by unfold mgB; rw [c_41, c_21, decide_eq_false c_33]; rfl) hno (by omega)]; rfl), ht⟩) (fun _ h => nomatch h) d_D_firstThatMayGo_45
  exact lp_2 ((n - 0) + 1) 0 (by omega) (by omega) lt_0 ls (lv_sub (l' := [(0, .ref jd), (1, .int (nI 0))]) hl [1, 0] rfl)
set_option maxHeartbeats 4000000 in
set_option maxRecDepth 100000 in
/-- verdictsThatStay -/
theorem c_D_verdictsThatStay (l : Launch) (dC : Nat → ClassId) (dI : Nat → Nat → Nat) (jd jh jh2 jg jb jy : Nat) (sd w : Int64) (cy : ClassId) (S : Nat → Bool)  : Met l y_D_verdictsThatStay w_D_verdictsThatStay ({ frames := 0, cells := 0, slots := 0, locals := 0 }) (ro_P dC dI [.ref jd] [(jd, .inr (2, [.long sd, .ref jh, .ref jh2, .ref jg, .ref jb, .ref jy, .long w])), (jy, .inl (cy, 256, .inl (bF S)))] [(cy, .boolean)]) (vp_Si (fun r => r = nI (cnt S 256))) 0 0 (fun _ => False) := by
  refine Met.ofW (cc := b_D_verdictsThatStay) (maxL := 3) (ret := (Option.some Jvm.ClassFile.FieldType.int)) (by decide) rfl ?_
  intro p e s m args below meth c s₁ B0 hml hv0
  obtain ⟨rfl, hP, hK, hN⟩ := hv0
  have hx := B0.exec
  have hb := B0.bytes
  have hr := B0.returns
  have hts := atoms_spec (ws := w_D_verdictsThatStay) B0.pre
  have hown : s.vm.findClass R_D = some m.cls := findClass_of_methodNamed B0.named
  have hlocks := B0.notSynchronized
  have hP : va_P (dC, dI) classes [(jd, .inr (2, [.long sd, .ref jh, .ref jh2, .ref jg, .ref jb, .ref jy, .long w])), (jy, .inl (cy, 256, .inl (bF S)))] s.heap := hP
  have hl := lv_entry ([.ref jd]) (n := 3) (Nat.le_of_ble_eq_true rfl)
  rw [lg_entry_eq]
  generalize (lg_sl ([.ref jd]) ++ List.replicate (3 - (lg_sl ([.ref jd])).length) Slot.unset).toArray = ls at hl ⊢
  have hl : lv_has ls 3 [(0, .ref jd)] := hl
  refine lv_iconst (v := nI 0) hx hb d_D_verdictsThatStay_0 (by decide +kernel) ?_
  refine lv_istore_n (lv' := [(1, .int (nI 0)), (0, .ref jd)]) hx hb d_D_verdictsThatStay_1 rfl hl (by decide) rfl (fun ls hl => ?_)
  refine lv_iconst (v := nI 0) hx hb d_D_verdictsThatStay_2 (by decide +kernel) ?_
  refine lv_istore_n (lv' := [(2, .int (nI 0)), (1, .int (nI 0)), (0, .ref jd)]) hx hb d_D_verdictsThatStay_3 rfl hl (by decide) rfl (fun ls hl => ?_)
  have lp_4 : ∀ (k9_4 : Nat), ∀ (i : Nat), 256 - i < k9_4 → (i ≤ 256) → ∀ (ls : Array Slot), lv_has ls 3 [(0, .ref jd), (1, .int (nI (cnt S i))), (2, .int (nI i))] → W p l e (headSpec w_D_verdictsThatStay ({ frames := 0, cells := 0, slots := 0, locals := 0 })).room s m ([.ref jd]).toArray below meth c s.heap [] 0 0 (MQ below (vp_Si (fun r => r = nI (cnt S 256))) ([.ref jd]).toArray s 0 0 (fun _ => False)) (F0 m 4 ls []) := by
    intro k9_4
    induction k9_4 with
    | zero =>
      intro i hk9
      exact absurd hk9 (Nat.not_lt_zero _)
    | succ k9_4 ih_4 =>
      intro i hk9_4 hi ls hl
      refine lv_iload_n hx hb d_D_verdictsThatStay_4 rfl (lv_at hl 2 rfl) ?_
      refine lv_sipush (v := nI 256) hx hb d_D_verdictsThatStay_5 (by decide +kernel) ?_
      refine lv_icmp_ge (tgt := 29) hx hb d_D_verdictsThatStay_8 (by decide) (fun c_8 => ?_) (fun c_8 => ?_)
      · skip
        have c_8 := (nI_leI (by omega) (by omega)).mp c_8
        refine lv_iload_n hx hb d_D_verdictsThatStay_29 rfl (lv_at hl 1 rfl) ?_
        exact W.iret (v := nI (cnt S i)) hx hb hr (fun t ht hW => ⟨nI (cnt S i), rfl, (by rw [show i = 256 by omega]), ht⟩) (fun _ h => nomatch h) d_D_verdictsThatStay_30
      · skip
        have c_8 := (not_congr (nI_leI (by omega) (by omega))).mp c_8
        refine lv_aload_n hx hb d_D_verdictsThatStay_11 rfl (lv_at hl 0 rfl) ?_
        refine va_get (D := (dC, dI)) (ci := 2) (v := .ref jy) (C := R_D) (T := F_D) (N := 7) hx hb hts (lay_D _) hown hK hP 0 rfl rfl 5 (by decide) (hts _ (List.mem_cons_of_mem _ m_61)) (fun _ h9 => h9) rfl d_D_verdictsThatStay_12 ?_
        refine lv_iload_n hx hb d_D_verdictsThatStay_15 rfl (lv_at hl 2 rfl) ?_
        refine va_zald hx hb hK hP 1 0 rfl rfl (vp_in_nI (by omega) (by omega)) d_D_verdictsThatStay_16 ?_
        refine lv_topi (fun w_1 ew_1 => ?_)
        rw [nI_clamp (by omega)] at ew_1
        subst ew_1
        refine lv_topi (fun w9 ew9 => ?_)
        have ew9 : w9 = bI (S i) := ew9
        subst ew9
        refine lv_if_eq (tgt := 23) hx hb d_D_verdictsThatStay_17 (by decide) (fun c_17 => ?_) (fun c_17 => ?_)
        · skip
          have c_17 := bI_f c_17
          rw [show nI (cnt S i) = nI (cnt S (i + 1)) from (by rw [cnt_f (P := S) (n := i) c_17])] at hl
          refine lv_iinc (v := nI (i + 1)) (lv' := [(2, .int (nI (i + 1))), (0, .ref jd), (1, .int (nI (cnt S (i + 1))))]) hx hb d_D_verdictsThatStay_23 hl (k := 2) rfl (nI_1 _) (by decide) rfl (fun ls hl => ?_)
          refine lv_goto (tgt := 4) hx hb d_D_verdictsThatStay_26 (by decide) ?_
          exact ih_4 (i + 1) (by omega) (by first | assumption | omega) ls (lv_sub (l' := [(0, .ref jd), (1, .int (nI (cnt S (i + 1)))), (2, .int (nI (i + 1)))]) hl [1, 2, 0] rfl)
        · skip
          have c_17 := bI_t c_17
          refine lv_iinc (v := nI (cnt S (i + 1))) (lv' := [(1, .int (nI (cnt S (i + 1)))), (0, .ref jd), (2, .int (nI i))]) hx hb d_D_verdictsThatStay_20 hl (k := 1) rfl (by rw [cnt_t (P := S) (n := i) c_17]; exact nI_1 _) (by decide) rfl (fun ls hl => ?_)
          refine lv_iinc (v := nI (i + 1)) (lv' := [(2, .int (nI (i + 1))), (1, .int (nI (cnt S (i + 1)))), (0, .ref jd)]) hx hb d_D_verdictsThatStay_23 hl (k := 2) rfl (nI_1 _) (by decide) rfl (fun ls hl => ?_)
          refine lv_goto (tgt := 4) hx hb d_D_verdictsThatStay_26 (by decide) ?_
          exact ih_4 (i + 1) (by omega) (by first | assumption | omega) ls (lv_sub (l' := [(0, .ref jd), (1, .int (nI (cnt S (i + 1)))), (2, .int (nI (i + 1)))]) hl [2, 1, 0] rfl)
  exact lp_4 ((256 - 0) + 1) 0 (by omega) (by first | assumption | omega) ls (lv_sub (l' := [(0, .ref jd), (1, .int (nI (cnt S 0))), (2, .int (nI 0))]) hl [2, 1, 0] rfl)
set_option maxHeartbeats 4000000 in
set_option maxRecDepth 100000 in
/-- countOfKind -/
theorem c_D_countOfKind (l : Launch) (dC : Nat → ClassId) (dI : Nat → Nat → Nat) (jd jh jh2 jg jb jy : Nat) (sd w : Int64) (jt jk jv jr n : Nat) (ck : ClassId) (K : Nat → Int32) (p0 : Int32) (hn : n ≤ 43) : Met l y_D_countOfKind w_D_countOfKind ({ frames := 1, cells := 0, slots := 0, locals := 24 }) (ro_P dC dI [.ref jd, .int p0] [(jd, .inr (2, [.long sd, .ref jh, .ref jh2, .ref jg, .ref jb, .ref jy, .long w])), (jh, .inr (1, [.ref jt, .ref jk, .ref jv, .ref jr, .int (nI n)])), (jk, .inl (ck, 43, .inl K))] [(ck, .int)]) (vp_Si (fun r => r = ckI n K p0)) 0 0 (fun _ => False) := by
  refine Met.ofW (cc := b_D_countOfKind) (maxL := 2) (ret := (Option.some Jvm.ClassFile.FieldType.int)) (by decide) rfl ?_
  intro p e s m args below meth c s₁ B0 hml hv0
  obtain ⟨rfl, hP, hK, hN⟩ := hv0
  have hx := B0.exec
  have hb := B0.bytes
  have hr := B0.returns
  have hts := atoms_spec (ws := w_D_countOfKind) B0.pre
  have hown : s.vm.findClass R_D = some m.cls := findClass_of_methodNamed B0.named
  have hlocks := B0.notSynchronized
  have hP : va_P (dC, dI) classes [(jd, .inr (2, [.long sd, .ref jh, .ref jh2, .ref jg, .ref jb, .ref jy, .long w])), (jh, .inr (1, [.ref jt, .ref jk, .ref jv, .ref jr, .int (nI n)])), (jk, .inl (ck, 43, .inl K))] s.heap := hP
  have hl := lv_entry ([.ref jd, .int p0]) (n := 2) (Nat.le_of_ble_eq_true rfl)
  rw [lg_entry_eq]
  generalize (lg_sl ([.ref jd, .int p0]) ++ List.replicate (2 - (lg_sl ([.ref jd, .int p0])).length) Slot.unset).toArray = ls at hl ⊢
  have hl : lv_has ls 2 [(0, .ref jd), (1, .int p0)] := hl
  refine lv_iload_n hx hb d_D_countOfKind_0 rfl (lv_at hl 1 rfl) ?_
  refine lv_bipush (v := nI 10) hx hb d_D_countOfKind_1 (by decide +kernel) ?_
  refine lv_icmp_lt (tgt := 12) hx hb d_D_countOfKind_3 (by decide) (fun c_3 => ?_) (fun c_3 => ?_)
  · skip
    refine lv_iconst (v := (-1)) hx hb d_D_countOfKind_12 (by decide +kernel) ?_
    exact W.iret (v := (-1)) hx hb hr (fun t ht hW => ⟨(-1), rfl, (by first | exact (if_pos (Or.inl c_3)).symm | exact (if_pos (Or.inr c_9)).symm), ht⟩) (fun _ h => nomatch h) d_D_countOfKind_13
  · skip
    refine lv_iload_n hx hb d_D_countOfKind_6 rfl (lv_at hl 1 rfl) ?_
    refine lv_bipush (v := nI 17) hx hb d_D_countOfKind_7 (by decide +kernel) ?_
    refine lv_icmp_lt (tgt := 14) hx hb d_D_countOfKind_9 (by decide) (fun c_9 => ?_) (fun c_9 => ?_)
    · skip
      refine lv_aload_n hx hb d_D_countOfKind_14 rfl (lv_at hl 0 rfl) ?_
      refine va_get (D := (dC, dI)) (ci := 2) (v := .ref jh) (C := R_D) (T := F_D) (N := 7) hx hb hts (lay_D _) hown hK hP 0 rfl rfl 1 (by decide) (hts _ (List.mem_cons_of_mem _ m_57)) (fun _ h9 => h9) rfl d_D_countOfKind_15 ?_
      refine lv_iload_n hx hb d_D_countOfKind_18 rfl (lv_at hl 1 rfl) ?_
      refine lv_bipush (v := nI 10) hx hb d_D_countOfKind_19 (by decide +kernel) ?_
      refine lv_isub hx hb d_D_countOfKind_21 ?_
      refine lv_aload_n hx hb d_D_countOfKind_22 rfl (lv_at hl 0 rfl) ?_
      refine va_get (D := (dC, dI)) (ci := 2) (v := .ref jh) (C := R_D) (T := F_D) (N := 7) hx hb hts (lay_D _) hown hK hP 0 rfl rfl 1 (by decide) (hts _ (List.mem_cons_of_mem _ m_57)) (fun _ h9 => h9) rfl d_D_countOfKind_23 ?_
      refine va_getN (D := (dC, dI)) (ci := 1) (v := .int (nI n)) (C := R_H) (T := F_H) (N := 5) hx hb hts (lay_H _) hown hK hP 1 rfl rfl 4 (by decide) (hN.use (by decide +kernel : (Jvm.Cond.fieldLinkNest "PortDrawer" (62 : Nat) "PortDrawer$Harbour" "parts" "I" "PortDrawer") ∈ NWl)) (fun _ h9 => h9) rfl d_D_countOfKind_26 ?_
      have hPc := hP.sub (ws' := [(jh, .inr (1, [.ref jt, .ref jk, .ref jv, .ref jr, .int (nI n)])), (jk, .inl (ck, 43, .inl K))]) [1, 2] rfl
      have hKc := hK.sub (tys' := [(ck, .int)]) [0] rfl
      refine vp_callSi (va_Run.run (va_runVN (As := [.int (p0 - (nI 10)), .int (nI n)]) (rest := []) ⟨hx, hb, hml, hown, hts⟩ (c_H_ofKindAheadOf l dC dI jh jt jk jv jr n ck K (p0 - (nI 10)) n (by first | assumption | omega) (by first | assumption | omega)) ⟨va_cnB 2 hts (g_c big_w m_137) rfl rfl rfl (hN _ (by decide +kernel : (Jvm.Cond.methodLinkNest "PortDrawer" (78 : Nat) ({ cls := "PortDrawer$Harbour", name := "ofKindAheadOf", desc := "(II)I" } : Jvm.MethodName) "PortDrawer") ∈ NWl)) (hts _ (List.mem_cons_of_mem _ m_2)) (by decide +kernel) ⟨Nat.le_of_ble_eq_true rfl, Nat.le_of_ble_eq_true rfl⟩, (hts _ (List.mem_cons_of_mem _ m_136)), (hts _ (List.mem_cons_of_mem _ ms_5))⟩ (ro_V hPc hKc hN (va_recv hKc hPc (ci := 1) (q0 := 0) rfl rfl)) rfl rfl hl.1 rfl (lv_room (Nat.le_of_ble_eq_true rfl)) d_D_countOfKind_29 ⟨Nat.le_of_ble_eq_true rfl, Nat.le_of_ble_eq_true rfl⟩)) (fun r_1 er_1 => ?_)
      subst er_1
      exact W.iret (v := nI (cnt (kP K (p0 - (nI 10))) n)) hx hb hr (fun t ht hW => ⟨nI (cnt (kP K (p0 - (nI 10))) n), rfl, ((if_neg (fun jh => jh.elim c_3 (fun z => z c_9))).symm), ht⟩) (fun _ h => nomatch h) d_D_countOfKind_32
    · skip
      refine lv_iconst (v := (-1)) hx hb d_D_countOfKind_12 (by decide +kernel) ?_
      exact W.iret (v := (-1)) hx hb hr (fun t ht hW => ⟨(-1), rfl, (by first | exact (if_pos (Or.inl c_3)).symm | exact (if_pos (Or.inr c_9)).symm), ht⟩) (fun _ h => nomatch h) d_D_countOfKind_13
set_option maxHeartbeats 4000000 in
set_option maxRecDepth 100000 in
/-- now -/
theorem c_D_now (l : Launch) (dC : Nat → ClassId) (dI : Nat → Nat → Nat) (jd jh jh2 jg jb jy : Nat) (sd w : Int64) (cb : ClassId) (B : Nat → Int64)  : Met l y_D_now w_D_now ({ frames := 1, cells := 0, slots := 0, locals := 24 }) (ro_P dC dI [.ref jd] [(jd, .inr (2, [.long sd, .ref jh, .ref jh2, .ref jg, .ref jb, .ref jy, .long w])), (jb, .inl (cb, 8, .inr (.inl B)))] [(cb, .long)]) (vp_Si (fun r => r = vdI w B)) 0 0 (fun _ => False) := by
  refine Met.ofW (cc := b_D_now) (maxL := 1) (ret := (Option.some Jvm.ClassFile.FieldType.int)) (by decide) rfl ?_
  intro p e s m args below meth c s₁ B0 hml hv0
  obtain ⟨rfl, hP, hK, hN⟩ := hv0
  have hx := B0.exec
  have hb := B0.bytes
  have hr := B0.returns
  have hts := atoms_spec (ws := w_D_now) B0.pre
  have hown : s.vm.findClass R_D = some m.cls := findClass_of_methodNamed B0.named
  have hlocks := B0.notSynchronized
  have hP : va_P (dC, dI) classes [(jd, .inr (2, [.long sd, .ref jh, .ref jh2, .ref jg, .ref jb, .ref jy, .long w])), (jb, .inl (cb, 8, .inr (.inl B)))] s.heap := hP
  have hl := lv_entry ([.ref jd]) (n := 1) (Nat.le_of_ble_eq_true rfl)
  rw [lg_entry_eq]
  generalize (lg_sl ([.ref jd]) ++ List.replicate (1 - (lg_sl ([.ref jd])).length) Slot.unset).toArray = ls at hl ⊢
  have hl : lv_has ls 1 [(0, .ref jd)] := hl
  refine lv_aload_n hx hb d_D_now_0 rfl (lv_at hl 0 rfl) ?_
  refine lv_aload_n hx hb d_D_now_1 rfl (lv_at hl 0 rfl) ?_
  refine va_get (D := (dC, dI)) (ci := 2) (v := .long w) (C := R_D) (T := F_D) (N := 7) hx hb hts (lay_D _) hown hK hP 0 rfl rfl 6 (by decide) (hts _ (List.mem_cons_of_mem _ m_62)) (fun _ h9 => h9) rfl d_D_now_2 ?_
  have hPc := hP.sub (ws' := [(jd, .inr (2, [.long sd, .ref jh, .ref jh2, .ref jg, .ref jb, .ref jy, .long w])), (jb, .inl (cb, 8, .inr (.inl B)))]) [0, 1] rfl
  have hKc := hK.sub (tys' := [(cb, .long)]) [0] rfl
  refine vp_callSi (W.runV (As := [.long w]) (rest := []) ⟨hx, hb, hml, hown, hts⟩ (c_D_verdictOf l dC dI jd jh jh2 jg jb jy sd w cb B w) (cwV 1 hts (g_V big_w m_88 m_90 ms_0 m_1 m_91) rfl rfl rfl (by decide +kernel) ⟨Nat.le_of_ble_eq_true rfl, Nat.le_of_ble_eq_true rfl⟩) (ro_V hPc hKc hN (va_recv hKc hPc (ci := 2) (q0 := 0) rfl rfl)) rfl rfl hl.1 rfl (lv_room (Nat.le_of_ble_eq_true rfl)) d_D_now_5 ⟨Nat.le_of_ble_eq_true rfl, Nat.le_of_ble_eq_true rfl⟩) (fun r_1 er_1 => ?_)
  subst er_1
  exact W.iret (v := vdI w B) hx hb hr (fun t ht hW => ⟨vdI w B, rfl, rfl, ht⟩) (fun _ h => nomatch h) d_D_now_8
set_option maxHeartbeats 4000000 in
set_option maxRecDepth 100000 in
/-- left -/
theorem c_D_left (l : Launch) (dC : Nat → ClassId) (dI : Nat → Nat → Nat) (jd jh jh2 jg jb jy : Nat) (sd w : Int64) (jt jk jv jr n : Nat) (p0 : Int32) (hn : n ≤ 43) : Met l y_D_left w_D_left ({ frames := 1, cells := 0, slots := 0, locals := 22 }) (ro_P dC dI [.ref jd, .int p0] [(jd, .inr (2, [.long sd, .ref jh, .ref jh2, .ref jg, .ref jb, .ref jy, .long w])), (jh, .inr (1, [.ref jt, .ref jk, .ref jv, .ref jr, .int (nI n)]))] []) (vp_Si (fun r => r = oI (fst9 (lfQ w p0) n))) 0 0 (fun _ => False) := by
  refine Met.ofW (cc := b_D_left) (maxL := 4) (ret := (Option.some Jvm.ClassFile.FieldType.int)) (by decide) rfl ?_
  intro p e s m args below meth c s₁ B0 hml hv0
  obtain ⟨rfl, hP, hK, hN⟩ := hv0
  have hx := B0.exec
  have hb := B0.bytes
  have hr := B0.returns
  have hts := atoms_spec (ws := w_D_left) B0.pre
  have hown : s.vm.findClass R_D = some m.cls := findClass_of_methodNamed B0.named
  have hlocks := B0.notSynchronized
  have hP : va_P (dC, dI) classes [(jd, .inr (2, [.long sd, .ref jh, .ref jh2, .ref jg, .ref jb, .ref jy, .long w])), (jh, .inr (1, [.ref jt, .ref jk, .ref jv, .ref jr, .int (nI n)]))] s.heap := hP
  have hl := lv_entry ([.ref jd, .int p0]) (n := 4) (Nat.le_of_ble_eq_true rfl)
  rw [lg_entry_eq]
  generalize (lg_sl ([.ref jd, .int p0]) ++ List.replicate (4 - (lg_sl ([.ref jd, .int p0])).length) Slot.unset).toArray = ls at hl ⊢
  have hl : lv_has ls 4 [(0, .ref jd), (1, .int p0)] := hl
  refine lv_iconst (v := nI 0) hx hb d_D_left_0 (by decide +kernel) ?_
  refine lv_istore_n (lv' := [(2, .int (nI 0)), (0, .ref jd), (1, .int p0)]) hx hb d_D_left_1 rfl hl (by decide) rfl (fun ls hl => ?_)
  refine lv_iconst (v := nI 0) hx hb d_D_left_2 (by decide +kernel) ?_
  refine lv_istore_n (lv' := [(3, .int (nI 0)), (2, .int (nI 0)), (0, .ref jd), (1, .int p0)]) hx hb d_D_left_3 rfl hl (by decide) rfl (fun ls hl => ?_)
  have lp_4 : ∀ (k9_4 : Nat), ∀ (i : Nat), n - i < k9_4 → (i ≤ n) → (∀ a, a < i → lfQ w p0 a = false) → ∀ (ls : Array Slot), lv_has ls 4 [(0, .ref jd), (1, .int p0), (2, .int (nI (cnt (wbit w) i))), (3, .int (nI i))] → W p l e (headSpec w_D_left ({ frames := 1, cells := 0, slots := 0, locals := 22 })).room s m ([.ref jd, .int p0]).toArray below meth c s.heap [] 0 0 (MQ below (vp_Si (fun r => r = oI (fst9 (lfQ w p0) n))) ([.ref jd, .int p0]).toArray s 0 0 (fun _ => False)) (F0 m 4 ls []) := by
    intro k9_4
    induction k9_4 with
    | zero =>
      intro i hk9
      exact absurd hk9 (Nat.not_lt_zero _)
    | succ k9_4 ih_4 =>
      intro i hk9_4 hi hno ls hl
      refine lv_iload_n hx hb d_D_left_4 rfl (lv_at hl 3 rfl) ?_
      refine lv_aload_n hx hb d_D_left_5 rfl (lv_at hl 0 rfl) ?_
      refine va_get (D := (dC, dI)) (ci := 2) (v := .ref jh) (C := R_D) (T := F_D) (N := 7) hx hb hts (lay_D _) hown hK hP 0 rfl rfl 1 (by decide) (hts _ (List.mem_cons_of_mem _ m_57)) (fun _ h9 => h9) rfl d_D_left_6 ?_
      refine va_getN (D := (dC, dI)) (ci := 1) (v := .int (nI n)) (C := R_H) (T := F_H) (N := 5) hx hb hts (lay_H _) hown hK hP 1 rfl rfl 4 (by decide) (hN.use (by decide +kernel : (Jvm.Cond.fieldLinkNest "PortDrawer" (62 : Nat) "PortDrawer$Harbour" "parts" "I" "PortDrawer") ∈ NWl)) (fun _ h9 => h9) rfl d_D_left_9 ?_
      refine lv_icmp_ge (tgt := 42) hx hb d_D_left_12 (by decide) (fun c_12 => ?_) (fun c_12 => ?_)
      · skip
        have c_12 := (nI_leI (by omega) (by omega)).mp c_12
        refine lv_iconst (v := (-1)) hx hb d_D_left_42 (by decide +kernel) ?_
        exact W.iret (v := (-1)) hx hb hr (fun t ht hW => ⟨(-1), rfl, (by rw [fst9_none (fun a ha => hno a (by omega))]; rfl), ht⟩) (fun _ h => nomatch h) d_D_left_43
      · skip
        have c_12 := (not_congr (nI_leI (by omega) (by omega))).mp c_12
        refine lv_aload_n hx hb d_D_left_15 rfl (lv_at hl 0 rfl) ?_
        refine va_get (D := (dC, dI)) (ci := 2) (v := .long w) (C := R_D) (T := F_D) (N := 7) hx hb hts (lay_D _) hown hK hP 0 rfl rfl 6 (by decide) (hts _ (List.mem_cons_of_mem _ m_62)) (fun _ h9 => h9) rfl d_D_left_16 ?_
        refine lv_iload_n hx hb d_D_left_19 rfl (lv_at hl 3 rfl) ?_
        have hPc := hP.sub (ws' := []) [] rfl
        have hKc := hK.sub (tys' := []) [] rfl
        refine vp_callSi (W.runS (As := [.long w, .int (nI i)]) (rest := []) ⟨hx, hb, hml, hown, hts⟩ (c_D_isIn l dC dI w i (by first | assumption | omega)) (va_cwS 2 hts (g_S big_w m_114 m_115 m_1 m_116) rfl rfl rfl (by decide +kernel) ⟨Nat.le_of_ble_eq_true rfl, Nat.le_of_ble_eq_true rfl⟩) (ro_S hPc hKc hN) rfl rfl hl.1 rfl (lv_room (Nat.le_of_ble_eq_true rfl)) d_D_left_20 ⟨Nat.le_of_ble_eq_true rfl, Nat.le_of_ble_eq_true rfl⟩) (fun r_1 er_1 => ?_)
        subst er_1
        refine lv_if_eq (tgt := 36) hx hb d_D_left_23 (by decide) (fun c_23 => ?_) (fun c_23 => ?_)
        · skip
          have c_23 := bI_f c_23
          have hq9 : lfQ w p0 i = false := by unfold lfQ; rw [c_23]; rfl
          rw [show nI (cnt (wbit w) i) = nI (cnt (wbit w) (i + 1)) from (by rw [cnt_f (P := wbit w) (n := i) c_23])] at hl
          refine lv_iinc (v := nI (i + 1)) (lv' := [(3, .int (nI (i + 1))), (0, .ref jd), (1, .int p0), (2, .int (nI (cnt (wbit w) (i + 1))))]) hx hb d_D_left_36 hl (k := 3) rfl (nI_1 _) (by decide) rfl (fun ls hl => ?_)
          refine lv_goto (tgt := 4) hx hb d_D_left_39 (by decide) ?_
          exact ih_4 (i + 1) (by omega) (by omega) (lt_s hno hq9) ls (lv_sub (l' := [(0, .ref jd), (1, .int p0), (2, .int (nI (cnt (wbit w) (i + 1)))), (3, .int (nI (i + 1)))]) hl [1, 2, 3, 0] rfl)
        · skip
          have c_23 := bI_t c_23
          refine lv_iload_n hx hb d_D_left_26 rfl (lv_at hl 2 rfl) ?_
          refine lv_iload_n hx hb d_D_left_27 rfl (lv_at hl 1 rfl) ?_
          refine lv_icmp_ne (tgt := 33) hx hb d_D_left_28 (by decide) (fun c_28 => ?_) (fun c_28 => ?_)
          · skip
            have hq9 : lfQ w p0 i = false := by unfold lfQ; rw [decide_eq_false c_28, Bool.and_false]
            refine lv_iinc (v := nI (cnt (wbit w) (i + 1))) (lv' := [(2, .int (nI (cnt (wbit w) (i + 1)))), (0, .ref jd), (1, .int p0), (3, .int (nI i))]) hx hb d_D_left_33 hl (k := 2) rfl (by rw [cnt_t (P := wbit w) (n := i) c_23]; exact nI_1 _) (by decide) rfl (fun ls hl => ?_)
            refine lv_iinc (v := nI (i + 1)) (lv' := [(3, .int (nI (i + 1))), (2, .int (nI (cnt (wbit w) (i + 1)))), (0, .ref jd), (1, .int p0)]) hx hb d_D_left_36 hl (k := 3) rfl (nI_1 _) (by decide) rfl (fun ls hl => ?_)
            refine lv_goto (tgt := 4) hx hb d_D_left_39 (by decide) ?_
            exact ih_4 (i + 1) (by omega) (by omega) (lt_s hno hq9) ls (lv_sub (l' := [(0, .ref jd), (1, .int p0), (2, .int (nI (cnt (wbit w) (i + 1)))), (3, .int (nI (i + 1)))]) hl [2, 3, 1, 0] rfl)
          · skip
            refine lv_iload_n hx hb d_D_left_31 rfl (lv_at hl 3 rfl) ?_
            exact W.iret (v := nI i) hx hb hr (fun t ht hW => ⟨nI i, rfl, (by rw [fst9_some (Q := lfQ w p0) (i := i) (by unfold lfQ; rw [c_23, decide_eq_true c_28]; rfl) hno (by omega)]; rfl), ht⟩) (fun _ h => nomatch h) d_D_left_32
  exact lp_4 ((n - 0) + 1) 0 (by omega) (by omega) lt_0 ls (lv_sub (l' := [(0, .ref jd), (1, .int p0), (2, .int (nI (cnt (wbit w) 0))), (3, .int (nI 0))]) hl [2, 3, 1, 0] rfl)
set_option maxHeartbeats 4000000 in
set_option maxRecDepth 100000 in
/-- minimal -/
theorem c_D_minimal (l : Launch) (dC : Nat → ClassId) (dI : Nat → Nat → Nat) (jd jh jh2 jg jb jy : Nat) (sd w : Int64) (jt jk jv jr n : Nat) (cg cb cy : ClassId) (G B : Nat → Int64) (S : Nat → Bool) (hn : n ≤ 43) : Met l y_D_minimal w_D_minimal ({ frames := 3, cells := 0, slots := 0, locals := 69 }) (ro_P dC dI [.ref jd] [(jd, .inr (2, [.long sd, .ref jh, .ref jh2, .ref jg, .ref jb, .ref jy, .long w])), (jh, .inr (1, [.ref jt, .ref jk, .ref jv, .ref jr, .int (nI n)])), (jg, .inl (cg, 43, .inr (.inl G))), (jb, .inl (cb, 8, .inr (.inl B))), (jy, .inl (cy, 256, .inl (bF S)))] [(cg, .long), (cb, .long), (cy, .boolean)]) (vp_Si (fun r => r = bI (mnB S G B n w))) 0 0 (fun _ => False) := by
  refine Met.ofW (cc := b_D_minimal) (maxL := 1) (ret := (Option.some Jvm.ClassFile.FieldType.boolean)) (by decide) rfl ?_
  intro p e s m args below meth c s₁ B0 hml hv0
  obtain ⟨rfl, hP, hK, hN⟩ := hv0
  have hx := B0.exec
  have hb := B0.bytes
  have hr := B0.returns
  have hts := atoms_spec (ws := w_D_minimal) B0.pre
  have hown : s.vm.findClass R_D = some m.cls := findClass_of_methodNamed B0.named
  have hlocks := B0.notSynchronized
  have hP : va_P (dC, dI) classes [(jd, .inr (2, [.long sd, .ref jh, .ref jh2, .ref jg, .ref jb, .ref jy, .long w])), (jh, .inr (1, [.ref jt, .ref jk, .ref jv, .ref jr, .int (nI n)])), (jg, .inl (cg, 43, .inr (.inl G))), (jb, .inl (cb, 8, .inr (.inl B))), (jy, .inl (cy, 256, .inl (bF S)))] s.heap := hP
  have hl := lv_entry ([.ref jd]) (n := 1) (Nat.le_of_ble_eq_true rfl)
  rw [lg_entry_eq]
  generalize (lg_sl ([.ref jd]) ++ List.replicate (1 - (lg_sl ([.ref jd])).length) Slot.unset).toArray = ls at hl ⊢
  have hl : lv_has ls 1 [(0, .ref jd)] := hl
  refine lv_aload_n hx hb d_D_minimal_0 rfl (lv_at hl 0 rfl) ?_
  refine va_get (D := (dC, dI)) (ci := 2) (v := .long w) (C := R_D) (T := F_D) (N := 7) hx hb hts (lay_D _) hown hK hP 0 rfl rfl 6 (by decide) (hts _ (List.mem_cons_of_mem _ m_62)) (fun _ h9 => h9) rfl d_D_minimal_1 ?_
  refine lv_lconst (v := 0) hx hb d_D_minimal_4 (by decide +kernel) ?_
  refine W.lcmp hx hb d_D_minimal_5 ?_
  refine lv_if_eq (tgt := 32) hx hb d_D_minimal_6 (by decide) (fun c_6 => ?_) (fun c_6 => ?_)
  · skip
    have c_6 := lc_eq.mp c_6
    refine lv_iconst (v := nI 0) hx hb d_D_minimal_32 (by decide +kernel) ?_
    exact W.zret (v := nI 0) (ty := .boolean) hx hb hr (by decide +kernel) (fun t ht hW => ⟨nI 0, rfl, (by simp [mnB, bI, c_6]), ht⟩) (fun _ h => nomatch h) d_D_minimal_33
  · skip
    have c_6 := (not_congr lc_eq).mp c_6
    refine lv_aload_n hx hb d_D_minimal_9 rfl (lv_at hl 0 rfl) ?_
    refine lv_aload_n hx hb d_D_minimal_10 rfl (lv_at hl 0 rfl) ?_
    refine va_get (D := (dC, dI)) (ci := 2) (v := .long w) (C := R_D) (T := F_D) (N := 7) hx hb hts (lay_D _) hown hK hP 0 rfl rfl 6 (by decide) (hts _ (List.mem_cons_of_mem _ m_62)) (fun _ h9 => h9) rfl d_D_minimal_11 ?_
    have hPc := hP.sub (ws' := [(jd, .inr (2, [.long sd, .ref jh, .ref jh2, .ref jg, .ref jb, .ref jy, .long w])), (jb, .inl (cb, 8, .inr (.inl B))), (jy, .inl (cy, 256, .inl (bF S)))]) [0, 3, 4] rfl
    have hKc := hK.sub (tys' := [(cb, .long), (cy, .boolean)]) [1, 2] rfl
    refine vp_callSi (W.runV (As := [.long w]) (rest := []) ⟨hx, hb, hml, hown, hts⟩ (c_D_staysWith l dC dI jd jh jh2 jg jb jy sd w cb cy B S w) (cwV 1 hts (g_V big_w m_96 m_98 ms_1 m_1 m_99) rfl rfl rfl (by decide +kernel) ⟨Nat.le_of_ble_eq_true rfl, Nat.le_of_ble_eq_true rfl⟩) (ro_V hPc hKc hN (va_recv hKc hPc (ci := 2) (q0 := 0) rfl rfl)) rfl rfl hl.1 rfl (lv_room (Nat.le_of_ble_eq_true rfl)) d_D_minimal_14 ⟨Nat.le_of_ble_eq_true rfl, Nat.le_of_ble_eq_true rfl⟩) (fun r_1 er_1 => ?_)
    subst er_1
    refine lv_if_eq (tgt := 32) hx hb d_D_minimal_17 (by decide) (fun c_17 => ?_) (fun c_17 => ?_)
    · skip
      have c_17 := bI_f c_17
      refine lv_iconst (v := nI 0) hx hb d_D_minimal_32 (by decide +kernel) ?_
      exact W.zret (v := nI 0) (ty := .boolean) hx hb hr (by decide +kernel) (fun t ht hW => ⟨nI 0, rfl, (by simp [mnB, bI, c_6, c_17]), ht⟩) (fun _ h => nomatch h) d_D_minimal_33
    · skip
      have c_17 := bI_t c_17
      refine lv_aload_n hx hb d_D_minimal_20 rfl (lv_at hl 0 rfl) ?_
      have hPc := hP.sub (ws' := [(jd, .inr (2, [.long sd, .ref jh, .ref jh2, .ref jg, .ref jb, .ref jy, .long w])), (jh, .inr (1, [.ref jt, .ref jk, .ref jv, .ref jr, .int (nI n)])), (jg, .inl (cg, 43, .inr (.inl G))), (jb, .inl (cb, 8, .inr (.inl B))), (jy, .inl (cy, 256, .inl (bF S)))]) [0, 1, 2, 3, 4] rfl
      have hKc := hK.sub (tys' := [(cg, .long), (cb, .long), (cy, .boolean)]) [0, 1, 2] rfl
      refine vp_callSi (W.runV (As := []) (rest := []) ⟨hx, hb, hml, hown, hts⟩ (c_D_firstThatMayGo l dC dI jd jh jh2 jg jb jy sd w jt jk jv jr n cg cb cy G B S (by first | assumption | omega)) (cwV 0 hts (g_V big_w m_110 m_112 ms_3 m_1 m_113) rfl rfl rfl (by decide +kernel) ⟨Nat.le_of_ble_eq_true rfl, Nat.le_of_ble_eq_true rfl⟩) (ro_V hPc hKc hN (va_recv hKc hPc (ci := 2) (q0 := 0) rfl rfl)) rfl rfl hl.1 rfl (lv_room (Nat.le_of_ble_eq_true rfl)) d_D_minimal_21 ⟨Nat.le_of_ble_eq_true rfl, Nat.le_of_ble_eq_true rfl⟩) (fun r_2 er_2 => ?_)
      subst er_2
      refine lv_iconst (v := (-1)) hx hb d_D_minimal_24 (by decide +kernel) ?_
      refine lv_icmp_ne (tgt := 32) hx hb d_D_minimal_25 (by decide) (fun c_25 => ?_) (fun c_25 => ?_)
      · skip
        refine lv_iconst (v := nI 0) hx hb d_D_minimal_32 (by decide +kernel) ?_
        exact W.zret (v := nI 0) (ty := .boolean) hx hb hr (by decide +kernel) (fun t ht hW => ⟨nI 0, rfl, (by simp [mnB, bI, c_6, c_17, c_25]), ht⟩) (fun _ h => nomatch h) d_D_minimal_33
      · skip
        refine lv_iconst (v := nI 1) hx hb d_D_minimal_28 (by decide +kernel) ?_
        refine lv_goto (tgt := 33) hx hb d_D_minimal_29 (by decide) ?_
        exact W.zret (v := nI 1) (ty := .boolean) hx hb hr (by decide +kernel) (fun t ht hW => ⟨nI 1, rfl, (by simp [mnB, bI, c_6, c_17, c_25]), ht⟩) (fun _ h => nomatch h) d_D_minimal_33
set_option maxHeartbeats 4000000 in
set_option maxRecDepth 100000 in
/-- count -/
theorem c_D_count (l : Launch) (dC : Nat → ClassId) (dI : Nat → Nat → Nat) (jd jh jh2 jg jb jy : Nat) (sd w : Int64) (jt jk jv jr n : Nat) (ck cb cy : ClassId) (K : Nat → Int32) (B : Nat → Int64) (S : Nat → Bool) (p0 : Int32) (hn : n ≤ 43) : Met l y_D_count w_D_count ({ frames := 2, cells := 0, slots := 0, locals := 45 }) (ro_P dC dI [.ref jd, .int p0] [(jd, .inr (2, [.long sd, .ref jh, .ref jh2, .ref jg, .ref jb, .ref jy, .long w])), (jh, .inr (1, [.ref jt, .ref jk, .ref jv, .ref jr, .int (nI n)])), (jk, .inl (ck, 43, .inl K)), (jb, .inl (cb, 8, .inr (.inl B))), (jy, .inl (cy, 256, .inl (bF S)))] [(ck, .int), (cb, .long), (cy, .boolean)]) (vp_Si (fun r => r = ctI n K B S w p0)) 0 0 (fun _ => False) := by
  refine Met.ofW (cc := b_D_count) (maxL := 2) (ret := (Option.some Jvm.ClassFile.FieldType.int)) (by decide) rfl ?_
  intro p e s m args below meth c s₁ B0 hml hv0
  obtain ⟨rfl, hP, hK, hN⟩ := hv0
  have hx := B0.exec
  have hb := B0.bytes
  have hr := B0.returns
  have hts := atoms_spec (ws := w_D_count) B0.pre
  have hown : s.vm.findClass R_D = some m.cls := findClass_of_methodNamed B0.named
  have hlocks := B0.notSynchronized
  have hP : va_P (dC, dI) classes [(jd, .inr (2, [.long sd, .ref jh, .ref jh2, .ref jg, .ref jb, .ref jy, .long w])), (jh, .inr (1, [.ref jt, .ref jk, .ref jv, .ref jr, .int (nI n)])), (jk, .inl (ck, 43, .inl K)), (jb, .inl (cb, 8, .inr (.inl B))), (jy, .inl (cy, 256, .inl (bF S)))] s.heap := hP
  have hl := lv_entry ([.ref jd, .int p0]) (n := 2) (Nat.le_of_ble_eq_true rfl)
  rw [lg_entry_eq]
  generalize (lg_sl ([.ref jd, .int p0]) ++ List.replicate (2 - (lg_sl ([.ref jd, .int p0])).length) Slot.unset).toArray = ls at hl ⊢
  have hl : lv_has ls 2 [(0, .ref jd), (1, .int p0)] := hl
  refine lv_iload_n hx hb d_D_count_0 rfl (lv_at hl 1 rfl) ?_
  by_cases o_1 : p0.toInt < 0 ∨ 4 < p0.toInt
  · skip
    refine lv_tableOut (tgt := 84) hx hb d_D_count_1 o_1 (by decide) ?_
    refine lv_aload_n hx hb d_D_count_84 rfl (lv_at hl 0 rfl) ?_
    refine lv_iload_n hx hb d_D_count_85 rfl (lv_at hl 1 rfl) ?_
    have hPc := hP.sub (ws' := [(jd, .inr (2, [.long sd, .ref jh, .ref jh2, .ref jg, .ref jb, .ref jy, .long w])), (jh, .inr (1, [.ref jt, .ref jk, .ref jv, .ref jr, .int (nI n)])), (jk, .inl (ck, 43, .inl K))]) [0, 1, 2] rfl
    have hKc := hK.sub (tys' := [(ck, .int)]) [0] rfl
    refine vp_callSi (W.runV (As := [.int p0]) (rest := []) ⟨hx, hb, hml, hown, hts⟩ (c_D_countOfKind l dC dI jd jh jh2 jg jb jy sd w jt jk jv jr n ck K p0 (by first | assumption | omega)) (cwV 1 hts (g_V big_w m_142 m_144 ms_7 m_1 m_145) rfl rfl rfl (by decide +kernel) ⟨Nat.le_of_ble_eq_true rfl, Nat.le_of_ble_eq_true rfl⟩) (ro_V hPc hKc hN (va_recv hKc hPc (ci := 2) (q0 := 0) rfl rfl)) rfl rfl hl.1 rfl (lv_room (Nat.le_of_ble_eq_true rfl)) d_D_count_86 ⟨Nat.le_of_ble_eq_true rfl, Nat.le_of_ble_eq_true rfl⟩) (fun r_1 er_1 => ?_)
    subst er_1
    exact W.iret (v := ckI n K p0) hx hb hr (fun t ht hW => ⟨ckI n K p0, rfl, ((ct_o o_1).symm), ht⟩) (fun _ h => nomatch h) d_D_count_89
  · skip
    have o1_1 : ¬ p0.toInt < 0 := fun h => o_1 (Or.inl h)
    have o2_1 : ¬ 4 < p0.toInt := fun h => o_1 (Or.inr h)
    by_cases o_1_0 : p0.toInt = 0
    · skip
      have o3 : p0 = nI 0 := sw_eq o_1_0 (by decide +kernel)
      refine lv_tableIn (tgt := 36) hx hb d_D_count_1 o1_1 o2_1 (by rw [o_1_0]; rfl) (by decide) ?_
      refine lv_aload_n hx hb d_D_count_36 rfl (lv_at hl 0 rfl) ?_
      refine va_get (D := (dC, dI)) (ci := 2) (v := .ref jh) (C := R_D) (T := F_D) (N := 7) hx hb hts (lay_D _) hown hK hP 0 rfl rfl 1 (by decide) (hts _ (List.mem_cons_of_mem _ m_57)) (fun _ h9 => h9) rfl d_D_count_37 ?_
      refine va_getN (D := (dC, dI)) (ci := 1) (v := .int (nI n)) (C := R_H) (T := F_H) (N := 5) hx hb hts (lay_H _) hown hK hP 1 rfl rfl 4 (by decide) (hN.use (by decide +kernel : (Jvm.Cond.fieldLinkNest "PortDrawer" (62 : Nat) "PortDrawer$Harbour" "parts" "I" "PortDrawer") ∈ NWl)) (fun _ h9 => h9) rfl d_D_count_40 ?_
      exact W.iret (v := nI n) hx hb hr (fun t ht hW => ⟨nI n, rfl, (by rw [o3]; exact ct_0.symm), ht⟩) (fun _ h => nomatch h) d_D_count_43
    · skip
      by_cases o_1_1 : p0.toInt = 1
      · skip
        have o3 : p0 = nI 1 := sw_eq o_1_1 (by decide +kernel)
        refine lv_tableIn (tgt := 44) hx hb d_D_count_1 o1_1 o2_1 (by rw [o_1_1]; rfl) (by decide) ?_
        refine lv_aload_n hx hb d_D_count_44 rfl (lv_at hl 0 rfl) ?_
        refine va_get (D := (dC, dI)) (ci := 2) (v := .long w) (C := R_D) (T := F_D) (N := 7) hx hb hts (lay_D _) hown hK hP 0 rfl rfl 6 (by decide) (hts _ (List.mem_cons_of_mem _ m_62)) (fun _ h9 => h9) rfl d_D_count_45 ?_
        have hPc := hP.sub (ws' := []) [] rfl
        have hKc := hK.sub (tys' := []) [] rfl
        refine vp_callSi (W.runS (As := [.long w]) (rest := []) ⟨hx, hb, hml, hown, hts⟩ (c_J_bitCount l dC dI w) (va_cwS 1 hts (g_S big_w m_104 m_105 m_10 m_106) rfl rfl rfl (by decide +kernel) ⟨Nat.le_of_ble_eq_true rfl, Nat.le_of_ble_eq_true rfl⟩) (ro_S hPc hKc hN) rfl rfl hl.1 rfl (lv_room (Nat.le_of_ble_eq_true rfl)) d_D_count_48 ⟨Nat.le_of_ble_eq_true rfl, Nat.le_of_ble_eq_true rfl⟩) (fun r_2 er_2 => ?_)
        subst er_2
        exact W.iret (v := nI (cnt (wbit w) 64)) hx hb hr (fun t ht hW => ⟨nI (cnt (wbit w) 64), rfl, (by rw [o3]; exact ct_1.symm), ht⟩) (fun _ h => nomatch h) d_D_count_51
      · skip
        by_cases o_1_2 : p0.toInt = 2
        · skip
          have o3 : p0 = nI 2 := sw_eq o_1_2 (by decide +kernel)
          refine lv_tableIn (tgt := 52) hx hb d_D_count_1 o1_1 o2_1 (by rw [o_1_2]; rfl) (by decide) ?_
          refine lv_aload_n hx hb d_D_count_52 rfl (lv_at hl 0 rfl) ?_
          refine va_get (D := (dC, dI)) (ci := 2) (v := .ref jh) (C := R_D) (T := F_D) (N := 7) hx hb hts (lay_D _) hown hK hP 0 rfl rfl 1 (by decide) (hts _ (List.mem_cons_of_mem _ m_57)) (fun _ h9 => h9) rfl d_D_count_53 ?_
          refine lv_iconst (v := nI 5) hx hb d_D_count_56 (by decide +kernel) ?_
          refine lv_aload_n hx hb d_D_count_57 rfl (lv_at hl 0 rfl) ?_
          refine va_get (D := (dC, dI)) (ci := 2) (v := .ref jh) (C := R_D) (T := F_D) (N := 7) hx hb hts (lay_D _) hown hK hP 0 rfl rfl 1 (by decide) (hts _ (List.mem_cons_of_mem _ m_57)) (fun _ h9 => h9) rfl d_D_count_58 ?_
          refine va_getN (D := (dC, dI)) (ci := 1) (v := .int (nI n)) (C := R_H) (T := F_H) (N := 5) hx hb hts (lay_H _) hown hK hP 1 rfl rfl 4 (by decide) (hN.use (by decide +kernel : (Jvm.Cond.fieldLinkNest "PortDrawer" (62 : Nat) "PortDrawer$Harbour" "parts" "I" "PortDrawer") ∈ NWl)) (fun _ h9 => h9) rfl d_D_count_61 ?_
          have hPc := hP.sub (ws' := [(jh, .inr (1, [.ref jt, .ref jk, .ref jv, .ref jr, .int (nI n)])), (jk, .inl (ck, 43, .inl K))]) [1, 2] rfl
          have hKc := hK.sub (tys' := [(ck, .int)]) [0] rfl
          refine vp_callSi (va_Run.run (va_runVN (As := [.int (nI 5), .int (nI n)]) (rest := []) ⟨hx, hb, hml, hown, hts⟩ (c_H_ofKindAheadOf l dC dI jh jt jk jv jr n ck K (nI 5) n (by first | assumption | omega) (by first | assumption | omega)) ⟨va_cnB 2 hts (g_c big_w m_137) rfl rfl rfl (hN _ (by decide +kernel : (Jvm.Cond.methodLinkNest "PortDrawer" (78 : Nat) ({ cls := "PortDrawer$Harbour", name := "ofKindAheadOf", desc := "(II)I" } : Jvm.MethodName) "PortDrawer") ∈ NWl)) (hts _ (List.mem_cons_of_mem _ m_2)) (by decide +kernel) ⟨Nat.le_of_ble_eq_true rfl, Nat.le_of_ble_eq_true rfl⟩, (hts _ (List.mem_cons_of_mem _ m_136)), (hts _ (List.mem_cons_of_mem _ ms_5))⟩ (ro_V hPc hKc hN (va_recv hKc hPc (ci := 1) (q0 := 0) rfl rfl)) rfl rfl hl.1 rfl (lv_room (Nat.le_of_ble_eq_true rfl)) d_D_count_64 ⟨Nat.le_of_ble_eq_true rfl, Nat.le_of_ble_eq_true rfl⟩)) (fun r_3 er_3 => ?_)
          subst er_3
          exact W.iret (v := nI (cnt (kP K (nI 5)) n)) hx hb hr (fun t ht hW => ⟨nI (cnt (kP K (nI 5)) n), rfl, (by rw [o3]; exact ct_2.symm), ht⟩) (fun _ h => nomatch h) d_D_count_67
        · skip
          by_cases o_1_3 : p0.toInt = 3
          · skip
            have o3 : p0 = nI 3 := sw_eq o_1_3 (by decide +kernel)
            refine lv_tableIn (tgt := 68) hx hb d_D_count_1 o1_1 o2_1 (by rw [o_1_3]; rfl) (by decide) ?_
            refine lv_aload_n hx hb d_D_count_68 rfl (lv_at hl 0 rfl) ?_
            refine va_get (D := (dC, dI)) (ci := 2) (v := .ref jb) (C := R_D) (T := F_D) (N := 7) hx hb hts (lay_D _) hown hK hP 0 rfl rfl 4 (by decide) (hts _ (List.mem_cons_of_mem _ m_60)) (fun _ h9 => h9) rfl d_D_count_69 ?_
            refine lv_bipush (v := nI 7) hx hb d_D_count_72 (by decide +kernel) ?_
            refine va_lald hx hb hK hP 3 1 rfl rfl (vp_in_nI (by omega) (by omega)) d_D_count_74 ?_
            refine lv_topl (fun w_4 ew_4 => ?_)
            rw [nI_clamp (by omega)] at ew_4
            subst ew_4
            have hPc := hP.sub (ws' := []) [] rfl
            have hKc := hK.sub (tys' := []) [] rfl
            refine vp_callSi (W.runS (As := [.long (B 7)]) (rest := []) ⟨hx, hb, hml, hown, hts⟩ (c_J_bitCount l dC dI (B 7)) (va_cwS 1 hts (g_S big_w m_104 m_105 m_10 m_106) rfl rfl rfl (by decide +kernel) ⟨Nat.le_of_ble_eq_true rfl, Nat.le_of_ble_eq_true rfl⟩) (ro_S hPc hKc hN) rfl rfl hl.1 rfl (lv_room (Nat.le_of_ble_eq_true rfl)) d_D_count_75 ⟨Nat.le_of_ble_eq_true rfl, Nat.le_of_ble_eq_true rfl⟩) (fun r_5 er_5 => ?_)
            subst er_5
            exact W.iret (v := nI (cnt (wbit (B 7)) 64)) hx hb hr (fun t ht hW => ⟨nI (cnt (wbit (B 7)) 64), rfl, (by rw [o3]; exact ct_3.symm), ht⟩) (fun _ h => nomatch h) d_D_count_78
          · skip
            have o_1_4 : p0.toInt = 4 := by omega
            have o3 : p0 = nI 4 := sw_eq o_1_4 (by decide +kernel)
            refine lv_tableIn (tgt := 79) hx hb d_D_count_1 o1_1 o2_1 (by rw [o_1_4]; rfl) (by decide) ?_
            refine lv_aload_n hx hb d_D_count_79 rfl (lv_at hl 0 rfl) ?_
            have hPc := hP.sub (ws' := [(jd, .inr (2, [.long sd, .ref jh, .ref jh2, .ref jg, .ref jb, .ref jy, .long w])), (jy, .inl (cy, 256, .inl (bF S)))]) [0, 4] rfl
            have hKc := hK.sub (tys' := [(cy, .boolean)]) [2] rfl
            refine vp_callSi (W.runV (As := []) (rest := []) ⟨hx, hb, hml, hown, hts⟩ (c_D_verdictsThatStay l dC dI jd jh jh2 jg jb jy sd w cy S) (cwV 0 hts (g_V big_w m_138 m_140 ms_6 m_1 m_141) rfl rfl rfl (by decide +kernel) ⟨Nat.le_of_ble_eq_true rfl, Nat.le_of_ble_eq_true rfl⟩) (ro_V hPc hKc hN (va_recv hKc hPc (ci := 2) (q0 := 0) rfl rfl)) rfl rfl hl.1 rfl (lv_room (Nat.le_of_ble_eq_true rfl)) d_D_count_80 ⟨Nat.le_of_ble_eq_true rfl, Nat.le_of_ble_eq_true rfl⟩) (fun r_6 er_6 => ?_)
            subst er_6
            exact W.iret (v := nI (cnt S 256)) hx hb hr (fun t ht hW => ⟨nI (cnt S 256), rfl, (by rw [o3]; exact ct_4.symm), ht⟩) (fun _ h => nomatch h) d_D_count_83
end
section
theorem m_271 : (Jvm.Cond.code ({ cls := "PortDrawer$Harbour", name := "isFittingAct", desc := "(I)Z" } : Jvm.MethodName) prog_2_method_8_code (3 : Nat) (Option.some Jvm.ClassFile.FieldType.boolean)) ∈ tblG := m_t (i := 271) rfl rfl
theorem ms_18 : Cond.selects "PortDrawer$Harbour" ⟨"PortDrawer$Harbour", "isFittingAct", "(I)Z"⟩ ⟨"PortDrawer$Harbour", "isFittingAct", "(I)Z"⟩ ∈ tblG := m_s (i := 18) rfl rfl
theorem m_270 : (Jvm.Cond.instanceMethod ({ cls := "PortDrawer$Harbour", name := "isFittingAct", desc := "(I)Z" } : Jvm.MethodName)) ∈ tblG := m_t (i := 270) rfl rfl
theorem m_103 : (Jvm.Cond.code ({ cls := "PortDrawer", name := "allParts", desc := "()J" } : Jvm.MethodName) prog_1_method_15_code (1 : Nat) (Option.some Jvm.ClassFile.FieldType.long)) ∈ tblG := m_t (i := 103) rfl rfl
theorem ms_2 : Cond.selects "PortDrawer" ⟨"PortDrawer", "allParts", "()J"⟩ ⟨"PortDrawer", "allParts", "()J"⟩ ∈ tblG := m_s (i := 2) rfl rfl
theorem m_100 : (Jvm.Cond.methodLink "PortDrawer" (58 : Nat) ({ cls := "PortDrawer", name := "allParts", desc := "()J" } : Jvm.MethodName)) ∈ tblG := m_t (i := 100) rfl rfl
theorem m_102 : (Jvm.Cond.instanceMethod ({ cls := "PortDrawer", name := "allParts", desc := "()J" } : Jvm.MethodName)) ∈ tblG := m_t (i := 102) rfl rfl
theorem m_16 : (Jvm.Cond.methodLink "PortDrawer" (1 : Nat) ({ cls := "java/lang/Object", name := "<init>", desc := "()V" } : Jvm.MethodName)) ∈ tblG := m_t (i := 16) rfl rfl
theorem m_19 : (Jvm.Cond.classLink "PortDrawer" (7 : Nat) "PortDrawer$Harbour") ∈ tblG := m_t (i := 19) rfl rfl
theorem m_20 : (Jvm.Cond.instantiable "PortDrawer$Harbour" (5 : Nat)) ∈ tblG := m_t (i := 20) rfl rfl
theorem m_23 : (Jvm.Cond.code ({ cls := "PortDrawer$Harbour", name := "<init>", desc := "()V" } : Jvm.MethodName) prog_2_method_1_code (1 : Nat) (Option.none : Option Jvm.ClassFile.FieldType)) ∈ tblG := m_t (i := 23) rfl rfl
theorem m_22 : (Jvm.Cond.instanceMethod ({ cls := "PortDrawer$Harbour", name := "<init>", desc := "()V" } : Jvm.MethodName)) ∈ tblG := m_t (i := 22) rfl rfl
theorem m_58 : (Jvm.Cond.fieldLink "PortDrawer" (16 : Nat) "PortDrawer" "otherHarbour" "LPortDrawer$Harbour;") ∈ tblG := m_t (i := 58) rfl rfl
theorem m_78 : (Jvm.Cond.arrayClass Jvm.ClassFile.FieldType.long) ∈ tblG := m_t (i := 78) rfl rfl
theorem m_79 : (Jvm.Cond.arrayClass Jvm.ClassFile.FieldType.boolean) ∈ tblG := m_t (i := 79) rfl rfl
theorem m_56 : (Jvm.Cond.fieldLink "PortDrawer" (34 : Nat) "PortDrawer" "seed" "J") ∈ tblG := m_t (i := 56) rfl rfl
theorem d_D_verdict_0 : decode b_D_verdict 0 = .ok (.iload_n 1, 1) := by decide +kernel
theorem d_D_verdict_1 : decode b_D_verdict 1 = .ok (.ifCond .lt 20, 3) := by decide +kernel
theorem d_D_verdict_4 : decode b_D_verdict 4 = .ok (.iload_n 1, 1) := by decide +kernel
theorem d_D_verdict_5 : decode b_D_verdict 5 = .ok (.sipush 256, 3) := by decide +kernel
theorem d_D_verdict_8 : decode b_D_verdict 8 = .ok (.if_icmp .ge 13, 3) := by decide +kernel
theorem d_D_verdict_11 : decode b_D_verdict 11 = .ok (.aload_n 0, 1) := by decide +kernel
theorem d_D_verdict_12 : decode b_D_verdict 12 = .ok (.getfield 26, 3) := by decide +kernel
theorem d_D_verdict_15 : decode b_D_verdict 15 = .ok (.iload_n 1, 1) := by decide +kernel
theorem d_D_verdict_16 : decode b_D_verdict 16 = .ok (.baload, 1) := by decide +kernel
theorem d_D_verdict_17 : decode b_D_verdict 17 = .ok (.iload_n 2, 1) := by decide +kernel
theorem d_D_verdict_18 : decode b_D_verdict 18 = .ok (.if_icmp .ne 5, 3) := by decide +kernel
theorem d_D_verdict_21 : decode b_D_verdict 21 = .ok (.iconst 0, 1) := by decide +kernel
theorem d_D_verdict_22 : decode b_D_verdict 22 = .ok (.ireturn, 1) := by decide +kernel
theorem d_D_verdict_23 : decode b_D_verdict 23 = .ok (.aload_n 0, 1) := by decide +kernel
theorem d_D_verdict_24 : decode b_D_verdict 24 = .ok (.getfield 26, 3) := by decide +kernel
theorem d_D_verdict_27 : decode b_D_verdict 27 = .ok (.iload_n 1, 1) := by decide +kernel
theorem d_D_verdict_28 : decode b_D_verdict 28 = .ok (.iload_n 2, 1) := by decide +kernel
theorem d_D_verdict_29 : decode b_D_verdict 29 = .ok (.bastore, 1) := by decide +kernel
theorem d_D_verdict_30 : decode b_D_verdict 30 = .ok (.iconst 1, 1) := by decide +kernel
theorem d_D_verdict_31 : decode b_D_verdict 31 = .ok (.ireturn, 1) := by decide +kernel
theorem d_D_noteGoingWith_0 : decode b_D_noteGoingWith 0 = .ok (.iconst 0, 1) := by decide +kernel
theorem d_D_noteGoingWith_1 : decode b_D_noteGoingWith 1 = .ok (.istore_n 1, 1) := by decide +kernel
theorem d_D_noteGoingWith_2 : decode b_D_noteGoingWith 2 = .ok (.iload_n 1, 1) := by decide +kernel
theorem d_D_noteGoingWith_3 : decode b_D_noteGoingWith 3 = .ok (.aload_n 0, 1) := by decide +kernel
theorem d_D_noteGoingWith_4 : decode b_D_noteGoingWith 4 = .ok (.getfield 10, 3) := by decide +kernel
theorem d_D_noteGoingWith_7 : decode b_D_noteGoingWith 7 = .ok (.getfield 62, 3) := by decide +kernel
theorem d_D_noteGoingWith_10 : decode b_D_noteGoingWith 10 = .ok (.if_icmp .ge 18, 3) := by decide +kernel
theorem d_D_noteGoingWith_13 : decode b_D_noteGoingWith 13 = .ok (.aload_n 0, 1) := by decide +kernel
theorem d_D_noteGoingWith_14 : decode b_D_noteGoingWith 14 = .ok (.getfield 19, 3) := by decide +kernel
theorem d_D_noteGoingWith_17 : decode b_D_noteGoingWith 17 = .ok (.iload_n 1, 1) := by decide +kernel
theorem d_D_noteGoingWith_18 : decode b_D_noteGoingWith 18 = .ok (.lconst 1, 1) := by decide +kernel
theorem d_D_noteGoingWith_19 : decode b_D_noteGoingWith 19 = .ok (.iload_n 1, 1) := by decide +kernel
theorem d_D_noteGoingWith_20 : decode b_D_noteGoingWith 20 = .ok (.lshl, 1) := by decide +kernel
theorem d_D_noteGoingWith_21 : decode b_D_noteGoingWith 21 = .ok (.lastore, 1) := by decide +kernel
theorem d_D_noteGoingWith_22 : decode b_D_noteGoingWith 22 = .ok (.iinc 1 1, 3) := by decide +kernel
theorem d_D_noteGoingWith_25 : decode b_D_noteGoingWith 25 = .ok (.goto (-23), 3) := by decide +kernel
theorem d_D_noteGoingWith_28 : decode b_D_noteGoingWith 28 = .ok (.aload_n 0, 1) := by decide +kernel
theorem d_D_noteGoingWith_29 : decode b_D_noteGoingWith 29 = .ok (.getfield 10, 3) := by decide +kernel
theorem d_D_noteGoingWith_32 : decode b_D_noteGoingWith 32 = .ok (.getfield 62, 3) := by decide +kernel
theorem d_D_noteGoingWith_35 : decode b_D_noteGoingWith 35 = .ok (.iconst 1, 1) := by decide +kernel
theorem d_D_noteGoingWith_36 : decode b_D_noteGoingWith 36 = .ok (.isub, 1) := by decide +kernel
theorem d_D_noteGoingWith_37 : decode b_D_noteGoingWith 37 = .ok (.istore_n 1, 1) := by decide +kernel
theorem d_D_noteGoingWith_38 : decode b_D_noteGoingWith 38 = .ok (.iload_n 1, 1) := by decide +kernel
theorem d_D_noteGoingWith_39 : decode b_D_noteGoingWith 39 = .ok (.ifCond .lt 45, 3) := by decide +kernel
theorem d_D_noteGoingWith_42 : decode b_D_noteGoingWith 42 = .ok (.aload_n 0, 1) := by decide +kernel
theorem d_D_noteGoingWith_43 : decode b_D_noteGoingWith 43 = .ok (.getfield 10, 3) := by decide +kernel
theorem d_D_noteGoingWith_46 : decode b_D_noteGoingWith 46 = .ok (.getfield 85, 3) := by decide +kernel
theorem d_D_noteGoingWith_49 : decode b_D_noteGoingWith 49 = .ok (.iload_n 1, 1) := by decide +kernel
theorem d_D_noteGoingWith_50 : decode b_D_noteGoingWith 50 = .ok (.iaload, 1) := by decide +kernel
theorem d_D_noteGoingWith_51 : decode b_D_noteGoingWith 51 = .ok (.istore_n 2, 1) := by decide +kernel
theorem d_D_noteGoingWith_52 : decode b_D_noteGoingWith 52 = .ok (.aload_n 0, 1) := by decide +kernel
theorem d_D_noteGoingWith_53 : decode b_D_noteGoingWith 53 = .ok (.getfield 10, 3) := by decide +kernel
theorem d_D_noteGoingWith_56 : decode b_D_noteGoingWith 56 = .ok (.iload_n 2, 1) := by decide +kernel
theorem d_D_noteGoingWith_57 : decode b_D_noteGoingWith 57 = .ok (.invokevirtual 66, 3) := by decide +kernel
theorem d_D_noteGoingWith_60 : decode b_D_noteGoingWith 60 = .ok (.ifCond .eq 18, 3) := by decide +kernel
theorem d_D_noteGoingWith_63 : decode b_D_noteGoingWith 63 = .ok (.aload_n 0, 1) := by decide +kernel
theorem d_D_noteGoingWith_64 : decode b_D_noteGoingWith 64 = .ok (.getfield 19, 3) := by decide +kernel
theorem d_D_noteGoingWith_67 : decode b_D_noteGoingWith 67 = .ok (.iload_n 2, 1) := by decide +kernel
theorem d_D_noteGoingWith_68 : decode b_D_noteGoingWith 68 = .ok (.dup2, 1) := by decide +kernel
theorem d_D_noteGoingWith_69 : decode b_D_noteGoingWith 69 = .ok (.laload, 1) := by decide +kernel
theorem d_D_noteGoingWith_70 : decode b_D_noteGoingWith 70 = .ok (.aload_n 0, 1) := by decide +kernel
theorem d_D_noteGoingWith_71 : decode b_D_noteGoingWith 71 = .ok (.getfield 19, 3) := by decide +kernel
theorem d_D_noteGoingWith_74 : decode b_D_noteGoingWith 74 = .ok (.iload_n 1, 1) := by decide +kernel
theorem d_D_noteGoingWith_75 : decode b_D_noteGoingWith 75 = .ok (.laload, 1) := by decide +kernel
theorem d_D_noteGoingWith_76 : decode b_D_noteGoingWith 76 = .ok (.lor, 1) := by decide +kernel
theorem d_D_noteGoingWith_77 : decode b_D_noteGoingWith 77 = .ok (.lastore, 1) := by decide +kernel
theorem d_D_noteGoingWith_78 : decode b_D_noteGoingWith 78 = .ok (.iinc 1 (-1), 3) := by decide +kernel
theorem d_D_noteGoingWith_81 : decode b_D_noteGoingWith 81 = .ok (.goto (-43), 3) := by decide +kernel
theorem d_D_noteGoingWith_84 : decode b_D_noteGoingWith 84 = .ok (.return_, 1) := by decide +kernel
theorem d_D_notePartsOfBits_0 : decode b_D_notePartsOfBits 0 = .ok (.iconst 0, 1) := by decide +kernel
theorem d_D_notePartsOfBits_1 : decode b_D_notePartsOfBits 1 = .ok (.istore_n 1, 1) := by decide +kernel
theorem d_D_notePartsOfBits_2 : decode b_D_notePartsOfBits 2 = .ok (.iload_n 1, 1) := by decide +kernel
theorem d_D_notePartsOfBits_3 : decode b_D_notePartsOfBits 3 = .ok (.bipush 8, 2) := by decide +kernel
theorem d_D_notePartsOfBits_5 : decode b_D_notePartsOfBits 5 = .ok (.if_icmp .ge 16, 3) := by decide +kernel
theorem d_D_notePartsOfBits_8 : decode b_D_notePartsOfBits 8 = .ok (.aload_n 0, 1) := by decide +kernel
theorem d_D_notePartsOfBits_9 : decode b_D_notePartsOfBits 9 = .ok (.getfield 23, 3) := by decide +kernel
theorem d_D_notePartsOfBits_12 : decode b_D_notePartsOfBits 12 = .ok (.iload_n 1, 1) := by decide +kernel
theorem d_D_notePartsOfBits_13 : decode b_D_notePartsOfBits 13 = .ok (.lconst 0, 1) := by decide +kernel
theorem d_D_notePartsOfBits_14 : decode b_D_notePartsOfBits 14 = .ok (.lastore, 1) := by decide +kernel
theorem d_D_notePartsOfBits_15 : decode b_D_notePartsOfBits 15 = .ok (.iinc 1 1, 3) := by decide +kernel
theorem d_D_notePartsOfBits_18 : decode b_D_notePartsOfBits 18 = .ok (.goto (-16), 3) := by decide +kernel
theorem d_D_notePartsOfBits_21 : decode b_D_notePartsOfBits 21 = .ok (.iconst 0, 1) := by decide +kernel
theorem d_D_notePartsOfBits_22 : decode b_D_notePartsOfBits 22 = .ok (.istore_n 1, 1) := by decide +kernel
theorem d_D_notePartsOfBits_23 : decode b_D_notePartsOfBits 23 = .ok (.iload_n 1, 1) := by decide +kernel
theorem d_D_notePartsOfBits_24 : decode b_D_notePartsOfBits 24 = .ok (.aload_n 0, 1) := by decide +kernel
theorem d_D_notePartsOfBits_25 : decode b_D_notePartsOfBits 25 = .ok (.getfield 10, 3) := by decide +kernel
theorem d_D_notePartsOfBits_28 : decode b_D_notePartsOfBits 28 = .ok (.getfield 62, 3) := by decide +kernel
theorem d_D_notePartsOfBits_31 : decode b_D_notePartsOfBits 31 = .ok (.if_icmp .ge 79, 3) := by decide +kernel
theorem d_D_notePartsOfBits_34 : decode b_D_notePartsOfBits 34 = .ok (.aload_n 0, 1) := by decide +kernel
theorem d_D_notePartsOfBits_35 : decode b_D_notePartsOfBits 35 = .ok (.getfield 10, 3) := by decide +kernel
theorem d_D_notePartsOfBits_38 : decode b_D_notePartsOfBits 38 = .ok (.getfield 74, 3) := by decide +kernel
theorem d_D_notePartsOfBits_41 : decode b_D_notePartsOfBits 41 = .ok (.iload_n 1, 1) := by decide +kernel
theorem d_D_notePartsOfBits_42 : decode b_D_notePartsOfBits 42 = .ok (.iaload, 1) := by decide +kernel
theorem d_D_notePartsOfBits_43 : decode b_D_notePartsOfBits 43 = .ok (.istore_n 2, 1) := by decide +kernel
theorem d_D_notePartsOfBits_44 : decode b_D_notePartsOfBits 44 = .ok (.aload_n 0, 1) := by decide +kernel
theorem d_D_notePartsOfBits_45 : decode b_D_notePartsOfBits 45 = .ok (.getfield 10, 3) := by decide +kernel
theorem d_D_notePartsOfBits_48 : decode b_D_notePartsOfBits 48 = .ok (.getfield 82, 3) := by decide +kernel
theorem d_D_notePartsOfBits_51 : decode b_D_notePartsOfBits 51 = .ok (.iload_n 1, 1) := by decide +kernel
theorem d_D_notePartsOfBits_52 : decode b_D_notePartsOfBits 52 = .ok (.iaload, 1) := by decide +kernel
theorem d_D_notePartsOfBits_53 : decode b_D_notePartsOfBits 53 = .ok (.bipush 50, 2) := by decide +kernel
theorem d_D_notePartsOfBits_55 : decode b_D_notePartsOfBits 55 = .ok (.if_icmp .lt 25, 3) := by decide +kernel
theorem d_D_notePartsOfBits_58 : decode b_D_notePartsOfBits 58 = .ok (.iload_n 2, 1) := by decide +kernel
theorem d_D_notePartsOfBits_59 : decode b_D_notePartsOfBits 59 = .ok (.ifCond .lt 21, 3) := by decide +kernel
theorem d_D_notePartsOfBits_62 : decode b_D_notePartsOfBits 62 = .ok (.iload_n 2, 1) := by decide +kernel
theorem d_D_notePartsOfBits_63 : decode b_D_notePartsOfBits 63 = .ok (.bipush 7, 2) := by decide +kernel
theorem d_D_notePartsOfBits_65 : decode b_D_notePartsOfBits 65 = .ok (.if_icmp .ge 15, 3) := by decide +kernel
theorem d_D_notePartsOfBits_68 : decode b_D_notePartsOfBits 68 = .ok (.aload_n 0, 1) := by decide +kernel
theorem d_D_notePartsOfBits_69 : decode b_D_notePartsOfBits 69 = .ok (.getfield 23, 3) := by decide +kernel
theorem d_D_notePartsOfBits_72 : decode b_D_notePartsOfBits 72 = .ok (.iload_n 2, 1) := by decide +kernel
theorem d_D_notePartsOfBits_73 : decode b_D_notePartsOfBits 73 = .ok (.dup2, 1) := by decide +kernel
theorem d_D_notePartsOfBits_74 : decode b_D_notePartsOfBits 74 = .ok (.laload, 1) := by decide +kernel
theorem d_D_notePartsOfBits_75 : decode b_D_notePartsOfBits 75 = .ok (.lconst 1, 1) := by decide +kernel
theorem d_D_notePartsOfBits_76 : decode b_D_notePartsOfBits 76 = .ok (.iload_n 1, 1) := by decide +kernel
theorem d_D_notePartsOfBits_77 : decode b_D_notePartsOfBits 77 = .ok (.lshl, 1) := by decide +kernel
theorem d_D_notePartsOfBits_78 : decode b_D_notePartsOfBits 78 = .ok (.lor, 1) := by decide +kernel
theorem d_D_notePartsOfBits_79 : decode b_D_notePartsOfBits 79 = .ok (.lastore, 1) := by decide +kernel
theorem d_D_notePartsOfBits_80 : decode b_D_notePartsOfBits 80 = .ok (.aload_n 0, 1) := by decide +kernel
theorem d_D_notePartsOfBits_81 : decode b_D_notePartsOfBits 81 = .ok (.getfield 10, 3) := by decide +kernel
theorem d_D_notePartsOfBits_84 : decode b_D_notePartsOfBits 84 = .ok (.iload_n 1, 1) := by decide +kernel
theorem d_D_notePartsOfBits_85 : decode b_D_notePartsOfBits 85 = .ok (.invokevirtual 99, 3) := by decide +kernel
theorem d_D_notePartsOfBits_88 : decode b_D_notePartsOfBits 88 = .ok (.ifCond .eq 16, 3) := by decide +kernel
theorem d_D_notePartsOfBits_91 : decode b_D_notePartsOfBits 91 = .ok (.aload_n 0, 1) := by decide +kernel
theorem d_D_notePartsOfBits_92 : decode b_D_notePartsOfBits 92 = .ok (.getfield 23, 3) := by decide +kernel
theorem d_D_notePartsOfBits_95 : decode b_D_notePartsOfBits 95 = .ok (.bipush 7, 2) := by decide +kernel
theorem d_D_notePartsOfBits_97 : decode b_D_notePartsOfBits 97 = .ok (.dup2, 1) := by decide +kernel
theorem d_D_notePartsOfBits_98 : decode b_D_notePartsOfBits 98 = .ok (.laload, 1) := by decide +kernel
theorem d_D_notePartsOfBits_99 : decode b_D_notePartsOfBits 99 = .ok (.lconst 1, 1) := by decide +kernel
theorem d_D_notePartsOfBits_100 : decode b_D_notePartsOfBits 100 = .ok (.iload_n 1, 1) := by decide +kernel
theorem d_D_notePartsOfBits_101 : decode b_D_notePartsOfBits 101 = .ok (.lshl, 1) := by decide +kernel
theorem d_D_notePartsOfBits_102 : decode b_D_notePartsOfBits 102 = .ok (.lor, 1) := by decide +kernel
theorem d_D_notePartsOfBits_103 : decode b_D_notePartsOfBits 103 = .ok (.lastore, 1) := by decide +kernel
theorem d_D_notePartsOfBits_104 : decode b_D_notePartsOfBits 104 = .ok (.iinc 1 1, 3) := by decide +kernel
theorem d_D_notePartsOfBits_107 : decode b_D_notePartsOfBits 107 = .ok (.goto (-84), 3) := by decide +kernel
theorem d_D_notePartsOfBits_110 : decode b_D_notePartsOfBits 110 = .ok (.return_, 1) := by decide +kernel
theorem d_D_shorter_0 : decode b_D_shorter 0 = .ok (.aload_n 0, 1) := by decide +kernel
theorem d_D_shorter_1 : decode b_D_shorter 1 = .ok (.aload_n 0, 1) := by decide +kernel
theorem d_D_shorter_2 : decode b_D_shorter 2 = .ok (.getfield 30, 3) := by decide +kernel
theorem d_D_shorter_5 : decode b_D_shorter 5 = .ok (.invokevirtual 106, 3) := by decide +kernel
theorem d_D_shorter_8 : decode b_D_shorter 8 = .ok (.ifCond .ne 19, 3) := by decide +kernel
theorem d_D_shorter_11 : decode b_D_shorter 11 = .ok (.aload_n 0, 1) := by decide +kernel
theorem d_D_shorter_12 : decode b_D_shorter 12 = .ok (.aload_n 0, 1) := by decide +kernel
theorem d_D_shorter_13 : decode b_D_shorter 13 = .ok (.invokevirtual 58, 3) := by decide +kernel
theorem d_D_shorter_16 : decode b_D_shorter 16 = .ok (.putfield 30, 3) := by decide +kernel
theorem d_D_shorter_19 : decode b_D_shorter 19 = .ok (.aload_n 0, 1) := by decide +kernel
theorem d_D_shorter_20 : decode b_D_shorter 20 = .ok (.getfield 30, 3) := by decide +kernel
theorem d_D_shorter_23 : decode b_D_shorter 23 = .ok (.invokestatic 110, 3) := by decide +kernel
theorem d_D_shorter_26 : decode b_D_shorter 26 = .ok (.ireturn, 1) := by decide +kernel
theorem d_D_shorter_27 : decode b_D_shorter 27 = .ok (.iconst 0, 1) := by decide +kernel
theorem d_D_shorter_28 : decode b_D_shorter 28 = .ok (.istore_n 1, 1) := by decide +kernel
theorem d_D_shorter_29 : decode b_D_shorter 29 = .ok (.iload_n 1, 1) := by decide +kernel
theorem d_D_shorter_30 : decode b_D_shorter 30 = .ok (.bipush 43, 2) := by decide +kernel
theorem d_D_shorter_32 : decode b_D_shorter 32 = .ok (.if_icmp .ge 31, 3) := by decide +kernel
theorem d_D_shorter_35 : decode b_D_shorter 35 = .ok (.aload_n 0, 1) := by decide +kernel
theorem d_D_shorter_36 : decode b_D_shorter 36 = .ok (.invokevirtual 115, 3) := by decide +kernel
theorem d_D_shorter_39 : decode b_D_shorter 39 = .ok (.istore_n 2, 1) := by decide +kernel
theorem d_D_shorter_40 : decode b_D_shorter 40 = .ok (.iload_n 2, 1) := by decide +kernel
theorem d_D_shorter_41 : decode b_D_shorter 41 = .ok (.iconst (-1), 1) := by decide +kernel
theorem d_D_shorter_42 : decode b_D_shorter 42 = .ok (.if_icmp .ne 6, 3) := by decide +kernel
theorem d_D_shorter_45 : decode b_D_shorter 45 = .ok (.goto 18, 3) := by decide +kernel
theorem d_D_shorter_48 : decode b_D_shorter 48 = .ok (.aload_n 0, 1) := by decide +kernel
theorem d_D_shorter_49 : decode b_D_shorter 49 = .ok (.aload_n 0, 1) := by decide +kernel
theorem d_D_shorter_50 : decode b_D_shorter 50 = .ok (.iload_n 2, 1) := by decide +kernel
theorem d_D_shorter_51 : decode b_D_shorter 51 = .ok (.invokevirtual 119, 3) := by decide +kernel
theorem d_D_shorter_54 : decode b_D_shorter 54 = .ok (.putfield 30, 3) := by decide +kernel
theorem d_D_shorter_57 : decode b_D_shorter 57 = .ok (.iinc 1 1, 3) := by decide +kernel
theorem d_D_shorter_60 : decode b_D_shorter 60 = .ok (.goto (-31), 3) := by decide +kernel
theorem d_D_shorter_63 : decode b_D_shorter 63 = .ok (.aload_n 0, 1) := by decide +kernel
theorem d_D_shorter_64 : decode b_D_shorter 64 = .ok (.getfield 30, 3) := by decide +kernel
theorem d_D_shorter_67 : decode b_D_shorter 67 = .ok (.invokestatic 110, 3) := by decide +kernel
theorem d_D_shorter_70 : decode b_D_shorter 70 = .ok (.ireturn, 1) := by decide +kernel
theorem d_D_init_0 : decode b_D_init 0 = .ok (.aload_n 0, 1) := by decide +kernel
theorem d_D_init_1 : decode b_D_init 1 = .ok (.invokespecial 1, 3) := by decide +kernel
theorem d_D_init_4 : decode b_D_init 4 = .ok (.aload_n 0, 1) := by decide +kernel
theorem d_D_init_5 : decode b_D_init 5 = .ok (.new 7, 3) := by decide +kernel
theorem d_D_init_8 : decode b_D_init 8 = .ok (.dup, 1) := by decide +kernel
theorem d_D_init_9 : decode b_D_init 9 = .ok (.invokespecial 9, 3) := by decide +kernel
theorem d_D_init_12 : decode b_D_init 12 = .ok (.putfield 10, 3) := by decide +kernel
theorem d_D_init_15 : decode b_D_init 15 = .ok (.aload_n 0, 1) := by decide +kernel
theorem d_D_init_16 : decode b_D_init 16 = .ok (.new 7, 3) := by decide +kernel
theorem d_D_init_19 : decode b_D_init 19 = .ok (.dup, 1) := by decide +kernel
theorem d_D_init_20 : decode b_D_init 20 = .ok (.invokespecial 9, 3) := by decide +kernel
theorem d_D_init_23 : decode b_D_init 23 = .ok (.putfield 16, 3) := by decide +kernel
theorem d_D_init_26 : decode b_D_init 26 = .ok (.aload_n 0, 1) := by decide +kernel
theorem d_D_init_27 : decode b_D_init 27 = .ok (.bipush 43, 2) := by decide +kernel
theorem d_D_init_29 : decode b_D_init 29 = .ok (.newarray .long, 2) := by decide +kernel
theorem d_D_init_31 : decode b_D_init 31 = .ok (.putfield 19, 3) := by decide +kernel
theorem d_D_init_34 : decode b_D_init 34 = .ok (.aload_n 0, 1) := by decide +kernel
theorem d_D_init_35 : decode b_D_init 35 = .ok (.bipush 8, 2) := by decide +kernel
theorem d_D_init_37 : decode b_D_init 37 = .ok (.newarray .long, 2) := by decide +kernel
theorem d_D_init_39 : decode b_D_init 39 = .ok (.putfield 23, 3) := by decide +kernel
theorem d_D_init_42 : decode b_D_init 42 = .ok (.aload_n 0, 1) := by decide +kernel
theorem d_D_init_43 : decode b_D_init 43 = .ok (.sipush 256, 3) := by decide +kernel
theorem d_D_init_46 : decode b_D_init 46 = .ok (.newarray .boolean, 2) := by decide +kernel
theorem d_D_init_48 : decode b_D_init 48 = .ok (.putfield 26, 3) := by decide +kernel
theorem d_D_init_51 : decode b_D_init 51 = .ok (.aload_n 0, 1) := by decide +kernel
theorem d_D_init_52 : decode b_D_init 52 = .ok (.lconst 0, 1) := by decide +kernel
theorem d_D_init_53 : decode b_D_init 53 = .ok (.putfield 30, 3) := by decide +kernel
theorem d_D_init_56 : decode b_D_init 56 = .ok (.aload_n 0, 1) := by decide +kernel
theorem d_D_init_57 : decode b_D_init 57 = .ok (.lload_n 1, 1) := by decide +kernel
theorem d_D_init_58 : decode b_D_init 58 = .ok (.putfield 34, 3) := by decide +kernel
theorem d_D_init_61 : decode b_D_init 61 = .ok (.return_, 1) := by decide +kernel
set_option maxHeartbeats 4000000 in
set_option maxRecDepth 100000 in
/-- verdict -/
theorem c_D_verdict (l : Launch) (dC : Nat → ClassId) (dI : Nat → Nat → Nat) (jd jh jh2 jg jb jy : Nat) (sd w : Int64) (cy : ClassId) (S : Nat → Bool) (p0 : Int32) (z : Bool)  (sz : Nat) : Met l y_D_verdict w_D_verdict ({ frames := 0, cells := 0, slots := 0, locals := 0 }) (wr_P dC dI [.ref jd, .int p0, .int (bI z)] [(jd, .inr (2, [.long sd, .ref jh, .ref jh2, .ref jg, .ref jb, .ref jy, .long w])), (jy, .inl (cy, 256, .inl (bF S)))] [(cy, .boolean)] sz) (va_Qi (fun (r : Int32) (_ : Unit) => r = bI (veO S p0 z)) (fun (u : Unit) => wr_B dC dI (va_A [(jd, .inr (2, [.long sd, .ref jh, .ref jh2, .ref jg, .ref jb, .ref jy, .long w])), (jy, .inl (cy, 256, .inl (bF S)))] sz) [(jd, .inr (2, [.long sd, .ref jh, .ref jh2, .ref jg, .ref jb, .ref jy, .long w])), (jy, .inl (cy, 256, .inl (bF (veS S p0 z))))] [(cy, .boolean)]) (va_A [(jd, .inr (2, [.long sd, .ref jh, .ref jh2, .ref jg, .ref jb, .ref jy, .long w])), (jy, .inl (cy, 256, .inl (bF S)))] sz)) 0 0 (va_A [(jd, .inr (2, [.long sd, .ref jh, .ref jh2, .ref jg, .ref jb, .ref jy, .long w])), (jy, .inl (cy, 256, .inl (bF S)))] sz) := by
  refine Met.ofW (cc := b_D_verdict) (maxL := 3) (ret := (Option.some Jvm.ClassFile.FieldType.boolean)) (by decide) rfl ?_
  intro p e s m args below meth c s₁ B0 hml hv0
  obtain ⟨rfl, hsz, hP, hK, hD0, hN⟩ := hv0
  have hx := B0.exec
  have hb := B0.bytes
  have hr := B0.returns
  have hts := atoms_spec (ws := w_D_verdict) B0.pre
  have hown : s.vm.findClass R_D = some m.cls := findClass_of_methodNamed B0.named
  have hlocks := B0.notSynchronized
  subst hsz
  have hD := hD0.self (sz := s.heap.size)
  generalize hAe : va_A [(jd, .inr (2, [.long sd, .ref jh, .ref jh2, .ref jg, .ref jb, .ref jy, .long w])), (jy, .inl (cy, 256, .inl (bF S)))] s.heap.size = A at hD ⊢
  have hA : ∀ q : Nat, s.heap.size ≤ q → A q := fun q h => by rw [← hAe]; exact Or.inr h
  have hS : va_S A s.heap s.heap [] := va_S.rf
  have hP : va_P (dC, dI) classes [(jd, .inr (2, [.long sd, .ref jh, .ref jh2, .ref jg, .ref jb, .ref jy, .long w])), (jy, .inl (cy, 256, .inl (bF S)))] s.heap := hP
  have hl := lv_entry ([.ref jd, .int p0, .int (bI z)]) (n := 3) (Nat.le_of_ble_eq_true rfl)
  rw [lg_entry_eq]
  generalize (lg_sl ([.ref jd, .int p0, .int (bI z)]) ++ List.replicate (3 - (lg_sl ([.ref jd, .int p0, .int (bI z)])).length) Slot.unset).toArray = ls at hl ⊢
  have hl : lv_has ls 3 [(0, .ref jd), (1, .int p0), (2, .int (bI z))] := hl
  refine lv_iload_n hx hb d_D_verdict_0 rfl (lv_at hl 1 rfl) ?_
  refine lv_if_lt (tgt := 21) hx hb d_D_verdict_1 (by decide) (fun c_1 => ?_) (fun c_1 => ?_)
  · skip
    refine lv_iconst (v := nI 0) hx hb d_D_verdict_21 (by decide +kernel) ?_
    have e9 : S = veS S p0 z := (if_neg (by simp [veO, c_1])).symm
    rw [e9] at hP hD
    have hP9 := hP.sub (ws' := [(jd, .inr (2, [.long sd, .ref jh, .ref jh2, .ref jg, .ref jb, .ref jy, .long w])), (jy, .inl (cy, 256, .inl (bF (veS S p0 z))))]) [0, 1] rfl
    have hD9 := hD.sub (ws' := [(jd, .inr (2, [.long sd, .ref jh, .ref jh2, .ref jg, .ref jb, .ref jy, .long w])), (jy, .inl (cy, 256, .inl (bF (veS S p0 z))))]) [0, 1] (by decide) rfl
    have hK9 := hK.sub (tys' := [(cy, .boolean)]) [0] rfl
    exact W.zret (v := nI 0) (ty := .boolean) hx hb hr (by decide +kernel) (fun t ht hW => ⟨⟨nI 0, (), rfl, (by simp [veO, bI, c_1]), by rw [ht]; exact hP9, va_K.moved hW.alike hK9, hD9⟩, hS.F ht⟩) hS.2.2 d_D_verdict_22
  · skip
    refine lv_iload_n hx hb d_D_verdict_4 rfl (lv_at hl 1 rfl) ?_
    refine lv_sipush (v := nI 256) hx hb d_D_verdict_5 (by decide +kernel) ?_
    refine lv_icmp_ge (tgt := 21) hx hb d_D_verdict_8 (by decide) (fun c_8 => ?_) (fun c_8 => ?_)
    · skip
      refine lv_iconst (v := nI 0) hx hb d_D_verdict_21 (by decide +kernel) ?_
      have e9 : S = veS S p0 z := (if_neg (by simp [veO, c_1, c_8])).symm
      rw [e9] at hP hD
      have hP9 := hP.sub (ws' := [(jd, .inr (2, [.long sd, .ref jh, .ref jh2, .ref jg, .ref jb, .ref jy, .long w])), (jy, .inl (cy, 256, .inl (bF (veS S p0 z))))]) [0, 1] rfl
      have hD9 := hD.sub (ws' := [(jd, .inr (2, [.long sd, .ref jh, .ref jh2, .ref jg, .ref jb, .ref jy, .long w])), (jy, .inl (cy, 256, .inl (bF (veS S p0 z))))]) [0, 1] (by decide) rfl
      have hK9 := hK.sub (tys' := [(cy, .boolean)]) [0] rfl
      exact W.zret (v := nI 0) (ty := .boolean) hx hb hr (by decide +kernel) (fun t ht hW => ⟨⟨nI 0, (), rfl, (by simp [veO, bI, c_1, c_8]), by rw [ht]; exact hP9, va_K.moved hW.alike hK9, hD9⟩, hS.F ht⟩) hS.2.2 d_D_verdict_22
    · skip
      refine lv_aload_n hx hb d_D_verdict_11 rfl (lv_at hl 0 rfl) ?_
      refine va_get (D := (dC, dI)) (ci := 2) (v := .ref jy) (C := R_D) (T := F_D) (N := 7) hx hb hts (lay_D _) hown hK hP 0 rfl rfl 5 (by decide) (hts _ (List.mem_cons_of_mem _ m_61)) (fun _ h9 => h9) rfl d_D_verdict_12 ?_
      refine lv_iload_n hx hb d_D_verdict_15 rfl (lv_at hl 1 rfl) ?_
      refine va_zald hx hb hK hP 1 0 rfl rfl (in_of c_1 c_8 (by decide)) d_D_verdict_16 ?_
      refine lv_topi (fun w_1 ew_1 => ?_)
      have ew_1 : w_1 = bI (S p0.toNatClampNeg) := ew_1.trans (rfl)
      subst ew_1
      refine lv_iload_n hx hb d_D_verdict_17 rfl (lv_at hl 2 rfl) ?_
      refine lv_icmp_ne (tgt := 23) hx hb d_D_verdict_18 (by decide) (fun c_18 => ?_) (fun c_18 => ?_)
      · skip
        have c_18 := (not_congr bI_inj).mp c_18
        refine lv_aload_n hx hb d_D_verdict_23 rfl (lv_at hl 0 rfl) ?_
        refine va_get (D := (dC, dI)) (ci := 2) (v := .ref jy) (C := R_D) (T := F_D) (N := 7) hx hb hts (lay_D _) hown hK hP 0 rfl rfl 5 (by decide) (hts _ (List.mem_cons_of_mem _ m_61)) (fun _ h9 => h9) rfl d_D_verdict_24 ?_
        refine lv_iload_n hx hb d_D_verdict_27 rfl (lv_at hl 1 rfl) ?_
        refine lv_iload_n hx hb d_D_verdict_28 rfl (lv_at hl 2 rfl) ?_
        refine va_zast hx hb hK hP hD hS 1 0 rfl rfl (in_of c_1 c_8 (by decide)) d_D_verdict_29 (fun H locs hP hD hS => ?_)
        rw [bI_vp] at hP hD
        have hP : va_P (dC, dI) classes [(jd, .inr (2, [.long sd, .ref jh, .ref jh2, .ref jg, .ref jb, .ref jy, .long w])), (jy, .inl (cy, 256, .inl (upd (bF S) p0.toNatClampNeg (bI z))))] H := hP
        have hD : va_D A [(jd, .inr (2, [.long sd, .ref jh, .ref jh2, .ref jg, .ref jb, .ref jy, .long w])), (jy, .inl (cy, 256, .inl (upd (bF S) p0.toNatClampNeg (bI z))))] := hD
        rw [bF_up] at hP hD
        rw [show uB S p0.toNatClampNeg z = veS S p0 z from (if_pos (by simp [veO, c_1, c_8, c_18])).symm] at hP hD
        have hP : va_P (dC, dI) classes [(jd, .inr (2, [.long sd, .ref jh, .ref jh2, .ref jg, .ref jb, .ref jy, .long w])), (jy, .inl (cy, 256, .inl (bF (veS S p0 z))))] H := hP
        have hD : va_D A [(jd, .inr (2, [.long sd, .ref jh, .ref jh2, .ref jg, .ref jb, .ref jy, .long w])), (jy, .inl (cy, 256, .inl (bF (veS S p0 z))))] := hD
        refine lv_iconst (v := nI 1) hx hb d_D_verdict_30 (by decide +kernel) ?_
        have hP9 := hP.sub (ws' := [(jd, .inr (2, [.long sd, .ref jh, .ref jh2, .ref jg, .ref jb, .ref jy, .long w])), (jy, .inl (cy, 256, .inl (bF (veS S p0 z))))]) [0, 1] rfl
        have hD9 := hD.sub (ws' := [(jd, .inr (2, [.long sd, .ref jh, .ref jh2, .ref jg, .ref jb, .ref jy, .long w])), (jy, .inl (cy, 256, .inl (bF (veS S p0 z))))]) [0, 1] (by decide) rfl
        have hK9 := hK.sub (tys' := [(cy, .boolean)]) [0] rfl
        exact W.zret (v := nI 1) (ty := .boolean) hx hb hr (by decide +kernel) (fun t ht hW => ⟨⟨nI 1, (), rfl, (by simp [veO, bI, c_1, c_8, c_18]), by rw [ht]; exact hP9, va_K.moved hW.alike hK9, hD9⟩, hS.F ht⟩) hS.2.2 d_D_verdict_31
      · skip
        have c_18 := bI_inj.mp c_18
        refine lv_iconst (v := nI 0) hx hb d_D_verdict_21 (by decide +kernel) ?_
        have e9 : S = veS S p0 z := (if_neg (by simp [veO, c_1, c_8, c_18])).symm
        rw [e9] at hP hD
        have hP9 := hP.sub (ws' := [(jd, .inr (2, [.long sd, .ref jh, .ref jh2, .ref jg, .ref jb, .ref jy, .long w])), (jy, .inl (cy, 256, .inl (bF (veS S p0 z))))]) [0, 1] rfl
        have hD9 := hD.sub (ws' := [(jd, .inr (2, [.long sd, .ref jh, .ref jh2, .ref jg, .ref jb, .ref jy, .long w])), (jy, .inl (cy, 256, .inl (bF (veS S p0 z))))]) [0, 1] (by decide) rfl
        have hK9 := hK.sub (tys' := [(cy, .boolean)]) [0] rfl
        exact W.zret (v := nI 0) (ty := .boolean) hx hb hr (by decide +kernel) (fun t ht hW => ⟨⟨nI 0, (), rfl, (by simp [veO, bI, c_1, c_8, c_18]), by rw [ht]; exact hP9, va_K.moved hW.alike hK9, hD9⟩, hS.F ht⟩) hS.2.2 d_D_verdict_22
set_option maxHeartbeats 4000000 in
set_option maxRecDepth 100000 in
/-- noteGoingWith -/
theorem c_D_noteGoingWith (l : Launch) (dC : Nat → ClassId) (dI : Nat → Nat → Nat) (jd jh jh2 jg jb jy : Nat) (sd w : Int64) (jt jk jv jr n : Nat) (cr cg : ClassId) (R : Nat → Int32) (G : Nat → Int64) (hn : n ≤ 43) (sz : Nat) : Met l y_D_noteGoingWith w_D_noteGoingWith ({ frames := 1, cells := 0, slots := 0, locals := 21 }) (wr_P dC dI [.ref jd] [(jd, .inr (2, [.long sd, .ref jh, .ref jh2, .ref jg, .ref jb, .ref jy, .long w])), (jh, .inr (1, [.ref jt, .ref jk, .ref jv, .ref jr, .int (nI n)])), (jr, .inl (cr, 43, .inl R)), (jg, .inl (cg, 43, .inr (.inl G)))] [(cr, .int), (cg, .long)] sz) (va_Qv (fun (_ : Unit) => True) (fun (u : Unit) => wr_B dC dI (va_A [(jd, .inr (2, [.long sd, .ref jh, .ref jh2, .ref jg, .ref jb, .ref jy, .long w])), (jh, .inr (1, [.ref jt, .ref jk, .ref jv, .ref jr, .int (nI n)])), (jr, .inl (cr, 43, .inl R)), (jg, .inl (cg, 43, .inr (.inl G)))] sz) [(jd, .inr (2, [.long sd, .ref jh, .ref jh2, .ref jg, .ref jb, .ref jy, .long w])), (jh, .inr (1, [.ref jt, .ref jk, .ref jv, .ref jr, .int (nI n)])), (jr, .inl (cr, 43, .inl R)), (jg, .inl (cg, 43, .inr (.inl (gwG n R G))))] [(cr, .int), (cg, .long)]) (va_A [(jd, .inr (2, [.long sd, .ref jh, .ref jh2, .ref jg, .ref jb, .ref jy, .long w])), (jh, .inr (1, [.ref jt, .ref jk, .ref jv, .ref jr, .int (nI n)])), (jr, .inl (cr, 43, .inl R)), (jg, .inl (cg, 43, .inr (.inl G)))] sz)) 0 0 (va_A [(jd, .inr (2, [.long sd, .ref jh, .ref jh2, .ref jg, .ref jb, .ref jy, .long w])), (jh, .inr (1, [.ref jt, .ref jk, .ref jv, .ref jr, .int (nI n)])), (jr, .inl (cr, 43, .inl R)), (jg, .inl (cg, 43, .inr (.inl G)))] sz) := by
  refine Met.ofW (cc := b_D_noteGoingWith) (maxL := 3) (ret := (Option.none : Option Jvm.ClassFile.FieldType)) (by decide) rfl ?_
  intro p e s m args below meth c s₁ B0 hml hv0
  obtain ⟨rfl, hsz, hP, hK, hD0, hN⟩ := hv0
  have hx := B0.exec
  have hb := B0.bytes
  have hr := B0.returns
  have hts := atoms_spec (ws := w_D_noteGoingWith) B0.pre
  have hown : s.vm.findClass R_D = some m.cls := findClass_of_methodNamed B0.named
  have hlocks := B0.notSynchronized
  subst hsz
  have hD := hD0.self (sz := s.heap.size)
  generalize hAe : va_A [(jd, .inr (2, [.long sd, .ref jh, .ref jh2, .ref jg, .ref jb, .ref jy, .long w])), (jh, .inr (1, [.ref jt, .ref jk, .ref jv, .ref jr, .int (nI n)])), (jr, .inl (cr, 43, .inl R)), (jg, .inl (cg, 43, .inr (.inl G)))] s.heap.size = A at hD ⊢
  have hA : ∀ q : Nat, s.heap.size ≤ q → A q := fun q h => by rw [← hAe]; exact Or.inr h
  have hS : va_S A s.heap s.heap [] := va_S.rf
  have hP : va_P (dC, dI) classes [(jd, .inr (2, [.long sd, .ref jh, .ref jh2, .ref jg, .ref jb, .ref jy, .long w])), (jh, .inr (1, [.ref jt, .ref jk, .ref jv, .ref jr, .int (nI n)])), (jr, .inl (cr, 43, .inl R)), (jg, .inl (cg, 43, .inr (.inl G)))] s.heap := hP
  have hl := lv_entry ([.ref jd]) (n := 3) (Nat.le_of_ble_eq_true rfl)
  rw [lg_entry_eq]
  generalize (lg_sl ([.ref jd]) ++ List.replicate (3 - (lg_sl ([.ref jd])).length) Slot.unset).toArray = ls at hl ⊢
  have hl : lv_has ls 3 [(0, .ref jd)] := hl
  refine lv_iconst (v := nI 0) hx hb d_D_noteGoingWith_0 (by decide +kernel) ?_
  refine lv_istore_n (lv' := [(1, .int (nI 0)), (0, .ref jd)]) hx hb d_D_noteGoingWith_1 rfl hl (by decide) rfl (fun ls hl => ?_)
  have lp_2 : ∀ (k9_2 : Nat), ∀ (i : Nat), n - i < k9_2 → (i ≤ n) → ∀ (H : Heap) (locs : List Loc), va_P (dC, dI) classes [(jd, .inr (2, [.long sd, .ref jh, .ref jh2, .ref jg, .ref jb, .ref jy, .long w])), (jh, .inr (1, [.ref jt, .ref jk, .ref jv, .ref jr, .int (nI n)])), (jr, .inl (cr, 43, .inl R)), (jg, .inl (cg, 43, .inr (.inl (onL G i))))] H → va_D A [(jd, .inr (2, [.long sd, .ref jh, .ref jh2, .ref jg, .ref jb, .ref jy, .long w])), (jh, .inr (1, [.ref jt, .ref jk, .ref jv, .ref jr, .int (nI n)])), (jr, .inl (cr, 43, .inl R)), (jg, .inl (cg, 43, .inr (.inl (onL G i))))] → va_S A s.heap H locs → ∀ (ls : Array Slot), lv_has ls 3 [(0, .ref jd), (1, .int (nI i))] → W p l e (headSpec w_D_noteGoingWith ({ frames := 1, cells := 0, slots := 0, locals := 21 })).room s m ([.ref jd]).toArray below meth c H locs 0 0 (MQ below (va_Qv (fun (_ : Unit) => True) (fun (u : Unit) => wr_B dC dI (A) [(jd, .inr (2, [.long sd, .ref jh, .ref jh2, .ref jg, .ref jb, .ref jy, .long w])), (jh, .inr (1, [.ref jt, .ref jk, .ref jv, .ref jr, .int (nI n)])), (jr, .inl (cr, 43, .inl R)), (jg, .inl (cg, 43, .inr (.inl (gwG n R G))))] [(cr, .int), (cg, .long)]) (A)) ([.ref jd]).toArray s 0 0 A) (F0 m 2 ls []) := by
    intro k9_2
    induction k9_2 with
    | zero =>
      intro i hk9
      exact absurd hk9 (Nat.not_lt_zero _)
    | succ k9_2 ih_2 =>
      intro i hk9_2 hi H locs hP hD hS ls hl
      refine lv_iload_n hx hb d_D_noteGoingWith_2 rfl (lv_at hl 1 rfl) ?_
      refine lv_aload_n hx hb d_D_noteGoingWith_3 rfl (lv_at hl 0 rfl) ?_
      refine va_get (D := (dC, dI)) (ci := 2) (v := .ref jh) (C := R_D) (T := F_D) (N := 7) hx hb hts (lay_D _) hown hK hP 0 rfl rfl 1 (by decide) (hts _ (List.mem_cons_of_mem _ m_57)) (fun _ h9 => h9) rfl d_D_noteGoingWith_4 ?_
      refine va_getN (D := (dC, dI)) (ci := 1) (v := .int (nI n)) (C := R_H) (T := F_H) (N := 5) hx hb hts (lay_H _) hown hK hP 1 rfl rfl 4 (by decide) (hN.use (by decide +kernel : (Jvm.Cond.fieldLinkNest "PortDrawer" (62 : Nat) "PortDrawer$Harbour" "parts" "I" "PortDrawer") ∈ NWl)) (fun _ h9 => h9) rfl d_D_noteGoingWith_7 ?_
      refine lv_icmp_ge (tgt := 28) hx hb d_D_noteGoingWith_10 (by decide) (fun c_10 => ?_) (fun c_10 => ?_)
      · skip
        have c_10 := (nI_leI (by omega) (by omega)).mp c_10
        rw [show i = n by omega] at hP hD
        refine lv_aload_n hx hb d_D_noteGoingWith_28 rfl (lv_at hl 0 rfl) ?_
        refine va_get (D := (dC, dI)) (ci := 2) (v := .ref jh) (C := R_D) (T := F_D) (N := 7) hx hb hts (lay_D _) hown hK hP 0 rfl rfl 1 (by decide) (hts _ (List.mem_cons_of_mem _ m_57)) (fun _ h9 => h9) rfl d_D_noteGoingWith_29 ?_
        refine va_getN (D := (dC, dI)) (ci := 1) (v := .int (nI n)) (C := R_H) (T := F_H) (N := 5) hx hb hts (lay_H _) hown hK hP 1 rfl rfl 4 (by decide) (hN.use (by decide +kernel : (Jvm.Cond.fieldLinkNest "PortDrawer" (62 : Nat) "PortDrawer$Harbour" "parts" "I" "PortDrawer") ∈ NWl)) (fun _ h9 => h9) rfl d_D_noteGoingWith_32 ?_
        refine lv_iconst (v := nI 1) hx hb d_D_noteGoingWith_35 (by decide +kernel) ?_
        refine lv_isub hx hb d_D_noteGoingWith_36 ?_
        refine lv_istore_n (lv' := [(1, .int ((nI n) - (nI 1))), (0, .ref jd)]) hx hb d_D_noteGoingWith_37 rfl hl (by decide) rfl (fun ls hl => ?_)
        have lp_38 : ∀ (k9_38 : Nat), ∀ (k r : Nat), k < k9_38 → (k + r = n) → ∀ (H : Heap) (locs : List Loc), va_P (dC, dI) classes [(jd, .inr (2, [.long sd, .ref jh, .ref jh2, .ref jg, .ref jb, .ref jy, .long w])), (jh, .inr (1, [.ref jt, .ref jk, .ref jv, .ref jr, .int (nI n)])), (jr, .inl (cr, 43, .inl R)), (jg, .inl (cg, 43, .inr (.inl (goL n R (onL G n) r))))] H → va_D A [(jd, .inr (2, [.long sd, .ref jh, .ref jh2, .ref jg, .ref jb, .ref jy, .long w])), (jh, .inr (1, [.ref jt, .ref jk, .ref jv, .ref jr, .int (nI n)])), (jr, .inl (cr, 43, .inl R)), (jg, .inl (cg, 43, .inr (.inl (goL n R (onL G n) r))))] → va_S A s.heap H locs → ∀ (ls : Array Slot), lv_has ls 3 [(0, .ref jd), (1, .int ((nI k) - (nI 1)))] → W p l e (headSpec w_D_noteGoingWith ({ frames := 1, cells := 0, slots := 0, locals := 21 })).room s m ([.ref jd]).toArray below meth c H locs 0 0 (MQ below (va_Qv (fun (_ : Unit) => True) (fun (u : Unit) => wr_B dC dI (A) [(jd, .inr (2, [.long sd, .ref jh, .ref jh2, .ref jg, .ref jb, .ref jy, .long w])), (jh, .inr (1, [.ref jt, .ref jk, .ref jv, .ref jr, .int (nI n)])), (jr, .inl (cr, 43, .inl R)), (jg, .inl (cg, 43, .inr (.inl (gwG n R G))))] [(cr, .int), (cg, .long)]) (A)) ([.ref jd]).toArray s 0 0 A) (F0 m 38 ls []) := by
          intro k9_38
          induction k9_38 with
          | zero =>
            intro k r hk9
            exact absurd hk9 (Nat.not_lt_zero _)
          | succ k9_38 ih_38 =>
            intro k r hk9_38 hkr H locs hP hD hS ls hl
            refine lv_iload_n hx hb d_D_noteGoingWith_38 rfl (lv_at hl 1 rfl) ?_
            refine lv_if_lt (tgt := 84) hx hb d_D_noteGoingWith_39 (by decide) (fun c_39 => ?_) (fun c_39 => ?_)
            · skip
              have c_39 := (dn_lt (by omega)).mp c_39
              rw [show r = n by omega] at hP hD
              have hP9 := hP.sub (ws' := [(jd, .inr (2, [.long sd, .ref jh, .ref jh2, .ref jg, .ref jb, .ref jy, .long w])), (jh, .inr (1, [.ref jt, .ref jk, .ref jv, .ref jr, .int (nI n)])), (jr, .inl (cr, 43, .inl R)), (jg, .inl (cg, 43, .inr (.inl (gwG n R G))))]) [0, 1, 2, 3] rfl
              have hD9 := hD.sub (ws' := [(jd, .inr (2, [.long sd, .ref jh, .ref jh2, .ref jg, .ref jb, .ref jy, .long w])), (jh, .inr (1, [.ref jt, .ref jk, .ref jv, .ref jr, .int (nI n)])), (jr, .inl (cr, 43, .inl R)), (jg, .inl (cg, 43, .inr (.inl (gwG n R G))))]) [0, 1, 2, 3] (by decide) rfl
              have hK9 := hK.sub (tys' := [(cr, .int), (cg, .long)]) [0, 1] rfl
              exact W.vret hx hb hr (fun t ht hW => ⟨⟨(), rfl, trivial, by rw [ht]; exact hP9, va_K.moved hW.alike hK9, hD9⟩, hS.F ht⟩) hS.2.2 d_D_noteGoingWith_84
            · skip
              have c_39 := (not_congr (dn_lt (by omega))).mp c_39
              obtain ⟨k, rfl⟩ : ∃ k1, k = k1 + 1 := ⟨k - 1, by omega⟩
              rw [show (nI (k + 1)) - (nI 1) = nI k from (nI_pred k)] at hl
              refine lv_aload_n hx hb d_D_noteGoingWith_42 rfl (lv_at hl 0 rfl) ?_
              refine va_get (D := (dC, dI)) (ci := 2) (v := .ref jh) (C := R_D) (T := F_D) (N := 7) hx hb hts (lay_D _) hown hK hP 0 rfl rfl 1 (by decide) (hts _ (List.mem_cons_of_mem _ m_57)) (fun _ h9 => h9) rfl d_D_noteGoingWith_43 ?_
              refine va_getN (D := (dC, dI)) (ci := 1) (v := .ref jr) (C := R_H) (T := F_H) (N := 5) hx hb hts (lay_H _) hown hK hP 1 rfl rfl 3 (by decide) (hN.use (by decide +kernel : (Jvm.Cond.fieldLinkNest "PortDrawer" (85 : Nat) "PortDrawer$Harbour" "references" "[I" "PortDrawer") ∈ NWl)) (fun _ h9 => h9) rfl d_D_noteGoingWith_46 ?_
              refine lv_iload_n hx hb d_D_noteGoingWith_49 rfl (lv_at hl 1 rfl) ?_
              refine va_iald hx hb hK hP 2 0 rfl rfl (vp_in_nI (by omega) (by omega)) d_D_noteGoingWith_50 ?_
              refine lv_topi (fun w_1 ew_1 => ?_)
              rw [nI_clamp (by omega)] at ew_1
              subst ew_1
              refine lv_istore_n (lv' := [(2, .int (R k)), (0, .ref jd), (1, .int (nI k))]) hx hb d_D_noteGoingWith_51 rfl hl (by decide) rfl (fun ls hl => ?_)
              refine lv_aload_n hx hb d_D_noteGoingWith_52 rfl (lv_at hl 1 rfl) ?_
              refine va_get (D := (dC, dI)) (ci := 2) (v := .ref jh) (C := R_D) (T := F_D) (N := 7) hx hb hts (lay_D _) hown hK hP 0 rfl rfl 1 (by decide) (hts _ (List.mem_cons_of_mem _ m_57)) (fun _ h9 => h9) rfl d_D_noteGoingWith_53 ?_
              refine lv_iload_n hx hb d_D_noteGoingWith_56 rfl (lv_at hl 0 rfl) ?_
              have hPc := hP.sub (ws' := [(jh, .inr (1, [.ref jt, .ref jk, .ref jv, .ref jr, .int (nI n)]))]) [1] rfl
              have hKc := hK.sub (tys' := []) [] rfl
              refine vp_callSi (va_Run.run (va_runVN (As := [.int (R k)]) (rest := []) ⟨hx, hb, hml, hown, hts⟩ (c_H_has l dC dI jh jt jk jv jr n (R k)) ⟨va_cnB 1 hts (g_c big_w m_263) rfl rfl rfl (hN _ (by decide +kernel : (Jvm.Cond.methodLinkNest "PortDrawer" (66 : Nat) ({ cls := "PortDrawer$Harbour", name := "has", desc := "(I)Z" } : Jvm.MethodName) "PortDrawer") ∈ NWl)) (hts _ (List.mem_cons_of_mem _ m_2)) (by decide +kernel) ⟨Nat.le_of_ble_eq_true rfl, Nat.le_of_ble_eq_true rfl⟩, (hts _ (List.mem_cons_of_mem _ m_262)), (hts _ (List.mem_cons_of_mem _ ms_16))⟩ (ro_V hPc hKc hN (va_recv hKc hPc (ci := 1) (q0 := 0) rfl rfl)) rfl rfl hl.1 rfl (lv_room (Nat.le_of_ble_eq_true rfl)) d_D_noteGoingWith_57 ⟨Nat.le_of_ble_eq_true rfl, Nat.le_of_ble_eq_true rfl⟩)) (fun r_2 er_2 => ?_)
              subst er_2
              refine lv_if_eq (tgt := 78) hx hb d_D_noteGoingWith_60 (by decide) (fun c_60 => ?_) (fun c_60 => ?_)
              · skip
                have c_60 := bI_f c_60
                rw [show goL n R (onL G n) r = goL n R (onL G n) (r + 1) from ((goL_f (by omega) c_60).symm)] at hP hD
                refine lv_iinc (v := (nI k) - (nI 1)) (lv' := [(1, .int ((nI k) - (nI 1))), (2, .int (R k)), (0, .ref jd)]) hx hb d_D_noteGoingWith_78 hl (k := 2) rfl (dn_inc k) (by decide) rfl (fun ls hl => ?_)
                refine lv_goto (tgt := 38) hx hb d_D_noteGoingWith_81 (by decide) ?_
                exact ih_38 k (r + 1) (by omega) (by first | assumption | omega) _ _ (hP.sub (ws' := [(jd, .inr (2, [.long sd, .ref jh, .ref jh2, .ref jg, .ref jb, .ref jy, .long w])), (jh, .inr (1, [.ref jt, .ref jk, .ref jv, .ref jr, .int (nI n)])), (jr, .inl (cr, 43, .inl R)), (jg, .inl (cg, 43, .inr (.inl (goL n R (onL G n) (r + 1)))))]) [0, 1, 2, 3] rfl) (hD.sub (ws' := [(jd, .inr (2, [.long sd, .ref jh, .ref jh2, .ref jg, .ref jb, .ref jy, .long w])), (jh, .inr (1, [.ref jt, .ref jk, .ref jv, .ref jr, .int (nI n)])), (jr, .inl (cr, 43, .inl R)), (jg, .inl (cg, 43, .inr (.inl (goL n R (onL G n) (r + 1)))))]) [0, 1, 2, 3] (by decide) rfl) hS ls (lv_sub (l' := [(0, .ref jd), (1, .int ((nI k) - (nI 1)))]) hl [2, 0] rfl)
              · skip
                have c_60 := bI_t c_60
                refine lv_aload_n hx hb d_D_noteGoingWith_63 rfl (lv_at hl 1 rfl) ?_
                refine va_get (D := (dC, dI)) (ci := 2) (v := .ref jg) (C := R_D) (T := F_D) (N := 7) hx hb hts (lay_D _) hown hK hP 0 rfl rfl 3 (by decide) (hts _ (List.mem_cons_of_mem _ m_59)) (fun _ h9 => h9) rfl d_D_noteGoingWith_64 ?_
                refine lv_iload_n hx hb d_D_noteGoingWith_67 rfl (lv_at hl 0 rfl) ?_
                refine lv_dup2_11 hx hb d_D_noteGoingWith_68 rfl rfl ?_
                refine va_lald hx hb hK hP 3 1 rfl rfl (hB_in c_60 hn) d_D_noteGoingWith_69 ?_
                refine lv_aload_n hx hb d_D_noteGoingWith_70 rfl (lv_at hl 1 rfl) ?_
                refine va_get (D := (dC, dI)) (ci := 2) (v := .ref jg) (C := R_D) (T := F_D) (N := 7) hx hb hts (lay_D _) hown hK hP 0 rfl rfl 3 (by decide) (hts _ (List.mem_cons_of_mem _ m_59)) (fun _ h9 => h9) rfl d_D_noteGoingWith_71 ?_
                refine lv_iload_n hx hb d_D_noteGoingWith_74 rfl (lv_at hl 2 rfl) ?_
                refine va_lald hx hb hK hP 3 1 rfl rfl (vp_in_nI (by omega) (by omega)) d_D_noteGoingWith_75 ?_
                refine lv_topl (fun w_3 ew_3 => ?_)
                rw [nI_clamp (by omega)] at ew_3
                subst ew_3
                refine lv_lor hx hb d_D_noteGoingWith_76 ?_
                refine va_last hx hb hK hP hD hS 3 1 rfl rfl (hB_in c_60 hn) d_D_noteGoingWith_77 (fun H locs hP hD hS => ?_)
                have hP : va_P (dC, dI) classes [(jd, .inr (2, [.long sd, .ref jh, .ref jh2, .ref jg, .ref jb, .ref jy, .long w])), (jh, .inr (1, [.ref jt, .ref jk, .ref jv, .ref jr, .int (nI n)])), (jr, .inl (cr, 43, .inl R)), (jg, .inl (cg, 43, .inr (.inl (vp_updL (goL n R (onL G n) r) (R k).toNatClampNeg (((goL n R (onL G n) r) (R k).toNatClampNeg) ||| ((goL n R (onL G n) r) k))))))] H := hP
                have hD : va_D A [(jd, .inr (2, [.long sd, .ref jh, .ref jh2, .ref jg, .ref jb, .ref jy, .long w])), (jh, .inr (1, [.ref jt, .ref jk, .ref jv, .ref jr, .int (nI n)])), (jr, .inl (cr, 43, .inl R)), (jg, .inl (cg, 43, .inr (.inl (vp_updL (goL n R (onL G n) r) (R k).toNatClampNeg (((goL n R (onL G n) r) (R k).toNatClampNeg) ||| ((goL n R (onL G n) r) k))))))] := hD
                rw [show vp_updL (goL n R (onL G n) r) (R k).toNatClampNeg (((goL n R (onL G n) r) (R k).toNatClampNeg) ||| ((goL n R (onL G n) r) k)) = goL n R (onL G n) (r + 1) from ((goL_t (by omega) c_60).symm)] at hP hD
                refine lv_iinc (v := (nI k) - (nI 1)) (lv' := [(1, .int ((nI k) - (nI 1))), (2, .int (R k)), (0, .ref jd)]) hx hb d_D_noteGoingWith_78 hl (k := 2) rfl (dn_inc k) (by decide) rfl (fun ls hl => ?_)
                refine lv_goto (tgt := 38) hx hb d_D_noteGoingWith_81 (by decide) ?_
                exact ih_38 k (r + 1) (by omega) (by first | assumption | omega) _ _ (hP.sub (ws' := [(jd, .inr (2, [.long sd, .ref jh, .ref jh2, .ref jg, .ref jb, .ref jy, .long w])), (jh, .inr (1, [.ref jt, .ref jk, .ref jv, .ref jr, .int (nI n)])), (jr, .inl (cr, 43, .inl R)), (jg, .inl (cg, 43, .inr (.inl (goL n R (onL G n) (r + 1)))))]) [0, 1, 2, 3] rfl) (hD.sub (ws' := [(jd, .inr (2, [.long sd, .ref jh, .ref jh2, .ref jg, .ref jb, .ref jy, .long w])), (jh, .inr (1, [.ref jt, .ref jk, .ref jv, .ref jr, .int (nI n)])), (jr, .inl (cr, 43, .inl R)), (jg, .inl (cg, 43, .inr (.inl (goL n R (onL G n) (r + 1)))))]) [0, 1, 2, 3] (by decide) rfl) hS ls (lv_sub (l' := [(0, .ref jd), (1, .int ((nI k) - (nI 1)))]) hl [2, 0] rfl)
        exact lp_38 (n + 1) n 0 (by omega) (by first | assumption | omega) _ _ (hP.sub (ws' := [(jd, .inr (2, [.long sd, .ref jh, .ref jh2, .ref jg, .ref jb, .ref jy, .long w])), (jh, .inr (1, [.ref jt, .ref jk, .ref jv, .ref jr, .int (nI n)])), (jr, .inl (cr, 43, .inl R)), (jg, .inl (cg, 43, .inr (.inl (goL n R (onL G n) 0))))]) [0, 1, 2, 3] rfl) (hD.sub (ws' := [(jd, .inr (2, [.long sd, .ref jh, .ref jh2, .ref jg, .ref jb, .ref jy, .long w])), (jh, .inr (1, [.ref jt, .ref jk, .ref jv, .ref jr, .int (nI n)])), (jr, .inl (cr, 43, .inl R)), (jg, .inl (cg, 43, .inr (.inl (goL n R (onL G n) 0))))]) [0, 1, 2, 3] (by decide) rfl) hS ls (lv_sub (l' := [(0, .ref jd), (1, .int ((nI n) - (nI 1)))]) hl [1, 0] rfl)
      · skip
        have c_10 := (not_congr (nI_leI (by omega) (by omega))).mp c_10
        refine lv_aload_n hx hb d_D_noteGoingWith_13 rfl (lv_at hl 0 rfl) ?_
        refine va_get (D := (dC, dI)) (ci := 2) (v := .ref jg) (C := R_D) (T := F_D) (N := 7) hx hb hts (lay_D _) hown hK hP 0 rfl rfl 3 (by decide) (hts _ (List.mem_cons_of_mem _ m_59)) (fun _ h9 => h9) rfl d_D_noteGoingWith_14 ?_
        refine lv_iload_n hx hb d_D_noteGoingWith_17 rfl (lv_at hl 1 rfl) ?_
        refine lv_lconst (v := 1) hx hb d_D_noteGoingWith_18 (by decide +kernel) ?_
        refine lv_iload_n hx hb d_D_noteGoingWith_19 rfl (lv_at hl 1 rfl) ?_
        refine lv_lshl hx hb d_D_noteGoingWith_20 rfl ?_
        refine va_last hx hb hK hP hD hS 3 1 rfl rfl (vp_in_nI (by omega) (by omega)) d_D_noteGoingWith_21 (fun H locs hP hD hS => ?_)
        rw [nI_clamp (by omega)] at hP hD
        have hP : va_P (dC, dI) classes [(jd, .inr (2, [.long sd, .ref jh, .ref jh2, .ref jg, .ref jb, .ref jy, .long w])), (jh, .inr (1, [.ref jt, .ref jk, .ref jv, .ref jr, .int (nI n)])), (jr, .inl (cr, 43, .inl R)), (jg, .inl (cg, 43, .inr (.inl (vp_updL (onL G i) i (1 <<< ((nI i).toInt64 &&& 63))))))] H := hP
        have hD : va_D A [(jd, .inr (2, [.long sd, .ref jh, .ref jh2, .ref jg, .ref jb, .ref jy, .long w])), (jh, .inr (1, [.ref jt, .ref jk, .ref jv, .ref jr, .int (nI n)])), (jr, .inl (cr, 43, .inl R)), (jg, .inl (cg, 43, .inr (.inl (vp_updL (onL G i) i (1 <<< ((nI i).toInt64 &&& 63))))))] := hD
        refine lv_iinc (v := nI (i + 1)) (lv' := [(1, .int (nI (i + 1))), (0, .ref jd)]) hx hb d_D_noteGoingWith_22 hl (k := 1) rfl (nI_1 _) (by decide) rfl (fun ls hl => ?_)
        refine lv_goto (tgt := 2) hx hb d_D_noteGoingWith_25 (by decide) ?_
        exact ih_2 (i + 1) (by omega) (by first | assumption | omega) _ _ (hP.sub (ws' := [(jd, .inr (2, [.long sd, .ref jh, .ref jh2, .ref jg, .ref jb, .ref jy, .long w])), (jh, .inr (1, [.ref jt, .ref jk, .ref jv, .ref jr, .int (nI n)])), (jr, .inl (cr, 43, .inl R)), (jg, .inl (cg, 43, .inr (.inl (onL G (i + 1)))))]) [0, 1, 2, 3] rfl) (hD.sub (ws' := [(jd, .inr (2, [.long sd, .ref jh, .ref jh2, .ref jg, .ref jb, .ref jy, .long w])), (jh, .inr (1, [.ref jt, .ref jk, .ref jv, .ref jr, .int (nI n)])), (jr, .inl (cr, 43, .inl R)), (jg, .inl (cg, 43, .inr (.inl (onL G (i + 1)))))]) [0, 1, 2, 3] (by decide) rfl) hS ls (lv_sub (l' := [(0, .ref jd), (1, .int (nI (i + 1)))]) hl [1, 0] rfl)
  exact lp_2 ((n - 0) + 1) 0 (by omega) (by first | assumption | omega) _ _ (hP.sub (ws' := [(jd, .inr (2, [.long sd, .ref jh, .ref jh2, .ref jg, .ref jb, .ref jy, .long w])), (jh, .inr (1, [.ref jt, .ref jk, .ref jv, .ref jr, .int (nI n)])), (jr, .inl (cr, 43, .inl R)), (jg, .inl (cg, 43, .inr (.inl (onL G 0))))]) [0, 1, 2, 3] rfl) (hD.sub (ws' := [(jd, .inr (2, [.long sd, .ref jh, .ref jh2, .ref jg, .ref jb, .ref jy, .long w])), (jh, .inr (1, [.ref jt, .ref jk, .ref jv, .ref jr, .int (nI n)])), (jr, .inl (cr, 43, .inl R)), (jg, .inl (cg, 43, .inr (.inl (onL G 0))))]) [0, 1, 2, 3] (by decide) rfl) hS ls (lv_sub (l' := [(0, .ref jd), (1, .int (nI 0))]) hl [1, 0] rfl)
set_option maxHeartbeats 4000000 in
set_option maxRecDepth 100000 in
/-- notePartsOfBits -/
theorem c_D_notePartsOfBits (l : Launch) (dC : Nat → ClassId) (dI : Nat → Nat → Nat) (jd jh jh2 jg jb jy : Nat) (sd w : Int64) (jt jk jv jr n : Nat) (ck cv cr cb : ClassId) (K V R : Nat → Int32) (B : Nat → Int64) (hn : n ≤ 43) (sz : Nat) : Met l y_D_notePartsOfBits w_D_notePartsOfBits ({ frames := 3, cells := 0, slots := 0, locals := 64 }) (wr_P dC dI [.ref jd] [(jd, .inr (2, [.long sd, .ref jh, .ref jh2, .ref jg, .ref jb, .ref jy, .long w])), (jh, .inr (1, [.ref jt, .ref jk, .ref jv, .ref jr, .int (nI n)])), (jk, .inl (ck, 43, .inl K)), (jv, .inl (cv, 43, .inl V)), (jr, .inl (cr, 43, .inl R)), (jb, .inl (cb, 8, .inr (.inl B)))] [(ck, .int), (cv, .int), (cr, .int), (cb, .long)] sz) (va_Qv (fun (_ : Unit) => True) (fun (u : Unit) => wr_B dC dI (va_A [(jd, .inr (2, [.long sd, .ref jh, .ref jh2, .ref jg, .ref jb, .ref jy, .long w])), (jh, .inr (1, [.ref jt, .ref jk, .ref jv, .ref jr, .int (nI n)])), (jk, .inl (ck, 43, .inl K)), (jv, .inl (cv, 43, .inl V)), (jr, .inl (cr, 43, .inl R)), (jb, .inl (cb, 8, .inr (.inl B)))] sz) [(jd, .inr (2, [.long sd, .ref jh, .ref jh2, .ref jg, .ref jb, .ref jy, .long w])), (jh, .inr (1, [.ref jt, .ref jk, .ref jv, .ref jr, .int (nI n)])), (jk, .inl (ck, 43, .inl K)), (jv, .inl (cv, 43, .inl V)), (jr, .inl (cr, 43, .inl R)), (jb, .inl (cb, 8, .inr (.inl (pbB n K V R B))))] [(ck, .int), (cv, .int), (cr, .int), (cb, .long)]) (va_A [(jd, .inr (2, [.long sd, .ref jh, .ref jh2, .ref jg, .ref jb, .ref jy, .long w])), (jh, .inr (1, [.ref jt, .ref jk, .ref jv, .ref jr, .int (nI n)])), (jk, .inl (ck, 43, .inl K)), (jv, .inl (cv, 43, .inl V)), (jr, .inl (cr, 43, .inl R)), (jb, .inl (cb, 8, .inr (.inl B)))] sz)) 0 0 (va_A [(jd, .inr (2, [.long sd, .ref jh, .ref jh2, .ref jg, .ref jb, .ref jy, .long w])), (jh, .inr (1, [.ref jt, .ref jk, .ref jv, .ref jr, .int (nI n)])), (jk, .inl (ck, 43, .inl K)), (jv, .inl (cv, 43, .inl V)), (jr, .inl (cr, 43, .inl R)), (jb, .inl (cb, 8, .inr (.inl B)))] sz) := by
  refine Met.ofW (cc := b_D_notePartsOfBits) (maxL := 3) (ret := (Option.none : Option Jvm.ClassFile.FieldType)) (by decide) rfl ?_
  intro p e s m args below meth c s₁ B0 hml hv0
  obtain ⟨rfl, hsz, hP, hK, hD0, hN⟩ := hv0
  have hx := B0.exec
  have hb := B0.bytes
  have hr := B0.returns
  have hts := atoms_spec (ws := w_D_notePartsOfBits) B0.pre
  have hown : s.vm.findClass R_D = some m.cls := findClass_of_methodNamed B0.named
  have hlocks := B0.notSynchronized
  subst hsz
  have hD := hD0.self (sz := s.heap.size)
  generalize hAe : va_A [(jd, .inr (2, [.long sd, .ref jh, .ref jh2, .ref jg, .ref jb, .ref jy, .long w])), (jh, .inr (1, [.ref jt, .ref jk, .ref jv, .ref jr, .int (nI n)])), (jk, .inl (ck, 43, .inl K)), (jv, .inl (cv, 43, .inl V)), (jr, .inl (cr, 43, .inl R)), (jb, .inl (cb, 8, .inr (.inl B)))] s.heap.size = A at hD ⊢
  have hA : ∀ q : Nat, s.heap.size ≤ q → A q := fun q h => by rw [← hAe]; exact Or.inr h
  have hS : va_S A s.heap s.heap [] := va_S.rf
  have hP : va_P (dC, dI) classes [(jd, .inr (2, [.long sd, .ref jh, .ref jh2, .ref jg, .ref jb, .ref jy, .long w])), (jh, .inr (1, [.ref jt, .ref jk, .ref jv, .ref jr, .int (nI n)])), (jk, .inl (ck, 43, .inl K)), (jv, .inl (cv, 43, .inl V)), (jr, .inl (cr, 43, .inl R)), (jb, .inl (cb, 8, .inr (.inl B)))] s.heap := hP
  have hl := lv_entry ([.ref jd]) (n := 3) (Nat.le_of_ble_eq_true rfl)
  rw [lg_entry_eq]
  generalize (lg_sl ([.ref jd]) ++ List.replicate (3 - (lg_sl ([.ref jd])).length) Slot.unset).toArray = ls at hl ⊢
  have hl : lv_has ls 3 [(0, .ref jd)] := hl
  refine lv_iconst (v := nI 0) hx hb d_D_notePartsOfBits_0 (by decide +kernel) ?_
  refine lv_istore_n (lv' := [(1, .int (nI 0)), (0, .ref jd)]) hx hb d_D_notePartsOfBits_1 rfl hl (by decide) rfl (fun ls hl => ?_)
  have lp_2 : ∀ (k9_2 : Nat), ∀ (i : Nat), 8 - i < k9_2 → (i ≤ 8) → ∀ (H : Heap) (locs : List Loc), va_P (dC, dI) classes [(jd, .inr (2, [.long sd, .ref jh, .ref jh2, .ref jg, .ref jb, .ref jy, .long w])), (jh, .inr (1, [.ref jt, .ref jk, .ref jv, .ref jr, .int (nI n)])), (jk, .inl (ck, 43, .inl K)), (jv, .inl (cv, 43, .inl V)), (jr, .inl (cr, 43, .inl R)), (jb, .inl (cb, 8, .inr (.inl (zeL B i))))] H → va_D A [(jd, .inr (2, [.long sd, .ref jh, .ref jh2, .ref jg, .ref jb, .ref jy, .long w])), (jh, .inr (1, [.ref jt, .ref jk, .ref jv, .ref jr, .int (nI n)])), (jk, .inl (ck, 43, .inl K)), (jv, .inl (cv, 43, .inl V)), (jr, .inl (cr, 43, .inl R)), (jb, .inl (cb, 8, .inr (.inl (zeL B i))))] → va_S A s.heap H locs → ∀ (ls : Array Slot), lv_has ls 3 [(0, .ref jd), (1, .int (nI i))] → W p l e (headSpec w_D_notePartsOfBits ({ frames := 3, cells := 0, slots := 0, locals := 64 })).room s m ([.ref jd]).toArray below meth c H locs 0 0 (MQ below (va_Qv (fun (_ : Unit) => True) (fun (u : Unit) => wr_B dC dI (A) [(jd, .inr (2, [.long sd, .ref jh, .ref jh2, .ref jg, .ref jb, .ref jy, .long w])), (jh, .inr (1, [.ref jt, .ref jk, .ref jv, .ref jr, .int (nI n)])), (jk, .inl (ck, 43, .inl K)), (jv, .inl (cv, 43, .inl V)), (jr, .inl (cr, 43, .inl R)), (jb, .inl (cb, 8, .inr (.inl (pbB n K V R B))))] [(ck, .int), (cv, .int), (cr, .int), (cb, .long)]) (A)) ([.ref jd]).toArray s 0 0 A) (F0 m 2 ls []) := by
    intro k9_2
    induction k9_2 with
    | zero =>
      intro i hk9
      exact absurd hk9 (Nat.not_lt_zero _)
    | succ k9_2 ih_2 =>
      intro i hk9_2 hi H locs hP hD hS ls hl
      refine lv_iload_n hx hb d_D_notePartsOfBits_2 rfl (lv_at hl 1 rfl) ?_
      refine lv_bipush (v := nI 8) hx hb d_D_notePartsOfBits_3 (by decide +kernel) ?_
      refine lv_icmp_ge (tgt := 21) hx hb d_D_notePartsOfBits_5 (by decide) (fun c_5 => ?_) (fun c_5 => ?_)
      · skip
        have c_5 := (nI_leI (by omega) (by omega)).mp c_5
        rw [show i = 8 by omega] at hP hD
        refine lv_iconst (v := nI 0) hx hb d_D_notePartsOfBits_21 (by decide +kernel) ?_
        refine lv_istore_n (lv' := [(1, .int (nI 0)), (0, .ref jd)]) hx hb d_D_notePartsOfBits_22 rfl hl (by decide) rfl (fun ls hl => ?_)
        have lp_23 : ∀ (k9_23 : Nat), ∀ (i : Nat), n - i < k9_23 → (i ≤ n) → ∀ (H : Heap) (locs : List Loc), va_P (dC, dI) classes [(jd, .inr (2, [.long sd, .ref jh, .ref jh2, .ref jg, .ref jb, .ref jy, .long w])), (jh, .inr (1, [.ref jt, .ref jk, .ref jv, .ref jr, .int (nI n)])), (jk, .inl (ck, 43, .inl K)), (jv, .inl (cv, 43, .inl V)), (jr, .inl (cr, 43, .inl R)), (jb, .inl (cb, 8, .inr (.inl (pbL n K V R (zeL B 8) i))))] H → va_D A [(jd, .inr (2, [.long sd, .ref jh, .ref jh2, .ref jg, .ref jb, .ref jy, .long w])), (jh, .inr (1, [.ref jt, .ref jk, .ref jv, .ref jr, .int (nI n)])), (jk, .inl (ck, 43, .inl K)), (jv, .inl (cv, 43, .inl V)), (jr, .inl (cr, 43, .inl R)), (jb, .inl (cb, 8, .inr (.inl (pbL n K V R (zeL B 8) i))))] → va_S A s.heap H locs → ∀ (ls : Array Slot), lv_has ls 3 [(0, .ref jd), (1, .int (nI i))] → W p l e (headSpec w_D_notePartsOfBits ({ frames := 3, cells := 0, slots := 0, locals := 64 })).room s m ([.ref jd]).toArray below meth c H locs 0 0 (MQ below (va_Qv (fun (_ : Unit) => True) (fun (u : Unit) => wr_B dC dI (A) [(jd, .inr (2, [.long sd, .ref jh, .ref jh2, .ref jg, .ref jb, .ref jy, .long w])), (jh, .inr (1, [.ref jt, .ref jk, .ref jv, .ref jr, .int (nI n)])), (jk, .inl (ck, 43, .inl K)), (jv, .inl (cv, 43, .inl V)), (jr, .inl (cr, 43, .inl R)), (jb, .inl (cb, 8, .inr (.inl (pbB n K V R B))))] [(ck, .int), (cv, .int), (cr, .int), (cb, .long)]) (A)) ([.ref jd]).toArray s 0 0 A) (F0 m 23 ls []) := by
          intro k9_23
          induction k9_23 with
          | zero =>
            intro i hk9
            exact absurd hk9 (Nat.not_lt_zero _)
          | succ k9_23 ih_23 =>
            intro i hk9_23 hi H locs hP hD hS ls hl
            refine lv_iload_n hx hb d_D_notePartsOfBits_23 rfl (lv_at hl 1 rfl) ?_
            refine lv_aload_n hx hb d_D_notePartsOfBits_24 rfl (lv_at hl 0 rfl) ?_
            refine va_get (D := (dC, dI)) (ci := 2) (v := .ref jh) (C := R_D) (T := F_D) (N := 7) hx hb hts (lay_D _) hown hK hP 0 rfl rfl 1 (by decide) (hts _ (List.mem_cons_of_mem _ m_57)) (fun _ h9 => h9) rfl d_D_notePartsOfBits_25 ?_
            refine va_getN (D := (dC, dI)) (ci := 1) (v := .int (nI n)) (C := R_H) (T := F_H) (N := 5) hx hb hts (lay_H _) hown hK hP 1 rfl rfl 4 (by decide) (hN.use (by decide +kernel : (Jvm.Cond.fieldLinkNest "PortDrawer" (62 : Nat) "PortDrawer$Harbour" "parts" "I" "PortDrawer") ∈ NWl)) (fun _ h9 => h9) rfl d_D_notePartsOfBits_28 ?_
            refine lv_icmp_ge (tgt := 110) hx hb d_D_notePartsOfBits_31 (by decide) (fun c_31 => ?_) (fun c_31 => ?_)
            · skip
              have c_31 := (nI_leI (by omega) (by omega)).mp c_31
              rw [show i = n by omega] at hP hD
              have hP9 := hP.sub (ws' := [(jd, .inr (2, [.long sd, .ref jh, .ref jh2, .ref jg, .ref jb, .ref jy, .long w])), (jh, .inr (1, [.ref jt, .ref jk, .ref jv, .ref jr, .int (nI n)])), (jk, .inl (ck, 43, .inl K)), (jv, .inl (cv, 43, .inl V)), (jr, .inl (cr, 43, .inl R)), (jb, .inl (cb, 8, .inr (.inl (pbB n K V R B))))]) [0, 1, 2, 3, 4, 5] rfl
              have hD9 := hD.sub (ws' := [(jd, .inr (2, [.long sd, .ref jh, .ref jh2, .ref jg, .ref jb, .ref jy, .long w])), (jh, .inr (1, [.ref jt, .ref jk, .ref jv, .ref jr, .int (nI n)])), (jk, .inl (ck, 43, .inl K)), (jv, .inl (cv, 43, .inl V)), (jr, .inl (cr, 43, .inl R)), (jb, .inl (cb, 8, .inr (.inl (pbB n K V R B))))]) [0, 1, 2, 3, 4, 5] (by decide) rfl
              have hK9 := hK.sub (tys' := [(ck, .int), (cv, .int), (cr, .int), (cb, .long)]) [0, 1, 2, 3] rfl
              exact W.vret hx hb hr (fun t ht hW => ⟨⟨(), rfl, trivial, by rw [ht]; exact hP9, va_K.moved hW.alike hK9, hD9⟩, hS.F ht⟩) hS.2.2 d_D_notePartsOfBits_110
            · skip
              have c_31 := (not_congr (nI_leI (by omega) (by omega))).mp c_31
              refine lv_aload_n hx hb d_D_notePartsOfBits_34 rfl (lv_at hl 0 rfl) ?_
              refine va_get (D := (dC, dI)) (ci := 2) (v := .ref jh) (C := R_D) (T := F_D) (N := 7) hx hb hts (lay_D _) hown hK hP 0 rfl rfl 1 (by decide) (hts _ (List.mem_cons_of_mem _ m_57)) (fun _ h9 => h9) rfl d_D_notePartsOfBits_35 ?_
              refine va_getN (D := (dC, dI)) (ci := 1) (v := .ref jk) (C := R_H) (T := F_H) (N := 5) hx hb hts (lay_H _) hown hK hP 1 rfl rfl 1 (by decide) (hN.use (by decide +kernel : (Jvm.Cond.fieldLinkNest "PortDrawer" (74 : Nat) "PortDrawer$Harbour" "kinds" "[I" "PortDrawer") ∈ NWl)) (fun _ h9 => h9) rfl d_D_notePartsOfBits_38 ?_
              refine lv_iload_n hx hb d_D_notePartsOfBits_41 rfl (lv_at hl 1 rfl) ?_
              refine va_iald hx hb hK hP 2 0 rfl rfl (vp_in_nI (by omega) (by omega)) d_D_notePartsOfBits_42 ?_
              refine lv_topi (fun w_1 ew_1 => ?_)
              rw [nI_clamp (by omega)] at ew_1
              subst ew_1
              refine lv_istore_n (lv' := [(2, .int (K i)), (0, .ref jd), (1, .int (nI i))]) hx hb d_D_notePartsOfBits_43 rfl hl (by decide) rfl (fun ls hl => ?_)
              refine lv_aload_n hx hb d_D_notePartsOfBits_44 rfl (lv_at hl 1 rfl) ?_
              refine va_get (D := (dC, dI)) (ci := 2) (v := .ref jh) (C := R_D) (T := F_D) (N := 7) hx hb hts (lay_D _) hown hK hP 0 rfl rfl 1 (by decide) (hts _ (List.mem_cons_of_mem _ m_57)) (fun _ h9 => h9) rfl d_D_notePartsOfBits_45 ?_
              refine va_getN (D := (dC, dI)) (ci := 1) (v := .ref jv) (C := R_H) (T := F_H) (N := 5) hx hb hts (lay_H _) hown hK hP 1 rfl rfl 2 (by decide) (hN.use (by decide +kernel : (Jvm.Cond.fieldLinkNest "PortDrawer" (82 : Nat) "PortDrawer$Harbour" "values" "[I" "PortDrawer") ∈ NWl)) (fun _ h9 => h9) rfl d_D_notePartsOfBits_48 ?_
              refine lv_iload_n hx hb d_D_notePartsOfBits_51 rfl (lv_at hl 2 rfl) ?_
              refine va_iald hx hb hK hP 3 1 rfl rfl (vp_in_nI (by omega) (by omega)) d_D_notePartsOfBits_52 ?_
              refine lv_topi (fun w_2 ew_2 => ?_)
              rw [nI_clamp (by omega)] at ew_2
              subst ew_2
              refine lv_bipush (v := nI 50) hx hb d_D_notePartsOfBits_53 (by decide +kernel) ?_
              refine lv_icmp_lt (tgt := 80) hx hb d_D_notePartsOfBits_55 (by decide) (fun c_55 => ?_) (fun c_55 => ?_)
              · skip
                rw [show pbL n K V R (zeL B 8) i = p1S K V i (pbL n K V R (zeL B 8) i) from ((if_neg (by simp [kiB, c_5, c_31, c_55])).symm)] at hP hD
                have lp_80 : ∀ (H : Heap) (locs : List Loc), va_P (dC, dI) classes [(jd, .inr (2, [.long sd, .ref jh, .ref jh2, .ref jg, .ref jb, .ref jy, .long w])), (jh, .inr (1, [.ref jt, .ref jk, .ref jv, .ref jr, .int (nI n)])), (jk, .inl (ck, 43, .inl K)), (jv, .inl (cv, 43, .inl V)), (jr, .inl (cr, 43, .inl R)), (jb, .inl (cb, 8, .inr (.inl (p1S K V i (pbL n K V R (zeL B 8) i)))))] H → va_D A [(jd, .inr (2, [.long sd, .ref jh, .ref jh2, .ref jg, .ref jb, .ref jy, .long w])), (jh, .inr (1, [.ref jt, .ref jk, .ref jv, .ref jr, .int (nI n)])), (jk, .inl (ck, 43, .inl K)), (jv, .inl (cv, 43, .inl V)), (jr, .inl (cr, 43, .inl R)), (jb, .inl (cb, 8, .inr (.inl (p1S K V i (pbL n K V R (zeL B 8) i)))))] → va_S A s.heap H locs → ∀ (ls : Array Slot), lv_has ls 3 [(0, .ref jd), (1, .int (nI i))] → W p l e (headSpec w_D_notePartsOfBits ({ frames := 3, cells := 0, slots := 0, locals := 64 })).room s m ([.ref jd]).toArray below meth c H locs 0 0 (MQ below (va_Qv (fun (_ : Unit) => True) (fun (u : Unit) => wr_B dC dI (A) [(jd, .inr (2, [.long sd, .ref jh, .ref jh2, .ref jg, .ref jb, .ref jy, .long w])), (jh, .inr (1, [.ref jt, .ref jk, .ref jv, .ref jr, .int (nI n)])), (jk, .inl (ck, 43, .inl K)), (jv, .inl (cv, 43, .inl V)), (jr, .inl (cr, 43, .inl R)), (jb, .inl (cb, 8, .inr (.inl (pbB n K V R B))))] [(ck, .int), (cv, .int), (cr, .int), (cb, .long)]) (A)) ([.ref jd]).toArray s 0 0 A) (F0 m 80 ls []) := by
                  intro   H locs hP hD hS ls hl
                  refine lv_aload_n hx hb d_D_notePartsOfBits_80 rfl (lv_at hl 0 rfl) ?_
                  refine va_get (D := (dC, dI)) (ci := 2) (v := .ref jh) (C := R_D) (T := F_D) (N := 7) hx hb hts (lay_D _) hown hK hP 0 rfl rfl 1 (by decide) (hts _ (List.mem_cons_of_mem _ m_57)) (fun _ h9 => h9) rfl d_D_notePartsOfBits_81 ?_
                  refine lv_iload_n hx hb d_D_notePartsOfBits_84 rfl (lv_at hl 1 rfl) ?_
                  have hPc := hP.sub (ws' := [(jh, .inr (1, [.ref jt, .ref jk, .ref jv, .ref jr, .int (nI n)])), (jk, .inl (ck, 43, .inl K)), (jv, .inl (cv, 43, .inl V)), (jr, .inl (cr, 43, .inl R))]) [1, 2, 3, 4] rfl
                  have hKc := hK.sub (tys' := [(ck, .int), (cv, .int), (cr, .int)]) [0, 1, 2] rfl
                  refine vp_callSi (va_Run.run (va_runVN (As := [.int (nI i)]) (rest := []) ⟨hx, hb, hml, hown, hts⟩ (c_H_isFittingAct l dC dI jh jt jk jv jr n ck cv cr K V R (nI i) (by first | assumption | omega)) ⟨va_cnB 1 hts (g_c big_w m_271) rfl rfl rfl (hN _ (by decide +kernel : (Jvm.Cond.methodLinkNest "PortDrawer" (99 : Nat) ({ cls := "PortDrawer$Harbour", name := "isFittingAct", desc := "(I)Z" } : Jvm.MethodName) "PortDrawer") ∈ NWl)) (hts _ (List.mem_cons_of_mem _ m_2)) (by decide +kernel) ⟨Nat.le_of_ble_eq_true rfl, Nat.le_of_ble_eq_true rfl⟩, (hts _ (List.mem_cons_of_mem _ m_270)), (hts _ (List.mem_cons_of_mem _ ms_18))⟩ (ro_V hPc hKc hN (va_recv hKc hPc (ci := 1) (q0 := 0) rfl rfl)) rfl rfl hl.1 rfl (lv_room (Nat.le_of_ble_eq_true rfl)) d_D_notePartsOfBits_85 ⟨Nat.le_of_ble_eq_true rfl, Nat.le_of_ble_eq_true rfl⟩)) (fun r_3 er_3 => ?_)
                  subst er_3
                  refine lv_if_eq (tgt := 104) hx hb d_D_notePartsOfBits_88 (by decide) (fun c_88 => ?_) (fun c_88 => ?_)
                  · skip
                    have c_88 := bI_f c_88
                    rw [show p1S K V i (pbL n K V R (zeL B 8) i) = pbL n K V R (zeL B 8) (i + 1) from ((if_neg (by rw [c_88]; decide)).symm)] at hP hD
                    refine lv_iinc (v := nI (i + 1)) (lv' := [(1, .int (nI (i + 1))), (0, .ref jd)]) hx hb d_D_notePartsOfBits_104 hl (k := 1) rfl (nI_1 _) (by decide) rfl (fun ls hl => ?_)
                    refine lv_goto (tgt := 23) hx hb d_D_notePartsOfBits_107 (by decide) ?_
                    exact ih_23 (i + 1) (by omega) (by first | assumption | omega) _ _ (hP.sub (ws' := [(jd, .inr (2, [.long sd, .ref jh, .ref jh2, .ref jg, .ref jb, .ref jy, .long w])), (jh, .inr (1, [.ref jt, .ref jk, .ref jv, .ref jr, .int (nI n)])), (jk, .inl (ck, 43, .inl K)), (jv, .inl (cv, 43, .inl V)), (jr, .inl (cr, 43, .inl R)), (jb, .inl (cb, 8, .inr (.inl (pbL n K V R (zeL B 8) (i + 1)))))]) [0, 1, 2, 3, 4, 5] rfl) (hD.sub (ws' := [(jd, .inr (2, [.long sd, .ref jh, .ref jh2, .ref jg, .ref jb, .ref jy, .long w])), (jh, .inr (1, [.ref jt, .ref jk, .ref jv, .ref jr, .int (nI n)])), (jk, .inl (ck, 43, .inl K)), (jv, .inl (cv, 43, .inl V)), (jr, .inl (cr, 43, .inl R)), (jb, .inl (cb, 8, .inr (.inl (pbL n K V R (zeL B 8) (i + 1)))))]) [0, 1, 2, 3, 4, 5] (by decide) rfl) hS ls (lv_sub (l' := [(0, .ref jd), (1, .int (nI (i + 1)))]) hl [1, 0] rfl)
                  · skip
                    have c_88 := bI_t c_88
                    refine lv_aload_n hx hb d_D_notePartsOfBits_91 rfl (lv_at hl 0 rfl) ?_
                    refine va_get (D := (dC, dI)) (ci := 2) (v := .ref jb) (C := R_D) (T := F_D) (N := 7) hx hb hts (lay_D _) hown hK hP 0 rfl rfl 4 (by decide) (hts _ (List.mem_cons_of_mem _ m_60)) (fun _ h9 => h9) rfl d_D_notePartsOfBits_92 ?_
                    refine lv_bipush (v := nI 7) hx hb d_D_notePartsOfBits_95 (by decide +kernel) ?_
                    refine lv_dup2_11 hx hb d_D_notePartsOfBits_97 rfl rfl ?_
                    refine va_lald hx hb hK hP 5 3 rfl rfl (vp_in_nI (by omega) (by omega)) d_D_notePartsOfBits_98 ?_
                    refine lv_topl (fun w_4 ew_4 => ?_)
                    rw [nI_clamp (by omega)] at ew_4
                    subst ew_4
                    refine lv_lconst (v := 1) hx hb d_D_notePartsOfBits_99 (by decide +kernel) ?_
                    refine lv_iload_n hx hb d_D_notePartsOfBits_100 rfl (lv_at hl 1 rfl) ?_
                    refine lv_lshl hx hb d_D_notePartsOfBits_101 rfl ?_
                    refine lv_lor hx hb d_D_notePartsOfBits_102 ?_
                    refine va_last hx hb hK hP hD hS 5 3 rfl rfl (vp_in_nI (by omega) (by omega)) d_D_notePartsOfBits_103 (fun H locs hP hD hS => ?_)
                    rw [nI_clamp (by omega)] at hP hD
                    have hP : va_P (dC, dI) classes [(jd, .inr (2, [.long sd, .ref jh, .ref jh2, .ref jg, .ref jb, .ref jy, .long w])), (jh, .inr (1, [.ref jt, .ref jk, .ref jv, .ref jr, .int (nI n)])), (jk, .inl (ck, 43, .inl K)), (jv, .inl (cv, 43, .inl V)), (jr, .inl (cr, 43, .inl R)), (jb, .inl (cb, 8, .inr (.inl (vp_updL (p1S K V i (pbL n K V R (zeL B 8) i)) 7 (((p1S K V i (pbL n K V R (zeL B 8) i)) 7) ||| (1 <<< ((nI i).toInt64 &&& 63)))))))] H := hP
                    have hD : va_D A [(jd, .inr (2, [.long sd, .ref jh, .ref jh2, .ref jg, .ref jb, .ref jy, .long w])), (jh, .inr (1, [.ref jt, .ref jk, .ref jv, .ref jr, .int (nI n)])), (jk, .inl (ck, 43, .inl K)), (jv, .inl (cv, 43, .inl V)), (jr, .inl (cr, 43, .inl R)), (jb, .inl (cb, 8, .inr (.inl (vp_updL (p1S K V i (pbL n K V R (zeL B 8) i)) 7 (((p1S K V i (pbL n K V R (zeL B 8) i)) 7) ||| (1 <<< ((nI i).toInt64 &&& 63)))))))] := hD
                    rw [show vp_updL (p1S K V i (pbL n K V R (zeL B 8) i)) 7 (((p1S K V i (pbL n K V R (zeL B 8) i)) 7) ||| (1 <<< ((nI i).toInt64 &&& 63))) = pbL n K V R (zeL B 8) (i + 1) from ((if_pos c_88).symm)] at hP hD
                    refine lv_iinc (v := nI (i + 1)) (lv' := [(1, .int (nI (i + 1))), (0, .ref jd)]) hx hb d_D_notePartsOfBits_104 hl (k := 1) rfl (nI_1 _) (by decide) rfl (fun ls hl => ?_)
                    refine lv_goto (tgt := 23) hx hb d_D_notePartsOfBits_107 (by decide) ?_
                    exact ih_23 (i + 1) (by omega) (by first | assumption | omega) _ _ (hP.sub (ws' := [(jd, .inr (2, [.long sd, .ref jh, .ref jh2, .ref jg, .ref jb, .ref jy, .long w])), (jh, .inr (1, [.ref jt, .ref jk, .ref jv, .ref jr, .int (nI n)])), (jk, .inl (ck, 43, .inl K)), (jv, .inl (cv, 43, .inl V)), (jr, .inl (cr, 43, .inl R)), (jb, .inl (cb, 8, .inr (.inl (pbL n K V R (zeL B 8) (i + 1)))))]) [0, 1, 2, 3, 4, 5] rfl) (hD.sub (ws' := [(jd, .inr (2, [.long sd, .ref jh, .ref jh2, .ref jg, .ref jb, .ref jy, .long w])), (jh, .inr (1, [.ref jt, .ref jk, .ref jv, .ref jr, .int (nI n)])), (jk, .inl (ck, 43, .inl K)), (jv, .inl (cv, 43, .inl V)), (jr, .inl (cr, 43, .inl R)), (jb, .inl (cb, 8, .inr (.inl (pbL n K V R (zeL B 8) (i + 1)))))]) [0, 1, 2, 3, 4, 5] (by decide) rfl) hS ls (lv_sub (l' := [(0, .ref jd), (1, .int (nI (i + 1)))]) hl [1, 0] rfl)
                exact lp_80 _ _ (hP.sub (ws' := [(jd, .inr (2, [.long sd, .ref jh, .ref jh2, .ref jg, .ref jb, .ref jy, .long w])), (jh, .inr (1, [.ref jt, .ref jk, .ref jv, .ref jr, .int (nI n)])), (jk, .inl (ck, 43, .inl K)), (jv, .inl (cv, 43, .inl V)), (jr, .inl (cr, 43, .inl R)), (jb, .inl (cb, 8, .inr (.inl (p1S K V i (pbL n K V R (zeL B 8) i)))))]) [0, 1, 2, 3, 4, 5] rfl) (hD.sub (ws' := [(jd, .inr (2, [.long sd, .ref jh, .ref jh2, .ref jg, .ref jb, .ref jy, .long w])), (jh, .inr (1, [.ref jt, .ref jk, .ref jv, .ref jr, .int (nI n)])), (jk, .inl (ck, 43, .inl K)), (jv, .inl (cv, 43, .inl V)), (jr, .inl (cr, 43, .inl R)), (jb, .inl (cb, 8, .inr (.inl (p1S K V i (pbL n K V R (zeL B 8) i)))))]) [0, 1, 2, 3, 4, 5] (by decide) rfl) hS ls (lv_sub (l' := [(0, .ref jd), (1, .int (nI i))]) hl [1, 2] rfl)
              · skip
                refine lv_iload_n hx hb d_D_notePartsOfBits_58 rfl (lv_at hl 0 rfl) ?_
                refine lv_if_lt (tgt := 80) hx hb d_D_notePartsOfBits_59 (by decide) (fun c_59 => ?_) (fun c_59 => ?_)
                · skip
                  rw [show pbL n K V R (zeL B 8) i = p1S K V i (pbL n K V R (zeL B 8) i) from ((if_neg (by simp [kiB, c_5, c_31, c_55, c_59])).symm)] at hP hD
                  have lp_80 : ∀ (H : Heap) (locs : List Loc), va_P (dC, dI) classes [(jd, .inr (2, [.long sd, .ref jh, .ref jh2, .ref jg, .ref jb, .ref jy, .long w])), (jh, .inr (1, [.ref jt, .ref jk, .ref jv, .ref jr, .int (nI n)])), (jk, .inl (ck, 43, .inl K)), (jv, .inl (cv, 43, .inl V)), (jr, .inl (cr, 43, .inl R)), (jb, .inl (cb, 8, .inr (.inl (p1S K V i (pbL n K V R (zeL B 8) i)))))] H → va_D A [(jd, .inr (2, [.long sd, .ref jh, .ref jh2, .ref jg, .ref jb, .ref jy, .long w])), (jh, .inr (1, [.ref jt, .ref jk, .ref jv, .ref jr, .int (nI n)])), (jk, .inl (ck, 43, .inl K)), (jv, .inl (cv, 43, .inl V)), (jr, .inl (cr, 43, .inl R)), (jb, .inl (cb, 8, .inr (.inl (p1S K V i (pbL n K V R (zeL B 8) i)))))] → va_S A s.heap H locs → ∀ (ls : Array Slot), lv_has ls 3 [(0, .ref jd), (1, .int (nI i))] → W p l e (headSpec w_D_notePartsOfBits ({ frames := 3, cells := 0, slots := 0, locals := 64 })).room s m ([.ref jd]).toArray below meth c H locs 0 0 (MQ below (va_Qv (fun (_ : Unit) => True) (fun (u : Unit) => wr_B dC dI (A) [(jd, .inr (2, [.long sd, .ref jh, .ref jh2, .ref jg, .ref jb, .ref jy, .long w])), (jh, .inr (1, [.ref jt, .ref jk, .ref jv, .ref jr, .int (nI n)])), (jk, .inl (ck, 43, .inl K)), (jv, .inl (cv, 43, .inl V)), (jr, .inl (cr, 43, .inl R)), (jb, .inl (cb, 8, .inr (.inl (pbB n K V R B))))] [(ck, .int), (cv, .int), (cr, .int), (cb, .long)]) (A)) ([.ref jd]).toArray s 0 0 A) (F0 m 80 ls []) := by
                    intro   H locs hP hD hS ls hl
                    refine lv_aload_n hx hb d_D_notePartsOfBits_80 rfl (lv_at hl 0 rfl) ?_
                    refine va_get (D := (dC, dI)) (ci := 2) (v := .ref jh) (C := R_D) (T := F_D) (N := 7) hx hb hts (lay_D _) hown hK hP 0 rfl rfl 1 (by decide) (hts _ (List.mem_cons_of_mem _ m_57)) (fun _ h9 => h9) rfl d_D_notePartsOfBits_81 ?_
                    refine lv_iload_n hx hb d_D_notePartsOfBits_84 rfl (lv_at hl 1 rfl) ?_
                    have hPc := hP.sub (ws' := [(jh, .inr (1, [.ref jt, .ref jk, .ref jv, .ref jr, .int (nI n)])), (jk, .inl (ck, 43, .inl K)), (jv, .inl (cv, 43, .inl V)), (jr, .inl (cr, 43, .inl R))]) [1, 2, 3, 4] rfl
                    have hKc := hK.sub (tys' := [(ck, .int), (cv, .int), (cr, .int)]) [0, 1, 2] rfl
                    refine vp_callSi (va_Run.run (va_runVN (As := [.int (nI i)]) (rest := []) ⟨hx, hb, hml, hown, hts⟩ (c_H_isFittingAct l dC dI jh jt jk jv jr n ck cv cr K V R (nI i) (by first | assumption | omega)) ⟨va_cnB 1 hts (g_c big_w m_271) rfl rfl rfl (hN _ (by decide +kernel : (Jvm.Cond.methodLinkNest "PortDrawer" (99 : Nat) ({ cls := "PortDrawer$Harbour", name := "isFittingAct", desc := "(I)Z" } : Jvm.MethodName) "PortDrawer") ∈ NWl)) (hts _ (List.mem_cons_of_mem _ m_2)) (by decide +kernel) ⟨Nat.le_of_ble_eq_true rfl, Nat.le_of_ble_eq_true rfl⟩, (hts _ (List.mem_cons_of_mem _ m_270)), (hts _ (List.mem_cons_of_mem _ ms_18))⟩ (ro_V hPc hKc hN (va_recv hKc hPc (ci := 1) (q0 := 0) rfl rfl)) rfl rfl hl.1 rfl (lv_room (Nat.le_of_ble_eq_true rfl)) d_D_notePartsOfBits_85 ⟨Nat.le_of_ble_eq_true rfl, Nat.le_of_ble_eq_true rfl⟩)) (fun r_5 er_5 => ?_)
                    subst er_5
                    refine lv_if_eq (tgt := 104) hx hb d_D_notePartsOfBits_88 (by decide) (fun c_88 => ?_) (fun c_88 => ?_)
                    · skip
                      have c_88 := bI_f c_88
                      rw [show p1S K V i (pbL n K V R (zeL B 8) i) = pbL n K V R (zeL B 8) (i + 1) from ((if_neg (by rw [c_88]; decide)).symm)] at hP hD
                      refine lv_iinc (v := nI (i + 1)) (lv' := [(1, .int (nI (i + 1))), (0, .ref jd)]) hx hb d_D_notePartsOfBits_104 hl (k := 1) rfl (nI_1 _) (by decide) rfl (fun ls hl => ?_)
                      refine lv_goto (tgt := 23) hx hb d_D_notePartsOfBits_107 (by decide) ?_
                      exact ih_23 (i + 1) (by omega) (by first | assumption | omega) _ _ (hP.sub (ws' := [(jd, .inr (2, [.long sd, .ref jh, .ref jh2, .ref jg, .ref jb, .ref jy, .long w])), (jh, .inr (1, [.ref jt, .ref jk, .ref jv, .ref jr, .int (nI n)])), (jk, .inl (ck, 43, .inl K)), (jv, .inl (cv, 43, .inl V)), (jr, .inl (cr, 43, .inl R)), (jb, .inl (cb, 8, .inr (.inl (pbL n K V R (zeL B 8) (i + 1)))))]) [0, 1, 2, 3, 4, 5] rfl) (hD.sub (ws' := [(jd, .inr (2, [.long sd, .ref jh, .ref jh2, .ref jg, .ref jb, .ref jy, .long w])), (jh, .inr (1, [.ref jt, .ref jk, .ref jv, .ref jr, .int (nI n)])), (jk, .inl (ck, 43, .inl K)), (jv, .inl (cv, 43, .inl V)), (jr, .inl (cr, 43, .inl R)), (jb, .inl (cb, 8, .inr (.inl (pbL n K V R (zeL B 8) (i + 1)))))]) [0, 1, 2, 3, 4, 5] (by decide) rfl) hS ls (lv_sub (l' := [(0, .ref jd), (1, .int (nI (i + 1)))]) hl [1, 0] rfl)
                    · skip
                      have c_88 := bI_t c_88
                      refine lv_aload_n hx hb d_D_notePartsOfBits_91 rfl (lv_at hl 0 rfl) ?_
                      refine va_get (D := (dC, dI)) (ci := 2) (v := .ref jb) (C := R_D) (T := F_D) (N := 7) hx hb hts (lay_D _) hown hK hP 0 rfl rfl 4 (by decide) (hts _ (List.mem_cons_of_mem _ m_60)) (fun _ h9 => h9) rfl d_D_notePartsOfBits_92 ?_
                      refine lv_bipush (v := nI 7) hx hb d_D_notePartsOfBits_95 (by decide +kernel) ?_
                      refine lv_dup2_11 hx hb d_D_notePartsOfBits_97 rfl rfl ?_
                      refine va_lald hx hb hK hP 5 3 rfl rfl (vp_in_nI (by omega) (by omega)) d_D_notePartsOfBits_98 ?_
                      refine lv_topl (fun w_6 ew_6 => ?_)
                      rw [nI_clamp (by omega)] at ew_6
                      subst ew_6
                      refine lv_lconst (v := 1) hx hb d_D_notePartsOfBits_99 (by decide +kernel) ?_
                      refine lv_iload_n hx hb d_D_notePartsOfBits_100 rfl (lv_at hl 1 rfl) ?_
                      refine lv_lshl hx hb d_D_notePartsOfBits_101 rfl ?_
                      refine lv_lor hx hb d_D_notePartsOfBits_102 ?_
                      refine va_last hx hb hK hP hD hS 5 3 rfl rfl (vp_in_nI (by omega) (by omega)) d_D_notePartsOfBits_103 (fun H locs hP hD hS => ?_)
                      rw [nI_clamp (by omega)] at hP hD
                      have hP : va_P (dC, dI) classes [(jd, .inr (2, [.long sd, .ref jh, .ref jh2, .ref jg, .ref jb, .ref jy, .long w])), (jh, .inr (1, [.ref jt, .ref jk, .ref jv, .ref jr, .int (nI n)])), (jk, .inl (ck, 43, .inl K)), (jv, .inl (cv, 43, .inl V)), (jr, .inl (cr, 43, .inl R)), (jb, .inl (cb, 8, .inr (.inl (vp_updL (p1S K V i (pbL n K V R (zeL B 8) i)) 7 (((p1S K V i (pbL n K V R (zeL B 8) i)) 7) ||| (1 <<< ((nI i).toInt64 &&& 63)))))))] H := hP
                      have hD : va_D A [(jd, .inr (2, [.long sd, .ref jh, .ref jh2, .ref jg, .ref jb, .ref jy, .long w])), (jh, .inr (1, [.ref jt, .ref jk, .ref jv, .ref jr, .int (nI n)])), (jk, .inl (ck, 43, .inl K)), (jv, .inl (cv, 43, .inl V)), (jr, .inl (cr, 43, .inl R)), (jb, .inl (cb, 8, .inr (.inl (vp_updL (p1S K V i (pbL n K V R (zeL B 8) i)) 7 (((p1S K V i (pbL n K V R (zeL B 8) i)) 7) ||| (1 <<< ((nI i).toInt64 &&& 63)))))))] := hD
                      rw [show vp_updL (p1S K V i (pbL n K V R (zeL B 8) i)) 7 (((p1S K V i (pbL n K V R (zeL B 8) i)) 7) ||| (1 <<< ((nI i).toInt64 &&& 63))) = pbL n K V R (zeL B 8) (i + 1) from ((if_pos c_88).symm)] at hP hD
                      refine lv_iinc (v := nI (i + 1)) (lv' := [(1, .int (nI (i + 1))), (0, .ref jd)]) hx hb d_D_notePartsOfBits_104 hl (k := 1) rfl (nI_1 _) (by decide) rfl (fun ls hl => ?_)
                      refine lv_goto (tgt := 23) hx hb d_D_notePartsOfBits_107 (by decide) ?_
                      exact ih_23 (i + 1) (by omega) (by first | assumption | omega) _ _ (hP.sub (ws' := [(jd, .inr (2, [.long sd, .ref jh, .ref jh2, .ref jg, .ref jb, .ref jy, .long w])), (jh, .inr (1, [.ref jt, .ref jk, .ref jv, .ref jr, .int (nI n)])), (jk, .inl (ck, 43, .inl K)), (jv, .inl (cv, 43, .inl V)), (jr, .inl (cr, 43, .inl R)), (jb, .inl (cb, 8, .inr (.inl (pbL n K V R (zeL B 8) (i + 1)))))]) [0, 1, 2, 3, 4, 5] rfl) (hD.sub (ws' := [(jd, .inr (2, [.long sd, .ref jh, .ref jh2, .ref jg, .ref jb, .ref jy, .long w])), (jh, .inr (1, [.ref jt, .ref jk, .ref jv, .ref jr, .int (nI n)])), (jk, .inl (ck, 43, .inl K)), (jv, .inl (cv, 43, .inl V)), (jr, .inl (cr, 43, .inl R)), (jb, .inl (cb, 8, .inr (.inl (pbL n K V R (zeL B 8) (i + 1)))))]) [0, 1, 2, 3, 4, 5] (by decide) rfl) hS ls (lv_sub (l' := [(0, .ref jd), (1, .int (nI (i + 1)))]) hl [1, 0] rfl)
                  exact lp_80 _ _ (hP.sub (ws' := [(jd, .inr (2, [.long sd, .ref jh, .ref jh2, .ref jg, .ref jb, .ref jy, .long w])), (jh, .inr (1, [.ref jt, .ref jk, .ref jv, .ref jr, .int (nI n)])), (jk, .inl (ck, 43, .inl K)), (jv, .inl (cv, 43, .inl V)), (jr, .inl (cr, 43, .inl R)), (jb, .inl (cb, 8, .inr (.inl (p1S K V i (pbL n K V R (zeL B 8) i)))))]) [0, 1, 2, 3, 4, 5] rfl) (hD.sub (ws' := [(jd, .inr (2, [.long sd, .ref jh, .ref jh2, .ref jg, .ref jb, .ref jy, .long w])), (jh, .inr (1, [.ref jt, .ref jk, .ref jv, .ref jr, .int (nI n)])), (jk, .inl (ck, 43, .inl K)), (jv, .inl (cv, 43, .inl V)), (jr, .inl (cr, 43, .inl R)), (jb, .inl (cb, 8, .inr (.inl (p1S K V i (pbL n K V R (zeL B 8) i)))))]) [0, 1, 2, 3, 4, 5] (by decide) rfl) hS ls (lv_sub (l' := [(0, .ref jd), (1, .int (nI i))]) hl [1, 2] rfl)
                · skip
                  refine lv_iload_n hx hb d_D_notePartsOfBits_62 rfl (lv_at hl 0 rfl) ?_
                  refine lv_bipush (v := nI 7) hx hb d_D_notePartsOfBits_63 (by decide +kernel) ?_
                  refine lv_icmp_ge (tgt := 80) hx hb d_D_notePartsOfBits_65 (by decide) (fun c_65 => ?_) (fun c_65 => ?_)
                  · skip
                    rw [show pbL n K V R (zeL B 8) i = p1S K V i (pbL n K V R (zeL B 8) i) from ((if_neg (by simp [kiB, c_5, c_31, c_55, c_59, c_65])).symm)] at hP hD
                    have lp_80 : ∀ (H : Heap) (locs : List Loc), va_P (dC, dI) classes [(jd, .inr (2, [.long sd, .ref jh, .ref jh2, .ref jg, .ref jb, .ref jy, .long w])), (jh, .inr (1, [.ref jt, .ref jk, .ref jv, .ref jr, .int (nI n)])), (jk, .inl (ck, 43, .inl K)), (jv, .inl (cv, 43, .inl V)), (jr, .inl (cr, 43, .inl R)), (jb, .inl (cb, 8, .inr (.inl (p1S K V i (pbL n K V R (zeL B 8) i)))))] H → va_D A [(jd, .inr (2, [.long sd, .ref jh, .ref jh2, .ref jg, .ref jb, .ref jy, .long w])), (jh, .inr (1, [.ref jt, .ref jk, .ref jv, .ref jr, .int (nI n)])), (jk, .inl (ck, 43, .inl K)), (jv, .inl (cv, 43, .inl V)), (jr, .inl (cr, 43, .inl R)), (jb, .inl (cb, 8, .inr (.inl (p1S K V i (pbL n K V R (zeL B 8) i)))))] → va_S A s.heap H locs → ∀ (ls : Array Slot), lv_has ls 3 [(0, .ref jd), (1, .int (nI i))] → W p l e (headSpec w_D_notePartsOfBits ({ frames := 3, cells := 0, slots := 0, locals := 64 })).room s m ([.ref jd]).toArray below meth c H locs 0 0 (MQ below (va_Qv (fun (_ : Unit) => True) (fun (u : Unit) => wr_B dC dI (A) [(jd, .inr (2, [.long sd, .ref jh, .ref jh2, .ref jg, .ref jb, .ref jy, .long w])), (jh, .inr (1, [.ref jt, .ref jk, .ref jv, .ref jr, .int (nI n)])), (jk, .inl (ck, 43, .inl K)), (jv, .inl (cv, 43, .inl V)), (jr, .inl (cr, 43, .inl R)), (jb, .inl (cb, 8, .inr (.inl (pbB n K V R B))))] [(ck, .int), (cv, .int), (cr, .int), (cb, .long)]) (A)) ([.ref jd]).toArray s 0 0 A) (F0 m 80 ls []) := by
                      intro   H locs hP hD hS ls hl
                      refine lv_aload_n hx hb d_D_notePartsOfBits_80 rfl (lv_at hl 0 rfl) ?_
                      refine va_get (D := (dC, dI)) (ci := 2) (v := .ref jh) (C := R_D) (T := F_D) (N := 7) hx hb hts (lay_D _) hown hK hP 0 rfl rfl 1 (by decide) (hts _ (List.mem_cons_of_mem _ m_57)) (fun _ h9 => h9) rfl d_D_notePartsOfBits_81 ?_
                      refine lv_iload_n hx hb d_D_notePartsOfBits_84 rfl (lv_at hl 1 rfl) ?_
                      have hPc := hP.sub (ws' := [(jh, .inr (1, [.ref jt, .ref jk, .ref jv, .ref jr, .int (nI n)])), (jk, .inl (ck, 43, .inl K)), (jv, .inl (cv, 43, .inl V)), (jr, .inl (cr, 43, .inl R))]) [1, 2, 3, 4] rfl
                      have hKc := hK.sub (tys' := [(ck, .int), (cv, .int), (cr, .int)]) [0, 1, 2] rfl
                      refine vp_callSi (va_Run.run (va_runVN (As := [.int (nI i)]) (rest := []) ⟨hx, hb, hml, hown, hts⟩ (c_H_isFittingAct l dC dI jh jt jk jv jr n ck cv cr K V R (nI i) (by first | assumption | omega)) ⟨va_cnB 1 hts (g_c big_w m_271) rfl rfl rfl (hN _ (by decide +kernel : (Jvm.Cond.methodLinkNest "PortDrawer" (99 : Nat) ({ cls := "PortDrawer$Harbour", name := "isFittingAct", desc := "(I)Z" } : Jvm.MethodName) "PortDrawer") ∈ NWl)) (hts _ (List.mem_cons_of_mem _ m_2)) (by decide +kernel) ⟨Nat.le_of_ble_eq_true rfl, Nat.le_of_ble_eq_true rfl⟩, (hts _ (List.mem_cons_of_mem _ m_270)), (hts _ (List.mem_cons_of_mem _ ms_18))⟩ (ro_V hPc hKc hN (va_recv hKc hPc (ci := 1) (q0 := 0) rfl rfl)) rfl rfl hl.1 rfl (lv_room (Nat.le_of_ble_eq_true rfl)) d_D_notePartsOfBits_85 ⟨Nat.le_of_ble_eq_true rfl, Nat.le_of_ble_eq_true rfl⟩)) (fun r_7 er_7 => ?_)
                      subst er_7
                      refine lv_if_eq (tgt := 104) hx hb d_D_notePartsOfBits_88 (by decide) (fun c_88 => ?_) (fun c_88 => ?_)
                      · skip
                        have c_88 := bI_f c_88
                        rw [show p1S K V i (pbL n K V R (zeL B 8) i) = pbL n K V R (zeL B 8) (i + 1) from ((if_neg (by rw [c_88]; decide)).symm)] at hP hD
                        refine lv_iinc (v := nI (i + 1)) (lv' := [(1, .int (nI (i + 1))), (0, .ref jd)]) hx hb d_D_notePartsOfBits_104 hl (k := 1) rfl (nI_1 _) (by decide) rfl (fun ls hl => ?_)
                        refine lv_goto (tgt := 23) hx hb d_D_notePartsOfBits_107 (by decide) ?_
                        exact ih_23 (i + 1) (by omega) (by first | assumption | omega) _ _ (hP.sub (ws' := [(jd, .inr (2, [.long sd, .ref jh, .ref jh2, .ref jg, .ref jb, .ref jy, .long w])), (jh, .inr (1, [.ref jt, .ref jk, .ref jv, .ref jr, .int (nI n)])), (jk, .inl (ck, 43, .inl K)), (jv, .inl (cv, 43, .inl V)), (jr, .inl (cr, 43, .inl R)), (jb, .inl (cb, 8, .inr (.inl (pbL n K V R (zeL B 8) (i + 1)))))]) [0, 1, 2, 3, 4, 5] rfl) (hD.sub (ws' := [(jd, .inr (2, [.long sd, .ref jh, .ref jh2, .ref jg, .ref jb, .ref jy, .long w])), (jh, .inr (1, [.ref jt, .ref jk, .ref jv, .ref jr, .int (nI n)])), (jk, .inl (ck, 43, .inl K)), (jv, .inl (cv, 43, .inl V)), (jr, .inl (cr, 43, .inl R)), (jb, .inl (cb, 8, .inr (.inl (pbL n K V R (zeL B 8) (i + 1)))))]) [0, 1, 2, 3, 4, 5] (by decide) rfl) hS ls (lv_sub (l' := [(0, .ref jd), (1, .int (nI (i + 1)))]) hl [1, 0] rfl)
                      · skip
                        have c_88 := bI_t c_88
                        refine lv_aload_n hx hb d_D_notePartsOfBits_91 rfl (lv_at hl 0 rfl) ?_
                        refine va_get (D := (dC, dI)) (ci := 2) (v := .ref jb) (C := R_D) (T := F_D) (N := 7) hx hb hts (lay_D _) hown hK hP 0 rfl rfl 4 (by decide) (hts _ (List.mem_cons_of_mem _ m_60)) (fun _ h9 => h9) rfl d_D_notePartsOfBits_92 ?_
                        refine lv_bipush (v := nI 7) hx hb d_D_notePartsOfBits_95 (by decide +kernel) ?_
                        refine lv_dup2_11 hx hb d_D_notePartsOfBits_97 rfl rfl ?_
                        refine va_lald hx hb hK hP 5 3 rfl rfl (vp_in_nI (by omega) (by omega)) d_D_notePartsOfBits_98 ?_
                        refine lv_topl (fun w_8 ew_8 => ?_)
                        rw [nI_clamp (by omega)] at ew_8
                        subst ew_8
                        refine lv_lconst (v := 1) hx hb d_D_notePartsOfBits_99 (by decide +kernel) ?_
                        refine lv_iload_n hx hb d_D_notePartsOfBits_100 rfl (lv_at hl 1 rfl) ?_
                        refine lv_lshl hx hb d_D_notePartsOfBits_101 rfl ?_
                        refine lv_lor hx hb d_D_notePartsOfBits_102 ?_
                        refine va_last hx hb hK hP hD hS 5 3 rfl rfl (vp_in_nI (by omega) (by omega)) d_D_notePartsOfBits_103 (fun H locs hP hD hS => ?_)
                        rw [nI_clamp (by omega)] at hP hD
                        have hP : va_P (dC, dI) classes [(jd, .inr (2, [.long sd, .ref jh, .ref jh2, .ref jg, .ref jb, .ref jy, .long w])), (jh, .inr (1, [.ref jt, .ref jk, .ref jv, .ref jr, .int (nI n)])), (jk, .inl (ck, 43, .inl K)), (jv, .inl (cv, 43, .inl V)), (jr, .inl (cr, 43, .inl R)), (jb, .inl (cb, 8, .inr (.inl (vp_updL (p1S K V i (pbL n K V R (zeL B 8) i)) 7 (((p1S K V i (pbL n K V R (zeL B 8) i)) 7) ||| (1 <<< ((nI i).toInt64 &&& 63)))))))] H := hP
                        have hD : va_D A [(jd, .inr (2, [.long sd, .ref jh, .ref jh2, .ref jg, .ref jb, .ref jy, .long w])), (jh, .inr (1, [.ref jt, .ref jk, .ref jv, .ref jr, .int (nI n)])), (jk, .inl (ck, 43, .inl K)), (jv, .inl (cv, 43, .inl V)), (jr, .inl (cr, 43, .inl R)), (jb, .inl (cb, 8, .inr (.inl (vp_updL (p1S K V i (pbL n K V R (zeL B 8) i)) 7 (((p1S K V i (pbL n K V R (zeL B 8) i)) 7) ||| (1 <<< ((nI i).toInt64 &&& 63)))))))] := hD
                        rw [show vp_updL (p1S K V i (pbL n K V R (zeL B 8) i)) 7 (((p1S K V i (pbL n K V R (zeL B 8) i)) 7) ||| (1 <<< ((nI i).toInt64 &&& 63))) = pbL n K V R (zeL B 8) (i + 1) from ((if_pos c_88).symm)] at hP hD
                        refine lv_iinc (v := nI (i + 1)) (lv' := [(1, .int (nI (i + 1))), (0, .ref jd)]) hx hb d_D_notePartsOfBits_104 hl (k := 1) rfl (nI_1 _) (by decide) rfl (fun ls hl => ?_)
                        refine lv_goto (tgt := 23) hx hb d_D_notePartsOfBits_107 (by decide) ?_
                        exact ih_23 (i + 1) (by omega) (by first | assumption | omega) _ _ (hP.sub (ws' := [(jd, .inr (2, [.long sd, .ref jh, .ref jh2, .ref jg, .ref jb, .ref jy, .long w])), (jh, .inr (1, [.ref jt, .ref jk, .ref jv, .ref jr, .int (nI n)])), (jk, .inl (ck, 43, .inl K)), (jv, .inl (cv, 43, .inl V)), (jr, .inl (cr, 43, .inl R)), (jb, .inl (cb, 8, .inr (.inl (pbL n K V R (zeL B 8) (i + 1)))))]) [0, 1, 2, 3, 4, 5] rfl) (hD.sub (ws' := [(jd, .inr (2, [.long sd, .ref jh, .ref jh2, .ref jg, .ref jb, .ref jy, .long w])), (jh, .inr (1, [.ref jt, .ref jk, .ref jv, .ref jr, .int (nI n)])), (jk, .inl (ck, 43, .inl K)), (jv, .inl (cv, 43, .inl V)), (jr, .inl (cr, 43, .inl R)), (jb, .inl (cb, 8, .inr (.inl (pbL n K V R (zeL B 8) (i + 1)))))]) [0, 1, 2, 3, 4, 5] (by decide) rfl) hS ls (lv_sub (l' := [(0, .ref jd), (1, .int (nI (i + 1)))]) hl [1, 0] rfl)
                    exact lp_80 _ _ (hP.sub (ws' := [(jd, .inr (2, [.long sd, .ref jh, .ref jh2, .ref jg, .ref jb, .ref jy, .long w])), (jh, .inr (1, [.ref jt, .ref jk, .ref jv, .ref jr, .int (nI n)])), (jk, .inl (ck, 43, .inl K)), (jv, .inl (cv, 43, .inl V)), (jr, .inl (cr, 43, .inl R)), (jb, .inl (cb, 8, .inr (.inl (p1S K V i (pbL n K V R (zeL B 8) i)))))]) [0, 1, 2, 3, 4, 5] rfl) (hD.sub (ws' := [(jd, .inr (2, [.long sd, .ref jh, .ref jh2, .ref jg, .ref jb, .ref jy, .long w])), (jh, .inr (1, [.ref jt, .ref jk, .ref jv, .ref jr, .int (nI n)])), (jk, .inl (ck, 43, .inl K)), (jv, .inl (cv, 43, .inl V)), (jr, .inl (cr, 43, .inl R)), (jb, .inl (cb, 8, .inr (.inl (p1S K V i (pbL n K V R (zeL B 8) i)))))]) [0, 1, 2, 3, 4, 5] (by decide) rfl) hS ls (lv_sub (l' := [(0, .ref jd), (1, .int (nI i))]) hl [1, 2] rfl)
                  · skip
                    refine lv_aload_n hx hb d_D_notePartsOfBits_68 rfl (lv_at hl 1 rfl) ?_
                    refine va_get (D := (dC, dI)) (ci := 2) (v := .ref jb) (C := R_D) (T := F_D) (N := 7) hx hb hts (lay_D _) hown hK hP 0 rfl rfl 4 (by decide) (hts _ (List.mem_cons_of_mem _ m_60)) (fun _ h9 => h9) rfl d_D_notePartsOfBits_69 ?_
                    refine lv_iload_n hx hb d_D_notePartsOfBits_72 rfl (lv_at hl 0 rfl) ?_
                    refine lv_dup2_11 hx hb d_D_notePartsOfBits_73 rfl rfl ?_
                    refine va_lald hx hb hK hP 5 3 rfl rfl (in_78 c_59 c_65) d_D_notePartsOfBits_74 ?_
                    refine lv_lconst (v := 1) hx hb d_D_notePartsOfBits_75 (by decide +kernel) ?_
                    refine lv_iload_n hx hb d_D_notePartsOfBits_76 rfl (lv_at hl 2 rfl) ?_
                    refine lv_lshl hx hb d_D_notePartsOfBits_77 rfl ?_
                    refine lv_lor hx hb d_D_notePartsOfBits_78 ?_
                    refine va_last hx hb hK hP hD hS 5 3 rfl rfl (in_78 c_59 c_65) d_D_notePartsOfBits_79 (fun H locs hP hD hS => ?_)
                    have hP : va_P (dC, dI) classes [(jd, .inr (2, [.long sd, .ref jh, .ref jh2, .ref jg, .ref jb, .ref jy, .long w])), (jh, .inr (1, [.ref jt, .ref jk, .ref jv, .ref jr, .int (nI n)])), (jk, .inl (ck, 43, .inl K)), (jv, .inl (cv, 43, .inl V)), (jr, .inl (cr, 43, .inl R)), (jb, .inl (cb, 8, .inr (.inl (vp_updL (pbL n K V R (zeL B 8) i) (K i).toNatClampNeg (((pbL n K V R (zeL B 8) i) (K i).toNatClampNeg) ||| (1 <<< ((nI i).toInt64 &&& 63)))))))] H := hP
                    have hD : va_D A [(jd, .inr (2, [.long sd, .ref jh, .ref jh2, .ref jg, .ref jb, .ref jy, .long w])), (jh, .inr (1, [.ref jt, .ref jk, .ref jv, .ref jr, .int (nI n)])), (jk, .inl (ck, 43, .inl K)), (jv, .inl (cv, 43, .inl V)), (jr, .inl (cr, 43, .inl R)), (jb, .inl (cb, 8, .inr (.inl (vp_updL (pbL n K V R (zeL B 8) i) (K i).toNatClampNeg (((pbL n K V R (zeL B 8) i) (K i).toNatClampNeg) ||| (1 <<< ((nI i).toInt64 &&& 63)))))))] := hD
                    rw [show vp_updL (pbL n K V R (zeL B 8) i) (K i).toNatClampNeg (((pbL n K V R (zeL B 8) i) (K i).toNatClampNeg) ||| (1 <<< ((nI i).toInt64 &&& 63))) = p1S K V i (pbL n K V R (zeL B 8) i) from ((if_pos (by simp [kiB, c_55, c_59, c_65])).symm)] at hP hD
                    have lp_80 : ∀ (H : Heap) (locs : List Loc), va_P (dC, dI) classes [(jd, .inr (2, [.long sd, .ref jh, .ref jh2, .ref jg, .ref jb, .ref jy, .long w])), (jh, .inr (1, [.ref jt, .ref jk, .ref jv, .ref jr, .int (nI n)])), (jk, .inl (ck, 43, .inl K)), (jv, .inl (cv, 43, .inl V)), (jr, .inl (cr, 43, .inl R)), (jb, .inl (cb, 8, .inr (.inl (p1S K V i (pbL n K V R (zeL B 8) i)))))] H → va_D A [(jd, .inr (2, [.long sd, .ref jh, .ref jh2, .ref jg, .ref jb, .ref jy, .long w])), (jh, .inr (1, [.ref jt, .ref jk, .ref jv, .ref jr, .int (nI n)])), (jk, .inl (ck, 43, .inl K)), (jv, .inl (cv, 43, .inl V)), (jr, .inl (cr, 43, .inl R)), (jb, .inl (cb, 8, .inr (.inl (p1S K V i (pbL n K V R (zeL B 8) i)))))] → va_S A s.heap H locs → ∀ (ls : Array Slot), lv_has ls 3 [(0, .ref jd), (1, .int (nI i))] → W p l e (headSpec w_D_notePartsOfBits ({ frames := 3, cells := 0, slots := 0, locals := 64 })).room s m ([.ref jd]).toArray below meth c H locs 0 0 (MQ below (va_Qv (fun (_ : Unit) => True) (fun (u : Unit) => wr_B dC dI (A) [(jd, .inr (2, [.long sd, .ref jh, .ref jh2, .ref jg, .ref jb, .ref jy, .long w])), (jh, .inr (1, [.ref jt, .ref jk, .ref jv, .ref jr, .int (nI n)])), (jk, .inl (ck, 43, .inl K)), (jv, .inl (cv, 43, .inl V)), (jr, .inl (cr, 43, .inl R)), (jb, .inl (cb, 8, .inr (.inl (pbB n K V R B))))] [(ck, .int), (cv, .int), (cr, .int), (cb, .long)]) (A)) ([.ref jd]).toArray s 0 0 A) (F0 m 80 ls []) := by
                      intro   H locs hP hD hS ls hl
                      refine lv_aload_n hx hb d_D_notePartsOfBits_80 rfl (lv_at hl 0 rfl) ?_
                      refine va_get (D := (dC, dI)) (ci := 2) (v := .ref jh) (C := R_D) (T := F_D) (N := 7) hx hb hts (lay_D _) hown hK hP 0 rfl rfl 1 (by decide) (hts _ (List.mem_cons_of_mem _ m_57)) (fun _ h9 => h9) rfl d_D_notePartsOfBits_81 ?_
                      refine lv_iload_n hx hb d_D_notePartsOfBits_84 rfl (lv_at hl 1 rfl) ?_
                      have hPc := hP.sub (ws' := [(jh, .inr (1, [.ref jt, .ref jk, .ref jv, .ref jr, .int (nI n)])), (jk, .inl (ck, 43, .inl K)), (jv, .inl (cv, 43, .inl V)), (jr, .inl (cr, 43, .inl R))]) [1, 2, 3, 4] rfl
                      have hKc := hK.sub (tys' := [(ck, .int), (cv, .int), (cr, .int)]) [0, 1, 2] rfl
                      refine vp_callSi (va_Run.run (va_runVN (As := [.int (nI i)]) (rest := []) ⟨hx, hb, hml, hown, hts⟩ (c_H_isFittingAct l dC dI jh jt jk jv jr n ck cv cr K V R (nI i) (by first | assumption | omega)) ⟨va_cnB 1 hts (g_c big_w m_271) rfl rfl rfl (hN _ (by decide +kernel : (Jvm.Cond.methodLinkNest "PortDrawer" (99 : Nat) ({ cls := "PortDrawer$Harbour", name := "isFittingAct", desc := "(I)Z" } : Jvm.MethodName) "PortDrawer") ∈ NWl)) (hts _ (List.mem_cons_of_mem _ m_2)) (by decide +kernel) ⟨Nat.le_of_ble_eq_true rfl, Nat.le_of_ble_eq_true rfl⟩, (hts _ (List.mem_cons_of_mem _ m_270)), (hts _ (List.mem_cons_of_mem _ ms_18))⟩ (ro_V hPc hKc hN (va_recv hKc hPc (ci := 1) (q0 := 0) rfl rfl)) rfl rfl hl.1 rfl (lv_room (Nat.le_of_ble_eq_true rfl)) d_D_notePartsOfBits_85 ⟨Nat.le_of_ble_eq_true rfl, Nat.le_of_ble_eq_true rfl⟩)) (fun r_9 er_9 => ?_)
                      subst er_9
                      refine lv_if_eq (tgt := 104) hx hb d_D_notePartsOfBits_88 (by decide) (fun c_88 => ?_) (fun c_88 => ?_)
                      · skip
                        have c_88 := bI_f c_88
                        rw [show p1S K V i (pbL n K V R (zeL B 8) i) = pbL n K V R (zeL B 8) (i + 1) from ((if_neg (by rw [c_88]; decide)).symm)] at hP hD
                        refine lv_iinc (v := nI (i + 1)) (lv' := [(1, .int (nI (i + 1))), (0, .ref jd)]) hx hb d_D_notePartsOfBits_104 hl (k := 1) rfl (nI_1 _) (by decide) rfl (fun ls hl => ?_)
                        refine lv_goto (tgt := 23) hx hb d_D_notePartsOfBits_107 (by decide) ?_
                        exact ih_23 (i + 1) (by omega) (by first | assumption | omega) _ _ (hP.sub (ws' := [(jd, .inr (2, [.long sd, .ref jh, .ref jh2, .ref jg, .ref jb, .ref jy, .long w])), (jh, .inr (1, [.ref jt, .ref jk, .ref jv, .ref jr, .int (nI n)])), (jk, .inl (ck, 43, .inl K)), (jv, .inl (cv, 43, .inl V)), (jr, .inl (cr, 43, .inl R)), (jb, .inl (cb, 8, .inr (.inl (pbL n K V R (zeL B 8) (i + 1)))))]) [0, 1, 2, 3, 4, 5] rfl) (hD.sub (ws' := [(jd, .inr (2, [.long sd, .ref jh, .ref jh2, .ref jg, .ref jb, .ref jy, .long w])), (jh, .inr (1, [.ref jt, .ref jk, .ref jv, .ref jr, .int (nI n)])), (jk, .inl (ck, 43, .inl K)), (jv, .inl (cv, 43, .inl V)), (jr, .inl (cr, 43, .inl R)), (jb, .inl (cb, 8, .inr (.inl (pbL n K V R (zeL B 8) (i + 1)))))]) [0, 1, 2, 3, 4, 5] (by decide) rfl) hS ls (lv_sub (l' := [(0, .ref jd), (1, .int (nI (i + 1)))]) hl [1, 0] rfl)
                      · skip
                        have c_88 := bI_t c_88
                        refine lv_aload_n hx hb d_D_notePartsOfBits_91 rfl (lv_at hl 0 rfl) ?_
                        refine va_get (D := (dC, dI)) (ci := 2) (v := .ref jb) (C := R_D) (T := F_D) (N := 7) hx hb hts (lay_D _) hown hK hP 0 rfl rfl 4 (by decide) (hts _ (List.mem_cons_of_mem _ m_60)) (fun _ h9 => h9) rfl d_D_notePartsOfBits_92 ?_
                        refine lv_bipush (v := nI 7) hx hb d_D_notePartsOfBits_95 (by decide +kernel) ?_
                        refine lv_dup2_11 hx hb d_D_notePartsOfBits_97 rfl rfl ?_
                        refine va_lald hx hb hK hP 5 3 rfl rfl (vp_in_nI (by omega) (by omega)) d_D_notePartsOfBits_98 ?_
                        refine lv_topl (fun w_10 ew_10 => ?_)
                        rw [nI_clamp (by omega)] at ew_10
                        subst ew_10
                        refine lv_lconst (v := 1) hx hb d_D_notePartsOfBits_99 (by decide +kernel) ?_
                        refine lv_iload_n hx hb d_D_notePartsOfBits_100 rfl (lv_at hl 1 rfl) ?_
                        refine lv_lshl hx hb d_D_notePartsOfBits_101 rfl ?_
                        refine lv_lor hx hb d_D_notePartsOfBits_102 ?_
                        refine va_last hx hb hK hP hD hS 5 3 rfl rfl (vp_in_nI (by omega) (by omega)) d_D_notePartsOfBits_103 (fun H locs hP hD hS => ?_)
                        rw [nI_clamp (by omega)] at hP hD
                        have hP : va_P (dC, dI) classes [(jd, .inr (2, [.long sd, .ref jh, .ref jh2, .ref jg, .ref jb, .ref jy, .long w])), (jh, .inr (1, [.ref jt, .ref jk, .ref jv, .ref jr, .int (nI n)])), (jk, .inl (ck, 43, .inl K)), (jv, .inl (cv, 43, .inl V)), (jr, .inl (cr, 43, .inl R)), (jb, .inl (cb, 8, .inr (.inl (vp_updL (p1S K V i (pbL n K V R (zeL B 8) i)) 7 (((p1S K V i (pbL n K V R (zeL B 8) i)) 7) ||| (1 <<< ((nI i).toInt64 &&& 63)))))))] H := hP
                        have hD : va_D A [(jd, .inr (2, [.long sd, .ref jh, .ref jh2, .ref jg, .ref jb, .ref jy, .long w])), (jh, .inr (1, [.ref jt, .ref jk, .ref jv, .ref jr, .int (nI n)])), (jk, .inl (ck, 43, .inl K)), (jv, .inl (cv, 43, .inl V)), (jr, .inl (cr, 43, .inl R)), (jb, .inl (cb, 8, .inr (.inl (vp_updL (p1S K V i (pbL n K V R (zeL B 8) i)) 7 (((p1S K V i (pbL n K V R (zeL B 8) i)) 7) ||| (1 <<< ((nI i).toInt64 &&& 63)))))))] := hD
                        rw [show vp_updL (p1S K V i (pbL n K V R (zeL B 8) i)) 7 (((p1S K V i (pbL n K V R (zeL B 8) i)) 7) ||| (1 <<< ((nI i).toInt64 &&& 63))) = pbL n K V R (zeL B 8) (i + 1) from ((if_pos c_88).symm)] at hP hD
                        refine lv_iinc (v := nI (i + 1)) (lv' := [(1, .int (nI (i + 1))), (0, .ref jd)]) hx hb d_D_notePartsOfBits_104 hl (k := 1) rfl (nI_1 _) (by decide) rfl (fun ls hl => ?_)
                        refine lv_goto (tgt := 23) hx hb d_D_notePartsOfBits_107 (by decide) ?_
                        exact ih_23 (i + 1) (by omega) (by first | assumption | omega) _ _ (hP.sub (ws' := [(jd, .inr (2, [.long sd, .ref jh, .ref jh2, .ref jg, .ref jb, .ref jy, .long w])), (jh, .inr (1, [.ref jt, .ref jk, .ref jv, .ref jr, .int (nI n)])), (jk, .inl (ck, 43, .inl K)), (jv, .inl (cv, 43, .inl V)), (jr, .inl (cr, 43, .inl R)), (jb, .inl (cb, 8, .inr (.inl (pbL n K V R (zeL B 8) (i + 1)))))]) [0, 1, 2, 3, 4, 5] rfl) (hD.sub (ws' := [(jd, .inr (2, [.long sd, .ref jh, .ref jh2, .ref jg, .ref jb, .ref jy, .long w])), (jh, .inr (1, [.ref jt, .ref jk, .ref jv, .ref jr, .int (nI n)])), (jk, .inl (ck, 43, .inl K)), (jv, .inl (cv, 43, .inl V)), (jr, .inl (cr, 43, .inl R)), (jb, .inl (cb, 8, .inr (.inl (pbL n K V R (zeL B 8) (i + 1)))))]) [0, 1, 2, 3, 4, 5] (by decide) rfl) hS ls (lv_sub (l' := [(0, .ref jd), (1, .int (nI (i + 1)))]) hl [1, 0] rfl)
                    exact lp_80 _ _ (hP.sub (ws' := [(jd, .inr (2, [.long sd, .ref jh, .ref jh2, .ref jg, .ref jb, .ref jy, .long w])), (jh, .inr (1, [.ref jt, .ref jk, .ref jv, .ref jr, .int (nI n)])), (jk, .inl (ck, 43, .inl K)), (jv, .inl (cv, 43, .inl V)), (jr, .inl (cr, 43, .inl R)), (jb, .inl (cb, 8, .inr (.inl (p1S K V i (pbL n K V R (zeL B 8) i)))))]) [0, 1, 2, 3, 4, 5] rfl) (hD.sub (ws' := [(jd, .inr (2, [.long sd, .ref jh, .ref jh2, .ref jg, .ref jb, .ref jy, .long w])), (jh, .inr (1, [.ref jt, .ref jk, .ref jv, .ref jr, .int (nI n)])), (jk, .inl (ck, 43, .inl K)), (jv, .inl (cv, 43, .inl V)), (jr, .inl (cr, 43, .inl R)), (jb, .inl (cb, 8, .inr (.inl (p1S K V i (pbL n K V R (zeL B 8) i)))))]) [0, 1, 2, 3, 4, 5] (by decide) rfl) hS ls (lv_sub (l' := [(0, .ref jd), (1, .int (nI i))]) hl [1, 2] rfl)
        exact lp_23 ((n - 0) + 1) 0 (by omega) (by first | assumption | omega) _ _ (hP.sub (ws' := [(jd, .inr (2, [.long sd, .ref jh, .ref jh2, .ref jg, .ref jb, .ref jy, .long w])), (jh, .inr (1, [.ref jt, .ref jk, .ref jv, .ref jr, .int (nI n)])), (jk, .inl (ck, 43, .inl K)), (jv, .inl (cv, 43, .inl V)), (jr, .inl (cr, 43, .inl R)), (jb, .inl (cb, 8, .inr (.inl (pbL n K V R (zeL B 8) 0))))]) [0, 1, 2, 3, 4, 5] rfl) (hD.sub (ws' := [(jd, .inr (2, [.long sd, .ref jh, .ref jh2, .ref jg, .ref jb, .ref jy, .long w])), (jh, .inr (1, [.ref jt, .ref jk, .ref jv, .ref jr, .int (nI n)])), (jk, .inl (ck, 43, .inl K)), (jv, .inl (cv, 43, .inl V)), (jr, .inl (cr, 43, .inl R)), (jb, .inl (cb, 8, .inr (.inl (pbL n K V R (zeL B 8) 0))))]) [0, 1, 2, 3, 4, 5] (by decide) rfl) hS ls (lv_sub (l' := [(0, .ref jd), (1, .int (nI 0))]) hl [1, 0] rfl)
      · skip
        have c_5 := (not_congr (nI_leI (by omega) (by omega))).mp c_5
        refine lv_aload_n hx hb d_D_notePartsOfBits_8 rfl (lv_at hl 0 rfl) ?_
        refine va_get (D := (dC, dI)) (ci := 2) (v := .ref jb) (C := R_D) (T := F_D) (N := 7) hx hb hts (lay_D _) hown hK hP 0 rfl rfl 4 (by decide) (hts _ (List.mem_cons_of_mem _ m_60)) (fun _ h9 => h9) rfl d_D_notePartsOfBits_9 ?_
        refine lv_iload_n hx hb d_D_notePartsOfBits_12 rfl (lv_at hl 1 rfl) ?_
        refine lv_lconst (v := 0) hx hb d_D_notePartsOfBits_13 (by decide +kernel) ?_
        refine va_last hx hb hK hP hD hS 5 3 rfl rfl (vp_in_nI (by omega) (by omega)) d_D_notePartsOfBits_14 (fun H locs hP hD hS => ?_)
        rw [nI_clamp (by omega)] at hP hD
        have hP : va_P (dC, dI) classes [(jd, .inr (2, [.long sd, .ref jh, .ref jh2, .ref jg, .ref jb, .ref jy, .long w])), (jh, .inr (1, [.ref jt, .ref jk, .ref jv, .ref jr, .int (nI n)])), (jk, .inl (ck, 43, .inl K)), (jv, .inl (cv, 43, .inl V)), (jr, .inl (cr, 43, .inl R)), (jb, .inl (cb, 8, .inr (.inl (vp_updL (zeL B i) i 0))))] H := hP
        have hD : va_D A [(jd, .inr (2, [.long sd, .ref jh, .ref jh2, .ref jg, .ref jb, .ref jy, .long w])), (jh, .inr (1, [.ref jt, .ref jk, .ref jv, .ref jr, .int (nI n)])), (jk, .inl (ck, 43, .inl K)), (jv, .inl (cv, 43, .inl V)), (jr, .inl (cr, 43, .inl R)), (jb, .inl (cb, 8, .inr (.inl (vp_updL (zeL B i) i 0))))] := hD
        refine lv_iinc (v := nI (i + 1)) (lv' := [(1, .int (nI (i + 1))), (0, .ref jd)]) hx hb d_D_notePartsOfBits_15 hl (k := 1) rfl (nI_1 _) (by decide) rfl (fun ls hl => ?_)
        refine lv_goto (tgt := 2) hx hb d_D_notePartsOfBits_18 (by decide) ?_
        exact ih_2 (i + 1) (by omega) (by first | assumption | omega) _ _ (hP.sub (ws' := [(jd, .inr (2, [.long sd, .ref jh, .ref jh2, .ref jg, .ref jb, .ref jy, .long w])), (jh, .inr (1, [.ref jt, .ref jk, .ref jv, .ref jr, .int (nI n)])), (jk, .inl (ck, 43, .inl K)), (jv, .inl (cv, 43, .inl V)), (jr, .inl (cr, 43, .inl R)), (jb, .inl (cb, 8, .inr (.inl (zeL B (i + 1)))))]) [0, 1, 2, 3, 4, 5] rfl) (hD.sub (ws' := [(jd, .inr (2, [.long sd, .ref jh, .ref jh2, .ref jg, .ref jb, .ref jy, .long w])), (jh, .inr (1, [.ref jt, .ref jk, .ref jv, .ref jr, .int (nI n)])), (jk, .inl (ck, 43, .inl K)), (jv, .inl (cv, 43, .inl V)), (jr, .inl (cr, 43, .inl R)), (jb, .inl (cb, 8, .inr (.inl (zeL B (i + 1)))))]) [0, 1, 2, 3, 4, 5] (by decide) rfl) hS ls (lv_sub (l' := [(0, .ref jd), (1, .int (nI (i + 1)))]) hl [1, 0] rfl)
  exact lp_2 ((8 - 0) + 1) 0 (by omega) (by first | assumption | omega) _ _ (hP.sub (ws' := [(jd, .inr (2, [.long sd, .ref jh, .ref jh2, .ref jg, .ref jb, .ref jy, .long w])), (jh, .inr (1, [.ref jt, .ref jk, .ref jv, .ref jr, .int (nI n)])), (jk, .inl (ck, 43, .inl K)), (jv, .inl (cv, 43, .inl V)), (jr, .inl (cr, 43, .inl R)), (jb, .inl (cb, 8, .inr (.inl (zeL B 0))))]) [0, 1, 2, 3, 4, 5] rfl) (hD.sub (ws' := [(jd, .inr (2, [.long sd, .ref jh, .ref jh2, .ref jg, .ref jb, .ref jy, .long w])), (jh, .inr (1, [.ref jt, .ref jk, .ref jv, .ref jr, .int (nI n)])), (jk, .inl (ck, 43, .inl K)), (jv, .inl (cv, 43, .inl V)), (jr, .inl (cr, 43, .inl R)), (jb, .inl (cb, 8, .inr (.inl (zeL B 0))))]) [0, 1, 2, 3, 4, 5] (by decide) rfl) hS ls (lv_sub (l' := [(0, .ref jd), (1, .int (nI 0))]) hl [1, 0] rfl)
set_option maxHeartbeats 4000000 in
set_option maxRecDepth 100000 in
/-- shorter -/
theorem c_D_shorter (l : Launch) (dC : Nat → ClassId) (dI : Nat → Nat → Nat) (jd jh jh2 jg jb jy : Nat) (sd w : Int64) (jt jk jv jr n : Nat) (cg cb cy : ClassId) (G B : Nat → Int64) (S : Nat → Bool) (hn : n ≤ 43) (sz : Nat) : Met l y_D_shorter w_D_shorter ({ frames := 3, cells := 0, slots := 0, locals := 69 }) (wr_P dC dI [.ref jd] [(jd, .inr (2, [.long sd, .ref jh, .ref jh2, .ref jg, .ref jb, .ref jy, .long w])), (jh, .inr (1, [.ref jt, .ref jk, .ref jv, .ref jr, .int (nI n)])), (jg, .inl (cg, 43, .inr (.inl G))), (jb, .inl (cb, 8, .inr (.inl B))), (jy, .inl (cy, 256, .inl (bF S)))] [(cg, .long), (cb, .long), (cy, .boolean)] sz) (va_Qi (fun (r : Int32) (_ : Unit) => r = nI (cnt (wbit (shO S G B n w)) 64)) (fun (u : Unit) => wr_B dC dI (va_A [(jd, .inr (2, [.long sd, .ref jh, .ref jh2, .ref jg, .ref jb, .ref jy, .long w])), (jh, .inr (1, [.ref jt, .ref jk, .ref jv, .ref jr, .int (nI n)])), (jg, .inl (cg, 43, .inr (.inl G))), (jb, .inl (cb, 8, .inr (.inl B))), (jy, .inl (cy, 256, .inl (bF S)))] sz) [(jd, .inr (2, [.long sd, .ref jh, .ref jh2, .ref jg, .ref jb, .ref jy, .long (shO S G B n w)])), (jh, .inr (1, [.ref jt, .ref jk, .ref jv, .ref jr, .int (nI n)])), (jg, .inl (cg, 43, .inr (.inl G))), (jb, .inl (cb, 8, .inr (.inl B))), (jy, .inl (cy, 256, .inl (bF S)))] [(cg, .long), (cb, .long), (cy, .boolean)]) (va_A [(jd, .inr (2, [.long sd, .ref jh, .ref jh2, .ref jg, .ref jb, .ref jy, .long w])), (jh, .inr (1, [.ref jt, .ref jk, .ref jv, .ref jr, .int (nI n)])), (jg, .inl (cg, 43, .inr (.inl G))), (jb, .inl (cb, 8, .inr (.inl B))), (jy, .inl (cy, 256, .inl (bF S)))] sz)) 0 0 (va_A [(jd, .inr (2, [.long sd, .ref jh, .ref jh2, .ref jg, .ref jb, .ref jy, .long w])), (jh, .inr (1, [.ref jt, .ref jk, .ref jv, .ref jr, .int (nI n)])), (jg, .inl (cg, 43, .inr (.inl G))), (jb, .inl (cb, 8, .inr (.inl B))), (jy, .inl (cy, 256, .inl (bF S)))] sz) := by
  refine Met.ofW (cc := b_D_shorter) (maxL := 3) (ret := (Option.some Jvm.ClassFile.FieldType.int)) (by decide) rfl ?_
  intro p e s m args below meth c s₁ B0 hml hv0
  obtain ⟨rfl, hsz, hP, hK, hD0, hN⟩ := hv0
  have hx := B0.exec
  have hb := B0.bytes
  have hr := B0.returns
  have hts := atoms_spec (ws := w_D_shorter) B0.pre
  have hown : s.vm.findClass R_D = some m.cls := findClass_of_methodNamed B0.named
  have hlocks := B0.notSynchronized
  subst hsz
  have hD := hD0.self (sz := s.heap.size)
  generalize hAe : va_A [(jd, .inr (2, [.long sd, .ref jh, .ref jh2, .ref jg, .ref jb, .ref jy, .long w])), (jh, .inr (1, [.ref jt, .ref jk, .ref jv, .ref jr, .int (nI n)])), (jg, .inl (cg, 43, .inr (.inl G))), (jb, .inl (cb, 8, .inr (.inl B))), (jy, .inl (cy, 256, .inl (bF S)))] s.heap.size = A at hD ⊢
  have hA : ∀ q : Nat, s.heap.size ≤ q → A q := fun q h => by rw [← hAe]; exact Or.inr h
  have hS : va_S A s.heap s.heap [] := va_S.rf
  have hP : va_P (dC, dI) classes [(jd, .inr (2, [.long sd, .ref jh, .ref jh2, .ref jg, .ref jb, .ref jy, .long w])), (jh, .inr (1, [.ref jt, .ref jk, .ref jv, .ref jr, .int (nI n)])), (jg, .inl (cg, 43, .inr (.inl G))), (jb, .inl (cb, 8, .inr (.inl B))), (jy, .inl (cy, 256, .inl (bF S)))] s.heap := hP
  have hl := lv_entry ([.ref jd]) (n := 3) (Nat.le_of_ble_eq_true rfl)
  rw [lg_entry_eq]
  generalize (lg_sl ([.ref jd]) ++ List.replicate (3 - (lg_sl ([.ref jd])).length) Slot.unset).toArray = ls at hl ⊢
  have hl : lv_has ls 3 [(0, .ref jd)] := hl
  refine lv_aload_n hx hb d_D_shorter_0 rfl (lv_at hl 0 rfl) ?_
  refine lv_aload_n hx hb d_D_shorter_1 rfl (lv_at hl 0 rfl) ?_
  refine va_get (D := (dC, dI)) (ci := 2) (v := .long w) (C := R_D) (T := F_D) (N := 7) hx hb hts (lay_D _) hown hK hP 0 rfl rfl 6 (by decide) (hts _ (List.mem_cons_of_mem _ m_62)) (fun _ h9 => h9) rfl d_D_shorter_2 ?_
  have hPc := hP.sub (ws' := [(jd, .inr (2, [.long sd, .ref jh, .ref jh2, .ref jg, .ref jb, .ref jy, .long w])), (jb, .inl (cb, 8, .inr (.inl B))), (jy, .inl (cy, 256, .inl (bF S)))]) [0, 3, 4] rfl
  have hKc := hK.sub (tys' := [(cb, .long), (cy, .boolean)]) [1, 2] rfl
  refine vp_callSi (W.runV (As := [.long w]) (rest := []) ⟨hx, hb, hml, hown, hts⟩ (c_D_staysWith l dC dI jd jh jh2 jg jb jy sd w cb cy B S w) (cwV 1 hts (g_V big_w m_96 m_98 ms_1 m_1 m_99) rfl rfl rfl (by decide +kernel) ⟨Nat.le_of_ble_eq_true rfl, Nat.le_of_ble_eq_true rfl⟩) (ro_V hPc hKc hN (va_recv hKc hPc (ci := 2) (q0 := 0) rfl rfl)) rfl rfl hl.1 rfl (lv_room (Nat.le_of_ble_eq_true rfl)) d_D_shorter_5 ⟨Nat.le_of_ble_eq_true rfl, Nat.le_of_ble_eq_true rfl⟩) (fun r_1 er_1 => ?_)
  subst er_1
  refine lv_if_ne (tgt := 27) hx hb d_D_shorter_8 (by decide) (fun c_8 => ?_) (fun c_8 => ?_)
  · skip
    have c_8 := bI_t c_8
    refine lv_iconst (v := nI 0) hx hb d_D_shorter_27 (by decide +kernel) ?_
    refine lv_istore_n (lv' := [(1, .int (nI 0)), (0, .ref jd)]) hx hb d_D_shorter_28 rfl hl (by decide) rfl (fun ls hl => ?_)
    have lp_29 : ∀ (k9_29 : Nat), ∀ (r : Nat) (v : Int64), 43 - r < k9_29 → (r ≤ 43) → (shW S G B n (43 - r) v = shW S G B n 43 w) → ∀ (H : Heap) (locs : List Loc), va_P (dC, dI) classes [(jd, .inr (2, [.long sd, .ref jh, .ref jh2, .ref jg, .ref jb, .ref jy, .long v])), (jh, .inr (1, [.ref jt, .ref jk, .ref jv, .ref jr, .int (nI n)])), (jg, .inl (cg, 43, .inr (.inl G))), (jb, .inl (cb, 8, .inr (.inl B))), (jy, .inl (cy, 256, .inl (bF S)))] H → va_D A [(jd, .inr (2, [.long sd, .ref jh, .ref jh2, .ref jg, .ref jb, .ref jy, .long v])), (jh, .inr (1, [.ref jt, .ref jk, .ref jv, .ref jr, .int (nI n)])), (jg, .inl (cg, 43, .inr (.inl G))), (jb, .inl (cb, 8, .inr (.inl B))), (jy, .inl (cy, 256, .inl (bF S)))] → va_S A s.heap H locs → ∀ (ls : Array Slot), lv_has ls 3 [(0, .ref jd), (1, .int (nI r))] → W p l e (headSpec w_D_shorter ({ frames := 3, cells := 0, slots := 0, locals := 69 })).room s m ([.ref jd]).toArray below meth c H locs 0 0 (MQ below (va_Qi (fun (r : Int32) (_ : Unit) => r = nI (cnt (wbit (shO S G B n w)) 64)) (fun (u : Unit) => wr_B dC dI (A) [(jd, .inr (2, [.long sd, .ref jh, .ref jh2, .ref jg, .ref jb, .ref jy, .long (shO S G B n w)])), (jh, .inr (1, [.ref jt, .ref jk, .ref jv, .ref jr, .int (nI n)])), (jg, .inl (cg, 43, .inr (.inl G))), (jb, .inl (cb, 8, .inr (.inl B))), (jy, .inl (cy, 256, .inl (bF S)))] [(cg, .long), (cb, .long), (cy, .boolean)]) (A)) ([.ref jd]).toArray s 0 0 A) (F0 m 29 ls []) := by
      intro k9_29
      induction k9_29 with
      | zero =>
        intro r v hk9
        exact absurd hk9 (Nat.not_lt_zero _)
      | succ k9_29 ih_29 =>
        intro r v hk9_29 hr9 hsh H locs hP hD hS ls hl
        refine lv_iload_n hx hb d_D_shorter_29 rfl (lv_at hl 1 rfl) ?_
        refine lv_bipush (v := nI 43) hx hb d_D_shorter_30 (by decide +kernel) ?_
        refine lv_icmp_ge (tgt := 63) hx hb d_D_shorter_32 (by decide) (fun c_32 => ?_) (fun c_32 => ?_)
        · skip
          have c_32 := (nI_leI (by omega) (by omega)).mp c_32
          have ev : v = shO S G B n w := shO_v c_8 hsh (Or.inl (by omega)) hn
          refine lv_aload_n hx hb d_D_shorter_63 rfl (lv_at hl 0 rfl) ?_
          refine va_get (D := (dC, dI)) (ci := 2) (v := .long v) (C := R_D) (T := F_D) (N := 7) hx hb hts (lay_D _) hown hK hP 0 rfl rfl 6 (by decide) (hts _ (List.mem_cons_of_mem _ m_62)) (fun _ h9 => h9) rfl d_D_shorter_64 ?_
          have hPc := hP.sub (ws' := []) [] rfl
          have hKc := hK.sub (tys' := []) [] rfl
          refine vp_callSi (W.runS (As := [.long v]) (rest := []) ⟨hx, hb, hml, hown, hts⟩ (c_J_bitCount l dC dI v) (va_cwS 1 hts (g_S big_w m_104 m_105 m_10 m_106) rfl rfl rfl (by decide +kernel) ⟨Nat.le_of_ble_eq_true rfl, Nat.le_of_ble_eq_true rfl⟩) (ro_S hPc hKc hN) rfl rfl hl.1 rfl (lv_room (Nat.le_of_ble_eq_true rfl)) d_D_shorter_67 ⟨Nat.le_of_ble_eq_true rfl, Nat.le_of_ble_eq_true rfl⟩) (fun r_2 er_2 => ?_)
          subst er_2
          rw [ev] at hP hD
          have hP9 := hP.sub (ws' := [(jd, .inr (2, [.long sd, .ref jh, .ref jh2, .ref jg, .ref jb, .ref jy, .long (shO S G B n w)])), (jh, .inr (1, [.ref jt, .ref jk, .ref jv, .ref jr, .int (nI n)])), (jg, .inl (cg, 43, .inr (.inl G))), (jb, .inl (cb, 8, .inr (.inl B))), (jy, .inl (cy, 256, .inl (bF S)))]) [0, 1, 2, 3, 4] rfl
          have hD9 := hD.sub (ws' := [(jd, .inr (2, [.long sd, .ref jh, .ref jh2, .ref jg, .ref jb, .ref jy, .long (shO S G B n w)])), (jh, .inr (1, [.ref jt, .ref jk, .ref jv, .ref jr, .int (nI n)])), (jg, .inl (cg, 43, .inr (.inl G))), (jb, .inl (cb, 8, .inr (.inl B))), (jy, .inl (cy, 256, .inl (bF S)))]) [0, 1, 2, 3, 4] (by decide) rfl
          have hK9 := hK.sub (tys' := [(cg, .long), (cb, .long), (cy, .boolean)]) [0, 1, 2] rfl
          exact W.iret (v := nI (cnt (wbit v) 64)) hx hb hr (fun t ht hW => ⟨⟨nI (cnt (wbit v) 64), (), rfl, (by rw [ev]), by rw [ht]; exact hP9, va_K.moved hW.alike hK9, hD9⟩, hS.F ht⟩) hS.2.2 d_D_shorter_70
        · skip
          have c_32 := (not_congr (nI_leI (by omega) (by omega))).mp c_32
          refine lv_aload_n hx hb d_D_shorter_35 rfl (lv_at hl 0 rfl) ?_
          have hPc := hP.sub (ws' := [(jd, .inr (2, [.long sd, .ref jh, .ref jh2, .ref jg, .ref jb, .ref jy, .long v])), (jh, .inr (1, [.ref jt, .ref jk, .ref jv, .ref jr, .int (nI n)])), (jg, .inl (cg, 43, .inr (.inl G))), (jb, .inl (cb, 8, .inr (.inl B))), (jy, .inl (cy, 256, .inl (bF S)))]) [0, 1, 2, 3, 4] rfl
          have hKc := hK.sub (tys' := [(cg, .long), (cb, .long), (cy, .boolean)]) [0, 1, 2] rfl
          refine vp_callSi (W.runV (As := []) (rest := []) ⟨hx, hb, hml, hown, hts⟩ (c_D_firstThatMayGo l dC dI jd jh jh2 jg jb jy sd v jt jk jv jr n cg cb cy G B S (by first | assumption | omega)) (cwV 0 hts (g_V big_w m_110 m_112 ms_3 m_1 m_113) rfl rfl rfl (by decide +kernel) ⟨Nat.le_of_ble_eq_true rfl, Nat.le_of_ble_eq_true rfl⟩) (ro_V hPc hKc hN (va_recv hKc hPc (ci := 2) (q0 := 0) rfl rfl)) rfl rfl hl.1 rfl (lv_room (Nat.le_of_ble_eq_true rfl)) d_D_shorter_36 ⟨Nat.le_of_ble_eq_true rfl, Nat.le_of_ble_eq_true rfl⟩) (fun r_3 er_3 => ?_)
          subst er_3
          refine lv_istore_n (lv' := [(2, .int (oI (fgO S G B n v))), (0, .ref jd), (1, .int (nI r))]) hx hb d_D_shorter_39 rfl hl (by decide) rfl (fun ls hl => ?_)
          refine lv_iload_n hx hb d_D_shorter_40 rfl (lv_at hl 0 rfl) ?_
          refine lv_iconst (v := (-1)) hx hb d_D_shorter_41 (by decide +kernel) ?_
          refine lv_icmp_ne (tgt := 48) hx hb d_D_shorter_42 (by decide) (fun c_42 => ?_) (fun c_42 => ?_)
          · skip
            obtain ⟨i, hi9, ho9⟩ := fg_some c_42
            rw [show oI (fgO S G B n v) = nI i from (by rw [ho9]; rfl)] at hl
            refine lv_aload_n hx hb d_D_shorter_48 rfl (lv_at hl 1 rfl) ?_
            refine lv_aload_n hx hb d_D_shorter_49 rfl (lv_at hl 1 rfl) ?_
            refine lv_iload_n hx hb d_D_shorter_50 rfl (lv_at hl 0 rfl) ?_
            have hPc := hP.sub (ws' := [(jd, .inr (2, [.long sd, .ref jh, .ref jh2, .ref jg, .ref jb, .ref jy, .long v])), (jg, .inl (cg, 43, .inr (.inl G)))]) [0, 2] rfl
            have hKc := hK.sub (tys' := [(cg, .long)]) [0] rfl
            refine vp_callSl (W.runV (As := [.int (nI i)]) (rest := [.ref jd]) ⟨hx, hb, hml, hown, hts⟩ (c_D_leftWithout l dC dI jd jh jh2 jg jb jy sd v cg G i (by first | assumption | omega)) (cwV 1 hts (g_V big_w m_117 m_119 ms_4 m_1 m_120) rfl rfl rfl (by decide +kernel) ⟨Nat.le_of_ble_eq_true rfl, Nat.le_of_ble_eq_true rfl⟩) (ro_V hPc hKc hN (va_recv hKc hPc (ci := 2) (q0 := 0) rfl rfl)) rfl rfl hl.1 rfl (lv_room (Nat.le_of_ble_eq_true rfl)) d_D_shorter_51 ⟨Nat.le_of_ble_eq_true rfl, Nat.le_of_ble_eq_true rfl⟩) (fun r_4 er_4 => ?_)
            subst er_4
            refine va_put (D := (dC, dI)) (ci := 2) (v := .long (noW v (G i))) (ty := .long) (C := R_D) (T := F_D) (N := 7) hx hb hts (lay_D _) ft_D tok_D nok_D hown hK hP hD hS 0 rfl rfl 6 (by decide) (hts _ (List.mem_cons_of_mem _ m_62)) (fun _ h9 => h9) rfl (by decide +kernel) rfl rfl (Nat.le_of_ble_eq_true rfl) d_D_shorter_54 (fun H locs hP hD hS => ?_)
            have hP : va_P (dC, dI) classes [(jd, .inr (2, [.long sd, .ref jh, .ref jh2, .ref jg, .ref jb, .ref jy, .long (noW v (G i))])), (jh, .inr (1, [.ref jt, .ref jk, .ref jv, .ref jr, .int (nI n)])), (jg, .inl (cg, 43, .inr (.inl G))), (jb, .inl (cb, 8, .inr (.inl B))), (jy, .inl (cy, 256, .inl (bF S)))] H := hP
            have hD : va_D A [(jd, .inr (2, [.long sd, .ref jh, .ref jh2, .ref jg, .ref jb, .ref jy, .long (noW v (G i))])), (jh, .inr (1, [.ref jt, .ref jk, .ref jv, .ref jr, .int (nI n)])), (jg, .inl (cg, 43, .inr (.inl G))), (jb, .inl (cb, 8, .inr (.inl B))), (jy, .inl (cy, 256, .inl (bF S)))] := hD
            refine lv_iinc (v := nI (r + 1)) (lv' := [(1, .int (nI (r + 1))), (2, .int (nI i)), (0, .ref jd)]) hx hb d_D_shorter_57 hl (k := 2) rfl (nI_1 _) (by decide) rfl (fun ls hl => ?_)
            refine lv_goto (tgt := 29) hx hb d_D_shorter_60 (by decide) ?_
            exact ih_29 (r + 1) (noW v (G i)) (by omega) (by omega) ((shW_s (by omega) ho9).symm.trans hsh) _ _ (hP.sub (ws' := [(jd, .inr (2, [.long sd, .ref jh, .ref jh2, .ref jg, .ref jb, .ref jy, .long (noW v (G i))])), (jh, .inr (1, [.ref jt, .ref jk, .ref jv, .ref jr, .int (nI n)])), (jg, .inl (cg, 43, .inr (.inl G))), (jb, .inl (cb, 8, .inr (.inl B))), (jy, .inl (cy, 256, .inl (bF S)))]) [0, 1, 2, 3, 4] rfl) (hD.sub (ws' := [(jd, .inr (2, [.long sd, .ref jh, .ref jh2, .ref jg, .ref jb, .ref jy, .long (noW v (G i))])), (jh, .inr (1, [.ref jt, .ref jk, .ref jv, .ref jr, .int (nI n)])), (jg, .inl (cg, 43, .inr (.inl G))), (jb, .inl (cb, 8, .inr (.inl B))), (jy, .inl (cy, 256, .inl (bF S)))]) [0, 1, 2, 3, 4] (by decide) rfl) hS ls (lv_sub (l' := [(0, .ref jd), (1, .int (nI (r + 1)))]) hl [2, 0] rfl)
          · skip
            have ev : v = shO S G B n w := shO_v c_8 hsh (Or.inr c_42) hn
            refine lv_goto (tgt := 63) hx hb d_D_shorter_45 (by decide) ?_
            refine lv_aload_n hx hb d_D_shorter_63 rfl (lv_at hl 1 rfl) ?_
            refine va_get (D := (dC, dI)) (ci := 2) (v := .long v) (C := R_D) (T := F_D) (N := 7) hx hb hts (lay_D _) hown hK hP 0 rfl rfl 6 (by decide) (hts _ (List.mem_cons_of_mem _ m_62)) (fun _ h9 => h9) rfl d_D_shorter_64 ?_
            have hPc := hP.sub (ws' := []) [] rfl
            have hKc := hK.sub (tys' := []) [] rfl
            refine vp_callSi (W.runS (As := [.long v]) (rest := []) ⟨hx, hb, hml, hown, hts⟩ (c_J_bitCount l dC dI v) (va_cwS 1 hts (g_S big_w m_104 m_105 m_10 m_106) rfl rfl rfl (by decide +kernel) ⟨Nat.le_of_ble_eq_true rfl, Nat.le_of_ble_eq_true rfl⟩) (ro_S hPc hKc hN) rfl rfl hl.1 rfl (lv_room (Nat.le_of_ble_eq_true rfl)) d_D_shorter_67 ⟨Nat.le_of_ble_eq_true rfl, Nat.le_of_ble_eq_true rfl⟩) (fun r_5 er_5 => ?_)
            subst er_5
            rw [ev] at hP hD
            have hP9 := hP.sub (ws' := [(jd, .inr (2, [.long sd, .ref jh, .ref jh2, .ref jg, .ref jb, .ref jy, .long (shO S G B n w)])), (jh, .inr (1, [.ref jt, .ref jk, .ref jv, .ref jr, .int (nI n)])), (jg, .inl (cg, 43, .inr (.inl G))), (jb, .inl (cb, 8, .inr (.inl B))), (jy, .inl (cy, 256, .inl (bF S)))]) [0, 1, 2, 3, 4] rfl
            have hD9 := hD.sub (ws' := [(jd, .inr (2, [.long sd, .ref jh, .ref jh2, .ref jg, .ref jb, .ref jy, .long (shO S G B n w)])), (jh, .inr (1, [.ref jt, .ref jk, .ref jv, .ref jr, .int (nI n)])), (jg, .inl (cg, 43, .inr (.inl G))), (jb, .inl (cb, 8, .inr (.inl B))), (jy, .inl (cy, 256, .inl (bF S)))]) [0, 1, 2, 3, 4] (by decide) rfl
            have hK9 := hK.sub (tys' := [(cg, .long), (cb, .long), (cy, .boolean)]) [0, 1, 2] rfl
            exact W.iret (v := nI (cnt (wbit v) 64)) hx hb hr (fun t ht hW => ⟨⟨nI (cnt (wbit v) 64), (), rfl, (by rw [ev]), by rw [ht]; exact hP9, va_K.moved hW.alike hK9, hD9⟩, hS.F ht⟩) hS.2.2 d_D_shorter_70
    exact lp_29 ((43 - 0) + 1) 0 w (by omega) (by omega) rfl _ _ (hP.sub (ws' := [(jd, .inr (2, [.long sd, .ref jh, .ref jh2, .ref jg, .ref jb, .ref jy, .long w])), (jh, .inr (1, [.ref jt, .ref jk, .ref jv, .ref jr, .int (nI n)])), (jg, .inl (cg, 43, .inr (.inl G))), (jb, .inl (cb, 8, .inr (.inl B))), (jy, .inl (cy, 256, .inl (bF S)))]) [0, 1, 2, 3, 4] rfl) (hD.sub (ws' := [(jd, .inr (2, [.long sd, .ref jh, .ref jh2, .ref jg, .ref jb, .ref jy, .long w])), (jh, .inr (1, [.ref jt, .ref jk, .ref jv, .ref jr, .int (nI n)])), (jg, .inl (cg, 43, .inr (.inl G))), (jb, .inl (cb, 8, .inr (.inl B))), (jy, .inl (cy, 256, .inl (bF S)))]) [0, 1, 2, 3, 4] (by decide) rfl) hS ls (lv_sub (l' := [(0, .ref jd), (1, .int (nI 0))]) hl [1, 0] rfl)
  · skip
    have c_8 := bI_f c_8
    have ew : allW n = shO S G B n w := (if_neg (by rw [c_8]; decide)).symm
    refine lv_aload_n hx hb d_D_shorter_11 rfl (lv_at hl 0 rfl) ?_
    refine lv_aload_n hx hb d_D_shorter_12 rfl (lv_at hl 0 rfl) ?_
    have hPc := hP.sub (ws' := [(jd, .inr (2, [.long sd, .ref jh, .ref jh2, .ref jg, .ref jb, .ref jy, .long w])), (jh, .inr (1, [.ref jt, .ref jk, .ref jv, .ref jr, .int (nI n)]))]) [0, 1] rfl
    have hKc := hK.sub (tys' := []) [] rfl
    refine vp_callSl (W.runV (As := []) (rest := [.ref jd]) ⟨hx, hb, hml, hown, hts⟩ (c_D_allParts l dC dI jd jh jh2 jg jb jy sd w jt jk jv jr n) (cwV 0 hts (g_V big_w m_100 m_102 ms_2 m_1 m_103) rfl rfl rfl (by decide +kernel) ⟨Nat.le_of_ble_eq_true rfl, Nat.le_of_ble_eq_true rfl⟩) (ro_V hPc hKc hN (va_recv hKc hPc (ci := 2) (q0 := 0) rfl rfl)) rfl rfl hl.1 rfl (lv_room (Nat.le_of_ble_eq_true rfl)) d_D_shorter_13 ⟨Nat.le_of_ble_eq_true rfl, Nat.le_of_ble_eq_true rfl⟩) (fun r_6 er_6 => ?_)
    subst er_6
    refine va_put (D := (dC, dI)) (ci := 2) (v := .long (allW n)) (ty := .long) (C := R_D) (T := F_D) (N := 7) hx hb hts (lay_D _) ft_D tok_D nok_D hown hK hP hD hS 0 rfl rfl 6 (by decide) (hts _ (List.mem_cons_of_mem _ m_62)) (fun _ h9 => h9) rfl (by decide +kernel) rfl rfl (Nat.le_of_ble_eq_true rfl) d_D_shorter_16 (fun H locs hP hD hS => ?_)
    have hP : va_P (dC, dI) classes [(jd, .inr (2, [.long sd, .ref jh, .ref jh2, .ref jg, .ref jb, .ref jy, .long (allW n)])), (jh, .inr (1, [.ref jt, .ref jk, .ref jv, .ref jr, .int (nI n)])), (jg, .inl (cg, 43, .inr (.inl G))), (jb, .inl (cb, 8, .inr (.inl B))), (jy, .inl (cy, 256, .inl (bF S)))] H := hP
    have hD : va_D A [(jd, .inr (2, [.long sd, .ref jh, .ref jh2, .ref jg, .ref jb, .ref jy, .long (allW n)])), (jh, .inr (1, [.ref jt, .ref jk, .ref jv, .ref jr, .int (nI n)])), (jg, .inl (cg, 43, .inr (.inl G))), (jb, .inl (cb, 8, .inr (.inl B))), (jy, .inl (cy, 256, .inl (bF S)))] := hD
    refine lv_aload_n hx hb d_D_shorter_19 rfl (lv_at hl 0 rfl) ?_
    refine va_get (D := (dC, dI)) (ci := 2) (v := .long (allW n)) (C := R_D) (T := F_D) (N := 7) hx hb hts (lay_D _) hown hK hP 0 rfl rfl 6 (by decide) (hts _ (List.mem_cons_of_mem _ m_62)) (fun _ h9 => h9) rfl d_D_shorter_20 ?_
    have hPc := hP.sub (ws' := []) [] rfl
    have hKc := hK.sub (tys' := []) [] rfl
    refine vp_callSi (W.runS (As := [.long (allW n)]) (rest := []) ⟨hx, hb, hml, hown, hts⟩ (c_J_bitCount l dC dI (allW n)) (va_cwS 1 hts (g_S big_w m_104 m_105 m_10 m_106) rfl rfl rfl (by decide +kernel) ⟨Nat.le_of_ble_eq_true rfl, Nat.le_of_ble_eq_true rfl⟩) (ro_S hPc hKc hN) rfl rfl hl.1 rfl (lv_room (Nat.le_of_ble_eq_true rfl)) d_D_shorter_23 ⟨Nat.le_of_ble_eq_true rfl, Nat.le_of_ble_eq_true rfl⟩) (fun r_7 er_7 => ?_)
    subst er_7
    rw [ew] at hP hD
    have hP9 := hP.sub (ws' := [(jd, .inr (2, [.long sd, .ref jh, .ref jh2, .ref jg, .ref jb, .ref jy, .long (shO S G B n w)])), (jh, .inr (1, [.ref jt, .ref jk, .ref jv, .ref jr, .int (nI n)])), (jg, .inl (cg, 43, .inr (.inl G))), (jb, .inl (cb, 8, .inr (.inl B))), (jy, .inl (cy, 256, .inl (bF S)))]) [0, 1, 2, 3, 4] rfl
    have hD9 := hD.sub (ws' := [(jd, .inr (2, [.long sd, .ref jh, .ref jh2, .ref jg, .ref jb, .ref jy, .long (shO S G B n w)])), (jh, .inr (1, [.ref jt, .ref jk, .ref jv, .ref jr, .int (nI n)])), (jg, .inl (cg, 43, .inr (.inl G))), (jb, .inl (cb, 8, .inr (.inl B))), (jy, .inl (cy, 256, .inl (bF S)))]) [0, 1, 2, 3, 4] (by decide) rfl
    have hK9 := hK.sub (tys' := [(cg, .long), (cb, .long), (cy, .boolean)]) [0, 1, 2] rfl
    exact W.iret (v := nI (cnt (wbit (allW n)) 64)) hx hb hr (fun t ht hW => ⟨⟨nI (cnt (wbit (allW n)) 64), (), rfl, (by rw [ew]), by rw [ht]; exact hP9, va_K.moved hW.alike hK9, hD9⟩, hS.F ht⟩) hS.2.2 d_D_shorter_26
set_option maxHeartbeats 4000000 in
set_option maxRecDepth 100000 in
/-- PortDrawer() -/
theorem c_D_init (l : Launch) (dC : Nat → ClassId) (dI : Nat → Nat → Nat) (jd : Nat) (sd : Int64)  (sz : Nat) : Met l y_D_init w_D_init ({ frames := 3, cells := 13, slots := 577, locals := 60 }) (wr_P dC dI [.ref jd, .long sd] [(jd, .inr (2, [.long 0, .null, .null, .null, .null, .null, .long 0]))] [] sz) (va_Qv (fun (_ : Nat × Nat × Nat × Nat × Nat × Nat × Nat × Nat × Nat × Nat × Nat × Nat × Nat × ClassId × ClassId × ClassId × ClassId × ClassId × ClassId × ClassId × ClassId × ClassId) => True) (fun (u : Nat × Nat × Nat × Nat × Nat × Nat × Nat × Nat × Nat × Nat × Nat × Nat × Nat × ClassId × ClassId × ClassId × ClassId × ClassId × ClassId × ClassId × ClassId × ClassId) => wr_B dC dI (va_A [(jd, .inr (2, [.long 0, .null, .null, .null, .null, .null, .long 0]))] sz) [(jd, .inr (2, [.long sd, .ref u.1, .ref u.2.2.2.2.2.1, .ref u.2.2.2.2.2.2.2.2.2.2.1, .ref u.2.2.2.2.2.2.2.2.2.2.2.1, .ref u.2.2.2.2.2.2.2.2.2.2.2.2.1, .long 0])), (u.1, .inr (1, [.ref u.2.1, .ref u.2.2.1, .ref u.2.2.2.1, .ref u.2.2.2.2.1, .int (nI 0)])), (u.2.1, .inr (0, [.long 0])), (u.2.2.1, .inl (u.2.2.2.2.2.2.2.2.2.2.2.2.2.1, 43, .inl (fun _ => 0))), (u.2.2.2.1, .inl (u.2.2.2.2.2.2.2.2.2.2.2.2.2.2.1, 43, .inl (fun _ => 0))), (u.2.2.2.2.1, .inl (u.2.2.2.2.2.2.2.2.2.2.2.2.2.2.2.1, 43, .inl (fun _ => 0))), (u.2.2.2.2.2.1, .inr (1, [.ref u.2.2.2.2.2.2.1, .ref u.2.2.2.2.2.2.2.1, .ref u.2.2.2.2.2.2.2.2.1, .ref u.2.2.2.2.2.2.2.2.2.1, .int (nI 0)])), (u.2.2.2.2.2.2.1, .inr (0, [.long 0])), (u.2.2.2.2.2.2.2.1, .inl (u.2.2.2.2.2.2.2.2.2.2.2.2.2.2.2.2.1, 43, .inl (fun _ => 0))), (u.2.2.2.2.2.2.2.2.1, .inl (u.2.2.2.2.2.2.2.2.2.2.2.2.2.2.2.2.2.1, 43, .inl (fun _ => 0))), (u.2.2.2.2.2.2.2.2.2.1, .inl (u.2.2.2.2.2.2.2.2.2.2.2.2.2.2.2.2.2.2.1, 43, .inl (fun _ => 0))), (u.2.2.2.2.2.2.2.2.2.2.1, .inl (u.2.2.2.2.2.2.2.2.2.2.2.2.2.2.2.2.2.2.2.1, 43, .inr (.inl (fun _ => 0)))), (u.2.2.2.2.2.2.2.2.2.2.2.1, .inl (u.2.2.2.2.2.2.2.2.2.2.2.2.2.2.2.2.2.2.2.2.1, 8, .inr (.inl (fun _ => 0)))), (u.2.2.2.2.2.2.2.2.2.2.2.2.1, .inl (u.2.2.2.2.2.2.2.2.2.2.2.2.2.2.2.2.2.2.2.2.2, 256, .inl (bF (fun _ => false))))] [(u.2.2.2.2.2.2.2.2.2.2.2.2.2.1, .int), (u.2.2.2.2.2.2.2.2.2.2.2.2.2.2.1, .int), (u.2.2.2.2.2.2.2.2.2.2.2.2.2.2.2.1, .int), (u.2.2.2.2.2.2.2.2.2.2.2.2.2.2.2.2.1, .int), (u.2.2.2.2.2.2.2.2.2.2.2.2.2.2.2.2.2.1, .int), (u.2.2.2.2.2.2.2.2.2.2.2.2.2.2.2.2.2.2.1, .int), (u.2.2.2.2.2.2.2.2.2.2.2.2.2.2.2.2.2.2.2.1, .long), (u.2.2.2.2.2.2.2.2.2.2.2.2.2.2.2.2.2.2.2.2.1, .long), (u.2.2.2.2.2.2.2.2.2.2.2.2.2.2.2.2.2.2.2.2.2, .boolean)]) (va_A [(jd, .inr (2, [.long 0, .null, .null, .null, .null, .null, .long 0]))] sz)) 13 577 (va_A [(jd, .inr (2, [.long 0, .null, .null, .null, .null, .null, .long 0]))] sz) := by
  refine Met.ofW (cc := b_D_init) (maxL := 3) (ret := (Option.none : Option Jvm.ClassFile.FieldType)) (by decide) rfl ?_
  intro p e s m args below meth c s₁ B0 hml hv0
  obtain ⟨rfl, hsz, hP, hK, hD0, hN⟩ := hv0
  have hx := B0.exec
  have hb := B0.bytes
  have hr := B0.returns
  have hts := atoms_spec (ws := w_D_init) B0.pre
  have hown : s.vm.findClass R_D = some m.cls := findClass_of_methodNamed B0.named
  have hlocks := B0.notSynchronized
  have hin : meth.name = "<init>" := (name_of_methodNamed B0.named B0.method).1
  subst hsz
  have hD := hD0.self (sz := s.heap.size)
  generalize hAe : va_A [(jd, .inr (2, [.long 0, .null, .null, .null, .null, .null, .long 0]))] s.heap.size = A at hD ⊢
  have hA : ∀ q : Nat, s.heap.size ≤ q → A q := fun q h => by rw [← hAe]; exact Or.inr h
  have hS : va_S A s.heap s.heap [] := va_S.rf
  have hP : va_P (dC, dI) classes [(jd, .inr (2, [.long 0, .null, .null, .null, .null, .null, .long 0]))] s.heap := hP
  have hl := lv_entry ([.ref jd, .long sd]) (n := 3) (Nat.le_of_ble_eq_true rfl)
  rw [lg_entry_eq]
  generalize (lg_sl ([.ref jd, .long sd]) ++ List.replicate (3 - (lg_sl ([.ref jd, .long sd])).length) Slot.unset).toArray = ls at hl ⊢
  have hl : lv_has ls 3 [(0, .ref jd), (1, .long sd)] := hl
  refine lv_aload_n hx hb d_D_init_0 rfl (lv_at hl 0 rfl) ?_
  refine W.objInit hx hb hown (hts _ (List.mem_cons_of_mem _ m_16)) (hts _ (List.mem_cons_of_mem _ m_17)) (hts _ (List.mem_cons_of_mem _ m_18)) rfl (by rw [hml]; exact hl.1) rfl d_D_init_1 (Nat.le_of_ble_eq_true rfl) (Nat.le_of_ble_eq_true rfl) ?_
  refine W.eq (g2 := F0 m 4 ls []) rfl ?_
  refine lv_aload_n hx hb d_D_init_4 rfl (lv_at hl 0 rfl) ?_
  refine va_new (ci := 1) (fs := [.null, .null, .null, .null, .int 0]) (C := R_H) (T := F_H) (N := 5) hx hb hts (lay_H _) ft_H tok_H hown (hts _ (List.mem_cons_of_mem _ m_19)) (hts _ (List.mem_cons_of_mem _ m_20)) (hts _ (List.mem_cons_of_mem _ m_2)) hK hP hD hS hA rfl (fun j hj => by rcases (show j = 0 ∨ j = 1 ∨ j = 2 ∨ j = 3 ∨ j = 4 by omega) with rfl | rfl | rfl | rfl | rfl <;> rfl) (Nat.le_of_ble_eq_true rfl) (Nat.le_of_ble_eq_true rfl) d_D_init_5 (fun q_1 H hP hD hS => ?_)
  have hP : va_P (dC, dI) classes [(jd, .inr (2, [.long 0, .null, .null, .null, .null, .null, .long 0])), (q_1, .inr (1, [.null, .null, .null, .null, .int 0]))] H := hP
  have hD : va_D A [(jd, .inr (2, [.long 0, .null, .null, .null, .null, .null, .long 0])), (q_1, .inr (1, [.null, .null, .null, .null, .int 0]))] := hD
  refine W.cs (cells' := 1) (slots' := 5) rfl rfl ?_
  refine lv_dup hx hb d_D_init_8 rfl ?_
  have hPc := hP.sub (ws' := [(q_1, .inr (1, [.null, .null, .null, .null, .int 0]))]) [1] rfl
  have hKc := hK.sub (tys' := []) [] rfl
  have hDc := hD.sub (ws' := [(q_1, .inr (1, [.null, .null, .null, .null, .int 0]))]) [1] (by decide) rfl
  have hFc := va_free (wc := [(q_1, .inr (1, [.null, .null, .null, .null, .int 0]))]) hD hS hA [1] rfl
  refine va_callv (va_runIN (As := []) (rest := [.ref q_1, .ref jd]) ⟨hx, hb, hml, hown, hts⟩ (c_H_init l dC dI q_1 0 _) ⟨va_cnB 0 hts (g_c big_w m_23) rfl rfl rfl (hN _ (by decide +kernel : (Jvm.Cond.methodLinkNest "PortDrawer" (9 : Nat) ({ cls := "PortDrawer$Harbour", name := "<init>", desc := "()V" } : Jvm.MethodName) "PortDrawer") ∈ NWl)) (hts _ (List.mem_cons_of_mem _ m_2)) (by decide +kernel) ⟨Nat.le_of_ble_eq_true rfl, Nat.le_of_ble_eq_true rfl⟩, rfl, (hts _ (List.mem_cons_of_mem _ m_22))⟩ (wr_S hPc hKc hDc hN) rfl rfl hl.1 rfl (lv_room (Nat.le_of_ble_eq_true rfl)) d_D_init_9 ⟨Nat.le_of_ble_eq_true rfl, Nat.le_of_ble_eq_true rfl⟩) hS (fun q _ h => hFc q h) hFc (fun u t H1 locs ht hvm hw hB hz1 hk1 hS => ?_)
  obtain ⟨jt_3, jk_4, jv_5, jr_6, ck_7, cv_8, cr_9⟩ := u
  obtain ⟨hP1, hK1, hD1⟩ := hB
  rw [ht] at hP1
  obtain ⟨hP, hD⟩ := va_join (wr := [(jd, .inr (2, [.long 0, .null, .null, .null, .null, .null, .long 0]))]) (w1 := [(q_1, .inr (1, [.ref jt_3, .ref jk_4, .ref jv_5, .ref jr_6, .int (nI 0)])), (jt_3, .inr (0, [.long 0])), (jk_4, .inl (ck_7, 43, .inl (fun _ => 0))), (jv_5, .inl (cv_8, 43, .inl (fun _ => 0))), (jr_6, .inl (cr_9, 43, .inl (fun _ => 0)))]) hP hD [1] [0] rfl rfl (by decide) (by decide) hk1 hFc hP1 hD1
  generalize H1 = H at hP hS ⊢
  have hP : va_P (dC, dI) classes [(jd, .inr (2, [.long 0, .null, .null, .null, .null, .null, .long 0])), (q_1, .inr (1, [.ref jt_3, .ref jk_4, .ref jv_5, .ref jr_6, .int (nI 0)])), (jt_3, .inr (0, [.long 0])), (jk_4, .inl (ck_7, 43, .inl (fun _ => 0))), (jv_5, .inl (cv_8, 43, .inl (fun _ => 0))), (jr_6, .inl (cr_9, 43, .inl (fun _ => 0)))] H := hP
  have hD : va_D A [(jd, .inr (2, [.long 0, .null, .null, .null, .null, .null, .long 0])), (q_1, .inr (1, [.ref jt_3, .ref jk_4, .ref jv_5, .ref jr_6, .int (nI 0)])), (jt_3, .inr (0, [.long 0])), (jk_4, .inl (ck_7, 43, .inl (fun _ => 0))), (jv_5, .inl (cv_8, 43, .inl (fun _ => 0))), (jr_6, .inl (cr_9, 43, .inl (fun _ => 0)))] := hD
  have hK1 := va_K.moved hvm.symm hK1
  have hK : va_K (dC, dI) classes [(ck_7, .int), (cv_8, .int), (cr_9, .int)] s := hK.app (hK1.sub (tys' := [(ck_7, .int), (cv_8, .int), (cr_9, .int)]) [0, 1, 2] rfl)
  refine W.cs (cells' := 5) (slots' := 135) rfl rfl ?_
  refine va_putF (D := (dC, dI)) (ci := 2) (v := .ref q_1) (ty := .object "PortDrawer$Harbour") (C := R_D) (T := F_D) (N := 7) hx hb hts (lay_D _) ft_D tok_D nok_D hown hK hP hD hS 0 rfl rfl 1 (by decide) (hts _ (List.mem_cons_of_mem _ m_57)) (fun _ h9 => h9) rfl hin rfl (by decide +kernel) rfl rfl (Nat.le_of_ble_eq_true rfl) d_D_init_12 (fun H locs hP hD hS => ?_)
  have hP : va_P (dC, dI) classes [(jd, .inr (2, [.long 0, .ref q_1, .null, .null, .null, .null, .long 0])), (q_1, .inr (1, [.ref jt_3, .ref jk_4, .ref jv_5, .ref jr_6, .int (nI 0)])), (jt_3, .inr (0, [.long 0])), (jk_4, .inl (ck_7, 43, .inl (fun _ => 0))), (jv_5, .inl (cv_8, 43, .inl (fun _ => 0))), (jr_6, .inl (cr_9, 43, .inl (fun _ => 0)))] H := hP
  have hD : va_D A [(jd, .inr (2, [.long 0, .ref q_1, .null, .null, .null, .null, .long 0])), (q_1, .inr (1, [.ref jt_3, .ref jk_4, .ref jv_5, .ref jr_6, .int (nI 0)])), (jt_3, .inr (0, [.long 0])), (jk_4, .inl (ck_7, 43, .inl (fun _ => 0))), (jv_5, .inl (cv_8, 43, .inl (fun _ => 0))), (jr_6, .inl (cr_9, 43, .inl (fun _ => 0)))] := hD
  refine lv_aload_n hx hb d_D_init_15 rfl (lv_at hl 0 rfl) ?_
  refine va_new (ci := 1) (fs := [.null, .null, .null, .null, .int 0]) (C := R_H) (T := F_H) (N := 5) hx hb hts (lay_H _) ft_H tok_H hown (hts _ (List.mem_cons_of_mem _ m_19)) (hts _ (List.mem_cons_of_mem _ m_20)) (hts _ (List.mem_cons_of_mem _ m_2)) hK hP hD hS hA rfl (fun j hj => by rcases (show j = 0 ∨ j = 1 ∨ j = 2 ∨ j = 3 ∨ j = 4 by omega) with rfl | rfl | rfl | rfl | rfl <;> rfl) (Nat.le_of_ble_eq_true rfl) (Nat.le_of_ble_eq_true rfl) d_D_init_16 (fun q_10 H hP hD hS => ?_)
  have hP : va_P (dC, dI) classes [(jd, .inr (2, [.long 0, .ref q_1, .null, .null, .null, .null, .long 0])), (q_1, .inr (1, [.ref jt_3, .ref jk_4, .ref jv_5, .ref jr_6, .int (nI 0)])), (jt_3, .inr (0, [.long 0])), (jk_4, .inl (ck_7, 43, .inl (fun _ => 0))), (jv_5, .inl (cv_8, 43, .inl (fun _ => 0))), (jr_6, .inl (cr_9, 43, .inl (fun _ => 0))), (q_10, .inr (1, [.null, .null, .null, .null, .int 0]))] H := hP
  have hD : va_D A [(jd, .inr (2, [.long 0, .ref q_1, .null, .null, .null, .null, .long 0])), (q_1, .inr (1, [.ref jt_3, .ref jk_4, .ref jv_5, .ref jr_6, .int (nI 0)])), (jt_3, .inr (0, [.long 0])), (jk_4, .inl (ck_7, 43, .inl (fun _ => 0))), (jv_5, .inl (cv_8, 43, .inl (fun _ => 0))), (jr_6, .inl (cr_9, 43, .inl (fun _ => 0))), (q_10, .inr (1, [.null, .null, .null, .null, .int 0]))] := hD
  refine W.cs (cells' := 6) (slots' := 140) rfl rfl ?_
  refine lv_dup hx hb d_D_init_19 rfl ?_
  have hPc := hP.sub (ws' := [(q_10, .inr (1, [.null, .null, .null, .null, .int 0]))]) [6] rfl
  have hKc := hK.sub (tys' := []) [] rfl
  have hDc := hD.sub (ws' := [(q_10, .inr (1, [.null, .null, .null, .null, .int 0]))]) [6] (by decide) rfl
  have hFc := va_free (wc := [(q_10, .inr (1, [.null, .null, .null, .null, .int 0]))]) hD hS hA [6] rfl
  refine va_callv (va_runIN (As := []) (rest := [.ref q_10, .ref jd]) ⟨hx, hb, hml, hown, hts⟩ (c_H_init l dC dI q_10 0 _) ⟨va_cnB 0 hts (g_c big_w m_23) rfl rfl rfl (hN _ (by decide +kernel : (Jvm.Cond.methodLinkNest "PortDrawer" (9 : Nat) ({ cls := "PortDrawer$Harbour", name := "<init>", desc := "()V" } : Jvm.MethodName) "PortDrawer") ∈ NWl)) (hts _ (List.mem_cons_of_mem _ m_2)) (by decide +kernel) ⟨Nat.le_of_ble_eq_true rfl, Nat.le_of_ble_eq_true rfl⟩, rfl, (hts _ (List.mem_cons_of_mem _ m_22))⟩ (wr_S hPc hKc hDc hN) rfl rfl hl.1 rfl (lv_room (Nat.le_of_ble_eq_true rfl)) d_D_init_20 ⟨Nat.le_of_ble_eq_true rfl, Nat.le_of_ble_eq_true rfl⟩) hS (fun q _ h => hFc q h) hFc (fun u t H1 locs ht hvm hw hB hz1 hk1 hS => ?_)
  obtain ⟨jt_12, jk_13, jv_14, jr_15, ck_16, cv_17, cr_18⟩ := u
  obtain ⟨hP1, hK1, hD1⟩ := hB
  rw [ht] at hP1
  obtain ⟨hP, hD⟩ := va_join (wr := [(jd, .inr (2, [.long 0, .ref q_1, .null, .null, .null, .null, .long 0])), (q_1, .inr (1, [.ref jt_3, .ref jk_4, .ref jv_5, .ref jr_6, .int (nI 0)])), (jt_3, .inr (0, [.long 0])), (jk_4, .inl (ck_7, 43, .inl (fun _ => 0))), (jv_5, .inl (cv_8, 43, .inl (fun _ => 0))), (jr_6, .inl (cr_9, 43, .inl (fun _ => 0)))]) (w1 := [(q_10, .inr (1, [.ref jt_12, .ref jk_13, .ref jv_14, .ref jr_15, .int (nI 0)])), (jt_12, .inr (0, [.long 0])), (jk_13, .inl (ck_16, 43, .inl (fun _ => 0))), (jv_14, .inl (cv_17, 43, .inl (fun _ => 0))), (jr_15, .inl (cr_18, 43, .inl (fun _ => 0)))]) hP hD [6] [0, 1, 2, 3, 4, 5] rfl rfl (by decide) (by decide) hk1 hFc hP1 hD1
  generalize H1 = H at hP hS ⊢
  have hP : va_P (dC, dI) classes [(jd, .inr (2, [.long 0, .ref q_1, .null, .null, .null, .null, .long 0])), (q_1, .inr (1, [.ref jt_3, .ref jk_4, .ref jv_5, .ref jr_6, .int (nI 0)])), (jt_3, .inr (0, [.long 0])), (jk_4, .inl (ck_7, 43, .inl (fun _ => 0))), (jv_5, .inl (cv_8, 43, .inl (fun _ => 0))), (jr_6, .inl (cr_9, 43, .inl (fun _ => 0))), (q_10, .inr (1, [.ref jt_12, .ref jk_13, .ref jv_14, .ref jr_15, .int (nI 0)])), (jt_12, .inr (0, [.long 0])), (jk_13, .inl (ck_16, 43, .inl (fun _ => 0))), (jv_14, .inl (cv_17, 43, .inl (fun _ => 0))), (jr_15, .inl (cr_18, 43, .inl (fun _ => 0)))] H := hP
  have hD : va_D A [(jd, .inr (2, [.long 0, .ref q_1, .null, .null, .null, .null, .long 0])), (q_1, .inr (1, [.ref jt_3, .ref jk_4, .ref jv_5, .ref jr_6, .int (nI 0)])), (jt_3, .inr (0, [.long 0])), (jk_4, .inl (ck_7, 43, .inl (fun _ => 0))), (jv_5, .inl (cv_8, 43, .inl (fun _ => 0))), (jr_6, .inl (cr_9, 43, .inl (fun _ => 0))), (q_10, .inr (1, [.ref jt_12, .ref jk_13, .ref jv_14, .ref jr_15, .int (nI 0)])), (jt_12, .inr (0, [.long 0])), (jk_13, .inl (ck_16, 43, .inl (fun _ => 0))), (jv_14, .inl (cv_17, 43, .inl (fun _ => 0))), (jr_15, .inl (cr_18, 43, .inl (fun _ => 0)))] := hD
  have hK1 := va_K.moved hvm.symm hK1
  have hK : va_K (dC, dI) classes [(ck_7, .int), (cv_8, .int), (cr_9, .int), (ck_16, .int), (cv_17, .int), (cr_18, .int)] s := hK.app (hK1.sub (tys' := [(ck_16, .int), (cv_17, .int), (cr_18, .int)]) [0, 1, 2] rfl)
  refine W.cs (cells' := 10) (slots' := 270) rfl rfl ?_
  refine va_putF (D := (dC, dI)) (ci := 2) (v := .ref q_10) (ty := .object "PortDrawer$Harbour") (C := R_D) (T := F_D) (N := 7) hx hb hts (lay_D _) ft_D tok_D nok_D hown hK hP hD hS 0 rfl rfl 2 (by decide) (hts _ (List.mem_cons_of_mem _ m_58)) (fun _ h9 => h9) rfl hin rfl (by decide +kernel) rfl rfl (Nat.le_of_ble_eq_true rfl) d_D_init_23 (fun H locs hP hD hS => ?_)
  have hP : va_P (dC, dI) classes [(jd, .inr (2, [.long 0, .ref q_1, .ref q_10, .null, .null, .null, .long 0])), (q_1, .inr (1, [.ref jt_3, .ref jk_4, .ref jv_5, .ref jr_6, .int (nI 0)])), (jt_3, .inr (0, [.long 0])), (jk_4, .inl (ck_7, 43, .inl (fun _ => 0))), (jv_5, .inl (cv_8, 43, .inl (fun _ => 0))), (jr_6, .inl (cr_9, 43, .inl (fun _ => 0))), (q_10, .inr (1, [.ref jt_12, .ref jk_13, .ref jv_14, .ref jr_15, .int (nI 0)])), (jt_12, .inr (0, [.long 0])), (jk_13, .inl (ck_16, 43, .inl (fun _ => 0))), (jv_14, .inl (cv_17, 43, .inl (fun _ => 0))), (jr_15, .inl (cr_18, 43, .inl (fun _ => 0)))] H := hP
  have hD : va_D A [(jd, .inr (2, [.long 0, .ref q_1, .ref q_10, .null, .null, .null, .long 0])), (q_1, .inr (1, [.ref jt_3, .ref jk_4, .ref jv_5, .ref jr_6, .int (nI 0)])), (jt_3, .inr (0, [.long 0])), (jk_4, .inl (ck_7, 43, .inl (fun _ => 0))), (jv_5, .inl (cv_8, 43, .inl (fun _ => 0))), (jr_6, .inl (cr_9, 43, .inl (fun _ => 0))), (q_10, .inr (1, [.ref jt_12, .ref jk_13, .ref jv_14, .ref jr_15, .int (nI 0)])), (jt_12, .inr (0, [.long 0])), (jk_13, .inl (ck_16, 43, .inl (fun _ => 0))), (jv_14, .inl (cv_17, 43, .inl (fun _ => 0))), (jr_15, .inl (cr_18, 43, .inl (fun _ => 0)))] := hD
  refine lv_aload_n hx hb d_D_init_26 rfl (lv_at hl 0 rfl) ?_
  refine lv_bipush (v := nI 43) hx hb d_D_init_27 (by decide +kernel) ?_
  refine va_newa (atype := .long) (ty := .long) (a0 := (43, .inr (.inl (fun _ => 0)))) hx hb (hts _ (List.mem_cons_of_mem _ m_78)) rfl hK hP hD hS hA (fun _ => rfl) (nI_pos (by omega)) (nI_clamp (by omega)) (by decide) (Nat.le_of_ble_eq_true rfl) (Nat.le_of_ble_eq_true rfl) d_D_init_29 (fun q_19 cA_20 H hK hP hD hS => ?_)
  have hK : va_K (dC, dI) classes [(ck_7, .int), (cv_8, .int), (cr_9, .int), (ck_16, .int), (cv_17, .int), (cr_18, .int), (cA_20, .long)] s := hK
  have hP : va_P (dC, dI) classes [(jd, .inr (2, [.long 0, .ref q_1, .ref q_10, .null, .null, .null, .long 0])), (q_1, .inr (1, [.ref jt_3, .ref jk_4, .ref jv_5, .ref jr_6, .int (nI 0)])), (jt_3, .inr (0, [.long 0])), (jk_4, .inl (ck_7, 43, .inl (fun _ => 0))), (jv_5, .inl (cv_8, 43, .inl (fun _ => 0))), (jr_6, .inl (cr_9, 43, .inl (fun _ => 0))), (q_10, .inr (1, [.ref jt_12, .ref jk_13, .ref jv_14, .ref jr_15, .int (nI 0)])), (jt_12, .inr (0, [.long 0])), (jk_13, .inl (ck_16, 43, .inl (fun _ => 0))), (jv_14, .inl (cv_17, 43, .inl (fun _ => 0))), (jr_15, .inl (cr_18, 43, .inl (fun _ => 0))), (q_19, .inl (cA_20, 43, .inr (.inl (fun _ => 0))))] H := hP
  have hD : va_D A [(jd, .inr (2, [.long 0, .ref q_1, .ref q_10, .null, .null, .null, .long 0])), (q_1, .inr (1, [.ref jt_3, .ref jk_4, .ref jv_5, .ref jr_6, .int (nI 0)])), (jt_3, .inr (0, [.long 0])), (jk_4, .inl (ck_7, 43, .inl (fun _ => 0))), (jv_5, .inl (cv_8, 43, .inl (fun _ => 0))), (jr_6, .inl (cr_9, 43, .inl (fun _ => 0))), (q_10, .inr (1, [.ref jt_12, .ref jk_13, .ref jv_14, .ref jr_15, .int (nI 0)])), (jt_12, .inr (0, [.long 0])), (jk_13, .inl (ck_16, 43, .inl (fun _ => 0))), (jv_14, .inl (cv_17, 43, .inl (fun _ => 0))), (jr_15, .inl (cr_18, 43, .inl (fun _ => 0))), (q_19, .inl (cA_20, 43, .inr (.inl (fun _ => 0))))] := hD
  refine W.cs (cells' := 11) (slots' := 313) rfl rfl ?_
  refine va_putF (D := (dC, dI)) (ci := 2) (v := .ref q_19) (ty := .array .long) (C := R_D) (T := F_D) (N := 7) hx hb hts (lay_D _) ft_D tok_D nok_D hown hK hP hD hS 0 rfl rfl 3 (by decide) (hts _ (List.mem_cons_of_mem _ m_59)) (fun _ h9 => h9) rfl hin rfl (by decide +kernel) rfl rfl (Nat.le_of_ble_eq_true rfl) d_D_init_31 (fun H locs hP hD hS => ?_)
  have hP : va_P (dC, dI) classes [(jd, .inr (2, [.long 0, .ref q_1, .ref q_10, .ref q_19, .null, .null, .long 0])), (q_1, .inr (1, [.ref jt_3, .ref jk_4, .ref jv_5, .ref jr_6, .int (nI 0)])), (jt_3, .inr (0, [.long 0])), (jk_4, .inl (ck_7, 43, .inl (fun _ => 0))), (jv_5, .inl (cv_8, 43, .inl (fun _ => 0))), (jr_6, .inl (cr_9, 43, .inl (fun _ => 0))), (q_10, .inr (1, [.ref jt_12, .ref jk_13, .ref jv_14, .ref jr_15, .int (nI 0)])), (jt_12, .inr (0, [.long 0])), (jk_13, .inl (ck_16, 43, .inl (fun _ => 0))), (jv_14, .inl (cv_17, 43, .inl (fun _ => 0))), (jr_15, .inl (cr_18, 43, .inl (fun _ => 0))), (q_19, .inl (cA_20, 43, .inr (.inl (fun _ => 0))))] H := hP
  have hD : va_D A [(jd, .inr (2, [.long 0, .ref q_1, .ref q_10, .ref q_19, .null, .null, .long 0])), (q_1, .inr (1, [.ref jt_3, .ref jk_4, .ref jv_5, .ref jr_6, .int (nI 0)])), (jt_3, .inr (0, [.long 0])), (jk_4, .inl (ck_7, 43, .inl (fun _ => 0))), (jv_5, .inl (cv_8, 43, .inl (fun _ => 0))), (jr_6, .inl (cr_9, 43, .inl (fun _ => 0))), (q_10, .inr (1, [.ref jt_12, .ref jk_13, .ref jv_14, .ref jr_15, .int (nI 0)])), (jt_12, .inr (0, [.long 0])), (jk_13, .inl (ck_16, 43, .inl (fun _ => 0))), (jv_14, .inl (cv_17, 43, .inl (fun _ => 0))), (jr_15, .inl (cr_18, 43, .inl (fun _ => 0))), (q_19, .inl (cA_20, 43, .inr (.inl (fun _ => 0))))] := hD
  refine lv_aload_n hx hb d_D_init_34 rfl (lv_at hl 0 rfl) ?_
  refine lv_bipush (v := nI 8) hx hb d_D_init_35 (by decide +kernel) ?_
  refine va_newa (atype := .long) (ty := .long) (a0 := (8, .inr (.inl (fun _ => 0)))) hx hb (hts _ (List.mem_cons_of_mem _ m_78)) rfl hK hP hD hS hA (fun _ => rfl) (nI_pos (by omega)) (nI_clamp (by omega)) (by decide) (Nat.le_of_ble_eq_true rfl) (Nat.le_of_ble_eq_true rfl) d_D_init_37 (fun q_21 cA_22 H hK hP hD hS => ?_)
  have hK : va_K (dC, dI) classes [(ck_7, .int), (cv_8, .int), (cr_9, .int), (ck_16, .int), (cv_17, .int), (cr_18, .int), (cA_20, .long), (cA_22, .long)] s := hK
  have hP : va_P (dC, dI) classes [(jd, .inr (2, [.long 0, .ref q_1, .ref q_10, .ref q_19, .null, .null, .long 0])), (q_1, .inr (1, [.ref jt_3, .ref jk_4, .ref jv_5, .ref jr_6, .int (nI 0)])), (jt_3, .inr (0, [.long 0])), (jk_4, .inl (ck_7, 43, .inl (fun _ => 0))), (jv_5, .inl (cv_8, 43, .inl (fun _ => 0))), (jr_6, .inl (cr_9, 43, .inl (fun _ => 0))), (q_10, .inr (1, [.ref jt_12, .ref jk_13, .ref jv_14, .ref jr_15, .int (nI 0)])), (jt_12, .inr (0, [.long 0])), (jk_13, .inl (ck_16, 43, .inl (fun _ => 0))), (jv_14, .inl (cv_17, 43, .inl (fun _ => 0))), (jr_15, .inl (cr_18, 43, .inl (fun _ => 0))), (q_19, .inl (cA_20, 43, .inr (.inl (fun _ => 0)))), (q_21, .inl (cA_22, 8, .inr (.inl (fun _ => 0))))] H := hP
  have hD : va_D A [(jd, .inr (2, [.long 0, .ref q_1, .ref q_10, .ref q_19, .null, .null, .long 0])), (q_1, .inr (1, [.ref jt_3, .ref jk_4, .ref jv_5, .ref jr_6, .int (nI 0)])), (jt_3, .inr (0, [.long 0])), (jk_4, .inl (ck_7, 43, .inl (fun _ => 0))), (jv_5, .inl (cv_8, 43, .inl (fun _ => 0))), (jr_6, .inl (cr_9, 43, .inl (fun _ => 0))), (q_10, .inr (1, [.ref jt_12, .ref jk_13, .ref jv_14, .ref jr_15, .int (nI 0)])), (jt_12, .inr (0, [.long 0])), (jk_13, .inl (ck_16, 43, .inl (fun _ => 0))), (jv_14, .inl (cv_17, 43, .inl (fun _ => 0))), (jr_15, .inl (cr_18, 43, .inl (fun _ => 0))), (q_19, .inl (cA_20, 43, .inr (.inl (fun _ => 0)))), (q_21, .inl (cA_22, 8, .inr (.inl (fun _ => 0))))] := hD
  refine W.cs (cells' := 12) (slots' := 321) rfl rfl ?_
  refine va_putF (D := (dC, dI)) (ci := 2) (v := .ref q_21) (ty := .array .long) (C := R_D) (T := F_D) (N := 7) hx hb hts (lay_D _) ft_D tok_D nok_D hown hK hP hD hS 0 rfl rfl 4 (by decide) (hts _ (List.mem_cons_of_mem _ m_60)) (fun _ h9 => h9) rfl hin rfl (by decide +kernel) rfl rfl (Nat.le_of_ble_eq_true rfl) d_D_init_39 (fun H locs hP hD hS => ?_)
  have hP : va_P (dC, dI) classes [(jd, .inr (2, [.long 0, .ref q_1, .ref q_10, .ref q_19, .ref q_21, .null, .long 0])), (q_1, .inr (1, [.ref jt_3, .ref jk_4, .ref jv_5, .ref jr_6, .int (nI 0)])), (jt_3, .inr (0, [.long 0])), (jk_4, .inl (ck_7, 43, .inl (fun _ => 0))), (jv_5, .inl (cv_8, 43, .inl (fun _ => 0))), (jr_6, .inl (cr_9, 43, .inl (fun _ => 0))), (q_10, .inr (1, [.ref jt_12, .ref jk_13, .ref jv_14, .ref jr_15, .int (nI 0)])), (jt_12, .inr (0, [.long 0])), (jk_13, .inl (ck_16, 43, .inl (fun _ => 0))), (jv_14, .inl (cv_17, 43, .inl (fun _ => 0))), (jr_15, .inl (cr_18, 43, .inl (fun _ => 0))), (q_19, .inl (cA_20, 43, .inr (.inl (fun _ => 0)))), (q_21, .inl (cA_22, 8, .inr (.inl (fun _ => 0))))] H := hP
  have hD : va_D A [(jd, .inr (2, [.long 0, .ref q_1, .ref q_10, .ref q_19, .ref q_21, .null, .long 0])), (q_1, .inr (1, [.ref jt_3, .ref jk_4, .ref jv_5, .ref jr_6, .int (nI 0)])), (jt_3, .inr (0, [.long 0])), (jk_4, .inl (ck_7, 43, .inl (fun _ => 0))), (jv_5, .inl (cv_8, 43, .inl (fun _ => 0))), (jr_6, .inl (cr_9, 43, .inl (fun _ => 0))), (q_10, .inr (1, [.ref jt_12, .ref jk_13, .ref jv_14, .ref jr_15, .int (nI 0)])), (jt_12, .inr (0, [.long 0])), (jk_13, .inl (ck_16, 43, .inl (fun _ => 0))), (jv_14, .inl (cv_17, 43, .inl (fun _ => 0))), (jr_15, .inl (cr_18, 43, .inl (fun _ => 0))), (q_19, .inl (cA_20, 43, .inr (.inl (fun _ => 0)))), (q_21, .inl (cA_22, 8, .inr (.inl (fun _ => 0))))] := hD
  refine lv_aload_n hx hb d_D_init_42 rfl (lv_at hl 0 rfl) ?_
  refine lv_sipush (v := nI 256) hx hb d_D_init_43 (by decide +kernel) ?_
  refine va_newa (atype := .boolean) (ty := .boolean) (a0 := (256, .inl (fun _ => 0))) hx hb (hts _ (List.mem_cons_of_mem _ m_79)) rfl hK hP hD hS hA (fun _ => rfl) (nI_pos (by omega)) (nI_clamp (by omega)) (by decide) (Nat.le_of_ble_eq_true rfl) (Nat.le_of_ble_eq_true rfl) d_D_init_46 (fun q_23 cA_24 H hK hP hD hS => ?_)
  have hK : va_K (dC, dI) classes [(ck_7, .int), (cv_8, .int), (cr_9, .int), (ck_16, .int), (cv_17, .int), (cr_18, .int), (cA_20, .long), (cA_22, .long), (cA_24, .boolean)] s := hK
  have hP : va_P (dC, dI) classes [(jd, .inr (2, [.long 0, .ref q_1, .ref q_10, .ref q_19, .ref q_21, .null, .long 0])), (q_1, .inr (1, [.ref jt_3, .ref jk_4, .ref jv_5, .ref jr_6, .int (nI 0)])), (jt_3, .inr (0, [.long 0])), (jk_4, .inl (ck_7, 43, .inl (fun _ => 0))), (jv_5, .inl (cv_8, 43, .inl (fun _ => 0))), (jr_6, .inl (cr_9, 43, .inl (fun _ => 0))), (q_10, .inr (1, [.ref jt_12, .ref jk_13, .ref jv_14, .ref jr_15, .int (nI 0)])), (jt_12, .inr (0, [.long 0])), (jk_13, .inl (ck_16, 43, .inl (fun _ => 0))), (jv_14, .inl (cv_17, 43, .inl (fun _ => 0))), (jr_15, .inl (cr_18, 43, .inl (fun _ => 0))), (q_19, .inl (cA_20, 43, .inr (.inl (fun _ => 0)))), (q_21, .inl (cA_22, 8, .inr (.inl (fun _ => 0)))), (q_23, .inl (cA_24, 256, .inl (fun _ => 0)))] H := hP
  have hD : va_D A [(jd, .inr (2, [.long 0, .ref q_1, .ref q_10, .ref q_19, .ref q_21, .null, .long 0])), (q_1, .inr (1, [.ref jt_3, .ref jk_4, .ref jv_5, .ref jr_6, .int (nI 0)])), (jt_3, .inr (0, [.long 0])), (jk_4, .inl (ck_7, 43, .inl (fun _ => 0))), (jv_5, .inl (cv_8, 43, .inl (fun _ => 0))), (jr_6, .inl (cr_9, 43, .inl (fun _ => 0))), (q_10, .inr (1, [.ref jt_12, .ref jk_13, .ref jv_14, .ref jr_15, .int (nI 0)])), (jt_12, .inr (0, [.long 0])), (jk_13, .inl (ck_16, 43, .inl (fun _ => 0))), (jv_14, .inl (cv_17, 43, .inl (fun _ => 0))), (jr_15, .inl (cr_18, 43, .inl (fun _ => 0))), (q_19, .inl (cA_20, 43, .inr (.inl (fun _ => 0)))), (q_21, .inl (cA_22, 8, .inr (.inl (fun _ => 0)))), (q_23, .inl (cA_24, 256, .inl (fun _ => 0)))] := hD
  refine W.cs (cells' := 13) (slots' := 577) rfl rfl ?_
  refine va_putF (D := (dC, dI)) (ci := 2) (v := .ref q_23) (ty := .array .boolean) (C := R_D) (T := F_D) (N := 7) hx hb hts (lay_D _) ft_D tok_D nok_D hown hK hP hD hS 0 rfl rfl 5 (by decide) (hts _ (List.mem_cons_of_mem _ m_61)) (fun _ h9 => h9) rfl hin rfl (by decide +kernel) rfl rfl (Nat.le_of_ble_eq_true rfl) d_D_init_48 (fun H locs hP hD hS => ?_)
  have hP : va_P (dC, dI) classes [(jd, .inr (2, [.long 0, .ref q_1, .ref q_10, .ref q_19, .ref q_21, .ref q_23, .long 0])), (q_1, .inr (1, [.ref jt_3, .ref jk_4, .ref jv_5, .ref jr_6, .int (nI 0)])), (jt_3, .inr (0, [.long 0])), (jk_4, .inl (ck_7, 43, .inl (fun _ => 0))), (jv_5, .inl (cv_8, 43, .inl (fun _ => 0))), (jr_6, .inl (cr_9, 43, .inl (fun _ => 0))), (q_10, .inr (1, [.ref jt_12, .ref jk_13, .ref jv_14, .ref jr_15, .int (nI 0)])), (jt_12, .inr (0, [.long 0])), (jk_13, .inl (ck_16, 43, .inl (fun _ => 0))), (jv_14, .inl (cv_17, 43, .inl (fun _ => 0))), (jr_15, .inl (cr_18, 43, .inl (fun _ => 0))), (q_19, .inl (cA_20, 43, .inr (.inl (fun _ => 0)))), (q_21, .inl (cA_22, 8, .inr (.inl (fun _ => 0)))), (q_23, .inl (cA_24, 256, .inl (fun _ => 0)))] H := hP
  have hD : va_D A [(jd, .inr (2, [.long 0, .ref q_1, .ref q_10, .ref q_19, .ref q_21, .ref q_23, .long 0])), (q_1, .inr (1, [.ref jt_3, .ref jk_4, .ref jv_5, .ref jr_6, .int (nI 0)])), (jt_3, .inr (0, [.long 0])), (jk_4, .inl (ck_7, 43, .inl (fun _ => 0))), (jv_5, .inl (cv_8, 43, .inl (fun _ => 0))), (jr_6, .inl (cr_9, 43, .inl (fun _ => 0))), (q_10, .inr (1, [.ref jt_12, .ref jk_13, .ref jv_14, .ref jr_15, .int (nI 0)])), (jt_12, .inr (0, [.long 0])), (jk_13, .inl (ck_16, 43, .inl (fun _ => 0))), (jv_14, .inl (cv_17, 43, .inl (fun _ => 0))), (jr_15, .inl (cr_18, 43, .inl (fun _ => 0))), (q_19, .inl (cA_20, 43, .inr (.inl (fun _ => 0)))), (q_21, .inl (cA_22, 8, .inr (.inl (fun _ => 0)))), (q_23, .inl (cA_24, 256, .inl (fun _ => 0)))] := hD
  refine lv_aload_n hx hb d_D_init_51 rfl (lv_at hl 0 rfl) ?_
  refine lv_lconst (v := 0) hx hb d_D_init_52 (by decide +kernel) ?_
  refine va_put (D := (dC, dI)) (ci := 2) (v := .long 0) (ty := .long) (C := R_D) (T := F_D) (N := 7) hx hb hts (lay_D _) ft_D tok_D nok_D hown hK hP hD hS 0 rfl rfl 6 (by decide) (hts _ (List.mem_cons_of_mem _ m_62)) (fun _ h9 => h9) rfl (by decide +kernel) rfl rfl (Nat.le_of_ble_eq_true rfl) d_D_init_53 (fun H locs hP hD hS => ?_)
  have hP : va_P (dC, dI) classes [(jd, .inr (2, [.long 0, .ref q_1, .ref q_10, .ref q_19, .ref q_21, .ref q_23, .long 0])), (q_1, .inr (1, [.ref jt_3, .ref jk_4, .ref jv_5, .ref jr_6, .int (nI 0)])), (jt_3, .inr (0, [.long 0])), (jk_4, .inl (ck_7, 43, .inl (fun _ => 0))), (jv_5, .inl (cv_8, 43, .inl (fun _ => 0))), (jr_6, .inl (cr_9, 43, .inl (fun _ => 0))), (q_10, .inr (1, [.ref jt_12, .ref jk_13, .ref jv_14, .ref jr_15, .int (nI 0)])), (jt_12, .inr (0, [.long 0])), (jk_13, .inl (ck_16, 43, .inl (fun _ => 0))), (jv_14, .inl (cv_17, 43, .inl (fun _ => 0))), (jr_15, .inl (cr_18, 43, .inl (fun _ => 0))), (q_19, .inl (cA_20, 43, .inr (.inl (fun _ => 0)))), (q_21, .inl (cA_22, 8, .inr (.inl (fun _ => 0)))), (q_23, .inl (cA_24, 256, .inl (fun _ => 0)))] H := hP
  have hD : va_D A [(jd, .inr (2, [.long 0, .ref q_1, .ref q_10, .ref q_19, .ref q_21, .ref q_23, .long 0])), (q_1, .inr (1, [.ref jt_3, .ref jk_4, .ref jv_5, .ref jr_6, .int (nI 0)])), (jt_3, .inr (0, [.long 0])), (jk_4, .inl (ck_7, 43, .inl (fun _ => 0))), (jv_5, .inl (cv_8, 43, .inl (fun _ => 0))), (jr_6, .inl (cr_9, 43, .inl (fun _ => 0))), (q_10, .inr (1, [.ref jt_12, .ref jk_13, .ref jv_14, .ref jr_15, .int (nI 0)])), (jt_12, .inr (0, [.long 0])), (jk_13, .inl (ck_16, 43, .inl (fun _ => 0))), (jv_14, .inl (cv_17, 43, .inl (fun _ => 0))), (jr_15, .inl (cr_18, 43, .inl (fun _ => 0))), (q_19, .inl (cA_20, 43, .inr (.inl (fun _ => 0)))), (q_21, .inl (cA_22, 8, .inr (.inl (fun _ => 0)))), (q_23, .inl (cA_24, 256, .inl (fun _ => 0)))] := hD
  refine lv_aload_n hx hb d_D_init_56 rfl (lv_at hl 0 rfl) ?_
  refine lv_lload_n hx hb d_D_init_57 rfl (lv_at hl 1 rfl) ?_
  refine va_putF (D := (dC, dI)) (ci := 2) (v := .long sd) (ty := .long) (C := R_D) (T := F_D) (N := 7) hx hb hts (lay_D _) ft_D tok_D nok_D hown hK hP hD hS 0 rfl rfl 0 (by decide) (hts _ (List.mem_cons_of_mem _ m_56)) (fun _ h9 => h9) rfl hin rfl (by decide +kernel) rfl rfl (Nat.le_of_ble_eq_true rfl) d_D_init_58 (fun H locs hP hD hS => ?_)
  have hP : va_P (dC, dI) classes [(jd, .inr (2, [.long sd, .ref q_1, .ref q_10, .ref q_19, .ref q_21, .ref q_23, .long 0])), (q_1, .inr (1, [.ref jt_3, .ref jk_4, .ref jv_5, .ref jr_6, .int (nI 0)])), (jt_3, .inr (0, [.long 0])), (jk_4, .inl (ck_7, 43, .inl (fun _ => 0))), (jv_5, .inl (cv_8, 43, .inl (fun _ => 0))), (jr_6, .inl (cr_9, 43, .inl (fun _ => 0))), (q_10, .inr (1, [.ref jt_12, .ref jk_13, .ref jv_14, .ref jr_15, .int (nI 0)])), (jt_12, .inr (0, [.long 0])), (jk_13, .inl (ck_16, 43, .inl (fun _ => 0))), (jv_14, .inl (cv_17, 43, .inl (fun _ => 0))), (jr_15, .inl (cr_18, 43, .inl (fun _ => 0))), (q_19, .inl (cA_20, 43, .inr (.inl (fun _ => 0)))), (q_21, .inl (cA_22, 8, .inr (.inl (fun _ => 0)))), (q_23, .inl (cA_24, 256, .inl (fun _ => 0)))] H := hP
  have hD : va_D A [(jd, .inr (2, [.long sd, .ref q_1, .ref q_10, .ref q_19, .ref q_21, .ref q_23, .long 0])), (q_1, .inr (1, [.ref jt_3, .ref jk_4, .ref jv_5, .ref jr_6, .int (nI 0)])), (jt_3, .inr (0, [.long 0])), (jk_4, .inl (ck_7, 43, .inl (fun _ => 0))), (jv_5, .inl (cv_8, 43, .inl (fun _ => 0))), (jr_6, .inl (cr_9, 43, .inl (fun _ => 0))), (q_10, .inr (1, [.ref jt_12, .ref jk_13, .ref jv_14, .ref jr_15, .int (nI 0)])), (jt_12, .inr (0, [.long 0])), (jk_13, .inl (ck_16, 43, .inl (fun _ => 0))), (jv_14, .inl (cv_17, 43, .inl (fun _ => 0))), (jr_15, .inl (cr_18, 43, .inl (fun _ => 0))), (q_19, .inl (cA_20, 43, .inr (.inl (fun _ => 0)))), (q_21, .inl (cA_22, 8, .inr (.inl (fun _ => 0)))), (q_23, .inl (cA_24, 256, .inl (fun _ => 0)))] := hD
  have hP9 := hP.sub (ws' := [(jd, .inr (2, [.long sd, .ref q_1, .ref q_10, .ref q_19, .ref q_21, .ref q_23, .long 0])), (q_1, .inr (1, [.ref jt_3, .ref jk_4, .ref jv_5, .ref jr_6, .int (nI 0)])), (jt_3, .inr (0, [.long 0])), (jk_4, .inl (ck_7, 43, .inl (fun _ => 0))), (jv_5, .inl (cv_8, 43, .inl (fun _ => 0))), (jr_6, .inl (cr_9, 43, .inl (fun _ => 0))), (q_10, .inr (1, [.ref jt_12, .ref jk_13, .ref jv_14, .ref jr_15, .int (nI 0)])), (jt_12, .inr (0, [.long 0])), (jk_13, .inl (ck_16, 43, .inl (fun _ => 0))), (jv_14, .inl (cv_17, 43, .inl (fun _ => 0))), (jr_15, .inl (cr_18, 43, .inl (fun _ => 0))), (q_19, .inl (cA_20, 43, .inr (.inl (fun _ => 0)))), (q_21, .inl (cA_22, 8, .inr (.inl (fun _ => 0)))), (q_23, .inl (cA_24, 256, .inl (bF (fun _ => false))))]) [0, 1, 2, 3, 4, 5, 6, 7, 8, 9, 10, 11, 12, 13] rfl
  have hD9 := hD.sub (ws' := [(jd, .inr (2, [.long sd, .ref q_1, .ref q_10, .ref q_19, .ref q_21, .ref q_23, .long 0])), (q_1, .inr (1, [.ref jt_3, .ref jk_4, .ref jv_5, .ref jr_6, .int (nI 0)])), (jt_3, .inr (0, [.long 0])), (jk_4, .inl (ck_7, 43, .inl (fun _ => 0))), (jv_5, .inl (cv_8, 43, .inl (fun _ => 0))), (jr_6, .inl (cr_9, 43, .inl (fun _ => 0))), (q_10, .inr (1, [.ref jt_12, .ref jk_13, .ref jv_14, .ref jr_15, .int (nI 0)])), (jt_12, .inr (0, [.long 0])), (jk_13, .inl (ck_16, 43, .inl (fun _ => 0))), (jv_14, .inl (cv_17, 43, .inl (fun _ => 0))), (jr_15, .inl (cr_18, 43, .inl (fun _ => 0))), (q_19, .inl (cA_20, 43, .inr (.inl (fun _ => 0)))), (q_21, .inl (cA_22, 8, .inr (.inl (fun _ => 0)))), (q_23, .inl (cA_24, 256, .inl (bF (fun _ => false))))]) [0, 1, 2, 3, 4, 5, 6, 7, 8, 9, 10, 11, 12, 13] (by decide) rfl
  have hK9 := hK.sub (tys' := [(ck_7, .int), (cv_8, .int), (cr_9, .int), (ck_16, .int), (cv_17, .int), (cr_18, .int), (cA_20, .long), (cA_22, .long), (cA_24, .boolean)]) [0, 1, 2, 3, 4, 5, 6, 7, 8] rfl
  exact W.vret hx hb hr (fun t ht hW => ⟨⟨(q_1, jt_3, jk_4, jv_5, jr_6, q_10, jt_12, jk_13, jv_14, jr_15, q_19, q_21, q_23, ck_7, cv_8, cr_9, ck_16, cv_17, cr_18, cA_20, cA_22, cA_24), rfl, trivial, by rw [ht]; exact hP9, va_K.moved hW.alike hK9, hD9⟩, hS.F ht⟩) hS.2.2 d_D_init_61
end
section
theorem m_159 : (Jvm.Cond.code ({ cls := "PortDrawer", name := "isSize", desc := "(I)Z" } : Jvm.MethodName) prog_1_method_23_code (1 : Nat) (Option.some Jvm.ClassFile.FieldType.boolean)) ∈ tblG := m_t (i := 159) rfl rfl
theorem m_157 : (Jvm.Cond.methodLink "PortDrawer" (37 : Nat) ({ cls := "PortDrawer", name := "isSize", desc := "(I)Z" } : Jvm.MethodName)) ∈ tblG := m_t (i := 157) rfl rfl
theorem m_158 : (Jvm.Cond.static ({ cls := "PortDrawer", name := "isSize", desc := "(I)Z" } : Jvm.MethodName)) ∈ tblG := m_t (i := 158) rfl rfl
theorem m_230 : (Jvm.Cond.code ({ cls := "PortDrawer$Harbour", name := "fill", desc := "(JI)V" } : Jvm.MethodName) prog_2_method_2_code (5 : Nat) (Option.none : Option Jvm.ClassFile.FieldType)) ∈ tblG := m_t (i := 230) rfl rfl
theorem ms_9 : Cond.selects "PortDrawer$Harbour" ⟨"PortDrawer$Harbour", "fill", "(JI)V"⟩ ⟨"PortDrawer$Harbour", "fill", "(JI)V"⟩ ∈ tblG := m_s (i := 9) rfl rfl
theorem m_229 : (Jvm.Cond.instanceMethod ({ cls := "PortDrawer$Harbour", name := "fill", desc := "(JI)V" } : Jvm.MethodName)) ∈ tblG := m_t (i := 229) rfl rfl
theorem m_259 : (Jvm.Cond.code ({ cls := "PortDrawer", name := "noteGoingWith", desc := "()V" } : Jvm.MethodName) prog_1_method_20_code (3 : Nat) (Option.none : Option Jvm.ClassFile.FieldType)) ∈ tblG := m_t (i := 259) rfl rfl
theorem ms_15 : Cond.selects "PortDrawer" ⟨"PortDrawer", "noteGoingWith", "()V"⟩ ⟨"PortDrawer", "noteGoingWith", "()V"⟩ ∈ tblG := m_s (i := 15) rfl rfl
theorem m_256 : (Jvm.Cond.methodLink "PortDrawer" (52 : Nat) ({ cls := "PortDrawer", name := "noteGoingWith", desc := "()V" } : Jvm.MethodName)) ∈ tblG := m_t (i := 256) rfl rfl
theorem m_258 : (Jvm.Cond.instanceMethod ({ cls := "PortDrawer", name := "noteGoingWith", desc := "()V" } : Jvm.MethodName)) ∈ tblG := m_t (i := 258) rfl rfl
theorem m_267 : (Jvm.Cond.code ({ cls := "PortDrawer", name := "notePartsOfBits", desc := "()V" } : Jvm.MethodName) prog_1_method_21_code (3 : Nat) (Option.none : Option Jvm.ClassFile.FieldType)) ∈ tblG := m_t (i := 267) rfl rfl
theorem ms_17 : Cond.selects "PortDrawer" ⟨"PortDrawer", "notePartsOfBits", "()V"⟩ ⟨"PortDrawer", "notePartsOfBits", "()V"⟩ ∈ tblG := m_s (i := 17) rfl rfl
theorem m_264 : (Jvm.Cond.methodLink "PortDrawer" (55 : Nat) ({ cls := "PortDrawer", name := "notePartsOfBits", desc := "()V" } : Jvm.MethodName)) ∈ tblG := m_t (i := 264) rfl rfl
theorem m_266 : (Jvm.Cond.instanceMethod ({ cls := "PortDrawer", name := "notePartsOfBits", desc := "()V" } : Jvm.MethodName)) ∈ tblG := m_t (i := 266) rfl rfl
theorem m_160 : (Jvm.Cond.classLink "PortDrawer" (41 : Nat) "java/lang/IllegalArgumentException") ∈ tblG := m_t (i := 160) rfl rfl
theorem m_8 : (Jvm.Cond.initialized "java/lang/IllegalArgumentException") ∈ tblG := m_t (i := 8) rfl rfl
theorem m_285 : (Jvm.Cond.classLink "PortDrawer" (69 : Nat) "java/lang/IndexOutOfBoundsException") ∈ tblG := m_t (i := 285) rfl rfl
theorem m_9 : (Jvm.Cond.initialized "java/lang/IndexOutOfBoundsException") ∈ tblG := m_t (i := 9) rfl rfl
theorem m_329 : (Jvm.Cond.code ({ cls := "PortDrawer$Harbour", name := "isLike", desc := "(LPortDrawer$Harbour;)Z" } : Jvm.MethodName) prog_2_method_10_code (3 : Nat) (Option.some Jvm.ClassFile.FieldType.boolean)) ∈ tblG := m_t (i := 329) rfl rfl
theorem ms_20 : Cond.selects "PortDrawer$Harbour" ⟨"PortDrawer$Harbour", "isLike", "(LPortDrawer$Harbour;)Z"⟩ ⟨"PortDrawer$Harbour", "isLike", "(LPortDrawer$Harbour;)Z"⟩ ∈ tblG := m_s (i := 20) rfl rfl
theorem m_328 : (Jvm.Cond.instanceMethod ({ cls := "PortDrawer$Harbour", name := "isLike", desc := "(LPortDrawer$Harbour;)Z" } : Jvm.MethodName)) ∈ tblG := m_t (i := 328) rfl rfl
theorem d_D_draw_0 : decode b_D_draw 0 = .ok (.iload_n 1, 1) := by decide +kernel
theorem d_D_draw_1 : decode b_D_draw 1 = .ok (.invokestatic 37, 3) := by decide +kernel
theorem d_D_draw_4 : decode b_D_draw 4 = .ok (.ifCond .ne 13, 3) := by decide +kernel
theorem d_D_draw_7 : decode b_D_draw 7 = .ok (.new 41, 3) := by decide +kernel
theorem d_D_draw_10 : decode b_D_draw 10 = .ok (.dup, 1) := by decide +kernel
theorem d_D_draw_11 : decode b_D_draw 11 = .ok (.ldc 43, 2) := by decide +kernel
theorem d_D_draw_13 : decode b_D_draw 13 = .ok (.invokespecial 45, 3) := by decide +kernel
theorem d_D_draw_16 : decode b_D_draw 16 = .ok (.athrow, 1) := by decide +kernel
theorem d_D_draw_17 : decode b_D_draw 17 = .ok (.aload_n 0, 1) := by decide +kernel
theorem d_D_draw_18 : decode b_D_draw 18 = .ok (.getfield 10, 3) := by decide +kernel
theorem d_D_draw_21 : decode b_D_draw 21 = .ok (.aload_n 0, 1) := by decide +kernel
theorem d_D_draw_22 : decode b_D_draw 22 = .ok (.getfield 34, 3) := by decide +kernel
theorem d_D_draw_25 : decode b_D_draw 25 = .ok (.iload_n 1, 1) := by decide +kernel
theorem d_D_draw_26 : decode b_D_draw 26 = .ok (.invokevirtual 48, 3) := by decide +kernel
theorem d_D_draw_29 : decode b_D_draw 29 = .ok (.aload_n 0, 1) := by decide +kernel
theorem d_D_draw_30 : decode b_D_draw 30 = .ok (.invokevirtual 52, 3) := by decide +kernel
theorem d_D_draw_33 : decode b_D_draw 33 = .ok (.aload_n 0, 1) := by decide +kernel
theorem d_D_draw_34 : decode b_D_draw 34 = .ok (.invokevirtual 55, 3) := by decide +kernel
theorem d_D_draw_37 : decode b_D_draw 37 = .ok (.aload_n 0, 1) := by decide +kernel
theorem d_D_draw_38 : decode b_D_draw 38 = .ok (.aload_n 0, 1) := by decide +kernel
theorem d_D_draw_39 : decode b_D_draw 39 = .ok (.invokevirtual 58, 3) := by decide +kernel
theorem d_D_draw_42 : decode b_D_draw 42 = .ok (.putfield 30, 3) := by decide +kernel
theorem d_D_draw_45 : decode b_D_draw 45 = .ok (.aload_n 0, 1) := by decide +kernel
theorem d_D_draw_46 : decode b_D_draw 46 = .ok (.getfield 10, 3) := by decide +kernel
theorem d_D_draw_49 : decode b_D_draw 49 = .ok (.getfield 62, 3) := by decide +kernel
theorem d_D_draw_52 : decode b_D_draw 52 = .ok (.ireturn, 1) := by decide +kernel
theorem d_D_part_0 : decode b_D_part 0 = .ok (.aload_n 0, 1) := by decide +kernel
theorem d_D_part_1 : decode b_D_part 1 = .ok (.getfield 10, 3) := by decide +kernel
theorem d_D_part_4 : decode b_D_part 4 = .ok (.iload_n 1, 1) := by decide +kernel
theorem d_D_part_5 : decode b_D_part 5 = .ok (.invokevirtual 66, 3) := by decide +kernel
theorem d_D_part_8 : decode b_D_part 8 = .ok (.ifCond .ne 13, 3) := by decide +kernel
theorem d_D_part_11 : decode b_D_part 11 = .ok (.new 69, 3) := by decide +kernel
theorem d_D_part_14 : decode b_D_part 14 = .ok (.dup, 1) := by decide +kernel
theorem d_D_part_15 : decode b_D_part 15 = .ok (.ldc 71, 2) := by decide +kernel
theorem d_D_part_17 : decode b_D_part 17 = .ok (.invokespecial 73, 3) := by decide +kernel
theorem d_D_part_20 : decode b_D_part 20 = .ok (.athrow, 1) := by decide +kernel
theorem d_D_part_21 : decode b_D_part 21 = .ok (.iload_n 2, 1) := by decide +kernel
theorem d_D_part_22 : decode b_D_part 22 = .ok (.tableswitch 99 0 4 #[34, 44, 62, 72, 82], 34) := by decide +kernel
theorem d_D_part_56 : decode b_D_part 56 = .ok (.aload_n 0, 1) := by decide +kernel
theorem d_D_part_57 : decode b_D_part 57 = .ok (.getfield 10, 3) := by decide +kernel
theorem d_D_part_60 : decode b_D_part 60 = .ok (.getfield 74, 3) := by decide +kernel
theorem d_D_part_63 : decode b_D_part 63 = .ok (.iload_n 1, 1) := by decide +kernel
theorem d_D_part_64 : decode b_D_part 64 = .ok (.iaload, 1) := by decide +kernel
theorem d_D_part_65 : decode b_D_part 65 = .ok (.ireturn, 1) := by decide +kernel
theorem d_D_part_66 : decode b_D_part 66 = .ok (.aload_n 0, 1) := by decide +kernel
theorem d_D_part_67 : decode b_D_part 67 = .ok (.getfield 10, 3) := by decide +kernel
theorem d_D_part_70 : decode b_D_part 70 = .ok (.aload_n 0, 1) := by decide +kernel
theorem d_D_part_71 : decode b_D_part 71 = .ok (.getfield 10, 3) := by decide +kernel
theorem d_D_part_74 : decode b_D_part 74 = .ok (.getfield 74, 3) := by decide +kernel
theorem d_D_part_77 : decode b_D_part 77 = .ok (.iload_n 1, 1) := by decide +kernel
theorem d_D_part_78 : decode b_D_part 78 = .ok (.iaload, 1) := by decide +kernel
theorem d_D_part_79 : decode b_D_part 79 = .ok (.iload_n 1, 1) := by decide +kernel
theorem d_D_part_80 : decode b_D_part 80 = .ok (.invokevirtual 78, 3) := by decide +kernel
theorem d_D_part_83 : decode b_D_part 83 = .ok (.ireturn, 1) := by decide +kernel
theorem d_D_part_84 : decode b_D_part 84 = .ok (.aload_n 0, 1) := by decide +kernel
theorem d_D_part_85 : decode b_D_part 85 = .ok (.getfield 10, 3) := by decide +kernel
theorem d_D_part_88 : decode b_D_part 88 = .ok (.getfield 82, 3) := by decide +kernel
theorem d_D_part_91 : decode b_D_part 91 = .ok (.iload_n 1, 1) := by decide +kernel
theorem d_D_part_92 : decode b_D_part 92 = .ok (.iaload, 1) := by decide +kernel
theorem d_D_part_93 : decode b_D_part 93 = .ok (.ireturn, 1) := by decide +kernel
theorem d_D_part_94 : decode b_D_part 94 = .ok (.aload_n 0, 1) := by decide +kernel
theorem d_D_part_95 : decode b_D_part 95 = .ok (.getfield 10, 3) := by decide +kernel
theorem d_D_part_98 : decode b_D_part 98 = .ok (.getfield 85, 3) := by decide +kernel
theorem d_D_part_101 : decode b_D_part 101 = .ok (.iload_n 1, 1) := by decide +kernel
theorem d_D_part_102 : decode b_D_part 102 = .ok (.iaload, 1) := by decide +kernel
theorem d_D_part_103 : decode b_D_part 103 = .ok (.ireturn, 1) := by decide +kernel
theorem d_D_part_104 : decode b_D_part 104 = .ok (.aload_n 0, 1) := by decide +kernel
theorem d_D_part_105 : decode b_D_part 105 = .ok (.getfield 30, 3) := by decide +kernel
theorem d_D_part_108 : decode b_D_part 108 = .ok (.iload_n 1, 1) := by decide +kernel
theorem d_D_part_109 : decode b_D_part 109 = .ok (.invokestatic 88, 3) := by decide +kernel
theorem d_D_part_112 : decode b_D_part 112 = .ok (.ifCond .eq 7, 3) := by decide +kernel
theorem d_D_part_115 : decode b_D_part 115 = .ok (.iconst 1, 1) := by decide +kernel
theorem d_D_part_116 : decode b_D_part 116 = .ok (.goto 4, 3) := by decide +kernel
theorem d_D_part_119 : decode b_D_part 119 = .ok (.iconst 0, 1) := by decide +kernel
theorem d_D_part_120 : decode b_D_part 120 = .ok (.ireturn, 1) := by decide +kernel
theorem d_D_part_121 : decode b_D_part 121 = .ok (.new 69, 3) := by decide +kernel
theorem d_D_part_124 : decode b_D_part 124 = .ok (.dup, 1) := by decide +kernel
theorem d_D_part_125 : decode b_D_part 125 = .ok (.ldc 92, 2) := by decide +kernel
theorem d_D_part_127 : decode b_D_part 127 = .ok (.invokespecial 73, 3) := by decide +kernel
theorem d_D_part_130 : decode b_D_part 130 = .ok (.athrow, 1) := by decide +kernel
theorem d_D_fits_0 : decode b_D_fits 0 = .ok (.aload_n 0, 1) := by decide +kernel
theorem d_D_fits_1 : decode b_D_fits 1 = .ok (.getfield 10, 3) := by decide +kernel
theorem d_D_fits_4 : decode b_D_fits 4 = .ok (.iload_n 1, 1) := by decide +kernel
theorem d_D_fits_5 : decode b_D_fits 5 = .ok (.invokevirtual 94, 3) := by decide +kernel
theorem d_D_fits_8 : decode b_D_fits 8 = .ok (.ifCond .ne 13, 3) := by decide +kernel
theorem d_D_fits_11 : decode b_D_fits 11 = .ok (.new 41, 3) := by decide +kernel
theorem d_D_fits_14 : decode b_D_fits 14 = .ok (.dup, 1) := by decide +kernel
theorem d_D_fits_15 : decode b_D_fits 15 = .ok (.ldc 97, 2) := by decide +kernel
theorem d_D_fits_17 : decode b_D_fits 17 = .ok (.invokespecial 45, 3) := by decide +kernel
theorem d_D_fits_20 : decode b_D_fits 20 = .ok (.athrow, 1) := by decide +kernel
theorem d_D_fits_21 : decode b_D_fits 21 = .ok (.aload_n 0, 1) := by decide +kernel
theorem d_D_fits_22 : decode b_D_fits 22 = .ok (.getfield 10, 3) := by decide +kernel
theorem d_D_fits_25 : decode b_D_fits 25 = .ok (.iload_n 1, 1) := by decide +kernel
theorem d_D_fits_26 : decode b_D_fits 26 = .ok (.invokevirtual 99, 3) := by decide +kernel
theorem d_D_fits_29 : decode b_D_fits 29 = .ok (.ireturn, 1) := by decide +kernel
theorem d_D_without_0 : decode b_D_without 0 = .ok (.aload_n 0, 1) := by decide +kernel
theorem d_D_without_1 : decode b_D_without 1 = .ok (.getfield 10, 3) := by decide +kernel
theorem d_D_without_4 : decode b_D_without 4 = .ok (.iload_n 1, 1) := by decide +kernel
theorem d_D_without_5 : decode b_D_without 5 = .ok (.invokevirtual 66, 3) := by decide +kernel
theorem d_D_without_8 : decode b_D_without 8 = .ok (.ifCond .eq 14, 3) := by decide +kernel
theorem d_D_without_11 : decode b_D_without 11 = .ok (.aload_n 0, 1) := by decide +kernel
theorem d_D_without_12 : decode b_D_without 12 = .ok (.getfield 30, 3) := by decide +kernel
theorem d_D_without_15 : decode b_D_without 15 = .ok (.iload_n 1, 1) := by decide +kernel
theorem d_D_without_16 : decode b_D_without 16 = .ok (.invokestatic 88, 3) := by decide +kernel
theorem d_D_without_19 : decode b_D_without 19 = .ok (.ifCond .ne 13, 3) := by decide +kernel
theorem d_D_without_22 : decode b_D_without 22 = .ok (.new 41, 3) := by decide +kernel
theorem d_D_without_25 : decode b_D_without 25 = .ok (.dup, 1) := by decide +kernel
theorem d_D_without_26 : decode b_D_without 26 = .ok (.ldc 123, 2) := by decide +kernel
theorem d_D_without_28 : decode b_D_without 28 = .ok (.invokespecial 45, 3) := by decide +kernel
theorem d_D_without_31 : decode b_D_without 31 = .ok (.athrow, 1) := by decide +kernel
theorem d_D_without_32 : decode b_D_without 32 = .ok (.aload_n 0, 1) := by decide +kernel
theorem d_D_without_33 : decode b_D_without 33 = .ok (.getfield 30, 3) := by decide +kernel
theorem d_D_without_36 : decode b_D_without 36 = .ok (.invokestatic 110, 3) := by decide +kernel
theorem d_D_without_39 : decode b_D_without 39 = .ok (.istore_n 2, 1) := by decide +kernel
theorem d_D_without_40 : decode b_D_without 40 = .ok (.aload_n 0, 1) := by decide +kernel
theorem d_D_without_41 : decode b_D_without 41 = .ok (.aload_n 0, 1) := by decide +kernel
theorem d_D_without_42 : decode b_D_without 42 = .ok (.iload_n 1, 1) := by decide +kernel
theorem d_D_without_43 : decode b_D_without 43 = .ok (.invokevirtual 119, 3) := by decide +kernel
theorem d_D_without_46 : decode b_D_without 46 = .ok (.putfield 30, 3) := by decide +kernel
theorem d_D_without_49 : decode b_D_without 49 = .ok (.iload_n 2, 1) := by decide +kernel
theorem d_D_without_50 : decode b_D_without 50 = .ok (.aload_n 0, 1) := by decide +kernel
theorem d_D_without_51 : decode b_D_without 51 = .ok (.getfield 30, 3) := by decide +kernel
theorem d_D_without_54 : decode b_D_without 54 = .ok (.invokestatic 110, 3) := by decide +kernel
theorem d_D_without_57 : decode b_D_without 57 = .ok (.isub, 1) := by decide +kernel
theorem d_D_without_58 : decode b_D_without 58 = .ok (.ireturn, 1) := by decide +kernel
theorem d_D_same_0 : decode b_D_same 0 = .ok (.iload_n 3, 1) := by decide +kernel
theorem d_D_same_1 : decode b_D_same 1 = .ok (.invokestatic 37, 3) := by decide +kernel
theorem d_D_same_4 : decode b_D_same 4 = .ok (.ifCond .ne 13, 3) := by decide +kernel
theorem d_D_same_7 : decode b_D_same 7 = .ok (.new 41, 3) := by decide +kernel
theorem d_D_same_10 : decode b_D_same 10 = .ok (.dup, 1) := by decide +kernel
theorem d_D_same_11 : decode b_D_same 11 = .ok (.ldc 43, 2) := by decide +kernel
theorem d_D_same_13 : decode b_D_same 13 = .ok (.invokespecial 45, 3) := by decide +kernel
theorem d_D_same_16 : decode b_D_same 16 = .ok (.athrow, 1) := by decide +kernel
theorem d_D_same_17 : decode b_D_same 17 = .ok (.aload_n 0, 1) := by decide +kernel
theorem d_D_same_18 : decode b_D_same 18 = .ok (.getfield 16, 3) := by decide +kernel
theorem d_D_same_21 : decode b_D_same 21 = .ok (.lload_n 1, 1) := by decide +kernel
theorem d_D_same_22 : decode b_D_same 22 = .ok (.iload_n 3, 1) := by decide +kernel
theorem d_D_same_23 : decode b_D_same 23 = .ok (.invokevirtual 48, 3) := by decide +kernel
theorem d_D_same_26 : decode b_D_same 26 = .ok (.aload_n 0, 1) := by decide +kernel
theorem d_D_same_27 : decode b_D_same 27 = .ok (.getfield 10, 3) := by decide +kernel
theorem d_D_same_30 : decode b_D_same 30 = .ok (.aload_n 0, 1) := by decide +kernel
theorem d_D_same_31 : decode b_D_same 31 = .ok (.getfield 16, 3) := by decide +kernel
theorem d_D_same_34 : decode b_D_same 34 = .ok (.invokevirtual 125, 3) := by decide +kernel
theorem d_D_same_37 : decode b_D_same 37 = .ok (.ireturn, 1) := by decide +kernel
set_option maxHeartbeats 4000000 in
set_option maxRecDepth 100000 in
/-- draw, of a size -/
theorem c_D_draw (l : Launch) (dC : Nat → ClassId) (dI : Nat → Nat → Nat) (jd jh jh2 jg jb jy : Nat) (sd w : Int64) (jt jk jv jr n : Nat) (ck cv cr cg cb : ClassId) (x : Int64) (K V R : Nat → Int32) (G B : Nat → Int64) (z : Nat) (hz : z ≤ 40) (sz : Nat) : Met l y_D_draw w_D_draw ({ frames := 5, cells := 0, slots := 0, locals := 113 }) (wr_P dC dI [.ref jd, .int (nI z)] [(jd, .inr (2, [.long sd, .ref jh, .ref jh2, .ref jg, .ref jb, .ref jy, .long w])), (jh, .inr (1, [.ref jt, .ref jk, .ref jv, .ref jr, .int (nI n)])), (jt, .inr (0, [.long x])), (jk, .inl (ck, 43, .inl K)), (jv, .inl (cv, 43, .inl V)), (jr, .inl (cr, 43, .inl R)), (jg, .inl (cg, 43, .inr (.inl G))), (jb, .inl (cb, 8, .inr (.inl B)))] [(ck, .int), (cv, .int), (cr, .int), (cg, .long), (cb, .long)] sz) (va_Qi (fun (r : Int32) (_ : Unit) => r = nI (z + 3)) (fun (u : Unit) => wr_B dC dI (va_A [(jd, .inr (2, [.long sd, .ref jh, .ref jh2, .ref jg, .ref jb, .ref jy, .long w])), (jh, .inr (1, [.ref jt, .ref jk, .ref jv, .ref jr, .int (nI n)])), (jt, .inr (0, [.long x])), (jk, .inl (ck, 43, .inl K)), (jv, .inl (cv, 43, .inl V)), (jr, .inl (cr, 43, .inl R)), (jg, .inl (cg, 43, .inr (.inl G))), (jb, .inl (cb, 8, .inr (.inl B)))] sz) [(jd, .inr (2, [.long sd, .ref jh, .ref jh2, .ref jg, .ref jb, .ref jy, .long (allW (z + 3))])), (jh, .inr (1, [.ref jt, .ref jk, .ref jv, .ref jr, .int (nI (z + 3))])), (jt, .inr (0, [.long ((flS sd K V R z).1)])), (jk, .inl (ck, 43, .inl ((flS sd K V R z).2.1))), (jv, .inl (cv, 43, .inl ((flS sd K V R z).2.2.1))), (jr, .inl (cr, 43, .inl ((flS sd K V R z).2.2.2))), (jg, .inl (cg, 43, .inr (.inl (gwG (z + 3) (flS sd K V R z).2.2.2 G)))), (jb, .inl (cb, 8, .inr (.inl (pbB (z + 3) (flS sd K V R z).2.1 (flS sd K V R z).2.2.1 (flS sd K V R z).2.2.2 B))))] [(ck, .int), (cv, .int), (cr, .int), (cg, .long), (cb, .long)]) (va_A [(jd, .inr (2, [.long sd, .ref jh, .ref jh2, .ref jg, .ref jb, .ref jy, .long w])), (jh, .inr (1, [.ref jt, .ref jk, .ref jv, .ref jr, .int (nI n)])), (jt, .inr (0, [.long x])), (jk, .inl (ck, 43, .inl K)), (jv, .inl (cv, 43, .inl V)), (jr, .inl (cr, 43, .inl R)), (jg, .inl (cg, 43, .inr (.inl G))), (jb, .inl (cb, 8, .inr (.inl B)))] sz)) 0 0 (va_A [(jd, .inr (2, [.long sd, .ref jh, .ref jh2, .ref jg, .ref jb, .ref jy, .long w])), (jh, .inr (1, [.ref jt, .ref jk, .ref jv, .ref jr, .int (nI n)])), (jt, .inr (0, [.long x])), (jk, .inl (ck, 43, .inl K)), (jv, .inl (cv, 43, .inl V)), (jr, .inl (cr, 43, .inl R)), (jg, .inl (cg, 43, .inr (.inl G))), (jb, .inl (cb, 8, .inr (.inl B)))] sz) := by
  refine Met.ofW (cc := b_D_draw) (maxL := 2) (ret := (Option.some Jvm.ClassFile.FieldType.int)) (by decide) rfl ?_
  intro p e s m args below meth c s₁ B0 hml hv0
  obtain ⟨rfl, hsz, hP, hK, hD0, hN⟩ := hv0
  have hx := B0.exec
  have hb := B0.bytes
  have hr := B0.returns
  have hts := atoms_spec (ws := w_D_draw) B0.pre
  have hown : s.vm.findClass R_D = some m.cls := findClass_of_methodNamed B0.named
  have hlocks := B0.notSynchronized
  subst hsz
  have hD := hD0.self (sz := s.heap.size)
  generalize hAe : va_A [(jd, .inr (2, [.long sd, .ref jh, .ref jh2, .ref jg, .ref jb, .ref jy, .long w])), (jh, .inr (1, [.ref jt, .ref jk, .ref jv, .ref jr, .int (nI n)])), (jt, .inr (0, [.long x])), (jk, .inl (ck, 43, .inl K)), (jv, .inl (cv, 43, .inl V)), (jr, .inl (cr, 43, .inl R)), (jg, .inl (cg, 43, .inr (.inl G))), (jb, .inl (cb, 8, .inr (.inl B)))] s.heap.size = A at hD ⊢
  have hA : ∀ q : Nat, s.heap.size ≤ q → A q := fun q h => by rw [← hAe]; exact Or.inr h
  have hS : va_S A s.heap s.heap [] := va_S.rf
  have hP : va_P (dC, dI) classes [(jd, .inr (2, [.long sd, .ref jh, .ref jh2, .ref jg, .ref jb, .ref jy, .long w])), (jh, .inr (1, [.ref jt, .ref jk, .ref jv, .ref jr, .int (nI n)])), (jt, .inr (0, [.long x])), (jk, .inl (ck, 43, .inl K)), (jv, .inl (cv, 43, .inl V)), (jr, .inl (cr, 43, .inl R)), (jg, .inl (cg, 43, .inr (.inl G))), (jb, .inl (cb, 8, .inr (.inl B)))] s.heap := hP
  have hl := lv_entry ([.ref jd, .int (nI z)]) (n := 2) (Nat.le_of_ble_eq_true rfl)
  rw [lg_entry_eq]
  generalize (lg_sl ([.ref jd, .int (nI z)]) ++ List.replicate (2 - (lg_sl ([.ref jd, .int (nI z)])).length) Slot.unset).toArray = ls at hl ⊢
  have hl : lv_has ls 2 [(0, .ref jd), (1, .int (nI z))] := hl
  refine lv_iload_n hx hb d_D_draw_0 rfl (lv_at hl 1 rfl) ?_
  have hPc := hP.sub (ws' := []) [] rfl
  have hKc := hK.sub (tys' := []) [] rfl
  refine vp_callSi (W.runS (As := [.int (nI z)]) (rest := []) ⟨hx, hb, hml, hown, hts⟩ (c_D_isSize l dC dI (nI z)) (va_cwS 1 hts (g_S big_w m_157 m_158 m_1 m_159) rfl rfl rfl (by decide +kernel) ⟨Nat.le_of_ble_eq_true rfl, Nat.le_of_ble_eq_true rfl⟩) (ro_S hPc hKc hN) rfl rfl hl.1 rfl (lv_room (Nat.le_of_ble_eq_true rfl)) d_D_draw_1 ⟨Nat.le_of_ble_eq_true rfl, Nat.le_of_ble_eq_true rfl⟩) (fun r_1 er_1 => ?_)
  subst er_1
  refine lv_if_ne (tgt := 17) hx hb d_D_draw_4 (by decide) (fun c_4 => ?_) (fun c_4 => ?_)
  · skip
    have c_4 := bI_t c_4
    refine lv_aload_n hx hb d_D_draw_17 rfl (lv_at hl 0 rfl) ?_
    refine va_get (D := (dC, dI)) (ci := 2) (v := .ref jh) (C := R_D) (T := F_D) (N := 7) hx hb hts (lay_D _) hown hK hP 0 rfl rfl 1 (by decide) (hts _ (List.mem_cons_of_mem _ m_57)) (fun _ h9 => h9) rfl d_D_draw_18 ?_
    refine lv_aload_n hx hb d_D_draw_21 rfl (lv_at hl 0 rfl) ?_
    refine va_get (D := (dC, dI)) (ci := 2) (v := .long sd) (C := R_D) (T := F_D) (N := 7) hx hb hts (lay_D _) hown hK hP 0 rfl rfl 0 (by decide) (hts _ (List.mem_cons_of_mem _ m_56)) (fun _ h9 => h9) rfl d_D_draw_22 ?_
    refine lv_iload_n hx hb d_D_draw_25 rfl (lv_at hl 1 rfl) ?_
    have hPc := hP.sub (ws' := [(jh, .inr (1, [.ref jt, .ref jk, .ref jv, .ref jr, .int (nI n)])), (jt, .inr (0, [.long x])), (jk, .inl (ck, 43, .inl K)), (jv, .inl (cv, 43, .inl V)), (jr, .inl (cr, 43, .inl R))]) [1, 2, 3, 4, 5] rfl
    have hKc := hK.sub (tys' := [(ck, .int), (cv, .int), (cr, .int)]) [0, 1, 2] rfl
    have hDc := hD.sub (ws' := [(jh, .inr (1, [.ref jt, .ref jk, .ref jv, .ref jr, .int (nI n)])), (jt, .inr (0, [.long x])), (jk, .inl (ck, 43, .inl K)), (jv, .inl (cv, 43, .inl V)), (jr, .inl (cr, 43, .inl R))]) [1, 2, 3, 4, 5] (by decide) rfl
    have hFc := va_free (wc := [(jh, .inr (1, [.ref jt, .ref jk, .ref jv, .ref jr, .int (nI n)])), (jt, .inr (0, [.long x])), (jk, .inl (ck, 43, .inl K)), (jv, .inl (cv, 43, .inl V)), (jr, .inl (cr, 43, .inl R))]) hD hS hA [1, 2, 3, 4, 5] rfl
    refine va_callv (va_runVN (As := [.long sd, .int (nI z)]) (rest := []) ⟨hx, hb, hml, hown, hts⟩ (c_H_fill l dC dI jh jt jk jv jr n ck cv cr x K V R sd z (by first | assumption | omega) _) ⟨va_cnB 2 hts (g_c big_w m_230) rfl rfl rfl (hN _ (by decide +kernel : (Jvm.Cond.methodLinkNest "PortDrawer" (48 : Nat) ({ cls := "PortDrawer$Harbour", name := "fill", desc := "(JI)V" } : Jvm.MethodName) "PortDrawer") ∈ NWl)) (hts _ (List.mem_cons_of_mem _ m_2)) (by decide +kernel) ⟨Nat.le_of_ble_eq_true rfl, Nat.le_of_ble_eq_true rfl⟩, (hts _ (List.mem_cons_of_mem _ m_229)), (hts _ (List.mem_cons_of_mem _ ms_9))⟩ (wr_V hPc hKc hDc hN (va_recv hKc hPc (ci := 1) (q0 := 0) rfl rfl)) rfl rfl hl.1 rfl (lv_room (Nat.le_of_ble_eq_true rfl)) d_D_draw_26 ⟨Nat.le_of_ble_eq_true rfl, Nat.le_of_ble_eq_true rfl⟩) hS (fun q _ h => hFc q h) hFc (fun u t H1 locs ht hvm hw hB hz1 hk1 hS => ?_)
    obtain ⟨hP1, hK1, hD1⟩ := hB
    rw [ht] at hP1
    obtain ⟨hP, hD⟩ := va_join (wr := [(jd, .inr (2, [.long sd, .ref jh, .ref jh2, .ref jg, .ref jb, .ref jy, .long w])), (jg, .inl (cg, 43, .inr (.inl G))), (jb, .inl (cb, 8, .inr (.inl B)))]) (w1 := [(jh, .inr (1, [.ref jt, .ref jk, .ref jv, .ref jr, .int (nI (z + 3))])), (jt, .inr (0, [.long ((flS sd K V R z).1)])), (jk, .inl (ck, 43, .inl ((flS sd K V R z).2.1))), (jv, .inl (cv, 43, .inl ((flS sd K V R z).2.2.1))), (jr, .inl (cr, 43, .inl ((flS sd K V R z).2.2.2)))]) hP hD [1, 2, 3, 4, 5] [0, 6, 7] rfl rfl (by decide) (by decide) hk1 hFc hP1 hD1
    generalize H1 = H at hP hS ⊢
    have hP : va_P (dC, dI) classes [(jd, .inr (2, [.long sd, .ref jh, .ref jh2, .ref jg, .ref jb, .ref jy, .long w])), (jg, .inl (cg, 43, .inr (.inl G))), (jb, .inl (cb, 8, .inr (.inl B))), (jh, .inr (1, [.ref jt, .ref jk, .ref jv, .ref jr, .int (nI (z + 3))])), (jt, .inr (0, [.long ((flS sd K V R z).1)])), (jk, .inl (ck, 43, .inl ((flS sd K V R z).2.1))), (jv, .inl (cv, 43, .inl ((flS sd K V R z).2.2.1))), (jr, .inl (cr, 43, .inl ((flS sd K V R z).2.2.2)))] H := hP
    have hD : va_D A [(jd, .inr (2, [.long sd, .ref jh, .ref jh2, .ref jg, .ref jb, .ref jy, .long w])), (jg, .inl (cg, 43, .inr (.inl G))), (jb, .inl (cb, 8, .inr (.inl B))), (jh, .inr (1, [.ref jt, .ref jk, .ref jv, .ref jr, .int (nI (z + 3))])), (jt, .inr (0, [.long ((flS sd K V R z).1)])), (jk, .inl (ck, 43, .inl ((flS sd K V R z).2.1))), (jv, .inl (cv, 43, .inl ((flS sd K V R z).2.2.1))), (jr, .inl (cr, 43, .inl ((flS sd K V R z).2.2.2)))] := hD
    refine lv_aload_n hx hb d_D_draw_29 rfl (lv_at hl 0 rfl) ?_
    have hPc := hP.sub (ws' := [(jd, .inr (2, [.long sd, .ref jh, .ref jh2, .ref jg, .ref jb, .ref jy, .long w])), (jh, .inr (1, [.ref jt, .ref jk, .ref jv, .ref jr, .int (nI (z + 3))])), (jr, .inl (cr, 43, .inl ((flS sd K V R z).2.2.2))), (jg, .inl (cg, 43, .inr (.inl G)))]) [0, 3, 7, 1] rfl
    have hKc := hK.sub (tys' := [(cr, .int), (cg, .long)]) [2, 3] rfl
    have hDc := hD.sub (ws' := [(jd, .inr (2, [.long sd, .ref jh, .ref jh2, .ref jg, .ref jb, .ref jy, .long w])), (jh, .inr (1, [.ref jt, .ref jk, .ref jv, .ref jr, .int (nI (z + 3))])), (jr, .inl (cr, 43, .inl ((flS sd K V R z).2.2.2))), (jg, .inl (cg, 43, .inr (.inl G)))]) [0, 3, 7, 1] (by decide) rfl
    have hFc := va_free (wc := [(jd, .inr (2, [.long sd, .ref jh, .ref jh2, .ref jg, .ref jb, .ref jy, .long w])), (jh, .inr (1, [.ref jt, .ref jk, .ref jv, .ref jr, .int (nI (z + 3))])), (jr, .inl (cr, 43, .inl ((flS sd K V R z).2.2.2))), (jg, .inl (cg, 43, .inr (.inl G)))]) hD hS hA [0, 3, 7, 1] rfl
    refine va_callv (va_runV (As := []) (rest := []) ⟨hx, hb, hml, hown, hts⟩ (c_D_noteGoingWith l dC dI jd jh jh2 jg jb jy sd w jt jk jv jr (z + 3) cr cg ((flS sd K V R z).2.2.2) G (by first | assumption | omega) _) (cwV 0 hts (g_V big_w m_256 m_258 ms_15 m_1 m_259) rfl rfl rfl (by decide +kernel) ⟨Nat.le_of_ble_eq_true rfl, Nat.le_of_ble_eq_true rfl⟩) (wr_V hPc hKc hDc hN (va_recv hKc hPc (ci := 2) (q0 := 0) rfl rfl)) rfl rfl hl.1 rfl (lv_room (Nat.le_of_ble_eq_true rfl)) d_D_draw_30 ⟨Nat.le_of_ble_eq_true rfl, Nat.le_of_ble_eq_true rfl⟩) hS (fun q _ h => hFc q h) hFc (fun u t H1 locs ht hvm hw hB hz1 hk1 hS => ?_)
    obtain ⟨hP1, hK1, hD1⟩ := hB
    rw [ht] at hP1
    obtain ⟨hP, hD⟩ := va_join (wr := [(jb, .inl (cb, 8, .inr (.inl B))), (jt, .inr (0, [.long ((flS sd K V R z).1)])), (jk, .inl (ck, 43, .inl ((flS sd K V R z).2.1))), (jv, .inl (cv, 43, .inl ((flS sd K V R z).2.2.1)))]) (w1 := [(jd, .inr (2, [.long sd, .ref jh, .ref jh2, .ref jg, .ref jb, .ref jy, .long w])), (jh, .inr (1, [.ref jt, .ref jk, .ref jv, .ref jr, .int (nI (z + 3))])), (jr, .inl (cr, 43, .inl ((flS sd K V R z).2.2.2))), (jg, .inl (cg, 43, .inr (.inl (gwG (z + 3) ((flS sd K V R z).2.2.2) G))))]) hP hD [0, 3, 7, 1] [2, 4, 5, 6] rfl rfl (by decide) (by decide) hk1 hFc hP1 hD1
    generalize H1 = H at hP hS ⊢
    have hP : va_P (dC, dI) classes [(jb, .inl (cb, 8, .inr (.inl B))), (jt, .inr (0, [.long ((flS sd K V R z).1)])), (jk, .inl (ck, 43, .inl ((flS sd K V R z).2.1))), (jv, .inl (cv, 43, .inl ((flS sd K V R z).2.2.1))), (jd, .inr (2, [.long sd, .ref jh, .ref jh2, .ref jg, .ref jb, .ref jy, .long w])), (jh, .inr (1, [.ref jt, .ref jk, .ref jv, .ref jr, .int (nI (z + 3))])), (jr, .inl (cr, 43, .inl ((flS sd K V R z).2.2.2))), (jg, .inl (cg, 43, .inr (.inl (gwG (z + 3) ((flS sd K V R z).2.2.2) G))))] H := hP
    have hD : va_D A [(jb, .inl (cb, 8, .inr (.inl B))), (jt, .inr (0, [.long ((flS sd K V R z).1)])), (jk, .inl (ck, 43, .inl ((flS sd K V R z).2.1))), (jv, .inl (cv, 43, .inl ((flS sd K V R z).2.2.1))), (jd, .inr (2, [.long sd, .ref jh, .ref jh2, .ref jg, .ref jb, .ref jy, .long w])), (jh, .inr (1, [.ref jt, .ref jk, .ref jv, .ref jr, .int (nI (z + 3))])), (jr, .inl (cr, 43, .inl ((flS sd K V R z).2.2.2))), (jg, .inl (cg, 43, .inr (.inl (gwG (z + 3) ((flS sd K V R z).2.2.2) G))))] := hD
    refine lv_aload_n hx hb d_D_draw_33 rfl (lv_at hl 0 rfl) ?_
    have hPc := hP.sub (ws' := [(jd, .inr (2, [.long sd, .ref jh, .ref jh2, .ref jg, .ref jb, .ref jy, .long w])), (jh, .inr (1, [.ref jt, .ref jk, .ref jv, .ref jr, .int (nI (z + 3))])), (jk, .inl (ck, 43, .inl ((flS sd K V R z).2.1))), (jv, .inl (cv, 43, .inl ((flS sd K V R z).2.2.1))), (jr, .inl (cr, 43, .inl ((flS sd K V R z).2.2.2))), (jb, .inl (cb, 8, .inr (.inl B)))]) [4, 5, 2, 3, 6, 0] rfl
    have hKc := hK.sub (tys' := [(ck, .int), (cv, .int), (cr, .int), (cb, .long)]) [0, 1, 2, 4] rfl
    have hDc := hD.sub (ws' := [(jd, .inr (2, [.long sd, .ref jh, .ref jh2, .ref jg, .ref jb, .ref jy, .long w])), (jh, .inr (1, [.ref jt, .ref jk, .ref jv, .ref jr, .int (nI (z + 3))])), (jk, .inl (ck, 43, .inl ((flS sd K V R z).2.1))), (jv, .inl (cv, 43, .inl ((flS sd K V R z).2.2.1))), (jr, .inl (cr, 43, .inl ((flS sd K V R z).2.2.2))), (jb, .inl (cb, 8, .inr (.inl B)))]) [4, 5, 2, 3, 6, 0] (by decide) rfl
    have hFc := va_free (wc := [(jd, .inr (2, [.long sd, .ref jh, .ref jh2, .ref jg, .ref jb, .ref jy, .long w])), (jh, .inr (1, [.ref jt, .ref jk, .ref jv, .ref jr, .int (nI (z + 3))])), (jk, .inl (ck, 43, .inl ((flS sd K V R z).2.1))), (jv, .inl (cv, 43, .inl ((flS sd K V R z).2.2.1))), (jr, .inl (cr, 43, .inl ((flS sd K V R z).2.2.2))), (jb, .inl (cb, 8, .inr (.inl B)))]) hD hS hA [4, 5, 2, 3, 6, 0] rfl
    refine va_callv (va_runV (As := []) (rest := []) ⟨hx, hb, hml, hown, hts⟩ (c_D_notePartsOfBits l dC dI jd jh jh2 jg jb jy sd w jt jk jv jr (z + 3) ck cv cr cb ((flS sd K V R z).2.1) ((flS sd K V R z).2.2.1) ((flS sd K V R z).2.2.2) B (by first | assumption | omega) _) (cwV 0 hts (g_V big_w m_264 m_266 ms_17 m_1 m_267) rfl rfl rfl (by decide +kernel) ⟨Nat.le_of_ble_eq_true rfl, Nat.le_of_ble_eq_true rfl⟩) (wr_V hPc hKc hDc hN (va_recv hKc hPc (ci := 2) (q0 := 0) rfl rfl)) rfl rfl hl.1 rfl (lv_room (Nat.le_of_ble_eq_true rfl)) d_D_draw_34 ⟨Nat.le_of_ble_eq_true rfl, Nat.le_of_ble_eq_true rfl⟩) hS (fun q _ h => hFc q h) hFc (fun u t H1 locs ht hvm hw hB hz1 hk1 hS => ?_)
    obtain ⟨hP1, hK1, hD1⟩ := hB
    rw [ht] at hP1
    obtain ⟨hP, hD⟩ := va_join (wr := [(jt, .inr (0, [.long ((flS sd K V R z).1)])), (jg, .inl (cg, 43, .inr (.inl (gwG (z + 3) ((flS sd K V R z).2.2.2) G))))]) (w1 := [(jd, .inr (2, [.long sd, .ref jh, .ref jh2, .ref jg, .ref jb, .ref jy, .long w])), (jh, .inr (1, [.ref jt, .ref jk, .ref jv, .ref jr, .int (nI (z + 3))])), (jk, .inl (ck, 43, .inl ((flS sd K V R z).2.1))), (jv, .inl (cv, 43, .inl ((flS sd K V R z).2.2.1))), (jr, .inl (cr, 43, .inl ((flS sd K V R z).2.2.2))), (jb, .inl (cb, 8, .inr (.inl (pbB (z + 3) ((flS sd K V R z).2.1) ((flS sd K V R z).2.2.1) ((flS sd K V R z).2.2.2) B))))]) hP hD [4, 5, 2, 3, 6, 0] [1, 7] rfl rfl (by decide) (by decide) hk1 hFc hP1 hD1
    generalize H1 = H at hP hS ⊢
    have hP : va_P (dC, dI) classes [(jt, .inr (0, [.long ((flS sd K V R z).1)])), (jg, .inl (cg, 43, .inr (.inl (gwG (z + 3) ((flS sd K V R z).2.2.2) G)))), (jd, .inr (2, [.long sd, .ref jh, .ref jh2, .ref jg, .ref jb, .ref jy, .long w])), (jh, .inr (1, [.ref jt, .ref jk, .ref jv, .ref jr, .int (nI (z + 3))])), (jk, .inl (ck, 43, .inl ((flS sd K V R z).2.1))), (jv, .inl (cv, 43, .inl ((flS sd K V R z).2.2.1))), (jr, .inl (cr, 43, .inl ((flS sd K V R z).2.2.2))), (jb, .inl (cb, 8, .inr (.inl (pbB (z + 3) ((flS sd K V R z).2.1) ((flS sd K V R z).2.2.1) ((flS sd K V R z).2.2.2) B))))] H := hP
    have hD : va_D A [(jt, .inr (0, [.long ((flS sd K V R z).1)])), (jg, .inl (cg, 43, .inr (.inl (gwG (z + 3) ((flS sd K V R z).2.2.2) G)))), (jd, .inr (2, [.long sd, .ref jh, .ref jh2, .ref jg, .ref jb, .ref jy, .long w])), (jh, .inr (1, [.ref jt, .ref jk, .ref jv, .ref jr, .int (nI (z + 3))])), (jk, .inl (ck, 43, .inl ((flS sd K V R z).2.1))), (jv, .inl (cv, 43, .inl ((flS sd K V R z).2.2.1))), (jr, .inl (cr, 43, .inl ((flS sd K V R z).2.2.2))), (jb, .inl (cb, 8, .inr (.inl (pbB (z + 3) ((flS sd K V R z).2.1) ((flS sd K V R z).2.2.1) ((flS sd K V R z).2.2.2) B))))] := hD
    refine lv_aload_n hx hb d_D_draw_37 rfl (lv_at hl 0 rfl) ?_
    refine lv_aload_n hx hb d_D_draw_38 rfl (lv_at hl 0 rfl) ?_
    have hPc := hP.sub (ws' := [(jd, .inr (2, [.long sd, .ref jh, .ref jh2, .ref jg, .ref jb, .ref jy, .long w])), (jh, .inr (1, [.ref jt, .ref jk, .ref jv, .ref jr, .int (nI (z + 3))]))]) [2, 3] rfl
    have hKc := hK.sub (tys' := []) [] rfl
    refine vp_callSl (W.runV (As := []) (rest := [.ref jd]) ⟨hx, hb, hml, hown, hts⟩ (c_D_allParts l dC dI jd jh jh2 jg jb jy sd w jt jk jv jr (z + 3)) (cwV 0 hts (g_V big_w m_100 m_102 ms_2 m_1 m_103) rfl rfl rfl (by decide +kernel) ⟨Nat.le_of_ble_eq_true rfl, Nat.le_of_ble_eq_true rfl⟩) (ro_V hPc hKc hN (va_recv hKc hPc (ci := 2) (q0 := 0) rfl rfl)) rfl rfl hl.1 rfl (lv_room (Nat.le_of_ble_eq_true rfl)) d_D_draw_39 ⟨Nat.le_of_ble_eq_true rfl, Nat.le_of_ble_eq_true rfl⟩) (fun r_5 er_5 => ?_)
    subst er_5
    refine va_put (D := (dC, dI)) (ci := 2) (v := .long (allW (z + 3))) (ty := .long) (C := R_D) (T := F_D) (N := 7) hx hb hts (lay_D _) ft_D tok_D nok_D hown hK hP hD hS 2 rfl rfl 6 (by decide) (hts _ (List.mem_cons_of_mem _ m_62)) (fun _ h9 => h9) rfl (by decide +kernel) rfl rfl (Nat.le_of_ble_eq_true rfl) d_D_draw_42 (fun H locs hP hD hS => ?_)
    have hP : va_P (dC, dI) classes [(jt, .inr (0, [.long ((flS sd K V R z).1)])), (jg, .inl (cg, 43, .inr (.inl (gwG (z + 3) ((flS sd K V R z).2.2.2) G)))), (jd, .inr (2, [.long sd, .ref jh, .ref jh2, .ref jg, .ref jb, .ref jy, .long (allW (z + 3))])), (jh, .inr (1, [.ref jt, .ref jk, .ref jv, .ref jr, .int (nI (z + 3))])), (jk, .inl (ck, 43, .inl ((flS sd K V R z).2.1))), (jv, .inl (cv, 43, .inl ((flS sd K V R z).2.2.1))), (jr, .inl (cr, 43, .inl ((flS sd K V R z).2.2.2))), (jb, .inl (cb, 8, .inr (.inl (pbB (z + 3) ((flS sd K V R z).2.1) ((flS sd K V R z).2.2.1) ((flS sd K V R z).2.2.2) B))))] H := hP
    have hD : va_D A [(jt, .inr (0, [.long ((flS sd K V R z).1)])), (jg, .inl (cg, 43, .inr (.inl (gwG (z + 3) ((flS sd K V R z).2.2.2) G)))), (jd, .inr (2, [.long sd, .ref jh, .ref jh2, .ref jg, .ref jb, .ref jy, .long (allW (z + 3))])), (jh, .inr (1, [.ref jt, .ref jk, .ref jv, .ref jr, .int (nI (z + 3))])), (jk, .inl (ck, 43, .inl ((flS sd K V R z).2.1))), (jv, .inl (cv, 43, .inl ((flS sd K V R z).2.2.1))), (jr, .inl (cr, 43, .inl ((flS sd K V R z).2.2.2))), (jb, .inl (cb, 8, .inr (.inl (pbB (z + 3) ((flS sd K V R z).2.1) ((flS sd K V R z).2.2.1) ((flS sd K V R z).2.2.2) B))))] := hD
    refine lv_aload_n hx hb d_D_draw_45 rfl (lv_at hl 0 rfl) ?_
    refine va_get (D := (dC, dI)) (ci := 2) (v := .ref jh) (C := R_D) (T := F_D) (N := 7) hx hb hts (lay_D _) hown hK hP 2 rfl rfl 1 (by decide) (hts _ (List.mem_cons_of_mem _ m_57)) (fun _ h9 => h9) rfl d_D_draw_46 ?_
    refine va_getN (D := (dC, dI)) (ci := 1) (v := .int (nI (z + 3))) (C := R_H) (T := F_H) (N := 5) hx hb hts (lay_H _) hown hK hP 3 rfl rfl 4 (by decide) (hN.use (by decide +kernel : (Jvm.Cond.fieldLinkNest "PortDrawer" (62 : Nat) "PortDrawer$Harbour" "parts" "I" "PortDrawer") ∈ NWl)) (fun _ h9 => h9) rfl d_D_draw_49 ?_
    have hP9 := hP.sub (ws' := [(jd, .inr (2, [.long sd, .ref jh, .ref jh2, .ref jg, .ref jb, .ref jy, .long (allW (z + 3))])), (jh, .inr (1, [.ref jt, .ref jk, .ref jv, .ref jr, .int (nI (z + 3))])), (jt, .inr (0, [.long ((flS sd K V R z).1)])), (jk, .inl (ck, 43, .inl ((flS sd K V R z).2.1))), (jv, .inl (cv, 43, .inl ((flS sd K V R z).2.2.1))), (jr, .inl (cr, 43, .inl ((flS sd K V R z).2.2.2))), (jg, .inl (cg, 43, .inr (.inl (gwG (z + 3) (flS sd K V R z).2.2.2 G)))), (jb, .inl (cb, 8, .inr (.inl (pbB (z + 3) (flS sd K V R z).2.1 (flS sd K V R z).2.2.1 (flS sd K V R z).2.2.2 B))))]) [2, 3, 0, 4, 5, 6, 1, 7] rfl
    have hD9 := hD.sub (ws' := [(jd, .inr (2, [.long sd, .ref jh, .ref jh2, .ref jg, .ref jb, .ref jy, .long (allW (z + 3))])), (jh, .inr (1, [.ref jt, .ref jk, .ref jv, .ref jr, .int (nI (z + 3))])), (jt, .inr (0, [.long ((flS sd K V R z).1)])), (jk, .inl (ck, 43, .inl ((flS sd K V R z).2.1))), (jv, .inl (cv, 43, .inl ((flS sd K V R z).2.2.1))), (jr, .inl (cr, 43, .inl ((flS sd K V R z).2.2.2))), (jg, .inl (cg, 43, .inr (.inl (gwG (z + 3) (flS sd K V R z).2.2.2 G)))), (jb, .inl (cb, 8, .inr (.inl (pbB (z + 3) (flS sd K V R z).2.1 (flS sd K V R z).2.2.1 (flS sd K V R z).2.2.2 B))))]) [2, 3, 0, 4, 5, 6, 1, 7] (by decide) rfl
    have hK9 := hK.sub (tys' := [(ck, .int), (cv, .int), (cr, .int), (cg, .long), (cb, .long)]) [0, 1, 2, 3, 4] rfl
    exact W.iret (v := nI (z + 3)) hx hb hr (fun t ht hW => ⟨⟨nI (z + 3), (), rfl, rfl, by rw [ht]; exact hP9, va_K.moved hW.alike hK9, hD9⟩, hS.F ht⟩) hS.2.2 d_D_draw_52
  · skip
    have c_4 := bI_f c_4
    exact absurd c_4 (by rw [szB_nI hz]; decide)
set_option maxHeartbeats 4000000 in
set_option maxRecDepth 100000 in
/-- draw, of no size -/
theorem c_D_drawx (l : Launch) (hl9 : l.stackTraces = false) (dC : Nat → ClassId) (dI : Nat → Nat → Nat) (jd jh jh2 jg jb jy : Nat) (sd w : Int64) (p0 : Int32) (hex : szB p0 = false) (sa : Nat → Nat) (sz : Nat) : vx_Met l y_D_draw w_D_draw ({ frames := 6, cells := 1, slots := 6, locals := 113 }) (wx_P dC dI [.ref jd, .int p0] [(jd, .inr (2, [.long sd, .ref jh, .ref jh2, .ref jg, .ref jb, .ref jy, .long w]))] [] sa sz) (va_Qi (fun (r : Int32) (_ : Unit) => False) (fun (u : Unit) => wr_B dC dI (va_A [(jd, .inr (2, [.long sd, .ref jh, .ref jh2, .ref jg, .ref jb, .ref jy, .long w]))] sz) [(jd, .inr (2, [.long sd, .ref jh, .ref jh2, .ref jg, .ref jb, .ref jy, .long w]))] []) (va_A [(jd, .inr (2, [.long sd, .ref jh, .ref jh2, .ref jg, .ref jb, .ref jy, .long w]))] sz)) (wx_X dC dI "java/lang/IllegalArgumentException" (va_A [(jd, .inr (2, [.long sd, .ref jh, .ref jh2, .ref jg, .ref jb, .ref jy, .long w]))] sz) [(jd, .inr (2, [.long sd, .ref jh, .ref jh2, .ref jg, .ref jb, .ref jy, .long w]))] []) 1 6 (va_A [(jd, .inr (2, [.long sd, .ref jh, .ref jh2, .ref jg, .ref jb, .ref jy, .long w]))] sz) := by
  refine vx_ofW (cc := b_D_draw) (maxL := 2) (ret := (Option.some Jvm.ClassFile.FieldType.int)) (by decide) rfl ?_
  intro p e s m args below meth c s₁ B0 hml hEx hv0
  obtain ⟨rfl, hsz, hP, hK, hD0, hN, hT, hZ⟩ := hv0
  have hx := B0.exec
  have hb := B0.bytes
  have hr := B0.returns
  have hts := atoms_spec (ws := w_D_draw) B0.pre
  have hown : s.vm.findClass R_D = some m.cls := findClass_of_methodNamed B0.named
  have hlocks := B0.notSynchronized
  subst hsz
  have hD := hD0.self (sz := s.heap.size)
  generalize hAe : va_A [(jd, .inr (2, [.long sd, .ref jh, .ref jh2, .ref jg, .ref jb, .ref jy, .long w]))] s.heap.size = A at hD hZ ⊢
  have hA : ∀ q : Nat, s.heap.size ≤ q → A q := fun q h => by rw [← hAe]; exact Or.inr h
  have hS : va_S A s.heap s.heap [] := va_S.rf
  have hP : va_P (dC, dI) classes [(jd, .inr (2, [.long sd, .ref jh, .ref jh2, .ref jg, .ref jb, .ref jy, .long w]))] s.heap := hP
  have hl := lv_entry ([.ref jd, .int p0]) (n := 2) (Nat.le_of_ble_eq_true rfl)
  rw [lg_entry_eq]
  generalize (lg_sl ([.ref jd, .int p0]) ++ List.replicate (2 - (lg_sl ([.ref jd, .int p0])).length) Slot.unset).toArray = ls at hl ⊢
  have hl : lv_has ls 2 [(0, .ref jd), (1, .int p0)] := hl
  refine lv_iload_n hx hb d_D_draw_0 rfl (lv_at hl 1 rfl) ?_
  have hPc := hP.sub (ws' := []) [] rfl
  have hKc := hK.sub (tys' := []) [] rfl
  refine vp_callSi (W.runS (As := [.int p0]) (rest := []) ⟨hx, hb, hml, hown, hts⟩ (c_D_isSize l dC dI p0) (va_cwS 1 hts (g_S big_w m_157 m_158 m_1 m_159) rfl rfl rfl (by decide +kernel) ⟨Nat.le_of_ble_eq_true rfl, Nat.le_of_ble_eq_true rfl⟩) (ro_S hPc hKc hN) rfl rfl hl.1 rfl (lv_room (Nat.le_of_ble_eq_true rfl)) d_D_draw_1 ⟨Nat.le_of_ble_eq_true rfl, Nat.le_of_ble_eq_true rfl⟩) (fun r_1 er_1 => ?_)
  subst er_1
  refine lv_if_ne (tgt := 17) hx hb d_D_draw_4 (by decide) (fun c_4 => ?_) (fun c_4 => ?_)
  · skip
    have c_4 := bI_t c_4
    exact absurd c_4 (by rw [hex]; decide)
  · skip
    have c_4 := bI_f c_4
    have hP9 := hP.sub (ws' := [(jd, .inr (2, [.long sd, .ref jh, .ref jh2, .ref jg, .ref jb, .ref jy, .long w]))]) [0] rfl
    have hD9 := hD.sub (ws' := [(jd, .inr (2, [.long sd, .ref jh, .ref jh2, .ref jg, .ref jb, .ref jy, .long w]))]) [0] (by decide) rfl
    have hK9 := hK.sub (tys' := []) [] rfl
    exact vx_throwS (own := R_D) (cls := "java/lang/IllegalArgumentException") (names := ["java/lang/RuntimeException", "java/lang/Exception"]) hx hb hl9 hown (by decide +kernel) (by decide +kernel) (hts _ (List.mem_cons_of_mem _ m_160)) (hts _ (List.mem_cons_of_mem _ m_8)) (hT (43, "the size is not 0 .. 40") (by decide +kernel)) (hat_ok hts hN (L := vx_atS R_D 45 "java/lang/IllegalArgumentException" ["java/lang/RuntimeException", "java/lang/Exception"]) (by decide +kernel) (by decide +kernel)) (by decide +kernel) hZ.1 hZ.2 hS (hl.1.trans hml.symm) d_D_draw_7 d_D_draw_10 d_D_draw_11 d_D_draw_13 d_D_draw_16 (fun x h => (hEx x h).elim) (Nat.le_of_ble_eq_true rfl) (Nat.le_of_ble_eq_true rfl) (Nat.le_of_ble_eq_true rfl) (Nat.le_of_ble_eq_true rfl) hlocks (fun t ha hsz hk => ⟨(), trivial, ⟨rfl, hP9.kept (fun k q hq => hk q.1 (hP9 k q hq).lt), va_K.moved ha hK9, hD9⟩, Nat.le_trans hS.1 hsz, fun q h1 h2 => (hk q (Nat.lt_of_lt_of_le h1 hS.1)).trans (hS.2.1 q h1 h2)⟩) hS.2.2 (Nat.le_of_ble_eq_true rfl) (Nat.le_of_ble_eq_true rfl)
set_option maxHeartbeats 4000000 in
set_option maxRecDepth 100000 in
/-- part, where there is one -/
theorem c_D_part (l : Launch) (dC : Nat → ClassId) (dI : Nat → Nat → Nat) (jd jh jh2 jg jb jy : Nat) (sd w : Int64) (jt jk jv jr n : Nat) (ck cv cr : ClassId) (K V R : Nat → Int32) (i : Nat) (p1 : Int32) (hn : n ≤ 43) (hi : i < n) (h4 : ¬ (p1.toInt < 0 ∨ 4 < p1.toInt)) : Met l y_D_part w_D_part ({ frames := 1, cells := 0, slots := 0, locals := 24 }) (ro_P dC dI [.ref jd, .int (nI i), .int p1] [(jd, .inr (2, [.long sd, .ref jh, .ref jh2, .ref jg, .ref jb, .ref jy, .long w])), (jh, .inr (1, [.ref jt, .ref jk, .ref jv, .ref jr, .int (nI n)])), (jk, .inl (ck, 43, .inl K)), (jv, .inl (cv, 43, .inl V)), (jr, .inl (cr, 43, .inl R))] [(ck, .int), (cv, .int), (cr, .int)]) (vp_Si (fun r => r = ptI K V R w i p1)) 0 0 (fun _ => False) := by
  refine Met.ofW (cc := b_D_part) (maxL := 3) (ret := (Option.some Jvm.ClassFile.FieldType.int)) (by decide) rfl ?_
  intro p e s m args below meth c s₁ B0 hml hv0
  obtain ⟨rfl, hP, hK, hN⟩ := hv0
  have hx := B0.exec
  have hb := B0.bytes
  have hr := B0.returns
  have hts := atoms_spec (ws := w_D_part) B0.pre
  have hown : s.vm.findClass R_D = some m.cls := findClass_of_methodNamed B0.named
  have hlocks := B0.notSynchronized
  have hP : va_P (dC, dI) classes [(jd, .inr (2, [.long sd, .ref jh, .ref jh2, .ref jg, .ref jb, .ref jy, .long w])), (jh, .inr (1, [.ref jt, .ref jk, .ref jv, .ref jr, .int (nI n)])), (jk, .inl (ck, 43, .inl K)), (jv, .inl (cv, 43, .inl V)), (jr, .inl (cr, 43, .inl R))] s.heap := hP
  have hl := lv_entry ([.ref jd, .int (nI i), .int p1]) (n := 3) (Nat.le_of_ble_eq_true rfl)
  rw [lg_entry_eq]
  generalize (lg_sl ([.ref jd, .int (nI i), .int p1]) ++ List.replicate (3 - (lg_sl ([.ref jd, .int (nI i), .int p1])).length) Slot.unset).toArray = ls at hl ⊢
  have hl : lv_has ls 3 [(0, .ref jd), (1, .int (nI i)), (2, .int p1)] := hl
  refine lv_aload_n hx hb d_D_part_0 rfl (lv_at hl 0 rfl) ?_
  refine va_get (D := (dC, dI)) (ci := 2) (v := .ref jh) (C := R_D) (T := F_D) (N := 7) hx hb hts (lay_D _) hown hK hP 0 rfl rfl 1 (by decide) (hts _ (List.mem_cons_of_mem _ m_57)) (fun _ h9 => h9) rfl d_D_part_1 ?_
  refine lv_iload_n hx hb d_D_part_4 rfl (lv_at hl 1 rfl) ?_
  have hPc := hP.sub (ws' := [(jh, .inr (1, [.ref jt, .ref jk, .ref jv, .ref jr, .int (nI n)]))]) [1] rfl
  have hKc := hK.sub (tys' := []) [] rfl
  refine vp_callSi (va_Run.run (va_runVN (As := [.int (nI i)]) (rest := []) ⟨hx, hb, hml, hown, hts⟩ (c_H_has l dC dI jh jt jk jv jr n (nI i)) ⟨va_cnB 1 hts (g_c big_w m_263) rfl rfl rfl (hN _ (by decide +kernel : (Jvm.Cond.methodLinkNest "PortDrawer" (66 : Nat) ({ cls := "PortDrawer$Harbour", name := "has", desc := "(I)Z" } : Jvm.MethodName) "PortDrawer") ∈ NWl)) (hts _ (List.mem_cons_of_mem _ m_2)) (by decide +kernel) ⟨Nat.le_of_ble_eq_true rfl, Nat.le_of_ble_eq_true rfl⟩, (hts _ (List.mem_cons_of_mem _ m_262)), (hts _ (List.mem_cons_of_mem _ ms_16))⟩ (ro_V hPc hKc hN (va_recv hKc hPc (ci := 1) (q0 := 0) rfl rfl)) rfl rfl hl.1 rfl (lv_room (Nat.le_of_ble_eq_true rfl)) d_D_part_5 ⟨Nat.le_of_ble_eq_true rfl, Nat.le_of_ble_eq_true rfl⟩)) (fun r_1 er_1 => ?_)
  subst er_1
  refine lv_if_ne (tgt := 21) hx hb d_D_part_8 (by decide) (fun c_8 => ?_) (fun c_8 => ?_)
  · skip
    have c_8 := bI_t c_8
    refine lv_iload_n hx hb d_D_part_21 rfl (lv_at hl 2 rfl) ?_
    by_cases o_22 : p1.toInt < 0 ∨ 4 < p1.toInt
    · skip
      refine lv_tableOut (tgt := 121) hx hb d_D_part_22 o_22 (by decide) ?_
      exact absurd o_22 h4
    · skip
      have o1_22 : ¬ p1.toInt < 0 := fun h => o_22 (Or.inl h)
      have o2_22 : ¬ 4 < p1.toInt := fun h => o_22 (Or.inr h)
      by_cases o_22_0 : p1.toInt = 0
      · skip
        have o3 : p1 = nI 0 := sw_eq o_22_0 (by decide +kernel)
        refine lv_tableIn (tgt := 56) hx hb d_D_part_22 o1_22 o2_22 (by rw [o_22_0]; rfl) (by decide) ?_
        refine lv_aload_n hx hb d_D_part_56 rfl (lv_at hl 0 rfl) ?_
        refine va_get (D := (dC, dI)) (ci := 2) (v := .ref jh) (C := R_D) (T := F_D) (N := 7) hx hb hts (lay_D _) hown hK hP 0 rfl rfl 1 (by decide) (hts _ (List.mem_cons_of_mem _ m_57)) (fun _ h9 => h9) rfl d_D_part_57 ?_
        refine va_getN (D := (dC, dI)) (ci := 1) (v := .ref jk) (C := R_H) (T := F_H) (N := 5) hx hb hts (lay_H _) hown hK hP 1 rfl rfl 1 (by decide) (hN.use (by decide +kernel : (Jvm.Cond.fieldLinkNest "PortDrawer" (74 : Nat) "PortDrawer$Harbour" "kinds" "[I" "PortDrawer") ∈ NWl)) (fun _ h9 => h9) rfl d_D_part_60 ?_
        refine lv_iload_n hx hb d_D_part_63 rfl (lv_at hl 1 rfl) ?_
        refine va_iald hx hb hK hP 2 0 rfl rfl (vp_in_nI (by omega) (by omega)) d_D_part_64 ?_
        refine lv_topi (fun w_2 ew_2 => ?_)
        rw [nI_clamp (by omega)] at ew_2
        subst ew_2
        exact W.iret (v := K i) hx hb hr (fun t ht hW => ⟨K i, rfl, (by rw [o3]; exact pt_0.symm), ht⟩) (fun _ h => nomatch h) d_D_part_65
      · skip
        by_cases o_22_1 : p1.toInt = 1
        · skip
          have o3 : p1 = nI 1 := sw_eq o_22_1 (by decide +kernel)
          refine lv_tableIn (tgt := 66) hx hb d_D_part_22 o1_22 o2_22 (by rw [o_22_1]; rfl) (by decide) ?_
          refine lv_aload_n hx hb d_D_part_66 rfl (lv_at hl 0 rfl) ?_
          refine va_get (D := (dC, dI)) (ci := 2) (v := .ref jh) (C := R_D) (T := F_D) (N := 7) hx hb hts (lay_D _) hown hK hP 0 rfl rfl 1 (by decide) (hts _ (List.mem_cons_of_mem _ m_57)) (fun _ h9 => h9) rfl d_D_part_67 ?_
          refine lv_aload_n hx hb d_D_part_70 rfl (lv_at hl 0 rfl) ?_
          refine va_get (D := (dC, dI)) (ci := 2) (v := .ref jh) (C := R_D) (T := F_D) (N := 7) hx hb hts (lay_D _) hown hK hP 0 rfl rfl 1 (by decide) (hts _ (List.mem_cons_of_mem _ m_57)) (fun _ h9 => h9) rfl d_D_part_71 ?_
          refine va_getN (D := (dC, dI)) (ci := 1) (v := .ref jk) (C := R_H) (T := F_H) (N := 5) hx hb hts (lay_H _) hown hK hP 1 rfl rfl 1 (by decide) (hN.use (by decide +kernel : (Jvm.Cond.fieldLinkNest "PortDrawer" (74 : Nat) "PortDrawer$Harbour" "kinds" "[I" "PortDrawer") ∈ NWl)) (fun _ h9 => h9) rfl d_D_part_74 ?_
          refine lv_iload_n hx hb d_D_part_77 rfl (lv_at hl 1 rfl) ?_
          refine va_iald hx hb hK hP 2 0 rfl rfl (vp_in_nI (by omega) (by omega)) d_D_part_78 ?_
          refine lv_topi (fun w_3 ew_3 => ?_)
          rw [nI_clamp (by omega)] at ew_3
          subst ew_3
          refine lv_iload_n hx hb d_D_part_79 rfl (lv_at hl 1 rfl) ?_
          have hPc := hP.sub (ws' := [(jh, .inr (1, [.ref jt, .ref jk, .ref jv, .ref jr, .int (nI n)])), (jk, .inl (ck, 43, .inl K))]) [1, 2] rfl
          have hKc := hK.sub (tys' := [(ck, .int)]) [0] rfl
          refine vp_callSi (va_Run.run (va_runVN (As := [.int (K i), .int (nI i)]) (rest := []) ⟨hx, hb, hml, hown, hts⟩ (c_H_ofKindAheadOf l dC dI jh jt jk jv jr n ck K (K i) i (by first | assumption | omega) (by first | assumption | omega)) ⟨va_cnB 2 hts (g_c big_w m_137) rfl rfl rfl (hN _ (by decide +kernel : (Jvm.Cond.methodLinkNest "PortDrawer" (78 : Nat) ({ cls := "PortDrawer$Harbour", name := "ofKindAheadOf", desc := "(II)I" } : Jvm.MethodName) "PortDrawer") ∈ NWl)) (hts _ (List.mem_cons_of_mem _ m_2)) (by decide +kernel) ⟨Nat.le_of_ble_eq_true rfl, Nat.le_of_ble_eq_true rfl⟩, (hts _ (List.mem_cons_of_mem _ m_136)), (hts _ (List.mem_cons_of_mem _ ms_5))⟩ (ro_V hPc hKc hN (va_recv hKc hPc (ci := 1) (q0 := 0) rfl rfl)) rfl rfl hl.1 rfl (lv_room (Nat.le_of_ble_eq_true rfl)) d_D_part_80 ⟨Nat.le_of_ble_eq_true rfl, Nat.le_of_ble_eq_true rfl⟩)) (fun r_4 er_4 => ?_)
          subst er_4
          exact W.iret (v := nI (cnt (kP K (K i)) i)) hx hb hr (fun t ht hW => ⟨nI (cnt (kP K (K i)) i), rfl, (by rw [o3]; exact pt_1.symm), ht⟩) (fun _ h => nomatch h) d_D_part_83
        · skip
          by_cases o_22_2 : p1.toInt = 2
          · skip
            have o3 : p1 = nI 2 := sw_eq o_22_2 (by decide +kernel)
            refine lv_tableIn (tgt := 84) hx hb d_D_part_22 o1_22 o2_22 (by rw [o_22_2]; rfl) (by decide) ?_
            refine lv_aload_n hx hb d_D_part_84 rfl (lv_at hl 0 rfl) ?_
            refine va_get (D := (dC, dI)) (ci := 2) (v := .ref jh) (C := R_D) (T := F_D) (N := 7) hx hb hts (lay_D _) hown hK hP 0 rfl rfl 1 (by decide) (hts _ (List.mem_cons_of_mem _ m_57)) (fun _ h9 => h9) rfl d_D_part_85 ?_
            refine va_getN (D := (dC, dI)) (ci := 1) (v := .ref jv) (C := R_H) (T := F_H) (N := 5) hx hb hts (lay_H _) hown hK hP 1 rfl rfl 2 (by decide) (hN.use (by decide +kernel : (Jvm.Cond.fieldLinkNest "PortDrawer" (82 : Nat) "PortDrawer$Harbour" "values" "[I" "PortDrawer") ∈ NWl)) (fun _ h9 => h9) rfl d_D_part_88 ?_
            refine lv_iload_n hx hb d_D_part_91 rfl (lv_at hl 1 rfl) ?_
            refine va_iald hx hb hK hP 3 1 rfl rfl (vp_in_nI (by omega) (by omega)) d_D_part_92 ?_
            refine lv_topi (fun w_5 ew_5 => ?_)
            rw [nI_clamp (by omega)] at ew_5
            subst ew_5
            exact W.iret (v := V i) hx hb hr (fun t ht hW => ⟨V i, rfl, (by rw [o3]; exact pt_2.symm), ht⟩) (fun _ h => nomatch h) d_D_part_93
          · skip
            by_cases o_22_3 : p1.toInt = 3
            · skip
              have o3 : p1 = nI 3 := sw_eq o_22_3 (by decide +kernel)
              refine lv_tableIn (tgt := 94) hx hb d_D_part_22 o1_22 o2_22 (by rw [o_22_3]; rfl) (by decide) ?_
              refine lv_aload_n hx hb d_D_part_94 rfl (lv_at hl 0 rfl) ?_
              refine va_get (D := (dC, dI)) (ci := 2) (v := .ref jh) (C := R_D) (T := F_D) (N := 7) hx hb hts (lay_D _) hown hK hP 0 rfl rfl 1 (by decide) (hts _ (List.mem_cons_of_mem _ m_57)) (fun _ h9 => h9) rfl d_D_part_95 ?_
              refine va_getN (D := (dC, dI)) (ci := 1) (v := .ref jr) (C := R_H) (T := F_H) (N := 5) hx hb hts (lay_H _) hown hK hP 1 rfl rfl 3 (by decide) (hN.use (by decide +kernel : (Jvm.Cond.fieldLinkNest "PortDrawer" (85 : Nat) "PortDrawer$Harbour" "references" "[I" "PortDrawer") ∈ NWl)) (fun _ h9 => h9) rfl d_D_part_98 ?_
              refine lv_iload_n hx hb d_D_part_101 rfl (lv_at hl 1 rfl) ?_
              refine va_iald hx hb hK hP 4 2 rfl rfl (vp_in_nI (by omega) (by omega)) d_D_part_102 ?_
              refine lv_topi (fun w_6 ew_6 => ?_)
              rw [nI_clamp (by omega)] at ew_6
              subst ew_6
              exact W.iret (v := R i) hx hb hr (fun t ht hW => ⟨R i, rfl, (by rw [o3]; exact pt_3.symm), ht⟩) (fun _ h => nomatch h) d_D_part_103
            · skip
              have o_22_4 : p1.toInt = 4 := by omega
              have o3 : p1 = nI 4 := sw_eq o_22_4 (by decide +kernel)
              refine lv_tableIn (tgt := 104) hx hb d_D_part_22 o1_22 o2_22 (by rw [o_22_4]; rfl) (by decide) ?_
              refine lv_aload_n hx hb d_D_part_104 rfl (lv_at hl 0 rfl) ?_
              refine va_get (D := (dC, dI)) (ci := 2) (v := .long w) (C := R_D) (T := F_D) (N := 7) hx hb hts (lay_D _) hown hK hP 0 rfl rfl 6 (by decide) (hts _ (List.mem_cons_of_mem _ m_62)) (fun _ h9 => h9) rfl d_D_part_105 ?_
              refine lv_iload_n hx hb d_D_part_108 rfl (lv_at hl 1 rfl) ?_
              have hPc := hP.sub (ws' := []) [] rfl
              have hKc := hK.sub (tys' := []) [] rfl
              refine vp_callSi (W.runS (As := [.long w, .int (nI i)]) (rest := []) ⟨hx, hb, hml, hown, hts⟩ (c_D_isIn l dC dI w i (by first | assumption | omega)) (va_cwS 2 hts (g_S big_w m_114 m_115 m_1 m_116) rfl rfl rfl (by decide +kernel) ⟨Nat.le_of_ble_eq_true rfl, Nat.le_of_ble_eq_true rfl⟩) (ro_S hPc hKc hN) rfl rfl hl.1 rfl (lv_room (Nat.le_of_ble_eq_true rfl)) d_D_part_109 ⟨Nat.le_of_ble_eq_true rfl, Nat.le_of_ble_eq_true rfl⟩) (fun r_7 er_7 => ?_)
              subst er_7
              refine lv_if_eq (tgt := 119) hx hb d_D_part_112 (by decide) (fun c_112 => ?_) (fun c_112 => ?_)
              · skip
                have c_112 := bI_f c_112
                refine lv_iconst (v := nI 0) hx hb d_D_part_119 (by decide +kernel) ?_
                exact W.iret (v := nI 0) hx hb hr (fun t ht hW => ⟨nI 0, rfl, (by rw [o3, pt_4, c_112]; rfl), ht⟩) (fun _ h => nomatch h) d_D_part_120
              · skip
                have c_112 := bI_t c_112
                refine lv_iconst (v := nI 1) hx hb d_D_part_115 (by decide +kernel) ?_
                refine lv_goto (tgt := 120) hx hb d_D_part_116 (by decide) ?_
                exact W.iret (v := nI 1) hx hb hr (fun t ht hW => ⟨nI 1, rfl, (by rw [o3, pt_4, c_112]; rfl), ht⟩) (fun _ h => nomatch h) d_D_part_120
  · skip
    have c_8 := bI_f c_8
    exact absurd c_8 (by rw [hB_nI hi (by omega)]; decide)
set_option maxHeartbeats 4000000 in
set_option maxRecDepth 100000 in
/-- part, where there is none -/
theorem c_D_partx (l : Launch) (hl9 : l.stackTraces = false) (dC : Nat → ClassId) (dI : Nat → Nat → Nat) (jd jh jh2 jg jb jy : Nat) (sd w : Int64) (jt jk jv jr n : Nat) (p0 p1 : Int32) (hn : n ≤ 43) (hex : hB n p0 = false ∨ (p1.toInt < 0 ∨ 4 < p1.toInt)) (sa : Nat → Nat) (sz : Nat) : vx_Met l y_D_part w_D_part ({ frames := 6, cells := 1, slots := 6, locals := 100 }) (wx_P dC dI [.ref jd, .int p0, .int p1] [(jd, .inr (2, [.long sd, .ref jh, .ref jh2, .ref jg, .ref jb, .ref jy, .long w])), (jh, .inr (1, [.ref jt, .ref jk, .ref jv, .ref jr, .int (nI n)]))] [] sa sz) (va_Qi (fun (r : Int32) (_ : Unit) => False) (fun (u : Unit) => wr_B dC dI (va_A [(jd, .inr (2, [.long sd, .ref jh, .ref jh2, .ref jg, .ref jb, .ref jy, .long w])), (jh, .inr (1, [.ref jt, .ref jk, .ref jv, .ref jr, .int (nI n)]))] sz) [(jd, .inr (2, [.long sd, .ref jh, .ref jh2, .ref jg, .ref jb, .ref jy, .long w])), (jh, .inr (1, [.ref jt, .ref jk, .ref jv, .ref jr, .int (nI n)]))] []) (va_A [(jd, .inr (2, [.long sd, .ref jh, .ref jh2, .ref jg, .ref jb, .ref jy, .long w])), (jh, .inr (1, [.ref jt, .ref jk, .ref jv, .ref jr, .int (nI n)]))] sz)) (wx_X dC dI "java/lang/IndexOutOfBoundsException" (va_A [(jd, .inr (2, [.long sd, .ref jh, .ref jh2, .ref jg, .ref jb, .ref jy, .long w])), (jh, .inr (1, [.ref jt, .ref jk, .ref jv, .ref jr, .int (nI n)]))] sz) [(jd, .inr (2, [.long sd, .ref jh, .ref jh2, .ref jg, .ref jb, .ref jy, .long w])), (jh, .inr (1, [.ref jt, .ref jk, .ref jv, .ref jr, .int (nI n)]))] []) 1 6 (va_A [(jd, .inr (2, [.long sd, .ref jh, .ref jh2, .ref jg, .ref jb, .ref jy, .long w])), (jh, .inr (1, [.ref jt, .ref jk, .ref jv, .ref jr, .int (nI n)]))] sz) := by
  refine vx_ofW (cc := b_D_part) (maxL := 3) (ret := (Option.some Jvm.ClassFile.FieldType.int)) (by decide) rfl ?_
  intro p e s m args below meth c s₁ B0 hml hEx hv0
  obtain ⟨rfl, hsz, hP, hK, hD0, hN, hT, hZ⟩ := hv0
  have hx := B0.exec
  have hb := B0.bytes
  have hr := B0.returns
  have hts := atoms_spec (ws := w_D_part) B0.pre
  have hown : s.vm.findClass R_D = some m.cls := findClass_of_methodNamed B0.named
  have hlocks := B0.notSynchronized
  subst hsz
  have hD := hD0.self (sz := s.heap.size)
  generalize hAe : va_A [(jd, .inr (2, [.long sd, .ref jh, .ref jh2, .ref jg, .ref jb, .ref jy, .long w])), (jh, .inr (1, [.ref jt, .ref jk, .ref jv, .ref jr, .int (nI n)]))] s.heap.size = A at hD hZ ⊢
  have hA : ∀ q : Nat, s.heap.size ≤ q → A q := fun q h => by rw [← hAe]; exact Or.inr h
  have hS : va_S A s.heap s.heap [] := va_S.rf
  have hP : va_P (dC, dI) classes [(jd, .inr (2, [.long sd, .ref jh, .ref jh2, .ref jg, .ref jb, .ref jy, .long w])), (jh, .inr (1, [.ref jt, .ref jk, .ref jv, .ref jr, .int (nI n)]))] s.heap := hP
  have hl := lv_entry ([.ref jd, .int p0, .int p1]) (n := 3) (Nat.le_of_ble_eq_true rfl)
  rw [lg_entry_eq]
  generalize (lg_sl ([.ref jd, .int p0, .int p1]) ++ List.replicate (3 - (lg_sl ([.ref jd, .int p0, .int p1])).length) Slot.unset).toArray = ls at hl ⊢
  have hl : lv_has ls 3 [(0, .ref jd), (1, .int p0), (2, .int p1)] := hl
  refine lv_aload_n hx hb d_D_part_0 rfl (lv_at hl 0 rfl) ?_
  refine va_get (D := (dC, dI)) (ci := 2) (v := .ref jh) (C := R_D) (T := F_D) (N := 7) hx hb hts (lay_D _) hown hK hP 0 rfl rfl 1 (by decide) (hts _ (List.mem_cons_of_mem _ m_57)) (fun _ h9 => h9) rfl d_D_part_1 ?_
  refine lv_iload_n hx hb d_D_part_4 rfl (lv_at hl 1 rfl) ?_
  have hPc := hP.sub (ws' := [(jh, .inr (1, [.ref jt, .ref jk, .ref jv, .ref jr, .int (nI n)]))]) [1] rfl
  have hKc := hK.sub (tys' := []) [] rfl
  refine vp_callSi (va_Run.run (va_runVN (As := [.int p0]) (rest := []) ⟨hx, hb, hml, hown, hts⟩ (c_H_has l dC dI jh jt jk jv jr n p0) ⟨va_cnB 1 hts (g_c big_w m_263) rfl rfl rfl (hN _ (by decide +kernel : (Jvm.Cond.methodLinkNest "PortDrawer" (66 : Nat) ({ cls := "PortDrawer$Harbour", name := "has", desc := "(I)Z" } : Jvm.MethodName) "PortDrawer") ∈ NWl)) (hts _ (List.mem_cons_of_mem _ m_2)) (by decide +kernel) ⟨Nat.le_of_ble_eq_true rfl, Nat.le_of_ble_eq_true rfl⟩, (hts _ (List.mem_cons_of_mem _ m_262)), (hts _ (List.mem_cons_of_mem _ ms_16))⟩ (ro_V hPc hKc hN (va_recv hKc hPc (ci := 1) (q0 := 0) rfl rfl)) rfl rfl hl.1 rfl (lv_room (Nat.le_of_ble_eq_true rfl)) d_D_part_5 ⟨Nat.le_of_ble_eq_true rfl, Nat.le_of_ble_eq_true rfl⟩)) (fun r_1 er_1 => ?_)
  subst er_1
  refine lv_if_ne (tgt := 21) hx hb d_D_part_8 (by decide) (fun c_8 => ?_) (fun c_8 => ?_)
  · skip
    have c_8 := bI_t c_8
    refine lv_iload_n hx hb d_D_part_21 rfl (lv_at hl 2 rfl) ?_
    by_cases o_22 : p1.toInt < 0 ∨ 4 < p1.toInt
    · skip
      refine lv_tableOut (tgt := 121) hx hb d_D_part_22 o_22 (by decide) ?_
      have hP9 := hP.sub (ws' := [(jd, .inr (2, [.long sd, .ref jh, .ref jh2, .ref jg, .ref jb, .ref jy, .long w])), (jh, .inr (1, [.ref jt, .ref jk, .ref jv, .ref jr, .int (nI n)]))]) [0, 1] rfl
      have hD9 := hD.sub (ws' := [(jd, .inr (2, [.long sd, .ref jh, .ref jh2, .ref jg, .ref jb, .ref jy, .long w])), (jh, .inr (1, [.ref jt, .ref jk, .ref jv, .ref jr, .int (nI n)]))]) [0, 1] (by decide) rfl
      have hK9 := hK.sub (tys' := []) [] rfl
      exact vx_throwS (own := R_D) (cls := "java/lang/IndexOutOfBoundsException") (names := ["java/lang/RuntimeException", "java/lang/Exception"]) hx hb hl9 hown (by decide +kernel) (by decide +kernel) (hts _ (List.mem_cons_of_mem _ m_285)) (hts _ (List.mem_cons_of_mem _ m_9)) (hT (92, "no such what") (by decide +kernel)) (hat_ok hts hN (L := vx_atS R_D 73 "java/lang/IndexOutOfBoundsException" ["java/lang/RuntimeException", "java/lang/Exception"]) (by decide +kernel) (by decide +kernel)) (by decide +kernel) hZ.1 hZ.2 hS (hl.1.trans hml.symm) d_D_part_121 d_D_part_124 d_D_part_125 d_D_part_127 d_D_part_130 (fun x h => (hEx x h).elim) (Nat.le_of_ble_eq_true rfl) (Nat.le_of_ble_eq_true rfl) (Nat.le_of_ble_eq_true rfl) (Nat.le_of_ble_eq_true rfl) hlocks (fun t ha hsz hk => ⟨(), trivial, ⟨rfl, hP9.kept (fun k q hq => hk q.1 (hP9 k q hq).lt), va_K.moved ha hK9, hD9⟩, Nat.le_trans hS.1 hsz, fun q h1 h2 => (hk q (Nat.lt_of_lt_of_le h1 hS.1)).trans (hS.2.1 q h1 h2)⟩) hS.2.2 (Nat.le_of_ble_eq_true rfl) (Nat.le_of_ble_eq_true rfl)
    · skip
      have o1_22 : ¬ p1.toInt < 0 := fun h => o_22 (Or.inl h)
      have o2_22 : ¬ 4 < p1.toInt := fun h => o_22 (Or.inr h)
      by_cases o_22_0 : p1.toInt = 0
      · skip
        have o3 : p1 = nI 0 := sw_eq o_22_0 (by decide +kernel)
        refine lv_tableIn (tgt := 56) hx hb d_D_part_22 o1_22 o2_22 (by rw [o_22_0]; rfl) (by decide) ?_
        exact absurd (hex.resolve_left (by rw [c_8]; decide)) o_22
      · skip
        by_cases o_22_1 : p1.toInt = 1
        · skip
          have o3 : p1 = nI 1 := sw_eq o_22_1 (by decide +kernel)
          refine lv_tableIn (tgt := 66) hx hb d_D_part_22 o1_22 o2_22 (by rw [o_22_1]; rfl) (by decide) ?_
          exact absurd (hex.resolve_left (by rw [c_8]; decide)) o_22
        · skip
          by_cases o_22_2 : p1.toInt = 2
          · skip
            have o3 : p1 = nI 2 := sw_eq o_22_2 (by decide +kernel)
            refine lv_tableIn (tgt := 84) hx hb d_D_part_22 o1_22 o2_22 (by rw [o_22_2]; rfl) (by decide) ?_
            exact absurd (hex.resolve_left (by rw [c_8]; decide)) o_22
          · skip
            by_cases o_22_3 : p1.toInt = 3
            · skip
              have o3 : p1 = nI 3 := sw_eq o_22_3 (by decide +kernel)
              refine lv_tableIn (tgt := 94) hx hb d_D_part_22 o1_22 o2_22 (by rw [o_22_3]; rfl) (by decide) ?_
              exact absurd (hex.resolve_left (by rw [c_8]; decide)) o_22
            · skip
              have o_22_4 : p1.toInt = 4 := by omega
              have o3 : p1 = nI 4 := sw_eq o_22_4 (by decide +kernel)
              refine lv_tableIn (tgt := 104) hx hb d_D_part_22 o1_22 o2_22 (by rw [o_22_4]; rfl) (by decide) ?_
              exact absurd (hex.resolve_left (by rw [c_8]; decide)) o_22
  · skip
    have c_8 := bI_f c_8
    have hP9 := hP.sub (ws' := [(jd, .inr (2, [.long sd, .ref jh, .ref jh2, .ref jg, .ref jb, .ref jy, .long w])), (jh, .inr (1, [.ref jt, .ref jk, .ref jv, .ref jr, .int (nI n)]))]) [0, 1] rfl
    have hD9 := hD.sub (ws' := [(jd, .inr (2, [.long sd, .ref jh, .ref jh2, .ref jg, .ref jb, .ref jy, .long w])), (jh, .inr (1, [.ref jt, .ref jk, .ref jv, .ref jr, .int (nI n)]))]) [0, 1] (by decide) rfl
    have hK9 := hK.sub (tys' := []) [] rfl
    exact vx_throwS (own := R_D) (cls := "java/lang/IndexOutOfBoundsException") (names := ["java/lang/RuntimeException", "java/lang/Exception"]) hx hb hl9 hown (by decide +kernel) (by decide +kernel) (hts _ (List.mem_cons_of_mem _ m_285)) (hts _ (List.mem_cons_of_mem _ m_9)) (hT (71, "no such part") (by decide +kernel)) (hat_ok hts hN (L := vx_atS R_D 73 "java/lang/IndexOutOfBoundsException" ["java/lang/RuntimeException", "java/lang/Exception"]) (by decide +kernel) (by decide +kernel)) (by decide +kernel) hZ.1 hZ.2 hS (hl.1.trans hml.symm) d_D_part_11 d_D_part_14 d_D_part_15 d_D_part_17 d_D_part_20 (fun x h => (hEx x h).elim) (Nat.le_of_ble_eq_true rfl) (Nat.le_of_ble_eq_true rfl) (Nat.le_of_ble_eq_true rfl) (Nat.le_of_ble_eq_true rfl) hlocks (fun t ha hsz hk => ⟨(), trivial, ⟨rfl, hP9.kept (fun k q hq => hk q.1 (hP9 k q hq).lt), va_K.moved ha hK9, hD9⟩, Nat.le_trans hS.1 hsz, fun q h1 h2 => (hk q (Nat.lt_of_lt_of_le h1 hS.1)).trans (hS.2.1 q h1 h2)⟩) hS.2.2 (Nat.le_of_ble_eq_true rfl) (Nat.le_of_ble_eq_true rfl)
set_option maxHeartbeats 4000000 in
set_option maxRecDepth 100000 in
/-- fits, of an act -/
theorem c_D_fits (l : Launch) (dC : Nat → ClassId) (dI : Nat → Nat → Nat) (jd jh jh2 jg jb jy : Nat) (sd w : Int64) (jt jk jv jr n : Nat) (ck cv cr : ClassId) (K V R : Nat → Int32) (p0 : Int32) (hn : n ≤ 43) (ha : aB n K p0 = true) : Met l y_D_fits w_D_fits ({ frames := 3, cells := 0, slots := 0, locals := 64 }) (ro_P dC dI [.ref jd, .int p0] [(jd, .inr (2, [.long sd, .ref jh, .ref jh2, .ref jg, .ref jb, .ref jy, .long w])), (jh, .inr (1, [.ref jt, .ref jk, .ref jv, .ref jr, .int (nI n)])), (jk, .inl (ck, 43, .inl K)), (jv, .inl (cv, 43, .inl V)), (jr, .inl (cr, 43, .inl R))] [(ck, .int), (cv, .int), (cr, .int)]) (vp_Si (fun r => r = bI (fB n K V R p0))) 0 0 (fun _ => False) := by
  refine Met.ofW (cc := b_D_fits) (maxL := 2) (ret := (Option.some Jvm.ClassFile.FieldType.boolean)) (by decide) rfl ?_
  intro p e s m args below meth c s₁ B0 hml hv0
  obtain ⟨rfl, hP, hK, hN⟩ := hv0
  have hx := B0.exec
  have hb := B0.bytes
  have hr := B0.returns
  have hts := atoms_spec (ws := w_D_fits) B0.pre
  have hown : s.vm.findClass R_D = some m.cls := findClass_of_methodNamed B0.named
  have hlocks := B0.notSynchronized
  have hP : va_P (dC, dI) classes [(jd, .inr (2, [.long sd, .ref jh, .ref jh2, .ref jg, .ref jb, .ref jy, .long w])), (jh, .inr (1, [.ref jt, .ref jk, .ref jv, .ref jr, .int (nI n)])), (jk, .inl (ck, 43, .inl K)), (jv, .inl (cv, 43, .inl V)), (jr, .inl (cr, 43, .inl R))] s.heap := hP
  have hl := lv_entry ([.ref jd, .int p0]) (n := 2) (Nat.le_of_ble_eq_true rfl)
  rw [lg_entry_eq]
  generalize (lg_sl ([.ref jd, .int p0]) ++ List.replicate (2 - (lg_sl ([.ref jd, .int p0])).length) Slot.unset).toArray = ls at hl ⊢
  have hl : lv_has ls 2 [(0, .ref jd), (1, .int p0)] := hl
  refine lv_aload_n hx hb d_D_fits_0 rfl (lv_at hl 0 rfl) ?_
  refine va_get (D := (dC, dI)) (ci := 2) (v := .ref jh) (C := R_D) (T := F_D) (N := 7) hx hb hts (lay_D _) hown hK hP 0 rfl rfl 1 (by decide) (hts _ (List.mem_cons_of_mem _ m_57)) (fun _ h9 => h9) rfl d_D_fits_1 ?_
  refine lv_iload_n hx hb d_D_fits_4 rfl (lv_at hl 1 rfl) ?_
  have hPc := hP.sub (ws' := [(jh, .inr (1, [.ref jt, .ref jk, .ref jv, .ref jr, .int (nI n)])), (jk, .inl (ck, 43, .inl K))]) [1, 2] rfl
  have hKc := hK.sub (tys' := [(ck, .int)]) [0] rfl
  refine vp_callSi (va_Run.run (va_runVN (As := [.int p0]) (rest := []) ⟨hx, hb, hml, hown, hts⟩ (c_H_isAct l dC dI jh jt jk jv jr n ck K p0 (by first | assumption | omega)) ⟨va_cnB 1 hts (g_c big_w m_275) rfl rfl rfl (hN _ (by decide +kernel : (Jvm.Cond.methodLinkNest "PortDrawer" (94 : Nat) ({ cls := "PortDrawer$Harbour", name := "isAct", desc := "(I)Z" } : Jvm.MethodName) "PortDrawer") ∈ NWl)) (hts _ (List.mem_cons_of_mem _ m_2)) (by decide +kernel) ⟨Nat.le_of_ble_eq_true rfl, Nat.le_of_ble_eq_true rfl⟩, (hts _ (List.mem_cons_of_mem _ m_274)), (hts _ (List.mem_cons_of_mem _ ms_19))⟩ (ro_V hPc hKc hN (va_recv hKc hPc (ci := 1) (q0 := 0) rfl rfl)) rfl rfl hl.1 rfl (lv_room (Nat.le_of_ble_eq_true rfl)) d_D_fits_5 ⟨Nat.le_of_ble_eq_true rfl, Nat.le_of_ble_eq_true rfl⟩)) (fun r_1 er_1 => ?_)
  subst er_1
  refine lv_if_ne (tgt := 21) hx hb d_D_fits_8 (by decide) (fun c_8 => ?_) (fun c_8 => ?_)
  · skip
    have c_8 := bI_t c_8
    refine lv_aload_n hx hb d_D_fits_21 rfl (lv_at hl 0 rfl) ?_
    refine va_get (D := (dC, dI)) (ci := 2) (v := .ref jh) (C := R_D) (T := F_D) (N := 7) hx hb hts (lay_D _) hown hK hP 0 rfl rfl 1 (by decide) (hts _ (List.mem_cons_of_mem _ m_57)) (fun _ h9 => h9) rfl d_D_fits_22 ?_
    refine lv_iload_n hx hb d_D_fits_25 rfl (lv_at hl 1 rfl) ?_
    have hPc := hP.sub (ws' := [(jh, .inr (1, [.ref jt, .ref jk, .ref jv, .ref jr, .int (nI n)])), (jk, .inl (ck, 43, .inl K)), (jv, .inl (cv, 43, .inl V)), (jr, .inl (cr, 43, .inl R))]) [1, 2, 3, 4] rfl
    have hKc := hK.sub (tys' := [(ck, .int), (cv, .int), (cr, .int)]) [0, 1, 2] rfl
    refine vp_callSi (va_Run.run (va_runVN (As := [.int p0]) (rest := []) ⟨hx, hb, hml, hown, hts⟩ (c_H_isFittingAct l dC dI jh jt jk jv jr n ck cv cr K V R p0 (by first | assumption | omega)) ⟨va_cnB 1 hts (g_c big_w m_271) rfl rfl rfl (hN _ (by decide +kernel : (Jvm.Cond.methodLinkNest "PortDrawer" (99 : Nat) ({ cls := "PortDrawer$Harbour", name := "isFittingAct", desc := "(I)Z" } : Jvm.MethodName) "PortDrawer") ∈ NWl)) (hts _ (List.mem_cons_of_mem _ m_2)) (by decide +kernel) ⟨Nat.le_of_ble_eq_true rfl, Nat.le_of_ble_eq_true rfl⟩, (hts _ (List.mem_cons_of_mem _ m_270)), (hts _ (List.mem_cons_of_mem _ ms_18))⟩ (ro_V hPc hKc hN (va_recv hKc hPc (ci := 1) (q0 := 0) rfl rfl)) rfl rfl hl.1 rfl (lv_room (Nat.le_of_ble_eq_true rfl)) d_D_fits_26 ⟨Nat.le_of_ble_eq_true rfl, Nat.le_of_ble_eq_true rfl⟩)) (fun r_2 er_2 => ?_)
    subst er_2
    exact W.zret (v := bI (fB n K V R p0)) (ty := .boolean) hx hb hr (bI_nar _) (fun t ht hW => ⟨bI (fB n K V R p0), rfl, rfl, ht⟩) (fun _ h => nomatch h) d_D_fits_29
  · skip
    have c_8 := bI_f c_8
    exact absurd c_8 (by rw [ha]; decide)
set_option maxHeartbeats 4000000 in
set_option maxRecDepth 100000 in
/-- fits, of no act -/
theorem c_D_fitsx (l : Launch) (hl9 : l.stackTraces = false) (dC : Nat → ClassId) (dI : Nat → Nat → Nat) (jd jh jh2 jg jb jy : Nat) (sd w : Int64) (jt jk jv jr n : Nat) (ck : ClassId) (K : Nat → Int32) (p0 : Int32) (hn : n ≤ 43) (hex : aB n K p0 = false) (sa : Nat → Nat) (sz : Nat) : vx_Met l y_D_fits w_D_fits ({ frames := 6, cells := 1, slots := 6, locals := 100 }) (wx_P dC dI [.ref jd, .int p0] [(jd, .inr (2, [.long sd, .ref jh, .ref jh2, .ref jg, .ref jb, .ref jy, .long w])), (jh, .inr (1, [.ref jt, .ref jk, .ref jv, .ref jr, .int (nI n)])), (jk, .inl (ck, 43, .inl K))] [(ck, .int)] sa sz) (va_Qi (fun (r : Int32) (_ : Unit) => False) (fun (u : Unit) => wr_B dC dI (va_A [(jd, .inr (2, [.long sd, .ref jh, .ref jh2, .ref jg, .ref jb, .ref jy, .long w])), (jh, .inr (1, [.ref jt, .ref jk, .ref jv, .ref jr, .int (nI n)])), (jk, .inl (ck, 43, .inl K))] sz) [(jd, .inr (2, [.long sd, .ref jh, .ref jh2, .ref jg, .ref jb, .ref jy, .long w])), (jh, .inr (1, [.ref jt, .ref jk, .ref jv, .ref jr, .int (nI n)])), (jk, .inl (ck, 43, .inl K))] [(ck, .int)]) (va_A [(jd, .inr (2, [.long sd, .ref jh, .ref jh2, .ref jg, .ref jb, .ref jy, .long w])), (jh, .inr (1, [.ref jt, .ref jk, .ref jv, .ref jr, .int (nI n)])), (jk, .inl (ck, 43, .inl K))] sz)) (wx_X dC dI "java/lang/IllegalArgumentException" (va_A [(jd, .inr (2, [.long sd, .ref jh, .ref jh2, .ref jg, .ref jb, .ref jy, .long w])), (jh, .inr (1, [.ref jt, .ref jk, .ref jv, .ref jr, .int (nI n)])), (jk, .inl (ck, 43, .inl K))] sz) [(jd, .inr (2, [.long sd, .ref jh, .ref jh2, .ref jg, .ref jb, .ref jy, .long w])), (jh, .inr (1, [.ref jt, .ref jk, .ref jv, .ref jr, .int (nI n)])), (jk, .inl (ck, 43, .inl K))] [(ck, .int)]) 1 6 (va_A [(jd, .inr (2, [.long sd, .ref jh, .ref jh2, .ref jg, .ref jb, .ref jy, .long w])), (jh, .inr (1, [.ref jt, .ref jk, .ref jv, .ref jr, .int (nI n)])), (jk, .inl (ck, 43, .inl K))] sz) := by
  refine vx_ofW (cc := b_D_fits) (maxL := 2) (ret := (Option.some Jvm.ClassFile.FieldType.boolean)) (by decide) rfl ?_
  intro p e s m args below meth c s₁ B0 hml hEx hv0
  obtain ⟨rfl, hsz, hP, hK, hD0, hN, hT, hZ⟩ := hv0
  have hx := B0.exec
  have hb := B0.bytes
  have hr := B0.returns
  have hts := atoms_spec (ws := w_D_fits) B0.pre
  have hown : s.vm.findClass R_D = some m.cls := findClass_of_methodNamed B0.named
  have hlocks := B0.notSynchronized
  subst hsz
  have hD := hD0.self (sz := s.heap.size)
  generalize hAe : va_A [(jd, .inr (2, [.long sd, .ref jh, .ref jh2, .ref jg, .ref jb, .ref jy, .long w])), (jh, .inr (1, [.ref jt, .ref jk, .ref jv, .ref jr, .int (nI n)])), (jk, .inl (ck, 43, .inl K))] s.heap.size = A at hD hZ ⊢
  have hA : ∀ q : Nat, s.heap.size ≤ q → A q := fun q h => by rw [← hAe]; exact Or.inr h
  have hS : va_S A s.heap s.heap [] := va_S.rf
  have hP : va_P (dC, dI) classes [(jd, .inr (2, [.long sd, .ref jh, .ref jh2, .ref jg, .ref jb, .ref jy, .long w])), (jh, .inr (1, [.ref jt, .ref jk, .ref jv, .ref jr, .int (nI n)])), (jk, .inl (ck, 43, .inl K))] s.heap := hP
  have hl := lv_entry ([.ref jd, .int p0]) (n := 2) (Nat.le_of_ble_eq_true rfl)
  rw [lg_entry_eq]
  generalize (lg_sl ([.ref jd, .int p0]) ++ List.replicate (2 - (lg_sl ([.ref jd, .int p0])).length) Slot.unset).toArray = ls at hl ⊢
  have hl : lv_has ls 2 [(0, .ref jd), (1, .int p0)] := hl
  refine lv_aload_n hx hb d_D_fits_0 rfl (lv_at hl 0 rfl) ?_
  refine va_get (D := (dC, dI)) (ci := 2) (v := .ref jh) (C := R_D) (T := F_D) (N := 7) hx hb hts (lay_D _) hown hK hP 0 rfl rfl 1 (by decide) (hts _ (List.mem_cons_of_mem _ m_57)) (fun _ h9 => h9) rfl d_D_fits_1 ?_
  refine lv_iload_n hx hb d_D_fits_4 rfl (lv_at hl 1 rfl) ?_
  have hPc := hP.sub (ws' := [(jh, .inr (1, [.ref jt, .ref jk, .ref jv, .ref jr, .int (nI n)])), (jk, .inl (ck, 43, .inl K))]) [1, 2] rfl
  have hKc := hK.sub (tys' := [(ck, .int)]) [0] rfl
  refine vp_callSi (va_Run.run (va_runVN (As := [.int p0]) (rest := []) ⟨hx, hb, hml, hown, hts⟩ (c_H_isAct l dC dI jh jt jk jv jr n ck K p0 (by first | assumption | omega)) ⟨va_cnB 1 hts (g_c big_w m_275) rfl rfl rfl (hN _ (by decide +kernel : (Jvm.Cond.methodLinkNest "PortDrawer" (94 : Nat) ({ cls := "PortDrawer$Harbour", name := "isAct", desc := "(I)Z" } : Jvm.MethodName) "PortDrawer") ∈ NWl)) (hts _ (List.mem_cons_of_mem _ m_2)) (by decide +kernel) ⟨Nat.le_of_ble_eq_true rfl, Nat.le_of_ble_eq_true rfl⟩, (hts _ (List.mem_cons_of_mem _ m_274)), (hts _ (List.mem_cons_of_mem _ ms_19))⟩ (ro_V hPc hKc hN (va_recv hKc hPc (ci := 1) (q0 := 0) rfl rfl)) rfl rfl hl.1 rfl (lv_room (Nat.le_of_ble_eq_true rfl)) d_D_fits_5 ⟨Nat.le_of_ble_eq_true rfl, Nat.le_of_ble_eq_true rfl⟩)) (fun r_1 er_1 => ?_)
  subst er_1
  refine lv_if_ne (tgt := 21) hx hb d_D_fits_8 (by decide) (fun c_8 => ?_) (fun c_8 => ?_)
  · skip
    have c_8 := bI_t c_8
    exact absurd c_8 (by rw [hex]; decide)
  · skip
    have c_8 := bI_f c_8
    have hP9 := hP.sub (ws' := [(jd, .inr (2, [.long sd, .ref jh, .ref jh2, .ref jg, .ref jb, .ref jy, .long w])), (jh, .inr (1, [.ref jt, .ref jk, .ref jv, .ref jr, .int (nI n)])), (jk, .inl (ck, 43, .inl K))]) [0, 1, 2] rfl
    have hD9 := hD.sub (ws' := [(jd, .inr (2, [.long sd, .ref jh, .ref jh2, .ref jg, .ref jb, .ref jy, .long w])), (jh, .inr (1, [.ref jt, .ref jk, .ref jv, .ref jr, .int (nI n)])), (jk, .inl (ck, 43, .inl K))]) [0, 1, 2] (by decide) rfl
    have hK9 := hK.sub (tys' := [(ck, .int)]) [0] rfl
    exact vx_throwS (own := R_D) (cls := "java/lang/IllegalArgumentException") (names := ["java/lang/RuntimeException", "java/lang/Exception"]) hx hb hl9 hown (by decide +kernel) (by decide +kernel) (hts _ (List.mem_cons_of_mem _ m_160)) (hts _ (List.mem_cons_of_mem _ m_8)) (hT (97, "no such act") (by decide +kernel)) (hat_ok hts hN (L := vx_atS R_D 45 "java/lang/IllegalArgumentException" ["java/lang/RuntimeException", "java/lang/Exception"]) (by decide +kernel) (by decide +kernel)) (by decide +kernel) hZ.1 hZ.2 hS (hl.1.trans hml.symm) d_D_fits_11 d_D_fits_14 d_D_fits_15 d_D_fits_17 d_D_fits_20 (fun x h => (hEx x h).elim) (Nat.le_of_ble_eq_true rfl) (Nat.le_of_ble_eq_true rfl) (Nat.le_of_ble_eq_true rfl) (Nat.le_of_ble_eq_true rfl) hlocks (fun t ha hsz hk => ⟨(), trivial, ⟨rfl, hP9.kept (fun k q hq => hk q.1 (hP9 k q hq).lt), va_K.moved ha hK9, hD9⟩, Nat.le_trans hS.1 hsz, fun q h1 h2 => (hk q (Nat.lt_of_lt_of_le h1 hS.1)).trans (hS.2.1 q h1 h2)⟩) hS.2.2 (Nat.le_of_ble_eq_true rfl) (Nat.le_of_ble_eq_true rfl)
set_option maxHeartbeats 4000000 in
set_option maxRecDepth 100000 in
/-- without, of a part that is left -/
theorem c_D_without (l : Launch) (dC : Nat → ClassId) (dI : Nat → Nat → Nat) (jd jh jh2 jg jb jy : Nat) (sd w : Int64) (jt jk jv jr n : Nat) (cg : ClassId) (G : Nat → Int64) (i : Nat) (hn : n ≤ 43) (hi : i < n) (hw9 : wbit w i = true) (sz : Nat) : Met l y_D_without w_D_without ({ frames := 1, cells := 0, slots := 0, locals := 22 }) (wr_P dC dI [.ref jd, .int (nI i)] [(jd, .inr (2, [.long sd, .ref jh, .ref jh2, .ref jg, .ref jb, .ref jy, .long w])), (jh, .inr (1, [.ref jt, .ref jk, .ref jv, .ref jr, .int (nI n)])), (jg, .inl (cg, 43, .inr (.inl G)))] [(cg, .long)] sz) (va_Qi (fun (r : Int32) (_ : Unit) => r = (nI (cnt (wbit w) 64)) - (nI (cnt (wbit (noW w (G i))) 64))) (fun (u : Unit) => wr_B dC dI (va_A [(jd, .inr (2, [.long sd, .ref jh, .ref jh2, .ref jg, .ref jb, .ref jy, .long w])), (jh, .inr (1, [.ref jt, .ref jk, .ref jv, .ref jr, .int (nI n)])), (jg, .inl (cg, 43, .inr (.inl G)))] sz) [(jd, .inr (2, [.long sd, .ref jh, .ref jh2, .ref jg, .ref jb, .ref jy, .long (noW w (G i))])), (jh, .inr (1, [.ref jt, .ref jk, .ref jv, .ref jr, .int (nI n)])), (jg, .inl (cg, 43, .inr (.inl G)))] [(cg, .long)]) (va_A [(jd, .inr (2, [.long sd, .ref jh, .ref jh2, .ref jg, .ref jb, .ref jy, .long w])), (jh, .inr (1, [.ref jt, .ref jk, .ref jv, .ref jr, .int (nI n)])), (jg, .inl (cg, 43, .inr (.inl G)))] sz)) 0 0 (va_A [(jd, .inr (2, [.long sd, .ref jh, .ref jh2, .ref jg, .ref jb, .ref jy, .long w])), (jh, .inr (1, [.ref jt, .ref jk, .ref jv, .ref jr, .int (nI n)])), (jg, .inl (cg, 43, .inr (.inl G)))] sz) := by
  refine Met.ofW (cc := b_D_without) (maxL := 3) (ret := (Option.some Jvm.ClassFile.FieldType.int)) (by decide) rfl ?_
  intro p e s m args below meth c s₁ B0 hml hv0
  obtain ⟨rfl, hsz, hP, hK, hD0, hN⟩ := hv0
  have hx := B0.exec
  have hb := B0.bytes
  have hr := B0.returns
  have hts := atoms_spec (ws := w_D_without) B0.pre
  have hown : s.vm.findClass R_D = some m.cls := findClass_of_methodNamed B0.named
  have hlocks := B0.notSynchronized
  subst hsz
  have hD := hD0.self (sz := s.heap.size)
  generalize hAe : va_A [(jd, .inr (2, [.long sd, .ref jh, .ref jh2, .ref jg, .ref jb, .ref jy, .long w])), (jh, .inr (1, [.ref jt, .ref jk, .ref jv, .ref jr, .int (nI n)])), (jg, .inl (cg, 43, .inr (.inl G)))] s.heap.size = A at hD ⊢
  have hA : ∀ q : Nat, s.heap.size ≤ q → A q := fun q h => by rw [← hAe]; exact Or.inr h
  have hS : va_S A s.heap s.heap [] := va_S.rf
  have hP : va_P (dC, dI) classes [(jd, .inr (2, [.long sd, .ref jh, .ref jh2, .ref jg, .ref jb, .ref jy, .long w])), (jh, .inr (1, [.ref jt, .ref jk, .ref jv, .ref jr, .int (nI n)])), (jg, .inl (cg, 43, .inr (.inl G)))] s.heap := hP
  have hl := lv_entry ([.ref jd, .int (nI i)]) (n := 3) (Nat.le_of_ble_eq_true rfl)
  rw [lg_entry_eq]
  generalize (lg_sl ([.ref jd, .int (nI i)]) ++ List.replicate (3 - (lg_sl ([.ref jd, .int (nI i)])).length) Slot.unset).toArray = ls at hl ⊢
  have hl : lv_has ls 3 [(0, .ref jd), (1, .int (nI i))] := hl
  refine lv_aload_n hx hb d_D_without_0 rfl (lv_at hl 0 rfl) ?_
  refine va_get (D := (dC, dI)) (ci := 2) (v := .ref jh) (C := R_D) (T := F_D) (N := 7) hx hb hts (lay_D _) hown hK hP 0 rfl rfl 1 (by decide) (hts _ (List.mem_cons_of_mem _ m_57)) (fun _ h9 => h9) rfl d_D_without_1 ?_
  refine lv_iload_n hx hb d_D_without_4 rfl (lv_at hl 1 rfl) ?_
  have hPc := hP.sub (ws' := [(jh, .inr (1, [.ref jt, .ref jk, .ref jv, .ref jr, .int (nI n)]))]) [1] rfl
  have hKc := hK.sub (tys' := []) [] rfl
  refine vp_callSi (va_Run.run (va_runVN (As := [.int (nI i)]) (rest := []) ⟨hx, hb, hml, hown, hts⟩ (c_H_has l dC dI jh jt jk jv jr n (nI i)) ⟨va_cnB 1 hts (g_c big_w m_263) rfl rfl rfl (hN _ (by decide +kernel : (Jvm.Cond.methodLinkNest "PortDrawer" (66 : Nat) ({ cls := "PortDrawer$Harbour", name := "has", desc := "(I)Z" } : Jvm.MethodName) "PortDrawer") ∈ NWl)) (hts _ (List.mem_cons_of_mem _ m_2)) (by decide +kernel) ⟨Nat.le_of_ble_eq_true rfl, Nat.le_of_ble_eq_true rfl⟩, (hts _ (List.mem_cons_of_mem _ m_262)), (hts _ (List.mem_cons_of_mem _ ms_16))⟩ (ro_V hPc hKc hN (va_recv hKc hPc (ci := 1) (q0 := 0) rfl rfl)) rfl rfl hl.1 rfl (lv_room (Nat.le_of_ble_eq_true rfl)) d_D_without_5 ⟨Nat.le_of_ble_eq_true rfl, Nat.le_of_ble_eq_true rfl⟩)) (fun r_1 er_1 => ?_)
  subst er_1
  refine lv_if_eq (tgt := 22) hx hb d_D_without_8 (by decide) (fun c_8 => ?_) (fun c_8 => ?_)
  · skip
    have c_8 := bI_f c_8
    exact absurd c_8 (by rw [hB_nI hi (by omega)]; decide)
  · skip
    have c_8 := bI_t c_8
    refine lv_aload_n hx hb d_D_without_11 rfl (lv_at hl 0 rfl) ?_
    refine va_get (D := (dC, dI)) (ci := 2) (v := .long w) (C := R_D) (T := F_D) (N := 7) hx hb hts (lay_D _) hown hK hP 0 rfl rfl 6 (by decide) (hts _ (List.mem_cons_of_mem _ m_62)) (fun _ h9 => h9) rfl d_D_without_12 ?_
    refine lv_iload_n hx hb d_D_without_15 rfl (lv_at hl 1 rfl) ?_
    have hPc := hP.sub (ws' := []) [] rfl
    have hKc := hK.sub (tys' := []) [] rfl
    refine vp_callSi (W.runS (As := [.long w, .int (nI i)]) (rest := []) ⟨hx, hb, hml, hown, hts⟩ (c_D_isIn l dC dI w i (by first | assumption | omega)) (va_cwS 2 hts (g_S big_w m_114 m_115 m_1 m_116) rfl rfl rfl (by decide +kernel) ⟨Nat.le_of_ble_eq_true rfl, Nat.le_of_ble_eq_true rfl⟩) (ro_S hPc hKc hN) rfl rfl hl.1 rfl (lv_room (Nat.le_of_ble_eq_true rfl)) d_D_without_16 ⟨Nat.le_of_ble_eq_true rfl, Nat.le_of_ble_eq_true rfl⟩) (fun r_2 er_2 => ?_)
    subst er_2
    refine lv_if_ne (tgt := 32) hx hb d_D_without_19 (by decide) (fun c_19 => ?_) (fun c_19 => ?_)
    · skip
      have c_19 := bI_t c_19
      refine lv_aload_n hx hb d_D_without_32 rfl (lv_at hl 0 rfl) ?_
      refine va_get (D := (dC, dI)) (ci := 2) (v := .long w) (C := R_D) (T := F_D) (N := 7) hx hb hts (lay_D _) hown hK hP 0 rfl rfl 6 (by decide) (hts _ (List.mem_cons_of_mem _ m_62)) (fun _ h9 => h9) rfl d_D_without_33 ?_
      have hPc := hP.sub (ws' := []) [] rfl
      have hKc := hK.sub (tys' := []) [] rfl
      refine vp_callSi (W.runS (As := [.long w]) (rest := []) ⟨hx, hb, hml, hown, hts⟩ (c_J_bitCount l dC dI w) (va_cwS 1 hts (g_S big_w m_104 m_105 m_10 m_106) rfl rfl rfl (by decide +kernel) ⟨Nat.le_of_ble_eq_true rfl, Nat.le_of_ble_eq_true rfl⟩) (ro_S hPc hKc hN) rfl rfl hl.1 rfl (lv_room (Nat.le_of_ble_eq_true rfl)) d_D_without_36 ⟨Nat.le_of_ble_eq_true rfl, Nat.le_of_ble_eq_true rfl⟩) (fun r_3 er_3 => ?_)
      subst er_3
      refine lv_istore_n (lv' := [(2, .int (nI (cnt (wbit w) 64))), (0, .ref jd), (1, .int (nI i))]) hx hb d_D_without_39 rfl hl (by decide) rfl (fun ls hl => ?_)
      refine lv_aload_n hx hb d_D_without_40 rfl (lv_at hl 1 rfl) ?_
      refine lv_aload_n hx hb d_D_without_41 rfl (lv_at hl 1 rfl) ?_
      refine lv_iload_n hx hb d_D_without_42 rfl (lv_at hl 2 rfl) ?_
      have hPc := hP.sub (ws' := [(jd, .inr (2, [.long sd, .ref jh, .ref jh2, .ref jg, .ref jb, .ref jy, .long w])), (jg, .inl (cg, 43, .inr (.inl G)))]) [0, 2] rfl
      have hKc := hK.sub (tys' := [(cg, .long)]) [0] rfl
      refine vp_callSl (W.runV (As := [.int (nI i)]) (rest := [.ref jd]) ⟨hx, hb, hml, hown, hts⟩ (c_D_leftWithout l dC dI jd jh jh2 jg jb jy sd w cg G i (by first | assumption | omega)) (cwV 1 hts (g_V big_w m_117 m_119 ms_4 m_1 m_120) rfl rfl rfl (by decide +kernel) ⟨Nat.le_of_ble_eq_true rfl, Nat.le_of_ble_eq_true rfl⟩) (ro_V hPc hKc hN (va_recv hKc hPc (ci := 2) (q0 := 0) rfl rfl)) rfl rfl hl.1 rfl (lv_room (Nat.le_of_ble_eq_true rfl)) d_D_without_43 ⟨Nat.le_of_ble_eq_true rfl, Nat.le_of_ble_eq_true rfl⟩) (fun r_4 er_4 => ?_)
      subst er_4
      refine va_put (D := (dC, dI)) (ci := 2) (v := .long (noW w (G i))) (ty := .long) (C := R_D) (T := F_D) (N := 7) hx hb hts (lay_D _) ft_D tok_D nok_D hown hK hP hD hS 0 rfl rfl 6 (by decide) (hts _ (List.mem_cons_of_mem _ m_62)) (fun _ h9 => h9) rfl (by decide +kernel) rfl rfl (Nat.le_of_ble_eq_true rfl) d_D_without_46 (fun H locs hP hD hS => ?_)
      have hP : va_P (dC, dI) classes [(jd, .inr (2, [.long sd, .ref jh, .ref jh2, .ref jg, .ref jb, .ref jy, .long (noW w (G i))])), (jh, .inr (1, [.ref jt, .ref jk, .ref jv, .ref jr, .int (nI n)])), (jg, .inl (cg, 43, .inr (.inl G)))] H := hP
      have hD : va_D A [(jd, .inr (2, [.long sd, .ref jh, .ref jh2, .ref jg, .ref jb, .ref jy, .long (noW w (G i))])), (jh, .inr (1, [.ref jt, .ref jk, .ref jv, .ref jr, .int (nI n)])), (jg, .inl (cg, 43, .inr (.inl G)))] := hD
      refine lv_iload_n hx hb d_D_without_49 rfl (lv_at hl 0 rfl) ?_
      refine lv_aload_n hx hb d_D_without_50 rfl (lv_at hl 1 rfl) ?_
      refine va_get (D := (dC, dI)) (ci := 2) (v := .long (noW w (G i))) (C := R_D) (T := F_D) (N := 7) hx hb hts (lay_D _) hown hK hP 0 rfl rfl 6 (by decide) (hts _ (List.mem_cons_of_mem _ m_62)) (fun _ h9 => h9) rfl d_D_without_51 ?_
      have hPc := hP.sub (ws' := []) [] rfl
      have hKc := hK.sub (tys' := []) [] rfl
      refine vp_callSi (W.runS (As := [.long (noW w (G i))]) (rest := [.int (nI (cnt (wbit w) 64))]) ⟨hx, hb, hml, hown, hts⟩ (c_J_bitCount l dC dI (noW w (G i))) (va_cwS 1 hts (g_S big_w m_104 m_105 m_10 m_106) rfl rfl rfl (by decide +kernel) ⟨Nat.le_of_ble_eq_true rfl, Nat.le_of_ble_eq_true rfl⟩) (ro_S hPc hKc hN) rfl rfl hl.1 rfl (lv_room (Nat.le_of_ble_eq_true rfl)) d_D_without_54 ⟨Nat.le_of_ble_eq_true rfl, Nat.le_of_ble_eq_true rfl⟩) (fun r_5 er_5 => ?_)
      subst er_5
      refine lv_isub hx hb d_D_without_57 ?_
      have hP9 := hP.sub (ws' := [(jd, .inr (2, [.long sd, .ref jh, .ref jh2, .ref jg, .ref jb, .ref jy, .long (noW w (G i))])), (jh, .inr (1, [.ref jt, .ref jk, .ref jv, .ref jr, .int (nI n)])), (jg, .inl (cg, 43, .inr (.inl G)))]) [0, 1, 2] rfl
      have hD9 := hD.sub (ws' := [(jd, .inr (2, [.long sd, .ref jh, .ref jh2, .ref jg, .ref jb, .ref jy, .long (noW w (G i))])), (jh, .inr (1, [.ref jt, .ref jk, .ref jv, .ref jr, .int (nI n)])), (jg, .inl (cg, 43, .inr (.inl G)))]) [0, 1, 2] (by decide) rfl
      have hK9 := hK.sub (tys' := [(cg, .long)]) [0] rfl
      exact W.iret (v := (nI (cnt (wbit w) 64)) - (nI (cnt (wbit (noW w (G i))) 64))) hx hb hr (fun t ht hW => ⟨⟨(nI (cnt (wbit w) 64)) - (nI (cnt (wbit (noW w (G i))) 64)), (), rfl, rfl, by rw [ht]; exact hP9, va_K.moved hW.alike hK9, hD9⟩, hS.F ht⟩) hS.2.2 d_D_without_58
    · skip
      have c_19 := bI_f c_19
      exact absurd c_19 (by rw [hw9]; decide)
set_option maxHeartbeats 4000000 in
set_option maxRecDepth 100000 in
/-- without, of another -/
theorem c_D_withoutx (l : Launch) (hl9 : l.stackTraces = false) (dC : Nat → ClassId) (dI : Nat → Nat → Nat) (jd jh jh2 jg jb jy : Nat) (sd w : Int64) (jt jk jv jr n : Nat) (p0 : Int32) (hn : n ≤ 43) (hex : hB n p0 = false ∨ wbit w p0.toNatClampNeg = false) (sa : Nat → Nat) (sz : Nat) : vx_Met l y_D_without w_D_without ({ frames := 6, cells := 1, slots := 6, locals := 100 }) (wx_P dC dI [.ref jd, .int p0] [(jd, .inr (2, [.long sd, .ref jh, .ref jh2, .ref jg, .ref jb, .ref jy, .long w])), (jh, .inr (1, [.ref jt, .ref jk, .ref jv, .ref jr, .int (nI n)]))] [] sa sz) (va_Qi (fun (r : Int32) (_ : Unit) => False) (fun (u : Unit) => wr_B dC dI (va_A [(jd, .inr (2, [.long sd, .ref jh, .ref jh2, .ref jg, .ref jb, .ref jy, .long w])), (jh, .inr (1, [.ref jt, .ref jk, .ref jv, .ref jr, .int (nI n)]))] sz) [(jd, .inr (2, [.long sd, .ref jh, .ref jh2, .ref jg, .ref jb, .ref jy, .long w])), (jh, .inr (1, [.ref jt, .ref jk, .ref jv, .ref jr, .int (nI n)]))] []) (va_A [(jd, .inr (2, [.long sd, .ref jh, .ref jh2, .ref jg, .ref jb, .ref jy, .long w])), (jh, .inr (1, [.ref jt, .ref jk, .ref jv, .ref jr, .int (nI n)]))] sz)) (wx_X dC dI "java/lang/IllegalArgumentException" (va_A [(jd, .inr (2, [.long sd, .ref jh, .ref jh2, .ref jg, .ref jb, .ref jy, .long w])), (jh, .inr (1, [.ref jt, .ref jk, .ref jv, .ref jr, .int (nI n)]))] sz) [(jd, .inr (2, [.long sd, .ref jh, .ref jh2, .ref jg, .ref jb, .ref jy, .long w])), (jh, .inr (1, [.ref jt, .ref jk, .ref jv, .ref jr, .int (nI n)]))] []) 1 6 (va_A [(jd, .inr (2, [.long sd, .ref jh, .ref jh2, .ref jg, .ref jb, .ref jy, .long w])), (jh, .inr (1, [.ref jt, .ref jk, .ref jv, .ref jr, .int (nI n)]))] sz) := by
  refine vx_ofW (cc := b_D_without) (maxL := 3) (ret := (Option.some Jvm.ClassFile.FieldType.int)) (by decide) rfl ?_
  intro p e s m args below meth c s₁ B0 hml hEx hv0
  obtain ⟨rfl, hsz, hP, hK, hD0, hN, hT, hZ⟩ := hv0
  have hx := B0.exec
  have hb := B0.bytes
  have hr := B0.returns
  have hts := atoms_spec (ws := w_D_without) B0.pre
  have hown : s.vm.findClass R_D = some m.cls := findClass_of_methodNamed B0.named
  have hlocks := B0.notSynchronized
  subst hsz
  have hD := hD0.self (sz := s.heap.size)
  generalize hAe : va_A [(jd, .inr (2, [.long sd, .ref jh, .ref jh2, .ref jg, .ref jb, .ref jy, .long w])), (jh, .inr (1, [.ref jt, .ref jk, .ref jv, .ref jr, .int (nI n)]))] s.heap.size = A at hD hZ ⊢
  have hA : ∀ q : Nat, s.heap.size ≤ q → A q := fun q h => by rw [← hAe]; exact Or.inr h
  have hS : va_S A s.heap s.heap [] := va_S.rf
  have hP : va_P (dC, dI) classes [(jd, .inr (2, [.long sd, .ref jh, .ref jh2, .ref jg, .ref jb, .ref jy, .long w])), (jh, .inr (1, [.ref jt, .ref jk, .ref jv, .ref jr, .int (nI n)]))] s.heap := hP
  have hl := lv_entry ([.ref jd, .int p0]) (n := 3) (Nat.le_of_ble_eq_true rfl)
  rw [lg_entry_eq]
  generalize (lg_sl ([.ref jd, .int p0]) ++ List.replicate (3 - (lg_sl ([.ref jd, .int p0])).length) Slot.unset).toArray = ls at hl ⊢
  have hl : lv_has ls 3 [(0, .ref jd), (1, .int p0)] := hl
  refine lv_aload_n hx hb d_D_without_0 rfl (lv_at hl 0 rfl) ?_
  refine va_get (D := (dC, dI)) (ci := 2) (v := .ref jh) (C := R_D) (T := F_D) (N := 7) hx hb hts (lay_D _) hown hK hP 0 rfl rfl 1 (by decide) (hts _ (List.mem_cons_of_mem _ m_57)) (fun _ h9 => h9) rfl d_D_without_1 ?_
  refine lv_iload_n hx hb d_D_without_4 rfl (lv_at hl 1 rfl) ?_
  have hPc := hP.sub (ws' := [(jh, .inr (1, [.ref jt, .ref jk, .ref jv, .ref jr, .int (nI n)]))]) [1] rfl
  have hKc := hK.sub (tys' := []) [] rfl
  refine vp_callSi (va_Run.run (va_runVN (As := [.int p0]) (rest := []) ⟨hx, hb, hml, hown, hts⟩ (c_H_has l dC dI jh jt jk jv jr n p0) ⟨va_cnB 1 hts (g_c big_w m_263) rfl rfl rfl (hN _ (by decide +kernel : (Jvm.Cond.methodLinkNest "PortDrawer" (66 : Nat) ({ cls := "PortDrawer$Harbour", name := "has", desc := "(I)Z" } : Jvm.MethodName) "PortDrawer") ∈ NWl)) (hts _ (List.mem_cons_of_mem _ m_2)) (by decide +kernel) ⟨Nat.le_of_ble_eq_true rfl, Nat.le_of_ble_eq_true rfl⟩, (hts _ (List.mem_cons_of_mem _ m_262)), (hts _ (List.mem_cons_of_mem _ ms_16))⟩ (ro_V hPc hKc hN (va_recv hKc hPc (ci := 1) (q0 := 0) rfl rfl)) rfl rfl hl.1 rfl (lv_room (Nat.le_of_ble_eq_true rfl)) d_D_without_5 ⟨Nat.le_of_ble_eq_true rfl, Nat.le_of_ble_eq_true rfl⟩)) (fun r_1 er_1 => ?_)
  subst er_1
  refine lv_if_eq (tgt := 22) hx hb d_D_without_8 (by decide) (fun c_8 => ?_) (fun c_8 => ?_)
  · skip
    have c_8 := bI_f c_8
    have hP9 := hP.sub (ws' := [(jd, .inr (2, [.long sd, .ref jh, .ref jh2, .ref jg, .ref jb, .ref jy, .long w])), (jh, .inr (1, [.ref jt, .ref jk, .ref jv, .ref jr, .int (nI n)]))]) [0, 1] rfl
    have hD9 := hD.sub (ws' := [(jd, .inr (2, [.long sd, .ref jh, .ref jh2, .ref jg, .ref jb, .ref jy, .long w])), (jh, .inr (1, [.ref jt, .ref jk, .ref jv, .ref jr, .int (nI n)]))]) [0, 1] (by decide) rfl
    have hK9 := hK.sub (tys' := []) [] rfl
    exact vx_throwS (own := R_D) (cls := "java/lang/IllegalArgumentException") (names := ["java/lang/RuntimeException", "java/lang/Exception"]) hx hb hl9 hown (by decide +kernel) (by decide +kernel) (hts _ (List.mem_cons_of_mem _ m_160)) (hts _ (List.mem_cons_of_mem _ m_8)) (hT (123, "no such part is left") (by decide +kernel)) (hat_ok hts hN (L := vx_atS R_D 45 "java/lang/IllegalArgumentException" ["java/lang/RuntimeException", "java/lang/Exception"]) (by decide +kernel) (by decide +kernel)) (by decide +kernel) hZ.1 hZ.2 hS (hl.1.trans hml.symm) d_D_without_22 d_D_without_25 d_D_without_26 d_D_without_28 d_D_without_31 (fun x h => (hEx x h).elim) (Nat.le_of_ble_eq_true rfl) (Nat.le_of_ble_eq_true rfl) (Nat.le_of_ble_eq_true rfl) (Nat.le_of_ble_eq_true rfl) hlocks (fun t ha hsz hk => ⟨(), trivial, ⟨rfl, hP9.kept (fun k q hq => hk q.1 (hP9 k q hq).lt), va_K.moved ha hK9, hD9⟩, Nat.le_trans hS.1 hsz, fun q h1 h2 => (hk q (Nat.lt_of_lt_of_le h1 hS.1)).trans (hS.2.1 q h1 h2)⟩) hS.2.2 (Nat.le_of_ble_eq_true rfl) (Nat.le_of_ble_eq_true rfl)
  · skip
    have c_8 := bI_t c_8
    obtain ⟨i, hi, e9⟩ := hB_of c_8 (by omega)
    rw [show p0 = nI i from (e9)] at hl
    refine lv_aload_n hx hb d_D_without_11 rfl (lv_at hl 0 rfl) ?_
    refine va_get (D := (dC, dI)) (ci := 2) (v := .long w) (C := R_D) (T := F_D) (N := 7) hx hb hts (lay_D _) hown hK hP 0 rfl rfl 6 (by decide) (hts _ (List.mem_cons_of_mem _ m_62)) (fun _ h9 => h9) rfl d_D_without_12 ?_
    refine lv_iload_n hx hb d_D_without_15 rfl (lv_at hl 1 rfl) ?_
    have hPc := hP.sub (ws' := []) [] rfl
    have hKc := hK.sub (tys' := []) [] rfl
    refine vp_callSi (W.runS (As := [.long w, .int (nI i)]) (rest := []) ⟨hx, hb, hml, hown, hts⟩ (c_D_isIn l dC dI w i (by first | assumption | omega)) (va_cwS 2 hts (g_S big_w m_114 m_115 m_1 m_116) rfl rfl rfl (by decide +kernel) ⟨Nat.le_of_ble_eq_true rfl, Nat.le_of_ble_eq_true rfl⟩) (ro_S hPc hKc hN) rfl rfl hl.1 rfl (lv_room (Nat.le_of_ble_eq_true rfl)) d_D_without_16 ⟨Nat.le_of_ble_eq_true rfl, Nat.le_of_ble_eq_true rfl⟩) (fun r_2 er_2 => ?_)
    subst er_2
    refine lv_if_ne (tgt := 32) hx hb d_D_without_19 (by decide) (fun c_19 => ?_) (fun c_19 => ?_)
    · skip
      have c_19 := bI_t c_19
      exact absurd c_19 (by rw [c_8, e9, nI_clamp (by omega)] at hex; rw [hex.resolve_left (by decide)]; decide)
    · skip
      have c_19 := bI_f c_19
      have hP9 := hP.sub (ws' := [(jd, .inr (2, [.long sd, .ref jh, .ref jh2, .ref jg, .ref jb, .ref jy, .long w])), (jh, .inr (1, [.ref jt, .ref jk, .ref jv, .ref jr, .int (nI n)]))]) [0, 1] rfl
      have hD9 := hD.sub (ws' := [(jd, .inr (2, [.long sd, .ref jh, .ref jh2, .ref jg, .ref jb, .ref jy, .long w])), (jh, .inr (1, [.ref jt, .ref jk, .ref jv, .ref jr, .int (nI n)]))]) [0, 1] (by decide) rfl
      have hK9 := hK.sub (tys' := []) [] rfl
      exact vx_throwS (own := R_D) (cls := "java/lang/IllegalArgumentException") (names := ["java/lang/RuntimeException", "java/lang/Exception"]) hx hb hl9 hown (by decide +kernel) (by decide +kernel) (hts _ (List.mem_cons_of_mem _ m_160)) (hts _ (List.mem_cons_of_mem _ m_8)) (hT (123, "no such part is left") (by decide +kernel)) (hat_ok hts hN (L := vx_atS R_D 45 "java/lang/IllegalArgumentException" ["java/lang/RuntimeException", "java/lang/Exception"]) (by decide +kernel) (by decide +kernel)) (by decide +kernel) hZ.1 hZ.2 hS (hl.1.trans hml.symm) d_D_without_22 d_D_without_25 d_D_without_26 d_D_without_28 d_D_without_31 (fun x h => (hEx x h).elim) (Nat.le_of_ble_eq_true rfl) (Nat.le_of_ble_eq_true rfl) (Nat.le_of_ble_eq_true rfl) (Nat.le_of_ble_eq_true rfl) hlocks (fun t ha hsz hk => ⟨(), trivial, ⟨rfl, hP9.kept (fun k q hq => hk q.1 (hP9 k q hq).lt), va_K.moved ha hK9, hD9⟩, Nat.le_trans hS.1 hsz, fun q h1 h2 => (hk q (Nat.lt_of_lt_of_le h1 hS.1)).trans (hS.2.1 q h1 h2)⟩) hS.2.2 (Nat.le_of_ble_eq_true rfl) (Nat.le_of_ble_eq_true rfl)
set_option maxHeartbeats 4000000 in
set_option maxRecDepth 100000 in
/-- same, of a size -/
theorem c_D_same (l : Launch) (dC : Nat → ClassId) (dI : Nat → Nat → Nat) (jd jh jh2 jg jb jy : Nat) (sd w : Int64) (jt jk jv jr n : Nat) (ck cv cr : ClassId) (K V R : Nat → Int32) (jt2 jk2 jv2 jr2 n2 : Nat) (ck2 cv2 cr2 : ClassId) (x2 : Int64) (K2 V2 R2 : Nat → Int32) (ot : Int64) (z : Nat) (hn : n ≤ 43) (hz : z ≤ 40) (sz : Nat) : Met l y_D_same w_D_same ({ frames := 5, cells := 0, slots := 0, locals := 113 }) (wr_P dC dI [.ref jd, .long ot, .int (nI z)] [(jd, .inr (2, [.long sd, .ref jh, .ref jh2, .ref jg, .ref jb, .ref jy, .long w])), (jh, .inr (1, [.ref jt, .ref jk, .ref jv, .ref jr, .int (nI n)])), (jk, .inl (ck, 43, .inl K)), (jv, .inl (cv, 43, .inl V)), (jr, .inl (cr, 43, .inl R)), (jh2, .inr (1, [.ref jt2, .ref jk2, .ref jv2, .ref jr2, .int (nI n2)])), (jt2, .inr (0, [.long x2])), (jk2, .inl (ck2, 43, .inl K2)), (jv2, .inl (cv2, 43, .inl V2)), (jr2, .inl (cr2, 43, .inl R2))] [(ck, .int), (cv, .int), (cr, .int), (ck2, .int), (cv2, .int), (cr2, .int)] sz) (va_Qi (fun (r : Int32) (_ : Unit) => r = bI (lkB n (z + 3) K V R (flS ot K2 V2 R2 z).2.1 (flS ot K2 V2 R2 z).2.2.1 (flS ot K2 V2 R2 z).2.2.2)) (fun (u : Unit) => wr_B dC dI (va_A [(jd, .inr (2, [.long sd, .ref jh, .ref jh2, .ref jg, .ref jb, .ref jy, .long w])), (jh, .inr (1, [.ref jt, .ref jk, .ref jv, .ref jr, .int (nI n)])), (jk, .inl (ck, 43, .inl K)), (jv, .inl (cv, 43, .inl V)), (jr, .inl (cr, 43, .inl R)), (jh2, .inr (1, [.ref jt2, .ref jk2, .ref jv2, .ref jr2, .int (nI n2)])), (jt2, .inr (0, [.long x2])), (jk2, .inl (ck2, 43, .inl K2)), (jv2, .inl (cv2, 43, .inl V2)), (jr2, .inl (cr2, 43, .inl R2))] sz) [(jd, .inr (2, [.long sd, .ref jh, .ref jh2, .ref jg, .ref jb, .ref jy, .long w])), (jh, .inr (1, [.ref jt, .ref jk, .ref jv, .ref jr, .int (nI n)])), (jk, .inl (ck, 43, .inl K)), (jv, .inl (cv, 43, .inl V)), (jr, .inl (cr, 43, .inl R)), (jh2, .inr (1, [.ref jt2, .ref jk2, .ref jv2, .ref jr2, .int (nI (z + 3))])), (jt2, .inr (0, [.long ((flS ot K2 V2 R2 z).1)])), (jk2, .inl (ck2, 43, .inl ((flS ot K2 V2 R2 z).2.1))), (jv2, .inl (cv2, 43, .inl ((flS ot K2 V2 R2 z).2.2.1))), (jr2, .inl (cr2, 43, .inl ((flS ot K2 V2 R2 z).2.2.2)))] [(ck, .int), (cv, .int), (cr, .int), (ck2, .int), (cv2, .int), (cr2, .int)]) (va_A [(jd, .inr (2, [.long sd, .ref jh, .ref jh2, .ref jg, .ref jb, .ref jy, .long w])), (jh, .inr (1, [.ref jt, .ref jk, .ref jv, .ref jr, .int (nI n)])), (jk, .inl (ck, 43, .inl K)), (jv, .inl (cv, 43, .inl V)), (jr, .inl (cr, 43, .inl R)), (jh2, .inr (1, [.ref jt2, .ref jk2, .ref jv2, .ref jr2, .int (nI n2)])), (jt2, .inr (0, [.long x2])), (jk2, .inl (ck2, 43, .inl K2)), (jv2, .inl (cv2, 43, .inl V2)), (jr2, .inl (cr2, 43, .inl R2))] sz)) 0 0 (va_A [(jd, .inr (2, [.long sd, .ref jh, .ref jh2, .ref jg, .ref jb, .ref jy, .long w])), (jh, .inr (1, [.ref jt, .ref jk, .ref jv, .ref jr, .int (nI n)])), (jk, .inl (ck, 43, .inl K)), (jv, .inl (cv, 43, .inl V)), (jr, .inl (cr, 43, .inl R)), (jh2, .inr (1, [.ref jt2, .ref jk2, .ref jv2, .ref jr2, .int (nI n2)])), (jt2, .inr (0, [.long x2])), (jk2, .inl (ck2, 43, .inl K2)), (jv2, .inl (cv2, 43, .inl V2)), (jr2, .inl (cr2, 43, .inl R2))] sz) := by
  refine Met.ofW (cc := b_D_same) (maxL := 4) (ret := (Option.some Jvm.ClassFile.FieldType.boolean)) (by decide) rfl ?_
  intro p e s m args below meth c s₁ B0 hml hv0
  obtain ⟨rfl, hsz, hP, hK, hD0, hN⟩ := hv0
  have hx := B0.exec
  have hb := B0.bytes
  have hr := B0.returns
  have hts := atoms_spec (ws := w_D_same) B0.pre
  have hown : s.vm.findClass R_D = some m.cls := findClass_of_methodNamed B0.named
  have hlocks := B0.notSynchronized
  subst hsz
  have hD := hD0.self (sz := s.heap.size)
  generalize hAe : va_A [(jd, .inr (2, [.long sd, .ref jh, .ref jh2, .ref jg, .ref jb, .ref jy, .long w])), (jh, .inr (1, [.ref jt, .ref jk, .ref jv, .ref jr, .int (nI n)])), (jk, .inl (ck, 43, .inl K)), (jv, .inl (cv, 43, .inl V)), (jr, .inl (cr, 43, .inl R)), (jh2, .inr (1, [.ref jt2, .ref jk2, .ref jv2, .ref jr2, .int (nI n2)])), (jt2, .inr (0, [.long x2])), (jk2, .inl (ck2, 43, .inl K2)), (jv2, .inl (cv2, 43, .inl V2)), (jr2, .inl (cr2, 43, .inl R2))] s.heap.size = A at hD ⊢
  have hA : ∀ q : Nat, s.heap.size ≤ q → A q := fun q h => by rw [← hAe]; exact Or.inr h
  have hS : va_S A s.heap s.heap [] := va_S.rf
  have hP : va_P (dC, dI) classes [(jd, .inr (2, [.long sd, .ref jh, .ref jh2, .ref jg, .ref jb, .ref jy, .long w])), (jh, .inr (1, [.ref jt, .ref jk, .ref jv, .ref jr, .int (nI n)])), (jk, .inl (ck, 43, .inl K)), (jv, .inl (cv, 43, .inl V)), (jr, .inl (cr, 43, .inl R)), (jh2, .inr (1, [.ref jt2, .ref jk2, .ref jv2, .ref jr2, .int (nI n2)])), (jt2, .inr (0, [.long x2])), (jk2, .inl (ck2, 43, .inl K2)), (jv2, .inl (cv2, 43, .inl V2)), (jr2, .inl (cr2, 43, .inl R2))] s.heap := hP
  have hl := lv_entry ([.ref jd, .long ot, .int (nI z)]) (n := 4) (Nat.le_of_ble_eq_true rfl)
  rw [lg_entry_eq]
  generalize (lg_sl ([.ref jd, .long ot, .int (nI z)]) ++ List.replicate (4 - (lg_sl ([.ref jd, .long ot, .int (nI z)])).length) Slot.unset).toArray = ls at hl ⊢
  have hl : lv_has ls 4 [(0, .ref jd), (1, .long ot), (3, .int (nI z))] := hl
  refine lv_iload_n hx hb d_D_same_0 rfl (lv_at hl 2 rfl) ?_
  have hPc := hP.sub (ws' := []) [] rfl
  have hKc := hK.sub (tys' := []) [] rfl
  refine vp_callSi (W.runS (As := [.int (nI z)]) (rest := []) ⟨hx, hb, hml, hown, hts⟩ (c_D_isSize l dC dI (nI z)) (va_cwS 1 hts (g_S big_w m_157 m_158 m_1 m_159) rfl rfl rfl (by decide +kernel) ⟨Nat.le_of_ble_eq_true rfl, Nat.le_of_ble_eq_true rfl⟩) (ro_S hPc hKc hN) rfl rfl hl.1 rfl (lv_room (Nat.le_of_ble_eq_true rfl)) d_D_same_1 ⟨Nat.le_of_ble_eq_true rfl, Nat.le_of_ble_eq_true rfl⟩) (fun r_1 er_1 => ?_)
  subst er_1
  refine lv_if_ne (tgt := 17) hx hb d_D_same_4 (by decide) (fun c_4 => ?_) (fun c_4 => ?_)
  · skip
    have c_4 := bI_t c_4
    refine lv_aload_n hx hb d_D_same_17 rfl (lv_at hl 0 rfl) ?_
    refine va_get (D := (dC, dI)) (ci := 2) (v := .ref jh2) (C := R_D) (T := F_D) (N := 7) hx hb hts (lay_D _) hown hK hP 0 rfl rfl 2 (by decide) (hts _ (List.mem_cons_of_mem _ m_58)) (fun _ h9 => h9) rfl d_D_same_18 ?_
    refine lv_lload_n hx hb d_D_same_21 rfl (lv_at hl 1 rfl) ?_
    refine lv_iload_n hx hb d_D_same_22 rfl (lv_at hl 2 rfl) ?_
    have hPc := hP.sub (ws' := [(jh2, .inr (1, [.ref jt2, .ref jk2, .ref jv2, .ref jr2, .int (nI n2)])), (jt2, .inr (0, [.long x2])), (jk2, .inl (ck2, 43, .inl K2)), (jv2, .inl (cv2, 43, .inl V2)), (jr2, .inl (cr2, 43, .inl R2))]) [5, 6, 7, 8, 9] rfl
    have hKc := hK.sub (tys' := [(ck2, .int), (cv2, .int), (cr2, .int)]) [3, 4, 5] rfl
    have hDc := hD.sub (ws' := [(jh2, .inr (1, [.ref jt2, .ref jk2, .ref jv2, .ref jr2, .int (nI n2)])), (jt2, .inr (0, [.long x2])), (jk2, .inl (ck2, 43, .inl K2)), (jv2, .inl (cv2, 43, .inl V2)), (jr2, .inl (cr2, 43, .inl R2))]) [5, 6, 7, 8, 9] (by decide) rfl
    have hFc := va_free (wc := [(jh2, .inr (1, [.ref jt2, .ref jk2, .ref jv2, .ref jr2, .int (nI n2)])), (jt2, .inr (0, [.long x2])), (jk2, .inl (ck2, 43, .inl K2)), (jv2, .inl (cv2, 43, .inl V2)), (jr2, .inl (cr2, 43, .inl R2))]) hD hS hA [5, 6, 7, 8, 9] rfl
    refine va_callv (va_runVN (As := [.long ot, .int (nI z)]) (rest := []) ⟨hx, hb, hml, hown, hts⟩ (c_H_fill l dC dI jh2 jt2 jk2 jv2 jr2 n2 ck2 cv2 cr2 x2 K2 V2 R2 ot z (by first | assumption | omega) _) ⟨va_cnB 2 hts (g_c big_w m_230) rfl rfl rfl (hN _ (by decide +kernel : (Jvm.Cond.methodLinkNest "PortDrawer" (48 : Nat) ({ cls := "PortDrawer$Harbour", name := "fill", desc := "(JI)V" } : Jvm.MethodName) "PortDrawer") ∈ NWl)) (hts _ (List.mem_cons_of_mem _ m_2)) (by decide +kernel) ⟨Nat.le_of_ble_eq_true rfl, Nat.le_of_ble_eq_true rfl⟩, (hts _ (List.mem_cons_of_mem _ m_229)), (hts _ (List.mem_cons_of_mem _ ms_9))⟩ (wr_V hPc hKc hDc hN (va_recv hKc hPc (ci := 1) (q0 := 0) rfl rfl)) rfl rfl hl.1 rfl (lv_room (Nat.le_of_ble_eq_true rfl)) d_D_same_23 ⟨Nat.le_of_ble_eq_true rfl, Nat.le_of_ble_eq_true rfl⟩) hS (fun q _ h => hFc q h) hFc (fun u t H1 locs ht hvm hw hB hz1 hk1 hS => ?_)
    obtain ⟨hP1, hK1, hD1⟩ := hB
    rw [ht] at hP1
    obtain ⟨hP, hD⟩ := va_join (wr := [(jd, .inr (2, [.long sd, .ref jh, .ref jh2, .ref jg, .ref jb, .ref jy, .long w])), (jh, .inr (1, [.ref jt, .ref jk, .ref jv, .ref jr, .int (nI n)])), (jk, .inl (ck, 43, .inl K)), (jv, .inl (cv, 43, .inl V)), (jr, .inl (cr, 43, .inl R))]) (w1 := [(jh2, .inr (1, [.ref jt2, .ref jk2, .ref jv2, .ref jr2, .int (nI (z + 3))])), (jt2, .inr (0, [.long ((flS ot K2 V2 R2 z).1)])), (jk2, .inl (ck2, 43, .inl ((flS ot K2 V2 R2 z).2.1))), (jv2, .inl (cv2, 43, .inl ((flS ot K2 V2 R2 z).2.2.1))), (jr2, .inl (cr2, 43, .inl ((flS ot K2 V2 R2 z).2.2.2)))]) hP hD [5, 6, 7, 8, 9] [0, 1, 2, 3, 4] rfl rfl (by decide) (by decide) hk1 hFc hP1 hD1
    generalize H1 = H at hP hS ⊢
    have hP : va_P (dC, dI) classes [(jd, .inr (2, [.long sd, .ref jh, .ref jh2, .ref jg, .ref jb, .ref jy, .long w])), (jh, .inr (1, [.ref jt, .ref jk, .ref jv, .ref jr, .int (nI n)])), (jk, .inl (ck, 43, .inl K)), (jv, .inl (cv, 43, .inl V)), (jr, .inl (cr, 43, .inl R)), (jh2, .inr (1, [.ref jt2, .ref jk2, .ref jv2, .ref jr2, .int (nI (z + 3))])), (jt2, .inr (0, [.long ((flS ot K2 V2 R2 z).1)])), (jk2, .inl (ck2, 43, .inl ((flS ot K2 V2 R2 z).2.1))), (jv2, .inl (cv2, 43, .inl ((flS ot K2 V2 R2 z).2.2.1))), (jr2, .inl (cr2, 43, .inl ((flS ot K2 V2 R2 z).2.2.2)))] H := hP
    have hD : va_D A [(jd, .inr (2, [.long sd, .ref jh, .ref jh2, .ref jg, .ref jb, .ref jy, .long w])), (jh, .inr (1, [.ref jt, .ref jk, .ref jv, .ref jr, .int (nI n)])), (jk, .inl (ck, 43, .inl K)), (jv, .inl (cv, 43, .inl V)), (jr, .inl (cr, 43, .inl R)), (jh2, .inr (1, [.ref jt2, .ref jk2, .ref jv2, .ref jr2, .int (nI (z + 3))])), (jt2, .inr (0, [.long ((flS ot K2 V2 R2 z).1)])), (jk2, .inl (ck2, 43, .inl ((flS ot K2 V2 R2 z).2.1))), (jv2, .inl (cv2, 43, .inl ((flS ot K2 V2 R2 z).2.2.1))), (jr2, .inl (cr2, 43, .inl ((flS ot K2 V2 R2 z).2.2.2)))] := hD
    refine lv_aload_n hx hb d_D_same_26 rfl (lv_at hl 0 rfl) ?_
    refine va_get (D := (dC, dI)) (ci := 2) (v := .ref jh) (C := R_D) (T := F_D) (N := 7) hx hb hts (lay_D _) hown hK hP 0 rfl rfl 1 (by decide) (hts _ (List.mem_cons_of_mem _ m_57)) (fun _ h9 => h9) rfl d_D_same_27 ?_
    refine lv_aload_n hx hb d_D_same_30 rfl (lv_at hl 0 rfl) ?_
    refine va_get (D := (dC, dI)) (ci := 2) (v := .ref jh2) (C := R_D) (T := F_D) (N := 7) hx hb hts (lay_D _) hown hK hP 0 rfl rfl 2 (by decide) (hts _ (List.mem_cons_of_mem _ m_58)) (fun _ h9 => h9) rfl d_D_same_31 ?_
    have hPc := hP.sub (ws' := [(jh, .inr (1, [.ref jt, .ref jk, .ref jv, .ref jr, .int (nI n)])), (jk, .inl (ck, 43, .inl K)), (jv, .inl (cv, 43, .inl V)), (jr, .inl (cr, 43, .inl R)), (jh2, .inr (1, [.ref jt2, .ref jk2, .ref jv2, .ref jr2, .int (nI (z + 3))])), (jk2, .inl (ck2, 43, .inl ((flS ot K2 V2 R2 z).2.1))), (jv2, .inl (cv2, 43, .inl ((flS ot K2 V2 R2 z).2.2.1))), (jr2, .inl (cr2, 43, .inl ((flS ot K2 V2 R2 z).2.2.2)))]) [1, 2, 3, 4, 5, 7, 8, 9] rfl
    have hKc := hK.sub (tys' := [(ck, .int), (cv, .int), (cr, .int), (ck2, .int), (cv2, .int), (cr2, .int)]) [0, 1, 2, 3, 4, 5] rfl
    refine vp_callSi (va_Run.run (va_runVN (As := [.ref jh2]) (rest := []) ⟨hx, hb, hml, hown, hts⟩ (c_H_isLike l dC dI jh jt jk jv jr n ck cv cr K V R jh2 jt2 jk2 jv2 jr2 (z + 3) ck2 cv2 cr2 ((flS ot K2 V2 R2 z).2.1) ((flS ot K2 V2 R2 z).2.2.1) ((flS ot K2 V2 R2 z).2.2.2) (by first | assumption | omega) (by first | assumption | omega)) ⟨va_cnB 1 hts (g_c big_w m_329) rfl rfl rfl (hN _ (by decide +kernel : (Jvm.Cond.methodLinkNest "PortDrawer" (125 : Nat) ({ cls := "PortDrawer$Harbour", name := "isLike", desc := "(LPortDrawer$Harbour;)Z" } : Jvm.MethodName) "PortDrawer") ∈ NWl)) (hts _ (List.mem_cons_of_mem _ m_2)) (by decide +kernel) ⟨Nat.le_of_ble_eq_true rfl, Nat.le_of_ble_eq_true rfl⟩, (hts _ (List.mem_cons_of_mem _ m_328)), (hts _ (List.mem_cons_of_mem _ ms_20))⟩ (ro_V hPc hKc hN (va_recv hKc hPc (ci := 1) (q0 := 0) rfl rfl)) rfl rfl hl.1 rfl (lv_room (Nat.le_of_ble_eq_true rfl)) d_D_same_34 ⟨Nat.le_of_ble_eq_true rfl, Nat.le_of_ble_eq_true rfl⟩)) (fun r_3 er_3 => ?_)
    subst er_3
    have hP9 := hP.sub (ws' := [(jd, .inr (2, [.long sd, .ref jh, .ref jh2, .ref jg, .ref jb, .ref jy, .long w])), (jh, .inr (1, [.ref jt, .ref jk, .ref jv, .ref jr, .int (nI n)])), (jk, .inl (ck, 43, .inl K)), (jv, .inl (cv, 43, .inl V)), (jr, .inl (cr, 43, .inl R)), (jh2, .inr (1, [.ref jt2, .ref jk2, .ref jv2, .ref jr2, .int (nI (z + 3))])), (jt2, .inr (0, [.long ((flS ot K2 V2 R2 z).1)])), (jk2, .inl (ck2, 43, .inl ((flS ot K2 V2 R2 z).2.1))), (jv2, .inl (cv2, 43, .inl ((flS ot K2 V2 R2 z).2.2.1))), (jr2, .inl (cr2, 43, .inl ((flS ot K2 V2 R2 z).2.2.2)))]) [0, 1, 2, 3, 4, 5, 6, 7, 8, 9] rfl
    have hD9 := hD.sub (ws' := [(jd, .inr (2, [.long sd, .ref jh, .ref jh2, .ref jg, .ref jb, .ref jy, .long w])), (jh, .inr (1, [.ref jt, .ref jk, .ref jv, .ref jr, .int (nI n)])), (jk, .inl (ck, 43, .inl K)), (jv, .inl (cv, 43, .inl V)), (jr, .inl (cr, 43, .inl R)), (jh2, .inr (1, [.ref jt2, .ref jk2, .ref jv2, .ref jr2, .int (nI (z + 3))])), (jt2, .inr (0, [.long ((flS ot K2 V2 R2 z).1)])), (jk2, .inl (ck2, 43, .inl ((flS ot K2 V2 R2 z).2.1))), (jv2, .inl (cv2, 43, .inl ((flS ot K2 V2 R2 z).2.2.1))), (jr2, .inl (cr2, 43, .inl ((flS ot K2 V2 R2 z).2.2.2)))]) [0, 1, 2, 3, 4, 5, 6, 7, 8, 9] (by decide) rfl
    have hK9 := hK.sub (tys' := [(ck, .int), (cv, .int), (cr, .int), (ck2, .int), (cv2, .int), (cr2, .int)]) [0, 1, 2, 3, 4, 5] rfl
    exact W.zret (v := bI (lkB n (z + 3) K V R ((flS ot K2 V2 R2 z).2.1) ((flS ot K2 V2 R2 z).2.2.1) ((flS ot K2 V2 R2 z).2.2.2))) (ty := .boolean) hx hb hr (bI_nar _) (fun t ht hW => ⟨⟨bI (lkB n (z + 3) K V R ((flS ot K2 V2 R2 z).2.1) ((flS ot K2 V2 R2 z).2.2.1) ((flS ot K2 V2 R2 z).2.2.2)), (), rfl, rfl, by rw [ht]; exact hP9, va_K.moved hW.alike hK9, hD9⟩, hS.F ht⟩) hS.2.2 d_D_same_37
  · skip
    have c_4 := bI_f c_4
    exact absurd c_4 (by rw [szB_nI hz]; decide)
set_option maxHeartbeats 4000000 in
set_option maxRecDepth 100000 in
/-- same, of no size -/
theorem c_D_samex (l : Launch) (hl9 : l.stackTraces = false) (dC : Nat → ClassId) (dI : Nat → Nat → Nat) (jd jh jh2 jg jb jy : Nat) (sd w : Int64) (ot : Int64) (p0 : Int32) (hex : szB p0 = false) (sa : Nat → Nat) (sz : Nat) : vx_Met l y_D_same w_D_same ({ frames := 6, cells := 1, slots := 6, locals := 113 }) (wx_P dC dI [.ref jd, .long ot, .int p0] [(jd, .inr (2, [.long sd, .ref jh, .ref jh2, .ref jg, .ref jb, .ref jy, .long w]))] [] sa sz) (va_Qi (fun (r : Int32) (_ : Unit) => False) (fun (u : Unit) => wr_B dC dI (va_A [(jd, .inr (2, [.long sd, .ref jh, .ref jh2, .ref jg, .ref jb, .ref jy, .long w]))] sz) [(jd, .inr (2, [.long sd, .ref jh, .ref jh2, .ref jg, .ref jb, .ref jy, .long w]))] []) (va_A [(jd, .inr (2, [.long sd, .ref jh, .ref jh2, .ref jg, .ref jb, .ref jy, .long w]))] sz)) (wx_X dC dI "java/lang/IllegalArgumentException" (va_A [(jd, .inr (2, [.long sd, .ref jh, .ref jh2, .ref jg, .ref jb, .ref jy, .long w]))] sz) [(jd, .inr (2, [.long sd, .ref jh, .ref jh2, .ref jg, .ref jb, .ref jy, .long w]))] []) 1 6 (va_A [(jd, .inr (2, [.long sd, .ref jh, .ref jh2, .ref jg, .ref jb, .ref jy, .long w]))] sz) := by
  refine vx_ofW (cc := b_D_same) (maxL := 4) (ret := (Option.some Jvm.ClassFile.FieldType.boolean)) (by decide) rfl ?_
  intro p e s m args below meth c s₁ B0 hml hEx hv0
  obtain ⟨rfl, hsz, hP, hK, hD0, hN, hT, hZ⟩ := hv0
  have hx := B0.exec
  have hb := B0.bytes
  have hr := B0.returns
  have hts := atoms_spec (ws := w_D_same) B0.pre
  have hown : s.vm.findClass R_D = some m.cls := findClass_of_methodNamed B0.named
  have hlocks := B0.notSynchronized
  subst hsz
  have hD := hD0.self (sz := s.heap.size)
  generalize hAe : va_A [(jd, .inr (2, [.long sd, .ref jh, .ref jh2, .ref jg, .ref jb, .ref jy, .long w]))] s.heap.size = A at hD hZ ⊢
  have hA : ∀ q : Nat, s.heap.size ≤ q → A q := fun q h => by rw [← hAe]; exact Or.inr h
  have hS : va_S A s.heap s.heap [] := va_S.rf
  have hP : va_P (dC, dI) classes [(jd, .inr (2, [.long sd, .ref jh, .ref jh2, .ref jg, .ref jb, .ref jy, .long w]))] s.heap := hP
  have hl := lv_entry ([.ref jd, .long ot, .int p0]) (n := 4) (Nat.le_of_ble_eq_true rfl)
  rw [lg_entry_eq]
  generalize (lg_sl ([.ref jd, .long ot, .int p0]) ++ List.replicate (4 - (lg_sl ([.ref jd, .long ot, .int p0])).length) Slot.unset).toArray = ls at hl ⊢
  have hl : lv_has ls 4 [(0, .ref jd), (1, .long ot), (3, .int p0)] := hl
  refine lv_iload_n hx hb d_D_same_0 rfl (lv_at hl 2 rfl) ?_
  have hPc := hP.sub (ws' := []) [] rfl
  have hKc := hK.sub (tys' := []) [] rfl
  refine vp_callSi (W.runS (As := [.int p0]) (rest := []) ⟨hx, hb, hml, hown, hts⟩ (c_D_isSize l dC dI p0) (va_cwS 1 hts (g_S big_w m_157 m_158 m_1 m_159) rfl rfl rfl (by decide +kernel) ⟨Nat.le_of_ble_eq_true rfl, Nat.le_of_ble_eq_true rfl⟩) (ro_S hPc hKc hN) rfl rfl hl.1 rfl (lv_room (Nat.le_of_ble_eq_true rfl)) d_D_same_1 ⟨Nat.le_of_ble_eq_true rfl, Nat.le_of_ble_eq_true rfl⟩) (fun r_1 er_1 => ?_)
  subst er_1
  refine lv_if_ne (tgt := 17) hx hb d_D_same_4 (by decide) (fun c_4 => ?_) (fun c_4 => ?_)
  · skip
    have c_4 := bI_t c_4
    exact absurd c_4 (by rw [hex]; decide)
  · skip
    have c_4 := bI_f c_4
    have hP9 := hP.sub (ws' := [(jd, .inr (2, [.long sd, .ref jh, .ref jh2, .ref jg, .ref jb, .ref jy, .long w]))]) [0] rfl
    have hD9 := hD.sub (ws' := [(jd, .inr (2, [.long sd, .ref jh, .ref jh2, .ref jg, .ref jb, .ref jy, .long w]))]) [0] (by decide) rfl
    have hK9 := hK.sub (tys' := []) [] rfl
    exact vx_throwS (own := R_D) (cls := "java/lang/IllegalArgumentException") (names := ["java/lang/RuntimeException", "java/lang/Exception"]) hx hb hl9 hown (by decide +kernel) (by decide +kernel) (hts _ (List.mem_cons_of_mem _ m_160)) (hts _ (List.mem_cons_of_mem _ m_8)) (hT (43, "the size is not 0 .. 40") (by decide +kernel)) (hat_ok hts hN (L := vx_atS R_D 45 "java/lang/IllegalArgumentException" ["java/lang/RuntimeException", "java/lang/Exception"]) (by decide +kernel) (by decide +kernel)) (by decide +kernel) hZ.1 hZ.2 hS (hl.1.trans hml.symm) d_D_same_7 d_D_same_10 d_D_same_11 d_D_same_13 d_D_same_16 (fun x h => (hEx x h).elim) (Nat.le_of_ble_eq_true rfl) (Nat.le_of_ble_eq_true rfl) (Nat.le_of_ble_eq_true rfl) (Nat.le_of_ble_eq_true rfl) hlocks (fun t ha hsz hk => ⟨(), trivial, ⟨rfl, hP9.kept (fun k q hq => hk q.1 (hP9 k q hq).lt), va_K.moved ha hK9, hD9⟩, Nat.le_trans hS.1 hsz, fun q h1 h2 => (hk q (Nat.lt_of_lt_of_le h1 hS.1)).trans (hS.2.1 q h1 h2)⟩) hS.2.2 (Nat.le_of_ble_eq_true rfl) (Nat.le_of_ble_eq_true rfl)
end
