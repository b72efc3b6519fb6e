abbrev R_T : String := "PortDrawer$Tape"
def F_T : u_T := fun k => match k with
  | _ => ("PortDrawer$Tape", "x", "J", false)
def ft_T : Nat → FieldType := fun k => match k with
  | _ => .long
theorem nok_T : ∀ a, a < 1 → ∀ b, b < 1 → a ≠ b → (F_T a).2.1 ≠ (F_T b).2.1 := by decide +kernel
theorem tok_T : ∀ k, k < 1 → parseFieldDescriptor (F_T k).2.2.1 = some (ft_T k) := by decide +kernel
abbrev R_H : String := "PortDrawer$Harbour"
def F_H : u_T := fun k => match k with
  | 0 => ("PortDrawer$Harbour", "tape", "LPortDrawer$Tape;", true)
  | 1 => ("PortDrawer$Harbour", "kinds", "[I", true)
  | 2 => ("PortDrawer$Harbour", "values", "[I", true)
  | 3 => ("PortDrawer$Harbour", "references", "[I", true)
  | _ => ("PortDrawer$Harbour", "parts", "I", false)
def ft_H : Nat → FieldType := fun k => match k with
  | 0 => .object "PortDrawer$Tape"
  | 1 => .array .int
  | 2 => .array .int
  | 3 => .array .int
  | _ => .int
theorem nok_H : ∀ a, a < 5 → ∀ b, b < 5 → a ≠ b → (F_H a).2.1 ≠ (F_H b).2.1 := by decide +kernel
theorem tok_H : ∀ k, k < 5 → parseFieldDescriptor (F_H k).2.2.1 = some (ft_H k) := by decide +kernel
abbrev R_D : String := "PortDrawer"
def F_D : u_T := fun k => match k with
  | 0 => ("PortDrawer", "seed", "J", true)
  | 1 => ("PortDrawer", "harbour", "LPortDrawer$Harbour;", true)
  | 2 => ("PortDrawer", "otherHarbour", "LPortDrawer$Harbour;", true)
  | 3 => ("PortDrawer", "goingWith", "[J", true)
  | 4 => ("PortDrawer", "partsOfBit", "[J", true)
  | 5 => ("PortDrawer", "staying", "[Z", true)
  | _ => ("PortDrawer", "leftParts", "J", false)
def ft_D : Nat → FieldType := fun k => match k with
  | 0 => .long
  | 1 => .object "PortDrawer$Harbour"
  | 2 => .object "PortDrawer$Harbour"
  | 3 => .array .long
  | 4 => .array .long
  | 5 => .array .boolean
  | _ => .long
theorem nok_D : ∀ a, a < 7 → ∀ b, b < 7 → a ≠ b → (F_D a).2.1 ≠ (F_D b).2.1 := by decide +kernel
theorem tok_D : ∀ k, k < 7 → parseFieldDescriptor (F_D k).2.2.1 = some (ft_D k) := by decide +kernel
abbrev R_M : String := "PortDrawerModel"
def F_M : u_T := fun k => match k with
  | 0 => ("PortDrawerModel", "thrown", "I", false)
  | 1 => ("PortDrawerModel", "seed", "J", true)
  | 2 => ("PortDrawerModel", "tape", "J", false)
  | 3 => ("PortDrawerModel", "parts", "I", false)
  | 4 => ("PortDrawerModel", "kind", "[I", true)
  | 5 => ("PortDrawerModel", "value", "[I", true)
  | 6 => ("PortDrawerModel", "refers", "[I", true)
  | 7 => ("PortDrawerModel", "isLeft", "[Z", true)
  | 8 => ("PortDrawerModel", "stays", "[Z", true)
  | _ => ("PortDrawerModel", "goes", "[Z", true)
def ft_M : Nat → FieldType := fun k => match k with
  | 0 => .int
  | 1 => .long
  | 2 => .long
  | 3 => .int
  | 4 => .array .int
  | 5 => .array .int
  | 6 => .array .int
  | 7 => .array .boolean
  | 8 => .array .boolean
  | _ => .array .boolean
theorem nok_M : ∀ a, a < 10 → ∀ b, b < 10 → a ≠ b → (F_M a).2.1 ≠ (F_M b).2.1 := by decide +kernel
theorem tok_M : ∀ k, k < 10 → parseFieldDescriptor (F_M k).2.2.1 = some (ft_M k) := by decide +kernel
abbrev R_J : String := "java/lang/Long"
abbrev R_L : String := "PortDrawerLaw"
abbrev classes : List vw_C := [(R_T, F_T, 1), (R_H, F_H, 5), (R_D, F_D, 7), (R_M, F_M, 10)]
def tblG : List Cond := lw_tbl.filter goodWord
theorem tblG_in {w : Cond} (h : w ∈ tblG) : w ∈ lw_tbl := (List.mem_filter.mp h).1
theorem tblG_ok {w : Cond} (h : w ∈ tblG) : goodWord w = true := (List.mem_filter.mp h).2
theorem m_t {w : Cond} {i : Nat} (h : tables_1[i]? = some w) (hg : goodWord w = true) : w ∈ tblG := List.mem_filter.mpr ⟨List.mem_append_right _ (List.mem_of_getElem? h), hg⟩
theorem m_s {w : Cond} {i : Nat} (h : (k2_sels lw_privs)[i]? = some w) (hg : goodWord w = true) : w ∈ tblG := List.mem_filter.mpr ⟨List.mem_append_left _ (List.mem_of_getElem? h), hg⟩
theorem lay0_T : ∀ w ∈ u_ws R_T F_T 1, w ∈ tblG := List.forall_mem_cons.mpr ⟨m_t (i := 32) rfl rfl, fun _ h => absurd h List.not_mem_nil⟩
theorem lay_T (c : Cond) : ∀ w ∈ u_ws R_T F_T 1, w ∈ c :: tblG := fun w h => List.mem_cons_of_mem _ (lay0_T w h)
theorem lay0_H : ∀ w ∈ u_ws R_H F_H 5, w ∈ tblG := List.forall_mem_cons.mpr ⟨m_t (i := 44) rfl rfl, List.forall_mem_cons.mpr ⟨m_t (i := 46) rfl rfl, List.forall_mem_cons.mpr ⟨m_t (i := 48) rfl rfl, List.forall_mem_cons.mpr ⟨m_t (i := 50) rfl rfl, List.forall_mem_cons.mpr ⟨m_t (i := 52) rfl rfl, fun _ h => absurd h List.not_mem_nil⟩⟩⟩⟩⟩
theorem lay_H (c : Cond) : ∀ w ∈ u_ws R_H F_H 5, w ∈ c :: tblG := fun w h => List.mem_cons_of_mem _ (lay0_H w h)
theorem lay0_D : ∀ w ∈ u_ws R_D F_D 7, w ∈ tblG := List.forall_mem_cons.mpr ⟨m_t (i := 63) rfl rfl, List.forall_mem_cons.mpr ⟨m_t (i := 65) rfl rfl, List.forall_mem_cons.mpr ⟨m_t (i := 67) rfl rfl, List.forall_mem_cons.mpr ⟨m_t (i := 69) rfl rfl, List.forall_mem_cons.mpr ⟨m_t (i := 71) rfl rfl, List.forall_mem_cons.mpr ⟨m_t (i := 73) rfl rfl, List.forall_mem_cons.mpr ⟨m_t (i := 75) rfl rfl, fun _ h => absurd h List.not_mem_nil⟩⟩⟩⟩⟩⟩⟩
theorem lay_D (c : Cond) : ∀ w ∈ u_ws R_D F_D 7, w ∈ c :: tblG := fun w h => List.mem_cons_of_mem _ (lay0_D w h)
theorem lay0_M : ∀ w ∈ u_ws R_M F_M 10, w ∈ tblG := List.forall_mem_cons.mpr ⟨m_t (i := 346) rfl rfl, List.forall_mem_cons.mpr ⟨m_t (i := 348) rfl rfl, List.forall_mem_cons.mpr ⟨m_t (i := 350) rfl rfl, List.forall_mem_cons.mpr ⟨m_t (i := 352) rfl rfl, List.forall_mem_cons.mpr ⟨m_t (i := 354) rfl rfl, List.forall_mem_cons.mpr ⟨m_t (i := 356) rfl rfl, List.forall_mem_cons.mpr ⟨m_t (i := 358) rfl rfl, List.forall_mem_cons.mpr ⟨m_t (i := 360) rfl rfl, List.forall_mem_cons.mpr ⟨m_t (i := 362) rfl rfl, List.forall_mem_cons.mpr ⟨m_t (i := 364) rfl rfl, fun _ h => absurd h List.not_mem_nil⟩⟩⟩⟩⟩⟩⟩⟩⟩⟩
theorem lay_M (c : Cond) : ∀ w ∈ u_ws R_M F_M 10, w ∈ c :: tblG := fun w h => List.mem_cons_of_mem _ (lay0_M w h)
def NWl : List Cond := [(Jvm.Cond.methodLinkNest "PortDrawer" (9 : Nat) ({ cls := "PortDrawer$Harbour", name := "<init>", desc := "()V" } : Jvm.MethodName) "PortDrawer"), (Jvm.Cond.methodLinkNest "PortDrawer$Harbour" (11 : Nat) ({ cls := "PortDrawer$Tape", name := "<init>", desc := "()V" } : Jvm.MethodName) "PortDrawer"), (Jvm.Cond.fieldLinkNest "PortDrawer" (74 : Nat) "PortDrawer$Harbour" "kinds" "[I" "PortDrawer"), (Jvm.Cond.fieldLinkNest "PortDrawer" (82 : Nat) "PortDrawer$Harbour" "values" "[I" "PortDrawer"), (Jvm.Cond.fieldLinkNest "PortDrawer" (85 : Nat) "PortDrawer$Harbour" "references" "[I" "PortDrawer"), (Jvm.Cond.fieldLinkNest "PortDrawer" (62 : Nat) "PortDrawer$Harbour" "parts" "I" "PortDrawer"), (Jvm.Cond.methodLinkNest "PortDrawer" (78 : Nat) ({ cls := "PortDrawer$Harbour", name := "ofKindAheadOf", desc := "(II)I" } : Jvm.MethodName) "PortDrawer"), (Jvm.Cond.castable "java/lang/IllegalArgumentException" "java/lang/IllegalArgumentException"), (Jvm.Cond.declares ({ cls := "java/lang/RuntimeException", name := "<init>", desc := "()V" } : Jvm.MethodName)), (Jvm.Cond.declares ({ cls := "java/lang/RuntimeException", name := "<init>", desc := "(Ljava/lang/String;)V" } : Jvm.MethodName)), (Jvm.Cond.declares ({ cls := "java/lang/Exception", name := "<init>", desc := "()V" } : Jvm.MethodName)), (Jvm.Cond.declares ({ cls := "java/lang/Exception", name := "<init>", desc := "(Ljava/lang/String;)V" } : Jvm.MethodName)), (Jvm.Cond.declares ({ cls := "java/lang/Throwable", name := "<init>", desc := "()V" } : Jvm.MethodName)), (Jvm.Cond.declares ({ cls := "java/lang/Throwable", name := "<init>", desc := "(Ljava/lang/String;)V" } : Jvm.MethodName)), (Jvm.Cond.methodLinkNest "PortDrawer" (48 : Nat) ({ cls := "PortDrawer$Harbour", name := "fill", desc := "(JI)V" } : Jvm.MethodName) "PortDrawer"), (Jvm.Cond.methodLinkNest "PortDrawer$Harbour" (32 : Nat) ({ cls := "PortDrawer$Tape", name := "rewind", desc := "(J)V" } : Jvm.MethodName) "PortDrawer"), (Jvm.Cond.methodLinkNest "PortDrawer$Harbour" (40 : Nat) ({ cls := "PortDrawer$Tape", name := "numberBelow", desc := "(I)I" } : Jvm.MethodName) "PortDrawer"), (Jvm.Cond.methodLinkNest "PortDrawer$Harbour" (50 : Nat) ({ cls := "PortDrawer", name := "mayRefer", desc := "(II)Z" } : Jvm.MethodName) "PortDrawer"), (Jvm.Cond.methodLinkNest "PortDrawer" (66 : Nat) ({ cls := "PortDrawer$Harbour", name := "has", desc := "(I)Z" } : Jvm.MethodName) "PortDrawer"), (Jvm.Cond.methodLinkNest "PortDrawer" (99 : Nat) ({ cls := "PortDrawer$Harbour", name := "isFittingAct", desc := "(I)Z" } : Jvm.MethodName) "PortDrawer"), (Jvm.Cond.castable "java/lang/IndexOutOfBoundsException" "java/lang/IndexOutOfBoundsException"), (Jvm.Cond.methodLinkNest "PortDrawer" (94 : Nat) ({ cls := "PortDrawer$Harbour", name := "isAct", desc := "(I)Z" } : Jvm.MethodName) "PortDrawer"), (Jvm.Cond.methodLinkNest "PortDrawer" (125 : Nat) ({ cls := "PortDrawer$Harbour", name := "isLike", desc := "(LPortDrawer$Harbour;)Z" } : Jvm.MethodName) "PortDrawer")]
def txl : List (Nat × String) := [(43, "the size is not 0 .. 40"), (71, "no such part"), (92, "no such what"), (97, "no such act"), (123, "no such part is left")]
theorem big_w {c : Cond} : ∀ w ∈ tblG, w ∈ c :: tblG := fun _ h => List.mem_cons_of_mem _ h
theorem g_c {big : List Cond} (hb : ∀ w ∈ tblG, w ∈ big) {c : Cond} (hc : c ∈ tblG) : GoodIn big (c :: tblG) := fun w h => (List.mem_cons.mp h).elim (fun e => ⟨hb w (e ▸ hc), good_of_word (tblG_ok (e ▸ hc))⟩) (fun h => ⟨hb w h, good_of_word (tblG_ok h)⟩)
theorem g_1 {big : List Cond} (hb : ∀ w ∈ tblG, w ∈ big) {c : Cond} {ws : List Cond} (hc : c ∈ tblG) (h : GoodIn big ws) : GoodIn big (c :: ws) := fun w hw => (List.mem_cons.mp hw).elim (fun e => ⟨hb w (e ▸ hc), good_of_word (tblG_ok (e ▸ hc))⟩) (h w)
theorem g_V {big : List Cond} (hb : ∀ w ∈ tblG, w ∈ big) {own : String} {idx : Nat} {C : String} {y : MethodName} {c : Cond} (h1 : Cond.methodLink own idx y ∈ tblG) (h2 : Cond.instanceMethod y ∈ tblG) (h3 : Cond.selects C y y ∈ tblG) (h4 : Cond.initialized C ∈ tblG) (hc : c ∈ tblG) : GoodIn big (wsV own idx C y (c :: tblG)) := g_1 hb h1 (g_1 hb h2 (g_1 hb h3 (g_1 hb h4 (g_c hb hc))))
theorem g_S {big : List Cond} (hb : ∀ w ∈ tblG, w ∈ big) {own : String} {idx : Nat} {y : MethodName} {c : Cond} (h1 : Cond.methodLink own idx y ∈ tblG) (h2 : Cond.static y ∈ tblG) (h4 : Cond.initialized y.cls ∈ tblG) (hc : c ∈ tblG) : GoodIn big (va_wsS own idx y (c :: tblG)) := g_1 hb h1 (g_1 hb h2 (g_1 hb h4 (g_c hb hc)))
abbrev b_J_bitCount : ByteArray := prog_9_method_50_code
abbrev y_J_bitCount : MethodName := ⟨"java/lang/Long", "bitCount", "(J)I"⟩
abbrev w_J_bitCount : List Cond := .code y_J_bitCount b_J_bitCount 2 (Option.some Jvm.ClassFile.FieldType.int) :: tblG
abbrev b_T_init : ByteArray := prog_3_method_1_code
abbrev y_T_init : MethodName := ⟨"PortDrawer$Tape", "<init>", "()V"⟩
abbrev w_T_init : List Cond := .code y_T_init b_T_init 1 (Option.none : Option Jvm.ClassFile.FieldType) :: tblG
abbrev b_T_rewind : ByteArray := prog_3_method_2_code
abbrev y_T_rewind : MethodName := ⟨"PortDrawer$Tape", "rewind", "(J)V"⟩
abbrev w_T_rewind : List Cond := .code y_T_rewind b_T_rewind 3 (Option.none : Option Jvm.ClassFile.FieldType) :: tblG
abbrev b_T_numberBelow : ByteArray := prog_3_method_3_code
abbrev y_T_numberBelow : MethodName := ⟨"PortDrawer$Tape", "numberBelow", "(I)I"⟩
abbrev w_T_numberBelow : List Cond := .code y_T_numberBelow b_T_numberBelow 2 (Option.some Jvm.ClassFile.FieldType.int) :: tblG
abbrev b_H_init : ByteArray := prog_2_method_1_code
abbrev y_H_init : MethodName := ⟨"PortDrawer$Harbour", "<init>", "()V"⟩
abbrev w_H_init : List Cond := .code y_H_init b_H_init 1 (Option.none : Option Jvm.ClassFile.FieldType) :: tblG
abbrev b_D_mayRefer : ByteArray := prog_1_method_24_code
abbrev y_D_mayRefer : MethodName := ⟨"PortDrawer", "mayRefer", "(II)Z"⟩
abbrev w_D_mayRefer : List Cond := .code y_D_mayRefer b_D_mayRefer 2 (Option.some Jvm.ClassFile.FieldType.boolean) :: tblG
abbrev b_H_has : ByteArray := prog_2_method_6_code
abbrev y_H_has : MethodName := ⟨"PortDrawer$Harbour", "has", "(I)Z"⟩
abbrev w_H_has : List Cond := .code y_H_has b_H_has 2 (Option.some Jvm.ClassFile.FieldType.boolean) :: tblG
abbrev b_H_isAct : ByteArray := prog_2_method_7_code
abbrev y_H_isAct : MethodName := ⟨"PortDrawer$Harbour", "isAct", "(I)Z"⟩
abbrev w_H_isAct : List Cond := .code y_H_isAct b_H_isAct 2 (Option.some Jvm.ClassFile.FieldType.boolean) :: tblG
abbrev b_H_isFittingAct : ByteArray := prog_2_method_8_code
abbrev y_H_isFittingAct : MethodName := ⟨"PortDrawer$Harbour", "isFittingAct", "(I)Z"⟩
abbrev w_H_isFittingAct : List Cond := .code y_H_isFittingAct b_H_isFittingAct 3 (Option.some Jvm.ClassFile.FieldType.boolean) :: tblG
abbrev b_H_ofKindAheadOf : ByteArray := prog_2_method_9_code
abbrev y_H_ofKindAheadOf : MethodName := ⟨"PortDrawer$Harbour", "ofKindAheadOf", "(II)I"⟩
abbrev w_H_ofKindAheadOf : List Cond := .code y_H_ofKindAheadOf b_H_ofKindAheadOf 5 (Option.some Jvm.ClassFile.FieldType.int) :: tblG
abbrev b_H_partsToReferTo : ByteArray := prog_2_method_5_code
abbrev y_H_partsToReferTo : MethodName := ⟨"PortDrawer$Harbour", "partsToReferTo", "(I)I"⟩
abbrev w_H_partsToReferTo : List Cond := .code y_H_partsToReferTo b_H_partsToReferTo 4 (Option.some Jvm.ClassFile.FieldType.int) :: tblG
abbrev b_H_drawReference : ByteArray := prog_2_method_4_code
abbrev y_H_drawReference : MethodName := ⟨"PortDrawer$Harbour", "drawReference", "(I)I"⟩
abbrev w_H_drawReference : List Cond := .code y_H_drawReference b_H_drawReference 5 (Option.some Jvm.ClassFile.FieldType.int) :: tblG
abbrev b_H_addPart : ByteArray := prog_2_method_3_code
abbrev y_H_addPart : MethodName := ⟨"PortDrawer$Harbour", "addPart", "(I)V"⟩
abbrev w_H_addPart : List Cond := .code y_H_addPart b_H_addPart 2 (Option.none : Option Jvm.ClassFile.FieldType) :: tblG
abbrev b_H_fill : ByteArray := prog_2_method_2_code
abbrev y_H_fill : MethodName := ⟨"PortDrawer$Harbour", "fill", "(JI)V"⟩
abbrev w_H_fill : List Cond := .code y_H_fill b_H_fill 5 (Option.none : Option Jvm.ClassFile.FieldType) :: tblG
abbrev b_H_isLike : ByteArray := prog_2_method_10_code
abbrev y_H_isLike : MethodName := ⟨"PortDrawer$Harbour", "isLike", "(LPortDrawer$Harbour;)Z"⟩
abbrev w_H_isLike : List Cond := .code y_H_isLike b_H_isLike 3 (Option.some Jvm.ClassFile.FieldType.boolean) :: tblG
abbrev b_D_isIn : ByteArray := prog_1_method_22_code
abbrev y_D_isIn : MethodName := ⟨"PortDrawer", "isIn", "(JI)Z"⟩
abbrev w_D_isIn : List Cond := .code y_D_isIn b_D_isIn 3 (Option.some Jvm.ClassFile.FieldType.boolean) :: tblG
abbrev b_D_isSize : ByteArray := prog_1_method_23_code
abbrev y_D_isSize : MethodName := ⟨"PortDrawer", "isSize", "(I)Z"⟩
abbrev w_D_isSize : List Cond := .code y_D_isSize b_D_isSize 1 (Option.some Jvm.ClassFile.FieldType.boolean) :: tblG
abbrev b_D_allParts : ByteArray := prog_1_method_15_code
abbrev y_D_allParts : MethodName := ⟨"PortDrawer", "allParts", "()J"⟩
abbrev w_D_allParts : List Cond := .code y_D_allParts b_D_allParts 1 (Option.some Jvm.ClassFile.FieldType.long) :: tblG
abbrev b_D_leftWithout : ByteArray := prog_1_method_16_code
abbrev y_D_leftWithout : MethodName := ⟨"PortDrawer", "leftWithout", "(I)J"⟩
abbrev w_D_leftWithout : List Cond := .code y_D_leftWithout b_D_leftWithout 2 (Option.some Jvm.ClassFile.FieldType.long) :: tblG
abbrev b_D_verdictOf : ByteArray := prog_1_method_18_code
abbrev y_D_verdictOf : MethodName := ⟨"PortDrawer", "verdictOf", "(J)I"⟩
abbrev w_D_verdictOf : List Cond := .code y_D_verdictOf b_D_verdictOf 5 (Option.some Jvm.ClassFile.FieldType.int) :: tblG
abbrev b_D_staysWith : ByteArray := prog_1_method_17_code
abbrev y_D_staysWith : MethodName := ⟨"PortDrawer", "staysWith", "(J)Z"⟩
abbrev w_D_staysWith : List Cond := .code y_D_staysWith b_D_staysWith 3 (Option.some Jvm.ClassFile.FieldType.boolean) :: tblG
abbrev b_D_firstThatMayGo : ByteArray := prog_1_method_19_code
abbrev y_D_firstThatMayGo : MethodName := ⟨"PortDrawer", "firstThatMayGo", "()I"⟩
abbrev w_D_firstThatMayGo : List Cond := .code y_D_firstThatMayGo b_D_firstThatMayGo 4 (Option.some Jvm.ClassFile.FieldType.int) :: tblG
abbrev b_D_verdictsThatStay : ByteArray := prog_1_method_14_code
abbrev y_D_verdictsThatStay : MethodName := ⟨"PortDrawer", "verdictsThatStay", "()I"⟩
abbrev w_D_verdictsThatStay : List Cond := .code y_D_verdictsThatStay b_D_verdictsThatStay 3 (Option.some Jvm.ClassFile.FieldType.int) :: tblG
abbrev b_D_countOfKind : ByteArray := prog_1_method_13_code
abbrev y_D_countOfKind : MethodName := ⟨"PortDrawer", "countOfKind", "(I)I"⟩
abbrev w_D_countOfKind : List Cond := .code y_D_countOfKind b_D_countOfKind 2 (Option.some Jvm.ClassFile.FieldType.int) :: tblG
abbrev b_D_now : ByteArray := prog_1_method_6_code
abbrev y_D_now : MethodName := ⟨"PortDrawer", "now", "()I"⟩
abbrev w_D_now : List Cond := .code y_D_now b_D_now 1 (Option.some Jvm.ClassFile.FieldType.int) :: tblG
abbrev b_D_left : ByteArray := prog_1_method_8_code
abbrev y_D_left : MethodName := ⟨"PortDrawer", "left", "(I)I"⟩
abbrev w_D_left : List Cond := .code y_D_left b_D_left 4 (Option.some Jvm.ClassFile.FieldType.int) :: tblG
abbrev b_D_minimal : ByteArray := prog_1_method_9_code
abbrev y_D_minimal : MethodName := ⟨"PortDrawer", "minimal", "()Z"⟩
abbrev w_D_minimal : List Cond := .code y_D_minimal b_D_minimal 1 (Option.some Jvm.ClassFile.FieldType.boolean) :: tblG
abbrev b_D_verdict : ByteArray := prog_1_method_5_code
abbrev y_D_verdict : MethodName := ⟨"PortDrawer", "verdict", "(IZ)Z"⟩
abbrev w_D_verdict : List Cond := .code y_D_verdict b_D_verdict 3 (Option.some Jvm.ClassFile.FieldType.boolean) :: tblG
abbrev b_D_noteGoingWith : ByteArray := prog_1_method_20_code
abbrev y_D_noteGoingWith : MethodName := ⟨"PortDrawer", "noteGoingWith", "()V"⟩
abbrev w_D_noteGoingWith : List Cond := .code y_D_noteGoingWith b_D_noteGoingWith 3 (Option.none : Option Jvm.ClassFile.FieldType) :: tblG
abbrev b_D_notePartsOfBits : ByteArray := prog_1_method_21_code
abbrev y_D_notePartsOfBits : MethodName := ⟨"PortDrawer", "notePartsOfBits", "()V"⟩
abbrev w_D_notePartsOfBits : List Cond := .code y_D_notePartsOfBits b_D_notePartsOfBits 3 (Option.none : Option Jvm.ClassFile.FieldType) :: tblG
abbrev b_D_shorter : ByteArray := prog_1_method_7_code
abbrev y_D_shorter : MethodName := ⟨"PortDrawer", "shorter", "()I"⟩
abbrev w_D_shorter : List Cond := .code y_D_shorter b_D_shorter 3 (Option.some Jvm.ClassFile.FieldType.int) :: tblG
abbrev b_D_count : ByteArray := prog_1_method_12_code
abbrev y_D_count : MethodName := ⟨"PortDrawer", "count", "(I)I"⟩
abbrev w_D_count : List Cond := .code y_D_count b_D_count 2 (Option.some Jvm.ClassFile.FieldType.int) :: tblG
abbrev b_D_draw : ByteArray := prog_1_method_2_code
abbrev y_D_draw : MethodName := ⟨"PortDrawer", "draw", "(I)I"⟩
abbrev w_D_draw : List Cond := .code y_D_draw b_D_draw 2 (Option.some Jvm.ClassFile.FieldType.int) :: tblG
abbrev b_D_part : ByteArray := prog_1_method_3_code
abbrev y_D_part : MethodName := ⟨"PortDrawer", "part", "(II)I"⟩
abbrev w_D_part : List Cond := .code y_D_part b_D_part 3 (Option.some Jvm.ClassFile.FieldType.int) :: tblG
abbrev b_D_fits : ByteArray := prog_1_method_4_code
abbrev y_D_fits : MethodName := ⟨"PortDrawer", "fits", "(I)Z"⟩
abbrev w_D_fits : List Cond := .code y_D_fits b_D_fits 2 (Option.some Jvm.ClassFile.FieldType.boolean) :: tblG
abbrev b_D_without : ByteArray := prog_1_method_10_code
abbrev y_D_without : MethodName := ⟨"PortDrawer", "without", "(I)I"⟩
abbrev w_D_without : List Cond := .code y_D_without b_D_without 3 (Option.some Jvm.ClassFile.FieldType.int) :: tblG
abbrev b_D_same : ByteArray := prog_1_method_11_code
abbrev y_D_same : MethodName := ⟨"PortDrawer", "same", "(JI)Z"⟩
abbrev w_D_same : List Cond := .code y_D_same b_D_same 4 (Option.some Jvm.ClassFile.FieldType.boolean) :: tblG
abbrev b_D_init : ByteArray := prog_1_method_1_code
abbrev y_D_init : MethodName := ⟨"PortDrawer", "<init>", "(J)V"⟩
abbrev w_D_init : List Cond := .code y_D_init b_D_init 3 (Option.none : Option Jvm.ClassFile.FieldType) :: tblG
abbrev b_M_thrown : ByteArray := prog_5_method_2_code
abbrev y_M_thrown : MethodName := ⟨"PortDrawerModel", "thrown", "()I"⟩
abbrev w_M_thrown : List Cond := .code y_M_thrown b_M_thrown 1 (Option.some Jvm.ClassFile.FieldType.int) :: tblG
abbrev b_M_refuse : ByteArray := prog_5_method_3_code
abbrev y_M_refuse : MethodName := ⟨"PortDrawerModel", "refuse", "(I)I"⟩
abbrev w_M_refuse : List Cond := .code y_M_refuse b_M_refuse 2 (Option.some Jvm.ClassFile.FieldType.int) :: tblG
abbrev b_M_in_ : ByteArray := prog_5_method_4_code
abbrev y_M_in_ : MethodName := ⟨"PortDrawerModel", "in", "(III)Z"⟩
abbrev w_M_in_ : List Cond := .code y_M_in_ b_M_in_ 3 (Option.some Jvm.ClassFile.FieldType.boolean) :: tblG
abbrev b_M_isPart : ByteArray := prog_5_method_5_code
abbrev y_M_isPart : MethodName := ⟨"PortDrawerModel", "isPart", "(I)Z"⟩
abbrev w_M_isPart : List Cond := .code y_M_isPart b_M_isPart 2 (Option.some Jvm.ClassFile.FieldType.boolean) :: tblG
abbrev b_M_number : ByteArray := prog_5_method_6_code
abbrev y_M_number : MethodName := ⟨"PortDrawerModel", "number", "(I)I"⟩
abbrev w_M_number : List Cond := .code y_M_number b_M_number 2 (Option.some Jvm.ClassFile.FieldType.int) :: tblG
abbrev b_M_mayRefer : ByteArray := prog_5_method_7_code
abbrev y_M_mayRefer : MethodName := ⟨"PortDrawerModel", "mayRefer", "(II)Z"⟩
abbrev w_M_mayRefer : List Cond := .code y_M_mayRefer b_M_mayRefer 2 (Option.some Jvm.ClassFile.FieldType.boolean) :: tblG
abbrev b_M_reference : ByteArray := prog_5_method_8_code
abbrev y_M_reference : MethodName := ⟨"PortDrawerModel", "reference", "(II)I"⟩
abbrev w_M_reference : List Cond := .code y_M_reference b_M_reference 8 (Option.some Jvm.ClassFile.FieldType.int) :: tblG
abbrev b_M_draws : ByteArray := prog_5_method_9_code
abbrev y_M_draws : MethodName := ⟨"PortDrawerModel", "draws", "(JII)V"⟩
abbrev w_M_draws : List Cond := .code y_M_draws b_M_draws 7 (Option.none : Option Jvm.ClassFile.FieldType) :: tblG
abbrev b_M_all : ByteArray := prog_5_method_11_code
abbrev y_M_all : MethodName := ⟨"PortDrawerModel", "all", "()V"⟩
abbrev w_M_all : List Cond := .code y_M_all b_M_all 2 (Option.none : Option Jvm.ClassFile.FieldType) :: tblG
abbrev b_M_none : ByteArray := prog_5_method_17_code
abbrev y_M_none : MethodName := ⟨"PortDrawerModel", "none", "()V"⟩
abbrev w_M_none : List Cond := .code y_M_none b_M_none 2 (Option.none : Option Jvm.ClassFile.FieldType) :: tblG
abbrev b_M_leaves : ByteArray := prog_5_method_23_code
abbrev y_M_leaves : MethodName := ⟨"PortDrawerModel", "leaves", "()V"⟩
abbrev w_M_leaves : List Cond := .code y_M_leaves b_M_leaves 2 (Option.none : Option Jvm.ClassFile.FieldType) :: tblG
abbrev b_M_marks : ByteArray := prog_5_method_18_code
abbrev y_M_marks : MethodName := ⟨"PortDrawerModel", "marks", "(I)I"⟩
abbrev w_M_marks : List Cond := .code y_M_marks b_M_marks 4 (Option.some Jvm.ClassFile.FieldType.int) :: tblG
abbrev b_M_many : ByteArray := prog_5_method_19_code
abbrev y_M_many : MethodName := ⟨"PortDrawerModel", "many", "()I"⟩
abbrev w_M_many : List Cond := .code y_M_many b_M_many 3 (Option.some Jvm.ClassFile.FieldType.int) :: tblG
abbrev b_M_isFit : ByteArray := prog_5_method_13_code
abbrev y_M_isFit : MethodName := ⟨"PortDrawerModel", "isFit", "(I)Z"⟩
abbrev w_M_isFit : List Cond := .code y_M_isFit b_M_isFit 2 (Option.some Jvm.ClassFile.FieldType.boolean) :: tblG
abbrev b_M_judged : ByteArray := prog_5_method_16_code
abbrev y_M_judged : MethodName := ⟨"PortDrawerModel", "judged", "()I"⟩
abbrev w_M_judged : List Cond := .code y_M_judged b_M_judged 3 (Option.some Jvm.ClassFile.FieldType.int) :: tblG
abbrev b_M_mayGo : ByteArray := prog_5_method_21_code
abbrev y_M_mayGo : MethodName := ⟨"PortDrawerModel", "mayGo", "(I)Z"⟩
abbrev w_M_mayGo : List Cond := .code y_M_mayGo b_M_mayGo 2 (Option.some Jvm.ClassFile.FieldType.boolean) :: tblG
abbrev b_M_first : ByteArray := prog_5_method_22_code
abbrev y_M_first : MethodName := ⟨"PortDrawerModel", "first", "()I"⟩
abbrev w_M_first : List Cond := .code y_M_first b_M_first 2 (Option.some Jvm.ClassFile.FieldType.int) :: tblG
abbrev b_M_now : ByteArray := prog_5_method_20_code
abbrev y_M_now : MethodName := ⟨"PortDrawerModel", "now", "()I"⟩
abbrev w_M_now : List Cond := .code y_M_now b_M_now 1 (Option.some Jvm.ClassFile.FieldType.int) :: tblG
abbrev b_M_shorter : ByteArray := prog_5_method_24_code
abbrev y_M_shorter : MethodName := ⟨"PortDrawerModel", "shorter", "()I"⟩
abbrev w_M_shorter : List Cond := .code y_M_shorter b_M_shorter 1 (Option.some Jvm.ClassFile.FieldType.int) :: tblG
abbrev b_M_left : ByteArray := prog_5_method_25_code
abbrev y_M_left : MethodName := ⟨"PortDrawerModel", "left", "(I)I"⟩
abbrev w_M_left : List Cond := .code y_M_left b_M_left 4 (Option.some Jvm.ClassFile.FieldType.int) :: tblG
abbrev b_M_minimal : ByteArray := prog_5_method_26_code
abbrev y_M_minimal : MethodName := ⟨"PortDrawerModel", "minimal", "()Z"⟩
abbrev w_M_minimal : List Cond := .code y_M_minimal b_M_minimal 1 (Option.some Jvm.ClassFile.FieldType.boolean) :: tblG
abbrev b_M_verdict : ByteArray := prog_5_method_15_code
abbrev y_M_verdict : MethodName := ⟨"PortDrawerModel", "verdict", "(IZ)Z"⟩
abbrev w_M_verdict : List Cond := .code y_M_verdict b_M_verdict 3 (Option.some Jvm.ClassFile.FieldType.boolean) :: tblG
abbrev b_M_ofKind : ByteArray := prog_5_method_29_code
abbrev y_M_ofKind : MethodName := ⟨"PortDrawerModel", "ofKind", "(I)I"⟩
abbrev w_M_ofKind : List Cond := .code y_M_ofKind b_M_ofKind 4 (Option.some Jvm.ClassFile.FieldType.int) :: tblG
