/-! FORMS OF CONTRACTS: readers (ro), writers (wr), those that may throw (wx). NWl: words across nests and casts; TX: the texts of the exceptions -/
def nk9 : Cond → Bool
  | .fieldLinkNest .. => true
  | .methodLinkNest .. => true
  | .castable .. => true
  | .declares .. => true
  | _ => false
theorem nk9_warm {w : Cond} {s U : State} (hk : nk9 w = true) (hW : s.WarmedH U.vm) (h : va_Nw w s) : va_Nw w U := by
  cases w <;> first | exact va_Nw.warmF hW h | exact va_Nw.warmM hW h | exact va_Nw.warmC hW h | exact va_Nw.warmD hW h | (exfalso; simp [nk9] at hk)
theorem NWl_k : ∀ w ∈ NWl, nk9 w = true := by decide +kernel
theorem NWl_t : ∀ w ∈ NWl, w.onTables = true := by decide +kernel
def NW (U : State) : Prop := ∀ w ∈ NWl, va_Nw w U
theorem NW.same {u U : State} (h : u.vm = U.vm) (hN : NW u) : NW U := fun w hw => va_Nw.same (NWl_t w hw) h (hN w hw)
theorem NW.warm {s U : State} (hW : s.WarmedH U.vm) (hN : NW s) : NW U := fun w hw => nk9_warm (NWl_k w hw) hW (hN w hw)
theorem NW.use {U : State} {A : Array Value} (hN : NW U) {w : Cond} (hw : w ∈ NWl) : w.before A U = true := va_Nw.use (NWl_t w hw) (hN w hw)
def TX (sa : Nat → Nat) (U : State) : Prop := ∀ q ∈ txl, vk_R R_D q.1 q.2 (sa q.1) U
theorem TX.same {sa : Nat → Nat} {u U : State} (h : U.vm = u.vm) (hT : TX sa u) : TX sa U := fun q hq => vk_R.same h (hT q hq)
theorem TX.warm {sa : Nat → Nat} {s U : State} (hW : s.WarmedH U.vm) (hT : TX sa s) : TX sa U := fun q hq => vk_R.warm hW (hT q hq)
section Forms
variable {dC : Nat → ClassId} {dI : Nat → Nat → Nat} {s : State} {H : Heap} {ws : va_W} {tys : List (ClassId × FieldType)} {C : String} {b : Addr} {As : List Value}
abbrev ro_P (dC : Nat → ClassId) (dI : Nat → Nat → Nat) (av : List Value) (ws : va_W) (tys : List (ClassId × FieldType)) : Array Value → State → Prop :=
  va_Pc av (fun U => va_P (dC, dI) classes ws U.heap ∧ va_K (dC, dI) classes tys U ∧ NW U)
theorem ro_blind {av : List Value} : FrameBlind (ro_P dC dI av ws tys) := fun a U g mk q => by
  obtain ⟨q0, qP, qK, qN⟩ := q
  exact ⟨q0, qP, va_K.moved (u := U) (U := U.calling g mk a) (Vm.Alike.refl U.vm) qK, NW.same (u := U) (U := U.calling g mk a) rfl qN⟩
theorem ro_V (hP : va_P (dC, dI) classes ws H) (hK : va_K (dC, dI) classes tys s) (hN : NW s) (hr : ∃ cellB : Cell, H[b]? = some cellB ∧ cellB.vm.isStatics = false ∧ s.vm.findClass C = some cellB.cls) : PreV s H C b (ro_P dC dI (.ref b :: As) ws tys) As :=
  ⟨ro_blind, hr, fun U hU hW => ⟨rfl, by rw [hU]; exact hP, va_K.moved hW.alike hK, NW.warm hW hN⟩⟩
theorem ro_S (hP : va_P (dC, dI) classes ws H) (hK : va_K (dC, dI) classes tys s) (hN : NW s) : PreS s H (ro_P dC dI As ws tys) As :=
  ⟨ro_blind, fun U hU hW => ⟨rfl, by rw [hU]; exact hP, va_K.moved hW.alike hK, NW.warm hW hN⟩⟩
abbrev wr_P (dC : Nat → ClassId) (dI : Nat → Nat → Nat) (av : List Value) (ws : va_W) (tys : List (ClassId × FieldType)) (sz : Nat) : Array Value → State → Prop :=
  va_Pc av (fun U => U.heap.size = sz ∧ va_P (dC, dI) classes ws U.heap ∧ va_K (dC, dI) classes tys U ∧ va_D (fun _ => True) ws ∧ NW U)
abbrev wr_B (dC : Nat → ClassId) (dI : Nat → Nat → Nat) (A : Nat → Prop) (ws : va_W) (tys : List (ClassId × FieldType)) (t : State) : Prop :=
  va_P (dC, dI) classes ws t.heap ∧ va_K (dC, dI) classes tys t ∧ va_D A ws
theorem wr_blind {av : List Value} {sz : Nat} : FrameBlind (wr_P dC dI av ws tys sz) := fun a U g mk q => by
  obtain ⟨q0, q1, qP, qK, qD, qN⟩ := q
  exact ⟨q0, q1, qP, va_K.moved (u := U) (U := U.calling g mk a) (Vm.Alike.refl U.vm) qK, qD, NW.same (u := U) (U := U.calling g mk a) rfl qN⟩
theorem wr_V {A : Nat → Prop} (hP : va_P (dC, dI) classes ws H) (hK : va_K (dC, dI) classes tys s) (hD : va_D A ws) (hN : NW s) (hr : ∃ cellB : Cell, H[b]? = some cellB ∧ cellB.vm.isStatics = false ∧ s.vm.findClass C = some cellB.cls) : PreV s H C b (wr_P dC dI (.ref b :: As) ws tys H.size) As :=
  ⟨wr_blind, hr, fun U hU hW => ⟨rfl, by rw [hU], by rw [hU]; exact hP, va_K.moved hW.alike hK, hD.weaken (fun _ _ _ _ => trivial), NW.warm hW hN⟩⟩
theorem wr_S {A : Nat → Prop} (hP : va_P (dC, dI) classes ws H) (hK : va_K (dC, dI) classes tys s) (hD : va_D A ws) (hN : NW s) : PreS s H (wr_P dC dI As ws tys H.size) As :=
  ⟨wr_blind, fun U hU hW => ⟨rfl, by rw [hU], by rw [hU]; exact hP, va_K.moved hW.alike hK, hD.weaken (fun _ _ _ _ => trivial), NW.warm hW hN⟩⟩
abbrev zqU (A : Nat → Prop) (U : State) (H : Heap) : Prop := vx_Zq Bundle.tN "UNASSIGNED_STACK" Bundle.steD A U H ∧ vx_Zq Bundle.tN "SUPPRESSED_SENTINEL" Bundle.listD A U H
abbrev wx_P (dC : Nat → ClassId) (dI : Nat → Nat → Nat) (av : List Value) (ws : va_W) (tys : List (ClassId × FieldType)) (sa : Nat → Nat) (sz : Nat) : Array Value → State → Prop :=
  va_Pc av (fun U => U.heap.size = sz ∧ va_P (dC, dI) classes ws U.heap ∧ va_K (dC, dI) classes tys U ∧ va_D (fun _ => True) ws ∧ NW U ∧ TX sa U ∧ zqU (va_A ws sz) U U.heap)
theorem wx_blind {av : List Value} {sz : Nat} {sa : Nat → Nat} : FrameBlind (wx_P dC dI av ws tys sa sz) := fun a U g mk q => by
  obtain ⟨q0, q1, qP, qK, qD, qN, qT, qU, qZ⟩ := q
  exact ⟨q0, q1, qP, va_K.moved (u := U) (U := U.calling g mk a) (Vm.Alike.refl U.vm) qK, qD, NW.same (u := U) (U := U.calling g mk a) rfl qN, TX.same (u := U) (U := U.calling g mk a) rfl qT, vx_Zq.moved (u := U) (U := U.calling g mk a) (Vm.Alike.refl U.vm) qU, vx_Zq.moved (u := U) (U := U.calling g mk a) (Vm.Alike.refl U.vm) qZ⟩
theorem zq_go {A : Nat → Prop} {H0 : Heap} {locs : List Loc} {U : State} (h : zqU A s H0) (hS : va_S A H0 H locs) (hF : ∀ q, va_A ws H.size q → A q) (hU : U.heap = H) (hW : s.WarmedH U.vm) : zqU (va_A ws H.size) U U.heap := by
  rw [hU]
  exact ⟨((vx_Zq.kept h.1 (fun a h1 h2 => hS.2.1 a h1 h2)).narrow hF).moved hW.alike, ((vx_Zq.kept h.2 (fun a h1 h2 => hS.2.1 a h1 h2)).narrow hF).moved hW.alike⟩
theorem wx_V {A : Nat → Prop} {sa : Nat → Nat} {H0 : Heap} {locs : List Loc} (hP : va_P (dC, dI) classes ws H) (hK : va_K (dC, dI) classes tys s) (hD : va_D A ws) (hN : NW s) (hT : TX sa s) (hZ : zqU A s H0) (hS : va_S A H0 H locs) (hF : ∀ q, va_A ws H.size q → A q) (hr : ∃ cellB : Cell, H[b]? = some cellB ∧ cellB.vm.isStatics = false ∧ s.vm.findClass C = some cellB.cls) : PreV s H C b (wx_P dC dI (.ref b :: As) ws tys sa H.size) As :=
  ⟨wx_blind, hr, fun U hU hW => ⟨rfl, by rw [hU], by rw [hU]; exact hP, va_K.moved hW.alike hK, hD.weaken (fun _ _ _ _ => trivial), NW.warm hW hN, TX.warm hW hT, zq_go hZ hS hF hU hW⟩⟩
theorem wx_S {A : Nat → Prop} {sa : Nat → Nat} {H0 : Heap} {locs : List Loc} (hP : va_P (dC, dI) classes ws H) (hK : va_K (dC, dI) classes tys s) (hD : va_D A ws) (hN : NW s) (hT : TX sa s) (hZ : zqU A s H0) (hS : va_S A H0 H locs) (hF : ∀ q, va_A ws H.size q → A q) : PreS s H (wx_P dC dI As ws tys sa H.size) As :=
  ⟨wx_blind, fun U hU hW => ⟨rfl, by rw [hU], by rw [hU]; exact hP, va_K.moved hW.alike hK, hD.weaken (fun _ _ _ _ => trivial), NW.warm hW hN, TX.warm hW hT, zq_go hZ hS hF hU hW⟩⟩
abbrev wx_X (dC : Nat → ClassId) (dI : Nat → Nat → Nat) (E9 : String) (A : Nat → Prop) (ws : va_W) (tys : List (ClassId × FieldType)) : String → State → State → Prop :=
  vx_X (fun _ : Unit => True) (fun E (_ : Unit) t => E = E9 ∧ wr_B dC dI A ws tys t) A
end Forms
theorem hat_ok {args : Array Value} {s : State} {c : Cond} {L : List Cond} (hts : ∀ w ∈ c :: tblG, w.before args s = true) (hN : NW s) (h1 : ∀ w ∈ L.filter goodWord, w ∈ lw_tbl) (h2 : ∀ w ∈ L.filter (fun w => !goodWord w), w ∈ NWl) : ∀ w ∈ L, w.before args s = true := by
  intro w hw
  cases hg : goodWord w
  · exact hN.use (h2 w (List.mem_filter.mpr ⟨hw, by rw [hg]; rfl⟩))
  · exact hts w (List.mem_cons_of_mem _ (List.mem_filter.mpr ⟨h1 w (List.mem_filter.mpr ⟨hw, hg⟩), hg⟩))
