/-! PURE: the cells of the one and of the reference tell the same -/
def agr (n : Nat) (K V R K' V' R' : Nat → Int32) : Prop := ∀ j, j < n → K j = K' j ∧ V j = V' j ∧ R j = R' j
theorem rf_hB {n i : Nat} {R : Nat → Int32} (hn : n ≤ 43) (hR : rfK n R) (hi : i < n) : hB n (R i) = !decide (R i = -1) := by
  rcases hR i hi with e | ⟨r, h1, e⟩
  · rw [e, hB_m1]; rfl
  · rw [e, hB_nI (by omega) (by omega)]
    have h2 : ¬ nI r = -1 := fun z => by
      have h3 := nI_toInt (n := r) (by omega)
      rw [z] at h3
      have h4 : (-1 : Int32).toInt = -1 := by decide
      omega
    rw [decide_eq_false h2]; rfl
theorem rf_OK {n : Nat} {R : Nat → Int32} (hn : n ≤ 43) (hR : rfK n R) : rOK n R := by
  intro m hm h
  rw [rf_hB hn hR hm] at h
  simp only [Bool.not_eq_true', decide_eq_false_iff_not] at h
  exact rfK_lt hR hm hn h
theorem rfK_congr {n : Nat} {R R' : Nat → Int32} (h : ∀ j, j < n → R j = R' j) (hR : rfK n R') : rfK n R := fun i hi => by rw [h i hi]; exact hR i hi
theorem fB_ft {n i : Nat} {K V R : Nat → Int32} (hn : n ≤ 43) (hR : rfK n R) (hi : i < n) : fB n K V R (nI i) = (decide (K i = nI 5) && ft9 V R i) := by
  unfold fB aB ft9
  rw [nI_clamp (by omega), hB_nI hi (by omega), rf_hB hn hR hi, Bool.true_and]
theorem ft_congr {n i : Nat} {V R V' R' : Nat → Int32} (hn : n ≤ 43) (hR : rfK n R') (hi : i < n) (hv : ∀ j, j < n → V j = V' j) (hr : ∀ j, j < n → R j = R' j) : ft9 V R i = ft9 V' R' i := by
  unfold ft9
  rw [hr i hi, hv i hi]
  rcases hR i hi with e | ⟨r, h1, e⟩
  · rw [e]; rfl
  · rw [e, nI_clamp (by omega), hv r (by omega)]
theorem pq_jq {n b m : Nat} {K V R K' V' R' : Nat → Int32} (hn : n ≤ 43) (ha : agr n K V R K' V' R') (hR : rfK n R') (hk : kdK n K') (hb : b < 8) (hm : m < n) : pq9 n K V R b m = jq9 K' V' R' b m := by
  have hr : ∀ j, j < n → R j = R' j := fun j hj => (ha j hj).2.2
  have hv : ∀ j, j < n → V j = V' j := fun j hj => (ha j hj).2.1
  obtain ⟨k, hk7, ek⟩ := hk m hm
  unfold pq9 jq9
  by_cases e : b = 7
  · subst e
    rw [if_pos rfl, fB_ft hn (rfK_congr hr hR) hm, (ha m hm).1, ft_congr hn hR hm hv hr, ek, decide_eq_false (fun z => by have := (nI_eq (by omega) (by omega)).mp z; omega : ¬ nI k = nI 7)]
    simp
  · rw [if_neg e, (ha m hm).1, (ha m hm).2.1, decide_eq_false e]
    simp
theorem jq_big {n b m : Nat} {K V R : Nat → Int32} (hk : kdK n K) (hb : 8 ≤ b) (hb2 : b < 32) (hm : m < n) : jq9 K V R b m = false := by
  obtain ⟨k, hk7, ek⟩ := hk m hm
  unfold jq9
  rw [ek, decide_eq_false (fun z => by have := (nI_eq (by omega) (by omega)).mp z; omega : ¬ nI k = nI b), decide_eq_false (by omega : ¬ b = 7)]
  simp
/-- the verdict of a set of parts -/
theorem vd_jd {n : Nat} {K V R K' V' R' : Nat → Int32} {B : Nat → Int64} {v : Int64} {P L G : Nat → Bool} (hn : n ≤ 43) (ha : agr n K V R K' V' R') (hR : rfK n R') (hk : kdK n K')
    (hB8 : ∀ b, b < 8 → ∀ m, m < 64 → wbit (B b) m = (decide (m < n) && pq9 n K V R b m)) (hv : ∀ m, m < 64 → wbit v m = (decide (m < n) && P m)) (hP : ∀ m, m < n → P m = (L m && !G m)) : vdI v B = jdL K' V' R' L G n := by
  refine b_ext (fun b hb => ?_)
  rw [jdL_bt hk n (Nat.le_refl n) b hb]
  unfold vdI
  rw [vdL_bt v B 8 (by decide) b hb]
  by_cases h : b < 8
  · rw [decide_eq_true h, Bool.true_and, and_z (by omega) hv (hB8 b h), Bool.not_not]
    exact anB_congr (fun m hm => by rw [hP m hm, pq_jq hn ha hR hk h hm])
  · rw [decide_eq_false h, Bool.false_and, anB_f]
    intro i hi
    rw [jq_big hk (by omega) hb hi, Bool.and_false]
def clo (n : Nat) (R : Nat → Int32) (L : Nat → Bool) : Prop := ∀ m, m < n → L m = true → R m = -1 ∨ L (R m).toNatClampNeg = true
theorem gw_mk {n i : Nat} {R R' : Nat → Int32} {L : Nat → Bool} (hn : n ≤ 43) (hr : ∀ j, j < n → R j = R' j) (hR : rfK n R') (hc : clo n R' L) : ∀ m, m < n → L m = true → gwI n R 0 i m = mkB R' L i m := by
  intro m
  induction m using Nat.strongRecOn with
  | ind m ih =>
    intro hm hl
    have hR0 : rfK n R := rfK_congr hr hR
    by_cases hx : R' m = -1
    · have hb : hB n (R m) = false := by rw [rf_hB hn hR0 hm, hr m hm, decide_eq_true hx]; rfl
      rw [gwI_f hb]
      by_cases e : m = i
      · subst e; rw [mkB_i, decide_eq_true rfl]
      · rw [mkB_N e hx, decide_eq_false e]
    · have hb : hB n (R m) = true := by rw [rf_hB hn hR0 hm, hr m hm, decide_eq_false hx]; rfl
      have hlt : (R' m).toNatClampNeg < m := rfK_lt hR hm hn hx
      have hl2 : L (R' m).toNatClampNeg = true := (hc m hm hl).resolve_left hx
      have h1 := ih _ hlt (by omega) hl2
      rw [gwI_t (Nat.zero_le m) hb (by rw [hr m hm]; exact hlt), hr m hm, h1]
      by_cases e : m = i
      · subst e; rw [mkB_i, decide_eq_true rfl]; rfl
      · rw [decide_eq_false e, Bool.false_or]
        by_cases hi : i ≤ m
        · exact (mkB_R e hi hl hx hlt).symm
        · rw [mkB_lt (by omega), mkB_lt (by omega)]
theorem mk_L {R : Nat → Int32} {L : Nat → Bool} {i m : Nat} (hi : L i = true) (h : mkB R L i m = true) : L m = true := by
  by_cases e : m = i
  · rw [e]; exact hi
  · cases hl : L m
    · rw [mkB_L e hl] at h; cases h
    · rfl
theorem cnt_w {w : Int64} {n : Nat} {L : Nat → Bool} (hn : n ≤ 64) (h : ∀ m, m < 64 → wbit w m = (decide (m < n) && L m)) : cnt (wbit w) 64 = cnt L n := by
  have e : (64 : Nat) = n + (64 - n) := by omega
  rw [e, cnt_add, cnt_0 (n := 64 - n), Nat.add_zero]
  · exact cnt_congr (fun j hj => by rw [h j (by omega), decide_eq_true hj, Bool.true_and])
  · intro j hj
    show wbit w (n + j) = false
    rw [h (n + j) (by omega), decide_eq_false (by omega), Bool.false_and]
theorem cnt_wa {w : Int64} {n a : Nat} {L : Nat → Bool} (hn : n ≤ 64) (ha : a ≤ n) (h : ∀ m, m < 64 → wbit w m = (decide (m < n) && L m)) : cnt (wbit w) a = cnt L a := cnt_congr (fun j hj => by rw [h j (by omega), decide_eq_true (by omega), Bool.true_and])
theorem cnt_split {L M : Nat → Bool} : ∀ {n}, (∀ j, j < n → M j = true → L j = true) → cnt L n = cnt (fun j => L j && !M j) n + cnt M n
  | 0, _ => rfl
  | n + 1, h => by
    have ih := cnt_split (n := n) (fun j hj => h j (by omega))
    have h2 := h n (by omega)
    show cnt L n + (L n).toNat = cnt (fun j => L j && !M j) n + (L n && !M n).toNat + (cnt M n + (M n).toNat)
    cases hm : M n
    · cases L n <;> simp <;> omega
    · rw [h2 hm]; simp; omega
theorem w_0 {w : Int64} {n : Nat} {L : Nat → Bool} (hn : n ≤ 64) (h : ∀ m, m < 64 → wbit w m = (decide (m < n) && L m)) : w = 0 ↔ cnt L n = 0 := by
  constructor
  · intro e
    refine cnt_0 (fun j hj => ?_)
    have h1 := h j (by omega)
    rw [e, wbit_0, decide_eq_true hj, Bool.true_and] at h1
    exact h1.symm
  · intro e
    refine wbit_z.mpr (fun m hm => ?_)
    rw [h m hm]
    by_cases hx : m < n
    · cases hl : L m
      · simp
      · have := cnt_pos hx hl; omega
    · rw [decide_eq_false hx, Bool.false_and]
section Sync
variable {n : Nat} {K V R K' V' R' : Nat → Int32} {G B : Nat → Int64} {w : Int64} {L S : Nat → Bool}
def bitW (n : Nat) (w : Int64) (L : Nat → Bool) : Prop := ∀ m, m < 64 → wbit w m = (decide (m < n) && L m)
def INV (n : Nat) (K V R : Nat → Int32) (G B : Nat → Int64) (w : Int64) (K' V' R' : Nat → Int32) (L : Nat → Bool) : Prop :=
  n ≤ 43 ∧ agr n K V R K' V' R' ∧ rfK n R' ∧ kdK n K' ∧ (∀ t, t < n → ∀ m, m < 64 → wbit (G t) m = (decide (m < n) && gwI n R 0 t m)) ∧ (∀ b, b < 8 → ∀ m, m < 64 → wbit (B b) m = (decide (m < n) && pq9 n K V R b m)) ∧ bitW n w L ∧ clo n R' L
theorem INV.lr (h : INV n K V R G B w K' V' R' L) {i : Nat} (hi : i < n) (hl : L i = true) : INV n K V R G B (noW w (G i)) K' V' R' (lvF n L (mkF R' L i n)) := by
  obtain ⟨hn, ha, hR, hk, hG, hB8, hw, hc⟩ := h
  have hr : ∀ j, j < n → R j = R' j := fun j hj => (ha j hj).2.2
  refine ⟨hn, ha, hR, hk, hG, hB8, ?_, ?_⟩
  · intro m hm
    unfold noW
    rw [wbit_no _ _ hm, hw m hm, hG i hi m hm]
    by_cases hx : m < n
    · rw [decide_eq_true hx]
      unfold lvF
      rw [if_pos hx, mkF_at hx]
      cases hm2 : L m
      · simp
      · rw [gw_mk hn hr hR hc m hx hm2]
        simp
    · rw [decide_eq_false hx]; simp
  · intro m hm h
    unfold lvF at h ⊢
    rw [if_pos hm, mkF_at hm] at h
    obtain ⟨h1, h2⟩ := Bool.and_eq_true_iff.mp h
    rcases hc m hm h1 with e | e
    · exact Or.inl e
    · by_cases hx : R' m = -1
      · exact Or.inl hx
      · right
        have hlt : (R' m).toNatClampNeg < m := rfK_lt hR hm hn hx
        have hlt2 : (R' m).toNatClampNeg < n := by omega
        rw [if_pos hlt2, e, mkF_at hlt2]
        cases hmk : mkB R' L i (R' m).toNatClampNeg
        · rfl
        · exfalso
          have hmi : ¬ m = i := fun z => by rw [z, mkB_i] at h2; cases h2
          have hge : i ≤ (R' m).toNatClampNeg := by
            rcases Nat.lt_or_ge (R' m).toNatClampNeg i with q | q
            · rw [mkB_lt q] at hmk; cases hmk
            · exact q
          rw [mkB_R hmi (by omega) h1 hx hlt, hmk] at h2
          cases h2
theorem INV.lrcnt (_ : INV n K V R G B w K' V' R' L) {i : Nat} (hl : L i = true) : cnt L n = cnt (lvF n L (mkF R' L i n)) n + cnt (mkB R' L i) n := by
  rw [cnt_split (L := L) (M := mkB R' L i) (fun j _ h => mk_L hl h)]
  congr 1
  exact cnt_congr (fun j hj => by
    show (L j && !mkB R' L i j) = lvF n L (mkF R' L i n) j
    unfold lvF
    rw [if_pos hj, mkF_at hj])
theorem INV.vd (h : INV n K V R G B w K' V' R' L) : vdI w B = jdL K' V' R' L fF n := by
  obtain ⟨hn, ha, hR, hk, hG, hB8, hw, hc⟩ := h
  exact vd_jd hn ha hR hk hB8 hw (fun m _ => by simp [fF])
theorem INV.vdl (h : INV n K V R G B w K' V' R' L) {i : Nat} (hi : i < n) (hl : L i = true) : vdI (noW w (G i)) B = jdL K' V' R' L (mkF R' L i n) n := by
  obtain ⟨hn, ha, hR, hk, hG, hB8, hw, hc⟩ := h.lr hi hl
  exact vd_jd hn ha hR hk hB8 hw (fun m hm => by unfold lvF; rw [if_pos hm])
theorem INV.cw (h : INV n K V R G B w K' V' R' L) : cnt (wbit w) 64 = cnt L n := cnt_w (by have := h.1; omega) h.2.2.2.2.2.2.1
theorem INV.mg (h : INV n K V R G B w K' V' R' L) {a : Nat} (ha : a < n) : mgB S G B w a = mgM n K' V' R' S L a := by
  have hn := h.1
  have hw := h.2.2.2.2.2.2.1 a (by omega)
  rw [decide_eq_true ha, Bool.true_and] at hw
  unfold mgB mgM
  rw [hw]
  cases hl : L a
  · rw [Bool.false_and, Bool.false_and]
  · have h2 := h.lr ha hl
    have hc := h.lrcnt (i := a) hl
    have hz := w_0 (by omega) h2.2.2.2.2.2.2.1
    unfold syB
    rw [h.vdl ha hl]
    have e : (!decide (noW w (G a) = 0)) = decide (cnt (mkB R' L a) n < cnt L n) := by
      by_cases hx : noW w (G a) = 0
      · have := hz.mp hx
        rw [decide_eq_true hx, decide_eq_false (by omega)]; rfl
      · have : ¬ cnt (lvF n L (mkF R' L a n)) n = 0 := fun z => hx (hz.mpr z)
        rw [decide_eq_false hx, decide_eq_true (by omega)]; rfl
    rw [e]
theorem INV.fg (h : INV n K V R G B w K' V' R' L) : fgO S G B n w = mgO n K' V' R' S L := fst9_congr (fun _ hj => h.mg hj)
theorem sh_sync : ∀ (k : Nat) (w : Int64) (L : Nat → Bool), INV n K V R G B w K' V' R' L → INV n K V R G B (shW S G B n k w) K' V' R' (shL n K' V' R' S k L)
  | 0, _, _, h => h
  | k + 1, w, L, h => by
    show INV n K V R G B (match fgO S G B n w with | none => w | some i => shW S G B n k (noW w (G i))) K' V' R' (match mgO n K' V' R' S L with | none => L | some i => shL n K' V' R' S k (lvF n L (mkF R' L i n)))
    rw [h.fg]
    cases e : mgO n K' V' R' S L with
    | none => exact h
    | some i => exact sh_sync k _ _ (h.lr (mgO_lt e).1 (mgO_lt e).2)
theorem shL_fuel : ∀ (f f' : Nat) (L : Nat → Bool), cnt L n ≤ f → cnt L n ≤ f' → shL n K' V' R' S f L = shL n K' V' R' S f' L
  | 0, f', L, h, _ => by
    have e : mgO n K' V' R' S L = none := fst9_none (fun a ha => by
      cases hl : L a
      · unfold mgM; rw [hl]; rfl
      · have := cnt_pos ha hl; omega)
    rw [shL_n e, shL_n e]
  | f + 1, f', L, h, h' => by
    cases e : mgO n K' V' R' S L with
    | none => rw [shL_n e, shL_n e]
    | some i =>
      have h1 := mgO_lt e
      have h2 := lv_less (R := R') h1.1 h1.2
      cases f' with
      | zero => omega
      | succ g =>
        rw [shL_s e, shL_s e]
        exact shL_fuel f g _ (by omega) (by omega)
theorem INV.all (h : INV n K V R G B w K' V' R' L) : INV n K V R G B (allW n) K' V' R' (alF n 43 L) := by
  obtain ⟨hn, ha, hR, hk, hG, hB8, hw, hc⟩ := h
  refine ⟨hn, ha, hR, hk, hG, hB8, ?_, ?_⟩
  · intro m hm
    unfold allW
    rw [wbit_all n (by omega) m hm]
    by_cases hx : m < n
    · unfold alF; rw [if_pos (by omega), decide_eq_true hx]; rfl
    · rw [decide_eq_false hx, Bool.false_and]
  · intro m hm _
    rcases hR m hm with e | ⟨r, h1, e⟩
    · exact Or.inl e
    · right
      rw [e, nI_clamp (by omega)]
      unfold alF
      rw [if_pos (by omega), decide_eq_true (by omega)]
theorem INV.sh (h : INV n K V R G B w K' V' R' L) : INV n K V R G B (shO S G B n w) K' V' R' (shE n K' V' R' S L) := by
  unfold shO shE syB
  rw [h.vd]
  cases hs : S (jdL K' V' R' L fF n).toNatClampNeg
  · rw [if_neg (by decide), if_neg (by decide)]
    exact h.all
  · rw [if_pos rfl, if_pos rfl, shL_fuel (n + 1) 43 L (by have := cnt_le L n; omega) (by have := cnt_le L n; have := h.1; omega)]
    exact sh_sync 43 w L h
theorem INV.lf (h : INV n K V R G B w K' V' R' L) (p : Int32) : fst9 (lfQ w p) n = fst9 (dQ L p) n := fst9_congr (fun a ha => by
  have hn := h.1
  have hw := h.2.2.2.2.2.2.1
  unfold lfQ dQ
  rw [hw a (by omega), decide_eq_true ha, Bool.true_and, cnt_wa (by omega) (by omega : a ≤ n) hw])
theorem INV.mn (h : INV n K V R G B w K' V' R' L) : mnB S G B n w = mnM n K' V' R' S L := by
  have hn := h.1
  have hz := w_0 (by omega) h.2.2.2.2.2.2.1
  unfold mnB mnM syB
  rw [h.vd, h.fg]
  have e1 : (!decide (w = 0)) = decide (0 < cnt L n) := by
    by_cases hx : w = 0
    · have := hz.mp hx
      rw [decide_eq_true hx, decide_eq_false (by omega)]; rfl
    · have : ¬ cnt L n = 0 := fun z => hx (hz.mpr z)
      rw [decide_eq_false hx, decide_eq_true (by omega)]; rfl
  have e2 : decide (oI (mgO n K' V' R' S L) = -1) = decide (mgO n K' V' R' S L = none) := by
    have := oI_m1 (o := mgO n K' V' R' S L) (fun i hi => by have := (mgO_lt hi).1; omega)
    by_cases hx : mgO n K' V' R' S L = none
    · rw [decide_eq_true hx, decide_eq_true (this.mpr hx)]
    · rw [decide_eq_false hx, decide_eq_false (fun z => hx (this.mp z))]
  rw [e1, e2]
theorem INV.pt (h : INV n K V R G B w K' V' R' L) {i : Nat} (hi : i < n) (p : Int32) : ptI K V R w i p = pmI K' V' R' L i p := by
  have ha := h.2.1
  have hw := h.2.2.2.2.2.2.1 i (by have := h.1; omega)
  rw [decide_eq_true hi, Bool.true_and] at hw
  unfold ptI pmI
  rw [(ha i hi).1, (ha i hi).2.1, (ha i hi).2.2, hw, cnt_congr (P := kP K (K' i)) (Q := kP K' (K' i)) (fun j hj => by unfold kP; rw [(ha j (by omega)).1])]
theorem INV.wo (h : INV n K V R G B w K' V' R' L) {i : Nat} (hi : i < n) (hl : L i = true) : (nI (cnt (wbit w) 64)) - (nI (cnt (wbit (noW w (G i))) 64)) = nI (cnt (mkB R' L i) n) := by
  have hc := h.lrcnt (i := i) hl
  rw [h.cw, (h.lr hi hl).cw, pk_sub (by omega)]
  congr 1
  omega
theorem INV.ft (h : INV n K V R G B w K' V' R' L) {i : Nat} (hi : i < n) (h5 : K' i = nI 5) : fB n K V R (nI i) = ft9 V' R' i := by
  obtain ⟨hn, ha, hR, hk, hG, hB8, hw, hc⟩ := h
  have hr : ∀ j, j < n → R j = R' j := fun j hj => (ha j hj).2.2
  rw [fB_ft hn (rfK_congr hr hR) hi, (ha i hi).1, h5, decide_eq_true rfl, Bool.true_and, ft_congr hn hR hi (fun j hj => (ha j hj).2.1) hr]
theorem INV.ct (h : INV n K V R G B w K' V' R' L) (p : Int32) : ctI n K B S w p = cmI n K' V' R' L S p := by
  have hcw := h.cw
  obtain ⟨hn, ha, hR, hk, hG, hB8, hw, hc⟩ := h
  have hr : ∀ j, j < n → R j = R' j := fun j hj => (ha j hj).2.2
  have hkp : ∀ q, cnt (kP K q) n = cnt (kP K' q) n := fun q => cnt_congr (fun j hj => by unfold kP; rw [(ha j hj).1])
  have h7 : cnt (wbit (B 7)) 64 = cnt (cfI n K' V' R') n := by
    rw [cnt_w (by omega) (hB8 7 (by decide))]
    exact cnt_congr (fun j hj => by
      unfold pq9 cfI
      rw [if_pos rfl, fB_ft hn (rfK_congr hr hR) hj, (ha j hj).1, ft_congr hn hR hj (fun j hj => (ha j hj).2.1) hr])
  by_cases h4 : p.toInt < 0 ∨ 4 < p.toInt
  · rw [ct_o h4]
    unfold ckI
    by_cases h10 : p < nI 10
    · rw [cm_o h10 h4, if_pos (Or.inl h10)]
    · by_cases h17 : nI 17 ≤ p
      · rw [cm_n h10 h17, if_pos (Or.inr (Int32.not_lt.mpr h17))]
      · rw [cm_k h10 h17, if_neg (fun z => z.elim h10 (fun y => y (Int32.not_le.mp h17))), hkp]
  · have hcase : ∃ j, j < 5 ∧ p = nI j := by
      refine ⟨p.toInt.toNat, by omega, sw_eq (k := p.toInt) rfl ?_⟩
      rw [nI_toInt (by omega)]
      omega
    obtain ⟨j, hj, rfl⟩ := hcase
    rcases (by omega : j = 0 ∨ j = 1 ∨ j = 2 ∨ j = 3 ∨ j = 4) with rfl | rfl | rfl | rfl | rfl
    · rw [ct_0, cm_0]
    · rw [ct_1, cm_1, hcw]
    · rw [ct_2, cm_2, hkp]
    · rw [ct_3, cm_3, h7]
    · rw [ct_4, cm_4]
end Sync
/-! the drawing: the one's parts and the reference's -/
def clS (t : HS) : Nat → HS
  | 0 => t
  | k + 1 => adS (if k < 3 then nI k else nbI (clS t k).1 7) k (if k < 3 then (clS t k).1 else nbX (clS t k).1 7, (clS t k).2)
theorem clS_s (t : HS) (k : Nat) : clS t (k + 1) = adS (if k < 3 then nI k else nbI (clS t k).1 7) k (if k < 3 then (clS t k).1 else nbX (clS t k).1 7, (clS t k).2) := rfl
theorem clS_3 (t : HS) : clS t 3 = fl3 t := by
  rw [clS_s t 2, if_pos (by decide), if_pos (by decide), clS_s t 1, if_pos (by decide), if_pos (by decide), clS_s t 0, if_pos (by decide), if_pos (by decide)]
  rfl
theorem flL_cl (t : HS) : ∀ j, flL (fl3 t) j = clS t (j + 3)
  | 0 => (clS_3 t).symm
  | j + 1 => by
    show adS (nbI (flL (fl3 t) j).1 7) (j + 3) (nbX (flL (fl3 t) j).1 7, (flL (fl3 t) j).2) = clS t (j + 3 + 1)
    rw [flL_cl t j, clS_s t (j + 3), if_neg (by omega), if_neg (by omega)]
theorem flS_cl (sd : Int64) (K V R : Nat → Int32) (z : Nat) : flS sd K V R z = clS (sd, K, V, R) (z + 3) := flL_cl _ z
theorem mP_congr {K K' : Nat → Int32} {kd : Int32} {n : Nat} (h : ∀ j, j < n → K j = K' j) : ∀ j, j < n → mP K kd j = mP K' kd j := fun j hj => by unfold mP; rw [h j hj]
theorem rfX_congr {K K' : Nat → Int32} {kd : Int32} {n : Nat} {x : Int64} (h : ∀ j, j < n → K j = K' j) : rfX K n kd x = rfX K' n kd x := by
  unfold rfX
  rw [cnt_congr (mP_congr h)]
theorem rfI_congr {K K' : Nat → Int32} {kd : Int32} {n : Nat} {x : Int64} (h : ∀ j, j < n → K j = K' j) : rfI K n kd x = rfI K' n kd x := by
  unfold rfI
  rw [cnt_congr (mP_congr h)]
  congr 1
  refine fst9_congr (fun a ha => ?_)
  unfold dQ
  rw [mP_congr h a ha, cnt_congr (fun j hj => mP_congr h j (by omega))]
def agS (f k : Nat) (t u : HS) : Prop := t.1 = u.1 ∧ ∀ j, j < k → t.2.1 j = u.2.1 (f + j) ∧ t.2.2.1 j = u.2.2.1 (f + j) ∧ t.2.2.2 j = u.2.2.2 (f + j)
theorem agS_s {f k : Nat} {t u : HS} {kd : Int32} (h : agS f k t u) : agS f (k + 1) (adS kd k t) (adM f kd k u) := by
  obtain ⟨hx, h⟩ := h
  have hK : ∀ j, j < k → upd t.2.1 k kd j = shf (upd u.2.1 (f + k) kd) f j := fun j hj => by
    unfold shf
    rw [pk_un (by omega), pk_un (by omega), (h j hj).1]
  have e1 : rfX (upd t.2.1 k kd) k kd (nbX t.1 100) = rfX (shf (upd u.2.1 (f + k) kd) f) k kd (nbX u.1 100) := by rw [hx]; exact rfX_congr hK
  have e2 : rfI (upd t.2.1 k kd) k kd (nbX t.1 100) = rfI (shf (upd u.2.1 (f + k) kd) f) k kd (nbX u.1 100) := by rw [hx]; exact rfI_congr hK
  refine ⟨e1, fun j hj => ?_⟩
  show upd t.2.1 k kd j = upd u.2.1 (f + k) kd (f + j) ∧ upd t.2.2.1 k (nbI t.1 100) j = upd u.2.2.1 (f + k) (nbI u.1 100) (f + j) ∧ upd t.2.2.2 k (rfI (upd t.2.1 k kd) k kd (nbX t.1 100)) j = upd u.2.2.2 (f + k) (rfI (shf (upd u.2.1 (f + k) kd) f) k kd (nbX u.1 100)) (f + j)
  by_cases e : j = k
  · subst e
    rw [pk_us, pk_us, pk_us, pk_us, pk_us, pk_us, hx, ← e2, hx]
    exact ⟨rfl, rfl, rfl⟩
  · rw [pk_un e, pk_un (by omega), pk_un e, pk_un (by omega), pk_un e, pk_un (by omega)]
    exact h j (by omega)
theorem cl_dr {f : Nat} {t u : HS} (h : t.1 = u.1) : ∀ k, agS f k (clS t k) (drM f u k)
  | 0 => ⟨h, fun _ h => absurd h (Nat.not_lt_zero _)⟩
  | k + 1 => by
    have ih := cl_dr (f := f) h k
    show agS f (k + 1) (adS (if k < 3 then nI k else nbI (clS t k).1 7) k (if k < 3 then (clS t k).1 else nbX (clS t k).1 7, (clS t k).2)) (adM f (if k < 3 then nI k else nbI (drM f u k).1 7) k (if k < 3 then (drM f u k).1 else nbX (drM f u k).1 7, (drM f u k).2))
    rw [ih.1]
    exact agS_s ⟨rfl, ih.2⟩
theorem dr_low {f : Nat} {u : HS} : ∀ k j, j < f → (drM f u k).2.1 j = u.2.1 j ∧ (drM f u k).2.2.1 j = u.2.2.1 j ∧ (drM f u k).2.2.2 j = u.2.2.2 j
  | 0, _, _ => ⟨rfl, rfl, rfl⟩
  | k + 1, j, hj => by
    have ih := dr_low (u := u) k j hj
    refine ⟨?_, ?_, ?_⟩
    · exact (pk_un (by omega)).trans ih.1
    · exact (pk_un (by omega)).trans ih.2.1
    · exact (pk_un (by omega)).trans ih.2.2
theorem cl_ok (t : HS) : ∀ k i, i < k → (∃ q, q < 7 ∧ (clS t k).2.1 i = nI q) ∧ ((clS t k).2.2.2 i = -1 ∨ ∃ r, r < i ∧ (clS t k).2.2.2 i = nI r)
  | 0, i, h => absurd h (Nat.not_lt_zero i)
  | k + 1, i, h => by
    by_cases e : i = k
    · subst e
      refine ⟨?_, ?_⟩
      · show ∃ q, q < 7 ∧ upd (clS t i).2.1 i (if i < 3 then nI i else nbI (clS t i).1 7) i = nI q
        rw [pk_us]
        by_cases h3 : i < 3
        · rw [if_pos h3]; exact ⟨i, by omega, rfl⟩
        · rw [if_neg h3]
          unfold nbI
          rw [if_neg (by decide)]
          exact ⟨_, Nat.mod_lt _ (by decide), rfl⟩
      · rw [clS_s]
        generalize (if i < 3 then nI i else nbI (clS t i).1 7) = kd
        generalize ((if i < 3 then (clS t i).1 else nbX (clS t i).1 7), (clS t i).2) = u
        show upd u.2.2.2 i (rfI (upd u.2.1 i kd) i kd (nbX u.1 100)) i = -1 ∨ ∃ r, r < i ∧ upd u.2.2.2 i (rfI (upd u.2.1 i kd) i kd (nbX u.1 100)) i = nI r
        rw [pk_us]
        unfold rfI
        cases hx : fst9 (dQ (mP (upd u.2.1 i kd) kd) (nbI (nbX u.1 100) (cnt (mP (upd u.2.1 i kd) kd) i))) i with
        | none => exact Or.inl rfl
        | some r => exact Or.inr ⟨r, (fst9_spec hx).1, rfl⟩
    · have ih := cl_ok t k i (by omega)
      refine ⟨?_, ?_⟩
      · obtain ⟨q, h1, h2⟩ := ih.1
        exact ⟨q, h1, (pk_un e).trans h2⟩
      · rcases ih.2 with h1 | ⟨r, h1, h2⟩
        · exact Or.inl ((pk_un e).trans h1)
        · exact Or.inr ⟨r, h1, (pk_un e).trans h2⟩
theorem INV_draw {sd : Int64} {K V R K' V' R' : Nat → Int32} {G B : Nat → Int64} {L : Nat → Bool} {z : Nat} (hz : z ≤ 40) :
    INV (z + 3) (flS sd K V R z).2.1 (flS sd K V R z).2.2.1 (flS sd K V R z).2.2.2 (gwG (z + 3) (flS sd K V R z).2.2.2 G) (pbB (z + 3) (flS sd K V R z).2.1 (flS sd K V R z).2.2.1 (flS sd K V R z).2.2.2 B) (allW (z + 3))
      (drM 0 (sd, K', V', R') (z + 3)).2.1 (drM 0 (sd, K', V', R') (z + 3)).2.2.1 (drM 0 (sd, K', V', R') (z + 3)).2.2.2 (alF (z + 3) 43 L) := by
  rw [flS_cl]
  have hc := cl_dr (f := 0) (t := (sd, K, V, R)) (u := (sd, K', V', R')) rfl (z + 3)
  have ho := cl_ok (sd, K, V, R) (z + 3)
  have ha : agr (z + 3) (clS (sd, K, V, R) (z + 3)).2.1 (clS (sd, K, V, R) (z + 3)).2.2.1 (clS (sd, K, V, R) (z + 3)).2.2.2 (drM 0 (sd, K', V', R') (z + 3)).2.1 (drM 0 (sd, K', V', R') (z + 3)).2.2.1 (drM 0 (sd, K', V', R') (z + 3)).2.2.2 := fun j hj => by
    have := hc.2 j hj
    rw [Nat.zero_add] at this
    exact this
  have hr0 : rfK (z + 3) (clS (sd, K, V, R) (z + 3)).2.2.2 := fun i hi => (ho i hi).2
  have hr : rfK (z + 3) (drM 0 (sd, K', V', R') (z + 3)).2.2.2 := rfK_congr (fun j hj => (ha j hj).2.2.symm) hr0
  have hk : kdK (z + 3) (drM 0 (sd, K', V', R') (z + 3)).2.1 := fun i hi => by
    rw [← (ha i hi).1]
    exact (ho i hi).1
  refine ⟨by omega, ha, hr, hk, fun t ht m hm => gwG_bit (by omega) (rf_OK (by omega) hr0) ht hm, fun b hb m hm => pbB_bit (by omega) hb hm, fun m hm => ?_, fun m hm _ => ?_⟩
  · unfold allW
    rw [wbit_all (z + 3) (by omega) m hm]
    by_cases hx : m < z + 3
    · unfold alF; rw [if_pos (by omega), decide_eq_true hx]; rfl
    · rw [decide_eq_false hx, Bool.false_and]
  · rcases hr m hm with e | ⟨r, h1, e⟩
    · exact Or.inl e
    · right
      rw [e, nI_clamp (by omega)]
      unfold alF
      rw [if_pos (by omega), decide_eq_true (by omega)]
theorem INV_same {n : Nat} {K V R K' V' R' : Nat → Int32} {ot : Int64} {K2 V2 R2 : Nat → Int32} {z : Nat} (hn : n ≤ 43) (ha : agr n K V R K' V' R') :
    lkB n (z + 3) K V R (flS ot K2 V2 R2 z).2.1 (flS ot K2 V2 R2 z).2.2.1 (flS ot K2 V2 R2 z).2.2.2 =
      (decide (n = z + 3) && alB (eq3 (drM 43 (ot, K', V', R') (z + 3)).2.1 (drM 43 (ot, K', V', R') (z + 3)).2.2.1 (drM 43 (ot, K', V', R') (z + 3)).2.2.2 (shf (drM 43 (ot, K', V', R') (z + 3)).2.1 43) (shf (drM 43 (ot, K', V', R') (z + 3)).2.2.1 43) (shf (drM 43 (ot, K', V', R') (z + 3)).2.2.2 43)) n) := by
  rw [flS_cl]
  have hc := cl_dr (f := 43) (t := (ot, K2, V2, R2)) (u := (ot, K', V', R')) rfl (z + 3)
  unfold lkB alB
  by_cases e : n = z + 3
  · rw [decide_eq_true e, decide_eq_true e.symm]
    congr 2
    refine fst9_congr (fun j hj => ?_)
    have h1 := ha j hj
    have h2 := hc.2 j (by omega)
    have h3 := dr_low (f := 43) (u := (ot, K', V', R')) (z + 3) j (by omega)
    show (!(eq3 K V R _ _ _ j)) = (!(eq3 _ _ _ _ _ _ j))
    unfold eq3 shf
    rw [h1.1, h1.2.1, h1.2.2, h2.1, h2.2.1, h2.2.2, h3.1, h3.2.1, h3.2.2]
  · rw [decide_eq_false e, decide_eq_false (fun z => e z.symm)]
    rfl
theorem INV_0 : INV 0 (fun _ => 0) (fun _ => 0) (fun _ => 0) (fun _ => 0) (fun _ => 0) 0 (fun _ => 0) (fun _ => 0) (fun _ => 0) fF := by
  refine ⟨by omega, fun j h => absurd h (Nat.not_lt_zero j), fun j h => absurd h (Nat.not_lt_zero j), fun j h => absurd h (Nat.not_lt_zero j), fun j h => absurd h (Nat.not_lt_zero j), fun b _ m _ => ?_, fun m _ => ?_, fun j h => absurd h (Nat.not_lt_zero j)⟩
  · show wbit 0 m = _
    rw [wbit_0]
    simp
  · rw [wbit_0]
    simp
