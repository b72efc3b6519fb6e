/-! PURE: what the methods of the reference answer and leave -/
def fF : Nat → Bool := fun _ => false
theorem ar_at {D : va_G} {cl : List vw_C} {a : Nat} {cA : ClassId} {n : Nat} {f g : Nat → Int32} {H : Heap} (he : ∀ j, j < n → f j = g j) (h : va_at D cl (a, .inl (cA, n, .inl f)) H) : va_at D cl (a, .inl (cA, n, .inl g)) H := by
  have e : vp_cell cA (n, .inl f) = vp_cell cA (n, .inl g) := by
    show arrV cA n (fun j => Value.int (f j)) = arrV cA n (fun j => Value.int (g j))
    unfold arrV
    congr 1
    congr 1
    funext j
    show Value.int (f j.val) = Value.int (g j.val)
    rw [he j.val j.isLt]
  exact h.trans (congrArg some e)
theorem ar_P {D : va_G} {cl : List vw_C} {ws : va_W} {H : Heap} (hP : va_P D cl ws H) (k : Nat) {a : Nat} {cA : ClassId} {n : Nat} {f g : Nat → Int32} (hk : ws[k]? = some (a, .inl (cA, n, .inl f))) (he : ∀ j, j < n → f j = g j) : va_P D cl (ws.set k (a, .inl (cA, n, .inl g))) H := by
  intro i q hq
  by_cases e : i = k
  · subst e
    have hlt : i < ws.length := (List.getElem?_eq_some_iff.mp hk).1
    rw [List.getElem?_set_self hlt] at hq
    cases hq
    exact ar_at he (hP i _ hk)
  · rw [List.getElem?_set_ne (fun z => e z.symm)] at hq
    exact hP i q hq
theorem ar_D {A : Nat → Prop} {ws : va_W} (hD : va_D A ws) (k : Nat) {a : Nat} {e e' : va_E} (hk : ws[k]? = some (a, e)) : va_D A (ws.set k (a, e')) := by
  have hlt : k < ws.length := (List.getElem?_eq_some_iff.mp hk).1
  have h : ∀ (i : Nat) (q : Nat × va_E), (ws.set k (a, e'))[i]? = some q → ∃ q' : Nat × va_E, ws[i]? = some q' ∧ q'.1 = q.1 := by
    intro i q hq
    by_cases z : i = k
    · subst z
      rw [List.getElem?_set_self hlt] at hq
      cases hq
      exact ⟨_, hk, rfl⟩
    · rw [List.getElem?_set_ne (fun y => z y.symm)] at hq
      exact ⟨q, hq, rfl⟩
  refine ⟨fun i j p q hp hq e => ?_, fun i q hq => ?_⟩
  · obtain ⟨p', hp', ep⟩ := h i p hp
    obtain ⟨q', hq', eq⟩ := h j q hq
    exact hD.1 i j p' q' hp' hq' (by rw [ep, eq]; exact e)
  · obtain ⟨q', hq', eq⟩ := h i q hq
    rw [← eq]
    exact hD.2 i q' hq'
def rfK (n : Nat) (R : Nat → Int32) : Prop := ∀ i, i < n → R i = -1 ∨ ∃ r, r < i ∧ R i = nI r
def kdK (n : Nat) (K : Nat → Int32) : Prop := ∀ i, i < n → ∃ k, k < 7 ∧ K i = nI k
theorem rfK_in {n i m : Nat} {R : Nat → Int32} (h : rfK n R) (hi : i < n) (hn : n ≤ m) (hm : m < 2 ^ 31) (hr : ¬ R i = -1) : vp_in (R i) m := by
  rcases h i hi with e | ⟨r, h1, e⟩
  · exact absurd e hr
  · rw [e]; exact vp_in_nI (by omega) hm
def ft9 (V R : Nat → Int32) (i : Nat) : Bool := !decide (R i = -1) && decide (rm2 (V (R i).toNatClampNeg) = rm2 (V i))
def inB (v a b : Int32) : Bool := !decide (v < a) && !decide (b < v)
def jdA (K V : Nat → Int32) (i : Nat) (v : Int32) : Int32 := v ||| (if V i < nI 50 then nI 0 else nI 1 <<< (K i &&& 31))
def jdS (K V R : Nat → Int32) (i : Nat) (v : Int32) : Int32 := jdA K V i v ||| (if (decide (K i = nI 5) && ft9 V R i) = true then nI 128 else nI 0)
def jdL (K V R : Nat → Int32) (L G : Nat → Bool) : Nat → Int32
  | 0 => nI 0
  | i + 1 => if (L i && !G i) = true then jdS K V R i (jdL K V R L G i) else jdL K V R L G i
theorem jdL_t {K V R : Nat → Int32} {L G : Nat → Bool} {i : Nat} (h1 : L i = true) (h2 : G i = false) : jdS K V R i (jdL K V R L G i) = jdL K V R L G (i + 1) := (if_pos (by rw [h1, h2]; rfl)).symm
theorem jdL_f1 {K V R : Nat → Int32} {L G : Nat → Bool} {i : Nat} (h1 : L i = false) : jdL K V R L G i = jdL K V R L G (i + 1) := (if_neg (by rw [h1]; simp)).symm
theorem jdL_f2 {K V R : Nat → Int32} {L G : Nat → Bool} {i : Nat} (h2 : G i = true) : jdL K V R L G i = jdL K V R L G (i + 1) := (if_neg (by rw [h2]; cases L i <;> decide)).symm
/-- which bit of a verdict part i gives -/
def jq9 (K V R : Nat → Int32) (b i : Nat) : Bool := (!(decide (V i < nI 50)) && decide (K i = nI b)) || (decide (b = 7) && (decide (K i = nI 5) && ft9 V R i))
theorem jdL_bt {n : Nat} {K V R : Nat → Int32} {L G : Nat → Bool} (hk : kdK n K) : ∀ m, m ≤ n → ∀ b, b < 32 → bt (jdL K V R L G m) b = anB (fun i => (L i && !G i) && jq9 K V R b i) m := by
  intro m
  induction m with
  | zero =>
    intro _ b _
    rw [show jdL K V R L G 0 = 0 from rfl, b_0]
    rfl
  | succ i ih =>
    intro hm b hb
    have h0 := ih (by omega) b hb
    have ha : anB (fun i => (L i && !G i) && jq9 K V R b i) (i + 1) = (anB (fun i => (L i && !G i) && jq9 K V R b i) i || ((L i && !G i) && jq9 K V R b i)) := by
      cases e : ((L i && !G i) && jq9 K V R b i)
      · unfold anB
        rw [cnt_f (P := fun i => (L i && !G i) && jq9 K V R b i) e, Bool.or_false]
      · rw [anB_t (Q := fun i => (L i && !G i) && jq9 K V R b i) (Nat.lt_succ_self i) e, Bool.or_true]
    rw [ha]
    by_cases hc : (L i && !G i) = true
    · rw [show jdL K V R L G (i + 1) = jdS K V R i (jdL K V R L G i) from if_pos hc, hc]
      unfold jdS jdA
      rw [b_or, b_or, h0]
      obtain ⟨k, hk7, ek⟩ := hk i (by omega)
      have h1 : bt (if V i < nI 50 then nI 0 else nI 1 <<< (K i &&& 31)) b = (!(decide (V i < nI 50)) && decide (K i = nI b)) := by
        by_cases hv : V i < nI 50
        · rw [if_pos hv, decide_eq_true hv, show nI 0 = 0 from rfl, b_0]; rfl
        · rw [if_neg hv, decide_eq_false hv, ek, b_shl k (by omega) (nI 1) hb]
          have hone : ∀ j, j < 32 → bt (nI 1) j = decide (j = 0) := by decide +kernel
          by_cases e : k ≤ b
          · rw [hone (b - k) (by omega)]
            by_cases e2 : b = k
            · subst e2; simp
            · rw [decide_eq_false (by omega : ¬ b - k = 0), decide_eq_false (fun z => e2 ((nI_eq (by omega) (by omega)).mp z).symm)]; simp
          · rw [decide_eq_false e, decide_eq_false (fun z => e (by have := (nI_eq (by omega) (by omega)).mp z; omega))]; rfl
      have h2 : bt (if (decide (K i = nI 5) && ft9 V R i) = true then nI 128 else nI 0) b = (decide (b = 7) && (decide (K i = nI 5) && ft9 V R i)) := by
        cases hq : (decide (K i = nI 5) && ft9 V R i)
        · rw [if_neg (by decide), show nI 0 = 0 from rfl, b_0]; simp
        · rw [if_pos rfl]
          have h128 : ∀ j, j < 32 → bt (nI 128) j = decide (j = 7) := by decide +kernel
          rw [h128 b hb]; simp
      rw [h1, h2]
      unfold jq9
      simp [Bool.or_assoc]
    · rw [show jdL K V R L G (i + 1) = jdL K V R L G i from if_neg hc, h0]
      have : (L i && !G i) = false := by cases z : (L i && !G i); rfl; exact absurd z hc
      rw [this]; simp
theorem jdL_lt {n : Nat} {K V R : Nat → Int32} {L G : Nat → Bool} (hk : kdK n K) : ∃ j, j < 256 ∧ jdL K V R L G n = nI j := by
  refine bt_lt (k := 8) (by decide) (fun b hb h8 => ?_)
  rw [jdL_bt hk n (Nat.le_refl n) b hb]
  refine anB_f (fun i hi => ?_)
  obtain ⟨k, hk7, ek⟩ := hk i hi
  show ((L i && !G i) && jq9 K V R b i) = false
  unfold jq9
  rw [ek, decide_eq_false (fun z => by have := (nI_eq (by omega) (by omega)).mp z; omega : ¬ nI k = nI b), decide_eq_false (by omega : ¬ b = 7)]
  simp
theorem jdL_in {n : Nat} {K V R : Nat → Int32} {L G : Nat → Bool} (hk : kdK n K) : vp_in (jdL K V R L G n) 256 := by
  obtain ⟨j, h, e⟩ := jdL_lt (V := V) (R := R) (L := L) (G := G) hk
  rw [e]; exact vp_in_nI h (by decide)
def nzF (i : Nat) (G : Nat → Bool) : Nat → Bool := fun j => if j < i then false else G j
theorem nzF_s (i : Nat) (G : Nat → Bool) : uB (nzF i G) i false = nzF (i + 1) G := by
  funext j
  unfold uB nzF
  by_cases e : j = i
  · subst e; simp
  · by_cases h : j < i
    · simp [e, h]; omega
    · have : ¬ j < i + 1 := by omega
      simp [e, h, this]
def alF (n i : Nat) (L : Nat → Bool) : Nat → Bool := fun j => if j < i then decide (j < n) else L j
theorem alF_s (n i : Nat) (L : Nat → Bool) {b : Bool} (hb : b = decide (i < n)) : uB (alF n i L) i b = alF n (i + 1) L := by
  funext j
  unfold uB alF
  by_cases e : j = i
  · subst e; simp [hb]
  · by_cases h : j < i
    · have : j < i + 1 := by omega
      simp [e, h, this]
    · have : ¬ j < i + 1 := by omega
      simp [e, h, this]
def lvF (i : Nat) (L G : Nat → Bool) : Nat → Bool := fun j => if j < i then (L j && !G j) else L j
theorem lvF_s (i : Nat) (L G : Nat → Bool) {b : Bool} (hb : b = (L i && !G i)) : uB (lvF i L G) i b = lvF (i + 1) L G := by
  funext j
  unfold uB lvF
  by_cases e : j = i
  · subst e; simp [hb]
  · by_cases h : j < i
    · have : j < i + 1 := by omega
      simp [e, h, this]
    · have : ¬ j < i + 1 := by omega
      simp [e, h, this]
theorem lvF_at (i : Nat) (L G : Nat → Bool) : lvF i L G i = L i := if_neg (Nat.lt_irrefl i)
theorem lvF_0 (L G : Nat → Bool) : lvF 0 L G = L := by
  funext j
  exact if_neg (Nat.not_lt_zero j)
theorem alF_0 (n : Nat) (L : Nat → Bool) : alF n 0 L = L := by
  funext j
  exact if_neg (Nat.not_lt_zero j)
theorem nzF_0 (G : Nat → Bool) : nzF 0 G = G := by
  funext j
  exact if_neg (Nat.not_lt_zero j)
/-- does part j go with part i, by those left -/
def mkB (R : Nat → Int32) (L : Nat → Bool) (i : Nat) (j : Nat) : Bool :=
  decide (j = i) || (decide (i ≤ j) && (L j && (!decide (R j = -1) && (if h : (R j).toNatClampNeg < j then mkB R L i (R j).toNatClampNeg else false))))
termination_by j
theorem mkB_lt {R : Nat → Int32} {L : Nat → Bool} {i j : Nat} (h : j < i) : mkB R L i j = false := by
  rw [mkB, decide_eq_false (by omega : ¬ j = i), decide_eq_false (by omega : ¬ i ≤ j)]
  rfl
theorem mkB_i (R : Nat → Int32) (L : Nat → Bool) (i : Nat) : mkB R L i i = true := by
  rw [mkB, decide_eq_true rfl]
  rfl
theorem mkB_L {R : Nat → Int32} {L : Nat → Bool} {i j : Nat} (h : ¬ j = i) (hl : L j = false) : mkB R L i j = false := by
  rw [mkB, decide_eq_false h, hl]
  simp
theorem mkB_N {R : Nat → Int32} {L : Nat → Bool} {i j : Nat} (h : ¬ j = i) (hr : R j = -1) : mkB R L i j = false := by
  rw [mkB, decide_eq_false h, decide_eq_true hr]
  simp
theorem mkB_R {R : Nat → Int32} {L : Nat → Bool} {i j : Nat} (h : ¬ j = i) (hij : i ≤ j) (hl : L j = true) (hr : ¬ R j = -1) (hlt : (R j).toNatClampNeg < j) : mkB R L i j = mkB R L i (R j).toNatClampNeg := by
  rw [mkB, decide_eq_false h, decide_eq_true hij, hl, decide_eq_false hr, dif_pos hlt]
  simp
def mkF (R : Nat → Int32) (L : Nat → Bool) (i k : Nat) : Nat → Bool := fun j => if j < k then mkB R L i j else false
theorem mkF_0 (R : Nat → Int32) (L : Nat → Bool) (i : Nat) : fF = mkF R L i i := by
  funext j
  unfold fF mkF
  by_cases h : j < i
  · rw [if_pos h, mkB_lt h]
  · rw [if_neg h]
theorem mkF_s {R : Nat → Int32} {L : Nat → Bool} {i k : Nat} {b : Bool} (hb : b = mkB R L i k) : uB (mkF R L i k) k b = mkF R L i (k + 1) := by
  funext j
  unfold uB mkF
  by_cases e : j = k
  · subst e; simp [hb]
  · by_cases h : j < k
    · have : j < k + 1 := by omega
      simp [e, h, this]
    · have : ¬ j < k + 1 := by omega
      simp [e, h, this]
theorem mkF_at {R : Nat → Int32} {L : Nat → Bool} {i k j : Nat} (h : j < k) : mkF R L i k j = mkB R L i j := if_pos h
theorem mkB_0 (R : Nat → Int32) (L : Nat → Bool) (i : Nat) : cnt (mkB R L i) i = 0 := cnt_0 (fun _ h => mkB_lt h)
def mgM (n : Nat) (K V R : Nat → Int32) (S L : Nat → Bool) : Nat → Bool := fun i => L i && (decide (cnt (mkB R L i) n < cnt L n) && S (jdL K V R L (mkF R L i n) n).toNatClampNeg)
def mgO (n : Nat) (K V R : Nat → Int32) (S L : Nat → Bool) : Option Nat := fst9 (mgM n K V R S L) n
def gaS (n : Nat) (R : Nat → Int32) (L : Nat → Bool) (i : Nat) (G : Nat → Bool) : Nat → Bool := if L i = true then mkF R L i n else G
def gaF (n : Nat) (R : Nat → Int32) (L G : Nat → Bool) : Nat → Nat → Bool
  | 0 => G
  | k + 1 => gaS n R L k (gaF n R L G k)
def gaE (n : Nat) (K V R : Nat → Int32) (S L G : Nat → Bool) : Nat → Bool := match mgO n K V R S L with
  | some i => mkF R L i n
  | none => gaF n R L G n
def shL (n : Nat) (K V R : Nat → Int32) (S : Nat → Bool) : Nat → (Nat → Bool) → Nat → Bool
  | 0, L => L
  | f + 1, L => match mgO n K V R S L with
    | none => L
    | some i => shL n K V R S f (lvF n L (mkF R L i n))
def shE (n : Nat) (K V R : Nat → Int32) (S L : Nat → Bool) : Nat → Bool := if S (jdL K V R L fF n).toNatClampNeg = true then shL n K V R S (n + 1) L else alF n 43 L
theorem mgO_lt {n : Nat} {K V R : Nat → Int32} {S L : Nat → Bool} {i : Nat} (h : mgO n K V R S L = some i) : i < n ∧ L i = true := by
  have h1 := fst9_spec h
  refine ⟨h1.1, ?_⟩
  have h2 := h1.2.1
  unfold mgM at h2
  exact (Bool.and_eq_true_iff.mp h2).1
theorem lv_less {n : Nat} {R : Nat → Int32} {L : Nat → Bool} {i : Nat} (hi : i < n) (hl : L i = true) : cnt (lvF n L (mkF R L i n)) n < cnt L n := by
  refine cnt_lt (i := i) (fun j hj h => ?_) hi hl ?_
  · unfold lvF at h
    rw [if_pos hj] at h
    exact (Bool.and_eq_true_iff.mp h).1
  · unfold lvF
    rw [if_pos hi, mkF_at hi, mkB_i]
    simp
theorem shL_s {n f : Nat} {K V R : Nat → Int32} {S L : Nat → Bool} {i : Nat} (h : mgO n K V R S L = some i) : shL n K V R S (f + 1) L = shL n K V R S f (lvF n L (mkF R L i n)) := by
  show (match mgO n K V R S L with | none => L | some i => shL n K V R S f (lvF n L (mkF R L i n))) = _
  rw [h]
theorem shL_n {n f : Nat} {K V R : Nat → Int32} {S L : Nat → Bool} (h : mgO n K V R S L = none) : shL n K V R S f L = L := by
  cases f with
  | zero => rfl
  | succ f =>
    show (match mgO n K V R S L with | none => L | some i => shL n K V R S f (lvF n L (mkF R L i n))) = _
    rw [h]
theorem mg_lt0 {n : Nat} {K V R : Nat → Int32} {S L : Nat → Bool} (hn : n ≤ 43) : oI (mgO n K V R S L) < 0 ↔ mgO n K V R S L = none := by
  cases e : mgO n K V R S L with
  | none => exact ⟨fun _ => rfl, fun _ => by decide⟩
  | some i => exact ⟨fun z => absurd z (nI_pos (by have := (mgO_lt e).1; omega)), fun z => by cases z⟩
def shf (K : Nat → Int32) (f : Nat) : Nat → Int32 := fun j => K (f + j)
def adM (f : Nat) (kd : Int32) (k : Nat) (t : HS) : HS := (rfX (shf (upd t.2.1 (f + k) kd) f) k kd (nbX t.1 100), upd t.2.1 (f + k) kd, upd t.2.2.1 (f + k) (nbI t.1 100), upd t.2.2.2 (f + k) (rfI (shf (upd t.2.1 (f + k) kd) f) k kd (nbX t.1 100)))
def drM (f : Nat) (t : HS) : Nat → HS
  | 0 => t
  | k + 1 => adM f (if k < 3 then nI k else nbI (drM f t k).1 7) k (if k < 3 then (drM f t k).1 else nbX (drM f t k).1 7, (drM f t k).2)
theorem dQ_once {P : Nat → Bool} {pick : Int32} {a b : Nat} (hab : a < b) (hb : b < 2 ^ 31) (h1 : dQ P pick a = true) (h2 : dQ P pick b = true) : False := by
  unfold dQ at h1 h2
  simp only [Bool.and_eq_true, decide_eq_true_eq] at h1 h2
  have e := h1.2.trans h2.2.symm
  have hb1 := cnt_le P b
  have ha1 := cnt_le P a
  have e2 := (nI_eq (by omega) (by omega)).mp e
  have h3 := cnt_mono P (a := a + 1) (n := b) hab
  rw [cnt_t h1.1] at h3
  omega
theorem fst9_up {P : Nat → Bool} {pick : Int32} {i : Nat} (hi : i < 2 ^ 31) (h : dQ P pick i = true) : fst9 (dQ P pick) (i + 1) = some i := by
  refine fst9_some h (fun a ha => ?_) (Nat.lt_succ_self i)
  cases e : dQ P pick a
  · rfl
  · exact (dQ_once ha hi e h).elim
theorem fst9_st {Q : Nat → Bool} {i : Nat} (h : Q i = false) : fst9 Q (i + 1) = fst9 Q i := by
  show (match fst9 Q i with | some i => some i | none => if Q i = true then some i else none) = fst9 Q i
  rw [h]
  cases fst9 Q i <;> rfl
theorem pk_0 {p : Int32} {a : Nat} : p - nI a = 0 ↔ nI a = p := by
  constructor
  · intro h
    have : p = nI a := by
      have h2 : p - nI a + nI a = 0 + nI a := by rw [h]
      rwa [Int32.sub_add_cancel, Int32.zero_add] at h2
    exact this.symm
  · intro h
    rw [h, Int32.sub_self]
theorem pk_1 (p : Int32) (a : Nat) : p - nI a - nI 1 = p - nI (a + 1) := by
  rw [← nI_add, Int32.sub_eq_add_neg, Int32.sub_eq_add_neg, Int32.sub_eq_add_neg, Int32.neg_add, Int32.add_assoc, Int32.sub_eq_add_neg (-nI a)]
theorem pk_z (p : Int32) : p - nI 0 = p := by
  rw [nI_0, Int32.sub_zero]
theorem nb_lrem (x : Int64) {q : Nat} (h0 : 0 < q) (hq : q < 2 ^ 31) : (lN (hi9 x) - lN (hi9 x) / lN q * lN q).toInt32 = nI (hi9 x % q) := by
  rw [pk_lRem (Nat.lt_trans (hi9_lt x) (by decide)) h0 (by omega), lN_i]
theorem hi9_shl (x : Int64) : (x.toUInt64 >>> ((nI 33).toInt64.toUInt64 &&& Int64.toUInt64 63)).toInt64 = lN (hi9 x) := by
  obtain ⟨n, hn, rfl⟩ := wb_of x
  rw [wb_shr hn (by decide)]
  unfold hi9
  rw [wb_tn hn]
theorem lN_nz {q : Nat} (h0 : 0 < q) (hq : q < 2 ^ 31) : ¬ lN q = 0 := fun h => by
  have h2 : lN q = lN 0 := h
  have := (lN_eq hq (by decide)).mp h2
  omega
theorem rf_sub (f i : Nat) : nI (f + i) - nI f = nI i := by
  rw [pk_sub (by omega)]
  congr 1
  omega
theorem nI_le0 {a : Nat} (h : a < 2 ^ 31) : nI a ≤ 0 ↔ a = 0 := by
  rw [← nI_0, nI_leI h (by decide)]
  omega
theorem pk_0n {p : Int32} {a : Nat} : p - nI a = nI 0 ↔ nI a = p := pk_0
theorem rfK_lt {n k : Nat} {R : Nat → Int32} (h : rfK n R) (hk : k < n) (hn : n ≤ 43) (hr : ¬ R k = -1) : (R k).toNatClampNeg < k := by
  rcases h k hk with e | ⟨r, h1, e⟩
  · exact absurd e hr
  · rw [e, nI_clamp (by omega)]; exact h1
theorem hB_i86 {n : Nat} {x : Int32} (h : hB n x = true) (hn : n ≤ 43) : vp_in x 86 := by
  obtain ⟨j, hj, rfl⟩ := hB_of h (by omega)
  exact vp_in_nI (by omega) (by omega)
theorem in_sz {z : Nat} (h : z ≤ 40) : inB (nI z) (nI 0) (nI 40) = true := szB_nI h
theorem in255 {p : Int32} (h : inB p (nI 0) (nI 255) = true) : ¬ p < 0 ∧ ¬ nI 256 ≤ p := by
  unfold inB at h
  simp only [Bool.and_eq_true, Bool.not_eq_true', decide_eq_false_iff_not] at h
  have h1 : ¬ p < 0 := h.1
  obtain ⟨j, hj, rfl⟩ := nI_of h1
  have h2 := (not_congr (nI_ltI (by decide) hj)).mp h.2
  exact ⟨h1, nI_ge (by omega) (by decide)⟩
theorem veO_f {S : Nat → Bool} {p : Int32} {z : Bool} (h : inB p (nI 0) (nI 255) = false) : veO S p z = false := by
  cases e : veO S p z
  · rfl
  · exfalso
    unfold veO at e
    simp only [Bool.and_eq_true, Bool.not_eq_true', decide_eq_false_iff_not] at e
    have h1 : ¬ p < 0 := e.1
    obtain ⟨j, hj, rfl⟩ := nI_of h1
    have h2 := (not_congr (nI_leI (by decide) hj)).mp e.2.1
    have h3 : inB (nI j) (nI 0) (nI 255) = true := by
      unfold inB
      rw [decide_eq_false (show ¬ nI j < nI 0 from h1), decide_eq_false (nI_nlt (by omega) (by decide))]
      rfl
    rw [h3] at h
    cases h
def alB (Q : Nat → Bool) (i : Nat) : Bool := (fst9 (fun j => !(Q j)) i).isNone
theorem alB_s (Q : Nat → Bool) (i : Nat) : alB Q (i + 1) = (alB Q i && Q i) := by
  unfold alB
  show (match fst9 (fun j => !(Q j)) i with | some i => some i | none => if (!(Q i)) = true then some i else none).isNone = _
  cases fst9 (fun j => !(Q j)) i with
  | some a => rfl
  | none => cases Q i <;> rfl
theorem ga_some {n i : Nat} {K V R : Nat → Int32} {S L G : Nat → Bool} (hi : i < n) (hno : ∀ a, a < i → mgM n K V R S L a = false) (h : mgM n K V R S L i = true) : gaS n R L i (gaF n R L G i) = gaE n K V R S L G := by
  have e : mgO n K V R S L = some i := fst9_some h hno hi
  unfold gaE
  rw [e]
  exact if_pos (mgO_lt e).2
theorem ga_none {n : Nat} {K V R : Nat → Int32} {S L G : Nat → Bool} (hno : ∀ a, a < n → mgM n K V R S L a = false) : gaF n R L G n = gaE n K V R S L G := by
  have e : mgO n K V R S L = none := fst9_none hno
  unfold gaE
  rw [e]
theorem gaE_s {n i : Nat} {K V R : Nat → Int32} {S L G : Nat → Bool} (h : mgO n K V R S L = some i) : gaE n K V R S L G = mkF R L i n := by
  unfold gaE
  rw [h]
theorem mg_some {n : Nat} {K V R : Nat → Int32} {S L : Nat → Bool} (hn : n ≤ 43) (h : ¬ oI (mgO n K V R S L) < 0) : ∃ i, mgO n K V R S L = some i := by
  cases e : mgO n K V R S L with
  | none => exact absurd ((mg_lt0 hn).mpr e) h
  | some i => exact ⟨i, rfl⟩
theorem shE_v {n f : Nat} {K V R : Nat → Int32} {S L L1 : Nat → Bool} (hs : S (jdL K V R L fF n).toNatClampNeg = true) (h : shL n K V R S f L1 = shL n K V R S (n + 1) L) (ho : mgO n K V R S L1 = none) : L1 = shE n K V R S L := by
  unfold shE
  rw [if_pos hs, ← h, shL_n ho]
theorem shE_a {n : Nat} {K V R : Nat → Int32} {S L : Nat → Bool} (hs : S (jdL K V R L fF n).toNatClampNeg = false) : alF n 43 L = shE n K V R S L := by
  unfold shE
  rw [if_neg (by rw [hs]; decide)]
theorem alF_cnt {n : Nat} {L : Nat → Bool} (hn : n ≤ 43) : cnt (alF n 43 L) n = n := cnt_all (fun j hj => by
  unfold alF
  rw [if_pos (by omega), decide_eq_true hj])
def mnM (n : Nat) (K V R : Nat → Int32) (S L : Nat → Bool) : Bool := decide (0 < cnt L n) && (S (jdL K V R L fF n).toNatClampNeg && decide (mgO n K V R S L = none))
theorem mg_ge0 {n : Nat} {K V R : Nat → Int32} {S L : Nat → Bool} (hn : n ≤ 43) : 0 ≤ oI (mgO n K V R S L) ↔ ¬ mgO n K V R S L = none := by
  cases e : mgO n K V R S L with
  | none => exact ⟨fun z => absurd z (by decide), fun z => absurd rfl z⟩
  | some i => exact ⟨fun _ => (fun z => by cases z), fun _ => nI_pos' (by have := (mgO_lt e).1; omega)⟩
def pmI (K V R : Nat → Int32) (L : Nat → Bool) (i : Nat) (p : Int32) : Int32 := if p = nI 0 then K i else if p = nI 1 then nI (cnt (kP K (K i)) i) else if p = nI 2 then V i else if p = nI 3 then R i else bI (L i)
theorem in4 {p : Int32} : inB p (nI 0) (nI 4) = true ↔ ¬ (p.toInt < 0 ∨ 4 < p.toInt) := by
  unfold inB
  simp only [Bool.and_eq_true, Bool.not_eq_true', decide_eq_false_iff_not, Int32.lt_iff_toInt_lt]
  rw [show (nI 0).toInt = 0 from rfl, show (nI 4).toInt = 4 from rfl]
  omega
def cfI (n : Nat) (K V R : Nat → Int32) : Nat → Bool := fun j => decide (K j = nI 5) && ft9 V R j
def cmI (n : Nat) (K V R : Nat → Int32) (L S : Nat → Bool) (p : Int32) : Int32 := if p < nI 10 then (if p = nI 0 then nI n else if p = nI 1 then nI (cnt L n) else if p = nI 2 then nI (cnt (kP K (nI 5)) n) else if p = nI 3 then nI (cnt (cfI n K V R) n) else if p = nI 4 then nI (cnt S 256) else -1) else if p < nI 17 then nI (cnt (kP K (p - nI 10)) n) else -1
section Cm
variable {n : Nat} {K V R : Nat → Int32} {L S : Nat → Bool} {p : Int32}
theorem cm_0 : cmI n K V R L S (nI 0) = nI n := by unfold cmI; rw [if_pos (by decide), if_pos rfl]
theorem cm_1 : cmI n K V R L S (nI 1) = nI (cnt L n) := by unfold cmI; rw [if_pos (by decide), if_neg (by decide), if_pos rfl]
theorem cm_2 : cmI n K V R L S (nI 2) = nI (cnt (kP K (nI 5)) n) := by unfold cmI; rw [if_pos (by decide), if_neg (by decide), if_neg (by decide), if_pos rfl]
theorem cm_3 : cmI n K V R L S (nI 3) = nI (cnt (cfI n K V R) n) := by unfold cmI; rw [if_pos (by decide), if_neg (by decide), if_neg (by decide), if_neg (by decide), if_pos rfl]
theorem cm_4 : cmI n K V R L S (nI 4) = nI (cnt S 256) := by unfold cmI; rw [if_pos (by decide), if_neg (by decide), if_neg (by decide), if_neg (by decide), if_neg (by decide), if_pos rfl]
theorem cm_o (h10 : p < nI 10) (h : p.toInt < 0 ∨ 4 < p.toInt) : cmI n K V R L S p = -1 := by
  have e : ∀ j, j ≤ 4 → ¬ p = nI j := by
    intro j h2 e
    rw [e, nI_toInt (by omega)] at h
    omega
  unfold cmI
  rw [if_pos h10, if_neg (e 0 (by omega)), if_neg (e 1 (by omega)), if_neg (e 2 (by omega)), if_neg (e 3 (by omega)), if_neg (e 4 (by omega))]
theorem cm_k (h10 : ¬ p < nI 10) (h17 : ¬ nI 17 ≤ p) : cmI n K V R L S p = nI (cnt (kP K (p - nI 10)) n) := by
  unfold cmI
  rw [if_neg h10, if_pos (Int32.not_le.mp h17)]
theorem cm_n (h10 : ¬ p < nI 10) (h17 : nI 17 ≤ p) : cmI n K V R L S p = -1 := by
  unfold cmI
  rw [if_neg h10, if_neg (Int32.not_lt.mpr h17)]
end Cm
def bL (b : Bool) : Int64 := cond b 1 0
