/-! PURE: booleans as ints, counting, the first place, choices -/
def bI (b : Bool) : Int32 := cond b (nI 1) (nI 0)
theorem bI_t {b : Bool} (h : ¬ bI b = 0) : b = true := by
  cases b
  · exact absurd rfl h
  · rfl
theorem bI_f {b : Bool} (h : bI b = 0) : b = false := by
  cases b
  · rfl
  · exact absurd h (by decide)
theorem bI_nar (b : Bool) : narrow .boolean (.int (bI b)) = .int (bI b) := by cases b <;> rfl
theorem bI_fit (b : Bool) : fits .boolean (.int (bI b)) = true := by cases b <;> rfl
theorem bI_vp (b : Bool) : vp_nar .boolean (bI b) = bI b := by cases b <;> rfl
theorem bI_inj {a b : Bool} : bI a = bI b ↔ a = b := by
  cases a <;> cases b <;> simp [bI] <;> decide
theorem lc_eq {x y : Int64} : lg_cmp x y = 0 ↔ x = y := by
  unfold lg_cmp
  by_cases h1 : x > y
  · rw [if_pos h1]
    refine ⟨fun h => absurd h (by decide), fun h => ?_⟩
    subst h
    exact absurd h1 Int64.lt_irrefl
  · rw [if_neg h1]
    by_cases h2 : x = y
    · rw [if_pos h2]; exact ⟨fun _ => h2, fun _ => rfl⟩
    · rw [if_neg h2]; exact ⟨fun h => absurd h (by decide), fun h => absurd h h2⟩
theorem nI_z {a : Nat} (h : a < 2 ^ 31) : nI a = 0 ↔ a = 0 := by
  rw [← nI_0, nI_eq h (by omega)]
theorem sw_eq {x y : Int32} {k : Int} (h : x.toInt = k) (h2 : y.toInt = k) : x = y := Int32.toInt_inj.mp (h.trans h2.symm)
def bF (S : Nat → Bool) : Nat → Int32 := fun j => bI (S j)
def uB (S : Nat → Bool) (k : Nat) (b : Bool) : Nat → Bool := fun j => if j = k then b else S j
theorem bF_up (S : Nat → Bool) (k : Nat) (b : Bool) : upd (bF S) k (bI b) = bF (uB S k b) := by
  funext j
  unfold upd bF uB
  by_cases h : j = k <;> simp [h]
/-- how many places below n have P -/
def cnt (P : Nat → Bool) : Nat → Nat
  | 0 => 0
  | n + 1 => cnt P n + (P n).toNat
theorem cnt_t {P : Nat → Bool} {n : Nat} (h : P n = true) : cnt P (n + 1) = cnt P n + 1 := by simp [cnt, h]
theorem cnt_f {P : Nat → Bool} {n : Nat} (h : P n = false) : cnt P (n + 1) = cnt P n := by simp [cnt, h]
theorem cnt_le (P : Nat → Bool) : ∀ n, cnt P n ≤ n
  | 0 => Nat.le_refl 0
  | n + 1 => by
    have h := cnt_le P n
    cases hp : P n
    · rw [cnt_f hp]; omega
    · rw [cnt_t hp]; omega
theorem cnt_mono (P : Nat → Bool) {a : Nat} : ∀ {n}, a ≤ n → cnt P a ≤ cnt P n := by
  intro n h
  induction n with
  | zero => rw [Nat.le_zero.mp h]; exact Nat.le_refl _
  | succ n ih =>
    rcases Nat.lt_or_ge n a with q | q
    · have : a = n + 1 := by omega
      rw [this]; exact Nat.le_refl _
    · exact Nat.le_trans (ih q) (Nat.le_add_right (cnt P n) (P n).toNat)
theorem cnt_congr {P Q : Nat → Bool} : ∀ {n}, (∀ j, j < n → P j = Q j) → cnt P n = cnt Q n
  | 0, _ => rfl
  | n + 1, h => by
    unfold cnt
    rw [cnt_congr (n := n) (fun j hj => h j (by omega)), h n (by omega)]
theorem cnt_all {n : Nat} : ∀ {P : Nat → Bool}, (∀ j, j < n → P j = true) → cnt P n = n := by
  intro P h
  induction n with
  | zero => rfl
  | succ n ih => rw [cnt_t (h n (by omega)), ih (fun j hj => h j (by omega))]
theorem cnt_0 {n : Nat} : ∀ {P : Nat → Bool}, (∀ j, j < n → P j = false) → cnt P n = 0 := by
  intro P h
  induction n with
  | zero => rfl
  | succ n ih => rw [cnt_f (h n (by omega)), ih (fun j hj => h j (by omega))]
theorem cnt_pos {P : Nat → Bool} {n j : Nat} (hj : j < n) (h : P j = true) : 0 < cnt P n := by
  have h1 := cnt_mono P (a := j + 1) (n := n) hj
  rw [cnt_t h] at h1
  omega
/-- P has no more places than Q: strictly fewer if Q has one that P has not -/
theorem cnt_sub {P Q : Nat → Bool} : ∀ {n}, (∀ j, j < n → P j = true → Q j = true) → cnt P n ≤ cnt Q n
  | 0, _ => Nat.le_refl 0
  | n + 1, h => by
    have h1 := cnt_sub (n := n) (fun j hj => h j (by omega))
    have h2 := h n (by omega)
    unfold cnt
    cases hp : P n
    · simp; omega
    · rw [h2 hp]; simp; exact h1
theorem cnt_lt {P Q : Nat → Bool} {n i : Nat} (h : ∀ j, j < n → P j = true → Q j = true) (hi : i < n) (hq : Q i = true) (hp : P i = false) : cnt P n < cnt Q n := by
  induction n with
  | zero => exact absurd hi (Nat.not_lt_zero _)
  | succ n ih =>
    by_cases e : i = n
    · subst e
      have h1 := cnt_sub (n := i) (P := P) (Q := Q) (fun j hj => h j (by omega))
      rw [cnt_t hq, cnt_f hp]
      omega
    · have h1 := ih (fun j hj => h j (by omega)) (by omega)
      have h2 := h n (by omega)
      unfold cnt
      cases hp2 : P n
      · simp; omega
      · rw [h2 hp2]; simp; exact h1
/-- the first place below n that has Q -/
def fst9 (Q : Nat → Bool) : Nat → Option Nat
  | 0 => none
  | n + 1 => match fst9 Q n with
    | some i => some i
    | none => if Q n = true then some n else none
theorem fst9_none {Q : Nat → Bool} : ∀ {n}, (∀ a, a < n → Q a = false) → fst9 Q n = none
  | 0, _ => rfl
  | n + 1, h => by
    unfold fst9
    rw [fst9_none (n := n) (fun a ha => h a (by omega)), h n (by omega)]
    rfl
theorem fst9_some {Q : Nat → Bool} {i : Nat} (hq : Q i = true) (hb : ∀ a, a < i → Q a = false) : ∀ {n}, i < n → fst9 Q n = some i := by
  intro n h
  induction n with
  | zero => exact absurd h (Nat.not_lt_zero _)
  | succ n ih =>
    unfold fst9
    by_cases e : i = n
    · subst e
      rw [fst9_none hb, hq]
      rfl
    · rw [ih (by omega)]
theorem fst9_spec {Q : Nat → Bool} {i : Nat} : ∀ {n}, fst9 Q n = some i → i < n ∧ Q i = true ∧ ∀ a, a < i → Q a = false := by
  intro n h
  by_cases hx : ∃ k, k < n ∧ Q k = true
  · obtain ⟨k, hk, hl⟩ := pk_least (fun k => k < n ∧ Q k = true) hx
    have e : fst9 Q n = some k := fst9_some hk.2 (fun a ha => by
      cases hq : Q a
      · rfl
      · exact absurd ⟨by omega, hq⟩ (hl a ha)) hk.1
    rw [h] at e
    cases e
    exact ⟨hk.1, hk.2, fun a ha => by
      cases hq : Q a
      · rfl
      · exact absurd ⟨by omega, hq⟩ (hl a ha)⟩
  · rw [fst9_none (fun a ha => by
      cases hq : Q a
      · rfl
      · exact absurd ⟨a, ha, hq⟩ hx)] at h
    cases h
theorem fst9_no {Q : Nat → Bool} {n : Nat} (h : fst9 Q n = none) : ∀ a, a < n → Q a = false := by
  intro a ha
  cases hq : Q a
  · rfl
  · exfalso
    obtain ⟨k, hk, hl⟩ := pk_least (fun k => k < n ∧ Q k = true) ⟨a, ha, hq⟩
    have e : fst9 Q n = some k := fst9_some hk.2 (fun b hb => by
      cases hq : Q b
      · rfl
      · exact absurd ⟨by omega, hq⟩ (hl b hb)) hk.1
    rw [h] at e
    cases e
theorem fst9_congr {P Q : Nat → Bool} : ∀ {n}, (∀ j, j < n → P j = Q j) → fst9 P n = fst9 Q n
  | 0, _ => rfl
  | n + 1, h => by
    unfold fst9
    rw [fst9_congr (n := n) (fun j hj => h j (by omega)), h n (by omega)]
def oI : Option Nat → Int32
  | none => -1
  | some i => nI i
theorem oI_m1 {o : Option Nat} (h : ∀ i, o = some i → i < 2 ^ 31) : oI o = -1 ↔ o = none := by
  cases o with
  | none => exact ⟨fun _ => rfl, fun _ => rfl⟩
  | some i =>
    refine ⟨fun e => ?_, fun e => by cases e⟩
    have h1 := nI_toInt (h i rfl)
    have e2 : nI i = -1 := e
    rw [e2] at h1
    have h3 : (-1 : Int32).toInt = -1 := by decide
    omega
/-- is x a place below n -/
def hB (n : Nat) (x : Int32) : Bool := !(decide (x < 0)) && !(decide (nI n ≤ x))
theorem hB_of {n : Nat} {x : Int32} (h : hB n x = true) (hn : n < 2 ^ 31) : ∃ j, j < n ∧ x = nI j := by
  unfold hB at h
  simp only [Bool.and_eq_true, Bool.not_eq_true', decide_eq_false_iff_not] at h
  rcases pk_ix x hn with q | q | q
  · exact absurd q h.1
  · exact absurd q h.2
  · exact q
theorem hB_nI {n j : Nat} (h : j < n) (hn : n < 2 ^ 31) : hB n (nI j) = true := by
  unfold hB
  rw [decide_eq_false (nI_pos (by omega)), decide_eq_false (nI_ge h hn)]
  rfl
theorem hB_m1 (n : Nat) : hB n (-1) = false := by
  unfold hB
  rw [decide_eq_true (by decide)]
  rfl
theorem hB_in {n : Nat} {x : Int32} (h : hB n x = true) (hn : n ≤ 43) : vp_in x 43 := by
  obtain ⟨j, hj, rfl⟩ := hB_of h (by omega)
  exact vp_in_nI (by omega) (by omega)
