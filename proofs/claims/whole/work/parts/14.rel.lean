/-! PURE: what goes with a part, bit by bit; which parts have a verdict's bit -/
def gwI (n : Nat) (R : Nat → Int32) (k t : Nat) (m : Nat) : Bool :=
  decide (m = t) || (decide (k ≤ m) && (hB n (R m) && (if h : (R m).toNatClampNeg < m then gwI n R k t (R m).toNatClampNeg else false)))
termination_by m
def rOK (n : Nat) (R : Nat → Int32) : Prop := ∀ m, m < n → hB n (R m) = true → (R m).toNatClampNeg < m
theorem gwI_lt {n k t m : Nat} {R : Nat → Int32} (h : m < k) : gwI n R k t m = decide (m = t) := by
  rw [gwI, decide_eq_false (by omega : ¬ k ≤ m)]
  simp
theorem gwI_f {n k t m : Nat} {R : Nat → Int32} (h : hB n (R m) = false) : gwI n R k t m = decide (m = t) := by
  rw [gwI, h]
  simp
theorem gwI_t {n k t m : Nat} {R : Nat → Int32} (hk : k ≤ m) (h : hB n (R m) = true) (hl : (R m).toNatClampNeg < m) : gwI n R k t m = (decide (m = t) || gwI n R k t (R m).toNatClampNeg) := by
  rw [gwI, h, decide_eq_true hk, dif_pos hl]
  simp
theorem gwI_step {n k t : Nat} {R : Nat → Int32} (hR : rOK n R) (hk : k < n) : ∀ m, m < n → gwI n R k t m = (gwI n R (k + 1) t m || (decide (t = (R k).toNatClampNeg) && (hB n (R k) && gwI n R (k + 1) k m))) := by
  intro m
  induction m using Nat.strongRecOn with
  | ind m ih =>
    intro hm
    rcases Nat.lt_trichotomy m k with h | h | h
    · rw [gwI_lt h, gwI_lt (by omega), gwI_lt (by omega), decide_eq_false (by omega : ¬ m = k)]
      simp
    · subst h
      rw [gwI_lt (k := m + 1) (t := t) (by omega), gwI_lt (k := m + 1) (t := m) (by omega), decide_eq_true (rfl : m = m)]
      cases hb : hB n (R m)
      · rw [gwI_f hb]; simp
      · have hl := hR m hm hb
        rw [gwI_t (Nat.le_refl m) hb hl, gwI_lt hl]
        have e : decide ((R m).toNatClampNeg = t) = decide (t = (R m).toNatClampNeg) := by
          by_cases e : t = (R m).toNatClampNeg
          · rw [decide_eq_true e, decide_eq_true e.symm]
          · rw [decide_eq_false e, decide_eq_false (fun z => e z.symm)]
        rw [e]
        simp
    · cases hb : hB n (R m)
      · rw [gwI_f hb, gwI_f hb, gwI_f hb, decide_eq_false (by omega : ¬ m = k)]
        simp
      · have hl := hR m hm hb
        rw [gwI_t (by omega) hb hl, gwI_t (k := k + 1) (t := t) (by omega) hb hl, gwI_t (k := k + 1) (t := k) (by omega) hb hl, decide_eq_false (by omega : ¬ m = k), ih _ hl (by omega)]
        generalize gwI n R (k + 1) t (R m).toNatClampNeg = a
        generalize gwI n R (k + 1) k (R m).toNatClampNeg = b
        generalize decide (m = t) = c
        generalize decide (t = (R k).toNatClampNeg) = d
        generalize hB n (R k) = e
        cases a <;> cases b <;> cases c <;> cases d <;> cases e <;> rfl
theorem onL_at (G : Nat → Int64) : ∀ i t, t < i → onL G i t = ((1 : Int64) <<< ((nI t).toInt64 &&& 63))
  | 0, t, h => absurd h (Nat.not_lt_zero _)
  | i + 1, t, h => by
    show vp_updL (onL G i) i ((1 : Int64) <<< ((nI i).toInt64 &&& 63)) t = _
    by_cases e : t = i
    · subst e; exact pk_uLs
    · rw [pk_uLn e]; exact onL_at G i t (by omega)
theorem goL_bit {n : Nat} {R : Nat → Int32} {G : Nat → Int64} (hn : n ≤ 43) (hR : rOK n R) : ∀ r k, k + r = n → ∀ t, t < n → ∀ m, m < 64 → wbit (goL n R (onL G n) r t) m = (decide (m < n) && gwI n R k t m) := by
  intro r
  induction r with
  | zero =>
    intro k hk t ht m hm
    show wbit (onL G n t) m = _
    rw [onL_at G n t ht, wbit_one t (by omega) m hm]
    by_cases h : m < n
    · rw [gwI_lt (by omega), decide_eq_true h]; rfl
    · rw [decide_eq_false h, decide_eq_false (by omega)]; rfl
  | succ r ih =>
    intro k hk t ht m hm
    have h0 := ih (k + 1) (by omega)
    by_cases h : m < n
    · have hs := gwI_step (t := t) hR (by omega : k < n) m h
      cases hb : hB n (R k)
      · rw [goL_f (by omega : k + 1 + r = n) hb, h0 t ht m hm, hs, hb]
        simp
      · have hl := hR k (by omega) hb
        rw [goL_t (by omega : k + 1 + r = n) hb, hs, hb]
        by_cases e : t = (R k).toNatClampNeg
        · rw [← e, pk_uLs, wbit_or, h0 t ht m hm, h0 k (by omega) m hm, decide_eq_true h, decide_eq_true (rfl : t = t)]
          simp
        · rw [pk_uLn e, h0 t ht m hm, decide_eq_false e]
          simp
    · rw [decide_eq_false h]
      cases hb : hB n (R k)
      · rw [goL_f (by omega : k + 1 + r = n) hb, h0 t ht m hm, decide_eq_false h]
        simp
      · have hl := hR k (by omega) hb
        rw [goL_t (by omega : k + 1 + r = n) hb]
        by_cases e : t = (R k).toNatClampNeg
        · rw [← e, pk_uLs, wbit_or, h0 t ht m hm, h0 k (by omega) m hm, decide_eq_false h]
          simp
        · rw [pk_uLn e, h0 t ht m hm, decide_eq_false h]
          simp
theorem gwG_bit {n : Nat} {R : Nat → Int32} {G : Nat → Int64} (hn : n ≤ 43) (hR : rOK n R) {t m : Nat} (ht : t < n) (hm : m < 64) : wbit (gwG n R G t) m = (decide (m < n) && gwI n R 0 t m) := goL_bit hn hR n 0 (by omega) t ht m hm
theorem zeL_at (B : Nat → Int64) : ∀ i b, b < i → zeL B i b = 0
  | 0, _, h => absurd h (Nat.not_lt_zero _)
  | i + 1, b, h => by
    show vp_updL (zeL B i) i 0 b = 0
    by_cases e : b = i
    · subst e; exact pk_uLs
    · rw [pk_uLn e]; exact zeL_at B i b (by omega)
theorem kiB_of {k : Int32} (h : kiB k = true) : ∃ j, j < 7 ∧ k = nI j := hB_of (n := 7) h (by decide)
/-- has part i the verdict's bit b -/
def pq9 (n : Nat) (K V R : Nat → Int32) (b i : Nat) : Bool := if b = 7 then fB n K V R (nI i) else (!(decide (V i < nI 50)) && decide (K i = nI b))
theorem p1S_7 (K V : Nat → Int32) (i : Nat) (g : Nat → Int64) : p1S K V i g 7 = g 7 := by
  unfold p1S
  by_cases h : (!(decide (V i < nI 50)) && kiB (K i)) = true
  · rw [if_pos h]
    obtain ⟨j, hj, e⟩ := kiB_of (Bool.and_eq_true_iff.mp h).2
    rw [e, nI_clamp (by omega), pk_uLn (by omega)]
  · rw [if_neg h]
theorem p1S_b {K V : Nat → Int32} {i b : Nat} {g : Nat → Int64} (hb : b < 7) (m : Nat) : wbit (p1S K V i g b) m = (wbit (g b) m || ((!(decide (V i < nI 50)) && decide (K i = nI b)) && wbit ((1 : Int64) <<< ((nI i).toInt64 &&& 63)) m)) := by
  unfold p1S
  by_cases h : (!(decide (V i < nI 50)) && kiB (K i)) = true
  · rw [if_pos h]
    obtain ⟨h1, h2⟩ := Bool.and_eq_true_iff.mp h
    obtain ⟨j, hj, e⟩ := kiB_of h2
    rw [h1, e, nI_clamp (by omega)]
    by_cases e2 : b = j
    · subst e2
      rw [pk_uLs, wbit_or, decide_eq_true (rfl : nI b = nI b)]
      simp
    · rw [pk_uLn e2, decide_eq_false (fun z => e2 ((nI_eq (by omega) (by omega)).mp z).symm)]
      simp
  · rw [if_neg h]
    have h3 : (!(decide (V i < nI 50)) && decide (K i = nI b)) = false := by
      cases hv : (!(decide (V i < nI 50)))
      · rfl
      · rw [hv] at h
        by_cases e : K i = nI b
        · exfalso
          apply h
          rw [e]
          exact hB_nI (n := 7) hb (by decide)
        · rw [decide_eq_false e]; rfl
    rw [h3]
    simp
theorem p2S_b {n : Nat} {K V R : Nat → Int32} {i b : Nat} {g : Nat → Int64} (hb : b < 7) : p2S n K V R i g b = g b := by
  unfold p2S
  by_cases h : fB n K V R (nI i) = true
  · rw [if_pos h, pk_uLn (by omega)]
  · rw [if_neg h]
theorem p2S_7 {n : Nat} {K V R : Nat → Int32} {i : Nat} {g : Nat → Int64} (m : Nat) : wbit (p2S n K V R i g 7) m = (wbit (g 7) m || (fB n K V R (nI i) && wbit ((1 : Int64) <<< ((nI i).toInt64 &&& 63)) m)) := by
  unfold p2S
  cases h : fB n K V R (nI i)
  · simp
  · rw [if_pos rfl, pk_uLs, wbit_or]
    simp
theorem pbL_bit {n : Nat} {K V R : Nat → Int32} {B : Nat → Int64} {b : Nat} (hb : b < 8) : ∀ i0, i0 ≤ 43 → ∀ m, m < 64 → wbit (pbL n K V R (zeL B 8) i0 b) m = (decide (m < i0) && pq9 n K V R b m) := by
  intro i0
  induction i0 with
  | zero =>
    intro _ m _
    show wbit (zeL B 8 b) m = _
    rw [zeL_at B 8 b hb, wbit_0]
    simp
  | succ i ih =>
    intro hi m hm
    have h0 := ih (by omega) m hm
    show wbit (p2S n K V R i (p1S K V i (pbL n K V R (zeL B 8) i)) b) m = _
    have hone := wbit_one i (by omega) m hm
    have hsp : (decide (m < i + 1) && pq9 n K V R b m) = ((decide (m < i) && pq9 n K V R b m) || (pq9 n K V R b i && decide (m = i))) := by
      rcases Nat.lt_trichotomy m i with h | h | h
      · rw [decide_eq_true (by omega : m < i + 1), decide_eq_true h, decide_eq_false (by omega : ¬ m = i)]
        simp
      · subst h
        rw [decide_eq_true (by omega : m < m + 1), decide_eq_false (by omega : ¬ m < m), decide_eq_true rfl]
        simp
      · rw [decide_eq_false (by omega : ¬ m < i + 1), decide_eq_false (by omega : ¬ m < i), decide_eq_false (by omega : ¬ m = i)]
        simp
    rw [hsp]
    by_cases e : b = 7
    · subst e
      rw [p2S_7, p1S_7, h0, hone]
      rfl
    · rw [p2S_b (by omega), p1S_b (by omega), h0, hone]
      unfold pq9
      rw [if_neg e, if_neg e]
theorem pbB_bit {n : Nat} {K V R : Nat → Int32} {B : Nat → Int64} {b m : Nat} (hn : n ≤ 43) (hb : b < 8) (hm : m < 64) : wbit (pbB n K V R B b) m = (decide (m < n) && pq9 n K V R b m) := pbL_bit hb n hn m hm
/-- has some place below n Q -/
def anB (Q : Nat → Bool) (n : Nat) : Bool := decide (0 < cnt Q n)
theorem anB_t {Q : Nat → Bool} {n i : Nat} (hi : i < n) (h : Q i = true) : anB Q n = true := decide_eq_true (cnt_pos hi h)
theorem anB_f {Q : Nat → Bool} {n : Nat} (h : ∀ i, i < n → Q i = false) : anB Q n = false := by
  unfold anB
  rw [cnt_0 h]
  rfl
theorem anB_of {Q : Nat → Bool} {n : Nat} (h : anB Q n = true) : ∃ i, i < n ∧ Q i = true := by
  cases e : fst9 Q n with
  | none => rw [anB_f (fst9_no e)] at h; cases h
  | some i => exact ⟨i, (fst9_spec e).1, (fst9_spec e).2.1⟩
theorem anB_congr {P Q : Nat → Bool} {n : Nat} (h : ∀ j, j < n → P j = Q j) : anB P n = anB Q n := by
  unfold anB
  rw [cnt_congr h]
theorem and_z {v u : Int64} {n : Nat} {P Q : Nat → Bool} (hn : n ≤ 64) (hv : ∀ m, m < 64 → wbit v m = (decide (m < n) && P m)) (hu : ∀ m, m < 64 → wbit u m = (decide (m < n) && Q m)) : decide (v &&& u = 0) = !(anB (fun m => P m && Q m) n) := by
  cases e : anB (fun m => P m && Q m) n
  · have h : v &&& u = 0 := wbit_z.mpr (fun m hm => by
      rw [wbit_and, hv m hm, hu m hm]
      by_cases h : m < n
      · cases hp : P m <;> cases hq : Q m <;> simp
        rw [anB_t (Q := fun m => P m && Q m) h (by simp [hp, hq])] at e
        cases e
      · rw [decide_eq_false h]; rfl)
    rw [decide_eq_true h]
    rfl
  · obtain ⟨i, hi, h⟩ := anB_of e
    have h2 : ¬ v &&& u = 0 := fun z => by
      have h3 := wbit_z.mp z i (by omega)
      rw [wbit_and, hv i (by omega), hu i (by omega), decide_eq_true hi] at h3
      simp only [Bool.true_and] at h3
      rw [h] at h3
      cases h3
    rw [decide_eq_false h2]
    rfl
