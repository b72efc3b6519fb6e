/-! PURE: what the methods of PortDrawer answer and leave, as functions of the numbers in their cells -/
def nx9 (x : Int64) : Int64 := x * 6364136223846793005 + 1442695040888963407
def hi9 (x : Int64) : Nat := x.toBitVec.toNat / 2 ^ 33
def nbX (x : Int64) (q : Nat) : Int64 := if q = 0 then x else nx9 x
def nbI (x : Int64) (q : Nat) : Int32 := if q = 0 then -1 else nI (hi9 (nx9 x) % q)
theorem hi9_lt (x : Int64) : hi9 x < 2 ^ 31 := by
  unfold hi9
  have := x.toBitVec.isLt
  omega
theorem hi9_sh (x : Int64) : ((x.toUInt64 >>> ((nI 33).toInt64.toUInt64 &&& Int64.toUInt64 63)).toInt64).toInt32 = nI (hi9 x) := by
  obtain ⟨n, hn, rfl⟩ := wb_of x
  rw [wb_shr hn (by decide), lN_i]
  unfold hi9
  rw [wb_tn hn]
theorem nb_rem (x : Int64) {q : Nat} (h0 : 0 < q) (hq : q < 2 ^ 31) : nI (hi9 x) - nI (hi9 x) / nI q * nI q = nI (hi9 x % q) := pk_rem (hi9_lt x) h0 hq
/-- may a part of kind k refer to one of kind t -/
def mR (k t : Int32) : Bool :=
  if k = nI 1 then decide (t = nI 0) else if k = nI 3 then decide (t = nI 0) else if k = nI 4 then decide (t = nI 2)
  else if k = nI 5 then (decide (t = nI 1) || decide (t = nI 3) || decide (t = nI 4)) else if k = nI 6 then (decide (t = nI 4) || decide (t = nI 5)) else false
def mP (K : Nat → Int32) (kd : Int32) : Nat → Bool := fun j => mR kd (K j)
def rm2 (x : Int32) : Int32 := x - x / nI 2 * nI 2
def aB (n : Nat) (K : Nat → Int32) (x : Int32) : Bool := hB n x && decide (K x.toNatClampNeg = nI 5)
def fB (n : Nat) (K V R : Nat → Int32) (x : Int32) : Bool := aB n K x && (hB n (R x.toNatClampNeg) && decide (rm2 (V (R x.toNatClampNeg).toNatClampNeg) = rm2 (V x.toNatClampNeg)))
def kP (K : Nat → Int32) (kd : Int32) : Nat → Bool := fun j => decide (K j = kd)
def dQ (P : Nat → Bool) (pick : Int32) : Nat → Bool := fun a => P a && decide (nI (cnt P a) = pick)
/-- what a part of kind kd refers to -/
def rfI (K : Nat → Int32) (n : Nat) (kd : Int32) (x : Int64) : Int32 := oI (fst9 (dQ (mP K kd) (nbI x (cnt (mP K kd) n))) n)
def rfX (K : Nat → Int32) (n : Nat) (kd : Int32) (x : Int64) : Int64 := nbX x (cnt (mP K kd) n)
abbrev HS : Type := Int64 × (Nat → Int32) × (Nat → Int32) × (Nat → Int32)
def adS (kd : Int32) (n : Nat) (t : HS) : HS := (rfX (upd t.2.1 n kd) n kd (nbX t.1 100), upd t.2.1 n kd, upd t.2.2.1 n (nbI t.1 100), upd t.2.2.2 n (rfI (upd t.2.1 n kd) n kd (nbX t.1 100)))
def fl3 (t : HS) : HS := adS (nI 2) 2 (adS (nI 1) 1 (adS (nI 0) 0 t))
def flL (t : HS) : Nat → HS
  | 0 => t
  | j + 1 => adS (nbI (flL t j).1 7) (j + 3) (nbX (flL t j).1 7, (flL t j).2)
def flS (sd : Int64) (K V R : Nat → Int32) (z : Nat) : HS := flL (fl3 (sd, K, V, R)) z
def eq3 (K V R K' V' R' : Nat → Int32) : Nat → Bool := fun j => decide (K j = K' j) && (decide (V j = V' j) && decide (R j = R' j))
def lkB (n n' : Nat) (K V R K' V' R' : Nat → Int32) : Bool := decide (n' = n) && (fst9 (fun j => !(eq3 K V R K' V' R' j)) n).isNone
def szB (x : Int32) : Bool := !(decide (x < 0)) && !(decide (nI 40 < x))
def allW (n : Nat) : Int64 := ((1 : Int64) <<< ((nI n).toInt64 &&& 63)) - 1
def noW (w g : Int64) : Int64 := w &&& (g ^^^ (-1))
def vdL (v : Int64) (B : Nat → Int64) : Nat → Int32
  | 0 => nI 0
  | k + 1 => if v &&& B k = 0 then vdL v B k else vdL v B k ||| (nI 1 <<< (nI k &&& 31))
def vdI (v : Int64) (B : Nat → Int64) : Int32 := vdL v B 8
theorem vdL_bt (v : Int64) (B : Nat → Int64) : ∀ k, k ≤ 32 → ∀ i, i < 32 → bt (vdL v B k) i = (decide (i < k) && !decide (v &&& B i = 0))
  | 0, _, i, _ => by
    rw [show vdL v B 0 = 0 from rfl, b_0]
    simp
  | k + 1, hk, i, hi => by
    have ih := vdL_bt v B k (by omega) i hi
    unfold vdL
    by_cases h : v &&& B k = 0
    · rw [if_pos h, ih]
      by_cases e : i = k
      · subst e; simp [h]
      · have : (i < k + 1) = (i < k) := by apply propext; omega
        simp [this]
    · rw [if_neg h, b_or, ih]
      have h1 : bt (nI 1 <<< (nI k &&& 31)) i = decide (i = k) := by
        rw [b_shl k (by omega) (nI 1) hi]
        have : ∀ j, j < 32 → bt (nI 1) j = decide (j = 0) := by decide +kernel
        by_cases e : k ≤ i
        · rw [this (i - k) (by omega)]
          by_cases e2 : i = k
          · subst e2; simp
          · simp [e, e2]; omega
        · simp [e]; omega
      rw [h1]
      by_cases e : i = k
      · subst e; simp [h]
      · have : (i < k + 1) = (i < k) := by apply propext; omega
        simp [this, e]
/-- an int whose bits from k on are 0 is a number below 2^k -/
theorem bt_lt {x : Int32} {k : Nat} (hk : k ≤ 31) (h : ∀ i, i < 32 → k ≤ i → bt x i = false) : ∃ j, j < 2 ^ k ∧ x = nI j := by
  refine ⟨x.toBitVec.toNat, ?_, ?_⟩
  · apply Nat.lt_pow_two_of_testBit
    intro i hi
    by_cases e : i < 32
    · exact h i e hi
    · exact Nat.testBit_lt_two_pow (Nat.lt_of_lt_of_le x.toBitVec.isLt (Nat.pow_le_pow_right (by decide) (by omega)))
  · apply Int32.toBitVec_inj.1
    show x.toBitVec = BitVec.ofNat 32 x.toBitVec.toNat
    simp
theorem vdI_lt (v : Int64) (B : Nat → Int64) : ∃ j, j < 256 ∧ vdI v B = nI j := by
  refine bt_lt (k := 8) (by decide) (fun i hi h => ?_)
  unfold vdI
  rw [vdL_bt v B 8 (by decide) i hi, decide_eq_false (by omega)]
  rfl
theorem vdI_in (v : Int64) (B : Nat → Int64) : vp_in (vdI v B) 256 := by
  obtain ⟨j, h, e⟩ := vdI_lt v B
  rw [e]
  exact vp_in_nI h (by decide)
def syB (S : Nat → Bool) (B : Nat → Int64) (v : Int64) : Bool := S (vdI v B).toNatClampNeg
def mgB (S : Nat → Bool) (G B : Nat → Int64) (w : Int64) : Nat → Bool := fun a => wbit w a && (!decide (noW w (G a) = 0) && syB S B (noW w (G a)))
def fgO (S : Nat → Bool) (G B : Nat → Int64) (n : Nat) (w : Int64) : Option Nat := fst9 (mgB S G B w) n
def onL (G : Nat → Int64) : Nat → Nat → Int64
  | 0 => G
  | i + 1 => vp_updL (onL G i) i ((1 : Int64) <<< ((nI i).toInt64 &&& 63))
def goS (n : Nat) (R : Nat → Int32) (i : Nat) (g : Nat → Int64) : Nat → Int64 := if hB n (R i) = true then vp_updL g (R i).toNatClampNeg (g (R i).toNatClampNeg ||| g i) else g
/-- the rows behind the parts from i on -/
def goL (n : Nat) (R : Nat → Int32) (g : Nat → Int64) : Nat → Nat → Int64
  | 0 => g
  | k + 1 => goS n R (n - (k + 1)) (goL n R g k)
def gwG (n : Nat) (R : Nat → Int32) (G : Nat → Int64) : Nat → Int64 := goL n R (onL G n) n
def zeL (B : Nat → Int64) : Nat → Nat → Int64
  | 0 => B
  | i + 1 => vp_updL (zeL B i) i 0
def kiB (k : Int32) : Bool := !(decide (k < 0)) && !(decide (nI 7 ≤ k))
def p1S (K V : Nat → Int32) (i : Nat) (b : Nat → Int64) : Nat → Int64 := if (!(decide (V i < nI 50)) && kiB (K i)) = true then vp_updL b (K i).toNatClampNeg (b (K i).toNatClampNeg ||| ((1 : Int64) <<< ((nI i).toInt64 &&& 63))) else b
def p2S (n : Nat) (K V R : Nat → Int32) (i : Nat) (b : Nat → Int64) : Nat → Int64 := if fB n K V R (nI i) = true then vp_updL b 7 (b 7 ||| ((1 : Int64) <<< ((nI i).toInt64 &&& 63))) else b
def pbL (n : Nat) (K V R : Nat → Int32) (B : Nat → Int64) : Nat → Nat → Int64
  | 0 => B
  | i + 1 => p2S n K V R i (p1S K V i (pbL n K V R B i))
def pbB (n : Nat) (K V R : Nat → Int32) (B : Nat → Int64) : Nat → Int64 := pbL n K V R (zeL B 8) n
/-- shorter: at most k turns -/
def shW (S : Nat → Bool) (G B : Nat → Int64) (n : Nat) : Nat → Int64 → Int64
  | 0, w => w
  | k + 1, w => match fgO S G B n w with
    | none => w
    | some i => shW S G B n k (noW w (G i))
def lfQ (w : Int64) (p : Int32) : Nat → Bool := fun a => wbit w a && decide (nI (cnt (wbit w) a) = p)
theorem aB_h {n : Nat} {K : Nat → Int32} {x : Int32} (h : aB n K x = true) : hB n x = true := by
  unfold aB at h
  exact (Bool.and_eq_true_iff.mp h).1
theorem mR_1 (t : Int32) : mR (nI 1) t = decide (t = nI 0) := by unfold mR; rw [if_pos rfl]
theorem mR_2 (t : Int32) : mR (nI 2) t = false := by
  unfold mR
  rw [if_neg (by decide), if_neg (by decide), if_neg (by decide), if_neg (by decide), if_neg (by decide)]
theorem mR_3 (t : Int32) : mR (nI 3) t = decide (t = nI 0) := by unfold mR; rw [if_neg (by decide), if_pos rfl]
theorem mR_4 (t : Int32) : mR (nI 4) t = decide (t = nI 2) := by unfold mR; rw [if_neg (by decide), if_neg (by decide), if_pos rfl]
theorem mR_5 (t : Int32) : mR (nI 5) t = (decide (t = nI 1) || decide (t = nI 3) || decide (t = nI 4)) := by
  unfold mR; rw [if_neg (by decide), if_neg (by decide), if_neg (by decide), if_pos rfl]
theorem mR_6 (t : Int32) : mR (nI 6) t = (decide (t = nI 4) || decide (t = nI 5)) := by
  unfold mR; rw [if_neg (by decide), if_neg (by decide), if_neg (by decide), if_neg (by decide), if_pos rfl]
theorem mR_o {k t : Int32} (h : k.toInt < 1 ∨ 6 < k.toInt) : mR k t = false := by
  have e : ∀ j, 1 ≤ j → j ≤ 6 → ¬ k = nI j := by
    intro j h1 h2 e
    rw [e, nI_toInt (by omega)] at h
    omega
  unfold mR
  rw [if_neg (e 1 (by omega) (by omega)), if_neg (e 3 (by omega) (by omega)), if_neg (e 4 (by omega) (by omega)), if_neg (e 5 (by omega) (by omega)), if_neg (e 6 (by omega) (by omega))]
theorem lkB_no {n n' i : Nat} {K V R K' V' R' : Nat → Int32} (_ : n' = n) (hi : i < n) (h : eq3 K V R K' V' R' i = false) : nI 0 = bI (lkB n n' K V R K' V' R') := by
  have h1 : (fst9 (fun j => !(eq3 K V R K' V' R' j)) n).isNone = false := by
    cases e : fst9 (fun j => !(eq3 K V R K' V' R' j)) n with
    | none =>
      have := fst9_no e i hi
      rw [h] at this
      cases this
    | some k => rfl
  unfold lkB
  rw [h1, Bool.and_false]
  rfl
def ckI (n : Nat) (K : Nat → Int32) (p : Int32) : Int32 := if p < nI 10 ∨ ¬ p < nI 17 then -1 else nI (cnt (kP K (p - nI 10)) n)
def mnB (S : Nat → Bool) (G B : Nat → Int64) (n : Nat) (w : Int64) : Bool := !decide (w = 0) && (syB S B w && decide (oI (fgO S G B n w) = -1))
def veO (S : Nat → Bool) (p : Int32) (z : Bool) : Bool := !(decide (p < 0)) && (!(decide (nI 256 ≤ p)) && !(decide (S p.toNatClampNeg = z)))
def veS (S : Nat → Bool) (p : Int32) (z : Bool) : Nat → Bool := if veO S p z = true then uB S p.toNatClampNeg z else S
theorem in_of {x : Int32} {n : Nat} (h0 : ¬ x < 0) (h1 : ¬ nI n ≤ x) (hn : n < 2 ^ 31) : vp_in x n := by
  rcases pk_ix x hn with q | q | ⟨j, hj, rfl⟩
  · exact absurd q h0
  · exact absurd q h1
  · exact vp_in_nI hj hn
theorem in_78 {x : Int32} (h0 : ¬ x < 0) (h1 : ¬ nI 7 ≤ x) : vp_in x 8 := by
  rcases pk_ix x (n := 7) (by decide) with q | q | ⟨j, hj, rfl⟩
  · exact absurd q h0
  · exact absurd q h1
  · exact vp_in_nI (by omega) (by decide)
theorem dn_lt {k : Nat} (h : k ≤ 43) : (nI k) - (nI 1) < 0 ↔ k = 0 := by
  rcases k with _ | k
  · exact ⟨fun _ => rfl, fun _ => by decide⟩
  · have e : nI (k + 1) - nI 1 = nI k := nI_pred k
    rw [e]
    exact ⟨fun z => absurd z (nI_pos (by omega)), fun z => by omega⟩
theorem dn_inc (k : Nat) : nI k + (-1) = nI k - nI 1 := by
  rw [Int32.sub_eq_add_neg]
  rfl
theorem goL_f {n k r : Nat} {R : Nat → Int32} {g : Nat → Int64} (h : k + 1 + r = n) (c : hB n (R k) = false) : goL n R g (r + 1) = goL n R g r := by
  show goS n R (n - (r + 1)) (goL n R g r) = _
  rw [show n - (r + 1) = k by omega]
  unfold goS
  rw [c]
  rfl
theorem goL_t {n k r : Nat} {R : Nat → Int32} {g : Nat → Int64} (h : k + 1 + r = n) (c : hB n (R k) = true) : goL n R g (r + 1) = vp_updL (goL n R g r) (R k).toNatClampNeg (goL n R g r (R k).toNatClampNeg ||| goL n R g r k) := by
  show goS n R (n - (r + 1)) (goL n R g r) = _
  rw [show n - (r + 1) = k by omega]
  unfold goS
  rw [if_pos c]
def shO (S : Nat → Bool) (G B : Nat → Int64) (n : Nat) (w : Int64) : Int64 := if syB S B w = true then shW S G B n 43 w else allW n
theorem fgO_lt {S : Nat → Bool} {G B : Nat → Int64} {n i : Nat} {w : Int64} (h : fgO S G B n w = some i) : i < n := (fst9_spec h).1
theorem fg_some {S : Nat → Bool} {G B : Nat → Int64} {n : Nat} {w : Int64} (h : ¬ oI (fgO S G B n w) = -1) : ∃ i, i < n ∧ fgO S G B n w = some i := by
  cases e : fgO S G B n w with
  | none => rw [e] at h; exact absurd rfl h
  | some i => exact ⟨i, fgO_lt e, rfl⟩
theorem shW_s {S : Nat → Bool} {G B : Nat → Int64} {n r i : Nat} {v : Int64} (h : r < 43) (ho : fgO S G B n v = some i) : shW S G B n (43 - r) v = shW S G B n (43 - (r + 1)) (noW v (G i)) := by
  rw [show 43 - r = (43 - (r + 1)) + 1 by omega]
  show (match fgO S G B n v with | none => v | some i => shW S G B n (43 - (r + 1)) (noW v (G i))) = _
  rw [ho]
theorem shO_v {S : Nat → Bool} {G B : Nat → Int64} {n r : Nat} {v w : Int64} (hs : syB S B w = true) (h : shW S G B n (43 - r) v = shW S G B n 43 w) (ho : r = 43 ∨ oI (fgO S G B n v) = -1) (hn : n ≤ 43) : v = shO S G B n w := by
  unfold shO
  rw [if_pos hs, ← h]
  rcases ho with e | e
  · rw [e]; rfl
  · have e2 : fgO S G B n v = none := (oI_m1 (fun i hi => by have := fgO_lt hi; omega)).mp e
    cases hk : 43 - r with
    | zero => rfl
    | succ k =>
      show v = (match fgO S G B n v with | none => v | some i => shW S G B n k (noW v (G i)))
      rw [e2]
def ptI (K V R : Nat → Int32) (w : Int64) (i : Nat) (p : Int32) : Int32 := if p = nI 0 then K i else if p = nI 1 then nI (cnt (kP K (K i)) i) else if p = nI 2 then V i else if p = nI 3 then R i else bI (wbit w i)
section Pt
variable {K V R : Nat → Int32} {w : Int64} {i : Nat}
theorem pt_0 : ptI K V R w i (nI 0) = K i := by unfold ptI; rw [if_pos rfl]
theorem pt_1 : ptI K V R w i (nI 1) = nI (cnt (kP K (K i)) i) := by unfold ptI; rw [if_neg (by decide), if_pos rfl]
theorem pt_2 : ptI K V R w i (nI 2) = V i := by unfold ptI; rw [if_neg (by decide), if_neg (by decide), if_pos rfl]
theorem pt_3 : ptI K V R w i (nI 3) = R i := by unfold ptI; rw [if_neg (by decide), if_neg (by decide), if_neg (by decide), if_pos rfl]
theorem pt_4 : ptI K V R w i (nI 4) = bI (wbit w i) := by unfold ptI; rw [if_neg (by decide), if_neg (by decide), if_neg (by decide), if_neg (by decide)]
end Pt
theorem szB_nI {z : Nat} (h : z ≤ 40) : szB (nI z) = true := by
  unfold szB
  rw [decide_eq_false (nI_pos (by omega)), decide_eq_false (nI_nlt h (by decide))]
  rfl
theorem szB_of {x : Int32} (h : szB x = true) : ∃ z, z ≤ 40 ∧ x = nI z := by
  unfold szB at h
  simp only [Bool.and_eq_true, Bool.not_eq_true', decide_eq_false_iff_not] at h
  obtain ⟨j, hj, rfl⟩ := nI_of h.1
  have h2 := (not_congr (nI_ltI (by decide) hj)).mp h.2
  exact ⟨j, by omega, rfl⟩
def ctI (n : Nat) (K : Nat → Int32) (B : Nat → Int64) (S : Nat → Bool) (w : Int64) (p : Int32) : Int32 := if p = nI 0 then nI n else if p = nI 1 then nI (cnt (wbit w) 64) else if p = nI 2 then nI (cnt (kP K (nI 5)) n) else if p = nI 3 then nI (cnt (wbit (B 7)) 64) else if p = nI 4 then nI (cnt S 256) else ckI n K p
section Ct
variable {n : Nat} {K : Nat → Int32} {B : Nat → Int64} {S : Nat → Bool} {w : Int64} {p : Int32}
theorem ct_0 : ctI n K B S w (nI 0) = nI n := by unfold ctI; rw [if_pos rfl]
theorem ct_1 : ctI n K B S w (nI 1) = nI (cnt (wbit w) 64) := by unfold ctI; rw [if_neg (by decide), if_pos rfl]
theorem ct_2 : ctI n K B S w (nI 2) = nI (cnt (kP K (nI 5)) n) := by unfold ctI; rw [if_neg (by decide), if_neg (by decide), if_pos rfl]
theorem ct_3 : ctI n K B S w (nI 3) = nI (cnt (wbit (B 7)) 64) := by unfold ctI; rw [if_neg (by decide), if_neg (by decide), if_neg (by decide), if_pos rfl]
theorem ct_4 : ctI n K B S w (nI 4) = nI (cnt S 256) := by unfold ctI; rw [if_neg (by decide), if_neg (by decide), if_neg (by decide), if_neg (by decide), if_pos rfl]
theorem ct_o (h : p.toInt < 0 ∨ 4 < p.toInt) : ctI n K B S w p = ckI n K p := by
  have e : ∀ j, j ≤ 4 → ¬ p = nI j := by
    intro j h2 e
    rw [e, nI_toInt (by omega)] at h
    omega
  unfold ctI
  rw [if_neg (e 0 (by omega)), if_neg (e 1 (by omega)), if_neg (e 2 (by omega)), if_neg (e 3 (by omega)), if_neg (e 4 (by omega))]
end Ct
theorem vdL_z {v : Int64} {B : Nat → Int64} {k : Nat} (h : v &&& B k = 0) : vdL v B (k + 1) = vdL v B k := if_pos h
theorem vdL_n {v : Int64} {B : Nat → Int64} {k : Nat} (h : ¬ v &&& B k = 0) : vdL v B (k + 1) = vdL v B k ||| (nI 1 <<< (nI k &&& 31)) := if_neg h
