/-! PURE: a long as a set of bits; how many bits -/
def wbit (w : Int64) (j : Nat) : Bool := w.toBitVec.getLsbD j
theorem wbit_ext {x y : Int64} (h : ∀ j, j < 64 → wbit x j = wbit y j) : x = y := Int64.toBitVec_inj.mp (BitVec.eq_of_getLsbD_eq (fun i hi => h i hi))
theorem wbit_or (x y : Int64) (j : Nat) : wbit (x ||| y) j = (wbit x j || wbit y j) := by unfold wbit; rw [Int64.toBitVec_or, BitVec.getLsbD_or]
theorem wbit_and (x y : Int64) (j : Nat) : wbit (x &&& y) j = (wbit x j && wbit y j) := by unfold wbit; rw [Int64.toBitVec_and, BitVec.getLsbD_and]
theorem wbit_xor (x y : Int64) (j : Nat) : wbit (x ^^^ y) j = (wbit x j ^^ wbit y j) := by unfold wbit; rw [Int64.toBitVec_xor, BitVec.getLsbD_xor]
theorem wbit_big {x : Int64} {j : Nat} (h : 64 ≤ j) : wbit x j = false := BitVec.getLsbD_of_ge _ _ h
theorem wbit_0 (j : Nat) : wbit 0 j = false := BitVec.getLsbD_zero
theorem wbit_m1 : ∀ j, j < 64 → wbit (-1) j = true := by decide +kernel
theorem wbit_no (x y : Int64) {j : Nat} (h : j < 64) : wbit (x &&& (y ^^^ (-1))) j = (wbit x j && !wbit y j) := by
  rw [wbit_and, wbit_xor, wbit_m1 j h]
  cases wbit y j <;> rfl
theorem wbit_one : ∀ i, i < 64 → ∀ j, j < 64 → wbit ((1 : Int64) <<< ((nI i).toInt64 &&& 63)) j = decide (j = i) := by decide +kernel
theorem wbit_all : ∀ n, n < 64 → ∀ j, j < 64 → wbit (((1 : Int64) <<< ((nI n).toInt64 &&& 63)) - 1) j = decide (j < n) := by decide +kernel
theorem wbit_tst (w : Int64) {i : Nat} (hi : i < 64) : ((w.toUInt64 >>> ((nI i).toInt64.toUInt64 &&& Int64.toUInt64 63)).toInt64 &&& 1) = 0 ↔ wbit w i = false :=
  ts_bit hi (by rw [wb_cu i hi]; exact Nat.mod_eq_of_lt (by omega))
theorem wbit_z {w : Int64} : w = 0 ↔ ∀ j, j < 64 → wbit w j = false := by
  refine ⟨fun h j _ => by rw [h]; exact wbit_0 j, fun h => wbit_ext (fun j hj => by rw [h j hj, wbit_0])⟩
theorem wbit_lN {n : Nat} (h : n < 2 ^ 64) (j : Nat) : wbit (lN n) j = n.testBit j := by
  unfold wbit
  rw [BitVec.getLsbD, wb_tn h]
/-! how many bits: the library's way, byte by byte -/
def mk9 (b : Nat) : Nat → Nat
  | 0 => 0
  | k + 1 => 256 * mk9 b k + b
theorem and8 {a p : Nat} (ha : a < 256) (hp : p < 256) (m q : Nat) : (256 * m + a) &&& (256 * q + p) = 256 * (m &&& q) + (a &&& p) := by
  have hap : a &&& p < 2 ^ 8 := Nat.and_lt_two_pow a hp
  apply Nat.eq_of_testBit_eq
  intro i
  rw [Nat.testBit_and, show 256 * m + a = 2 ^ 8 * m + a from rfl, show 256 * q + p = 2 ^ 8 * q + p from rfl, show 256 * (m &&& q) + (a &&& p) = 2 ^ 8 * (m &&& q) + (a &&& p) from rfl,
    Nat.testBit_two_pow_mul_add _ ha, Nat.testBit_two_pow_mul_add _ hp, Nat.testBit_two_pow_mul_add _ hap]
  by_cases h : i < 8
  · rw [if_pos h, if_pos h, if_pos h, Nat.testBit_and]
  · rw [if_neg h, if_neg h, if_neg h, Nat.testBit_and]
def s19 (k n : Nat) : Nat := n - ((n / 2) &&& mk9 0x55 k)
def s29 (k n : Nat) : Nat := (n &&& mk9 0x33 k) + ((n / 4) &&& mk9 0x33 k)
def s39 (k n : Nat) : Nat := (n + n / 16) &&& mk9 0x0f k
theorem b19 : ∀ a, a < 256 → ∀ z, z < 2 → (128 * z + a / 2) &&& 0x55 = (a / 2) &&& 0x55 := by decide +kernel
theorem b29 : ∀ a, a < 256 → ∀ z, z < 4 → (64 * z + a / 4) &&& 0x33 = (a / 4) &&& 0x33 := by decide +kernel
theorem s19_1 (a : Nat) : s19 1 a = a - ((a / 2) &&& 0x55) := rfl
theorem s29_1 (a : Nat) : s29 1 a = (a &&& 0x33) + ((a / 4) &&& 0x33) := rfl
theorem s19_s (k m a : Nat) (ha : a < 256) : s19 (k + 1) (256 * m + a) = 256 * s19 k m + s19 1 a := by
  have e : (256 * m + a) / 2 = 256 * (m / 2) + (128 * (m % 2) + a / 2) := by omega
  have h1 : m / 2 &&& mk9 0x55 k ≤ m / 2 := Nat.and_le_left
  have h2 : a / 2 &&& 0x55 ≤ a / 2 := Nat.and_le_left
  rw [s19_1]
  show 256 * m + a - ((256 * m + a) / 2 &&& (256 * mk9 0x55 k + 0x55)) = 256 * (m - (m / 2 &&& mk9 0x55 k)) + (a - (a / 2 &&& 0x55))
  rw [e, and8 (by omega) (by decide), b19 a ha (m % 2) (Nat.mod_lt _ (by decide))]
  omega
theorem s29_s (k m a : Nat) (ha : a < 256) : s29 (k + 1) (256 * m + a) = 256 * s29 k m + s29 1 a := by
  have e : (256 * m + a) / 4 = 256 * (m / 4) + (64 * (m % 4) + a / 4) := by omega
  rw [s29_1]
  show (256 * m + a &&& (256 * mk9 0x33 k + 0x33)) + ((256 * m + a) / 4 &&& (256 * mk9 0x33 k + 0x33)) = 256 * ((m &&& mk9 0x33 k) + (m / 4 &&& mk9 0x33 k)) + ((a &&& 0x33) + (a / 4 &&& 0x33))
  rw [e, and8 ha (by decide), and8 (by omega) (by decide), b29 a ha (m % 4) (Nat.mod_lt _ (by decide))]
  omega
/-- the bits of a byte -/
def pb9 (a : Nat) : Nat := cnt a.testBit 8
def t29 (k n : Nat) : Nat := s29 k (s19 k n)
theorem t29_b : ∀ a, a < 256 → s19 1 a < 256 ∧ t29 1 a ≤ 0x44 ∧ t29 1 a % 16 ≤ 4 ∧ (t29 1 a + t29 1 a / 16) % 16 = pb9 a := by decide +kernel
theorem t29_s (k m a : Nat) (ha : a < 256) : t29 (k + 1) (256 * m + a) = 256 * t29 k m + t29 1 a := by
  unfold t29
  rw [s19_s k m a ha, s29_s k _ _ (t29_b a ha).1]
theorem t29_m : ∀ k n, t29 k n % 16 ≤ 4
  | 0, n => by
    have e : t29 0 n = 0 := by
      show (n - (n / 2 &&& 0) &&& 0) + ((n - (n / 2 &&& 0)) / 4 &&& 0) = 0
      simp
    rw [e]; decide
  | k + 1, n => by
    have e : n = 256 * (n / 256) + n % 256 := by omega
    have h := t29_b (n % 256) (Nat.mod_lt _ (by decide))
    rw [e, t29_s k _ _ (Nat.mod_lt _ (by decide))]
    omega
/-- the bytes' numbers of bits, side by side -/
def T9 : Nat → Nat → Nat
  | 0, _ => 0
  | k + 1, n => 256 * T9 k (n / 256) + pb9 (n % 256)
theorem s39_T : ∀ k n, s39 k (t29 k n) = T9 k n
  | 0, n => by
    show (_ &&& 0) = 0
    simp
  | k + 1, n => by
    have ha : n % 256 < 256 := Nat.mod_lt _ (by decide)
    have hb := t29_b (n % 256) ha
    have hm := t29_m k (n / 256)
    have ih := s39_T k (n / 256)
    have e : n = 256 * (n / 256) + n % 256 := by omega
    have e1 : t29 (k + 1) n = 256 * t29 k (n / 256) + t29 1 (n % 256) := by
      conv => lhs; rw [e]
      exact t29_s k _ _ ha
    rw [e1]
    unfold T9
    rw [← ih, ← hb.2.2.2]
    generalize t29 k (n / 256) = m at hm ⊢
    generalize t29 1 (n % 256) = a at hb ⊢
    show (256 * m + a + (256 * m + a) / 16) &&& (256 * mk9 0x0f k + 0x0f) = 256 * ((m + m / 16) &&& mk9 0x0f k) + (a + a / 16) % 16
    have e2 : 256 * m + a + (256 * m + a) / 16 = 256 * (m + m / 16) + (a + a / 16 + 16 * (m % 16)) := by omega
    rw [e2, and8 (by omega) (by decide), show (0x0f : Nat) = 2 ^ 4 - 1 from rfl, Nat.and_two_pow_sub_one_eq_mod (a + a / 16 + 16 * (m % 16)) 4]
    omega
theorem pb9_le (a : Nat) : pb9 a ≤ 8 := cnt_le _ 8
/-- the sum of the bytes' numbers -/
def S9 : Nat → Nat → Nat
  | 0, _ => 0
  | k + 1, n => S9 k (n / 256) + pb9 (n % 256)
theorem f9a {u v c : Nat} (e : u = 256 * v + c) (g : c ≤ 32) : u / 256 = v := by omega
theorem f9b {X Y a b : Nat} (e : X = 65536 * Y + (256 * a + b)) (ha : a ≤ 16) (hb : b ≤ 16) : X / 65536 = Y := by omega
theorem f9c {X0 X1 X2 X3 X4 a0 a1 a2 a3 : Nat} (e0 : X0 = 256 * X1 + a0) (e1 : X1 = 256 * X2 + a1) (e2 : X2 = 256 * X3 + a2) (e3 : X3 = 256 * X4 + a3) (g0 : a0 ≤ 32) (g1 : a1 ≤ 32) (g2 : a2 ≤ 32) (g3 : a3 ≤ 32) : X0 / 4294967296 = X4 := by
  have y : X0 = 4294967296 * X4 + (16777216 * a3 + 65536 * a2 + 256 * a1 + a0) := by omega
  clear e0 e1 e2 e3
  omega
theorem f9d {u0 u1 u2 c0 c1 u3 c2 : Nat} (e0 : u0 = 256 * u1 + c0) (e1 : u1 = 256 * u2 + c1) (e2 : u2 = 256 * u3 + c2) : u0 + u1 = 65536 * (u2 + u3) + (256 * (c1 + c2) + (c0 + c1)) := by omega
theorem f9e {u0 u1 u2 u3 u4 c0 c1 c2 c3 : Nat} (e0 : u0 = 256 * u1 + c0) (e1 : u1 = 256 * u2 + c1) (e2 : u2 = 256 * u3 + c2) (e3 : u3 = 256 * u4 + c3) : u0 + u1 + (u2 + u3) = 256 * (u1 + u2 + (u3 + u4)) + (c0 + c1 + c2 + c3) := by omega
theorem f9f {u v c b : Nat} (e : u = 256 * v + c) (g : c ≤ 8) (h : v + 1 ≤ b) : u + 1 ≤ 256 * b := by omega
theorem f9g {u0 u1 u2 u3 u4 u5 u6 u7 : Nat} (b0 : u0 + 1 ≤ 648518346341351424) (b1 : u1 + 1 ≤ 2533274790395904) (b2 : u2 + 1 ≤ 2533274790395904) (b3 : u3 + 1 ≤ 2533274790395904) (b4 : u4 + 1 ≤ 2533274790395904) (b5 : u5 + 1 ≤ 2533274790395904) (b6 : u6 + 1 ≤ 2533274790395904) (b7 : u7 + 1 ≤ 2533274790395904) : u0 < 18446744073709551616 ∧ u0 + u1 < 18446744073709551616 ∧ u0 + u1 + (u2 + u3) < 18446744073709551616 ∧ u0 + u1 + (u2 + u3) + (u4 + u5 + (u6 + u7)) < 18446744073709551616 := by omega
theorem f9h {u0 u1 u2 u3 u4 u5 u6 u7 c0 c1 c2 c3 c4 c5 c6 c7 : Nat} (e0 : u0 = 256 * u1 + c0) (e1 : u1 = 256 * u2 + c1) (e2 : u2 = 256 * u3 + c2) (e3 : u3 = 256 * u4 + c3) (e4 : u4 = 256 * u5 + c4) (e5 : u5 = 256 * u6 + c5) (e6 : u6 = 256 * u7 + c6) (e7 : u7 = c7) : u0 + u1 + (u2 + u3) + (u4 + u5 + (u6 + u7)) = 128 * (2 * (u1 + u2 + u3 + u4 + u5 + u6 + u7)) + (c7 + c6 + c5 + c4 + c3 + c2 + c1 + c0) := by omega
theorem f9i {X Y z : Nat} (e : X = 128 * Y + z) (h : z ≤ 64) : X % 128 = z := by omega
theorem T9_s (k n : Nat) : T9 (k + 1) n = 256 * T9 k (n / 256) + pb9 (n % 256) := rfl
theorem T9_1 (n : Nat) : T9 1 n = pb9 (n % 256) := by rw [T9_s 0, show T9 0 (n / 256) = 0 from rfl]; omega
theorem S9_s (k n : Nat) : S9 (k + 1) n = S9 k (n / 256) + pb9 (n % 256) := rfl
theorem S9_1 (n : Nat) : S9 1 n = pb9 (n % 256) := by rw [S9_s 0, show S9 0 (n / 256) = 0 from rfl]; omega
theorem fold9 (n : Nat) : T9 8 n < 18446744073709551616 ∧ T9 8 n + T9 8 n / 256 < 18446744073709551616 ∧ T9 8 n + T9 8 n / 256 + (T9 8 n + T9 8 n / 256) / 65536 < 18446744073709551616 ∧ ∃ z, T9 8 n + T9 8 n / 256 + (T9 8 n + T9 8 n / 256) / 65536 + (T9 8 n + T9 8 n / 256 + (T9 8 n + T9 8 n / 256) / 65536) / 4294967296 = z ∧ z < 18446744073709551616 ∧ z % 128 = S9 8 n := by
  have e0 := T9_s 7 n
  have e1 := T9_s 6 (n / 256)
  have e2 := T9_s 5 (n / 256 / 256)
  have e3 := T9_s 4 (n / 256 / 256 / 256)
  have e4 := T9_s 3 (n / 256 / 256 / 256 / 256)
  have e5 := T9_s 2 (n / 256 / 256 / 256 / 256 / 256)
  have e6 := T9_s 1 (n / 256 / 256 / 256 / 256 / 256 / 256)
  have e7 := T9_1 (n / 256 / 256 / 256 / 256 / 256 / 256 / 256)
  have es : S9 8 n = pb9 (n / 256 / 256 / 256 / 256 / 256 / 256 / 256 % 256) + pb9 (n / 256 / 256 / 256 / 256 / 256 / 256 % 256) + pb9 (n / 256 / 256 / 256 / 256 / 256 % 256) + pb9 (n / 256 / 256 / 256 / 256 % 256) + pb9 (n / 256 / 256 / 256 % 256) + pb9 (n / 256 / 256 % 256) + pb9 (n / 256 % 256) + pb9 (n % 256) := by
    rw [S9_s 7, S9_s 6, S9_s 5, S9_s 4, S9_s 3, S9_s 2, S9_s 1, S9_1]
  rw [es]
  have g0 := pb9_le (n % 256)
  have g1 := pb9_le (n / 256 % 256)
  have g2 := pb9_le (n / 256 / 256 % 256)
  have g3 := pb9_le (n / 256 / 256 / 256 % 256)
  have g4 := pb9_le (n / 256 / 256 / 256 / 256 % 256)
  have g5 := pb9_le (n / 256 / 256 / 256 / 256 / 256 % 256)
  have g6 := pb9_le (n / 256 / 256 / 256 / 256 / 256 / 256 % 256)
  have g7 := pb9_le (n / 256 / 256 / 256 / 256 / 256 / 256 / 256 % 256)
  clear es
  generalize pb9 (n % 256) = c0 at e0 g0 ⊢
  generalize pb9 (n / 256 % 256) = c1 at e1 g1 ⊢
  generalize pb9 (n / 256 / 256 % 256) = c2 at e2 g2 ⊢
  generalize pb9 (n / 256 / 256 / 256 % 256) = c3 at e3 g3 ⊢
  generalize pb9 (n / 256 / 256 / 256 / 256 % 256) = c4 at e4 g4 ⊢
  generalize pb9 (n / 256 / 256 / 256 / 256 / 256 % 256) = c5 at e5 g5 ⊢
  generalize pb9 (n / 256 / 256 / 256 / 256 / 256 / 256 % 256) = c6 at e6 g6 ⊢
  generalize pb9 (n / 256 / 256 / 256 / 256 / 256 / 256 / 256 % 256) = c7 at e7 g7 ⊢
  generalize T9 1 (n / 256 / 256 / 256 / 256 / 256 / 256 / 256) = u7 at e6 e7
  generalize T9 2 (n / 256 / 256 / 256 / 256 / 256 / 256) = u6 at e5 e6
  generalize T9 3 (n / 256 / 256 / 256 / 256 / 256) = u5 at e4 e5
  generalize T9 4 (n / 256 / 256 / 256 / 256) = u4 at e3 e4
  generalize T9 5 (n / 256 / 256 / 256) = u3 at e2 e3
  generalize T9 6 (n / 256 / 256) = u2 at e1 e2
  generalize T9 7 (n / 256) = u1 at e0 e1
  generalize T9 8 n = u0 at e0 ⊢
  have d1 : u0 / 256 = u1 := f9a e0 (by omega)
  have d2 : (u0 + u1) / 65536 = u2 + u3 := f9b (f9d e0 e1 e2) (by omega) (by omega)
  have d3 : (u0 + u1 + (u2 + u3)) / 4294967296 = u4 + u5 + (u6 + u7) := f9c (f9e e0 e1 e2 e3) (f9e e1 e2 e3 e4) (f9e e2 e3 e4 e5) (f9e e3 e4 e5 e6) (by omega) (by omega) (by omega) (by omega)
  have b7 : u7 + 1 ≤ 9 := by rw [e7]; omega
  have b6 := f9f e6 g6 b7
  have b5 := f9f e5 g5 b6
  have b4 := f9f e4 g4 b5
  have b3 := f9f e3 g3 b4
  have b2 := f9f e2 g2 b3
  have b1 := f9f e1 g1 b2
  have b0 := f9f e0 g0 b1
  obtain ⟨k0, k1, k2, k3⟩ := f9g (u0 := u0) (u1 := u1) (u2 := u2) (u3 := u3) (u4 := u4) (u5 := u5) (u6 := u6) (u7 := u7) (Nat.le_trans b0 (by decide)) (Nat.le_trans b1 (by decide)) (Nat.le_trans b2 (by decide)) (Nat.le_trans b3 (by decide)) (Nat.le_trans b4 (by decide)) (Nat.le_trans b5 (by decide)) (Nat.le_trans b6 (by decide)) (Nat.le_trans b7 (by decide))
  rw [d1, d2, d3]
  exact ⟨k0, k1, k2, _, rfl, k3, f9i (f9h e0 e1 e2 e3 e4 e5 e6 e7) (by omega)⟩
theorem cnt_add (P : Nat → Bool) (a : Nat) : ∀ b, cnt P (a + b) = cnt P a + cnt (fun j => P (a + j)) b
  | 0 => rfl
  | b + 1 => by
    show cnt P (a + b) + (P (a + b)).toNat = cnt P a + (cnt (fun j => P (a + j)) b + (P (a + b)).toNat)
    rw [cnt_add P a b]
    omega
theorem S9_cnt : ∀ k n, S9 k n = cnt n.testBit (8 * k)
  | 0, _ => rfl
  | k + 1, n => by
    have ha : n % 256 < 2 ^ 8 := Nat.mod_lt _ (by decide)
    have e : n = 2 ^ 8 * (n / 256) + n % 256 := by omega
    show S9 k (n / 256) + pb9 (n % 256) = _
    rw [S9_cnt k, show 8 * (k + 1) = 8 + 8 * k by omega, cnt_add]
    have h1 : cnt n.testBit 8 = pb9 (n % 256) := cnt_congr (fun j hj => by
      conv => lhs; rw [e]
      rw [Nat.testBit_two_pow_mul_add _ ha, if_pos hj])
    have h2 : cnt (fun j => n.testBit (8 + j)) (8 * k) = cnt (n / 256).testBit (8 * k) := cnt_congr (fun j _ => by
      show n.testBit (8 + j) = _
      conv => lhs; rw [e]
      rw [Nat.testBit_two_pow_mul_add _ ha, if_neg (by omega)]
      congr 1
      omega)
    rw [h1, h2]
    omega
/-- Long.bitCount, as its rows have it -/
def bc1 (x : Int64) : Int64 := x - ((x.toUInt64 >>> ((nI 1).toInt64.toUInt64 &&& Int64.toUInt64 63)).toInt64 &&& 6148914691236517205)
def bc2 (x : Int64) : Int64 := (x &&& 3689348814741910323) + ((x.toUInt64 >>> ((nI 2).toInt64.toUInt64 &&& Int64.toUInt64 63)).toInt64 &&& 3689348814741910323)
def bc3 (x : Int64) : Int64 := (x + (x.toUInt64 >>> ((nI 4).toInt64.toUInt64 &&& Int64.toUInt64 63)).toInt64) &&& 1085102592571150095
def bcS (k : Nat) (x : Int64) : Int64 := x + (x.toUInt64 >>> ((nI k).toInt64.toUInt64 &&& Int64.toUInt64 63)).toInt64
theorem mk55 : mk9 0x55 8 = 6148914691236517205 := by decide +kernel
theorem mk33 : mk9 0x33 8 = 3689348814741910323 := by decide +kernel
theorem mk0f : mk9 0x0f 8 = 1085102592571150095 := by decide +kernel
theorem bc1_N {n : Nat} (h : n < 2 ^ 64) : bc1 (lN n) = lN (s19 8 n) := by
  unfold bc1 s19
  rw [wb_shr h (by decide), show (6148914691236517205 : Int64) = lN 6148914691236517205 from rfl, wb_and (Nat.lt_of_le_of_lt (Nat.div_le_self _ _) h) (by decide), mk55]
  exact lN_sub (Nat.le_trans Nat.and_le_left (Nat.div_le_self _ _))
theorem bc2_N {n : Nat} (h : n < 2 ^ 64) : bc2 (lN n) = lN (s29 8 n) := by
  unfold bc2 s29
  rw [wb_shr h (by decide), show (3689348814741910323 : Int64) = lN 3689348814741910323 from rfl, wb_and (Nat.lt_of_le_of_lt (Nat.div_le_self _ _) h) (by decide), wb_and h (by decide), mk33]
  exact lN_add _ _
theorem bc3_N {n : Nat} (h : n < 2 ^ 64) (h2 : n + n / 16 < 2 ^ 64) : bc3 (lN n) = lN (s39 8 n) := by
  unfold bc3 s39
  rw [wb_shr h (by decide), show (1085102592571150095 : Int64) = lN 1085102592571150095 from rfl, lN_add, mk0f]
  exact wb_and h2 (by decide)
theorem bcS_N {n k : Nat} (h : n < 2 ^ 64) (hk : k < 64) : bcS k (lN n) = lN (n + n / 2 ^ k) := by
  unfold bcS
  rw [wb_shr h hk]
  exact lN_add _ _
theorem t29_le : ∀ k n, 15 * t29 k n + 4 ≤ 4 * 256 ^ k
  | 0, n => by
    have e : t29 0 n = 0 := by
      show (n - (n / 2 &&& 0) &&& 0) + ((n - (n / 2 &&& 0)) / 4 &&& 0) = 0
      simp
    rw [e]; decide
  | k + 1, n => by
    have ha : n % 256 < 256 := Nat.mod_lt _ (by decide)
    have hb := t29_b (n % 256) ha
    have e : n = 256 * (n / 256) + n % 256 := by omega
    have e1 : t29 (k + 1) n = 256 * t29 k (n / 256) + t29 1 (n % 256) := by
      conv => lhs; rw [e]
      exact t29_s k _ _ ha
    have ih := t29_le k (n / 256)
    rw [e1, Nat.pow_succ]
    have h2 := hb.2.1
    clear hb
    generalize t29 k (n / 256) = u at ih ⊢
    generalize t29 1 (n % 256) = v at h2 ⊢
    generalize 256 ^ k = z at ih ⊢
    omega
theorem s19_lt {n : Nat} (h : n < 2 ^ 64) : s19 8 n < 2 ^ 64 := Nat.lt_of_le_of_lt (Nat.sub_le _ _) h
theorem bits9 (x : Int64) : (bcS 32 (bcS 16 (bcS 8 (bc3 (bc2 (bc1 x)))))).toInt32 &&& nI 127 = nI (cnt (wbit x) 64) := by
  obtain ⟨n, hn, rfl⟩ := wb_of x
  have h1 := t29_le 8 n
  have hp : (256 : Nat) ^ 8 = 2 ^ 64 := by decide
  rw [hp] at h1
  rw [bc1_N hn, bc2_N (s19_lt hn)]
  show (bcS 32 (bcS 16 (bcS 8 (bc3 (lN (t29 8 n)))))).toInt32 &&& nI 127 = _
  rw [bc3_N (by omega) (by omega), s39_T]
  obtain ⟨am, a4, a5, z, hz, a6, e6⟩ := fold9 n
  rw [bcS_N am (by decide), show (2 : Nat) ^ 8 = 256 from rfl, bcS_N a4 (by decide), show (2 : Nat) ^ 16 = 65536 from rfl, bcS_N a5 (by decide), show (2 : Nat) ^ 32 = 4294967296 from rfl, lN_i, hz]
  have e7 : nI z &&& nI 127 = nI (z % 128) := by
    rw [pk_and (nI z) 7 (m := nI 127) (by decide)]
    congr 1
    show (BitVec.ofNat 32 z).toNat % 2 ^ 7 = z % 128
    rw [BitVec.toNat_ofNat]
    omega
  rw [e7, e6, S9_cnt]
  congr 1
  exact cnt_congr (fun j _ => (wbit_lN hn j).symm)
