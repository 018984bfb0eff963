/-! ===== numbers: an Int32, an Int64 as the cut of an integer ===== -/
def jI (z : Int) : Int32 := Int32.ofInt z
def jL (z : Int) : Int64 := Int64.ofInt z
theorem jI_add (a b : Int) : jI a + jI b = jI (a + b) := (Int32.ofInt_add a b).symm
theorem jI_sub (a b : Int) : jI a - jI b = jI (a - b) := (Int32.ofInt_sub a b).symm
theorem jI_mul (a b : Int) : jI a * jI b = jI (a * b) := (Int32.ofInt_mul a b).symm
theorem jI_neg (a : Int) : -jI a = jI (-a) := (Int32.ofInt_neg a).symm
theorem jL_add (a b : Int) : jL a + jL b = jL (a + b) := (Int64.ofInt_add a b).symm
theorem jL_sub (a b : Int) : jL a - jL b = jL (a - b) := (Int64.ofInt_sub a b).symm
theorem jL_mul (a b : Int) : jL a * jL b = jL (a * b) := (Int64.ofInt_mul a b).symm
theorem jL_neg (a : Int) : -jL a = jL (-a) := (Int64.ofInt_neg a).symm
theorem jI_of (x : Int32) : x = jI x.toInt := (Int32.ofInt_toInt x).symm
theorem jL_of (x : Int64) : x = jL x.toInt := (Int64.ofInt_toInt x).symm
theorem jI_rng (x : Int32) : -2147483648 ≤ x.toInt ∧ x.toInt < 2147483648 := by
  have h1 := Int32.le_toInt x
  have h2 := Int32.toInt_lt x
  omega
theorem jL_rng (x : Int64) : -9223372036854775808 ≤ x.toInt ∧ x.toInt < 9223372036854775808 := by
  have h1 := Int64.le_toInt x
  have h2 := Int64.toInt_lt x
  omega
theorem jI_toInt {z : Int} (h : -2147483648 ≤ z ∧ z < 2147483648) : (jI z).toInt = z := by
  rw [jI, Int32.toInt_ofInt]
  show z.bmod (2 ^ 32) = z
  rw [Int.bmod_eq_of_le (by omega) (by omega)]
theorem jL_toInt {z : Int} (h : -9223372036854775808 ≤ z ∧ z < 9223372036854775808) : (jL z).toInt = z := by
  rw [jL, Int64.toInt_ofInt]
  show z.bmod (2 ^ 64) = z
  rw [Int.bmod_eq_of_le (by omega) (by omega)]
theorem jI_le {a b : Int} (ha : -2147483648 ≤ a ∧ a < 2147483648) (hb : -2147483648 ≤ b ∧ b < 2147483648) : jI a ≤ jI b ↔ a ≤ b := by
  rw [Int32.le_iff_toInt_le, jI_toInt ha, jI_toInt hb]
theorem jI_lt {a b : Int} (ha : -2147483648 ≤ a ∧ a < 2147483648) (hb : -2147483648 ≤ b ∧ b < 2147483648) : jI a < jI b ↔ a < b := by
  rw [Int32.lt_iff_toInt_lt, jI_toInt ha, jI_toInt hb]
theorem jI_eq {a b : Int} (ha : -2147483648 ≤ a ∧ a < 2147483648) (hb : -2147483648 ≤ b ∧ b < 2147483648) : jI a = jI b ↔ a = b := by
  rw [← Int32.toInt_inj, jI_toInt ha, jI_toInt hb]
theorem jL_le {a b : Int} (ha : -9223372036854775808 ≤ a ∧ a < 9223372036854775808) (hb : -9223372036854775808 ≤ b ∧ b < 9223372036854775808) : jL a ≤ jL b ↔ a ≤ b := by
  rw [Int64.le_iff_toInt_le, jL_toInt ha, jL_toInt hb]
theorem jL_lt {a b : Int} (ha : -9223372036854775808 ≤ a ∧ a < 9223372036854775808) (hb : -9223372036854775808 ≤ b ∧ b < 9223372036854775808) : jL a < jL b ↔ a < b := by
  rw [Int64.lt_iff_toInt_lt, jL_toInt ha, jL_toInt hb]
theorem jL_eq {a b : Int} (ha : -9223372036854775808 ≤ a ∧ a < 9223372036854775808) (hb : -9223372036854775808 ≤ b ∧ b < 9223372036854775808) : jL a = jL b ↔ a = b := by
  rw [← Int64.toInt_inj, jL_toInt ha, jL_toInt hb]
theorem jI_l {a : Int} (ha : -2147483648 ≤ a ∧ a < 2147483648) : Int32.toInt64 (jI a) = jL a := by
  apply Int64.toInt_inj.1
  rw [Int32.toInt_toInt64, jI_toInt ha, jL_toInt (by omega)]
theorem jL_i (a : Int) : Int64.toInt32 (jL a) = jI a := Int64.toInt32_ofInt
theorem jI_cl {a : Int} (h0 : 0 ≤ a) (h : a < 2147483648) : Int32.toNatClampNeg (jI a) = a.toNat := by
  show (jI a).toInt.toNat = a.toNat
  rw [jI_toInt (by omega)]
theorem jI_n (n : Nat) : nI n = jI n := (Int32.ofInt_eq_ofNat).symm
theorem jI_div {a b : Int} (ha : 0 ≤ a ∧ a < 2147483648) (hb : 0 < b ∧ b < 2147483648) : jI a / jI b = jI (a / b) := by
  apply Int32.toInt_inj.1
  have h1 : a / b ≤ a := Int.ediv_le_self b ha.1
  have h2 : 0 ≤ a / b := Int.ediv_nonneg ha.1 (by omega)
  rw [Int32.toInt_div, jI_toInt (by omega), jI_toInt (by omega), jI_toInt (by omega), Int.tdiv_eq_ediv_of_nonneg ha.1, Int.bmod_eq_of_le (by omega) (by omega)]
theorem jL_div {a b : Int} (ha : 0 ≤ a ∧ a < 9223372036854775808) (hb : 0 < b ∧ b < 9223372036854775808) : jL a / jL b = jL (a / b) := by
  apply Int64.toInt_inj.1
  have h1 : a / b ≤ a := Int.ediv_le_self b ha.1
  have h2 : 0 ≤ a / b := Int.ediv_nonneg ha.1 (by omega)
  rw [Int64.toInt_div, jL_toInt (by omega), jL_toInt (by omega), jL_toInt (by omega), Int.tdiv_eq_ediv_of_nonneg ha.1, Int.bmod_eq_of_le (by omega) (by omega)]
/-- an exact division, of any sign -/
theorem jL_divx {a b q : Int} (ha : -9223372036854775808 < a ∧ a < 9223372036854775808) (hb : 0 < b ∧ b < 9223372036854775808) (h : a = b * q) : jL a / jL b = jL q := by
  apply Int64.toInt_inj.1
  have h2 : a.tdiv b = q := by rw [h, Int.mul_tdiv_cancel_left q (by omega)]
  have h3 : -9223372036854775808 < q ∧ q < 9223372036854775808 := by
    rcases Int.lt_or_le q 0 with hq | hq
    · have : b * q ≤ 1 * q := Int.mul_le_mul_of_nonpos_right (by omega) (by omega)
      omega
    · have : 1 * q ≤ b * q := Int.mul_le_mul_of_nonneg_right (by omega) hq
      omega
  rw [Int64.toInt_div, jL_toInt (by omega), jL_toInt (by omega), jL_toInt (by omega), h2, Int.bmod_eq_of_le (by omega) (by omega)]
theorem jI_ib {a : Int} {n : Nat} (h0 : 0 ≤ a) (h : a < n) (hn : n < 2147483648) : pa_ib (jI a) n = true := by
  rw [pa_ib, Bool.and_eq_true, decide_eq_true_eq, decide_eq_true_eq, jI_toInt (by omega)]
  exact ⟨h0, h⟩
theorem cm_eq0 (x y : Int64) : lg_cmp x y = 0 ↔ x = y := by
  unfold lg_cmp
  constructor
  · intro h
    split at h
    · exact absurd h (by decide)
    · split at h
      · assumption
      · exact absurd h (by decide)
  · intro h
    subst h
    rw [if_neg (fun h : x > x => Int64.lt_irrefl h), if_pos rfl]
theorem cm_lt0 (x y : Int64) : lg_cmp x y < 0 ↔ x < y := by
  unfold lg_cmp
  constructor
  · intro h
    split at h
    · exact absurd h (by decide)
    · rename_i h1
      split at h
      · exact absurd h (by decide)
      · rename_i h2
        rcases Int64.lt_or_le x y with h3 | h3
        · exact h3
        · exact absurd (Int64.le_antisymm (Int64.not_lt.mp h1) h3) h2
  · intro h
    have h1 : ¬ x > y := Int64.lt_asymm h
    have h2 : ¬ x = y := Int64.ne_of_lt h
    rw [if_neg h1, if_neg h2]
    decide
theorem cm_gt0 (x y : Int64) : 0 < lg_cmp x y ↔ y < x := by
  unfold lg_cmp
  constructor
  · intro h
    split at h
    · assumption
    · split at h
      · exact absurd h (by decide)
      · exact absurd h (by decide)
  · intro h
    rw [if_pos h]
    decide
theorem cm_le0 (x y : Int64) : lg_cmp x y ≤ 0 ↔ x ≤ y := by
  rw [← Int32.not_lt, cm_gt0, Int64.not_lt]
theorem cm_ge0 (x y : Int64) : 0 ≤ lg_cmp x y ↔ y ≤ x := by
  rw [← Int32.not_lt, cm_lt0, Int64.not_lt]
/-- a number that a bound holds -/
theorem wi_t {v lo hi : Int32} (h1 : ¬ v < lo) (h2 : ¬ hi < v) : f_X9_within v lo hi = some 1 := by
  simp only [f_X9_within]
  simp only [h1, h2, if_false, if_true]
theorem wi_cases (v lo hi : Int32) : (f_X9_within v lo hi = some 1 ∧ ¬ v < lo ∧ ¬ hi < v) ∨ (f_X9_within v lo hi = some 0) := by
  by_cases h1 : v < lo
  · right
    simp only [f_X9_within, h1, if_true]
  · by_cases h2 : hi < v
    · right
      simp only [f_X9_within, h1, h2, if_false, if_true]
    · exact Or.inl ⟨wi_t h1 h2, h1, h2⟩
theorem in_wi : f_X10_in = f_X9_within := rfl
