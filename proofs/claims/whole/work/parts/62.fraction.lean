/-! ===== shares in least terms ===== -/
theorem md_j {a b : Nat} (ha : (a : Int) < 9223372036854775808) (hb : (b : Int) < 9223372036854775808) (h0 : 0 < b) : jL a - jL a / jL b * jL b = jL (a % b : Nat) := by
  rw [jL_div (by omega) (by omega), jL_mul, jL_sub]
  have h : (a : Int) - a / b * b = ((a % b : Nat) : Int) := by
    rw [Int.natCast_emod, Int.emod_def, Int.mul_comm]
  rw [h]
theorem half_lt {b r : Nat} (h0 : 0 < r) (h : r < b) {m : Nat} (hb : b < 2 ^ (m + 1)) : b % r < 2 ^ m := by
  have h1 : b % r < r := Nat.mod_lt _ h0
  have h2 : b % r + r ≤ b := by
    have h3 := Nat.div_add_mod b r
    have h4 : 1 ≤ b / r := (Nat.one_le_div_iff h0).mpr (by omega)
    have h5 : r * 1 ≤ r * (b / r) := Nat.mul_le_mul_left r h4
    omega
  rw [Nat.pow_succ] at hb
  omega
theorem gcd_step (a b : Nat) : Nat.gcd b (a % b) = Nat.gcd a b := by
  rw [Nat.gcd_comm b, ← Nat.gcd_rec, Nat.gcd_comm]
theorem jL_0iff {b : Nat} (hb : (b : Int) < 9223372036854775808) : jL b = 0 ↔ b = 0 := by
  rw [show (0 : Int64) = jL 0 from rfl, jL_eq (by omega) (by omega)]
  omega
theorem cd_one (n : Nat) {a b k : Nat} (ha : (a : Int) < 9223372036854775808) (hb : (b : Int) < 9223372036854775808) (hk : k < 100) : f_X1_commonDivisor_L9 (n + 1) (jL a) (jL b) (jI k) = if b = 0 then some (jL a) else f_X1_commonDivisor_L9 n (jL b) (jL (a % b : Nat)) (jI (k + 1 : Nat)) := by
  show f_X1_commonDivisor_L9_body (f_X1_commonDivisor_L9 n) (jL a) (jL b) (jI k) = _
  rw [f_X1_commonDivisor_L9_body, if_neg (by rw [show (100 : Int32) = jI 100 from rfl, jI_le (by omega) (by omega)]; omega)]
  by_cases h : b = 0
  · rw [if_pos h, if_pos ((cm_eq0 _ _).mpr ((jL_0iff hb).mpr h))]
  · rw [if_neg h, if_neg (fun q => h ((jL_0iff hb).mp ((cm_eq0 _ _).mp q))), if_neg (fun q => h ((jL_0iff hb).mp q)), md_j ha hb (by omega), show (1 : Int32) = jI 1 from rfl, jI_add]
    rfl
theorem cd_loop : ∀ (m a b k n : Nat), b < 2 ^ m → k + 2 * m < 100 → 2 * m < n → (a : Int) < 9223372036854775808 → (b : Int) < 9223372036854775808 → f_X1_commonDivisor_L9 n (jL a) (jL b) (jI k) = some (jL (Nat.gcd a b : Nat)) := by
  intro m
  induction m with
  | zero =>
    intro a b k n hb hk hn ha _
    have e : b = 0 := by omega
    subst e
    obtain ⟨n, rfl⟩ : ∃ q, n = q + 1 := ⟨n - 1, by omega⟩
    rw [cd_one n ha (by omega) (by omega), if_pos rfl, Nat.gcd_zero_right]
  | succ m ih =>
    intro a b k n hb hk hn ha hb'
    obtain ⟨n, rfl⟩ : ∃ q, n = q + 2 := ⟨n - 2, by omega⟩
    rw [cd_one (n + 1) ha hb' (by omega)]
    by_cases h : b = 0
    · rw [if_pos h, h, Nat.gcd_zero_right]
    · rw [if_neg h]
      have hr : a % b < b := Nat.mod_lt _ (by omega)
      rw [cd_one n hb' (by omega) (by omega)]
      by_cases h2 : a % b = 0
      · rw [if_pos h2, ← gcd_step a b, h2, Nat.gcd_zero_right]
      · rw [if_neg h2]
        have h3 := half_lt (by omega : 0 < a % b) hr hb
        have h4 : b % (a % b) ≤ b := Nat.mod_le _ _
        rw [ih (a % b) (b % (a % b)) (k + 1 + 1) n h3 (by omega) (by omega) (by omega) (by omega), gcd_step, gcd_step]
theorem gm_one (n : Nat) {a b : Nat} (ha : (a : Int) < 9223372036854775808) (hb : (b : Int) < 9223372036854775808) : f_X10_gcd_L17 (n + 1) (jL a) (jL b) = if b = 0 then some (jL a) else f_X10_gcd_L17 n (jL b) (jL (a % b : Nat)) := by
  show f_X10_gcd_L17_body (f_X10_gcd_L17 n) (jL a) (jL b) = _
  rw [f_X10_gcd_L17_body]
  by_cases h : b = 0
  · rw [if_pos h, if_pos ((cm_eq0 _ _).mpr ((jL_0iff hb).mpr h))]
  · rw [if_neg h, if_neg (fun q => h ((jL_0iff hb).mp ((cm_eq0 _ _).mp q))), if_neg (fun q => h ((jL_0iff hb).mp q)), md_j ha hb (by omega)]
theorem gm_loop : ∀ (m a b n : Nat), b < 2 ^ m → 2 * m < n → (a : Int) < 9223372036854775808 → (b : Int) < 9223372036854775808 → f_X10_gcd_L17 n (jL a) (jL b) = some (jL (Nat.gcd a b : Nat)) := by
  intro m
  induction m with
  | zero =>
    intro a b n hb hn ha _
    have e : b = 0 := by omega
    subst e
    obtain ⟨n, rfl⟩ : ∃ q, n = q + 1 := ⟨n - 1, by omega⟩
    rw [gm_one n ha (by omega), if_pos rfl, Nat.gcd_zero_right]
  | succ m ih =>
    intro a b n hb hn ha hb'
    obtain ⟨n, rfl⟩ : ∃ q, n = q + 2 := ⟨n - 2, by omega⟩
    rw [gm_one (n + 1) ha hb']
    by_cases h : b = 0
    · rw [if_pos h, h, Nat.gcd_zero_right]
    · rw [if_neg h]
      have hr : a % b < b := Nat.mod_lt _ (by omega)
      rw [gm_one n hb' (by omega)]
      by_cases h2 : a % b = 0
      · rw [if_pos h2, ← gcd_step a b, h2, Nat.gcd_zero_right]
      · rw [if_neg h2]
        have h3 := half_lt (by omega : 0 < a % b) hr hb
        have h4 : b % (a % b) ≤ b := Nat.mod_le _ _
        rw [ih (a % b) (b % (a % b)) n h3 (by omega) (by omega) (by omega), gcd_step, gcd_step]
/-- numerator and denominator in least terms; both 0, where there is nobody to share -/
def rn (a b : Int) : Int := if b = 0 then 0 else a / (Int.gcd a b : Int)
def rd (a b : Int) : Int := if b = 0 then 0 else b / (Int.gcd a b : Int)
theorem rn_g {a b : Int} (hb : 0 < b) : 0 < (Int.gcd a b : Int) ∧ (Int.gcd a b : Int) ≤ b ∧ a = (Int.gcd a b : Int) * rn a b ∧ b = (Int.gcd a b : Int) * rd a b ∧ 0 < rd a b ∧ rd a b ≤ b := by
  have h1 : 0 < Int.gcd a b := Int.gcd_pos_of_ne_zero_right a (by omega)
  have h2 : (Int.gcd a b : Int) ∣ a := Int.gcd_dvd_left a b
  have h3 : (Int.gcd a b : Int) ∣ b := Int.gcd_dvd_right a b
  have h4 : b = (Int.gcd a b : Int) * rd a b := by
    rw [rd, if_neg (by omega), Int.mul_ediv_cancel' h3]
  have h5 : 0 < rd a b := by
    rcases Int.lt_or_le 0 (rd a b) with q | q
    · exact q
    · have : (Int.gcd a b : Int) * rd a b ≤ 0 := Int.mul_nonpos_of_nonneg_of_nonpos (by omega) q
      omega
  refine ⟨by omega, Int.le_of_dvd hb h3, ?_, h4, h5, ?_⟩
  · rw [rn, if_neg (by omega), Int.mul_ediv_cancel' h2]
  · have h6 : 1 * rd a b ≤ (Int.gcd a b : Int) * rd a b := Int.mul_le_mul_of_nonneg_right (by omega) (by omega)
    omega
theorem rn_scale {g a b : Int} (hg : 0 < g) : rn (g * a) (g * b) = rn a b ∧ rd (g * a) (g * b) = rd a b := by
  by_cases hb : b = 0
  · subst hb
    unfold rn rd
    simp
  · have hgb : ¬ g * b = 0 := fun h => by
      rcases Int.mul_eq_zero.mp h with q | q
      · omega
      · exact hb q
    have e : (Int.gcd (g * a) (g * b) : Int) = g * (Int.gcd a b : Int) := by
      rw [Int.gcd_mul_left, Int.natCast_mul, Int.natAbs_of_nonneg (by omega)]
    unfold rn rd
    rw [if_neg hb, if_neg hgb, if_neg hb, if_neg hgb, e, Int.mul_ediv_mul_of_pos _ _ hg, Int.mul_ediv_mul_of_pos _ _ hg]
    exact ⟨rfl, rfl⟩
theorem ab_j {a : Int} (ha : -4611686018427387904 < a ∧ a < 4611686018427387904) : (if 0 < jL a then jL a else -jL a) = jL (a.natAbs : Nat) := by
  rw [show (0 : Int64) = jL 0 from rfl]
  by_cases h : 0 < a
  · rw [if_pos ((jL_lt (by omega) (by omega)).mpr h)]
    congr 1
    omega
  · rw [if_neg (fun q => h ((jL_lt (by omega) (by omega)).mp q)), jL_neg]
    congr 1
    omega
theorem bc_ok {a b : Int} (ha : -4611686018427387904 < a ∧ a < 4611686018427387904) (hb : 0 ≤ b ∧ b < 1099511627776) : f_X1_become (jL a) (jL b) = some (jL (rn a b), jL (rd a b)) := by
  obtain ⟨m, rfl⟩ : ∃ m : Nat, b = m := ⟨b.toNat, by omega⟩
  have hcd : f_X1_commonDivisor (jL (a.natAbs : Nat)) (jL m) = some (jL (Nat.gcd a.natAbs m : Nat)) := cd_loop 40 a.natAbs m 0 pa_fu (by omega) (by omega) (by decide) (by omega) (by omega)
  rw [f_X1_become, ab_j ha, hcd, b1]
  by_cases h : m = 0
  · subst h
    rw [if_pos ((cm_lt0 _ _).mpr (by decide))]
    rfl
  · have hm : (0 : Int) < m := by omega
    obtain ⟨g1, g2, g3, g4, g5, g6⟩ := rn_g (a := a) hm
    have e : ((Nat.gcd a.natAbs m : Nat) : Int) = (Int.gcd a m : Int) := by
      rw [Int.gcd, Int.natAbs_natCast]
    rw [e]
    have h1 : ¬ lg_cmp (jL m) 1 < 0 := fun q => by
      have q2 := (cm_lt0 _ _).mp q
      rw [show (1 : Int64) = jL 1 from rfl, jL_lt (by omega) (by omega)] at q2
      omega
    have h2 : 0 ≤ lg_cmp (jL (Int.gcd a m : Int)) 1 := (cm_ge0 _ _).mpr (by
      rw [show (1 : Int64) = jL 1 from rfl, jL_le (by omega) (by omega)]
      omega)
    have h3 : ¬ jL (Int.gcd a m : Int) = 0 := fun q => by
      rw [show (0 : Int64) = jL 0 from rfl, jL_eq (by omega) (by omega)] at q
      omega
    rw [if_neg h1, if_pos h2, if_neg h3, if_neg h3, jL_divx (by omega) (by omega) g3, jL_divx (by omega) (by omega) g4]
theorem gm_ok {a b : Int} (ha : -4611686018427387904 < a ∧ a < 4611686018427387904) (hb : 0 < b ∧ b < 1099511627776) : f_X10_gcd (jL a) (jL b) = some (jL (Int.gcd a b : Int)) := by
  obtain ⟨m, rfl⟩ : ∃ m : Nat, b = m := ⟨b.toNat, by omega⟩
  have hgm := gm_loop 40 a.natAbs m pa_fu (by omega) (by decide) (by omega) (by omega)
  have e : ((Nat.gcd a.natAbs m : Nat) : Int) = (Int.gcd a m : Int) := by
    rw [Int.gcd, Int.natAbs_natCast]
  rw [e] at hgm
  rw [f_X10_gcd]
  by_cases h : 0 ≤ a
  · rw [if_pos ((cm_ge0 _ _).mpr (by rw [show (0 : Int64) = jL 0 from rfl, jL_le (by omega) (by omega)]; exact h))]
    have e2 : (a.natAbs : Int) = a := by omega
    rw [e2] at hgm
    exact hgm
  · rw [if_neg (fun q => by
      have q2 := (cm_ge0 _ _).mp q
      rw [show (0 : Int64) = jL 0 from rfl, jL_le (by omega) (by omega)] at q2
      exact h q2), jL_neg]
    have e2 : (a.natAbs : Int) = -a := by omega
    rw [e2] at hgm
    exact hgm
theorem told_0 {a b : Int} (ha : -4611686018427387904 < a ∧ a < 4611686018427387904) (hb : 0 < b ∧ b < 1099511627776) : f_X10_told 0 (jL a) (jL b) = some (jL (rn a b)) := by
  obtain ⟨g1, g2, g3, g4, g5, g6⟩ := rn_g (a := a) hb.1
  have h3 : ¬ jL (Int.gcd a b : Int) = 0 := fun q => by
    rw [show (0 : Int64) = jL 0 from rfl, jL_eq (by omega) (by omega)] at q
    omega
  rw [f_X10_told, gm_ok ha hb, b1, if_pos rfl, if_neg h3, jL_divx (by omega) (by omega) g3]
theorem told_1 {a b : Int} (ha : -4611686018427387904 < a ∧ a < 4611686018427387904) (hb : 0 < b ∧ b < 1099511627776) : f_X10_told 1 (jL a) (jL b) = some (jL (rd a b)) := by
  obtain ⟨g1, g2, g3, g4, g5, g6⟩ := rn_g (a := a) hb.1
  have h3 : ¬ jL (Int.gcd a b : Int) = 0 := fun q => by
    rw [show (0 : Int64) = jL 0 from rfl, jL_eq (by omega) (by omega)] at q
    omega
  rw [f_X10_told, gm_ok ha hb, b1, if_neg (by decide), if_neg h3, jL_divx (by omega) (by omega) g4]
theorem th_1 {d : Int} (h : 0 < d ∧ d < 9223372036854775808) : f_X1_isThere (jL d) = some 1 := by
  rw [f_X1_isThere, if_neg (fun q => by
    have q2 := (cm_le0 _ _).mp q
    rw [show (0 : Int64) = jL 0 from rfl, jL_le (by omega) (by omega)] at q2
    omega)]
theorem th_0 : f_X1_isThere (jL 0) = some 0 := by
  rw [f_X1_isThere, if_pos ((cm_le0 _ _).mpr (by decide))]
theorem pt_0 {u d : Int} (h : 0 < d ∧ d < 9223372036854775808) : f_X1_part 0 (jL u) (jL d) = some (jL u) := by
  rw [f_X1_part, th_1 h, b1, if_neg (by decide), if_pos rfl]
theorem pt_1 {u d : Int} (h : 0 < d ∧ d < 9223372036854775808) : f_X1_part 1 (jL u) (jL d) = some (jL d) := by
  rw [f_X1_part, th_1 h, b1, if_neg (by decide), if_neg (by decide)]
theorem pt_no (x : Int32) (u : Int64) : f_X1_part x u (jL 0) = some (-1000000000000000000 : Int64) := by
  rw [f_X1_part, th_0, b1, if_pos rfl]
