/-! ===== lots: ways ===== -/
def bi : Nat → Nat → Nat
  | _, 0 => 1
  | 0, _ + 1 => 0
  | n + 1, k + 1 => bi n k + bi n (k + 1)
theorem bi_0 (n : Nat) : bi n 0 = 1 := by cases n <;> rfl
theorem bi_gt : ∀ (n k : Nat), n < k → bi n k = 0 := by
  intro n
  induction n with
  | zero =>
    intro k hk
    obtain ⟨k, rfl⟩ : ∃ q, k = q + 1 := ⟨k - 1, by omega⟩
    rfl
  | succ n ih =>
    intro k hk
    obtain ⟨k, rfl⟩ : ∃ q, k = q + 1 := ⟨k - 1, by omega⟩
    show bi n k + bi n (k + 1) = 0
    rw [ih k (by omega), ih (k + 1) (by omega)]
theorem bi_self : ∀ n : Nat, bi n n = 1 := by
  intro n
  induction n with
  | zero => rfl
  | succ n ih =>
    show bi n n + bi n (n + 1) = 1
    rw [ih, bi_gt n (n + 1) (by omega)]
theorem bi_le : ∀ (n k : Nat), bi n k ≤ 2 ^ n := by
  intro n
  induction n with
  | zero =>
    intro k
    cases k with
    | zero => exact Nat.le_refl 1
    | succ k => exact Nat.zero_le 1
  | succ n ih =>
    intro k
    cases k with
    | zero =>
      rw [bi_0]
      exact Nat.one_le_two_pow
    | succ k =>
      show bi n k + bi n (k + 1) ≤ 2 ^ (n + 1)
      have h1 := ih k
      have h2 := ih (k + 1)
      rw [Nat.pow_succ]
      omega
def TInv (lt : Nat → Int64) : Prop := ∀ n, n ≤ 50 → ∀ k, k ≤ n → lt (n * (n + 1) / 2 + k) = jL (bi n k : Nat)
def MInv (mt : Nat → Int64) : Prop := ∀ n, n ≤ 50 → ∀ k, k ≤ n → mt (51 * n + k) = jL (bi n k : Nat)
theorem jLn_add (a b : Nat) : jL (a : Int) + jL (b : Int) = jL ((a + b : Nat) : Int) := by
  rw [jL_add, Int.natCast_add]
theorem jLn_mul (a b : Nat) : jL (a : Int) * jL (b : Int) = jL ((a * b : Nat) : Int) := by
  rw [jL_mul, Int.natCast_mul]
theorem tri_ix {n k : Nat} (hn : n ≤ 50) (hk : k ≤ n) : nI n * (nI n + (1 : Int32)) / (2 : Int32) + nI k = nI (n * (n + 1) / 2 + k) ∧ n * (n + 1) / 2 + k < 1326 := by
  have h : n * (n + 1) ≤ 50 * 51 := Nat.mul_le_mul hn (by omega)
  constructor
  · rw [nI_1, pk_mul, show (2 : Int32) = nI 2 from rfl, pk_div (by omega) (by omega) (by omega), nI_add]
  · omega
theorem cc_ok {lt : Nat → Int64} (ht : TInv lt) {n k : Nat} (hn : n ≤ 50) (hk : k ≤ 50) : f_X5_choose (nI n) (nI k) lt = some (jL (bi n k : Nat)) := by
  have h1 : f_X9_within (nI n) 0 50 = some 1 := wi_t (nI_pos (by omega)) (fun q => by have := (nlt_n (a := 50) (by omega) (by omega)).mp q; omega)
  by_cases h : k ≤ n
  · have h2 : f_X9_within (nI k) 0 (nI n) = some 1 := wi_t (nI_pos (by omega)) (fun q => by have := (nlt_n (by omega) (by omega)).mp q; omega)
    obtain ⟨e1, e2⟩ := tri_ix hn h
    rw [f_X5_choose, h1, b1, if_neg (by decide), h2, b1, if_neg (by decide), e1, if_pos (ib_n e2 (by decide)), cl_n (by omega), ht n hn k h]
  · have h2 : f_X9_within (nI k) 0 (nI n) = some 0 := by
      rw [f_X9_within, if_neg (nI_pos (by omega)), if_pos ((nlt_n (by omega) (by omega)).mpr (by omega))]
    rw [f_X5_choose, h1, b1, if_neg (by decide), h2, b1, if_pos rfl, bi_gt n k (by omega)]
    rfl
theorem cm_ok {mt : Nat → Int64} (hm : MInv mt) {n k : Nat} (hn : n ≤ 50) (hk : k ≤ 50) : f_X10_choose (nI n) (nI k) mt = some (jL (bi n k : Nat)) := by
  have e : (51 : Int32) * nI n + nI k = nI (51 * n + k) := by
    rw [show (51 : Int32) = nI 51 from rfl, pk_mul, nI_add]
  rw [f_X10_choose, if_neg (nI_pos (by omega))]
  by_cases h : k ≤ n
  · rw [if_pos ((nle_n (by omega) (by omega)).mpr h), e, if_pos (ib_n (by omega) (by decide)), cl_n (by omega), hm n hn k h]
  · rw [if_neg (fun q => h ((nle_n (by omega) (by omega)).mp q)), bi_gt n k (by omega)]
    rfl
def Jw (n c k y : Nat) : Nat := bi c y * bi (n - c) (k - y)
theorem nsub {a b : Nat} (h : b ≤ a) : nI a - nI b = nI (a - b) := pk_sub h
theorem ju_ok {lt : Nat → Int64} (ht : TInv lt) {n c k y : Nat} (hn : n ≤ 50) (hc : c ≤ n) (hk : k ≤ 50) (hy : y ≤ k) : f_X5_just (nI n) (nI c) (nI k) (nI y) lt = some (jL (Jw n c k y : Nat)) := by
  rw [f_X5_just, cc_ok ht (by omega) (by omega), b1, nsub hc, nsub hy, cc_ok ht (by omega) (by omega), b1, jLn_mul]
  rfl
theorem dist_g {a b : Nat} (ha : a ≤ 1000000) (hb : b ≤ 1000000) : (0 ≤ nI a - nI b → nI a - nI b = nI (a - b + (b - a))) ∧ (¬ 0 ≤ nI a - nI b → -(nI a - nI b) = nI (a - b + (b - a)) ∧ 0 - (nI a - nI b) = nI (a - b + (b - a))) := by
  have e : nI a - nI b = jI ((a : Int) - b) := by rw [jI_n, jI_n, jI_sub]
  rw [e, show (0 : Int32) = jI 0 from rfl, jI_le (by omega) (by omega)]
  refine ⟨fun h => ?_, fun h => ?_⟩
  · rw [jI_n]
    congr 1
    omega
  · rw [jI_neg, jI_sub, jI_n]
    refine ⟨?_, ?_⟩
    · congr 1
      omega
    · congr 1
      omega
/-- how far y by k is from c by n, over n k -/
def Dw (n c k y : Nat) : Nat := y * n - c * k + (c * k - y * n)
def dst (n c k y : Nat) : Nat := (Dw n c k y * 100 + n * k - 1) / (n * k)
theorem Dw_bd {n c k y : Nat} (hn : 1 ≤ n ∧ n ≤ 50) (hc : c ≤ n) (hk : 1 ≤ k ∧ k ≤ 50) (hy : y ≤ k) : Dw n c k y ≤ n * k ∧ 1 ≤ n * k ∧ n * k ≤ 2500 ∧ y * n ≤ 2500 ∧ c * k ≤ 2500 := by
  have h1 : y * n ≤ k * n := Nat.mul_le_mul_right n hy
  have h2 : c * k ≤ n * k := Nat.mul_le_mul_right k hc
  have h3 : n * k ≤ 50 * 50 := Nat.mul_le_mul hn.2 hk.2
  have h4 : 1 * 1 ≤ n * k := Nat.mul_le_mul hn.1 hk.1
  rw [Nat.mul_comm k n] at h1
  unfold Dw
  omega
theorem dst_bd {n c k y : Nat} (hn : 1 ≤ n ∧ n ≤ 50) (hc : c ≤ n) (hk : 1 ≤ k ∧ k ≤ 50) (hy : y ≤ k) : dst n c k y ≤ 100 := by
  have h := Dw_bd hn hc hk hy
  have : dst n c k y < 101 := (Nat.div_lt_iff_lt_mul (by omega)).mpr (by omega)
  omega
theorem dst_iff {n c k y d : Nat} (hn : 1 ≤ n ∧ n ≤ 50) (hc : c ≤ n) (hk : 1 ≤ k ∧ k ≤ 50) (hy : y ≤ k) : dst n c k y ≤ d ↔ 100 * Dw n c k y ≤ d * (n * k) := by
  have h := Dw_bd hn hc hk hy
  have h2 : dst n c k y < d + 1 ↔ Dw n c k y * 100 + n * k - 1 < (d + 1) * (n * k) := Nat.div_lt_iff_lt_mul (by omega)
  rw [Nat.add_mul, Nat.one_mul] at h2
  constructor
  · intro q
    have := h2.mp (by omega)
    omega
  · intro q
    have := h2.mpr (by omega)
    omega
theorem di_ok {n c k y : Nat} (hn : 1 ≤ n ∧ n ≤ 50) (hc : c ≤ n) (hk : 1 ≤ k ∧ k ≤ 50) (hy : y ≤ k) : f_X5_distance (nI n) (nI c) (nI k) (nI y) = some (nI (dst n c k y)) := by
  have h := Dw_bd hn hc hk hy
  have hb := dst_bd hn hc hk hy
  have hd := dist_g (a := y * n) (b := c * k) (by omega) (by omega)
  have e0 : (if 0 ≤ (nI (y * n) - nI (c * k)) then (nI (y * n) - nI (c * k)) else 0 - (nI (y * n) - nI (c * k))) = nI (Dw n c k y) := by
    by_cases hs : 0 ≤ nI (y * n) - nI (c * k)
    · rw [if_pos hs, hd.1 hs]
      rfl
    · rw [if_neg hs, (hd.2 hs).2]
      rfl
  have e1 : nI (Dw n c k y) * (100 : Int32) + nI (n * k) - (1 : Int32) = nI (Dw n c k y * 100 + n * k - 1) := by
    rw [show (100 : Int32) = nI 100 from rfl, pk_mul, nI_add, show (1 : Int32) = nI 1 from rfl, nsub (by omega)]
  rw [f_X5_distance, pk_mul, pk_mul, pk_mul, if_pos (show (1 : Int32) ≤ nI (n * k) from (nle_n (a := 1) (by omega) (by omega)).mpr (by omega)), if_neg (fun q => by have := (nI_eq (b := 0) (by omega) (by omega)).mp q; omega), e0, e1, pk_div (by omega) (by omega) (by omega)]
  show some (if nI (dst n c k y) < (100 : Int32) then nI (dst n c k y) else (100 : Int32)) = _
  by_cases hl : dst n c k y < 100
  · rw [if_pos (show nI (dst n c k y) < (100 : Int32) from (nlt_n (b := 100) (by omega) (by omega)).mpr hl)]
  · rw [if_neg (show ¬ nI (dst n c k y) < (100 : Int32) from fun q => hl ((nlt_n (b := 100) (by omega) (by omega)).mp q)), show dst n c k y = 100 by omega]
    rfl
/-- ways, summed over those of yes who are drawn -/
def wsm (n c k d : Nat) : Nat → Nat
  | 0 => 0
  | y + 1 => wsm n c k d y + (if dst n c k y ≤ d then Jw n c k y else 0)
theorem ne_loop {lt : Nat → Int64} (ht : TInv lt) {n c k d : Nat} (hn : 1 ≤ n ∧ n ≤ 50) (hc : c ≤ n) (hk : 1 ≤ k ∧ k ≤ 50) (hd : d ≤ 100) : ∀ (j f y : Nat), y + j = k + 1 → j < f → f_X5_near_L6 (nI n) (nI c) (nI k) (nI d) lt f (jL (wsm n c k d y : Nat)) (nI y) = some (jL (wsm n c k d (k + 1) : Nat)) := by
  intro j
  induction j with
  | zero =>
    intro f y hy hf
    obtain ⟨f, rfl⟩ : ∃ q, f = q + 1 := ⟨f - 1, by omega⟩
    have e : y = k + 1 := by omega
    subst e
    show f_X5_near_L6_body (nI n) (nI c) (nI k) (nI d) lt (f_X5_near_L6 (nI n) (nI c) (nI k) (nI d) lt f) (jL (wsm n c k d (k + 1) : Nat)) (nI (k + 1)) = _
    rw [f_X5_near_L6_body, if_pos ((nlt_n (by omega) (by omega)).mpr (by omega))]
  | succ j ih =>
    intro f y hy hf
    obtain ⟨f, rfl⟩ : ∃ q, f = q + 1 := ⟨f - 1, by omega⟩
    show f_X5_near_L6_body (nI n) (nI c) (nI k) (nI d) lt (f_X5_near_L6 (nI n) (nI c) (nI k) (nI d) lt f) (jL (wsm n c k d y : Nat)) (nI y) = _
    have hb := dst_bd hn hc hk (by omega : y ≤ k)
    rw [f_X5_near_L6_body, if_neg (fun q => by have := (nlt_n (by omega) (by omega)).mp q; omega), di_ok hn hc hk (by omega), b1, nI_1, ju_ok ht hn.2 hc hk.2 (by omega), b1, jLn_add]
    have := ih f (y + 1) (by omega) (by omega)
    by_cases h : dst n c k y ≤ d
    · rw [if_neg (fun q => by have := (nlt_n (by omega) (by omega)).mp q; omega), ← this]
      show _ = f_X5_near_L6 (nI n) (nI c) (nI k) (nI d) lt f (jL ((wsm n c k d y + (if dst n c k y ≤ d then Jw n c k y else 0) : Nat) : Int)) (nI (y + 1))
      rw [if_pos h]
    · rw [if_pos ((nlt_n (by omega) (by omega)).mpr (by omega)), ← this]
      show _ = f_X5_near_L6 (nI n) (nI c) (nI k) (nI d) lt f (jL ((wsm n c k d y + (if dst n c k y ≤ d then Jw n c k y else 0) : Nat) : Int)) (nI (y + 1))
      rw [if_neg h]
      rfl
theorem ne_ok {lt : Nat → Int64} (ht : TInv lt) {n c k d : Nat} (hn : 1 ≤ n ∧ n ≤ 50) (hc : c ≤ n) (hk : 1 ≤ k ∧ k ≤ 50) (hd : d ≤ 100) : f_X5_near (nI n) (nI c) (nI k) (nI d) lt = some (jL (wsm n c k d (k + 1) : Nat)) :=
  ne_loop ht hn hc hk hd (k + 1) pa_fu 0 (by omega) (by have : pa_fu = 4096 := rfl; omega)
theorem wo_loop {mt : Nat → Int64} (hm : MInv mt) {n c k d : Nat} (hn : 1 ≤ n ∧ n ≤ 50) (hc : c ≤ n) (hk : 1 ≤ k ∧ k ≤ 50) (hd : d ≤ 100) : ∀ (j f y : Nat), y + j = k + 1 → j < f → f_X10_waysOf_L6 (nI n) (nI c) (nI k) (nI d) mt f (jL (wsm n c k d y : Nat)) (nI y) = some (jL (wsm n c k d (k + 1) : Nat)) := by
  intro j
  induction j with
  | zero =>
    intro f y hy hf
    obtain ⟨f, rfl⟩ : ∃ q, f = q + 1 := ⟨f - 1, by omega⟩
    have e : y = k + 1 := by omega
    subst e
    show f_X10_waysOf_L6_body (nI n) (nI c) (nI k) (nI d) mt (f_X10_waysOf_L6 (nI n) (nI c) (nI k) (nI d) mt f) (jL (wsm n c k d (k + 1) : Nat)) (nI (k + 1)) = _
    rw [f_X10_waysOf_L6_body, if_pos ((nlt_n (by omega) (by omega)).mpr (by omega))]
  | succ j ih =>
    intro f y hy hf
    obtain ⟨f, rfl⟩ : ∃ q, f = q + 1 := ⟨f - 1, by omega⟩
    show f_X10_waysOf_L6_body (nI n) (nI c) (nI k) (nI d) mt (f_X10_waysOf_L6 (nI n) (nI c) (nI k) (nI d) mt f) (jL (wsm n c k d y : Nat)) (nI y) = _
    have hy' : y ≤ k := by omega
    have h := Dw_bd hn hc hk hy'
    have hdg := dist_g (a := y * n) (b := c * k) (by omega) (by omega)
    have hdk : d * (n * k) ≤ 100 * 2500 := Nat.mul_le_mul hd h.2.2.1
    have ih1 := ih f (y + 1) (by omega) (by omega)
    have key : f_X10_waysOf_b35 (f_X10_waysOf_L6 (nI n) (nI c) (nI k) (nI d) mt f) (nI n) (nI c) (nI k) (nI d) (jL (wsm n c k d y : Nat)) (nI y) (nI (Dw n c k y)) mt = some (jL (wsm n c k d (k + 1) : Nat)) := by
      rw [f_X10_waysOf_b35, pk_mul, pk_mul, Nat.mul_assoc, show (100 : Int32) = nI 100 from rfl, pk_mul, nI_1, cm_ok hm (by omega) (by omega), b1, nsub hc, nsub hy', cm_ok hm (by omega) (by omega), b1, jLn_mul, jLn_add, Int64.add_zero, ← ih1]
      show _ = f_X10_waysOf_L6 (nI n) (nI c) (nI k) (nI d) mt f (jL ((wsm n c k d y + (if dst n c k y ≤ d then Jw n c k y else 0) : Nat) : Int)) (nI (y + 1))
      by_cases hq : dst n c k y ≤ d
      · have h2 := (dst_iff hn hc hk hy').mp hq
        rw [if_pos hq, if_neg (fun q => by have := (nlt_n (by omega) (by omega)).mp q; omega)]
        rfl
      · have h2 : ¬ 100 * Dw n c k y ≤ d * (n * k) := fun q => hq ((dst_iff hn hc hk hy').mpr q)
        rw [if_neg hq, if_pos ((nlt_n (by omega) (by omega)).mpr (by omega))]
        rfl
    rw [f_X10_waysOf_L6_body, if_neg (fun q => by have := (nlt_n (by omega) (by omega)).mp q; omega), pk_mul, pk_mul]
    by_cases hs : 0 ≤ nI (y * n) - nI (c * k)
    · rw [if_pos hs, hdg.1 hs]
      exact key
    · rw [if_neg hs, (hdg.2 hs).1]
      exact key
theorem wo_ok {mt : Nat → Int64} (hm : MInv mt) {n c k d : Nat} (hn : 1 ≤ n ∧ n ≤ 50) (hc : c ≤ n) (hk : 1 ≤ k ∧ k ≤ 50) (hd : d ≤ 100) : f_X10_waysOf (nI n) (nI c) (nI k) (nI d) mt = some (jL (wsm n c k d (k + 1) : Nat)) :=
  wo_loop hm hn hc hk hd (k + 1) pa_fu 0 (by omega) (by have : pa_fu = 4096 := rfl; omega)
