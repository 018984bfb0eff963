/-! ===== ways, few, shadow ===== -/
theorem i10 {α : Type} (a b : α) : (if (1 : Int32) = 0 then a else b) = b := if_neg (by decide)
theorem i00 {α : Type} (a b : α) : (if (0 : Int32) = 0 then a else b) = a := if_pos rfl
theorem wi2_cases (v : Int32) {hi : Nat} (hh : hi < 2147483648) : (f_X9_within v 1 (nI hi) = some 1 ∧ ∃ k, 1 ≤ k ∧ k ≤ hi ∧ v = nI k) ∨ (f_X9_within v 1 (nI hi) = some 0) := by
  rcases wi_cases v 1 (nI hi) with ⟨h1, h2, h3⟩ | h
  · left
    have h2' : ¬ v < 0 := fun q => h2 (Int32.lt_trans q (by decide))
    obtain ⟨k, hk, rfl⟩ := wi_nat hh h2' h3
    refine ⟨h1, k, ?_, hk, rfl⟩
    rcases Nat.eq_zero_or_pos k with q | q
    · subst q
      exact absurd (by decide) h2
    · exact q
  · exact Or.inr h
theorem wi0_cases (v : Int32) {hi : Nat} (hh : hi < 2147483648) : (f_X9_within v 0 (nI hi) = some 1 ∧ ∃ k, k ≤ hi ∧ v = nI k) ∨ (f_X9_within v 0 (nI hi) = some 0) := by
  rcases wi_cases v 0 (nI hi) with ⟨h1, h2, h3⟩ | h
  · obtain ⟨k, hk, rfl⟩ := wi_nat hh h2 h3
    exact Or.inl ⟨h1, k, hk, rfl⟩
  · exact Or.inr h
/-- promise 12 -/
theorem st_ways {lt mt : Nat → Int64} (ht : TInv lt) (hm : MInv mt) (x1 x2 x3 x4 x5 : Int32) : ∃ a : Int64, f_X9_ways x1 x2 x3 x4 x5 lt = some a ∧ f_X10_ways x1 x2 x3 x4 x5 mt = some (a, 0) := by
  rw [f_X9_ways, f_X9_isLot, f_X10_ways, in_wi]
  rcases wi2_cases x1 (hi := 50) (by decide) with ⟨h1, n, hn1, hn2, rfl⟩ | h1
  · have h1' : f_X9_within (nI n) 1 50 = some 1 := h1
    simp only [h1', b1, i10]
    rcases wi0_cases x2 (hi := n) (by omega) with ⟨h2, c, hc, rfl⟩ | h2
    · simp only [h2, b1, i10]
      rcases wi2_cases x3 (hi := n) (by omega) with ⟨h3, k, hk1, hk2, rfl⟩ | h3
      · simp only [h3, b1, i10]
        rcases wi0_cases x4 (hi := 100) (by decide) with ⟨h4, d, hd, rfl⟩ | h4
        · have h4' : f_X9_within (nI d) 0 100 = some 1 := h4
          simp only [h4', b1, i10]
          rcases wi0_cases x5 (hi := 1) (by decide) with ⟨h5, w, hw, rfl⟩ | h5
          · have h5' : f_X9_within (nI w) 0 1 = some 1 := h5
            have hk3 : 1 ≤ k ∧ k ≤ 50 := by omega
            simp only [h5', b1, i10, ne_ok ht ⟨hn1, hn2⟩ hc hk3 hd, wo_ok hm ⟨hn1, hn2⟩ hc hk3 hd, cc_ok ht hn2 hk3.2, cm_ok hm hn2 hk3.2]
            by_cases hz : nI w = 0
            · exact ⟨_, by rw [if_pos hz], by rw [if_pos hz]⟩
            · exact ⟨_, by rw [if_neg hz], by rw [if_neg hz]⟩
          · have h5' : f_X9_within x5 0 1 = some 0 := h5
            simp only [h5', b1, i00]
            exact ⟨_, rfl, rfl⟩
        · have h4' : f_X9_within x4 0 100 = some 0 := h4
          simp only [h4', b1, i00]
          exact ⟨_, rfl, rfl⟩
      · simp only [h3, b1, i00]
        exact ⟨_, rfl, rfl⟩
    · simp only [h2, b1, i00]
      exact ⟨_, rfl, rfl⟩
  · have h1' : f_X9_within x1 1 50 = some 0 := h1
    simp only [h1', b1, i00]
    exact ⟨_, rfl, rfl⟩
theorem Jw_le {n c k y : Nat} (hn : n ≤ 50) (hc : c ≤ n) : Jw n c k y ≤ 2 ^ 50 := by
  have h1 := Nat.mul_le_mul (bi_le c y) (bi_le (n - c) (k - y))
  rw [← Nat.pow_add, show c + (n - c) = n by omega] at h1
  exact Nat.le_trans h1 (Nat.pow_le_pow_right (by decide) hn)
theorem bi50 {n k : Nat} (hn : n ≤ 50) : bi n k ≤ 2 ^ 50 := Nat.le_trans (bi_le n k) (Nat.pow_le_pow_right (by decide) hn)
theorem wsm_le {n c k d : Nat} (hn : n ≤ 50) (hc : c ≤ n) : ∀ m, wsm n c k d m ≤ m * 2 ^ 50 := by
  intro m
  induction m with
  | zero => exact Nat.zero_le _
  | succ m ih =>
    show wsm n c k d m + (if dst n c k m ≤ d then Jw n c k m else 0) ≤ _
    have h := Jw_le (k := k) (y := m) hn hc
    rw [Nat.succ_mul]
    generalize 2 ^ 50 = z at *
    split <;> omega
theorem wsm_ge {n c k d y : Nat} (h : dst n c k y ≤ d) : ∀ m, y < m → Jw n c k y ≤ wsm n c k d m := by
  intro m
  induction m with
  | zero => intro hm; omega
  | succ m ih =>
    intro hm
    show _ ≤ wsm n c k d m + (if dst n c k m ≤ d then Jw n c k m else 0)
    rcases Nat.lt_or_ge y m with q | q
    · have := ih q
      omega
    · have e : y = m := by omega
      subst e
      rw [if_pos h]
      omega
/-- whether so many ways are enough -/
def en (W B h : Nat) : Int32 := if W * 100 < B * h then 0 else 1
theorem en_c {W B h : Nat} (hW : W ≤ 51 * 2 ^ 50) (hB : B ≤ 2 ^ 50) (hh : h ≤ 100) : f_X5_isEnough (jL W) (jL B) (nI h) = some (en W B h) := by
  have h1 : B * h ≤ 2 ^ 50 * 100 := Nat.mul_le_mul hB hh
  rw [f_X5_isEnough, jI_n, jI_l (by omega), show (100 : Int64) = jL ((100 : Nat) : Int) from rfl, jLn_mul, jLn_mul, en]
  by_cases q : W * 100 < B * h
  · rw [if_pos q, if_pos ((cm_lt0 _ _).mpr ((jL_lt (by omega) (by omega)).mpr (by omega)))]
  · rw [if_neg q, if_neg (fun z => by have := (jL_lt (by omega) (by omega)).mp ((cm_lt0 _ _).mp z); omega)]
theorem su_ok {mt : Nat → Int64} (hm : MInv mt) {n c k d h : Nat} (hn : 1 ≤ n ∧ n ≤ 50) (hc : c ≤ n) (hk : 1 ≤ k ∧ k ≤ 50) (hd : d ≤ 100) (hh : h ≤ 100) : f_X10_isSure (nI n) (nI c) (nI k) (nI d) (nI h) mt = some (en (wsm n c k d (k + 1)) (bi n k) h) := by
  have hW := wsm_le (k := k) (d := d) hn.2 hc (k + 1)
  have hW2 : (k + 1) * 2 ^ 50 ≤ 51 * 2 ^ 50 := Nat.mul_le_mul_right _ (by omega)
  have h1 := en_c (h := h) (Nat.le_trans hW hW2) (bi50 (k := k) hn.2) hh
  rw [f_X5_isEnough] at h1
  rw [f_X10_isSure, wo_ok hm hn hc hk hd, b1, cm_ok hm hn.2 hk.2, b1, Int64.mul_comm 100, Int64.mul_comm (Int32.toInt64 (nI h))]
  exact h1
theorem en_full {n c d h : Nat} (hn : 1 ≤ n ∧ n ≤ 50) (hc : c ≤ n) (hh : h ≤ 100) : en (wsm n c n d (n + 1)) (bi n n) h = 1 := by
  have e0 : Dw n c n c = 0 := by
    unfold Dw
    omega
  have e1 : dst n c n c = 0 := by
    have h4 : 1 * 1 ≤ n * n := Nat.mul_le_mul hn.1 hn.1
    unfold dst
    rw [e0]
    exact Nat.div_eq_of_lt (by omega)
  have e2 : Jw n c n c = 1 := by
    unfold Jw
    rw [bi_self, bi_self]
  have h3 := wsm_ge (n := n) (c := c) (k := n) (d := d) (y := c) (by omega) (n + 1) (by omega)
  rw [en, if_neg (by rw [bi_self]; omega)]
theorem fe_loop {lt mt : Nat → Int64} (ht : TInv lt) (hm : MInv mt) {n c d h : Nat} (hn : 1 ≤ n ∧ n ≤ 50) (hc : c ≤ n) (hd : d ≤ 100) (hh : h ≤ 100) : ∀ (j f1 f2 k : Nat), k + j = n → 1 ≤ k → j < f1 → j < f2 → ∃ r : Int32, f_X5_fewest_L3 (nI n) (nI c) (nI d) (nI h) lt f1 (nI k) = some r ∧ f_X10_few_L50 (nI n) (nI c) (nI d) (nI h) 0 mt f2 (nI k) = some (r, 0) := by
  intro j
  induction j with
  | zero =>
    intro f1 f2 k hk h1 hf1 hf2
    obtain ⟨f1, rfl⟩ : ∃ q, f1 = q + 1 := ⟨f1 - 1, by omega⟩
    obtain ⟨f2, rfl⟩ : ∃ q, f2 = q + 1 := ⟨f2 - 1, by omega⟩
    have e : k = n := by omega
    subst e
    refine ⟨nI k, ?_, ?_⟩
    · show f_X5_fewest_L3_body (nI k) (nI c) (nI d) (nI h) lt (f_X5_fewest_L3 (nI k) (nI c) (nI d) (nI h) lt f1) (nI k) = _
      rw [f_X5_fewest_L3_body, if_pos (Int32.le_refl _)]
    · show f_X10_few_L50_body (nI k) (nI c) (nI d) (nI h) 0 mt (f_X10_few_L50 (nI k) (nI c) (nI d) (nI h) 0 mt f2) (nI k) = _
      rw [f_X10_few_L50_body, if_neg (Int32.lt_irrefl), su_ok hm hn hc hn hd hh, b1, en_full hn hc hh, if_neg (by decide)]
  | succ j ih =>
    intro f1 f2 k hk h1 hf1 hf2
    obtain ⟨f1, rfl⟩ : ∃ q, f1 = q + 1 := ⟨f1 - 1, by omega⟩
    obtain ⟨f2, rfl⟩ : ∃ q, f2 = q + 1 := ⟨f2 - 1, by omega⟩
    show ∃ r : Int32, f_X5_fewest_L3_body (nI n) (nI c) (nI d) (nI h) lt (f_X5_fewest_L3 (nI n) (nI c) (nI d) (nI h) lt f1) (nI k) = some r ∧ f_X10_few_L50_body (nI n) (nI c) (nI d) (nI h) 0 mt (f_X10_few_L50 (nI n) (nI c) (nI d) (nI h) 0 mt f2) (nI k) = some (r, 0)
    have hk2 : 1 ≤ k ∧ k ≤ 50 := by omega
    have hW := wsm_le (k := k) (d := d) hn.2 hc (k + 1)
    have hW2 : (k + 1) * 2 ^ 50 ≤ 51 * 2 ^ 50 := Nat.mul_le_mul_right _ (by omega)
    have hc1 : ¬ nI n ≤ nI k := fun q => by have := (nle_n (by omega) (by omega)).mp q; omega
    have hc2 : ¬ nI n < nI k := fun q => by have := (nlt_n (by omega) (by omega)).mp q; omega
    rw [f_X5_fewest_L3_body, if_neg hc1, f_X10_few_L50_body, if_neg hc2]
    simp only [ne_ok ht hn hc hk2 hd, b1, cc_ok ht hn.2 hk2.2, en_c (Nat.le_trans hW hW2) (bi50 hn.2) hh, su_ok hm hn hc hk2 hd hh, nI_1]
    by_cases hz : en (wsm n c k d (k + 1)) (bi n k) h = 0
    · rw [if_pos hz, if_pos hz]
      exact ih f1 f2 (k + 1) (by omega) (by omega) (by omega) (by omega)
    · rw [if_neg hz, if_neg hz]
      exact ⟨_, rfl, rfl⟩
/-- promise 13 -/
theorem st_few {lt mt : Nat → Int64} (ht : TInv lt) (hm : MInv mt) (x1 x2 x3 x4 : Int32) : ∃ a : Int32, f_X9_few x1 x2 x3 x4 lt = some a ∧ f_X10_few x1 x2 x3 x4 mt = some (a, 0) := by
  rw [f_X9_few, f_X9_isLot, f_X10_few, in_wi]
  rcases wi2_cases x1 (hi := 50) (by decide) with ⟨h1, n, hn1, hn2, rfl⟩ | h1
  · have h1' : f_X9_within (nI n) 1 50 = some 1 := h1
    simp only [h1', b1, i10]
    rcases wi0_cases x2 (hi := n) (by omega) with ⟨h2, c, hc, rfl⟩ | h2
    · simp only [h2, b1, i10]
      rcases wi0_cases x3 (hi := 100) (by decide) with ⟨h4, d, hd, rfl⟩ | h4
      · have h4' : f_X9_within (nI d) 0 100 = some 1 := h4
        simp only [h4', b1, i10]
        rcases wi2_cases x4 (hi := 100) (by decide) with ⟨h5, h, hh1, hh2, rfl⟩ | h5
        · have h5' : f_X9_within (nI h) 1 100 = some 1 := h5
          obtain ⟨r, q1, q2⟩ := fe_loop ht hm (c := c) (d := d) (h := h) ⟨hn1, hn2⟩ hc hd hh2 (n - 1) pa_fu pa_fu 1 (by omega) (by omega) (by have : pa_fu = 4096 := rfl; omega) (by have : pa_fu = 4096 := rfl; omega)
          have q1' : f_X5_fewest (nI n) (nI c) (nI d) (nI h) lt = some r := q1
          simp only [h5', b1, i10, q1']
          exact ⟨r, rfl, q2⟩
        · have h5' : f_X9_within x4 1 100 = some 0 := h5
          simp only [h5', b1, i00]
          exact ⟨_, rfl, rfl⟩
      · have h4' : f_X9_within x3 0 100 = some 0 := h4
        simp only [h4', b1, i00]
        exact ⟨_, rfl, rfl⟩
    · simp only [h2, b1, i00]
      exact ⟨_, rfl, rfl⟩
  · have h1' : f_X9_within x1 1 50 = some 0 := h1
    simp only [h1', b1, i00]
    exact ⟨_, rfl, rfl⟩
/-- promise 15 -/
theorem st_shadow {c r : Nat → Int} (hc : LInv c) (hr : RInv r) {lt mt : Nat → Int64} (ht : TInv lt) (hm : MInv mt) (x1 x2 x3 x4 : Int32) : ∃ a : Int64, f_X9_shadow x1 x2 x3 x4 (jF c) (jF r) lt = some a ∧ f_X10_shadow x1 x2 x3 x4 mt (jF c) (jF r) = some (a, 0) := by
  rw [f_X9_shadow, f_X10_shadow, in_wi]
  rcases il_cases x1 with ⟨h1, h1', l, hl, rfl⟩ | ⟨h1, h1'⟩
  · have k1 := bk_all hc hr hl
    have k2 := hc.all hl
    obtain ⟨n, hn⟩ : ∃ n : Nat, bA c r (8 * l) = n := ⟨(bA c r (8 * l)).toNat, by omega⟩
    obtain ⟨y, hy⟩ : ∃ y : Nat, bY c r (8 * l) = y := ⟨(bY c r (8 * l)).toNat, by omega⟩
    have ea := jI_n n
    have ey := jI_n y
    simp only [h1, h1', b1, i10, bc_A hc hr hl, bc_Y hc hr hl, bm_A hc hr hl, bm_Y hc hr hl, hn, hy, ← ea, ← ey]
    rcases wi2_cases x2 (hi := n) (by omega) with ⟨h3, k, hk1, hk2, rfl⟩ | h3
    · simp only [h3, b1, i10]
      rcases wi0_cases x3 (hi := 100) (by decide) with ⟨h4, d, hd, rfl⟩ | h4
      · have h4' : f_X9_within (nI d) 0 100 = some 1 := h4
        simp only [h4', b1, i10]
        rcases wi0_cases x4 (hi := 1) (by decide) with ⟨h5, w, hw, rfl⟩ | h5
        · have h5' : f_X9_within (nI w) 0 1 = some 1 := h5
          have hk3 : 1 ≤ k ∧ k ≤ 50 := by omega
          have hn3 : 1 ≤ n ∧ n ≤ 50 := by omega
          have hy3 : y ≤ n := by omega
          simp only [h5', b1, i10, ne_ok ht hn3 hy3 hk3 hd, wo_ok hm hn3 hy3 hk3 hd, cc_ok ht hn3.2 hk3.2, cm_ok hm hn3.2 hk3.2]
          by_cases hz : nI w = 0
          · exact ⟨_, by rw [if_pos hz], by rw [if_pos hz]⟩
          · exact ⟨_, by rw [if_neg hz], by rw [if_neg hz]⟩
        · have h5' : f_X9_within x4 0 1 = some 0 := h5
          simp only [h5', b1, i00]
          exact ⟨_, rfl, rfl⟩
      · have h4' : f_X9_within x3 0 100 = some 0 := h4
        simp only [h4', b1, i00]
        exact ⟨_, rfl, rfl⟩
    · simp only [h3, b1, i00]
      refine ⟨_, rfl, ?_⟩
      rcases wi_cases x3 0 100 with ⟨h4, -, -⟩ | h4
      · rcases wi_cases x4 0 1 with ⟨h5, -, -⟩ | h5
        · simp only [h4, b1, i10, h5, if_true]
        · simp only [h4, b1, i10, h5, i00, if_true]
      · simp only [h4, b1, i00, if_true]
  · simp only [h1, h1', b1, i00]
    exact ⟨_, rfl, rfl⟩
