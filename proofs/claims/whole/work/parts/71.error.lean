/-! ===== mistakes: all ways are the ways of each number ===== -/
def vsm (c q k : Nat) : Nat → Nat
  | 0 => 0
  | m + 1 => vsm c q k m + bi c m * bi q (k - m)
theorem vsm_s (c q k : Nat) : ∀ m, vsm (c + 1) q (k + 1) (m + 1) = vsm c q (k + 1) (m + 1) + vsm c q k m := by
  intro m
  induction m with
  | zero =>
    show 0 + bi (c + 1) 0 * bi q (k + 1 - 0) = 0 + bi c 0 * bi q (k + 1 - 0) + 0
    rw [bi_0, bi_0]
    rfl
  | succ m ih =>
    show vsm (c + 1) q (k + 1) (m + 1) + bi (c + 1) (m + 1) * bi q (k + 1 - (m + 1)) = vsm c q (k + 1) (m + 1) + bi c (m + 1) * bi q (k + 1 - (m + 1)) + (vsm c q k m + bi c m * bi q (k - m))
    rw [ih, show bi (c + 1) (m + 1) = bi c m + bi c (m + 1) from rfl, Nat.add_sub_add_right, Nat.add_mul]
    omega
theorem vsm_0 (q k : Nat) : ∀ m, vsm 0 q k (m + 1) = bi q k := by
  intro m
  induction m with
  | zero =>
    show 0 + bi 0 0 * bi q (k - 0) = bi q k
    rw [bi_0, Nat.sub_zero]
    omega
  | succ m ih =>
    show vsm 0 q k (m + 1) + bi 0 (m + 1) * bi q (k - (m + 1)) = bi q k
    rw [ih, show bi 0 (m + 1) = 0 from rfl]
    omega
theorem vsm_ok (q : Nat) : ∀ c k, vsm c q k (k + 1) = bi (c + q) k := by
  intro c
  induction c with
  | zero =>
    intro k
    rw [vsm_0, Nat.zero_add]
  | succ c ih =>
    intro k
    cases k with
    | zero =>
      show 0 + bi (c + 1) 0 * bi q 0 = bi (c + 1 + q) 0
      rw [bi_0, bi_0, bi_0]
    | succ k =>
      rw [vsm_s, ih, ih, show c + 1 + q = (c + q) + 1 by omega]
      show _ = bi (c + q) k + bi (c + q) (k + 1)
      omega
theorem wsm_100 {n c k : Nat} (hn : 1 ≤ n ∧ n ≤ 50) (hc : c ≤ n) (hk : 1 ≤ k ∧ k ≤ 50) : ∀ m, m ≤ k + 1 → wsm n c k 100 m = vsm c (n - c) k m := by
  intro m
  induction m with
  | zero => intro _; rfl
  | succ m ih =>
    intro hm
    show wsm n c k 100 m + (if dst n c k m ≤ 100 then Jw n c k m else 0) = vsm c (n - c) k m + bi c m * bi (n - c) (k - m)
    rw [ih (by omega), if_pos (dst_bd hn hc hk (by omega))]
    rfl
theorem en_100 {n c k h : Nat} (hn : 1 ≤ n ∧ n ≤ 50) (hc : c ≤ n) (hk : 1 ≤ k ∧ k ≤ 50) (hh : h ≤ 100) : en (wsm n c k 100 (k + 1)) (bi n k) h = 1 := by
  rw [wsm_100 hn hc hk (k + 1) (by omega), vsm_ok, show c + (n - c) = n by omega, en]
  have : bi n k * h ≤ bi n k * 100 := Nat.mul_le_mul_left _ hh
  rw [if_neg (by omega)]
/-- ways, by how far off -/
def bks (n c k d : Nat) : Nat → Nat
  | 0 => 0
  | y + 1 => bks n c k d y + (if dst n c k y = d then Jw n c k y else 0)
theorem bks_0 (n c k : Nat) : ∀ m, wsm n c k 0 m = bks n c k 0 m := by
  intro m
  induction m with
  | zero => rfl
  | succ m ih =>
    show wsm n c k 0 m + (if dst n c k m ≤ 0 then Jw n c k m else 0) = bks n c k 0 m + (if dst n c k m = 0 then Jw n c k m else 0)
    rw [ih]
    by_cases h : dst n c k m = 0
    · rw [if_pos h, if_pos (by omega)]
    · rw [if_neg h, if_neg (by omega)]
theorem bks_s (n c k d : Nat) : ∀ m, wsm n c k (d + 1) m = wsm n c k d m + bks n c k (d + 1) m := by
  intro m
  induction m with
  | zero => rfl
  | succ m ih =>
    show wsm n c k (d + 1) m + (if dst n c k m ≤ d + 1 then Jw n c k m else 0) = wsm n c k d m + (if dst n c k m ≤ d then Jw n c k m else 0) + (bks n c k (d + 1) m + (if dst n c k m = d + 1 then Jw n c k m else 0))
    rw [ih]
    by_cases h : dst n c k m ≤ d
    · rw [if_pos h, if_pos (by omega), if_neg (by omega)]
      omega
    · rw [if_neg h]
      by_cases h2 : dst n c k m = d + 1
      · rw [if_pos h2, if_pos (by omega)]
        omega
      · rw [if_neg h2, if_neg (by omega)]
        omega
def wpr (n c k : Nat) : Nat → Nat
  | 0 => 0
  | d + 1 => wsm n c k d (k + 1)
theorem wpr_s (n c k d : Nat) : wpr n c k d + bks n c k d (k + 1) = wsm n c k d (k + 1) := by
  cases d with
  | zero =>
    show 0 + bks n c k 0 (k + 1) = _
    rw [bks_0]
    omega
  | succ d =>
    show wsm n c k d (k + 1) + _ = _
    rw [bks_s]
theorem ld_loop {lt : Nat → Int64} (ht : TInv lt) {n c k h : Nat} (hn : 1 ≤ n ∧ n ≤ 50) (hc : c ≤ n) (hk : 1 ≤ k ∧ k ≤ 50) : ∀ (j f y : Nat) (lw : Nat → Int64), y + j = k + 1 → j < f → (∀ d, d < 101 → lw d = jL (bks n c k d y : Nat)) → ∃ lw' : Nat → Int64, (∀ d, d < 101 → lw' d = jL (bks n c k d (k + 1) : Nat)) ∧ f_X5_leastDistance_L11 (nI n) (nI c) (nI k) (nI h) lt f (nI y) lw = f_X5_leastDistance_L62 (nI h) (jL (bi n k : Nat)) lw' pa_fu 0 0 := by
  intro j
  induction j with
  | zero =>
    intro f y lw hy hf hw
    obtain ⟨f, rfl⟩ : ∃ q, f = q + 1 := ⟨f - 1, by omega⟩
    have e : y = k + 1 := by omega
    subst e
    refine ⟨lw, hw, ?_⟩
    show f_X5_leastDistance_L11_body (nI n) (nI c) (nI k) (nI h) lt (f_X5_leastDistance_L11 (nI n) (nI c) (nI k) (nI h) lt f) (nI (k + 1)) lw = _
    rw [f_X5_leastDistance_L11_body, if_pos ((nlt_n (by omega) (by omega)).mpr (by omega)), cc_ok ht hn.2 hk.2, b1]
  | succ j ih =>
    intro f y lw hy hf hw
    obtain ⟨f, rfl⟩ : ∃ q, f = q + 1 := ⟨f - 1, by omega⟩
    have hb := dst_bd hn hc hk (by omega : y ≤ k)
    obtain ⟨lw', h1, h2⟩ := ih f (y + 1) (vp_updL lw (dst n c k y) (jL (bks n c k (dst n c k y) y : Nat) + jL (Jw n c k y : Nat))) (by omega) (by omega) (by
      intro d hd
      show _ = jL ((bks n c k d y + (if dst n c k y = d then Jw n c k y else 0) : Nat) : Int)
      by_cases q : d = dst n c k y
      · subst q
        rw [pk_uLs, if_pos rfl, jLn_add]
      · rw [pk_uLn q, if_neg (fun z => q z.symm), hw d hd]
        rfl)
    refine ⟨lw', h1, ?_⟩
    rw [← h2]
    show f_X5_leastDistance_L11_body (nI n) (nI c) (nI k) (nI h) lt (f_X5_leastDistance_L11 (nI n) (nI c) (nI k) (nI h) lt f) (nI y) lw = _
    rw [f_X5_leastDistance_L11_body, if_neg (fun q => by have := (nlt_n (by omega) (by omega)).mp q; omega), di_ok hn hc hk (by omega), b1, if_pos (ib_n (by omega) (by decide)), ju_ok ht hn.2 hc hk.2 (by omega), b1, cl_n (by omega), nI_1, hw _ (by omega)]
theorem le_loop {mt : Nat → Int64} (hm : MInv mt) {l n c k h : Nat} {ml : Nat → Int32} {mu md : Int64} (hp : f_X10_persons (nI l) 170 ml = some (nI c)) (hn : 1 ≤ n ∧ n ≤ 50) (hc : c ≤ n) (hk : 1 ≤ k ∧ k ≤ 50) (hh : h ≤ 100) {lw : Nat → Int64} (hw : ∀ d, d < 101 → lw d = jL (bks n c k d (k + 1) : Nat)) : ∀ (j f1 f2 d : Nat), d + j = 100 → j < f1 → j < f2 → ∃ e, e ≤ 100 ∧ f_X5_leastDistance_L62 (nI h) (jL (bi n k : Nat)) lw f1 (jL (wpr n c k d : Nat)) (nI d) = some (nI e, lw) ∧ f_X10_errorOf_L70 (nI l) (nI k) (nI n) (nI h) mu md mt ml f2 (nI d) = some (nI e, mu, md) := by
  intro j
  induction j with
  | zero =>
    intro f1 f2 d hd hf1 hf2
    obtain ⟨f1, rfl⟩ : ∃ q, f1 = q + 1 := ⟨f1 - 1, by omega⟩
    obtain ⟨f2, rfl⟩ : ∃ q, f2 = q + 1 := ⟨f2 - 1, by omega⟩
    have e : d = 100 := by omega
    subst e
    refine ⟨100, by omega, ?_, ?_⟩
    · show f_X5_leastDistance_L62_body (nI h) (jL (bi n k : Nat)) lw (f_X5_leastDistance_L62 (nI h) (jL (bi n k : Nat)) lw f1) (jL (wpr n c k 100 : Nat)) (nI 100) = _
      rw [f_X5_leastDistance_L62_body, if_pos (by decide)]
      rfl
    · show f_X10_errorOf_L70_body (nI l) (nI k) (nI n) (nI h) mu md mt ml (f_X10_errorOf_L70 (nI l) (nI k) (nI n) (nI h) mu md mt ml f2) (nI 100) = _
      rw [f_X10_errorOf_L70_body, hp, b1, su_ok hm hn hc hk (by omega) hh, b1, en_100 hn hc hk hh, if_neg (by decide)]
  | succ j ih =>
    intro f1 f2 d hd hf1 hf2
    obtain ⟨f1, rfl⟩ : ∃ q, f1 = q + 1 := ⟨f1 - 1, by omega⟩
    obtain ⟨f2, rfl⟩ : ∃ q, f2 = q + 1 := ⟨f2 - 1, by omega⟩
    have hW := wsm_le (k := k) (d := d) hn.2 hc (k + 1)
    have hW2 : (k + 1) * 2 ^ 50 ≤ 51 * 2 ^ 50 := Nat.mul_le_mul_right _ (by omega)
    have e1 : f_X5_leastDistance_L62 (nI h) (jL (bi n k : Nat)) lw (f1 + 1) (jL (wpr n c k d : Nat)) (nI d) = if en (wsm n c k d (k + 1)) (bi n k) h = 0 then f_X5_leastDistance_L62 (nI h) (jL (bi n k : Nat)) lw f1 (jL (wpr n c k (d + 1) : Nat)) (nI (d + 1)) else some (nI d, lw) := by
      show f_X5_leastDistance_L62_body (nI h) (jL (bi n k : Nat)) lw (f_X5_leastDistance_L62 (nI h) (jL (bi n k : Nat)) lw f1) (jL (wpr n c k d : Nat)) (nI d) = _
      rw [f_X5_leastDistance_L62_body, if_neg (fun q => by have := (nle_n (a := 100) (by omega) (by omega)).mp q; omega), if_pos (ib_n (by omega) (by decide)), cl_n (by omega), hw d (by omega), jLn_add, wpr_s, en_c (Nat.le_trans hW hW2) (bi50 hn.2) hh, b1, nI_1]
      rfl
    have e2 : f_X10_errorOf_L70 (nI l) (nI k) (nI n) (nI h) mu md mt ml (f2 + 1) (nI d) = if en (wsm n c k d (k + 1)) (bi n k) h = 0 then f_X10_errorOf_L70 (nI l) (nI k) (nI n) (nI h) mu md mt ml f2 (nI (d + 1)) else some (nI d, mu, md) := by
      show f_X10_errorOf_L70_body (nI l) (nI k) (nI n) (nI h) mu md mt ml (f_X10_errorOf_L70 (nI l) (nI k) (nI n) (nI h) mu md mt ml f2) (nI d) = _
      rw [f_X10_errorOf_L70_body, hp, b1, su_ok hm hn hc hk (by omega) hh, b1, nI_1]
    rw [e1, e2]
    by_cases hz : en (wsm n c k d (k + 1)) (bi n k) h = 0
    · rw [if_pos hz, if_pos hz]
      exact ih f1 f2 (d + 1) (by omega) (by omega) (by omega)
    · rw [if_neg hz, if_neg hz]
      exact ⟨d, by omega, rfl, rfl⟩
theorem cdv {a b t : Nat} (hb : 0 < b) : (a + b - 1) / b ≤ t ↔ a ≤ t * b := by
  have h2 : (a + b - 1) / b < t + 1 ↔ a + b - 1 < (t + 1) * b := Nat.div_lt_iff_lt_mul hb
  rw [Nat.add_mul, Nat.one_mul] at h2
  constructor
  · intro q
    have := h2.mp (by omega)
    omega
  · intro q
    have := h2.mpr (by omega)
    omega
theorem cdv_sc {a b g : Nat} (hb : 0 < b) (hg : 0 < g) : (g * a + g * b - 1) / (g * b) = (a + b - 1) / b := by
  have hgb : 0 < g * b := Nat.mul_pos hg hb
  have key : ∀ t, g * a ≤ t * (g * b) ↔ a ≤ t * b := by
    intro t
    rw [show t * (g * b) = g * (t * b) by rw [Nat.mul_left_comm]]
    exact Nat.mul_le_mul_left_iff hg
  apply Nat.le_antisymm
  · rw [cdv hgb, key, ← cdv hb]
    exact Nat.le_refl _
  · rw [cdv hb, ← key, ← cdv hgb]
    exact Nat.le_refl _
/-- so many hundredths, rounded up -/
def hup (U D : Int) : Nat := (U.natAbs * 100 + D.toNat - 1) / D.toNat
theorem hup_rn {U D : Int} (hD : 0 < D) : hup (rn U D) (rd U D) = hup U D := by
  obtain ⟨g1, g2, g3, g4, g5, g6⟩ := rn_g (a := U) hD
  obtain ⟨g, hg⟩ : ∃ g : Nat, (Int.gcd U D : Int) = g := ⟨_, rfl⟩
  rw [hg] at g1 g2 g3 g4
  have e1 : U.natAbs = g * (rn U D).natAbs := by
    have := congrArg Int.natAbs g3
    rw [Int.natAbs_mul, Int.natAbs_natCast] at this
    exact this
  have e2 : D.toNat = g * (rd U D).toNat := by
    have : D.toNat = ((g : Int) * rd U D).toNat := by rw [← g4]
    rw [this, Int.toNat_mul (by omega) (by omega), Int.toNat_natCast]
  unfold hup
  rw [e1, e2, Nat.mul_assoc, cdv_sc (by omega) (by omega)]
theorem hup_bd {U D : Int} (hU : -2500 ≤ U ∧ U ≤ 2500) (hD : 0 < D ∧ D ≤ 2500) : hup U D ≤ 252500 := by
  unfold hup
  have := Nat.div_le_self (U.natAbs * 100 + D.toNat - 1) D.toNat
  omega
theorem hup_c {U D : Int} (hU : -2500 ≤ U ∧ U ≤ 2500) (hD : 0 < D ∧ D ≤ 2500) : f_X1_hundredthsUp (jL U) (jL D) = some (nI (hup U D)) := by
  rw [f_X1_hundredthsUp, th_1 (by omega), b1, if_neg (by decide), if_neg (fun q => by
    rw [show (0 : Int64) = jL 0 from rfl, jL_eq (by omega) (by omega)] at q
    omega), ab_j (by omega), show (100 : Int64) = jL 100 from rfl, show (1 : Int64) = jL 1 from rfl, jL_mul, jL_add, jL_sub, jL_div (by omega) (by omega), jL_i, jI_n]
  congr 2
  unfold hup
  rw [Int.natCast_ediv]
  congr 1
  · omega
  · omega
theorem lnr_bd {U D : Int} (hU : -2500 ≤ U ∧ U ≤ 2500) (hD : 0 < D ∧ D ≤ 2500) : (-2500 ≤ rn U D ∧ rn U D ≤ 2500) ∧ 0 < rd U D ∧ rd U D ≤ 2500 := by
  obtain ⟨g1, g2, g3, g4, g5, g6⟩ := rn_g (a := U) hD.1
  refine ⟨?_, by omega, by omega⟩
  have h : (rn U D).natAbs ≤ U.natAbs := by
    have e1 : U.natAbs = (Int.gcd U D : Int).natAbs * (rn U D).natAbs := by
      have := congrArg Int.natAbs g3
      rw [Int.natAbs_mul] at this
      exact this
    rw [e1]
    exact Nat.le_mul_of_pos_left _ (by omega)
  omega
theorem ms_ok {c r : Nat → Int} (hc : LInv c) (hr : RInv r) {lt mt : Nat → Int64} (ht : TInv lt) (hm : MInv mt) {p : Nat → Nat} (hp : PInv p) {l k : Nat} (hl : l < 4) (hk : (k : Int) ≤ pN c (8 * l)) (hN : 0 < pN c (8 * l)) (lw : Nat → Int64) (fu fl mu md : Int64) : ∃ (e : Nat) (lw' : Nat → Int64) (fu' fl' mu' md' : Int64), e ≤ 252500 ∧ f_X9_mistake (nI l) (nI k) (jF c) (jF r) lt lw fu fl (nF p) = some (nI e, lw', fu', fl') ∧ f_X10_errorOf (nI l) (nI k) (nI (p 2)) mu md mt (jF c) (jF r) = some (nI e, mu', md') := by
  have k1 := bk_all hc hr hl
  have k2 := hc.all hl
  have k3 := ln_bd hc hr hl
  have fu4 : pa_fu = 4096 := rfl
  by_cases hz : k = 0
  · subst hz
    rw [f_X9_mistake, if_pos (by decide), ln_ok hc hr hl, b1, f_X10_errorOf, ps_N c hl, b1, if_pos (by decide), lm_ok hc hr hl, b1]
    dsimp only
    by_cases hA : bA c r (8 * l) ≤ 0
    · have hD : lnD c r (8 * l) = 0 := by
        unfold lnD
        rw [show bA c r (8 * l) = 0 by omega, Int.zero_mul]
      rw [hD, (rn_z _).2, th_0, b1, if_pos rfl, if_pos hA, if_pos rfl]
      exact ⟨101, _, _, _, _, _, by omega, rfl, rfl⟩
    · have hD : 0 < lnD c r (8 * l) := k3.2.2.2.2 (by omega)
      have hb := lnr_bd (U := lnU c r (8 * l)) (D := lnD c r (8 * l)) (by omega) (by omega)
      rw [th_1 (by omega), b1, if_neg (by decide), hup_c hb.1 hb.2, b1, hup_rn hD, if_neg hA, if_neg (by decide)]
      have h0 : ¬ jL (lnD c r (8 * l)) = 0 := fun q => by
        rw [show (0 : Int64) = jL 0 from rfl, jL_eq (by omega) (by omega)] at q
        omega
      have hcx := hup_c (U := lnU c r (8 * l)) (D := lnD c r (8 * l)) (by omega) (by omega)
      have hb2 := hup_bd (U := lnU c r (8 * l)) (D := lnD c r (8 * l)) (by omega) (by omega)
      rw [if_neg h0, if_neg h0]
      generalize lnU c r (8 * l) = U at *
      generalize lnD c r (8 * l) = D at *
      by_cases hs : 0 ≤ lg_cmp (jL U) (0 : Int64)
      · have hs2 := (cm_ge0 _ _).mp hs
        rw [show (0 : Int64) = jL 0 from rfl, jL_le (by omega) (by omega)] at hs2
        refine ⟨hup U D, lw, jL (rn U D), jL (rd U D), jL U, jL D, hb2, rfl, ?_⟩
        rw [if_pos hs, show (100 : Int64) = jL 100 from rfl, show (1 : Int64) = jL 1 from rfl, jL_mul, jL_add, jL_sub, jL_div (by omega) (by omega), jL_i, jI_n]
        have e : (100 * U + D - 1) / D = ((hup U D : Nat) : Int) := by
          unfold hup
          rw [Int.natCast_ediv]
          congr 1
          · omega
          · omega
        rw [e]
      · have hs2 : ¬ 0 ≤ U := fun q => hs ((cm_ge0 _ _).mpr (by
          rw [show (0 : Int64) = jL 0 from rfl, jL_le (by omega) (by omega)]
          exact q))
        refine ⟨hup U D, lw, jL (rn U D), jL (rd U D), jL U, jL D, hb2, rfl, ?_⟩
        rw [if_neg hs, jL_neg, show (100 : Int64) = jL 100 from rfl, show (1 : Int64) = jL 1 from rfl, jL_mul, jL_add, jL_sub, jL_div (by omega) (by omega), jL_i, jI_n]
        have e : (100 * -U + D - 1) / D = ((hup U D : Nat) : Int) := by
          unfold hup
          rw [Int.natCast_ediv]
          congr 1
          · omega
          · omega
        rw [e]
  · obtain ⟨n, hn⟩ : ∃ n : Nat, pN c (8 * l) = n := ⟨(pN c (8 * l)).toNat, by omega⟩
    obtain ⟨y, hy⟩ : ∃ y : Nat, pY c (8 * l) = y := ⟨(pY c (8 * l)).toNat, by omega⟩
    have hn3 : 1 ≤ n ∧ n ≤ 50 := by omega
    have hk3 : 1 ≤ k ∧ k ≤ 50 := by omega
    have hy3 : y ≤ n := by omega
    have hpy := ps_Y c hl
    rw [hy, ← jI_n] at hpy
    obtain ⟨lw', q1, q2⟩ := ld_loop ht (h := p 2) hn3 hy3 hk3 (k + 1) pa_fu 0 (pa_fillJ lw 101 0) (by omega) (by omega) (by
      intro d hd
      rw [pa_fillJ, if_pos hd]
      rfl)
    obtain ⟨e, q3, q4, q5⟩ := le_loop hm (mu := mu) (md := md) hpy hn3 hy3 hk3 hp.2.2.2 q1 100 pa_fu pa_fu 0 (by omega) (by omega) (by omega)
    refine ⟨e, lw', fu, fl, mu, md, by omega, ?_, ?_⟩
    · have q6 : f_X5_leastDistance (nI n) (nI y) (nI k) (nI (p 2)) lt lw = some (nI e, lw') := by
        rw [← q4]
        exact q2
      rw [f_X9_mistake, if_neg (fun q => by have := (nle_n (b := 0) (by omega) (by omega)).mp q; omega), hv_N c hl, b1, hv_Y c hl, b1, if_pos (by decide), hn, hy, ← jI_n, ← jI_n]
      show (f_X5_leastDistance (nI n) (nI y) (nI k) (nI (p 2)) lt lw).bind _ = _
      rw [q6, b1]
    · rw [f_X10_errorOf, ps_N c hl, b1, if_neg (fun q => by have := (nI_eq (b := 0) (by omega) (by omega)).mp q; omega), hn, ← jI_n]
      exact q5
/-- promise 23 -/
theorem st_error {c r : Nat → Int} (hc : LInv c) (hr : RInv r) {lt mt : Nat → Int64} (ht : TInv lt) (hm : MInv mt) {p : Nat → Nat} (hp : PInv p) (x1 x2 : Int32) (lw : Nat → Int64) (fu fl mu md : Int64) : ∃ (a : Int32) (lw' : Nat → Int64) (fu' fl' mu' md' : Int64), f_X9_error x1 x2 (jF c) (jF r) lt lw fu fl (nF p) = some (a, lw', fu', fl') ∧ f_X10_error x1 x2 (nI (p 2)) mu md mt (jF c) (jF r) = some (a, 0, mu', md') := by
  rw [f_X9_error, f_X10_error, in_wi]
  rcases il_cases x1 with ⟨h1, h1', l, hl, rfl⟩ | ⟨h1, h1'⟩
  · have k2 := hc.all hl
    obtain ⟨n, hn⟩ : ∃ n : Nat, pN c (8 * l) = n := ⟨(pN c (8 * l)).toNat, by omega⟩
    have ea := jI_n n
    simp only [h1, h1', b1, i10, hv_N c hl, ps_N c hl, hn, ← ea]
    rcases wi0_cases x2 (hi := n) (by omega) with ⟨h2, k, hk, rfl⟩ | h2
    · simp only [h2, b1, i10]
      by_cases hz : n = 0
      · subst hz
        simp only [if_pos (show nI 0 = (0 : Int32) from rfl)]
        exact ⟨_, _, _, _, _, _, rfl, rfl⟩
      · have hz' : ¬ nI n = 0 := fun q => hz ((nI_eq (b := 0) (by omega) (by omega)).mp q)
        obtain ⟨e, lw', fu', fl', mu', md', q0, q1, q2⟩ := ms_ok hc hr ht hm hp hl (k := k) (by omega) (by omega) lw fu fl mu md
        simp only [if_neg hz', q1, q2, b1]
        exact ⟨_, _, _, _, _, _, rfl, rfl⟩
    · simp only [h2, b1, i00]
      exact ⟨_, _, _, _, _, _, rfl, rfl⟩
  · simp only [h1, h1', b1, i00]
    exact ⟨_, _, _, _, _, _, rfl, rfl⟩
