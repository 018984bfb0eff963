/-! ===== found, weighed, mends ===== -/
def pX (c : Nat → Int) (b : Nat) : Int := c (b + 1) + c (b + 5)
def mI (m : Nat → Nat) : Nat → Int := fun i => (m i : Int)
theorem me_N {m : Nat → Nat} {am : Nat → Int32} (h : ∀ i, i < 8 → am i = nI (m i)) : f_X0_met 0 0 am = some (jI (pN (mI m) 0)) := by
  exact (rfl : _ = some (((((((((0 : Int32) + am 0) + am 1) + am 2) + am 3) + am 4) + am 5) + am 6) + am 7)).trans (by rw [h 0 (by decide), h 1 (by decide), h 2 (by decide), h 3 (by decide), h 4 (by decide), h 5 (by decide), h 6 (by decide), h 7 (by decide)]; simp only [jI_n, jI_z1, jI_z2, jI_add, Int32.add_zero]; rfl)
theorem me_Y {m : Nat → Nat} {am : Nat → Int32} (h : ∀ i, i < 8 → am i = nI (m i)) : f_X0_met 1 1 am = some (jI (pY (mI m) 0)) := by
  exact (rfl : _ = some (((((0 : Int32) + am 1) + am 3) + am 5) + am 7)).trans (by rw [h 1 (by decide), h 3 (by decide), h 5 (by decide), h 7 (by decide)]; simp only [jI_n, jI_z1, jI_z2, jI_add, Int32.add_zero]; rfl)
theorem me_X {m : Nat → Nat} {am : Nat → Int32} (h : ∀ i, i < 8 → am i = nI (m i)) : f_X0_met 3 1 am = some (jI (pX (mI m) 0)) := by
  exact (rfl : _ = some (((0 : Int32) + am 1) + am 5)).trans (by rw [h 1 (by decide), h 5 (by decide)]; simp only [jI_n, jI_z1, jI_z2, jI_add, Int32.add_zero]; rfl)
theorem me_P {m : Nat → Nat} {am : Nat → Int32} (h : ∀ i, i < 8 → am i = nI (m i)) : f_X0_met 2 0 am = some (jI (pP (mI m) 0)) := by
  exact (rfl : _ = some (((((0 : Int32) + am 0) + am 1) + am 4) + am 5)).trans (by rw [h 0 (by decide), h 1 (by decide), h 4 (by decide), h 5 (by decide)]; simp only [jI_n, jI_z1, jI_z2, jI_add, Int32.add_zero]; rfl)
theorem me_Q {m : Nat → Nat} {am : Nat → Int32} (h : ∀ i, i < 8 → am i = nI (m i)) : f_X0_met 3 3 am = some (jI (pQ (mI m) 0)) := by
  exact (rfl : _ = some (((0 : Int32) + am 3) + am 7)).trans (by rw [h 3 (by decide), h 7 (by decide)]; simp only [jI_n, jI_z1, jI_z2, jI_add, Int32.add_zero]; rfl)
theorem me_R {m : Nat → Nat} {am : Nat → Int32} (h : ∀ i, i < 8 → am i = nI (m i)) : f_X0_met 2 2 am = some (jI (pR (mI m) 0)) := by
  exact (rfl : _ = some (((((0 : Int32) + am 2) + am 3) + am 6) + am 7)).trans (by rw [h 2 (by decide), h 3 (by decide), h 6 (by decide), h 7 (by decide)]; simp only [jI_n, jI_z1, jI_z2, jI_add, Int32.add_zero]; rfl)
theorem go_N {m : Nat → Nat} {am : Nat → Int32} (h : ∀ i, i < 8 → am i = nI (m i)) : f_X10_gotOf 255 am = some (jI (pN (mI m) 0)) := by
  exact (rfl : _ = some (((((((((0 : Int32) + am 0) + am 1) + am 2) + am 3) + am 4) + am 5) + am 6) + am 7)).trans (by rw [h 0 (by decide), h 1 (by decide), h 2 (by decide), h 3 (by decide), h 4 (by decide), h 5 (by decide), h 6 (by decide), h 7 (by decide)]; simp only [jI_n, jI_z1, jI_z2, jI_add, Int32.add_zero]; rfl)
theorem go_R {m : Nat → Nat} {am : Nat → Int32} (h : ∀ i, i < 8 → am i = nI (m i)) : f_X10_gotOf 204 am = some (jI (pR (mI m) 0)) := by
  exact (rfl : _ = some (((((((((0 : Int32) + 0) + 0) + am 2) + am 3) + 0) + 0) + am 6) + am 7)).trans (by rw [h 2 (by decide), h 3 (by decide), h 6 (by decide), h 7 (by decide)]; simp only [jI_n, jI_z1, jI_z2, jI_add, Int32.add_zero]; rfl)
theorem go_P {m : Nat → Nat} {am : Nat → Int32} (h : ∀ i, i < 8 → am i = nI (m i)) : f_X10_gotOf 51 am = some (jI (pP (mI m) 0)) := by
  exact (rfl : _ = some (((((((((0 : Int32) + am 0) + am 1) + 0) + 0) + am 4) + am 5) + 0) + 0)).trans (by rw [h 0 (by decide), h 1 (by decide), h 4 (by decide), h 5 (by decide)]; simp only [jI_n, jI_z1, jI_z2, jI_add, Int32.add_zero]; rfl)
theorem go_X {m : Nat → Nat} {am : Nat → Int32} (h : ∀ i, i < 8 → am i = nI (m i)) : f_X10_gotOf 34 am = some (jI (pX (mI m) 0)) := by
  exact (rfl : _ = some (((((((((0 : Int32) + 0) + am 1) + 0) + 0) + 0) + am 5) + 0) + 0)).trans (by rw [h 1 (by decide), h 5 (by decide)]; simp only [jI_n, jI_z1, jI_z2, jI_add, Int32.add_zero]; rfl)
theorem go_Q {m : Nat → Nat} {am : Nat → Int32} (h : ∀ i, i < 8 → am i = nI (m i)) : f_X10_gotOf 136 am = some (jI (pQ (mI m) 0)) := by
  exact (rfl : _ = some (((((((((0 : Int32) + 0) + 0) + 0) + am 3) + 0) + 0) + 0) + am 7)).trans (by rw [h 3 (by decide), h 7 (by decide)]; simp only [jI_n, jI_z1, jI_z2, jI_add, Int32.add_zero]; rfl)
theorem go_Y {m : Nat → Nat} {am : Nat → Int32} (h : ∀ i, i < 8 → am i = nI (m i)) : f_X10_gotOf 170 am = some (jI (pY (mI m) 0)) := by
  exact (rfl : _ = some (((((((((0 : Int32) + 0) + am 1) + 0) + am 3) + 0) + am 5) + 0) + am 7)).trans (by rw [h 1 (by decide), h 3 (by decide), h 5 (by decide), h 7 (by decide)]; simp only [jI_n, jI_z1, jI_z2, jI_add, Int32.add_zero]; rfl)
theorem as_cases (x1 x2 x3 : Int32) : (f_X9_isAsking x1 x2 x3 = some 1 ∧ f_X10_isAsked x1 x2 x3 = some 1 ∧ ∃ l wp wr, l < 4 ∧ wp ≤ 50 ∧ wr ≤ 50 ∧ x1 = nI l ∧ x2 = nI wp ∧ x3 = nI wr) ∨ (f_X9_isAsking x1 x2 x3 = some 0 ∧ f_X10_isAsked x1 x2 x3 = some 0) := by
  rw [f_X9_isAsking, f_X10_isAsked, in_wi]
  rcases il_cases x1 with ⟨h1, h1', l, hl, rfl⟩ | ⟨h1, h1'⟩
  · simp only [h1, h1', b1, i10]
    rcases wi0_cases x2 (hi := 50) (by decide) with ⟨h2, a, ha, rfl⟩ | h2
    · have h2' : f_X9_within (nI a) 0 50 = some 1 := h2
      simp only [h2', b1, i10]
      rcases wi0_cases x3 (hi := 50) (by decide) with ⟨h3, b, hb, rfl⟩ | h3
      · have h3' : f_X9_within (nI b) 0 50 = some 1 := h3
        simp only [h3', b1, i10]
        exact Or.inl ⟨trivial, trivial, l, a, b, hl, ha, hb, rfl, rfl, rfl⟩
      · have h3' : f_X9_within x3 0 50 = some 0 := h3
        simp only [h3', b1, i00]
        exact Or.inr ⟨rfl, rfl⟩
    · have h2' : f_X9_within x2 0 50 = some 0 := h2
      simp only [h2', b1, i00]
      exact Or.inr ⟨rfl, rfl⟩
  · simp only [h1, h1', b1, i00]
    exact Or.inr ⟨rfl, rfl⟩
section FND
variable {c : Nat → Int} {n : Nat} {hp hli mf : Nat → Int32}
/-- promise 8 -/
theorem st_found (hc : LInv c) (hB : BInv n hp hli mf) (x1 x2 x3 x4 wp wr : Int32) (am mg : Nat → Int32) : ∃ (a wp2 wr2 : Int32) (am2 mg2 : Nat → Int32), f_X9_found x1 x2 x3 x4 (jF c) (nI n) hp hli wp wr am = some (a, wp2, wr2, am2) ∧ f_X10_found x1 x2 x3 x4 (nI n) (jF c) mf mg = some (a, 0, mg2) := by
  rw [f_X9_found, f_X10_found, in_wi]
  rcases as_cases x1 x2 x3 with ⟨h1, h2, l, a, b, hl, ha, hb, rfl, rfl, rfl⟩ | ⟨h1, h2⟩
  · simp only [h1, h2, b1, i10]
    rcases wi0_cases x4 (hi := 8) (by decide) with ⟨h4, k, hk, rfl⟩ | h4
    · have h4' : f_X9_within (nI k) 0 8 = some 1 := h4
      obtain ⟨wp2, wr2, m2, am2, mg2, q1, q2, q3⟩ := ask_ok hc hl hB ha hb am mg
      simp only [h4', b1, i10, q2, q3, me_N q1.1, go_N q1.2.1]
      by_cases h8 : k = 8
      · subst h8
        exact ⟨_, _, _, _, _, if_pos rfl, if_pos rfl⟩
      · have h8' : ¬ nI k = 8 := fun z => h8 ((nI_eq (b := 8) (by omega) (by omega)).mp z)
        rw [if_neg h8', if_neg h8', f_X0_metOfGroup, if_pos (ib_n (by omega) (by decide)), if_pos (ib_n (by omega) (by decide)), b1, cl_n (by omega), q1.1 k (by omega), q1.2.1 k (by omega)]
        exact ⟨_, _, _, _, _, rfl, rfl⟩
    · have h4' : f_X9_within x4 0 8 = some 0 := h4
      simp only [h4', b1, i00]
      exact ⟨_, _, _, _, _, rfl, rfl⟩
  · simp only [h1, h2, b1, i00]
    exact ⟨_, _, _, _, _, rfl, rfl⟩
theorem mg_bd (hc : LInv c) {l : Nat} (hl : l < 4) {m : Nat → Nat} {am mg : Nat → Int32} (hM : MG c l m am mg) : 0 ≤ pX (mI m) 0 ∧ pX (mI m) 0 ≤ pP (mI m) 0 ∧ 0 ≤ pQ (mI m) 0 ∧ pQ (mI m) 0 ≤ pR (mI m) 0 ∧ pP (mI m) 0 + pR (mI m) 0 = pN (mI m) 0 ∧ pX (mI m) 0 + pQ (mI m) 0 = pY (mI m) 0 ∧ pN (mI m) 0 ≤ pN c (8 * l) ∧ pP c (8 * l) + pR c (8 * l) = pN c (8 * l) ∧ 0 ≤ pP c (8 * l) ∧ 0 ≤ pR c (8 * l) ∧ 0 ≤ pN c (8 * l) ∧ pN c (8 * l) ≤ 50 ∧ 0 ≤ pY c (8 * l) ∧ pY c (8 * l) ≤ pN c (8 * l) := by
  have k2 := hc.all hl
  have hk : ∀ g, g < 8 → (m g : Int) ≤ c (8 * l + g) := fun g hg => by
    have h1 := hM.2.2 g hg
    have h2 : ((cn c l g : Nat) : Int) = c (8 * l + g) := Int.toNat_of_nonneg (hc.1 _)
    omega
  have q0 := hk 0 (by decide)
  have q1 := hk 1 (by decide)
  have q2 := hk 2 (by decide)
  have q3 := hk 3 (by decide)
  have q4 := hk 4 (by decide)
  have q5 := hk 5 (by decide)
  have q6 := hk 6 (by decide)
  have q7 := hk 7 (by decide)
  have z1 : 0 ≤ pN c (8 * l) ∧ pN c (8 * l) ≤ 50 ∧ 0 ≤ pY c (8 * l) ∧ pY c (8 * l) ≤ pN c (8 * l) := ⟨k2.1, k2.2.1, k2.2.2.1, k2.2.2.2.1⟩
  clear hk k2
  unfold pX pP pQ pR pN pY mI at *
  simp only [Nat.zero_add] at *
  omega
theorem ad_g {a b u d : Int} (hb : 0 ≤ b ∧ b ≤ 125000) (ha : 0 ≤ a ∧ a ≤ 125000) (hu : 0 ≤ u ∧ u ≤ 2500) (hd : 0 ≤ d ∧ d ≤ 2500) : f_X1_add (jL u) (jL d) (jL (rn a b)) (jL (rd a b)) = some (jL (rn (a * d + u * b) (b * d)), jL (rd (a * d + u * b) (b * d))) := by
  by_cases hz : b = 0
  · subst hz
    rw [(rn_z _).1, (rn_z _).2, Int.zero_mul, (rn_z _).1, (rn_z _).2, ad_no]
  · have hb0 : 0 < b := by omega
    obtain ⟨g1, g2, g3, g4, g5, g6⟩ := rn_g (a := a) hb0
    have q0 := rn_nn ha.1 hb0
    have q1 := ml_bd (a := rn a b) (b := d) (m := 125000) (n := 2500) (by omega) hd
    have q2 := ml_bd (a := u) (b := rd a b) (m := 2500) (n := 125000) hu (by omega)
    have q3 := ml_bd (a := rd a b) (b := d) (m := 125000) (n := 2500) (by omega) hd
    exact ad_ok hb0 (by omega) (by omega)
theorem wm_P {l : Nat} (hc : LInv c) (hl : l < 4) {m : Nat → Nat} {am mg : Nat → Int32} (hM : MG c l m am mg) {a b : Int} (hb : 0 ≤ b ∧ b ≤ 125000) (ha : 0 ≤ a ∧ a ≤ 125000) : f_X9_weighMeans (nI l) 0 (jF c) am (jL (rn a b)) (jL (rd a b)) = if pP c (8 * l) ≤ 0 then some (jL (rn a b), jL (rd a b)) else some (jL (rn (a * (pP (mI m) 0 * pN c (8 * l)) + pX (mI m) 0 * pP c (8 * l) * b) (b * (pP (mI m) 0 * pN c (8 * l)))), jL (rd (a * (pP (mI m) 0 * pN c (8 * l)) + pX (mI m) 0 * pP c (8 * l) * b) (b * (pP (mI m) 0 * pN c (8 * l))))) := by
  have k := mg_bd hc hl hM
  have q1 := ml_bd (a := pX (mI m) 0) (b := pP c (8 * l)) (m := 50) (n := 50) (by omega) (by omega)
  have q2 := ml_bd (a := pP (mI m) 0) (b := pN c (8 * l)) (m := 50) (n := 50) (by omega) (by omega)
  rw [f_X9_weighMeans, mt_P c hl, b1, jI_l (by omega)]
  by_cases h : pP c (8 * l) ≤ 0
  · rw [if_pos h, if_pos ((cm_le0 _ _).mpr (by rw [show (0 : Int64) = jL 0 from rfl, jL_le (by omega) (by omega)]; exact h))]
  · rw [if_neg h, if_neg (fun z => h (by have z2 := (cm_le0 _ _).mp z; rw [show (0 : Int64) = jL 0 from rfl, jL_le (by omega) (by omega)] at z2; exact z2)), show ((0 : Int32) ||| 1) = 1 from rfl, me_X hM.1, b1, me_P hM.1, b1, hv_N c hl, b1, jI_l (by omega), jI_l (by omega), jI_l (by omega), jL_mul, jL_mul, ad_g hb ha (by omega) (by omega), b1]
theorem wm_R {l : Nat} (hc : LInv c) (hl : l < 4) {m : Nat → Nat} {am mg : Nat → Int32} (hM : MG c l m am mg) {a b : Int} (hb : 0 ≤ b ∧ b ≤ 125000) (ha : 0 ≤ a ∧ a ≤ 125000) : f_X9_weighMeans (nI l) 2 (jF c) am (jL (rn a b)) (jL (rd a b)) = if pR c (8 * l) ≤ 0 then some (jL (rn a b), jL (rd a b)) else some (jL (rn (a * (pR (mI m) 0 * pN c (8 * l)) + pQ (mI m) 0 * pR c (8 * l) * b) (b * (pR (mI m) 0 * pN c (8 * l)))), jL (rd (a * (pR (mI m) 0 * pN c (8 * l)) + pQ (mI m) 0 * pR c (8 * l) * b) (b * (pR (mI m) 0 * pN c (8 * l))))) := by
  have k := mg_bd hc hl hM
  have q1 := ml_bd (a := pQ (mI m) 0) (b := pR c (8 * l)) (m := 50) (n := 50) (by omega) (by omega)
  have q2 := ml_bd (a := pR (mI m) 0) (b := pN c (8 * l)) (m := 50) (n := 50) (by omega) (by omega)
  rw [f_X9_weighMeans, mt_R c hl, b1, jI_l (by omega)]
  by_cases h : pR c (8 * l) ≤ 0
  · rw [if_pos h, if_pos ((cm_le0 _ _).mpr (by rw [show (0 : Int64) = jL 0 from rfl, jL_le (by omega) (by omega)]; exact h))]
  · rw [if_neg h, if_neg (fun z => h (by have z2 := (cm_le0 _ _).mp z; rw [show (0 : Int64) = jL 0 from rfl, jL_le (by omega) (by omega)] at z2; exact z2)), show ((2 : Int32) ||| 1) = 3 from rfl, me_Q hM.1, b1, me_R hM.1, b1, hv_N c hl, b1, jI_l (by omega), jI_l (by omega), jI_l (by omega), jL_mul, jL_mul, ad_g hb ha (by omega) (by omega), b1]
/-- WEIGHED, on both sides -/
theorem wg_ok {l : Nat} (hc : LInv c) (hl : l < 4) {m : Nat → Nat} {am mg : Nat → Int32} (hM : MG c l m am mg) (fu fl mu md : Int64) : ∃ U D : Int, 0 ≤ U ∧ U ≤ 250000 ∧ 0 ≤ D ∧ D ≤ 125000 ∧ f_X9_weigh (nI l) (jF c) am fu fl = some (jL (rn U D), jL (rd U D)) ∧ f_X10_weighs (nI l) mu md (jF c) mg = if D = 0 then some (0, mu, md) else some (1, jL U, jL D) := by
  have k := mg_bd hc hl hM
  have e1 : f_X9_weigh (nI l) (jF c) am fu fl = (f_X9_weighMeans (nI l) 0 (jF c) am (jL (rn 0 (pN c (8 * l)))) (jL (rd 0 (pN c (8 * l))))).bind fun u_5 => (f_X9_weighMeans (nI l) 2 (jF c) am u_5.1 u_5.2).bind fun u_7 => some (u_7.1, u_7.2) := by
    rw [f_X9_weigh, hv_N c hl, b1, jI_l (by omega), show (0 : Int64) = jL 0 from rfl, bc_ok (by omega) (by omega), b1]
  have e2 : f_X10_weighs (nI l) mu md (jF c) mg = if jI (pN c (8 * l)) = 0 then some (0, mu, md) else if jI (pR c (8 * l)) ≤ 0 then f_X10_weighs_b53 (jI (pN c (8 * l))) (jI (pR c (8 * l))) (jI (pP c (8 * l))) (jI (pR (mI m) 0)) (jI (pP (mI m) 0)) mu md mg else if jI (pR (mI m) 0) = 0 then some (0, mu, md) else f_X10_weighs_b53 (jI (pN c (8 * l))) (jI (pR c (8 * l))) (jI (pP c (8 * l))) (jI (pR (mI m) 0)) (jI (pP (mI m) 0)) mu md mg := by
    have e3 : pN c (8 * l) - pR c (8 * l) = pP c (8 * l) := by omega
    rw [f_X10_weighs, ps_N c hl, b1, ps_R c hl, b1, go_R hM.2.1, b1, go_P hM.2.1, b1, jI_sub, e3]
  have e4 : ∀ s t : Int, f_X10_weighs_b90 (jI (pN c (8 * l))) (jI (pR c (8 * l))) (jI (pP c (8 * l))) (jL s) (jL t) mg = some (1, jL (s * pP c (8 * l) * pX (mI m) 0 + t * pR c (8 * l) * pQ (mI m) 0), jL (s * t * pN c (8 * l))) := by
    intro s t
    rw [f_X10_weighs_b90, go_X hM.2.1, b1, go_Q hM.2.1, b1, jI_l (by omega), jI_l (by omega), jI_l (by omega), jI_l (by omega), jI_l (by omega), jL_mul, jL_mul, jL_mul, jL_mul, jL_mul, jL_mul, jL_add]
  rw [e1, e2]
  by_cases hN : pN c (8 * l) = 0
  · refine ⟨0, 0, by omega, by omega, by omega, by omega, ?_, ?_⟩
    · rw [wm_P hc hl hM (by omega) (by omega), if_pos (by omega), b1]
      dsimp only
      rw [wm_R hc hl hM (by omega) (by omega), if_pos (by omega), b1, hN]
    · rw [if_pos ((jI_e0 (by omega)).mpr hN), if_pos rfl]
  · rw [if_neg (fun z => hN ((jI_e0 (by omega)).mp z))]
    have b53 : f_X10_weighs_b53 (jI (pN c (8 * l))) (jI (pR c (8 * l))) (jI (pP c (8 * l))) (jI (pR (mI m) 0)) (jI (pP (mI m) 0)) mu md mg = if pP c (8 * l) ≤ 0 then f_X10_weighs_b65 (jI (pN c (8 * l))) (jI (pR c (8 * l))) (jI (pP c (8 * l))) (jI (pR (mI m) 0)) (jI (pP (mI m) 0)) mg else if pP (mI m) 0 = 0 then some (0, mu, md) else f_X10_weighs_b65 (jI (pN c (8 * l))) (jI (pR c (8 * l))) (jI (pP c (8 * l))) (jI (pR (mI m) 0)) (jI (pP (mI m) 0)) mg := by
      rw [f_X10_weighs_b53]
      by_cases z : pP c (8 * l) ≤ 0
      · rw [if_pos z, if_pos ((jI_le0 (by omega)).mpr z)]
      · rw [if_neg z, if_neg (fun y => z ((jI_le0 (by omega)).mp y))]
        by_cases z2 : pP (mI m) 0 = 0
        · rw [if_pos z2, if_pos ((jI_e0 (by omega)).mpr z2)]
        · rw [if_neg z2, if_neg (fun y => z2 ((jI_e0 (by omega)).mp y))]
    have b65 : f_X10_weighs_b65 (jI (pN c (8 * l))) (jI (pR c (8 * l))) (jI (pP c (8 * l))) (jI (pR (mI m) 0)) (jI (pP (mI m) 0)) mg = f_X10_weighs_b90 (jI (pN c (8 * l))) (jI (pR c (8 * l))) (jI (pP c (8 * l))) (jL (if pR c (8 * l) ≤ 0 then 1 else pR (mI m) 0)) (jL (if pP c (8 * l) ≤ 0 then 1 else pP (mI m) 0)) mg := by
      have h76 : ∀ s : Int64, f_X10_weighs_b76 (jI (pN c (8 * l))) (jI (pR c (8 * l))) (jI (pP c (8 * l))) (jI (pP (mI m) 0)) s mg = f_X10_weighs_b90 (jI (pN c (8 * l))) (jI (pR c (8 * l))) (jI (pP c (8 * l))) s (jL (if pP c (8 * l) ≤ 0 then 1 else pP (mI m) 0)) mg := by
        intro s
        rw [f_X10_weighs_b76]
        by_cases z : pP c (8 * l) ≤ 0
        · rw [if_pos z, if_pos ((jI_le0 (by omega)).mpr z)]
          rfl
        · rw [if_neg z, if_neg (fun y => z ((jI_le0 (by omega)).mp y)), jI_l (by omega)]
      rw [f_X10_weighs_b65, h76, h76]
      by_cases z : pR c (8 * l) ≤ 0
      · rw [if_pos z, if_pos ((jI_le0 (by omega)).mpr z)]
        rfl
      · rw [if_neg z, if_neg (fun y => z ((jI_le0 (by omega)).mp y)), jI_l (by omega)]
    have c1 := ml_bd (a := pX (mI m) 0) (b := pP c (8 * l)) (m := 50) (n := 50) (by omega) (by omega)
    have c2 := ml_bd (a := pP (mI m) 0) (b := pN c (8 * l)) (m := 50) (n := 50) (by omega) (by omega)
    have c3 := ml_bd (a := pN c (8 * l)) (b := pP (mI m) 0 * pN c (8 * l)) (m := 50) (n := 2500) (by omega) (by omega)
    have c4 := ml_bd (a := pX (mI m) 0 * pP c (8 * l)) (b := pN c (8 * l)) (m := 2500) (n := 50) (by omega) (by omega)
    have c5 := ml_bd (a := pQ (mI m) 0) (b := pR c (8 * l)) (m := 50) (n := 50) (by omega) (by omega)
    have c6 := ml_bd (a := pR (mI m) 0) (b := pN c (8 * l)) (m := 50) (n := 50) (by omega) (by omega)
    have hN0 : 0 < pN c (8 * l) := by omega
    by_cases hP : pP c (8 * l) ≤ 0
    · have hP0 : pP c (8 * l) = 0 := by omega
      have hR : ¬ pR c (8 * l) ≤ 0 := by omega
      rw [wm_P hc hl hM (by omega) (by omega), if_pos hP, b1]
      dsimp only
      rw [wm_R hc hl hM (by omega) (by omega), if_neg hR, b1, if_neg (fun z => hR ((jI_le0 (by omega)).mp z)), b53, if_pos hP, b65, if_neg hR, if_pos hP, e4]
      refine ⟨pR c (8 * l) * pQ (mI m) 0, pR (mI m) 0 * pN c (8 * l), ?_, ?_, by omega, by omega, ?_, ?_⟩
      · rw [Int.mul_comm]
        omega
      · rw [Int.mul_comm]
        omega
      · have s := rn_scale (g := pN c (8 * l)) (a := pR c (8 * l) * pQ (mI m) 0) (b := pR (mI m) 0 * pN c (8 * l)) hN0
        have e5 : 0 * (pR (mI m) 0 * pN c (8 * l)) + pQ (mI m) 0 * pR c (8 * l) * pN c (8 * l) = pN c (8 * l) * (pR c (8 * l) * pQ (mI m) 0) := by
          rw [Int.zero_mul, Int.zero_add, Int.mul_comm, Int.mul_comm (pQ (mI m) 0)]
        rw [e5, s.1, s.2]
      · by_cases z : pR (mI m) 0 = 0
        · rw [if_pos ((jI_e0 (by omega)).mpr z), if_pos (by rw [z, Int.zero_mul])]
        · have : 0 < pR (mI m) 0 * pN c (8 * l) := Int.mul_pos (by omega) hN0
          rw [if_neg (fun y => z ((jI_e0 (by omega)).mp y)), if_neg (by omega), hP0]
          simp only [Int.mul_zero, Int.zero_mul, Int.zero_add, Int.one_mul, Int.mul_one]
    · rw [wm_P hc hl hM (by omega) (by omega), if_neg hP, b1]
      dsimp only
      have e6 : 0 * (pP (mI m) 0 * pN c (8 * l)) + pX (mI m) 0 * pP c (8 * l) * pN c (8 * l) = pX (mI m) 0 * pP c (8 * l) * pN c (8 * l) := by
        rw [Int.zero_mul, Int.zero_add]
      rw [e6, wm_R hc hl hM (by omega) (by omega), b53, if_neg hP, b65, e4, if_neg hP]
      by_cases hR : pR c (8 * l) ≤ 0
      · have hR0 : pR c (8 * l) = 0 := by omega
        rw [if_pos hR, b1, if_pos ((jI_le0 (by omega)).mpr hR), if_pos hR]
        refine ⟨pP c (8 * l) * pX (mI m) 0, pP (mI m) 0 * pN c (8 * l), ?_, ?_, by omega, by omega, ?_, ?_⟩
        · rw [Int.mul_comm]
          omega
        · rw [Int.mul_comm]
          omega
        · have s := rn_scale (g := pN c (8 * l)) (a := pP c (8 * l) * pX (mI m) 0) (b := pP (mI m) 0 * pN c (8 * l)) hN0
          rw [← s.1, ← s.2, Int.mul_comm (pX (mI m) 0), Int.mul_comm (pP c (8 * l) * pX (mI m) 0)]
        · by_cases z : pP (mI m) 0 = 0
          · rw [if_pos z, if_pos (by rw [z, Int.zero_mul])]
          · have : 0 < pP (mI m) 0 * pN c (8 * l) := Int.mul_pos (by omega) hN0
            rw [if_neg z, if_neg (by omega), hR0]
            simp only [Int.mul_zero, Int.zero_mul, Int.add_zero, Int.one_mul]
      · rw [if_neg hR, b1, if_neg (fun z => hR ((jI_le0 (by omega)).mp z)), if_neg hR]
        have d1 := ml_bd (a := pR (mI m) 0) (b := pP c (8 * l)) (m := 50) (n := 50) (by omega) (by omega)
        have d2 := ml_bd (a := pR (mI m) 0 * pP c (8 * l)) (b := pX (mI m) 0) (m := 2500) (n := 50) (by omega) (by omega)
        have d3 := ml_bd (a := pP (mI m) 0) (b := pR c (8 * l)) (m := 50) (n := 50) (by omega) (by omega)
        have d4 := ml_bd (a := pP (mI m) 0 * pR c (8 * l)) (b := pQ (mI m) 0) (m := 2500) (n := 50) (by omega) (by omega)
        have d5 := ml_bd (a := pR (mI m) 0) (b := pP (mI m) 0) (m := 50) (n := 50) (by omega) (by omega)
        have d6 := ml_bd (a := pR (mI m) 0 * pP (mI m) 0) (b := pN c (8 * l)) (m := 2500) (n := 50) (by omega) (by omega)
        refine ⟨pR (mI m) 0 * pP c (8 * l) * pX (mI m) 0 + pP (mI m) 0 * pR c (8 * l) * pQ (mI m) 0, pR (mI m) 0 * pP (mI m) 0 * pN c (8 * l), by omega, by omega, by omega, by omega, ?_, ?_⟩
        · have s := rn_scale (g := pN c (8 * l) * pN c (8 * l)) (a := pR (mI m) 0 * pP c (8 * l) * pX (mI m) 0 + pP (mI m) 0 * pR c (8 * l) * pQ (mI m) 0) (b := pR (mI m) 0 * pP (mI m) 0 * pN c (8 * l)) (Int.mul_pos hN0 hN0)
          have e7 : pX (mI m) 0 * pP c (8 * l) * pN c (8 * l) * (pR (mI m) 0 * pN c (8 * l)) + pQ (mI m) 0 * pR c (8 * l) * (pN c (8 * l) * (pP (mI m) 0 * pN c (8 * l))) = pN c (8 * l) * pN c (8 * l) * (pR (mI m) 0 * pP c (8 * l) * pX (mI m) 0 + pP (mI m) 0 * pR c (8 * l) * pQ (mI m) 0) := by
            rw [Int.mul_add]
            congr 1
            · simp only [Int.mul_assoc, Int.mul_left_comm, Int.mul_comm]
            · simp only [Int.mul_assoc, Int.mul_left_comm, Int.mul_comm]
          have e8 : pN c (8 * l) * (pP (mI m) 0 * pN c (8 * l)) * (pR (mI m) 0 * pN c (8 * l)) = pN c (8 * l) * pN c (8 * l) * (pR (mI m) 0 * pP (mI m) 0 * pN c (8 * l)) := by
            simp only [Int.mul_assoc, Int.mul_left_comm, Int.mul_comm]
          rw [e7, e8, s.1, s.2]
        · by_cases z : pR (mI m) 0 = 0
          · rw [if_pos ((jI_e0 (by omega)).mpr z), if_pos (by rw [z, Int.zero_mul, Int.zero_mul])]
          · rw [if_neg (fun y => z ((jI_e0 (by omega)).mp y))]
            by_cases z2 : pP (mI m) 0 = 0
            · rw [if_pos z2, if_pos (by rw [z2, Int.mul_zero, Int.zero_mul])]
            · have : 0 < pR (mI m) 0 * pP (mI m) 0 * pN c (8 * l) := Int.mul_pos (Int.mul_pos (by omega) (by omega)) hN0
              rw [if_neg z2, if_neg (by omega)]
/-- promises 9, 10 -/
theorem st_weighed (hc : LInv c) (hB : BInv n hp hli mf) (x1 x2 x3 x4 wp wr : Int32) (am mg : Nat → Int32) (fu fl mu md : Int64) : ∃ (a : Int64) (wp2 wr2 : Int32) (am2 mg2 : Nat → Int32) (fu2 fl2 mu2 md2 : Int64), f_X9_weighed x1 x2 x3 x4 (jF c) (nI n) hp hli wp wr am fu fl = some (a, wp2, wr2, am2, fu2, fl2) ∧ f_X10_weighed x1 x2 x3 x4 (nI n) mu md (jF c) mf mg = some (a, 0, mu2, md2, mg2) := by
  rw [f_X9_weighed, f_X10_weighed, in_wi]
  rcases as_cases x1 x2 x3 with ⟨h1, h2, l, a, b, hl, ha, hb, rfl, rfl, rfl⟩ | ⟨h1, h2⟩
  · simp only [h1, h2, b1, i10]
    rcases wi0_cases x4 (hi := 1) (by decide) with ⟨h4, k, hk, rfl⟩ | h4
    · have h4' : f_X9_within (nI k) 0 1 = some 1 := h4
      obtain ⟨wp2, wr2, m2, am2, mg2, q1, q2, q3⟩ := ask_ok hc hl hB ha hb am mg
      obtain ⟨U, D, w1, w2, w3, w4, w5, w6⟩ := wg_ok hc hl q1 fu fl mu md
      simp only [h4', b1, i10, q2, q3, w5, w6]
      by_cases hD : D = 0
      · subst hD
        rw [if_pos rfl, (rn_z _).2, pt_no, b1, b1]
        exact ⟨_, _, _, _, _, _, _, _, _, rfl, rfl⟩
      · obtain ⟨g1, g2, g3, g4, g5, g6⟩ := rn_g (a := U) (b := D) (by omega)
        rw [if_neg hD, b1]
        dsimp only
        rw [i10, f_X10_weighed_b55, f_X10_weighed_b55]
        rcases (by omega : k = 0 ∨ k = 1) with z | z
        · subst z
          rw [if_neg (by decide), told_0 (by omega) (by omega), b1, show nI 0 = (0 : Int32) from rfl, pt_0 (by omega), b1]
          exact ⟨_, _, _, _, _, _, _, _, _, rfl, rfl⟩
        · subst z
          rw [if_pos (by decide), told_1 (by omega) (by omega), b1, show nI 1 = (1 : Int32) from rfl, pt_1 (by omega), b1]
          exact ⟨_, _, _, _, _, _, _, _, _, rfl, rfl⟩
    · have h4' : f_X9_within x4 0 1 = some 0 := h4
      simp only [h4', b1, i00]
      exact ⟨_, _, _, _, _, _, _, _, _, rfl, rfl⟩
  · simp only [h1, h2, b1, i00]
    exact ⟨_, _, _, _, _, _, _, _, _, rfl, rfl⟩
theorem ap_ok {p q : Int} (hp : 0 ≤ p ∧ p ≤ 1000000000000) (hq : 0 ≤ q ∧ q ≤ 1000000000000) : f_X10_apart (jL p) (jL q) = some (jL ((p - q).natAbs : Nat)) := by
  rw [f_X10_apart]
  by_cases h : q ≤ p
  · rw [if_pos ((cm_ge0 _ _).mpr ((jL_le (by omega) (by omega)).mpr h)), jL_sub]
    congr 2
    omega
  · rw [if_neg (fun z => h ((jL_le (by omega) (by omega)).mp ((cm_ge0 _ _).mp z))), jL_sub]
    congr 2
    omega
theorem mn_s {U D u d g M y N Y : Int} (g1 : 0 < g) (g3 : U = g * u) (g4 : D = g * d) : ((U * N - Y * D).natAbs : Int) * M = g * (((u * N - Y * d).natAbs : Int) * M) ∧ ((y * N - Y * M).natAbs : Int) * D = g * (((y * N - Y * M).natAbs : Int) * d) := by
  have e : U * N - Y * D = g * (u * N - Y * d) := by
    rw [g3, g4, Int.mul_sub, Int.mul_assoc, Int.mul_left_comm Y g d]
  refine ⟨?_, ?_⟩
  · rw [e, Int.natAbs_mul, Int.natCast_mul, Int.natAbs_of_nonneg (by omega : 0 ≤ g), Int.mul_assoc]
  · rw [g4, Int.mul_left_comm]
theorem mn_c {A B A2 B2 g : Int} (g1 : 0 < g) (hA : 0 ≤ A ∧ A ≤ 1000000000) (hB : 0 ≤ B ∧ B ≤ 1000000000) (hA2 : 0 ≤ A2 ∧ A2 ≤ 1000000000) (hB2 : 0 ≤ B2 ∧ B2 ≤ 1000000000) (t1 : A2 = g * A) (t2 : B2 = g * B) : (lg_cmp (jL A) (jL B) = 0 ↔ A = B) ∧ (0 ≤ lg_cmp (jL A) (jL B) ↔ B ≤ A) ∧ (0 ≤ lg_cmp (jL A2) (jL B2) ↔ B ≤ A) ∧ (lg_cmp (jL A2) (jL B2) ≤ 0 ↔ A ≤ B) := by
  have le1 : A2 ≤ B2 ↔ A ≤ B := by
    rw [t1, t2]
    exact Int.mul_le_mul_left g1
  have le2 : B2 ≤ A2 ↔ B ≤ A := by
    rw [t1, t2]
    exact Int.mul_le_mul_left g1
  refine ⟨?_, ?_, ?_, ?_⟩
  · rw [cm_eq0, jL_eq (by omega) (by omega)]
  · rw [cm_ge0, jL_le (by omega) (by omega)]
  · rw [cm_ge0, jL_le (by omega) (by omega), le2]
  · rw [cm_le0, jL_le (by omega) (by omega), le1]
theorem mn_b {U D u d M y N Y : Int} (hU : 0 ≤ U ∧ U ≤ 250000) (hD : 0 ≤ D ∧ D ≤ 125000) (hu : 0 ≤ u ∧ u ≤ 250000) (hd : 0 ≤ d ∧ d ≤ 125000) (hM : 0 ≤ M ∧ M ≤ 50) (hy : 0 ≤ y ∧ y ≤ 50) (hN : 0 ≤ N ∧ N ≤ 50) (hY : 0 ≤ Y ∧ Y ≤ 50) : (0 ≤ u * N ∧ u * N ≤ 12500000) ∧ (0 ≤ Y * d ∧ Y * d ≤ 6250000) ∧ (0 ≤ y * N ∧ y * N ≤ 2500) ∧ (0 ≤ Y * M ∧ Y * M ≤ 2500) ∧ (0 ≤ U * N ∧ U * N ≤ 12500000) ∧ (0 ≤ Y * D ∧ Y * D ≤ 6250000) ∧ (0 ≤ ((u * N - Y * d).natAbs : Int) * M ∧ ((u * N - Y * d).natAbs : Int) * M ≤ 1000000000) ∧ (0 ≤ ((y * N - Y * M).natAbs : Int) * d ∧ ((y * N - Y * M).natAbs : Int) * d ≤ 1000000000) ∧ (0 ≤ ((U * N - Y * D).natAbs : Int) * M ∧ ((U * N - Y * D).natAbs : Int) * M ≤ 1000000000) ∧ (0 ≤ ((y * N - Y * M).natAbs : Int) * D ∧ ((y * N - Y * M).natAbs : Int) * D ≤ 1000000000) := by
  have r1 := ml_bd (a := u) (b := N) (m := 250000) (n := 50) hu hN
  have r2 := ml_bd (a := Y) (b := d) (m := 50) (n := 125000) hY hd
  have r3 := ml_bd (a := y) (b := N) (m := 50) (n := 50) hy hN
  have r4 := ml_bd (a := Y) (b := M) (m := 50) (n := 50) hY hM
  have r5 := ml_bd (a := U) (b := N) (m := 250000) (n := 50) hU hN
  have r6 := ml_bd (a := Y) (b := D) (m := 50) (n := 125000) hY hD
  have s1 := ml_bd (a := ((u * N - Y * d).natAbs : Int)) (b := M) (m := 20000000) (n := 50) (by omega) hM
  have s2 := ml_bd (a := ((y * N - Y * M).natAbs : Int)) (b := d) (m := 5000) (n := 125000) (by omega) hd
  have s3 := ml_bd (a := ((U * N - Y * D).natAbs : Int)) (b := M) (m := 20000000) (n := 50) (by omega) hM
  have s4 := ml_bd (a := ((y * N - Y * M).natAbs : Int)) (b := D) (m := 5000) (n := 125000) (by omega) hD
  refine ⟨?_, ?_, ?_, ?_, ?_, ?_, ?_, ?_, ?_, ?_⟩
  · exact r1
  · exact r2
  · exact r3
  · exact r4
  · exact r5
  · exact r6
  · exact s1
  · exact ⟨s2.1, Int.le_trans s2.2 (by decide)⟩
  · exact s3
  · exact ⟨s4.1, Int.le_trans s4.2 (by decide)⟩
/-- promise 11 -/
theorem st_mends (hc : LInv c) (hB : BInv n hp hli mf) (x1 x2 x3 wp wr : Int32) (am mg : Nat → Int32) (fu fl mu md : Int64) : ∃ (a : Int32) (wp2 wr2 : Int32) (am2 mg2 : Nat → Int32) (fu2 fl2 mu2 md2 : Int64), f_X9_mends x1 x2 x3 (jF c) (nI n) hp hli wp wr am fu fl = some (a, wp2, wr2, am2, fu2, fl2) ∧ f_X10_mends x1 x2 x3 (nI n) mu md (jF c) mf mg = some (a, 0, mu2, md2, mg2) := by
  rw [f_X9_mends, f_X10_mends]
  rcases as_cases x1 x2 x3 with ⟨h1, h2, l, a, b, hl, ha, hb, rfl, rfl, rfl⟩ | ⟨h1, h2⟩
  · obtain ⟨wp2, wr2, m2, am2, mg2, q1, q2, q3⟩ := ask_ok hc hl hB ha hb am mg
    obtain ⟨U, D, w1, w2, w3, w4, w5, w6⟩ := wg_ok hc hl q1 fu fl mu md
    have k := mg_bd hc hl q1
    have l1 : Int32.toInt64 (jI (pN (mI m2) 0)) = jL (pN (mI m2) 0) := jI_l (by omega)
    have l2 : Int32.toInt64 (jI (pY (mI m2) 0)) = jL (pY (mI m2) 0) := jI_l (by omega)
    have l3 : Int32.toInt64 (jI (pN c (8 * l))) = jL (pN c (8 * l)) := jI_l (by omega)
    have l4 : Int32.toInt64 (jI (pY c (8 * l))) = jL (pY c (8 * l)) := jI_l (by omega)
    rw [h1, h2, b1, b1, i10, i10, q2, q3, b1, b1]
    dsimp only
    rw [w5, b1, me_N q1.1, b1, go_N q1.2.1, b1, l1]
    dsimp only
    by_cases hm0 : pN (mI m2) 0 = 0
    · have hz : lg_cmp (jL (pN (mI m2) 0)) 0 = 0 := (cm_eq0 _ _).mpr (by rw [hm0]; rfl)
      simp only [if_pos hz]
      by_cases hD : D = 0
      · rw [hD, (rn_z _).2, th_0, b1, i00]
        exact ⟨_, _, _, _, _, _, _, _, _, rfl, rfl⟩
      · obtain ⟨g1, g2, g3, g4, g5, g6⟩ := rn_g (a := U) (b := D) (by omega)
        rw [th_1 (by omega), b1, i10]
        exact ⟨_, _, _, _, _, _, _, _, _, rfl, rfl⟩
    · have hz : ¬ lg_cmp (jL (pN (mI m2) 0)) 0 = 0 := fun z => hm0 (by
        have z2 := (cm_eq0 _ _).mp z
        rw [show (0 : Int64) = jL 0 from rfl, jL_eq (by omega) (by omega)] at z2
        exact z2)
      simp only [if_neg hz]
      rw [w6]
      by_cases hD : D = 0
      · rw [if_pos hD, hD, (rn_z _).2, th_0, b1, i00, b1]
        dsimp only
        rw [i00]
        exact ⟨_, _, _, _, _, _, _, _, _, rfl, rfl⟩
      · obtain ⟨g1, g2, g3, g4, g5, g6⟩ := rn_g (a := U) (b := D) (by omega)
        have g0 := rn_nn (a := U) (b := D) w1 (by omega)
        rw [if_neg hD, b1, th_1 (by omega), b1, i10]
        dsimp only
        obtain ⟨r1, r2, r3, r4, r5, r6, s1, s2, s3, s4⟩ := mn_b (U := U) (D := D) (u := rn U D) (d := rd U D) (M := pN (mI m2) 0) (y := pY (mI m2) 0) (N := pN c (8 * l)) (Y := pY c (8 * l)) (by omega) (by omega) (by omega) (by omega) (by omega) (by omega) (by omega) (by omega)
        obtain ⟨t1, t2⟩ := mn_s (M := pN (mI m2) 0) (y := pY (mI m2) 0) (N := pN c (8 * l)) (Y := pY c (8 * l)) g1 g3 g4
        obtain ⟨f1, f2, f3, f4⟩ := mn_c g1 s1 s2 s3 s4 t1 t2
        have a1 : f_X10_apart (jL U * jL (pN c (8 * l))) (jL (pY c (8 * l)) * jL D) = some (jL ((U * pN c (8 * l) - pY c (8 * l) * D).natAbs : Nat)) := by
          rw [jL_mul, jL_mul, ap_ok (by omega) (by omega)]
        have a2 : f_X10_apart (jL (pY (mI m2) 0) * jL (pN c (8 * l))) (jL (pY c (8 * l)) * jL (pN (mI m2) 0)) = some (jL ((pY (mI m2) 0 * pN c (8 * l) - pY c (8 * l) * pN (mI m2) 0).natAbs : Nat)) := by
          rw [jL_mul, jL_mul, ap_ok (by omega) (by omega)]
        have a3 : (if 0 < jL (rn U D) * jL (pN c (8 * l)) - jL (pY c (8 * l)) * jL (rd U D) then jL (rn U D) * jL (pN c (8 * l)) - jL (pY c (8 * l)) * jL (rd U D) else -(jL (rn U D) * jL (pN c (8 * l)) - jL (pY c (8 * l)) * jL (rd U D))) = jL ((rn U D * pN c (8 * l) - pY c (8 * l) * rd U D).natAbs : Nat) := by
          rw [jL_mul, jL_mul, jL_sub, ab_j (by omega)]
        have a4 : (if 0 < jL (pY (mI m2) 0) * jL (pN c (8 * l)) - jL (pY c (8 * l)) * jL (pN (mI m2) 0) then jL (pY (mI m2) 0) * jL (pN c (8 * l)) - jL (pY c (8 * l)) * jL (pN (mI m2) 0) else -(jL (pY (mI m2) 0) * jL (pN c (8 * l)) - jL (pY c (8 * l)) * jL (pN (mI m2) 0))) = jL ((pY (mI m2) 0 * pN c (8 * l) - pY c (8 * l) * pN (mI m2) 0).natAbs : Nat) := by
          rw [jL_mul, jL_mul, jL_sub, ab_j (by omega)]
        rw [i10, hv_N c hl, b1, hv_Y c hl, b1, me_Y q1.1, b1, ps_N c hl, b1, ps_Y c hl, b1, l2, l3, l4, a1, b1, go_Y q1.2.1, b1, l2, a2, b1, a3, a4, jL_mul, jL_mul, jL_mul, jL_mul]
        generalize ((rn U D * pN c (8 * l) - pY c (8 * l) * rd U D).natAbs : Int) * pN (mI m2) 0 = A at *
        generalize ((pY (mI m2) 0 * pN c (8 * l) - pY c (8 * l) * pN (mI m2) 0).natAbs : Int) * rd U D = B at *
        generalize ((U * pN c (8 * l) - pY c (8 * l) * D).natAbs : Int) * pN (mI m2) 0 = A2 at *
        generalize ((pY (mI m2) 0 * pN c (8 * l) - pY c (8 * l) * pN (mI m2) 0).natAbs : Int) * D = B2 at *
        by_cases v1 : A = B
        · rw [if_pos (f1.mpr v1), if_pos (f3.mpr (by omega)), if_pos (f4.mpr (by omega))]
          exact ⟨_, _, _, _, _, _, _, _, _, rfl, rfl⟩
        · rw [if_neg (fun z => v1 (f1.mp z))]
          by_cases v2 : B ≤ A
          · rw [if_pos (f2.mpr v2), if_pos (f3.mpr v2), if_neg (fun z => by have := f4.mp z; omega)]
            exact ⟨_, _, _, _, _, _, _, _, _, rfl, rfl⟩
          · rw [if_neg (fun z => v2 (f2.mp z)), if_neg (fun z => v2 (f3.mp z))]
            exact ⟨_, _, _, _, _, _, _, _, _, rfl, rfl⟩
  · simp only [h1, h2, b1, i00]
    exact ⟨_, _, _, _, _, _, _, _, _, rfl, rfl⟩
end FND
