/-! ===== cards: shares and how they lean ===== -/
theorem ml_bd {a b m n : Int} (ha : 0 ≤ a ∧ a ≤ m) (hb : 0 ≤ b ∧ b ≤ n) : 0 ≤ a * b ∧ a * b ≤ m * n := by
  refine ⟨Int.mul_nonneg ha.1 hb.1, ?_⟩
  exact Int.le_trans (Int.mul_le_mul_of_nonneg_right ha.2 hb.1) (Int.mul_le_mul_of_nonneg_left hb.2 (by omega))
theorem rn_nn {a b : Int} (ha : 0 ≤ a) (hb : 0 < b) : 0 ≤ rn a b ∧ rn a b ≤ a := by
  obtain ⟨g1, g2, g3, g4, g5, g6⟩ := rn_g (a := a) hb
  have h1 : 0 ≤ rn a b := by
    rw [rn, if_neg (by omega)]
    exact Int.ediv_nonneg ha (by omega)
  have h2 : 1 * rn a b ≤ (Int.gcd a b : Int) * rn a b := Int.mul_le_mul_of_nonneg_right (by omega) h1
  exact ⟨h1, by omega⟩
theorem rn_z (a : Int) : rn a 0 = 0 ∧ rd a 0 = 0 := ⟨if_pos rfl, if_pos rfl⟩
/-- adding a share to one in least terms -/
theorem ad_ok {a b u d : Int} (hb : 0 < b) (h1 : -4611686018427387904 < rn a b * d + u * rd a b ∧ rn a b * d + u * rd a b < 4611686018427387904) (h2 : 0 ≤ rd a b * d ∧ rd a b * d < 1099511627776) : f_X1_add (jL u) (jL d) (jL (rn a b)) (jL (rd a b)) = some (jL (rn (a * d + u * b) (b * d)), jL (rd (a * d + u * b) (b * d))) := by
  obtain ⟨g1, g2, g3, g4, g5, g6⟩ := rn_g (a := a) hb
  have e1 : a * d + u * b = (Int.gcd a b : Int) * (rn a b * d + u * rd a b) := by
    have q1 : a * d = (Int.gcd a b : Int) * rn a b * d := by rw [← g3]
    have q2 : u * b = u * ((Int.gcd a b : Int) * rd a b) := by rw [← g4]
    rw [q1, q2, Int.mul_add, Int.mul_assoc, Int.mul_left_comm u]
  have e2 : b * d = (Int.gcd a b : Int) * (rd a b * d) := by
    have q1 : b * d = (Int.gcd a b : Int) * rd a b * d := by rw [← g4]
    rw [q1, Int.mul_assoc]
  have hs := rn_scale (a := rn a b * d + u * rd a b) (b := rd a b * d) g1
  rw [f_X1_add, jL_mul, jL_mul, jL_add, jL_mul, bc_ok h1 h2, b1, e1, e2, hs.1, hs.2]
theorem ad_no (u d : Int64) : f_X1_add u d (jL 0) (jL 0) = some (jL 0, jL 0) := by
  have e : jL 0 * d + u * jL 0 = jL 0 := by
    rw [show jL 0 = (0 : Int64) from rfl, Int64.zero_mul, Int64.mul_zero, Int64.add_zero]
  have e2 : jL 0 * d = jL 0 := by
    rw [show jL 0 = (0 : Int64) from rfl, Int64.zero_mul]
  rw [f_X1_add, e, e2, bc_ok (a := 0) (b := 0) (by omega) (by omega), b1, (rn_z 0).1, (rn_z 0).2]
section LND
variable {c r : Nat → Int} (hc : LInv c) (hr : RInv r) {l : Nat} (hl : l < 4)
theorem sb_ok (hc : LInv c) (hr : RInv r) (hl : l < 4) (fu fl : Int64) : f_X9_shareBack (nI l) (jF c) (jF r) fu fl = some (jL (rn (bY c r (8 * l)) (bA c r (8 * l))), jL (rd (bY c r (8 * l)) (bA c r (8 * l)))) := by
  have h1 := bk_all hc hr hl
  have h2 := hc.all hl
  rw [f_X9_shareBack, bc_Y hc hr hl, b1, bc_A hc hr hl, b1, jI_l (by omega), jI_l (by omega), bc_ok (by omega) (by omega), b1]
/-- LEAN, over the one lower number -/
def lnU (c r : Nat → Int) (b : Nat) : Int := bY c r b * pN c b - pY c b * bA c r b
def lnD (c r : Nat → Int) (b : Nat) : Int := bA c r b * pN c b
theorem ln_bd (hc : LInv c) (hr : RInv r) (hl : l < 4) : -2500 ≤ lnU c r (8 * l) ∧ lnU c r (8 * l) ≤ 2500 ∧ 0 ≤ lnD c r (8 * l) ∧ lnD c r (8 * l) ≤ 2500 ∧ (0 < bA c r (8 * l) → 0 < lnD c r (8 * l)) := by
  have h1 := bk_all hc hr hl
  have h2 := hc.all hl
  have q1 := ml_bd (a := bY c r (8 * l)) (b := pN c (8 * l)) (m := 50) (n := 50) (by omega) (by omega)
  have q2 := ml_bd (a := pY c (8 * l)) (b := bA c r (8 * l)) (m := 50) (n := 50) (by omega) (by omega)
  have q3 := ml_bd (a := bA c r (8 * l)) (b := pN c (8 * l)) (m := 50) (n := 50) (by omega) (by omega)
  refine ⟨by unfold lnU; omega, by unfold lnU; omega, q3.1, by unfold lnD; omega, fun h => Int.mul_pos h (by omega)⟩
theorem ln_ok (hc : LInv c) (hr : RInv r) (hl : l < 4) (fu fl : Int64) : f_X9_lean (nI l) (jF c) (jF r) fu fl = some (jL (rn (lnU c r (8 * l)) (lnD c r (8 * l))), jL (rd (lnU c r (8 * l)) (lnD c r (8 * l)))) := by
  have h1 := bk_all hc hr hl
  have h2 := hc.all hl
  rw [f_X9_lean, sb_ok hc hr hl, b1, hv_Y c hl, b1, hv_N c hl, b1, jI_neg, jI_l (by omega), jI_l (by omega)]
  by_cases hA : bA c r (8 * l) = 0
  · have e : lnD c r (8 * l) = 0 := by
      unfold lnD
      rw [hA, Int.zero_mul]
    dsimp only
    rw [hA, e, (rn_z _).1, (rn_z _).2, (rn_z _).1, (rn_z _).2, ad_no, b1]
  · have hb : 0 < bA c r (8 * l) := by omega
    obtain ⟨g1, g2, g3, g4, g5, g6⟩ := rn_g (a := bY c r (8 * l)) hb
    have q0 := rn_nn (a := bY c r (8 * l)) (b := bA c r (8 * l)) h1.1 hb
    have q1 := ml_bd (a := rn (bY c r (8 * l)) (bA c r (8 * l))) (b := pN c (8 * l)) (m := 50) (n := 50) (by omega) (by omega)
    have q2 := ml_bd (a := pY c (8 * l)) (b := rd (bY c r (8 * l)) (bA c r (8 * l))) (m := 50) (n := 50) (by omega) (by omega)
    have q3 := ml_bd (a := rd (bY c r (8 * l)) (bA c r (8 * l))) (b := pN c (8 * l)) (m := 50) (n := 50) (by omega) (by omega)
    have e1 : -pY c (8 * l) * rd (bY c r (8 * l)) (bA c r (8 * l)) = -(pY c (8 * l) * rd (bY c r (8 * l)) (bA c r (8 * l))) := Int.neg_mul _ _
    dsimp only
    rw [ad_ok hb (by rw [e1]; omega) (by omega), b1]
    have e2 : bY c r (8 * l) * pN c (8 * l) + -pY c (8 * l) * bA c r (8 * l) = lnU c r (8 * l) := by
      unfold lnU
      rw [Int.neg_mul]
      omega
    rw [e2]
    rfl
theorem lm_ok (hc : LInv c) (hr : RInv r) (hl : l < 4) : f_X10_leans (nI l) (jF c) (jF r) = some (if bA c r (8 * l) ≤ 0 then 0 else 1, jL (lnU c r (8 * l)), jL (lnD c r (8 * l))) := by
  have h1 := bk_all hc hr hl
  have h2 := hc.all hl
  rw [f_X10_leans, bm_A hc hr hl, b1, ps_N c hl, b1, bm_Y hc hr hl, b1, ps_Y c hl, b1, jI_l (by omega), jI_l (by omega), jI_l (by omega), jI_l (by omega), jL_mul, jL_mul, jL_sub, jL_mul]
  by_cases hA : bA c r (8 * l) ≤ 0
  · rw [if_pos hA, if_pos (by rw [show (0 : Int32) = jI 0 from rfl, jI_le (by omega) (by omega)]; exact hA)]
    rfl
  · rw [if_neg hA, if_neg (fun q => hA (by rw [show (0 : Int32) = jI 0 from rfl, jI_le (by omega) (by omega)] at q; exact q))]
    rfl
end LND
/-- promise 5 -/
theorem st_posted {c r : Nat → Int} (hc : LInv c) (hr : RInv r) (x1 x2 : Int32) (fu fl mu md : Int64) : ∃ (a fu' fl' mu' md' : Int64), f_X9_posted x1 x2 (jF c) (jF r) fu fl = some (a, fu', fl') ∧ f_X10_posted x1 x2 mu md (jF c) (jF r) = some (a, 0, mu', md') := by
  rcases il_cases x1 with ⟨h1, h1', l, hl, rfl⟩ | ⟨h1, h1'⟩
  · rcases wi_cases x2 0 5 with ⟨h3, h4, h5⟩ | h3
    · obtain ⟨v, hv, rfl⟩ := wi_nat (n := 5) (by decide) h4 h5
      have k1 := bk_all hc hr hl
      have k2 := hc.all hl
      have k3 := ln_bd hc hr hl
      have hA0 : bA c r (8 * l) = 0 ∨ 0 < bA c r (8 * l) := by omega
      have e0 : bA c r (8 * l) = 0 → lnD c r (8 * l) = 0 := fun hA => by
        unfold lnD
        rw [hA, Int.zero_mul]
      match v, hv with
      | 0, _ =>
        refine ⟨Int32.toInt64 (jI (bA c r (8 * l))), fu, fl, mu, md, ?_, ?_⟩
        rotate_left
        · rw [f_X10_posted, h1', b1, if_neg (by decide), in_wi, h3, b1, if_neg (by decide), if_neg (by decide), if_pos (by decide), f_X10_posted_b45, bm_A hc hr hl, b1]
        · rw [f_X9_posted, h1, b1, if_neg (by decide), h3, b1, if_neg (by decide), if_pos (by decide), bc_A hc hr hl, b1]
      | 1, _ =>
        refine ⟨Int32.toInt64 (jI (bY c r (8 * l))), fu, fl, mu, md, ?_, ?_⟩
        rotate_left
        · rw [f_X10_posted, h1', b1, if_neg (by decide), in_wi, h3, b1, if_neg (by decide), if_neg (by decide), if_neg (by decide), f_X10_posted_b45, bm_Y hc hr hl, b1]
        · rw [f_X9_posted, h1, b1, if_neg (by decide), h3, b1, if_neg (by decide), if_neg (by decide), if_pos (by decide), bc_Y hc hr hl, b1]
      | 2, _ =>
        have hcl : f_X9_posted (nI l) (nI 2) (jF c) (jF r) fu fl = (f_X1_part 0 (jL (rn (bY c r (8 * l)) (bA c r (8 * l)))) (jL (rd (bY c r (8 * l)) (bA c r (8 * l))))).bind fun q => some (q, jL (rn (bY c r (8 * l)) (bA c r (8 * l))), jL (rd (bY c r (8 * l)) (bA c r (8 * l)))) := by
          rw [f_X9_posted, h1, b1, if_neg (by decide), h3, b1, if_neg (by decide), if_neg (by decide), if_neg (by decide), if_neg (by decide), sb_ok hc hr hl, b1]
          rfl
        have hml : f_X10_posted (nI l) (nI 2) mu md (jF c) (jF r) = if (if bA c r (8 * l) ≤ 0 then (0 : Int32) else 1) = 0 then some (-1000000000000000000, 0, jL (lnU c r (8 * l)), jL (lnD c r (8 * l))) else (f_X10_back (nI l) 170 (jF c) (jF r)).bind fun u_17 => (f_X10_back (nI l) 255 (jF c) (jF r)).bind fun u_19 => f_X10_posted_b106 0 0 (Int32.toInt64 u_17) (Int32.toInt64 u_19) := by
          rw [f_X10_posted, h1', b1, if_neg (by decide), in_wi, h3, b1, if_neg (by decide), if_pos (by decide), lm_ok hc hr hl, b1]
          rfl
        rw [hcl, hml]
        rcases hA0 with hA | hA
        · rw [hA, (rn_z _).2, pt_no, b1, if_pos (by decide)]
          exact ⟨_, _, _, _, _, rfl, rfl⟩
        · obtain ⟨g1, g2, g3, g4, g5, g6⟩ := rn_g (a := bY c r (8 * l)) hA
          rw [pt_0 (by omega), b1, if_neg (by rw [if_neg (by omega : ¬ bA c r (8 * l) ≤ 0)]; decide), bm_Y hc hr hl, b1, bm_A hc hr hl, b1, jI_l (by omega), jI_l (by omega), f_X10_posted_b106, told_0 (by omega) (by omega), b1]
          exact ⟨_, _, _, _, _, rfl, rfl⟩
      | 3, _ =>
        have hcl : f_X9_posted (nI l) (nI 3) (jF c) (jF r) fu fl = (f_X1_part 1 (jL (rn (bY c r (8 * l)) (bA c r (8 * l)))) (jL (rd (bY c r (8 * l)) (bA c r (8 * l))))).bind fun q => some (q, jL (rn (bY c r (8 * l)) (bA c r (8 * l))), jL (rd (bY c r (8 * l)) (bA c r (8 * l)))) := by
          rw [f_X9_posted, h1, b1, if_neg (by decide), h3, b1, if_neg (by decide), if_neg (by decide), if_neg (by decide), if_neg (by decide), sb_ok hc hr hl, b1]
          rfl
        have hml : f_X10_posted (nI l) (nI 3) mu md (jF c) (jF r) = if (if bA c r (8 * l) ≤ 0 then (0 : Int32) else 1) = 0 then some (-1000000000000000000, 0, jL (lnU c r (8 * l)), jL (lnD c r (8 * l))) else (f_X10_back (nI l) 170 (jF c) (jF r)).bind fun u_17 => (f_X10_back (nI l) 255 (jF c) (jF r)).bind fun u_19 => f_X10_posted_b106 1 0 (Int32.toInt64 u_17) (Int32.toInt64 u_19) := by
          rw [f_X10_posted, h1', b1, if_neg (by decide), in_wi, h3, b1, if_neg (by decide), if_pos (by decide), lm_ok hc hr hl, b1]
          rfl
        rw [hcl, hml]
        rcases hA0 with hA | hA
        · rw [hA, (rn_z _).2, pt_no, b1, if_pos (by decide)]
          exact ⟨_, _, _, _, _, rfl, rfl⟩
        · obtain ⟨g1, g2, g3, g4, g5, g6⟩ := rn_g (a := bY c r (8 * l)) hA
          rw [pt_1 (by omega), b1, if_neg (by rw [if_neg (by omega : ¬ bA c r (8 * l) ≤ 0)]; decide), bm_Y hc hr hl, b1, bm_A hc hr hl, b1, jI_l (by omega), jI_l (by omega), f_X10_posted_b106, told_1 (by omega) (by omega), b1]
          exact ⟨_, _, _, _, _, rfl, rfl⟩
      | 4, _ =>
        have hcl : f_X9_posted (nI l) (nI 4) (jF c) (jF r) fu fl = (f_X1_part 0 (jL (rn (lnU c r (8 * l)) (lnD c r (8 * l)))) (jL (rd (lnU c r (8 * l)) (lnD c r (8 * l))))).bind fun q => some (q, jL (rn (lnU c r (8 * l)) (lnD c r (8 * l))), jL (rd (lnU c r (8 * l)) (lnD c r (8 * l)))) := by
          rw [f_X9_posted, h1, b1, if_neg (by decide), h3, b1, if_neg (by decide), if_neg (by decide), if_neg (by decide), if_pos (by decide), ln_ok hc hr hl, b1]
          rfl
        have hml : f_X10_posted (nI l) (nI 4) mu md (jF c) (jF r) = if (if bA c r (8 * l) ≤ 0 then (0 : Int32) else 1) = 0 then some (-1000000000000000000, 0, jL (lnU c r (8 * l)), jL (lnD c r (8 * l))) else f_X10_posted_b106 0 0 (jL (lnU c r (8 * l))) (jL (lnD c r (8 * l))) := by
          rw [f_X10_posted, h1', b1, if_neg (by decide), in_wi, h3, b1, if_neg (by decide), if_pos (by decide), lm_ok hc hr hl, b1]
          rfl
        rw [hcl, hml]
        rcases hA0 with hA | hA
        · rw [hA, e0 hA, (rn_z _).2, pt_no, b1, if_pos (by decide)]
          exact ⟨_, _, _, _, _, rfl, rfl⟩
        · obtain ⟨g1, g2, g3, g4, g5, g6⟩ := rn_g (a := lnU c r (8 * l)) (k3.2.2.2.2 hA)
          have hD := k3.2.2.2.2 hA
          rw [pt_0 (by omega), b1, if_neg (by rw [if_neg (by omega : ¬ bA c r (8 * l) ≤ 0)]; decide), f_X10_posted_b106, told_0 (by omega) (by omega), b1]
          exact ⟨_, _, _, _, _, rfl, rfl⟩
      | 5, _ =>
        have hcl : f_X9_posted (nI l) (nI 5) (jF c) (jF r) fu fl = (f_X1_part 1 (jL (rn (lnU c r (8 * l)) (lnD c r (8 * l)))) (jL (rd (lnU c r (8 * l)) (lnD c r (8 * l))))).bind fun q => some (q, jL (rn (lnU c r (8 * l)) (lnD c r (8 * l))), jL (rd (lnU c r (8 * l)) (lnD c r (8 * l)))) := by
          rw [f_X9_posted, h1, b1, if_neg (by decide), h3, b1, if_neg (by decide), if_neg (by decide), if_neg (by decide), if_pos (by decide), ln_ok hc hr hl, b1]
          rfl
        have hml : f_X10_posted (nI l) (nI 5) mu md (jF c) (jF r) = if (if bA c r (8 * l) ≤ 0 then (0 : Int32) else 1) = 0 then some (-1000000000000000000, 0, jL (lnU c r (8 * l)), jL (lnD c r (8 * l))) else f_X10_posted_b106 1 0 (jL (lnU c r (8 * l))) (jL (lnD c r (8 * l))) := by
          rw [f_X10_posted, h1', b1, if_neg (by decide), in_wi, h3, b1, if_neg (by decide), if_pos (by decide), lm_ok hc hr hl, b1]
          rfl
        rw [hcl, hml]
        rcases hA0 with hA | hA
        · rw [hA, e0 hA, (rn_z _).2, pt_no, b1, if_pos (by decide)]
          exact ⟨_, _, _, _, _, rfl, rfl⟩
        · obtain ⟨g1, g2, g3, g4, g5, g6⟩ := rn_g (a := lnU c r (8 * l)) (k3.2.2.2.2 hA)
          have hD := k3.2.2.2.2 hA
          rw [pt_1 (by omega), b1, if_neg (by rw [if_neg (by omega : ¬ bA c r (8 * l) ≤ 0)]; decide), f_X10_posted_b106, told_1 (by omega) (by omega), b1]
          exact ⟨_, _, _, _, _, rfl, rfl⟩
      | v + 6, h => exact absurd h (by omega)
    · exact ⟨-1000000000000000000, fu, fl, mu, md, by rw [f_X9_posted, h1, b1, if_neg (by decide), h3, b1, if_pos rfl], by rw [f_X10_posted, h1', b1, if_neg (by decide), in_wi, h3, b1, if_pos rfl]⟩
  · exact ⟨-1000000000000000000, fu, fl, mu, md, by rw [f_X9_posted, h1, b1, if_pos rfl], by rw [f_X10_posted, h1', b1, if_pos rfl]⟩
