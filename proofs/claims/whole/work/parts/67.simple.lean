/-! ===== text's bytes, prices, cost, begin, count ===== -/
theorem ty_loop (v : Int64) : ∀ (j k ln : Nat) (t : Nat → Nat), j ≤ 8 → ln + j ≤ 300 → j < k → (∀ i, t i ≤ 255) → ∃ t' : Nat → Nat, (∀ i, t' i ≤ 255) ∧ f_X6_append_L20 v k (jI ((j : Int) - 1)) (nI ln) (nF t) = some (nI (ln + j), nI (ln + j), nF t') ∧ f_X10_type_L37 v 0 k (jI ((j : Int) - 1)) (nI ln) (nF t) = some (nI (ln + j), 0, nI (ln + j), nF t') := by
  intro j
  induction j with
  | zero =>
    intro k ln t hj hl hk ht
    obtain ⟨k, rfl⟩ : ∃ q, k = q + 1 := ⟨k - 1, by omega⟩
    refine ⟨t, ht, ?_, ?_⟩
    · show f_X6_append_L20_body v (f_X6_append_L20 v k) (jI (((0 : Nat) : Int) - 1)) (nI ln) (nF t) = _
      rw [f_X6_append_L20_body, if_pos (by decide)]
      rfl
    · show f_X10_type_L37_body v 0 (f_X10_type_L37 v 0 k) (jI (((0 : Nat) : Int) - 1)) (nI ln) (nF t) = _
      rw [f_X10_type_L37_body, if_pos (by decide)]
      rfl
  | succ j ih =>
    intro k ln t hj hl hk ht
    obtain ⟨k, rfl⟩ : ∃ q, k = q + 1 := ⟨k - 1, by omega⟩
    have e : jI (((j + 1 : Nat) : Int) - 1) = nI j := by
      rw [jI_n]
      congr 1
      omega
    have e2 : nI j + (-1 : Int32) = jI ((j : Int) - 1) := by
      rw [jI_n, show (-1 : Int32) = jI (-1) from rfl, jI_add]
      rfl
    have hb := by_same v (k := j) (by omega)
    have hb2 := pk_and (Int64.toInt32 ((Int64.toUInt64 v >>> (Int64.toUInt64 (Int32.toInt64 ((8 : Int32) * nI j)) &&& Int64.toUInt64 63)).toInt64)) (m := (255 : Int32)) 8 (by decide)
    generalize hbb : (Int64.toInt32 ((Int64.toUInt64 v >>> (Int64.toUInt64 (Int32.toInt64 ((8 : Int32) * nI j)) &&& Int64.toUInt64 63)).toInt64)).toBitVec.toNat % 2 ^ 8 = b at hb2
    have hb3 : b ≤ 255 := by
      have := Nat.mod_lt (Int64.toInt32 ((Int64.toUInt64 v >>> (Int64.toUInt64 (Int32.toInt64 ((8 : Int32) * nI j)) &&& Int64.toUInt64 63)).toInt64)).toBitVec.toNat (show 0 < 2 ^ 8 by decide)
      omega
    obtain ⟨t', h1, h2, h3⟩ := ih k (ln + 1) (fun i => if i = ln then b else t i) (by omega) (by omega) (by omega) (fun i => by
      show (if i = ln then b else t i) ≤ 255
      split
      · exact hb3
      · exact ht i)
    have hneg : ¬ nI j < 0 := nI_pos (by omega)
    refine ⟨t', h1, ?_, ?_⟩
    · rw [e]
      show f_X6_append_L20_body v (f_X6_append_L20 v k) (nI j) (nI ln) (nF t) = _
      rw [f_X6_append_L20_body, if_neg hneg, if_pos (ib_n (by omega) (by decide)), hb2, e2, nI_1, cl_n (by omega), nF_upd, h2, show ln + 1 + j = ln + (j + 1) by omega]
    · rw [e]
      show f_X10_type_L37_body v 0 (f_X10_type_L37 v 0 k) (nI j) (nI ln) (nF t) = _
      rw [f_X10_type_L37_body, if_neg hneg, if_pos (ib_n (by omega) (by decide)), ← hb, hb2, e2, nI_1, cl_n (by omega), nF_upd, h3, show ln + 1 + j = ln + (j + 1) by omega]
/-- promise 6 -/
theorem st_type {ln : Nat} {t : Nat → Nat} (hl : ln ≤ 300) (ht : ∀ i, t i ≤ 255) (v : Int64) (x3 : Int32) : ∃ (a : Int32) (ln' : Nat) (t' : Nat → Nat), ln' ≤ 300 ∧ (∀ i, t' i ≤ 255) ∧ f_X9_type v x3 (nI ln) (nF t) = some (a, nI ln', nF t') ∧ f_X10_type v x3 (nI ln) (nF t) = some (a, 0, nI ln', nF t') := by
  rcases wi_cases x3 1 8 with ⟨h3, h4, h5⟩ | h3
  · have h4' : ¬ x3 < 0 := fun q => h4 (Int32.lt_trans q (by decide))
    obtain ⟨n, hn, rfl⟩ := wi_nat (n := 8) (by decide) h4' h5
    have hn1 : 1 ≤ n := by
      rcases Nat.eq_zero_or_pos n with q | q
      · subst q
        exact absurd (by decide) h4
      · exact q
    by_cases hf : ln + n ≤ 300
    · obtain ⟨t', q1, q2, q3⟩ := ty_loop v n pa_fu ln t (by omega) hf (by have : pa_fu = 4096 := rfl; omega) ht
      have e : nI n - (1 : Int32) = jI ((n : Int) - 1) := by
        rw [jI_n, show (1 : Int32) = jI 1 from rfl, jI_sub]
      have hle : nI ln + nI n ≤ (300 : Int32) := by
        rw [nI_add]
        exact (nle_n (b := 300) (by omega) (by omega)).mpr hf
      refine ⟨nI (ln + n), ln + n, t', hf, q1, ?_, ?_⟩
      · rw [f_X9_type, h3, b1, if_neg (by decide), f_X6_append, if_pos hle, e, q2, b1]
      · rw [f_X10_type, in_wi, h3, b1, if_neg (by decide), if_pos hle, e, q3]
    · have hle : ¬ nI ln + nI n ≤ (300 : Int32) := by
        rw [nI_add]
        intro q
        have := (nle_n (b := 300) (by omega) (by omega)).mp q
        omega
      refine ⟨-3, ln, t, hl, ht, ?_, ?_⟩
      · rw [f_X9_type, h3, b1, if_neg (by decide), f_X6_append, if_neg hle, b1]
      · rw [f_X10_type, in_wi, h3, b1, if_neg (by decide), if_neg hle]
  · exact ⟨-1, ln, t, hl, ht, by rw [f_X9_type, h3, b1, if_pos rfl], by rw [f_X10_type, in_wi, h3, b1, if_pos rfl]⟩
/-- prices -/
def PInv (p : Nat → Nat) : Prop := p 0 ≤ 99 ∧ p 1 ≤ 99 ∧ 1 ≤ p 2 ∧ p 2 ≤ 100
/-- promise 22 -/
theorem st_price {p : Nat → Nat} (hp : PInv p) (x1 x2 : Int32) : ∃ (a : Int32) (p' : Nat → Nat), PInv p' ∧ f_X9_price x1 x2 (nF p) = some (a, nF p') ∧ f_X10_price x1 x2 (nI (p 0)) (nI (p 1)) (nI (p 2)) = some (a, 0, nI (p' 0), nI (p' 1), nI (p' 2)) := by
  obtain ⟨p0, p1, p2, p3⟩ := id hp
  rcases wi_cases x1 0 2 with ⟨h3, h4, h5⟩ | h3
  · obtain ⟨n, hn, rfl⟩ := wi_nat (n := 2) (by decide) h4 h5
    match n, hn with
    | 0, _ =>
      rcases wi_cases x2 0 99 with ⟨g1, g2, g3⟩ | g1
      · obtain ⟨v, hv, rfl⟩ := wi_nat (n := 99) (by decide) g2 g3
        refine ⟨nI (p 0), fun i => if i = 0 then v else p i, ⟨hv, p1, p2, p3⟩, ?_, ?_⟩
        · rw [f_X9_price, h3, b1, if_neg (by decide), if_neg (by decide), g1, b1, f_X9_price_b33, if_neg (by decide), if_pos (by decide), show Int32.toNatClampNeg (nI 0) = 0 from rfl, nF_upd]
          rfl
        · rw [f_X10_price, in_wi, h3, b1, if_neg (by decide), if_neg (by decide), f_X10_price_b25, if_neg (by decide), f_X10_price_b37, in_wi, g1, b1]
          rfl
      · refine ⟨-1, p, hp, ?_, ?_⟩
        · rw [f_X9_price, h3, b1, if_neg (by decide), if_neg (by decide), g1, b1, f_X9_price_b33, if_pos rfl]
        · rw [f_X10_price, in_wi, h3, b1, if_neg (by decide), if_neg (by decide), f_X10_price_b25, if_neg (by decide), f_X10_price_b37, in_wi, g1, b1, if_pos rfl]
    | 1, _ =>
      rcases wi_cases x2 0 99 with ⟨g1, g2, g3⟩ | g1
      · obtain ⟨v, hv, rfl⟩ := wi_nat (n := 99) (by decide) g2 g3
        refine ⟨nI (p 1), fun i => if i = 1 then v else p i, ⟨p0, hv, p2, p3⟩, ?_, ?_⟩
        · rw [f_X9_price, h3, b1, if_neg (by decide), if_neg (by decide), g1, b1, f_X9_price_b33, if_neg (by decide), if_pos (by decide), show Int32.toNatClampNeg (nI 1) = 1 from rfl, nF_upd]
          rfl
        · rw [f_X10_price, in_wi, h3, b1, if_neg (by decide), if_neg (by decide), f_X10_price_b25, if_neg (by decide), f_X10_price_b37, in_wi, g1, b1]
          rfl
      · refine ⟨-1, p, hp, ?_, ?_⟩
        · rw [f_X9_price, h3, b1, if_neg (by decide), if_neg (by decide), g1, b1, f_X9_price_b33, if_pos rfl]
        · rw [f_X10_price, in_wi, h3, b1, if_neg (by decide), if_neg (by decide), f_X10_price_b25, if_neg (by decide), f_X10_price_b37, in_wi, g1, b1, if_pos rfl]
    | 2, _ =>
      rcases wi_cases x2 1 100 with ⟨g1, g2, g3⟩ | g1
      · have g2' : ¬ x2 < 0 := fun q => g2 (Int32.lt_trans q (by decide))
        obtain ⟨v, hv, rfl⟩ := wi_nat (n := 100) (by decide) g2' g3
        have hv1 : 1 ≤ v := by
          rcases Nat.eq_zero_or_pos v with q | q
          · subst q
            exact absurd (by decide) g2
          · exact q
        refine ⟨nI (p 2), fun i => if i = 2 then v else p i, ⟨p0, p1, hv1, hv⟩, ?_, ?_⟩
        · rw [f_X9_price, h3, b1, if_neg (by decide), if_pos (by decide), g1, b1, f_X9_price_b33, if_neg (by decide), if_pos (by decide), show Int32.toNatClampNeg (nI 2) = 2 from rfl, nF_upd]
          rfl
        · rw [f_X10_price, in_wi, h3, b1, if_neg (by decide), if_pos (by decide), f_X10_price_b25, if_pos (by decide), f_X10_price_b37, in_wi, g1, b1]
          rfl
      · refine ⟨-1, p, hp, ?_, ?_⟩
        · rw [f_X9_price, h3, b1, if_neg (by decide), if_pos (by decide), g1, b1, f_X9_price_b33, if_pos rfl]
        · rw [f_X10_price, in_wi, h3, b1, if_neg (by decide), if_pos (by decide), f_X10_price_b25, if_pos (by decide), f_X10_price_b37, in_wi, g1, b1, if_pos rfl]
    | n + 3, h => exact absurd h (by omega)
  · exact ⟨-1, p, hp, by rw [f_X9_price, h3, b1, if_pos rfl], by rw [f_X10_price, in_wi, h3, b1, if_pos rfl]⟩
theorem mulpr {a : Nat} {n : Int} (ha : a ≤ 99) (hn : 0 ≤ n ∧ n ≤ 50) : nI a * jI n = jI (a * n) ∧ 0 ≤ (a : Int) * n ∧ (a : Int) * n ≤ 4950 := by
  have h := ml_bd (a := (a : Int)) (b := n) (m := 99) (n := 50) (by omega) hn
  exact ⟨by rw [jI_n, jI_mul], h.1, by omega⟩
theorem cd_ok {c : Nat → Int} {p : Nat → Nat} {l : Nat} (hl : l < 4) : f_X9_cards (nI l) (jF c) (nF p) = some (nI (p 0) * jI (pL c (8 * l))) := by
  rw [f_X9_cards, if_pos (by decide), hv_L c hl, b1]
  rfl
/-- promise 25 -/
theorem st_cost {c : Nat → Int} (hc : LInv c) {p : Nat → Nat} (hp : PInv p) (x1 x2 : Int32) (tr : Int64) (fi we : Int32) : ∃ (a : Int32) (tr' : Int64), f_X9_cost x1 x2 tr (jF c) fi we (nF p) = some (a, tr') ∧ f_X10_cost x1 x2 tr fi we (nI (p 0)) (nI (p 1)) (jF c) = some (a, 0, tr') := by
  rcases il_cases x2 with ⟨h1, h1', l, hl, rfl⟩ | ⟨h1, h1'⟩
  · have ha := hc.all hl
    have m0 := mulpr hp.1 (n := pL c (8 * l)) (by omega)
    have m1 := mulpr hp.2.1 (n := pN c (8 * l)) (by omega)
    have hlot : ∀ z : Int64, f_X9_lotCost (nI l) z (jF c) (nF p) = some (2 + nI (p 1) * jI (pN c (8 * l)), z + 1000 + 1) := fun z => by
      rw [f_X9_lotCost, f_X9_askingCost, b1, if_pos (by decide), hv_N c hl, b1]
      rfl
    have hpos : ∀ z : Int64, f_X9_postedCost (nI l) z (jF c) (nF p) = some (2 + nI (p 0) * jI (pL c (8 * l)), z + 10 + 1) := fun z => by
      rw [f_X9_postedCost, f_X9_askingCost, b1, cd_ok hl, b1]
    have e2 : (2 : Int32) = jI 2 := rfl
    rcases wi_cases x1 0 6 with ⟨h3, h4, h5⟩ | h3
    · obtain ⟨n, hn, rfl⟩ := wi_nat (n := 6) (by decide) h4 h5
      have hm : f_X10_cost (nI n) (nI l) tr fi we (nI (p 0)) (nI (p 1)) (jF c) = f_X10_cost_b128 (nI n) (2 + nI (p 0) * jI (pL c (8 * l))) (2 + nI (p 1) * jI (pN c (8 * l))) tr (if n = 0 then 1 else if n = 1 then 11 else if n = 2 then 101 else if n = 3 then 1001 else if n = 4 then 11001 else if n = 5 then 100001 else 1000011) 0 fi we := by
        rw [f_X10_cost, in_wi, h3, b1, if_neg (by decide), h1', b1, if_neg (by decide), ps_L c hl, b1, ps_N c hl, b1]
        match n, hn with
        | 0, _ => rfl
        | 1, _ => rfl
        | 2, _ => rfl
        | 3, _ => rfl
        | 4, _ => rfl
        | 5, _ => rfl
        | 6, _ => rfl
        | n + 7, h => exact absurd h (by omega)
      rw [hm]
      match n, hn with
      | 0, _ => exact ⟨2, tr + 1, by rw [f_X9_cost, h1, b1, if_neg (by decide), if_pos (by decide)]; rfl, rfl⟩
      | 1, _ =>
        refine ⟨2 + nI (p 0) * jI (pL c (8 * l)), tr + 11, ?_, rfl⟩
        rw [f_X9_cost, h1, b1, if_neg (by decide), if_neg (by decide), if_pos (by decide), hpos, b1, Int64.add_assoc]
        rfl
      | 2, _ =>
        refine ⟨2 + fi, tr + 101, ?_, rfl⟩
        rw [f_X9_cost, h1, b1, if_neg (by decide), if_neg (by decide), if_neg (by decide), if_pos (by decide), f_X9_quotaCost, f_X9_askingCost, b1, b1, Int64.add_assoc]
        rfl
      | 3, _ =>
        refine ⟨2 + nI (p 1) * jI (pN c (8 * l)), tr + 1001, ?_, rfl⟩
        rw [f_X9_cost, h1, b1, if_neg (by decide), if_neg (by decide), if_neg (by decide), if_neg (by decide), if_pos (by decide), hlot, b1, Int64.add_assoc]
        rfl
      | 4, _ =>
        refine ⟨3 * (2 + nI (p 1) * jI (pN c (8 * l))) / 2, tr + 11001, ?_, rfl⟩
        rw [f_X9_cost, h1, b1, if_neg (by decide), if_neg (by decide), if_neg (by decide), if_neg (by decide), if_neg (by decide), if_pos (by decide), f_X9_calledCost, hlot, b1, b1, Int64.add_assoc, Int64.add_assoc]
        dsimp only
        rw [m1.1, e2, jI_add, jI_div (by omega) (by omega), jI_add, show (3 : Int32) = jI 3 from rfl, jI_mul, jI_div (by omega) (by omega)]
        have : (2 + ↑(p 1) * pN c (8 * l) + (2 + ↑(p 1) * pN c (8 * l)) / 2 : Int) = 3 * (2 + ↑(p 1) * pN c (8 * l)) / 2 := by omega
        rw [this]
        rfl
      | 5, _ =>
        refine ⟨2 + we, tr + 100001, ?_, rfl⟩
        rw [f_X9_cost, h1, b1, if_neg (by decide), if_neg (by decide), if_neg (by decide), if_neg (by decide), if_neg (by decide), if_neg (by decide), if_pos (by decide), f_X9_lateCost, f_X9_askingCost, b1, b1, Int64.add_assoc]
        rfl
      | 6, _ =>
        refine ⟨(2 + nI (p 0) * jI (pL c (8 * l)) + 9) / 10, tr + 1000011, ?_, rfl⟩
        rw [f_X9_cost, h1, b1, if_neg (by decide), if_neg (by decide), if_neg (by decide), if_neg (by decide), if_neg (by decide), if_neg (by decide), if_neg (by decide), if_pos (by decide), f_X9_shadowCost, hpos, b1, b1, Int64.add_assoc, Int64.add_assoc]
        rfl
      | n + 7, h => exact absurd h (by omega)
    · have hne : ∀ k, k < 7 → ¬ x1 = nI k := fun k hk q => by
        rw [q, wi_t (nI_pos (by omega)) (fun z => by have := (nlt_n (a := 6) (by omega) (by omega)).mp z; omega)] at h3
        exact absurd h3 (by decide)
      refine ⟨-1, tr, ?_, ?_⟩
      · rw [f_X9_cost, h1, b1, if_neg (by decide), if_neg (show ¬ x1 = 0 from hne 0 (by omega)), if_neg (show ¬ x1 = 1 from hne 1 (by omega)), if_neg (show ¬ x1 = 2 from hne 2 (by omega)), if_neg (show ¬ x1 = 3 from hne 3 (by omega)), if_neg (show ¬ x1 = 4 from hne 4 (by omega)), if_neg (show ¬ x1 = 5 from hne 5 (by omega)), if_neg (show ¬ x1 = 6 from hne 6 (by omega))]
      · rw [f_X10_cost, in_wi, h3, b1, if_pos rfl]
  · refine ⟨-1, tr, by rw [f_X9_cost, h1, b1, if_pos rfl], ?_⟩
    rcases wi_cases x1 0 6 with ⟨h3, -, -⟩ | h3
    · rw [f_X10_cost, in_wi, h3, b1, if_neg (by decide), h1', b1, if_pos rfl]
    · rw [f_X10_cost, in_wi, h3, b1, if_pos rfl]
theorem ev_c (c : Nat → Int) : f_X4_everybody (jF c) = some (jI (pN c 0 + pN c 8 + pN c 16 + pN c 24)) := by
  have e : f_X4_everybody (jF c) = (f_X4_having (nI 0) 0 (jF c)).bind fun u0 => (f_X4_having (nI 1) 0 (jF c)).bind fun u1 => (f_X4_having (nI 2) 0 (jF c)).bind fun u2 => (f_X4_having (nI 3) 0 (jF c)).bind fun u3 => some (0 + u0 + u1 + u2 + u3) := rfl
  rw [e, hv_N c (by decide), b1, hv_N c (by decide), b1, hv_N c (by decide), b1, hv_N c (by decide), b1, jI_z1, jI_add, jI_add, jI_add]
theorem ev_m (c : Nat → Int) : f_X10_everybody (jF c) = some (jI (pN c 0 + pN c 8 + pN c 16 + pN c 24)) := by
  have e : f_X10_everybody (jF c) = (f_X10_persons (nI 0) 255 (jF c)).bind fun u0 => (f_X10_persons (nI 1) 255 (jF c)).bind fun u1 => (f_X10_persons (nI 2) 255 (jF c)).bind fun u2 => (f_X10_persons (nI 3) 255 (jF c)).bind fun u3 => some (0 + u0 + u1 + u2 + u3) := rfl
  rw [e, ps_N c (by decide), b1, ps_N c (by decide), b1, ps_N c (by decide), b1, ps_N c (by decide), b1, jI_z1, jI_add, jI_add, jI_add]
theorem bg_loop (f : Nat → Int32) (a : Int32) : ∀ (j k i : Nat), i + j = 32 → j < k → f_X10_begin_L12 a 0 k (nI i) (pa_fillI f i 0) = some (a, 0, 0, 0, pa_fillI f 32 0) := by
  intro j
  induction j with
  | zero =>
    intro k i hi hk
    obtain ⟨k, rfl⟩ : ∃ q, k = q + 1 := ⟨k - 1, by omega⟩
    have e : i = 32 := by omega
    subst e
    show f_X10_begin_L12_body a 0 (f_X10_begin_L12 a 0 k) (nI 32) (pa_fillI f 32 0) = _
    rw [f_X10_begin_L12_body, if_pos (by decide)]
  | succ j ih =>
    intro k i hi hk
    obtain ⟨k, rfl⟩ : ∃ q, k = q + 1 := ⟨k - 1, by omega⟩
    show f_X10_begin_L12_body a 0 (f_X10_begin_L12 a 0 k) (nI i) (pa_fillI f i 0) = _
    rw [f_X10_begin_L12_body, if_neg (fun q => by have := (nle_n (a := 32) (by omega) (by omega)).mp q; omega), if_pos (ib_n (by omega) (by decide)), nI_1, cl_n (by omega), pa_fillI_s]
    exact ih k (i + 1) (by omega) (by omega)
theorem fill_j (c : Nat → Int) : pa_fillI (jF c) 32 0 = jF (fun i => if i < 32 then 0 else c i) := by
  funext i
  show (if i < 32 then (0 : Int32) else jI (c i)) = jI (if i < 32 then 0 else c i)
  by_cases h : i < 32
  · rw [if_pos h, if_pos h]
    rfl
  · rw [if_neg h, if_neg h]
/-- promise 26 -/
theorem st_begin {c : Nat → Int} (hc : LInv c) (we ro : Int32) : ∃ (a : Int32) (c' : Nat → Int), LInv c' ∧ f_X9_begin (jF c) we ro = some (a, jF c', 0, 0) ∧ f_X10_begin (jF c) = some (a, 0, 0, 0, jF c') := by
  refine ⟨jI (pN c 0 + pN c 8 + pN c 16 + pN c 24), fun i => if i < 32 then 0 else c i, ⟨?_, ?_⟩, ?_, ?_⟩
  · intro i
    show 0 ≤ (if i < 32 then (0 : Int) else c i)
    split
    · exact Int.le_refl 0
    · exact hc.1 i
  · intro l hl
    unfold pN
    simp only [show 8 * l + 0 < 32 by omega, show 8 * l + 1 < 32 by omega, show 8 * l + 2 < 32 by omega, show 8 * l + 3 < 32 by omega, show 8 * l + 4 < 32 by omega, show 8 * l + 5 < 32 by omega, show 8 * l + 6 < 32 by omega, show 8 * l + 7 < 32 by omega, if_true]
    decide
  · rw [f_X9_begin, ev_c, b1, f_X4_empty, b1, f_X8_empty, b1, f_X3_empty, b1, fill_j]
  · rw [f_X10_begin, ev_m, b1, ← fill_j]
    have := bg_loop (jF c) (jI (pN c 0 + pN c 8 + pN c 16 + pN c 24)) 32 pa_fu 0 rfl (by decide)
    rw [pa_fillI_0] at this
    exact this
/-- promise 27 -/
theorem st_count (c : Nat → Int) (x1 ln fi we ro : Int32) : ∃ a : Int32, f_X9_count x1 (jF c) ln fi we ro = some a ∧ f_X10_count x1 ln fi we ro (jF c) = some (a, 0) := by
  rw [f_X9_count, f_X10_count, ev_c, ev_m, b1, b1]
  by_cases h0 : x1 = 0
  · exact ⟨_, by rw [if_pos h0], by rw [if_pos h0]⟩
  · by_cases h1 : x1 = 1
    · exact ⟨_, by rw [if_neg h0, if_pos h1], by rw [if_neg h0, if_pos h1]⟩
    · by_cases h2 : x1 = 2
      · exact ⟨_, by rw [if_neg h0, if_neg h1, if_pos h2], by rw [if_neg h0, if_neg h1, if_pos h2]⟩
      · by_cases h3 : x1 = 3
        · exact ⟨_, by rw [if_neg h0, if_neg h1, if_neg h2, if_pos h3], by rw [if_neg h0, if_neg h1, if_neg h2, if_pos h3]⟩
        · by_cases h4 : x1 = 4
          · exact ⟨_, by rw [if_neg h0, if_neg h1, if_neg h2, if_neg h3, if_pos h4], by rw [if_neg h0, if_neg h1, if_neg h2, if_neg h3, if_pos h4]⟩
          · exact ⟨_, by rw [if_neg h0, if_neg h1, if_neg h2, if_neg h3, if_neg h4], by rw [if_neg h0, if_neg h1, if_neg h2, if_neg h3, if_neg h4]⟩
