/-! ===== weeks ===== -/
theorem nI_11 : (1 : Int32) = nI 1 := rfl
theorem nle_n {a b : Nat} (ha : a < 2147483648) (hb : b < 2147483648) : nI a ≤ nI b ↔ a ≤ b := nI_leI (by omega) (by omega)
theorem nlt_n {a b : Nat} (ha : a < 2147483648) (hb : b < 2147483648) : nI a < nI b ↔ a < b := nI_ltI (by omega) (by omega)
theorem ch_same (w : Nat → Int32) (d n : Nat) (s : Int32) : ∀ (k : Nat) (v : Int32) (i : Nat), f_X8_greatestChange_L16 (nI d) s (nI n) w k v (nI i) = f_X10_moves_L18 (nI d) s (nI n) w k v (nI (i + d)) := by
  intro k
  induction k with
  | zero =>
    intro v i
    rfl
  | succ k ih =>
    intro v i
    show f_X8_greatestChange_L16_body (nI d) s (nI n) w (f_X8_greatestChange_L16 (nI d) s (nI n) w k) v (nI i) = f_X10_moves_L18_body (nI d) s (nI n) w (f_X10_moves_L18 (nI d) s (nI n) w k) v (nI (i + d))
    rw [f_X8_greatestChange_L16_body, f_X10_moves_L18_body, nI_add, pk_sub (Nat.le_add_left d i), Nat.add_sub_cancel, nI_1, nI_1, ih, show i + d + 1 = i + 1 + d by omega]
    by_cases h1 : nI n ≤ nI (i + d)
    · rw [if_pos h1, if_pos h1]
    · rw [if_neg h1, if_neg h1]
      by_cases h2 : pa_ib (nI (i + d)) 60 = true
      · rw [if_pos h2, if_pos h2]
        by_cases h3 : pa_ib (nI i) 60 = true
        · rw [if_pos h3, if_pos h3]
          generalize s * (w (Int32.toNatClampNeg (nI (i + d))) - w (Int32.toNatClampNeg (nI i))) = t
          by_cases h4 : v < t
          · rw [if_pos h4, if_neg (Int32.not_le.mpr h4)]
          · rw [if_neg h4, if_pos (Int32.not_lt.mp h4)]
        · rw [if_neg h3, if_neg h3]
      · rw [if_neg h2, if_neg h2]
theorem ch_some (w : Nat → Int32) (d n : Nat) (s : Int32) (hn : n ≤ 60) : ∀ (j k : Nat) (v : Int32) (i : Nat), i + d + j = n → j < k → ¬ v < 0 → ∃ r : Int32, ¬ r < 0 ∧ f_X8_greatestChange_L16 (nI d) s (nI n) w k v (nI i) = some r := by
  intro j
  induction j with
  | zero =>
    intro k v i hi hk hv
    obtain ⟨k, rfl⟩ : ∃ q, k = q + 1 := ⟨k - 1, by omega⟩
    refine ⟨v, hv, ?_⟩
    show f_X8_greatestChange_L16_body (nI d) s (nI n) w (f_X8_greatestChange_L16 (nI d) s (nI n) w k) v (nI i) = _
    rw [f_X8_greatestChange_L16_body, nI_add, if_pos ((nle_n (by omega) (by omega)).mpr (by omega))]
  | succ j ih =>
    intro k v i hi hk hv
    obtain ⟨k, rfl⟩ : ∃ q, k = q + 1 := ⟨k - 1, by omega⟩
    show ∃ r : Int32, ¬ r < 0 ∧ f_X8_greatestChange_L16_body (nI d) s (nI n) w (f_X8_greatestChange_L16 (nI d) s (nI n) w k) v (nI i) = _
    rw [f_X8_greatestChange_L16_body, nI_add, if_neg (fun q => by have := (nle_n (by omega) (by omega)).mp q; omega), if_pos (ib_n (by omega) (by decide)), if_pos (ib_n (by omega) (by decide)), nI_1]
    refine ih k _ (i + 1) (by omega) (by omega) ?_
    intro hlt
    generalize s * (w (Int32.toNatClampNeg (nI (i + d))) - w (Int32.toNatClampNeg (nI i))) = t at hlt
    by_cases h4 : v < t
    · rw [if_pos h4] at hlt
      exact hv (Int32.lt_trans h4 hlt)
    · rw [if_neg h4] at hlt
      exact hv hlt
theorem ch_in {w : Nat → Int32} {d n : Nat} {s : Int32} (hn : n ≤ 60) (h : d < n) : ∃ r : Int32, ¬ r < 0 ∧ f_X8_greatestChange (nI d) s (nI n) w = some r ∧ f_X10_moves (nI d) s (nI n) w = some r := by
  obtain ⟨r, hr, e⟩ := ch_some w d n s hn (n - d) pa_fu 0 0 (by omega) (by have : pa_fu = 4096 := rfl; omega) (by decide)
  refine ⟨r, hr, ?_, ?_⟩
  · rw [f_X8_greatestChange, if_pos ((nlt_n (by omega) (by omega)).mpr h)]
    exact e
  · rw [f_X10_moves, if_neg (fun q => by have := (nle_n (by omega) (by omega)).mp q; omega)]
    have e2 := ch_same w d n s pa_fu 0 0
    rw [Nat.zero_add] at e2
    rw [← e2]
    exact e
theorem ch_out {w : Nat → Int32} {d n : Nat} {s : Int32} (hn : n ≤ 60) (hd : d ≤ 60) (h : n ≤ d) : f_X8_greatestChange (nI d) s (nI n) w = some (-9) ∧ f_X10_moves (nI d) s (nI n) w = some (-9) := by
  constructor
  · rw [f_X8_greatestChange, if_neg (fun q => by have := (nlt_n (by omega) (by omega)).mp q; omega)]
  · rw [f_X10_moves, if_pos ((nle_n (by omega) (by omega)).mpr h)]
    show f_X10_moves_L18_body (nI d) s (nI n) w (f_X10_moves_L18 (nI d) s (nI n) w 4095) (-9) (nI d) = _
    rw [f_X10_moves_L18_body, if_pos ((nle_n (by omega) (by omega)).mpr h)]
theorem ch_both {w : Nat → Int32} {d n : Nat} (s : Int32) (hn : n ≤ 60) (hd : d ≤ 60) : ∃ r : Int32, f_X8_greatestChange (nI d) s (nI n) w = some r ∧ f_X10_moves (nI d) s (nI n) w = some r := by
  rcases Nat.lt_or_ge d n with h | h
  · obtain ⟨r, -, h1, h2⟩ := ch_in (w := w) (s := s) hn h
    exact ⟨r, h1, h2⟩
  · exact ⟨_, (ch_out hn hd h).1, (ch_out hn hd h).2⟩
/-- promise 16 -/
theorem st_week {n : Nat} (hn : n ≤ 60) (w : Nat → Int32) (x1 : Int32) : ∃ (r : Int32) (n' : Nat) (w' : Nat → Int32), n' ≤ 60 ∧ f_X9_week x1 (nI n) w = some (r, nI n', w') ∧ f_X10_week x1 (nI n) w = some (r, 0, nI n', w') := by
  rcases wi_cases x1 0 1000 with ⟨h3, h4, h5⟩ | h3
  · rcases Nat.lt_or_ge n 60 with h | h
    · refine ⟨nI (n + 1), n + 1, upd w n x1, by omega, ?_, ?_⟩
      · rw [f_X9_week, h3, b1, if_neg (by decide), f_X8_append, if_pos (show nI n < (60 : Int32) from (nlt_n (b := 60) (by omega) (by omega)).mpr h), if_pos (ib_n h (by decide)), b1, nI_1, cl_n (by omega)]
      · rw [f_X10_week, in_wi, h3, b1, if_neg (by decide), if_neg (fun q => by have := (nI_eq (b := 60) (by omega) (by omega)).mp q; omega), if_pos (ib_n h (by decide)), nI_1, cl_n (by omega)]
    · have e : n = 60 := by omega
      subst e
      refine ⟨-3, 60, w, by omega, ?_, ?_⟩
      · rw [f_X9_week, h3, b1, if_neg (by decide), f_X8_append, if_neg (by decide), b1]
      · rw [f_X10_week, in_wi, h3, b1, if_neg (by decide), if_pos (by decide)]
  · exact ⟨-1, n, w, hn, by rw [f_X9_week, h3, b1, if_pos rfl], by rw [f_X10_week, in_wi, h3, b1, if_pos rfl]⟩
/-- promise 17 -/
theorem st_turn {n : Nat} (hn : n ≤ 60) (w : Nat → Int32) (x1 x2 : Int32) : ∃ r : Int32, f_X9_turn x1 x2 (nI n) w = some r ∧ f_X10_turn x1 x2 (nI n) w = some (r, 0) := by
  rcases wi_cases x1 1 60 with ⟨h3, h4, h5⟩ | h3
  · have h4' : ¬ x1 < 0 := fun q => h4 (Int32.lt_trans q (by decide))
    obtain ⟨d, hd, rfl⟩ := wi_nat (n := 60) (by decide) h4' h5
    rcases wi_cases x2 0 1 with ⟨h6, h7, h8⟩ | h6
    · by_cases h9 : x2 = 0
      · obtain ⟨r, q1, q2⟩ := ch_both (w := w) 1 hn hd
        refine ⟨r, ?_, ?_⟩
        · rw [f_X9_turn, h3, b1, if_neg (by decide), h6, b1, if_neg (by decide), if_pos h9, f_X8_rise, q1, b1, b1]
        · rw [f_X10_turn, in_wi, h3, b1, if_neg (by decide), h6, b1, if_neg (by decide), if_pos h9, f_X10_turn_b35, q2, b1]
      · obtain ⟨r, q1, q2⟩ := ch_both (w := w) (-1) hn hd
        refine ⟨r, ?_, ?_⟩
        · rw [f_X9_turn, h3, b1, if_neg (by decide), h6, b1, if_neg (by decide), if_neg h9, f_X8_fall, q1, b1, b1]
        · rw [f_X10_turn, in_wi, h3, b1, if_neg (by decide), h6, b1, if_neg (by decide), if_neg h9, f_X10_turn_b35, q2, b1]
    · exact ⟨-1, by rw [f_X9_turn, h3, b1, if_neg (by decide), h6, b1, if_pos rfl], by rw [f_X10_turn, in_wi, h3, b1, if_neg (by decide), h6, b1, if_pos rfl]⟩
  · exact ⟨-1, by rw [f_X9_turn, h3, b1, if_pos rfl], by rw [f_X10_turn, in_wi, h3, b1, if_pos rfl]⟩
theorem so_end (n : Nat) (w : Nat → Int32) (k : Nat) (x : Int32) : f_X10_stops_L20 0 (nI n) w (k + 1) x 0 = some (x, 0) := by
  show f_X10_stops_L20_body 0 (nI n) w (f_X10_stops_L20 0 (nI n) w k) x 0 = _
  rw [f_X10_stops_L20_body, if_pos rfl]
theorem ne9 {r : Int32} (h : ¬ r < 0) : ¬ r = -9 := fun e => h (by rw [e]; decide)
theorem so_step {n : Nat} (hn : n ≤ 60) (w : Nat → Int32) : ∀ (j i k1 k2 : Nat), i + 1 + j = n → j < k1 → 2 * j + 1 < k2 → ∃ r : Int32, f_X8_sure_L2 (nI n) w k1 (nI i) = some r ∧ f_X10_stops_L20 0 (nI n) w k2 (nI i) 1 = some (r, 0) := by
  intro j
  induction j with
  | zero =>
    intro i k1 k2 hi h1 h2
    obtain ⟨k1, rfl⟩ : ∃ q, k1 = q + 1 := ⟨k1 - 1, by omega⟩
    obtain ⟨k2, rfl⟩ : ∃ q, k2 = q + 2 := ⟨k2 - 2, by omega⟩
    refine ⟨nI i, ?_, ?_⟩
    · show f_X8_sure_L2_body (nI n) w (f_X8_sure_L2 (nI n) w k1) (nI i) = _
      rw [f_X8_sure_L2_body, nI_1, if_pos ((nle_n (by omega) (by omega)).mpr (by omega))]
    · show f_X10_stops_L20_body 0 (nI n) w (f_X10_stops_L20 0 (nI n) w (k2 + 1)) (nI i) 1 = _
      have hm : nI n - (1 : Int32) = nI (n - 1) := pk_sub (b := 1) (by omega)
      rw [f_X10_stops_L20_body, if_neg (by decide), hm, if_pos (ib_n (by omega) (by decide)), nI_1]
      have e9 : ∀ (s x3 : Int32), f_X10_stops_b52 (f_X10_stops_L20 0 (nI n) w (k2 + 1)) (nI i) x3 (nI (i + 1)) s 0 (nI n) w = some (nI i, 0) := by
        intro s x3
        rw [f_X10_stops_b52, (ch_out (w := w) (s := s) hn (by omega) (by omega : n ≤ i + 1)).2, b1, if_pos rfl, f_X10_stops_b98, f_X10_stops_b99, if_pos rfl, so_end, Int32.add_zero]
      rw [e9, e9]
      split <;> rfl
  | succ j ih =>
    intro i k1 k2 hi h1 h2
    obtain ⟨k1, rfl⟩ : ∃ q, k1 = q + 1 := ⟨k1 - 1, by omega⟩
    obtain ⟨k2, rfl⟩ : ∃ q, k2 = q + 2 := ⟨k2 - 2, by omega⟩
    show ∃ r : Int32, f_X8_sure_L2_body (nI n) w (f_X8_sure_L2 (nI n) w k1) (nI i) = some r ∧ f_X10_stops_L20_body 0 (nI n) w (f_X10_stops_L20 0 (nI n) w (k2 + 1)) (nI i) 1 = some (r, 0)
    have hm : nI n - (1 : Int32) = nI (n - 1) := pk_sub (b := 1) (by omega)
    rw [f_X8_sure_L2_body, nI_1, if_neg (fun q => by have := (nle_n (by omega) (by omega)).mp q; omega), f_X10_stops_L20_body, if_neg (by decide), hm, if_pos (ib_n (by omega) (by decide)), nI_1, f_X8_stays, hm, if_pos (ib_n (by omega) (by decide))]
    have stop : f_X10_stops_b98 (f_X10_stops_L20 0 (nI n) w (k2 + 1)) (nI i) 0 (nI n) w = some (nI i, 0) := by
      rw [f_X10_stops_b98, f_X10_stops_b99, if_pos rfl, so_end, Int32.add_zero]
    obtain ⟨r, hr1, hr2⟩ := ih (i + 1) k1 (k2 + 1) (by omega) (by omega) (by omega)
    have go : f_X10_stops_b94 (f_X10_stops_L20 0 (nI n) w (k2 + 1)) (nI i) 0 (nI n) w = some (r, 0) := by
      rw [f_X10_stops_b94, f_X10_stops_b99, if_neg (by decide), nI_1, hr2]
    generalize w (Int32.toNatClampNeg (nI (n - 1))) = last
    by_cases h5 : last < (500 : Int32)
    · obtain ⟨v, hv, q1, q2⟩ := ch_in (w := w) (s := 1) hn (by omega : i + 1 < n)
      rw [if_pos h5, if_pos h5, f_X8_rise, q1, b1, b1, f_X10_stops_b52, q2, b1, if_neg (ne9 hv), if_pos h5]
      by_cases h6 : (500 : Int32) ≤ last + v
      · rw [if_pos h6, if_pos h6, b1, if_pos rfl]
        exact ⟨_, rfl, stop⟩
      · rw [if_neg h6, if_neg h6, b1, if_neg (by decide)]
        exact ⟨r, hr1, go⟩
    · obtain ⟨v, hv, q1, q2⟩ := ch_in (w := w) (s := -1) hn (by omega : i + 1 < n)
      rw [if_neg h5, if_neg h5, f_X8_fall, q1, b1, b1, f_X10_stops_b52, q2, b1, if_neg (ne9 hv), if_neg h5]
      by_cases h6 : last - v < (500 : Int32)
      · rw [if_pos h6, if_pos h6, b1, if_pos rfl]
        exact ⟨_, rfl, stop⟩
      · rw [if_neg h6, if_neg h6, b1, if_neg (by decide)]
        exact ⟨r, hr1, go⟩
/-- promise 18 -/
theorem st_stops {n : Nat} (hn : n ≤ 60) (w : Nat → Int32) : ∃ r : Int32, f_X9_stops (nI n) w = some r ∧ f_X10_stops (nI n) w = some (r, 0) := by
  rcases Nat.eq_zero_or_pos n with h | h
  · subst h
    exact ⟨0, rfl, rfl⟩
  · obtain ⟨r, q1, q2⟩ := so_step hn w (n - 1) 0 pa_fu pa_fu (by omega) (by have : pa_fu = 4096 := rfl; omega) (by have : pa_fu = 4096 := rfl; omega)
    refine ⟨r, ?_, ?_⟩
    · rw [f_X9_stops, f_X8_sure]
      exact (congrArg (fun q => Option.bind q _) q1)
    · rw [f_X10_stops, if_neg (fun q => by have := (nle_n (b := 0) (by omega) (by omega)).mp q; omega)]
      exact q2
