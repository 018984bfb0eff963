/-! ===== a house's rows ===== -/
def nF (h : Nat → Nat) : Nat → Int32 := fun i => nI (h i)
theorem nF_upd (c : Nat → Nat) (k z : Nat) : upd (nF c) k (nI z) = nF (fun i => if i = k then z else c i) := by
  funext i
  by_cases h : i = k
  · rw [h, pk_us]
    show nI z = nI (if k = k then z else c k)
    rw [if_pos rfl]
  · rw [pk_un h]
    show nI (c i) = nI (if i = k then z else c i)
    rw [if_neg h]
def cnt (h : Nat → Nat) (x : Nat) : Nat → Nat
  | 0 => 0
  | n + 1 => cnt h x n + (if h n ≤ x then 1 else 0)
theorem cnt_bd (h : Nat → Nat) (x : Nat) : ∀ n, cnt h x n ≤ n := by
  intro n
  induction n with
  | zero => exact Nat.le_refl 0
  | succ n ih =>
    show cnt h x n + (if h n ≤ x then 1 else 0) ≤ n + 1
    split <;> omega
theorem cnt_cong {h h' : Nat → Nat} (x : Nat) : ∀ n, (∀ i, i < n → h i = h' i) → cnt h x n = cnt h' x n := by
  intro n
  induction n with
  | zero => intro _; rfl
  | succ n ih =>
    intro hh
    show cnt h x n + _ = cnt h' x n + _
    rw [ih (fun i hi => hh i (by omega)), hh n (by omega)]
theorem cnt_ge {h : Nat → Nat} {x k : Nat} (hk : ∀ i, i < k → h i ≤ x) : ∀ n, k ≤ n → k ≤ cnt h x n := by
  have h0 : ∀ n, n ≤ k → cnt h x n = n := by
    intro n
    induction n with
    | zero => intro _; rfl
    | succ n ih =>
      intro hn
      show cnt h x n + _ = _
      rw [ih (by omega), if_pos (hk n (by omega))]
  intro n
  induction n with
  | zero => intro hn; omega
  | succ n ih =>
    intro hn
    rcases Nat.lt_or_ge n k with q | q
    · rw [h0 (n + 1) (by omega)]
      exact hn
    · have := ih q
      show k ≤ cnt h x n + _
      omega
theorem cnt_le {h : Nat → Nat} {x k : Nat} : ∀ n, (∀ i, k ≤ i → i < n → x < h i) → cnt h x n ≤ k := by
  intro n
  induction n with
  | zero => intro _; exact Nat.zero_le k
  | succ n ih =>
    intro hh
    rcases Nat.lt_or_ge n k with q | q
    · have := cnt_bd h x (n + 1)
      omega
    · show cnt h x n + (if h n ≤ x then 1 else 0) ≤ k
      have h1 := hh n q (by omega)
      rw [if_neg (by omega)]
      exact ih (fun i h1 h2 => hh i h1 (by omega))
/-- by how much row i's span was too small -/
def nd (m : Nat → Nat) (i : Nat) : Nat := (m (3 * i) - m (3 * i + 2)) + (m (3 * i + 2) - m (3 * i)) - m (3 * i + 1)
theorem ho_loop (h : Nat → Nat) {x r : Nat} (hr : r ≤ 24) (hh : ∀ i, h i ≤ 1000) (hx : x ≤ 1000) : ∀ (j k i : Nat), i + j = r → j < k → f_X3_holding_L4 (nI x) (nI r) (nF h) k (nI (cnt h x i)) (nI i) = some (nI (cnt h x r)) := by
  intro j
  induction j with
  | zero =>
    intro k i hi hk
    obtain ⟨k, rfl⟩ : ∃ q, k = q + 1 := ⟨k - 1, by omega⟩
    have e : i = r := by omega
    subst e
    show f_X3_holding_L4_body (nI x) (nI i) (nF h) (f_X3_holding_L4 (nI x) (nI i) (nF h) k) (nI (cnt h x i)) (nI i) = _
    rw [f_X3_holding_L4_body, if_pos (Int32.le_refl _)]
  | succ j ih =>
    intro k i hi hk
    obtain ⟨k, rfl⟩ : ∃ q, k = q + 1 := ⟨k - 1, by omega⟩
    show f_X3_holding_L4_body (nI x) (nI r) (nF h) (f_X3_holding_L4 (nI x) (nI r) (nF h) k) (nI (cnt h x i)) (nI i) = _
    rw [f_X3_holding_L4_body, if_neg (fun q => by have := (nle_n (by omega) (by omega)).mp q; omega), if_pos (ib_n (by omega) (by decide)), cl_n (by omega), nI_1, nI_1]
    have hb := hh i
    have := ih k (i + 1) (by omega) (by omega)
    by_cases hc : h i ≤ x
    · rw [if_neg (fun q => by have := (nlt_n (a := x) (b := h i) (by omega) (by omega)).mp q; omega), ← this]
      show _ = f_X3_holding_L4 (nI x) (nI r) (nF h) k (nI (cnt h x i + (if h i ≤ x then 1 else 0))) (nI (i + 1))
      rw [if_pos hc]
    · rw [if_pos (show nI x < nF h i from (nlt_n (by omega) (by omega)).mpr (by omega)), ← this]
      show _ = f_X3_holding_L4 (nI x) (nI r) (nF h) k (nI (cnt h x i + (if h i ≤ x then 1 else 0))) (nI (i + 1))
      rw [if_neg hc]
      rfl
theorem ho_ok (h : Nat → Nat) {x r : Nat} (hr : r ≤ 24) (hh : ∀ i, h i ≤ 1000) (hx : x ≤ 1000) : f_X3_holding (nI x) (nI r) (nF h) = some (nI (cnt h x r)) :=
  ho_loop h hr hh hx r pa_fu 0 (by omega) (by have : pa_fu = 4096 := rfl; omega)
theorem n3 (i : Nat) : (3 : Int32) * nI i = nI (3 * i) := by
  rw [show (3 : Int32) = nI 3 from rfl, pk_mul]
theorem dist_n {a b : Nat} (ha : a ≤ 1000) (hb : b ≤ 1000) : (0 ≤ nI a - nI b → nI a - nI b = nI (a - b + (b - a))) ∧ (¬ 0 ≤ nI a - nI b → -(nI a - nI b) = nI (a - b + (b - a)) ∧ 0 - (nI a - nI b) = nI (a - b + (b - a))) := by
  have e : nI a - nI b = jI ((a : Int) - b) := by rw [jI_n, jI_n, jI_sub]
  rw [e, show (0 : Int32) = jI 0 from rfl, jI_le (by omega) (by omega)]
  refine ⟨fun h => ?_, fun h => ?_⟩
  · rw [jI_n]
    congr 1
    omega
  · rw [jI_neg, jI_sub, jI_n]
    refine ⟨?_, ?_⟩
    · congr 1
      omega
    · congr 1
      omega
theorem hb_loop (m : Nat → Nat) {x r : Nat} (hr : r ≤ 24) (hm : ∀ i, m i ≤ 1000) (hx : x ≤ 1000) : ∀ (j k i : Nat), i + j = r → j < k → f_X10_heldBy_L4 (nI x) (nI r) (nF m) k (nI (cnt (nd m) x i)) (nI i) = some (nI (cnt (nd m) x r)) := by
  intro j
  induction j with
  | zero =>
    intro k i hi hk
    obtain ⟨k, rfl⟩ : ∃ q, k = q + 1 := ⟨k - 1, by omega⟩
    have e : i = r := by omega
    subst e
    show f_X10_heldBy_L4_body (nI x) (nI i) (nF m) (f_X10_heldBy_L4 (nI x) (nI i) (nF m) k) (nI (cnt (nd m) x i)) (nI i) = _
    rw [f_X10_heldBy_L4_body, if_pos (Int32.le_refl _)]
  | succ j ih =>
    intro k i hi hk
    obtain ⟨k, rfl⟩ : ∃ q, k = q + 1 := ⟨k - 1, by omega⟩
    show f_X10_heldBy_L4_body (nI x) (nI r) (nF m) (f_X10_heldBy_L4 (nI x) (nI r) (nF m) k) (nI (cnt (nd m) x i)) (nI i) = _
    have h0 := hm (3 * i)
    have h1 := hm (3 * i + 1)
    have h2 := hm (3 * i + 2)
    have ih1 := ih k (i + 1) (by omega) (by omega)
    have e2 : nI (3 * i) + (2 : Int32) = nI (3 * i + 2) := nI_add (3 * i) 2
    have key : f_X10_heldBy_b47 (f_X10_heldBy_L4 (nI x) (nI r) (nF m) k) (nI x) (nI i) (nI (cnt (nd m) x i)) (nI (m (3 * i) - m (3 * i + 2) + (m (3 * i + 2) - m (3 * i)))) (nI r) (nF m) = some (nI (cnt (nd m) x r)) := by
      rw [f_X10_heldBy_b47, n3, nI_1, if_pos (ib_n (by omega) (by decide)), cl_n (by omega), nI_1, nI_1, ← ih1]
      show (if nI (m (3 * i + 1)) + nI x < _ then _ else _) = f_X10_heldBy_L4 (nI x) (nI r) (nF m) k (nI (cnt (nd m) x i + (if nd m i ≤ x then 1 else 0))) (nI (i + 1))
      rw [nI_add]
      by_cases hc : nd m i ≤ x
      · rw [if_pos hc, if_neg (fun q => by
          have := (nlt_n (by omega) (by omega)).mp q
          unfold nd at hc
          omega)]
      · rw [if_neg hc, if_pos ((nlt_n (by omega) (by omega)).mpr (by unfold nd at hc; omega)), Int32.add_zero]
        rfl
    have hd := dist_n h0 h2
    rw [f_X10_heldBy_L4_body, if_neg (fun q => by have := (nle_n (by omega) (by omega)).mp q; omega), n3, if_pos (ib_n (by omega) (by decide)), e2, if_pos (ib_n (by omega) (by decide)), cl_n (by omega), cl_n (by omega)]
    show (if 0 ≤ nI (m (3 * i)) - nI (m (3 * i + 2)) then f_X10_heldBy_b47 _ _ _ _ (nI (m (3 * i)) - nI (m (3 * i + 2))) _ _ else f_X10_heldBy_b47 _ _ _ _ (-(nI (m (3 * i)) - nI (m (3 * i + 2)))) _ _) = _
    by_cases hs : 0 ≤ nI (m (3 * i)) - nI (m (3 * i + 2))
    · rw [if_pos hs, hd.1 hs]
      exact key
    · rw [if_neg hs, (hd.2 hs).1]
      exact key
theorem hb_ok (m : Nat → Nat) {x r : Nat} (hr : r ≤ 24) (hm : ∀ i, m i ≤ 1000) (hx : x ≤ 1000) : f_X10_heldBy (nI x) (nI r) (nF m) = some (nI (cnt (nd m) x r)) :=
  hb_loop m hr hm hx r pa_fu 0 (by omega) (by have : pa_fu = 4096 := rfl; omega)
/-- the rows: class's needs, least first, against the reference's rows -/
def HInv (r : Nat) (h m : Nat → Nat) : Prop := r ≤ 24 ∧ (∀ i, h i ≤ 1000) ∧ (∀ i, m i ≤ 1000) ∧ (∀ i j, i ≤ j → j < r → h i ≤ h j) ∧ ∀ x, cnt h x r = cnt (nd m) x r
def shf (h : Nat → Nat) (a r : Nat) : Nat → Nat := fun i => if i ≤ a then h i else if i ≤ r then h (i - 1) else h i
def ins (h : Nat → Nat) (a r v : Nat) : Nat → Nat := fun i => if i < a then h i else if i = a then v else if i ≤ r then h (i - 1) else h i
theorem shf_step (h : Nat → Nat) {a r : Nat} (ha : a < r) : (fun i => if i = a + 1 then shf h (a + 1) r a else shf h (a + 1) r i) = shf h a r := by
  funext i
  unfold shf
  by_cases h1 : i = a + 1
  · rw [if_pos h1, if_pos (by omega), if_neg (by omega), if_pos (by omega), h1, Nat.add_sub_cancel]
  · rw [if_neg h1]
    by_cases h2 : i ≤ a
    · rw [if_pos h2, if_pos (by omega)]
    · rw [if_neg h2, if_neg (by omega)]
theorem shf_ins (h : Nat → Nat) {a r : Nat} (v : Nat) : (fun i => if i = a then v else shf h a r i) = ins h a r v := by
  funext i
  unfold shf ins
  by_cases h1 : i = a
  · rw [if_pos h1, if_neg (by omega), if_pos h1]
  · rw [if_neg h1]
    by_cases h2 : i < a
    · rw [if_pos h2, if_pos (by omega)]
    · rw [if_neg h2, if_neg h1, if_neg (by omega)]
theorem shf_r (h : Nat → Nat) (r : Nat) : shf h r r = h := by
  funext i
  unfold shf
  by_cases h1 : i ≤ r
  · rw [if_pos h1]
  · rw [if_neg h1, if_neg h1]
theorem ap_loop {h : Nat → Nat} {r v : Nat} (hr : r < 24) (hh : ∀ i, h i ≤ 1000) (hv : v ≤ 1000) : ∀ (a k : Nat), a ≤ r → a < k → (∀ i, a ≤ i → i < r → v < h i) → ∃ a' : Nat, a' ≤ r ∧ (a' = 0 ∨ h (a' - 1) ≤ v) ∧ (∀ i, a' ≤ i → i < r → v < h i) ∧ f_X3_append_L17 (nI v) (nI r) k (nI a) (nF (shf h a r)) = some (nI (r + 1), nI (r + 1), nF (ins h a' r v)) := by
  intro a
  induction a with
  | zero =>
    intro k ha hk hp
    obtain ⟨k, rfl⟩ : ∃ q, k = q + 1 := ⟨k - 1, by omega⟩
    refine ⟨0, by omega, Or.inl rfl, hp, ?_⟩
    show f_X3_append_L17_body (nI v) (nI r) (f_X3_append_L17 (nI v) (nI r) k) (nI 0) (nF (shf h 0 r)) = _
    rw [f_X3_append_L17_body, if_pos (by decide), if_pos (by decide), nI_1, show Int32.toNatClampNeg (nI 0) = 0 from rfl, nF_upd, shf_ins]
  | succ a ih =>
    intro k ha hk hp
    obtain ⟨k, rfl⟩ : ∃ q, k = q + 1 := ⟨k - 1, by omega⟩
    show ∃ a' : Nat, a' ≤ r ∧ (a' = 0 ∨ h (a' - 1) ≤ v) ∧ (∀ i, a' ≤ i → i < r → v < h i) ∧ f_X3_append_L17_body (nI v) (nI r) (f_X3_append_L17 (nI v) (nI r) k) (nI (a + 1)) (nF (shf h (a + 1) r)) = _
    have hs : shf h (a + 1) r a = h a := if_pos (by omega)
    have hle := hh a
    rw [f_X3_append_L17_body, if_neg (fun q => by have := (nle_n (b := 0) (by omega) (by omega)).mp q; omega), nI_pred, if_pos (ib_n (by omega) (by decide)), cl_n (by omega), show nI (a + 1) + (-1 : Int32) = nI a from pk_m1 a, nI_1, if_pos (ib_n (by omega) (by decide)), if_pos (ib_n (by omega) (by decide)), cl_n (by omega)]
    show ∃ a' : Nat, a' ≤ r ∧ (a' = 0 ∨ h (a' - 1) ≤ v) ∧ (∀ i, a' ≤ i → i < r → v < h i) ∧ (if nI (shf h (a + 1) r a) ≤ nI v then _ else f_X3_append_L17 (nI v) (nI r) k (nI a) (upd (nF (shf h (a + 1) r)) (a + 1) (nI (shf h (a + 1) r a)))) = _
    by_cases hc : h a ≤ v
    · refine ⟨a + 1, ha, Or.inr hc, hp, ?_⟩
      rw [if_pos (by rw [hs]; exact (nle_n (by omega) (by omega)).mpr hc), nF_upd, shf_ins]
    · rw [if_neg (fun q => by
        rw [hs] at q
        have := (nle_n (by omega) (by omega)).mp q
        omega), nF_upd, shf_step h (by omega)]
      exact ih k (by omega) (by omega) (fun i h1 h2 => by
        rcases Nat.lt_or_ge a i with q | q
        · exact hp i (by omega) h2
        · have : i = a := by omega
          subst this
          omega)
theorem cnt_ins (h : Nat → Nat) {a r v : Nat} (x : Nat) (ha : a ≤ r) : cnt (ins h a r v) x (r + 1) = cnt h x r + (if v ≤ x then 1 else 0) := by
  have h1 : ∀ n, n ≤ a → cnt (ins h a r v) x n = cnt h x n := fun n hn => cnt_cong x n (fun i hi => if_pos (by omega))
  have h2 : ∀ j, a + j ≤ r → cnt (ins h a r v) x (a + j + 1) = cnt h x (a + j) + (if v ≤ x then 1 else 0) := by
    intro j
    induction j with
    | zero =>
      intro _
      show cnt (ins h a r v) x a + (if ins h a r v a ≤ x then 1 else 0) = _
      rw [h1 a (Nat.le_refl a), show ins h a r v a = v by unfold ins; rw [if_neg (by omega), if_pos rfl]]
      rfl
    | succ j ih =>
      intro hj
      show cnt (ins h a r v) x (a + j + 1) + (if ins h a r v (a + (j + 1)) ≤ x then 1 else 0) = cnt h x (a + j) + (if h (a + j) ≤ x then 1 else 0) + _
      rw [ih (by omega), show ins h a r v (a + (j + 1)) = h (a + j) by
        unfold ins
        rw [if_neg (by omega), if_neg (by omega), if_pos (by omega)]
        congr 1]
      omega
  have h3 := h2 (r - a) (by omega)
  rw [show a + (r - a) = r by omega] at h3
  exact h3
theorem nd_at {m : Nat → Nat} {r i : Nat} {a b k : Nat} (h : i < r) : nd (fun q => if q = 3 * r + 2 then k else if q = 3 * r + 1 then b else if q = 3 * r then a else m q) i = nd m i := by
  unfold nd
  simp only [show ¬ 3 * i = 3 * r + 2 by omega, show ¬ 3 * i = 3 * r + 1 by omega, show ¬ 3 * i = 3 * r by omega, show ¬ 3 * i + 2 = 3 * r + 2 by omega, show ¬ 3 * i + 2 = 3 * r + 1 by omega, show ¬ 3 * i + 2 = 3 * r by omega, show ¬ 3 * i + 1 = 3 * r + 2 by omega, show ¬ 3 * i + 1 = 3 * r + 1 by omega, show ¬ 3 * i + 1 = 3 * r by omega, if_false]
theorem nd_new {m : Nat → Nat} {r : Nat} {a b k : Nat} : nd (fun q => if q = 3 * r + 2 then k else if q = 3 * r + 1 then b else if q = 3 * r then a else m q) r = (a - k) + (k - a) - b := by
  unfold nd
  simp only [show ¬ 3 * r = 3 * r + 2 by omega, show ¬ 3 * r = 3 * r + 1 by omega, show ¬ 3 * r + 1 = 3 * r + 2 by omega, if_false, if_true]
theorem need_n {a b k : Nat} (ha : a ≤ 1000) (hb : b ≤ 1000) (hk : k ≤ 1000) : (if (0 : Int32) < ((if 0 ≤ (nI a - nI k) then (nI a - nI k) else 0 - (nI a - nI k)) - nI b) then ((if 0 ≤ (nI a - nI k) then (nI a - nI k) else 0 - (nI a - nI k)) - nI b) else (0 : Int32)) = nI ((a - k) + (k - a) - b) := by
  have hd := dist_n ha hk
  have e : (if 0 ≤ (nI a - nI k) then (nI a - nI k) else 0 - (nI a - nI k)) = nI (a - k + (k - a)) := by
    by_cases hs : 0 ≤ nI a - nI k
    · rw [if_pos hs, hd.1 hs]
    · rw [if_neg hs, (hd.2 hs).2]
  rw [e, jI_n, jI_n, jI_sub, show (0 : Int32) = jI 0 from rfl]
  by_cases hp : (0 : Int) < ((a - k + (k - a) : Nat) : Int) - (b : Int)
  · rw [if_pos ((jI_lt (by omega) (by omega)).mpr hp), jI_n]
    congr 1
    omega
  · rw [if_neg (fun q => hp ((jI_lt (by omega) (by omega)).mp q)), jI_n]
    congr 1
    omega
/-- promise 19 -/
theorem st_house {r : Nat} {h m : Nat → Nat} (hi : HInv r h m) (x1 x2 x3 : Int32) : ∃ (a : Int32) (r' : Nat) (h' m' : Nat → Nat), HInv r' h' m' ∧ f_X9_house x1 x2 x3 (nI r) (nF h) = some (a, nI r', nF h') ∧ f_X10_house x1 x2 x3 (nI r) (nF m) = some (a, 0, nI r', nF m') := by
  obtain ⟨hr, hh, hm, hs, hc⟩ := id hi
  rcases wi_cases x1 0 1000 with ⟨g1, g2, g3⟩ | g1
  · rcases wi_cases x2 0 1000 with ⟨g4, g5, g6⟩ | g4
    · rcases wi_cases x3 0 1000 with ⟨g7, g8, g9⟩ | g7
      · obtain ⟨a, ha, rfl⟩ := wi_nat (n := 1000) (by decide) g2 g3
        obtain ⟨b, hb, rfl⟩ := wi_nat (n := 1000) (by decide) g5 g6
        obtain ⟨k, hk, rfl⟩ := wi_nat (n := 1000) (by decide) g8 g9
        rcases Nat.lt_or_ge r 24 with hr2 | hr2
        · obtain ⟨p, p1, p2, p3, p4⟩ := ap_loop (h := h) (v := (a - k) + (k - a) - b) hr2 hh (by omega) r pa_fu (Nat.le_refl r) (by have : pa_fu = 4096 := rfl; omega) (fun i q1 q2 => absurd q2 (by omega))
          rw [shf_r] at p4
          refine ⟨nI (r + 1), r + 1, ins h p r ((a - k) + (k - a) - b), (fun q => if q = 3 * r + 2 then k else if q = 3 * r + 1 then b else if q = 3 * r then a else m q), ⟨by omega, ?_, ?_, ?_, ?_⟩, ?_, ?_⟩
          · intro i
            unfold ins
            have q1 := hh i
            have q2 := hh (i - 1)
            split
            · exact q1
            · split
              · omega
              · split
                · exact q2
                · exact q1
          · intro i
            show (if i = 3 * r + 2 then k else if i = 3 * r + 1 then b else if i = 3 * r then a else m i) ≤ 1000
            have q1 := hm i
            split
            · exact hk
            · split
              · exact hb
              · split
                · exact ha
                · exact q1
          · intro i j hij hj
            have lo : ∀ i, i < p → h i ≤ (a - k) + (k - a) - b := fun i hip => by
              rcases p2 with q | q
              · omega
              · exact Nat.le_trans (hs i (p - 1) (by omega) (by omega)) q
            unfold ins
            by_cases c1 : j < p
            · rw [if_pos c1, if_pos (by omega)]
              exact hs i j hij (by omega)
            · rw [if_neg c1]
              by_cases c2 : j = p
              · rw [if_pos c2]
                by_cases c3 : i < p
                · rw [if_pos c3]
                  exact lo i c3
                · rw [if_neg c3, if_pos (by omega)]
                  exact Nat.le_refl _
              · rw [if_neg c2, if_pos (by omega : j ≤ r)]
                by_cases c3 : i < p
                · rw [if_pos c3]
                  exact hs i (j - 1) (by omega) (by omega)
                · rw [if_neg c3]
                  by_cases c4 : i = p
                  · rw [if_pos c4]
                    exact Nat.le_of_lt (p3 (j - 1) (by omega) (by omega))
                  · rw [if_neg c4, if_pos (by omega)]
                    exact hs (i - 1) (j - 1) (by omega) (by omega)
          · intro x
            rw [cnt_ins h x p1, hc x]
            show _ = cnt _ x r + (if nd _ r ≤ x then 1 else 0)
            rw [nd_new, cnt_cong x r (fun i hi => nd_at hi)]
          · rw [f_X9_house, g1, b1, if_neg (by decide), g4, b1, if_neg (by decide), g7, b1, if_neg (by decide), need_n ha hb hk, f_X3_append, if_pos (show nI r < (24 : Int32) from (nlt_n (b := 24) (by omega) (by omega)).mpr hr2), p4, b1]
          · rw [f_X10_house, in_wi, g1, b1, if_neg (by decide), g4, b1, if_neg (by decide), g7, b1, if_neg (by decide), if_neg (fun q => by have := (nI_eq (b := 24) (by omega) (by omega)).mp q; omega), n3, if_pos (ib_n (by omega) (by decide)), nI_1, if_pos (ib_n (by omega) (by decide)), show nI (3 * r) + (2 : Int32) = nI (3 * r + 2) from nI_add (3 * r) 2, if_pos (ib_n (by omega) (by decide)), cl_n (by omega), cl_n (by omega), cl_n (by omega), nI_1, nF_upd, nF_upd, nF_upd]
        · have e : r = 24 := by omega
          subst e
          refine ⟨-3, 24, h, m, hi, ?_, ?_⟩
          · rw [f_X9_house, g1, b1, if_neg (by decide), g4, b1, if_neg (by decide), g7, b1, if_neg (by decide), f_X3_append, if_neg (by decide), b1]
          · rw [f_X10_house, in_wi, g1, b1, if_neg (by decide), g4, b1, if_neg (by decide), g7, b1, if_neg (by decide), if_pos (by decide)]
      · exact ⟨-1, r, h, m, hi, by rw [f_X9_house, g1, b1, if_neg (by decide), g4, b1, if_neg (by decide), g7, b1, if_pos rfl], by rw [f_X10_house, in_wi, g1, b1, if_neg (by decide), g4, b1, if_neg (by decide), g7, b1, if_pos rfl]⟩
    · exact ⟨-1, r, h, m, hi, by rw [f_X9_house, g1, b1, if_neg (by decide), g4, b1, if_pos rfl], by rw [f_X10_house, in_wi, g1, b1, if_neg (by decide), g4, b1, if_pos rfl]⟩
  · exact ⟨-1, r, h, m, hi, by rw [f_X9_house, g1, b1, if_pos rfl], by rw [f_X10_house, in_wi, g1, b1, if_pos rfl]⟩
/-- promise 20 -/
theorem st_held {r : Nat} {h m : Nat → Nat} (hi : HInv r h m) (x1 : Int32) : ∃ a : Int32, f_X9_held x1 (nI r) (nF h) = some a ∧ f_X10_held x1 (nI r) (nF m) = some (a, 0) := by
  obtain ⟨hr, hh, hm, hs, hc⟩ := id hi
  rcases wi_cases x1 0 1000 with ⟨g1, g2, g3⟩ | g1
  · obtain ⟨x, hx, rfl⟩ := wi_nat (n := 1000) (by decide) g2 g3
    refine ⟨nI (cnt h x r), ?_, ?_⟩
    · rw [f_X9_held, g1, b1, if_neg (by decide), ho_ok h hr hh hx, b1]
    · rw [f_X10_held, in_wi, g1, b1, if_neg (by decide), hb_ok m hr hm hx, b1, hc x]
  · exact ⟨-1, by rw [f_X9_held, g1, b1, if_pos rfl], by rw [f_X10_held, in_wi, g1, b1, if_pos rfl]⟩
theorem wd_loop {m : Nat → Nat} {r q t : Nat} (hr : r ≤ 24) (hm : ∀ i, m i ≤ 1000) (ht : t ≤ 1000) (hq : q ≤ 24) (h1 : ∀ x, x < t → cnt (nd m) x r < q) (h2 : q ≤ cnt (nd m) t r) : ∀ (j k x : Nat), x + j = t → j < k → f_X10_wider_L30 (nI q) 0 (nI r) (nF m) k (nI x) = some (nI t, 0) := by
  intro j
  induction j with
  | zero =>
    intro k x hx hk
    obtain ⟨k, rfl⟩ : ∃ q, k = q + 1 := ⟨k - 1, by omega⟩
    have e : x = t := by omega
    subst e
    have hb := cnt_bd (nd m) x r
    show f_X10_wider_L30_body (nI q) 0 (nI r) (nF m) (f_X10_wider_L30 (nI q) 0 (nI r) (nF m) k) (nI x) = _
    rw [f_X10_wider_L30_body, hb_ok m hr hm (by omega), b1, if_pos ((nle_n (by omega) (by omega)).mpr h2)]
  | succ j ih =>
    intro k x hx hk
    obtain ⟨k, rfl⟩ : ∃ q, k = q + 1 := ⟨k - 1, by omega⟩
    have hb := cnt_bd (nd m) x r
    have hl := h1 x (by omega)
    show f_X10_wider_L30_body (nI q) 0 (nI r) (nF m) (f_X10_wider_L30 (nI q) 0 (nI r) (nF m) k) (nI x) = _
    rw [f_X10_wider_L30_body, hb_ok m hr hm (by omega), b1, if_neg (fun z => by have := (nle_n (by omega) (by omega)).mp z; omega), nI_1]
    exact ih k (x + 1) (by omega) (by omega)
/-- promise 21 -/
theorem st_wider {r : Nat} {h m : Nat → Nat} (hi : HInv r h m) (x1 : Int32) : ∃ a : Int32, f_X9_wider x1 (nI r) (nF h) = some a ∧ f_X10_wider x1 (nI r) (nF m) = some (a, 0) := by
  obtain ⟨hr, hh, hm, hs, hc⟩ := id hi
  rcases wi_cases x1 0 24 with ⟨g1, g2, g3⟩ | g1
  · obtain ⟨q, hq, rfl⟩ := wi_nat (n := 24) (by decide) g2 g3
    rcases Nat.lt_or_ge r q with h1 | h1
    · refine ⟨-9, ?_, ?_⟩
      · rw [f_X9_wider, g1, b1, if_neg (by decide), f_X3_needFor, if_neg (fun z => by have := (nle_n (by omega) (by omega)).mp z; omega), b1]
      · rw [f_X10_wider, in_wi, g1, b1, if_neg (by decide), if_neg (fun z => by have := (nle_n (by omega) (by omega)).mp z; omega)]
    · have hle : nI q ≤ nI r := (nle_n (by omega) (by omega)).mpr h1
      rcases Nat.eq_zero_or_pos q with hz | hz
      · subst hz
        refine ⟨nI 0, ?_, ?_⟩
        · rw [f_X9_wider, g1, b1, if_neg (by decide), f_X3_needFor, if_pos hle, if_neg (by decide), b1]
          rfl
        · rw [f_X10_wider, in_wi, g1, b1, if_neg (by decide), if_pos hle]
          exact wd_loop hr hm (Nat.zero_le _) (by omega) (fun x hx => absurd hx (by omega)) (Nat.zero_le _) 0 pa_fu 0 rfl (by decide)
      · have hb := hh (q - 1)
        refine ⟨nI (h (q - 1)), ?_, ?_⟩
        · rw [f_X9_wider, g1, b1, if_neg (by decide), f_X3_needFor, if_pos hle, if_pos (show (1 : Int32) ≤ nI q from (nle_n (a := 1) (by omega) (by omega)).mpr hz), show nI q - (1 : Int32) = nI (q - 1) from pk_sub (b := 1) hz, if_pos (ib_n (by omega) (by decide)), b1, cl_n (by omega)]
          rfl
        · rw [f_X10_wider, in_wi, g1, b1, if_neg (by decide), if_pos hle]
          refine wd_loop hr hm hb hq ?_ ?_ (h (q - 1)) pa_fu 0 (by omega) (by have : pa_fu = 4096 := rfl; omega)
          · intro x hx
            rw [← hc x]
            have := cnt_le (h := h) (x := x) (k := q - 1) r (fun i c1 c2 => Nat.lt_of_lt_of_le hx (hs (q - 1) i c1 c2))
            omega
          · rw [← hc (h (q - 1))]
            exact cnt_ge (fun i hi => hs i (q - 1) (by omega) (by omega)) r h1
  · exact ⟨-1, by rw [f_X9_wider, g1, b1, if_pos rfl], by rw [f_X10_wider, in_wi, g1, b1, if_pos rfl]⟩
