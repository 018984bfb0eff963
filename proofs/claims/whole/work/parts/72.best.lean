/-! ===== the best asking ===== -/
def smc (c : Nat → Int) : Nat → Int
  | 0 => 0
  | l + 1 => if pN c (8 * l) ≤ 0 then smc c l else if smc c l = 0 then pN c (8 * l) else if smc c l ≤ pN c (8 * l) then smc c l else pN c (8 * l)
def mlc (c : Nat → Int) : Nat → Int
  | 0 => 0
  | l + 1 => if pL c (8 * l) ≤ mlc c l then mlc c l else pL c (8 * l)
theorem smc_bd {c : Nat → Int} (hc : LInv c) : ∀ l, l ≤ 4 → 0 ≤ smc c l ∧ smc c l ≤ 50 ∧ (∀ l', l' < l → 0 < pN c (8 * l') → 0 < smc c l ∧ smc c l ≤ pN c (8 * l')) := by
  intro l
  induction l with
  | zero =>
    intro _
    exact ⟨Int.le_refl 0, by show (0 : Int) ≤ 50; omega, fun l' h => absurd h (by omega)⟩
  | succ l ih =>
    intro hl
    obtain ⟨h1, h2, h3⟩ := ih (by omega)
    have k2 := hc.all (l := l) (by omega)
    have e : smc c (l + 1) = if pN c (8 * l) ≤ 0 then smc c l else if smc c l = 0 then pN c (8 * l) else if smc c l ≤ pN c (8 * l) then smc c l else pN c (8 * l) := rfl
    rw [e]
    refine ⟨?_, ?_, ?_⟩
    · split
      · omega
      · split
        · omega
        · split <;> omega
    · split
      · omega
      · split
        · omega
        · split <;> omega
    · intro l' hl' hp
      rcases Nat.lt_or_ge l' l with q | q
      · have h4 := h3 l' q hp
        split
        · exact h4
        · split
          · omega
          · split <;> omega
      · have e2 : l' = l := by omega
        subst e2
        split
        · omega
        · split
          · omega
          · split <;> omega
theorem mlc_bd {c : Nat → Int} (hc : LInv c) : ∀ l, l ≤ 4 → 0 ≤ mlc c l ∧ mlc c l ≤ 50 ∧ (∀ l', l' < l → pL c (8 * l') ≤ mlc c l) ∧ (mlc c l = 0 ∨ ∃ l', l' < l ∧ mlc c l = pL c (8 * l')) := by
  intro l
  induction l with
  | zero =>
    intro _
    exact ⟨Int.le_refl 0, by show (0 : Int) ≤ 50; omega, fun l' h => absurd h (by omega), Or.inl rfl⟩
  | succ l ih =>
    intro hl
    obtain ⟨h1, h2, h3, h4⟩ := ih (by omega)
    have k2 := hc.all (l := l) (by omega)
    have e : mlc c (l + 1) = if pL c (8 * l) ≤ mlc c l then mlc c l else pL c (8 * l) := rfl
    rw [e]
    by_cases hq : pL c (8 * l) ≤ mlc c l
    · rw [if_pos hq]
      refine ⟨h1, h2, ?_, ?_⟩
      · intro l' hl'
        rcases Nat.lt_or_ge l' l with q | q
        · exact h3 l' q
        · have e2 : l' = l := by omega
          subst e2
          exact hq
      · rcases h4 with q | ⟨l', q1, q2⟩
        · exact Or.inl q
        · exact Or.inr ⟨l', by omega, q2⟩
    · rw [if_neg hq]
      refine ⟨by omega, by omega, ?_, Or.inr ⟨l, by omega, rfl⟩⟩
      intro l' hl'
      rcases Nat.lt_or_ge l' l with q | q
      · have := h3 l' q
        omega
      · have e2 : l' = l := by omega
        subst e2
        exact Int.le_refl _
theorem jI_le0 {a : Int} (h : -1000000 ≤ a ∧ a ≤ 1000000) : jI a ≤ 0 ↔ a ≤ 0 := by
  rw [show (0 : Int32) = jI 0 from rfl, jI_le (by omega) (by omega)]
theorem jI_e0 {a : Int} (h : -1000000 ≤ a ∧ a ≤ 1000000) : jI a = 0 ↔ a = 0 := by
  rw [show (0 : Int32) = jI 0 from rfl, jI_eq (by omega) (by omega)]
theorem sm_loop {c : Nat → Int} (hc : LInv c) : ∀ (j f l : Nat), l + j = 4 → j < f → f_X4_smallest_L4 (jF c) f (jI (smc c l)) (nI l) = some (jI (smc c 4)) := by
  intro j
  induction j with
  | zero =>
    intro f l hl hf
    obtain ⟨f, rfl⟩ : ∃ q, f = q + 1 := ⟨f - 1, by omega⟩
    have e : l = 4 := by omega
    subst e
    show f_X4_smallest_L4_body (jF c) (f_X4_smallest_L4 (jF c) f) (jI (smc c 4)) (nI 4) = _
    rw [f_X4_smallest_L4_body, if_pos (by decide)]
  | succ j ih =>
    intro f l hl hf
    obtain ⟨f, rfl⟩ : ∃ q, f = q + 1 := ⟨f - 1, by omega⟩
    have k2 := hc.all (l := l) (by omega)
    have k3 := smc_bd hc l (by omega)
    have ih1 := ih f (l + 1) (by omega) (by omega)
    have e : smc c (l + 1) = if pN c (8 * l) ≤ 0 then smc c l else if smc c l = 0 then pN c (8 * l) else if smc c l ≤ pN c (8 * l) then smc c l else pN c (8 * l) := rfl
    show f_X4_smallest_L4_body (jF c) (f_X4_smallest_L4 (jF c) f) (jI (smc c l)) (nI l) = _
    rw [f_X4_smallest_L4_body, if_neg (fun q => by have := (nle_n (a := 4) (by omega) (by omega)).mp q; omega), hv_N c (by omega), b1, nI_1, ← ih1, e]
    by_cases h1 : pN c (8 * l) ≤ 0
    · rw [if_pos h1, if_pos ((jI_le0 (by omega)).mpr h1)]
    · rw [if_neg h1, if_neg (fun q => h1 ((jI_le0 (by omega)).mp q))]
      by_cases h2 : smc c l = 0
      · rw [if_pos h2, if_pos ((jI_e0 (by omega)).mpr h2)]
      · rw [if_neg h2, if_neg (fun q => h2 ((jI_e0 (by omega)).mp q))]
        by_cases h3 : smc c l ≤ pN c (8 * l)
        · rw [if_pos h3, if_pos ((jI_le (by omega) (by omega)).mpr h3)]
        · rw [if_neg h3, if_neg (fun q => h3 ((jI_le (by omega) (by omega)).mp q))]
def sm51 (c : Nat → Int) (l : Nat) : Int := if smc c l = 0 then 51 else smc c l
theorem bs_loop {c : Nat → Int} (hc : LInv c) {x1 x2 thr cp lp su : Int32} {mu md : Int64} {mt : Nat → Int64} {mr : Nat → Int32} : ∀ (j f l : Nat), l + j = 4 → j < f → f_X10_best_L36 x1 x2 thr cp lp su mu md mt (jF c) mr f (jI (sm51 c l)) (jI (mlc c l)) (nI l) = if jI (sm51 c 4) = (51 : Int32) then some (-2, thr, mu, md) else f_X10_best_L123 x1 x2 (jI (sm51 c 4)) (jI (mlc c 4)) thr cp lp su mt (jF c) mr pa_fu (-9) 0 0 mu md := by
  intro j
  induction j with
  | zero =>
    intro f l hl hf
    obtain ⟨f, rfl⟩ : ∃ q, f = q + 1 := ⟨f - 1, by omega⟩
    have e : l = 4 := by omega
    subst e
    show f_X10_best_L36_body x1 x2 thr cp lp su mu md mt (jF c) mr (f_X10_best_L36 x1 x2 thr cp lp su mu md mt (jF c) mr f) (jI (sm51 c 4)) (jI (mlc c 4)) (nI 4) = _
    rw [f_X10_best_L36_body, if_pos (by decide)]
  | succ j ih =>
    intro f l hl hf
    obtain ⟨f, rfl⟩ : ∃ q, f = q + 1 := ⟨f - 1, by omega⟩
    have k2 := hc.all (l := l) (by omega)
    have k3 := smc_bd hc l (by omega)
    have k4 := mlc_bd hc l (by omega)
    have ih1 := ih f (l + 1) (by omega) (by omega)
    have e : smc c (l + 1) = if pN c (8 * l) ≤ 0 then smc c l else if smc c l = 0 then pN c (8 * l) else if smc c l ≤ pN c (8 * l) then smc c l else pN c (8 * l) := rfl
    have e2 : mlc c (l + 1) = if pL c (8 * l) ≤ mlc c l then mlc c l else pL c (8 * l) := rfl
    have key : ∀ s : Int32, f_X10_best_b81 (f_X10_best_L36 x1 x2 thr cp lp su mu md mt (jF c) mr f) x1 x2 (jI (mlc c l)) (nI l) (jI (pL c (8 * l))) s thr cp lp su mu md mt (jF c) mr = f_X10_best_L36 x1 x2 thr cp lp su mu md mt (jF c) mr f s (jI (mlc c (l + 1))) (nI (l + 1)) := by
      intro s
      rw [f_X10_best_b81, nI_1, e2]
      by_cases h3 : pL c (8 * l) ≤ mlc c l
      · rw [if_pos h3, if_pos ((jI_le (by omega) (by omega)).mpr h3)]
      · rw [if_neg h3, if_neg (fun q => h3 ((jI_le (by omega) (by omega)).mp q))]
    show f_X10_best_L36_body x1 x2 thr cp lp su mu md mt (jF c) mr (f_X10_best_L36 x1 x2 thr cp lp su mu md mt (jF c) mr f) (jI (sm51 c l)) (jI (mlc c l)) (nI l) = _
    have hs : 0 ≤ sm51 c l ∧ sm51 c l ≤ 51 := by
      unfold sm51
      split <;> omega
    rw [f_X10_best_L36_body, if_neg (fun q => by have := (nle_n (a := 4) (by omega) (by omega)).mp q; omega), ps_N c (by omega), b1, ps_L c (by omega), b1, f_X10_best_b80, key, key, ← ih1]
    have e3 : sm51 c (l + 1) = if pN c (8 * l) ≤ 0 then sm51 c l else if sm51 c l ≤ pN c (8 * l) then sm51 c l else pN c (8 * l) := by
      unfold sm51
      rw [e]
      by_cases h1 : pN c (8 * l) ≤ 0
      · rw [if_pos h1, if_pos h1]
      · rw [if_neg h1, if_neg h1]
        by_cases h2 : smc c l = 0
        · rw [if_pos h2, if_pos h2, if_neg (by omega), if_neg (by omega)]
        · rw [if_neg h2, if_neg h2]
          by_cases h3 : smc c l ≤ pN c (8 * l)
          · rw [if_pos h3, if_neg h2]
          · rw [if_neg h3, if_neg (by omega)]
    rw [e3]
    by_cases h1 : pN c (8 * l) ≤ 0
    · rw [if_pos h1, if_pos ((jI_le0 (by omega)).mpr h1)]
    · rw [if_neg h1, if_neg (fun q => h1 ((jI_le0 (by omega)).mp q))]
      by_cases h3 : sm51 c l ≤ pN c (8 * l)
      · rw [if_pos h3, if_pos ((jI_le (by omega) (by omega)).mpr h3)]
      · rw [if_neg h3, if_neg (fun q => h3 ((jI_le (by omega) (by omega)).mp q))]
/-- whether k can be paid: 0 stands for cards -/
def pyc (c : Nat → Int) (p : Nat → Nat) (k q : Nat) : Int := if k = 0 then mlc c 4 * p 0 else k * p 1
theorem pay_loop {c : Nat → Int} (hc : LInv c) {p : Nat → Nat} (hp : PInv p) {q : Nat} (hq : q ≤ 9999) : ∀ (j f l : Nat), l + j = 4 → j < f → (∀ l', l' < l → (p 0 : Int) * pL c (8 * l') ≤ q) → f_X9_isPayable_L24 (nI q) (jF c) (nF p) f (nI l) = some (if (q : Int) < mlc c 4 * p 0 then 0 else 1) := by
  intro j
  have hM := mlc_bd hc 4 (by omega)
  have hp0 := hp.1
  have hb := ml_bd (a := mlc c 4) (b := (p 0 : Int)) (m := 50) (n := 99) (by omega) (by omega)
  induction j with
  | zero =>
    intro f l hl hf hA
    obtain ⟨f, rfl⟩ : ∃ q, f = q + 1 := ⟨f - 1, by omega⟩
    have e : l = 4 := by omega
    subst e
    show f_X9_isPayable_L24_body (nI q) (jF c) (nF p) (f_X9_isPayable_L24 (nI q) (jF c) (nF p) f) (nI 4) = _
    rw [f_X9_isPayable_L24_body, if_pos (by decide), if_neg]
    rcases hM.2.2.2 with z | ⟨l', z1, z2⟩
    · rw [z, Int.zero_mul]
      omega
    · have := hA l' z1
      rw [z2, Int.mul_comm]
      omega
  | succ j ih =>
    intro f l hl hf hA
    obtain ⟨f, rfl⟩ : ∃ q, f = q + 1 := ⟨f - 1, by omega⟩
    have k2 := hc.all (l := l) (by omega)
    have hb2 := ml_bd (a := (p 0 : Int)) (b := pL c (8 * l)) (m := 99) (n := 50) (by omega) (by omega)
    show f_X9_isPayable_L24_body (nI q) (jF c) (nF p) (f_X9_isPayable_L24 (nI q) (jF c) (nF p) f) (nI l) = _
    rw [f_X9_isPayable_L24_body, if_neg (fun q => by have := (nle_n (a := 4) (by omega) (by omega)).mp q; omega), f_X9_cards, if_pos (by decide), hv_L c (by omega), b1, b1, nI_1]
    have e : nF p (Int32.toNatClampNeg 0) * jI (pL c (8 * l)) = jI ((p 0 : Int) * pL c (8 * l)) := by
      rw [← jI_mul, ← jI_n]
      rfl
    rw [e, jI_n q]
    by_cases h : (p 0 : Int) * pL c (8 * l) ≤ q
    · rw [if_pos ((jI_le (by omega) (by omega)).mpr h), ← jI_n]
      refine ih f (l + 1) (by omega) (by omega) ?_
      intro l' hl'
      rcases Nat.lt_or_ge l' l with z | z
      · exact hA l' z
      · have e2 : l' = l := by omega
        subst e2
        exact h
    · rw [if_neg (fun z => h ((jI_le (by omega) (by omega)).mp z)), if_pos]
      have h5 : (p 0 : Int) * pL c (8 * l) ≤ p 0 * mlc c 4 := Int.mul_le_mul_of_nonneg_left (hM.2.2.1 l (by omega)) (by omega)
      rw [Int.mul_comm (mlc c 4)]
      omega
theorem pay_ok {c : Nat → Int} (hc : LInv c) {p : Nat → Nat} (hp : PInv p) {q k : Nat} (hq : q ≤ 9999) (hk : k ≤ 50) : f_X9_isPayable (nI k) (nI q) (jF c) (nF p) = some (if (q : Int) < pyc c p k q then 0 else 1) := by
  rw [f_X9_isPayable, pyc]
  by_cases hz : k = 0
  · rw [if_pos hz, hz, if_pos (by decide)]
    exact pay_loop hc hp hq 4 pa_fu 0 (by omega) (by decide) (fun l' h => absurd h (by omega))
  · have hp1 := hp.2.1
    have hb := Nat.mul_le_mul hk hp1
    rw [if_neg hz, if_neg (fun z => by have := (nle_n (b := 0) (by omega) (by omega)).mp z; omega), if_pos (by decide)]
    have e : nI k * nF p (Int32.toNatClampNeg 1) = nI (k * p 1) := pk_mul k (p 1)
    rw [e]
    by_cases h : q < k * p 1
    · rw [if_pos ((nlt_n (by omega) (by omega)).mpr h), if_pos (by rw [← Int.natCast_mul]; omega)]
    · rw [if_neg (fun z => h ((nlt_n (by omega) (by omega)).mp z)), if_neg (by rw [← Int.natCast_mul]; omega)]
section BST
variable {c r : Nat → Int} {lt mt : Nat → Int64} {p : Nat → Nat}
theorem gm_lp (hc : LInv c) (hr : RInv r) (ht : TInv lt) (hm : MInv mt) (hp : PInv p) {k : Nat} (hk : (k : Int) ≤ smc c 4) : ∀ (j f1 f2 l e : Nat) (lw : Nat → Int64) (fu fl mu md : Int64), l + j = 4 → j < f1 → j < f2 → e ≤ 252500 → ∃ (e' : Nat) (lw' : Nat → Int64) (fu' fl' mu' md' : Int64), e' ≤ 252500 ∧ f_X9_greatestMistake_L4 (nI k) (jF c) (jF r) lt (nF p) f1 (nI e) (nI l) lw fu fl = some (nI e', lw', fu', fl') ∧ f_X10_worst_L4 (nI k) (nI (p 2)) mt (jF c) (jF r) f2 (nI e) (nI l) mu md = some (nI e', mu', md') := by
  intro j
  induction j with
  | zero =>
    intro f1 f2 l e lw fu fl mu md hl hf1 hf2 he
    obtain ⟨f1, rfl⟩ : ∃ q, f1 = q + 1 := ⟨f1 - 1, by omega⟩
    obtain ⟨f2, rfl⟩ : ∃ q, f2 = q + 1 := ⟨f2 - 1, by omega⟩
    have e4 : l = 4 := by omega
    subst e4
    refine ⟨e, lw, fu, fl, mu, md, he, ?_, ?_⟩
    · show f_X9_greatestMistake_L4_body (nI k) (jF c) (jF r) lt (nF p) (f_X9_greatestMistake_L4 (nI k) (jF c) (jF r) lt (nF p) f1) (nI e) (nI 4) lw fu fl = _
      rw [f_X9_greatestMistake_L4_body, if_pos (by decide)]
    · show f_X10_worst_L4_body (nI k) (nI (p 2)) mt (jF c) (jF r) (f_X10_worst_L4 (nI k) (nI (p 2)) mt (jF c) (jF r) f2) (nI e) (nI 4) mu md = _
      rw [f_X10_worst_L4_body, if_pos (by decide)]
  | succ j ih =>
    intro f1 f2 l e lw fu fl mu md hl hf1 hf2 he
    obtain ⟨f1, rfl⟩ : ∃ q, f1 = q + 1 := ⟨f1 - 1, by omega⟩
    obtain ⟨f2, rfl⟩ : ∃ q, f2 = q + 1 := ⟨f2 - 1, by omega⟩
    have hl4 : l < 4 := by omega
    have k2 := hc.all hl4
    have k3 := (smc_bd hc 4 (by omega)).2.2 l hl4
    have hn4 : ¬ (4 : Int32) ≤ nI l := fun q => by have := (nle_n (a := 4) (by omega) (by omega)).mp q; omega
    show ∃ (e' : Nat) (lw' : Nat → Int64) (fu' fl' mu' md' : Int64), e' ≤ 252500 ∧ f_X9_greatestMistake_L4_body (nI k) (jF c) (jF r) lt (nF p) (f_X9_greatestMistake_L4 (nI k) (jF c) (jF r) lt (nF p) f1) (nI e) (nI l) lw fu fl = some (nI e', lw', fu', fl') ∧ f_X10_worst_L4_body (nI k) (nI (p 2)) mt (jF c) (jF r) (f_X10_worst_L4 (nI k) (nI (p 2)) mt (jF c) (jF r) f2) (nI e) (nI l) mu md = some (nI e', mu', md')
    rw [f_X9_greatestMistake_L4_body, if_neg hn4, f_X10_worst_L4_body, if_neg hn4, hv_N c hl4, ps_N c hl4, b1, b1]
    by_cases h1 : pN c (8 * l) ≤ 0
    · rw [if_pos ((jI_le0 (by omega)).mpr h1), if_pos ((jI_le0 (by omega)).mpr h1), f_X10_worst_b30, if_pos (show (0 : Int32) ≤ nI e from (nle_n (a := 0) (by omega) (by omega)).mpr (by omega)), nI_1]
      exact ih f1 f2 (l + 1) e lw fu fl mu md (by omega) (by omega) (by omega) he
    · rw [if_neg (fun q => h1 ((jI_le0 (by omega)).mp q)), if_neg (fun q => h1 ((jI_le0 (by omega)).mp q))]
      obtain ⟨e2, lw', fu', fl', mu', md', q0, q1, q2⟩ := ms_ok hc hr ht hm hp hl4 (k := k) (by have := k3 (by omega); omega) (by omega) lw fu fl mu md
      rw [q1, q2, b1, b1, f_X10_worst_b30, nI_1]
      dsimp only
      by_cases h2 : e2 ≤ e
      · rw [if_pos ((nle_n (by omega) (by omega)).mpr h2), if_neg (fun q => by have := (nlt_n (by omega) (by omega)).mp q; omega)]
        exact ih f1 f2 (l + 1) e lw' fu' fl' mu' md' (by omega) (by omega) (by omega) he
      · rw [if_neg (fun q => h2 ((nle_n (by omega) (by omega)).mp q)), if_pos ((nlt_n (by omega) (by omega)).mpr (by omega))]
        exact ih f1 f2 (l + 1) e2 lw' fu' fl' mu' md' (by omega) (by omega) (by omega) q0
theorem gm_w (hc : LInv c) (hr : RInv r) (ht : TInv lt) (hm : MInv mt) (hp : PInv p) {k : Nat} (hk : (k : Int) ≤ smc c 4) (lw : Nat → Int64) (fu fl mu md : Int64) : ∃ (e' : Nat) (lw' : Nat → Int64) (fu' fl' mu' md' : Int64), e' ≤ 252500 ∧ f_X9_greatestMistake (nI k) (jF c) (jF r) lt lw fu fl (nF p) = some (nI e', lw', fu', fl') ∧ f_X10_worst (nI k) (nI (p 2)) mu md mt (jF c) (jF r) = some (nI e', mu', md') :=
  gm_lp hc hr ht hm hp hk 4 pa_fu pa_fu 0 0 lw fu fl mu md (by omega) (by decide) (by decide) (by omega)
theorem be_lp (hc : LInv c) (hr : RInv r) (ht : TInv lt) (hm : MInv mt) (hp : PInv p) {q s : Nat} {x2 : Int32} (hq : q ≤ 9999) (hs : smc c 4 = s) (hs0 : 1 ≤ s) : ∀ (j f1 f2 k : Nat) (ch le le2 : Int32) (lw : Nat → Int64) (fu fl mu md : Int64), k + j = s + 1 → j < f1 → j < f2 → (ch = -9 ∧ le = -9 ∨ ¬ ch = -9 ∧ le = le2) → ∃ (a : Int32) (lw' : Nat → Int64) (fu' fl' mu' md' : Int64), f_X9_best_L48 (nI q) x2 (nI s) (jF c) (jF r) lt (nF p) f1 ch le (nI k) lw fu fl = some (a, lw', fu', fl') ∧ f_X10_best_L123 (nI q) x2 (nI s) (jI (mlc c 4)) 0 (nI (p 0)) (nI (p 1)) (nI (p 2)) mt (jF c) (jF r) f2 ch le2 (nI k) mu md = some (a, 0, mu', md') := by
  have hs5 := smc_bd hc 4 (by omega)
  have hM := mlc_bd hc 4 (by omega)
  have hp0 := hp.1
  have hp1 := hp.2.1
  have hb0 := ml_bd (a := mlc c 4) (b := (p 0 : Int)) (m := 50) (n := 99) (by omega) (by omega)
  intro j
  induction j with
  | zero =>
    intro f1 f2 k ch le le2 lw fu fl mu md hk hf1 hf2 hch
    obtain ⟨f1, rfl⟩ : ∃ q, f1 = q + 1 := ⟨f1 - 1, by omega⟩
    obtain ⟨f2, rfl⟩ : ∃ q, f2 = q + 1 := ⟨f2 - 1, by omega⟩
    have hlt : nI s < nI k := (nlt_n (by omega) (by omega)).mpr (by omega)
    show ∃ (a : Int32) (lw' : Nat → Int64) (fu' fl' mu' md' : Int64), f_X9_best_L48_body (nI q) x2 (nI s) (jF c) (jF r) lt (nF p) (f_X9_best_L48 (nI q) x2 (nI s) (jF c) (jF r) lt (nF p) f1) ch le (nI k) lw fu fl = some (a, lw', fu', fl') ∧ f_X10_best_L123_body (nI q) x2 (nI s) (jI (mlc c 4)) 0 (nI (p 0)) (nI (p 1)) (nI (p 2)) mt (jF c) (jF r) (f_X10_best_L123 (nI q) x2 (nI s) (jI (mlc c 4)) 0 (nI (p 0)) (nI (p 1)) (nI (p 2)) mt (jF c) (jF r) f2) ch le2 (nI k) mu md = some (a, 0, mu', md')
    rw [f_X9_best_L48_body, if_pos hlt, f_X10_best_L123_body, if_pos hlt]
    rcases hch with ⟨e1, e2⟩ | ⟨e1, e2⟩
    · subst e1 e2
      rw [if_pos rfl]
      by_cases hx : x2 = 0
      · rw [if_pos hx]
        exact ⟨_, _, _, _, _, _, rfl, rfl⟩
      · rw [if_neg hx]
        exact ⟨_, _, _, _, _, _, rfl, rfl⟩
    · subst e2
      rw [if_neg e1]
      by_cases hx : x2 = 0
      · rw [if_pos hx, if_pos hx]
        exact ⟨_, _, _, _, _, _, rfl, rfl⟩
      · rw [if_neg hx, if_neg hx]
        exact ⟨_, _, _, _, _, _, rfl, rfl⟩
  | succ j ih =>
    intro f1 f2 k ch le le2 lw fu fl mu md hk hf1 hf2 hch
    obtain ⟨f1, rfl⟩ : ∃ q, f1 = q + 1 := ⟨f1 - 1, by omega⟩
    obtain ⟨f2, rfl⟩ : ∃ q, f2 = q + 1 := ⟨f2 - 1, by omega⟩
    have hlt : ¬ nI s < nI k := fun z => by have := (nlt_n (by omega) (by omega)).mp z; omega
    have hb1 := Nat.mul_le_mul (show k ≤ 50 by omega) hp1
    have hpy : 0 ≤ pyc c p k q ∧ pyc c p k q ≤ 4950 := by
      unfold pyc
      split
      · omega
      · rw [← Int.natCast_mul]
        omega
    have e2 : f_X10_best_L123 (nI q) x2 (nI s) (jI (mlc c 4)) 0 (nI (p 0)) (nI (p 1)) (nI (p 2)) mt (jF c) (jF r) (f2 + 1) ch le2 (nI k) mu md = f_X10_best_b151 (f_X10_best_L123 (nI q) x2 (nI s) (jI (mlc c 4)) 0 (nI (p 0)) (nI (p 1)) (nI (p 2)) mt (jF c) (jF r) f2) (nI q) x2 (nI s) (jI (mlc c 4)) ch le2 (nI k) (jI (pyc c p k q)) 0 (nI (p 0)) (nI (p 1)) (nI (p 2)) mu md mt (jF c) (jF r) := by
      show f_X10_best_L123_body (nI q) x2 (nI s) (jI (mlc c 4)) 0 (nI (p 0)) (nI (p 1)) (nI (p 2)) mt (jF c) (jF r) (f_X10_best_L123 (nI q) x2 (nI s) (jI (mlc c 4)) 0 (nI (p 0)) (nI (p 1)) (nI (p 2)) mt (jF c) (jF r) f2) ch le2 (nI k) mu md = _
      rw [f_X10_best_L123_body, if_neg hlt, pyc]
      by_cases hz : k = 0
      · subst hz
        rw [if_pos (by decide), if_pos rfl, jI_n (p 0), jI_mul]
      · rw [if_neg (show ¬ nI k = 0 from fun z => hz ((nI_eq (b := 0) (by omega) (by omega)).mp z)), if_neg hz, jI_n (p 1), jI_n k, jI_mul]
    rw [e2]
    show ∃ (a : Int32) (lw' : Nat → Int64) (fu' fl' mu' md' : Int64), f_X9_best_L48_body (nI q) x2 (nI s) (jF c) (jF r) lt (nF p) (f_X9_best_L48 (nI q) x2 (nI s) (jF c) (jF r) lt (nF p) f1) ch le (nI k) lw fu fl = some (a, lw', fu', fl') ∧ _
    rw [f_X9_best_L48_body, if_neg hlt, pay_ok hc hp hq (by omega), b1, f_X10_best_b151]
    by_cases hp2 : (q : Int) < pyc c p k q
    · rw [if_pos hp2, if_pos rfl, if_pos (show nI q < jI (pyc c p k q) by rw [jI_n, jI_lt (by omega) (by omega)]; exact hp2), f_X9_best_b75, if_pos rfl, nI_1]
      exact ih f1 f2 (k + 1) ch le le2 lw fu fl mu md (by omega) (by omega) (by omega) hch
    · obtain ⟨e, lw', fu', fl', mu', md', q0, q1, q2⟩ := gm_w hc hr ht hm hp (k := k) (by omega) lw fu fl mu md
      rw [if_neg hp2, if_neg (by decide), if_neg (show ¬ nI q < jI (pyc c p k q) from fun z => hp2 (by rw [jI_n, jI_lt (by omega) (by omega)] at z; exact z)), q1, q2, b1, b1, f_X9_best_b75, if_neg (nI_ne9 (by omega)), nI_1]
      rcases hch with ⟨z1, z2⟩ | ⟨z1, z2⟩
      · rw [if_pos z1, if_pos z1]
        exact ih f1 f2 (k + 1) (nI k) (nI e) (nI e) lw' fu' fl' mu' md' (by omega) (by omega) (by omega) (Or.inr ⟨nI_ne9 (by omega), rfl⟩)
      · subst z2
        rw [if_neg z1, if_neg z1]
        by_cases hle : le ≤ nI e
        · rw [if_pos hle, if_pos hle]
          exact ih f1 f2 (k + 1) ch le le lw' fu' fl' mu' md' (by omega) (by omega) (by omega) (Or.inr ⟨z1, rfl⟩)
        · rw [if_neg hle, if_neg hle]
          exact ih f1 f2 (k + 1) (nI k) (nI e) (nI e) lw' fu' fl' mu' md' (by omega) (by omega) (by omega) (Or.inr ⟨nI_ne9 (by omega), rfl⟩)
/-- promise 24 -/
theorem st_best (hc : LInv c) (hr : RInv r) (ht : TInv lt) (hm : MInv mt) (hp : PInv p) (x1 x2 : Int32) (lw : Nat → Int64) (fu fl mu md : Int64) : ∃ (a : Int32) (lw' : Nat → Int64) (fu' fl' mu' md' : Int64), f_X9_best x1 x2 (jF c) (jF r) lt lw fu fl (nF p) = some (a, lw', fu', fl') ∧ f_X10_best x1 x2 (nI (p 0)) (nI (p 1)) (nI (p 2)) mu md mt (jF c) (jF r) = some (a, 0, mu', md') := by
  rw [f_X9_best, f_X10_best, in_wi]
  rcases wi0_cases x1 (hi := 9999) (by decide) with ⟨h1, q, hq, rfl⟩ | h1
  · have h1' : f_X9_within (nI q) 0 9999 = some 1 := h1
    simp only [h1', b1, i10]
    rcases wi_cases x2 0 1 with ⟨h2, -, -⟩ | h2
    · have e1 : f_X4_smallest (jF c) = some (jI (smc c 4)) := sm_loop hc 4 pa_fu 0 (by omega) (by decide)
      have e2 := bs_loop hc (x1 := nI q) (x2 := x2) (thr := 0) (cp := nI (p 0)) (lp := nI (p 1)) (su := nI (p 2)) (mu := mu) (md := md) (mt := mt) (mr := jF r) 4 pa_fu 0 (by omega) (by decide)
      have e3 : f_X10_best_L36 (nI q) x2 0 (nI (p 0)) (nI (p 1)) (nI (p 2)) mu md mt (jF c) (jF r) pa_fu 51 0 0 = _ := e2
      have hs5 := smc_bd hc 4 (by omega)
      simp only [h2, b1, i10, e1, e3]
      by_cases hz : smc c 4 = 0
      · rw [if_pos ((jI_e0 (by omega)).mpr hz), if_pos (by rw [sm51, if_pos hz]; rfl)]
        exact ⟨_, _, _, _, _, _, rfl, rfl⟩
      · obtain ⟨s, hs⟩ : ∃ s : Nat, smc c 4 = s := ⟨(smc c 4).toNat, by omega⟩
        rw [if_neg (fun z => hz ((jI_e0 (by omega)).mp z)), sm51, if_neg hz, hs, ← jI_n, if_neg (fun z => by have := (nI_eq (b := 51) (by omega) (by omega)).mp z; omega)]
        exact be_lp hc hr ht hm hp hq hs (by omega) (s + 1) pa_fu pa_fu 0 (-9) (-9) 0 lw fu fl mu md (by omega) (by have : pa_fu = 4096 := rfl; omega) (by have : pa_fu = 4096 := rfl; omega) (Or.inl ⟨rfl, rfl⟩)
    · simp only [h2, b1, i00]
      exact ⟨_, _, _, _, _, _, rfl, rfl⟩
  · have h1' : f_X9_within x1 0 9999 = some 0 := h1
    simp only [h1', b1, i00]
    exact ⟨_, _, _, _, _, _, rfl, rfl⟩
end BST
