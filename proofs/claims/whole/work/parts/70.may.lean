/-! ===== what the truth may be ===== -/
def am (J : Nat → Nat) : Nat → Nat
  | 0 => 0
  | m + 1 => if J (m + 1) ≤ J (am J m) then am J m else m + 1
theorem am_le (J : Nat → Nat) : ∀ m, am J m ≤ m := by
  intro m
  induction m with
  | zero => exact Nat.le_refl 0
  | succ m ih =>
    show (if J (m + 1) ≤ J (am J m) then am J m else m + 1) ≤ m + 1
    split <;> omega
def fiW (J : Nat → Nat) (M : Nat) : Nat → Int32
  | 0 => -9
  | m + 1 => if 10 * J m < M then fiW J M m else if fiW J M m = -9 then nI m else fiW J M m
def laW (J : Nat → Nat) (M : Nat) : Nat → Int32
  | 0 => -9
  | m + 1 => if 10 * J m < M then laW J M m else nI m
theorem nI_ne9 {c : Nat} (h : c < 2147483648) : ¬ nI c = -9 := fun e => nI_pos (n := c) (by omega) (by rw [e]; decide)
theorem fi_stay {J : Nat → Nat} {M c : Nat} (hc : c < 2147483648) : ∀ j, fiW J M (c + 1) = nI c → fiW J M (c + 1 + j) = nI c := by
  intro j
  induction j with
  | zero => intro h; exact h
  | succ j ih =>
    intro h
    show (if 10 * J (c + 1 + j) < M then fiW J M (c + 1 + j) else if fiW J M (c + 1 + j) = -9 then nI (c + 1 + j) else fiW J M (c + 1 + j)) = nI c
    rw [ih h, if_neg (nI_ne9 hc)]
    split <;> rfl
theorem la_stay {J : Nat → Nat} {M c : Nat} : ∀ j, (∀ i, c < i → i ≤ c + j → 10 * J i < M) → laW J M (c + 1 + j) = laW J M (c + 1) := by
  intro j
  induction j with
  | zero => intro _; rfl
  | succ j ih =>
    intro h
    show (if 10 * J (c + 1 + j) < M then laW J M (c + 1 + j) else nI (c + 1 + j)) = _
    rw [if_pos (h (c + 1 + j) (by omega) (by omega))]
    exact ih (fun i h1 h2 => h i h1 (by omega))
theorem jLn_le {a b : Nat} (ha : a < 2 ^ 60) (hb : b < 2 ^ 60) : jL (a : Int) ≤ jL (b : Int) ↔ a ≤ b := by
  rw [jL_le (by omega) (by omega)]
  omega
theorem jLn_lt {a b : Nat} (ha : a < 2 ^ 60) (hb : b < 2 ^ 60) : jL (a : Int) < jL (b : Int) ↔ a < b := by
  rw [jL_lt (by omega) (by omega)]
  omega
section MAY
variable {lt mt : Nat → Int64} {n k y : Nat}
theorem J_lt (hn : n ≤ 50) {c : Nat} (hc : c ≤ n) : Jw n c k y < 2 ^ 55 := by
  have := Jw_le (k := k) (y := y) hn hc
  omega
theorem li_loop (ht : TInv lt) (hn : n ≤ 50) (hk : k ≤ 50) (hy : y ≤ k) : ∀ (j f m : Nat), m + j = n → j < f → f_X5_likeliest_L6 (nI n) (nI k) (nI y) lt f (nI (am (fun c => Jw n c k y) m)) (nI (m + 1)) = some (nI (am (fun c => Jw n c k y) n)) := by
  intro j
  induction j with
  | zero =>
    intro f m hm hf
    obtain ⟨f, rfl⟩ : ∃ q, f = q + 1 := ⟨f - 1, by omega⟩
    have e : m = n := by omega
    subst e
    show f_X5_likeliest_L6_body (nI m) (nI k) (nI y) lt (f_X5_likeliest_L6 (nI m) (nI k) (nI y) lt f) (nI (am (fun c => Jw m c k y) m)) (nI (m + 1)) = _
    rw [f_X5_likeliest_L6_body, if_pos ((nlt_n (by omega) (by omega)).mpr (by omega))]
  | succ j ih =>
    intro f m hm hf
    obtain ⟨f, rfl⟩ : ∃ q, f = q + 1 := ⟨f - 1, by omega⟩
    have ha := am_le (fun c => Jw n c k y) m
    have hc1 : ¬ nI n < nI (m + 1) := fun q => by have := (nlt_n (by omega) (by omega)).mp q; omega
    show f_X5_likeliest_L6_body (nI n) (nI k) (nI y) lt (f_X5_likeliest_L6 (nI n) (nI k) (nI y) lt f) (nI (am (fun c => Jw n c k y) m)) (nI (m + 1)) = _
    rw [f_X5_likeliest_L6_body, if_neg hc1, ju_ok ht hn (by omega) hk hy, b1, ju_ok ht hn (by omega) hk hy, b1, nI_1]
    have h1 : Jw n (m + 1) k y < 2 ^ 55 := J_lt hn (by omega)
    have h2 : Jw n (am (fun c => Jw n c k y) m) k y < 2 ^ 55 := J_lt hn (by omega)
    have ih1 := ih f (m + 1) (by omega) (by omega)
    have es : am (fun c => Jw n c k y) (m + 1) = if Jw n (m + 1) k y ≤ Jw n (am (fun c => Jw n c k y) m) k y then am (fun c => Jw n c k y) m else m + 1 := rfl
    rw [es] at ih1
    by_cases hq : Jw n (m + 1) k y ≤ Jw n (am (fun c => Jw n c k y) m) k y
    · rw [if_pos hq] at ih1
      rw [if_pos ((cm_le0 _ _).mpr ((jLn_le (by omega) (by omega)).mpr hq))]
      exact ih1
    · rw [if_neg hq] at ih1
      rw [if_neg (fun z => hq ((jLn_le (by omega) (by omega)).mp ((cm_le0 _ _).mp z)))]
      exact ih1
theorem li_ok (ht : TInv lt) (hn : n ≤ 50) (hk : k ≤ 50) (hy : y ≤ k) : f_X5_likeliest (nI n) (nI k) (nI y) lt = some (nI (am (fun c => Jw n c k y) n)) :=
  li_loop ht hn hk hy n pa_fu 0 (by omega) (by have : pa_fu = 4096 := rfl; omega)
theorem m54_step (hm : MInv mt) (hn : n ≤ 50) (hk : k ≤ 50) (hy : y ≤ k) (w : Int32) {M li c f : Nat} (hM : M < 2 ^ 55) (hc : c ≤ n) : f_X10_may_L54 (nI n) (nI k) (nI y) w 0 mt (f + 1) (jL (M : Int)) (nI li) (nI c) = if Jw n c k y ≤ M then f_X10_may_L54 (nI n) (nI k) (nI y) w 0 mt f (jL (M : Int)) (nI li) (nI (c + 1)) else f_X10_may_L54 (nI n) (nI k) (nI y) w 0 mt f (jL (Jw n c k y : Nat)) (nI c) (nI (c + 1)) := by
  have hc1 : ¬ nI n < nI c := fun q => by have := (nlt_n (by omega) (by omega)).mp q; omega
  have h1 : Jw n c k y < 2 ^ 55 := J_lt hn hc
  show f_X10_may_L54_body (nI n) (nI k) (nI y) w 0 mt (f_X10_may_L54 (nI n) (nI k) (nI y) w 0 mt f) (jL (M : Int)) (nI li) (nI c) = _
  rw [f_X10_may_L54_body, if_neg hc1, cm_ok hm (by omega) (by omega), b1, nsub hc, nsub hy, cm_ok hm (by omega) (by omega), b1, jLn_mul]
  show (if lg_cmp (jL (Jw n c k y : Nat)) (jL (M : Int)) ≤ 0 then f_X10_may_b96 _ _ _ _ _ _ _ (jL (Jw n c k y : Nat)) _ _ _ else f_X10_may_b96 _ _ _ _ _ _ _ (jL (Jw n c k y : Nat)) _ _ _) = _
  rw [f_X10_may_b96, f_X10_may_b96, nI_1]
  by_cases hq : Jw n c k y ≤ M
  · have hz := (cm_le0 _ _).mpr ((jLn_le (by omega) (by omega)).mpr hq)
    rw [if_pos hz, if_pos hz, if_pos hq]
  · have hz : ¬ lg_cmp (jL (Jw n c k y : Nat)) (jL (M : Int)) ≤ 0 := fun z => hq ((jLn_le (by omega) (by omega)).mp ((cm_le0 _ _).mp z))
    rw [if_neg hz, if_neg hz, if_neg hq]
theorem m54_loop (hm : MInv mt) (hn : n ≤ 50) (hk : k ≤ 50) (hy : y ≤ k) (w : Int32) : ∀ (j f m : Nat), m + j = n → j < f → f_X10_may_L54 (nI n) (nI k) (nI y) w 0 mt f (jL (Jw n (am (fun c => Jw n c k y) m) k y : Nat)) (nI (am (fun c => Jw n c k y) m)) (nI (m + 1)) = f_X10_may_L132 (nI n) (nI k) (nI y) w (jL (Jw n (am (fun c => Jw n c k y) n) k y : Nat)) (nI (am (fun c => Jw n c k y) n)) 0 mt pa_fu (-9) (-9) 0 := by
  intro j
  induction j with
  | zero =>
    intro f m hm2 hf
    obtain ⟨f, rfl⟩ : ∃ q, f = q + 1 := ⟨f - 1, by omega⟩
    have e : m = n := by omega
    subst e
    show f_X10_may_L54_body (nI m) (nI k) (nI y) w 0 mt (f_X10_may_L54 (nI m) (nI k) (nI y) w 0 mt f) _ _ (nI (m + 1)) = _
    rw [f_X10_may_L54_body, if_pos ((nlt_n (by omega) (by omega)).mpr (by omega))]
  | succ j ih =>
    intro f m hm2 hf
    obtain ⟨f, rfl⟩ : ∃ q, f = q + 1 := ⟨f - 1, by omega⟩
    have ha := am_le (fun c => Jw n c k y) m
    have h2 : Jw n (am (fun c => Jw n c k y) m) k y < 2 ^ 55 := J_lt hn (by omega)
    rw [m54_step hm hn hk hy w h2 (by omega)]
    have ih1 := ih f (m + 1) (by omega) (by omega)
    have es : am (fun c => Jw n c k y) (m + 1) = if Jw n (m + 1) k y ≤ Jw n (am (fun c => Jw n c k y) m) k y then am (fun c => Jw n c k y) m else m + 1 := rfl
    rw [es] at ih1
    by_cases hq : Jw n (m + 1) k y ≤ Jw n (am (fun c => Jw n c k y) m) k y
    · rw [if_pos hq] at ih1
      rw [if_pos hq]
      exact ih1
    · rw [if_neg hq] at ih1
      rw [if_neg hq]
      exact ih1
theorem m132_step (hm : MInv mt) (hn : n ≤ 50) (hk : k ≤ 50) (hy : y ≤ k) (w x8 x9 : Int32) {M li c f : Nat} (hM : M < 2 ^ 55) (hc : c ≤ n) : f_X10_may_L132 (nI n) (nI k) (nI y) w (jL (M : Int)) (nI li) 0 mt (f + 1) x8 x9 (nI c) = if 10 * Jw n c k y < M then f_X10_may_L132 (nI n) (nI k) (nI y) w (jL (M : Int)) (nI li) 0 mt f x8 x9 (nI (c + 1)) else f_X10_may_L132 (nI n) (nI k) (nI y) w (jL (M : Int)) (nI li) 0 mt f (if x8 = -9 then nI c else x8) (nI c) (nI (c + 1)) := by
  have hc1 : ¬ nI n < nI c := fun q => by have := (nlt_n (by omega) (by omega)).mp q; omega
  have h1 : Jw n c k y < 2 ^ 55 := J_lt hn hc
  have em : ((10 : Int64) * jL (bi c y : Nat)) * jL (bi (n - c) (k - y) : Nat) = jL ((10 * Jw n c k y : Nat) : Int) := by
    rw [show (10 : Int64) = jL ((10 : Nat) : Int) from rfl, jLn_mul, jLn_mul, Nat.mul_assoc]
    rfl
  show f_X10_may_L132_body (nI n) (nI k) (nI y) w (jL (M : Int)) (nI li) 0 mt (f_X10_may_L132 (nI n) (nI k) (nI y) w (jL (M : Int)) (nI li) 0 mt f) x8 x9 (nI c) = _
  rw [f_X10_may_L132_body, if_neg hc1, cm_ok hm (by omega) (by omega), b1, nsub hc, nsub hy, cm_ok hm (by omega) (by omega), b1, em]
  by_cases hq : 10 * Jw n c k y < M
  · have hz := (cm_lt0 _ _).mpr ((jLn_lt (a := 10 * Jw n c k y) (by omega) (by omega)).mpr hq)
    rw [if_pos hz, if_pos hq, f_X10_may_b172, if_pos rfl, f_X10_may_b191, f_X10_may_b193, if_pos rfl, nI_1]
  · have hz : ¬ lg_cmp (jL ((10 * Jw n c k y : Nat) : Int)) (jL (M : Int)) < 0 := fun z => hq ((jLn_lt (a := 10 * Jw n c k y) (by omega) (by omega)).mp ((cm_lt0 _ _).mp z))
    rw [if_neg hz, if_neg hq, f_X10_may_b172, if_neg (by decide)]
    by_cases h8 : x8 = -9
    · rw [if_pos h8, if_pos h8, f_X10_may_b193, if_neg (by decide), nI_1]
    · rw [if_neg h8, if_neg h8, f_X10_may_b191, f_X10_may_b193, if_neg (by decide), nI_1]
theorem m132_loop (hm : MInv mt) (hn : n ≤ 50) (hk : k ≤ 50) (hy : y ≤ k) (w : Int32) {M li : Nat} (hM : M < 2 ^ 55) : ∀ (j f c : Nat), c + j = n + 1 → j < f → f_X10_may_L132 (nI n) (nI k) (nI y) w (jL (M : Int)) (nI li) 0 mt f (fiW (fun c => Jw n c k y) M c) (laW (fun c => Jw n c k y) M c) (nI c) = if w = 0 then some (nI li, 0) else if w = 1 then some (fiW (fun c => Jw n c k y) M (n + 1), 0) else some (laW (fun c => Jw n c k y) M (n + 1), 0) := by
  intro j
  induction j with
  | zero =>
    intro f c hc hf
    obtain ⟨f, rfl⟩ : ∃ q, f = q + 1 := ⟨f - 1, by omega⟩
    have e : c = n + 1 := by omega
    subst e
    show f_X10_may_L132_body (nI n) (nI k) (nI y) w (jL (M : Int)) (nI li) 0 mt (f_X10_may_L132 (nI n) (nI k) (nI y) w (jL (M : Int)) (nI li) 0 mt f) _ _ (nI (n + 1)) = _
    rw [f_X10_may_L132_body, if_pos ((nlt_n (by omega) (by omega)).mpr (by omega))]
  | succ j ih =>
    intro f c hc hf
    obtain ⟨f, rfl⟩ : ∃ q, f = q + 1 := ⟨f - 1, by omega⟩
    rw [m132_step hm hn hk hy w _ _ hM (by omega), ← ih f (c + 1) (by omega) (by omega)]
    have e1 : fiW (fun c => Jw n c k y) M (c + 1) = if 10 * Jw n c k y < M then fiW (fun c => Jw n c k y) M c else if fiW (fun c => Jw n c k y) M c = -9 then nI c else fiW (fun c => Jw n c k y) M c := rfl
    have e2 : laW (fun c => Jw n c k y) M (c + 1) = if 10 * Jw n c k y < M then laW (fun c => Jw n c k y) M c else nI c := rfl
    rw [e1, e2]
    by_cases hq : 10 * Jw n c k y < M
    · rw [if_pos hq, if_pos hq, if_pos hq]
    · rw [if_neg hq, if_neg hq, if_neg hq]
theorem il_ok (ht : TInv lt) (hn : n ≤ 50) (hk : k ≤ 50) (hy : y ≤ k) {M c : Nat} (hM : M < 2 ^ 55) (hc : c ≤ n) : f_X5_isLikely (nI n) (nI c) (nI k) (nI y) (jL (M : Int)) lt = some (if 10 * Jw n c k y < M then 0 else 1) := by
  have h1 : Jw n c k y < 2 ^ 55 := J_lt hn hc
  rw [f_X5_isLikely, ju_ok ht hn hc hk hy, b1, show (10 : Int64) = jL ((10 : Nat) : Int) from rfl, jLn_mul, Nat.mul_comm (Jw n c k y) 10]
  by_cases hq : 10 * Jw n c k y < M
  · rw [if_pos hq, if_pos ((cm_lt0 _ _).mpr ((jLn_lt (a := 10 * Jw n c k y) (by omega) (by omega)).mpr hq))]
  · rw [if_neg hq, if_neg (fun z => hq ((jLn_lt (a := 10 * Jw n c k y) (by omega) (by omega)).mp ((cm_lt0 _ _).mp z)))]
theorem lt_loop (ht : TInv lt) (hn : n ≤ 50) (hk : k ≤ 50) (hy : y ≤ k) {M : Nat} (hM : M < 2 ^ 55) (hex : ∃ c0, c0 ≤ n ∧ ¬ 10 * Jw n c0 k y < M) : ∀ (j f c : Nat), c + j = n → j < f → (∀ i, i < c → 10 * Jw n i k y < M) → fiW (fun c => Jw n c k y) M c = -9 → f_X5_leastTruth_L3 (nI n) (nI k) (nI y) (jL (M : Int)) lt f (nI c) = some (fiW (fun c => Jw n c k y) M (n + 1)) := by
  intro j
  induction j with
  | zero =>
    intro f c hc hf hp h9
    obtain ⟨f, rfl⟩ : ∃ q, f = q + 1 := ⟨f - 1, by omega⟩
    have e : c = n := by omega
    subst e
    have hl : ¬ 10 * Jw c c k y < M := by
      obtain ⟨c0, h1, h2⟩ := hex
      rcases Nat.lt_or_ge c0 c with q | q
      · exact absurd (hp c0 q) h2
      · have : c0 = c := by omega
        subst this
        exact h2
    have e1 : fiW (fun c' => Jw c c' k y) M (c + 1) = if 10 * Jw c c k y < M then fiW (fun c' => Jw c c' k y) M c else if fiW (fun c' => Jw c c' k y) M c = -9 then nI c else fiW (fun c' => Jw c c' k y) M c := rfl
    rw [e1, if_neg hl, if_pos h9]
    show f_X5_leastTruth_L3_body (nI c) (nI k) (nI y) (jL (M : Int)) lt (f_X5_leastTruth_L3 (nI c) (nI k) (nI y) (jL (M : Int)) lt f) (nI c) = _
    rw [f_X5_leastTruth_L3_body, if_pos (Int32.le_refl _)]
  | succ j ih =>
    intro f c hc hf hp h9
    obtain ⟨f, rfl⟩ : ∃ q, f = q + 1 := ⟨f - 1, by omega⟩
    have hc1 : ¬ nI n ≤ nI c := fun q => by have := (nle_n (by omega) (by omega)).mp q; omega
    show f_X5_leastTruth_L3_body (nI n) (nI k) (nI y) (jL (M : Int)) lt (f_X5_leastTruth_L3 (nI n) (nI k) (nI y) (jL (M : Int)) lt f) (nI c) = _
    rw [f_X5_leastTruth_L3_body, if_neg hc1, il_ok ht hn hk hy hM (by omega), b1, nI_1]
    have e1 : fiW (fun c => Jw n c k y) M (c + 1) = if 10 * Jw n c k y < M then fiW (fun c => Jw n c k y) M c else if fiW (fun c => Jw n c k y) M c = -9 then nI c else fiW (fun c => Jw n c k y) M c := rfl
    by_cases hq : 10 * Jw n c k y < M
    · rw [if_pos hq, if_pos rfl]
      rw [if_pos hq] at e1
      exact ih f (c + 1) (by omega) (by omega) (fun i hi => by
        rcases Nat.lt_or_ge i c with q | q
        · exact hp i q
        · have : i = c := by omega
          subst this
          exact hq) (e1.trans h9)
    · rw [if_neg hq, if_neg (by decide)]
      rw [if_neg hq, if_pos h9] at e1
      have e2 := fi_stay (J := fun c => Jw n c k y) (M := M) (c := c) (by omega) (n - c) e1
      rw [show c + 1 + (n - c) = n + 1 by omega] at e2
      rw [e2]
theorem mo_loop (ht : TInv lt) (hn : n ≤ 50) (hk : k ≤ 50) (hy : y ≤ k) {M : Nat} (hM : M < 2 ^ 55) (hex : ∃ c0, c0 ≤ n ∧ ¬ 10 * Jw n c0 k y < M) : ∀ (c f : Nat), c ≤ n → c < f → (∀ i, c < i → i ≤ n → 10 * Jw n i k y < M) → f_X5_mostTruth_L3 (nI n) (nI k) (nI y) (jL (M : Int)) lt f (nI c) = some (laW (fun c => Jw n c k y) M (n + 1)) := by
  intro c
  induction c with
  | zero =>
    intro f hc hf hp
    obtain ⟨f, rfl⟩ : ∃ q, f = q + 1 := ⟨f - 1, by omega⟩
    have hl : ¬ 10 * Jw n 0 k y < M := by
      obtain ⟨c0, h1, h2⟩ := hex
      rcases Nat.eq_zero_or_pos c0 with q | q
      · subst q
        exact h2
      · exact absurd (hp c0 q h1) h2
    have e2 := la_stay (J := fun c => Jw n c k y) (M := M) (c := 0) n (fun i h1 h2 => hp i h1 (by omega))
    rw [show 0 + 1 + n = n + 1 by omega] at e2
    rw [e2]
    have e1 : laW (fun c => Jw n c k y) M (0 + 1) = if 10 * Jw n 0 k y < M then laW (fun c => Jw n c k y) M 0 else nI 0 := rfl
    rw [e1, if_neg hl]
    show f_X5_mostTruth_L3_body (nI n) (nI k) (nI y) (jL (M : Int)) lt (f_X5_mostTruth_L3 (nI n) (nI k) (nI y) (jL (M : Int)) lt f) (nI 0) = _
    rw [f_X5_mostTruth_L3_body, if_pos (by decide)]
    rfl
  | succ c ih =>
    intro f hc hf hp
    obtain ⟨f, rfl⟩ : ∃ q, f = q + 1 := ⟨f - 1, by omega⟩
    have hc1 : ¬ nI (c + 1) ≤ 0 := fun q => by have := (nle_n (b := 0) (by omega) (by omega)).mp q; omega
    show f_X5_mostTruth_L3_body (nI n) (nI k) (nI y) (jL (M : Int)) lt (f_X5_mostTruth_L3 (nI n) (nI k) (nI y) (jL (M : Int)) lt f) (nI (c + 1)) = _
    rw [f_X5_mostTruth_L3_body, if_neg hc1, il_ok ht hn hk hy hM (by omega), b1, show nI (c + 1) + (-1 : Int32) = nI c from pk_m1 c]
    by_cases hq : 10 * Jw n (c + 1) k y < M
    · rw [if_pos hq, if_pos rfl]
      exact ih f (by omega) (by omega) (fun i h1 h2 => by
        rcases Nat.lt_or_ge (c + 1) i with q | q
        · exact hp i q h2
        · have : i = c + 1 := by omega
          subst this
          exact hq)
    · rw [if_neg hq, if_neg (by decide)]
      have e2 := la_stay (J := fun c => Jw n c k y) (M := M) (c := c + 1) (n - (c + 1)) (fun i h1 h2 => hp i h1 (by omega))
      rw [show c + 1 + 1 + (n - (c + 1)) = n + 1 by omega] at e2
      have e1 : laW (fun c => Jw n c k y) M (c + 1 + 1) = if 10 * Jw n (c + 1) k y < M then laW (fun c => Jw n c k y) M (c + 1) else nI (c + 1) := rfl
      rw [if_neg hq] at e1
      rw [e2, e1]
end MAY
/-- promise 14 -/
theorem st_may {lt mt : Nat → Int64} (ht : TInv lt) (hm : MInv mt) (x1 x2 x3 x4 : Int32) : ∃ a : Int32, f_X9_may x1 x2 x3 x4 lt = some a ∧ f_X10_may x1 x2 x3 x4 mt = some (a, 0) := by
  rw [f_X9_may, f_X10_may, in_wi]
  rcases wi2_cases x1 (hi := 50) (by decide) with ⟨h1, n, hn1, hn2, rfl⟩ | h1
  · have h1' : f_X9_within (nI n) 1 50 = some 1 := h1
    simp only [h1', b1, i10]
    rcases wi2_cases x2 (hi := n) (by omega) with ⟨h2, k, hk1, hk2, rfl⟩ | h2
    · simp only [h2, b1, i10]
      rcases wi0_cases x3 (hi := k) (by omega) with ⟨h3, y, hy, rfl⟩ | h3
      · simp only [h3, b1, i10]
        rcases wi0_cases x4 (hi := 2) (by decide) with ⟨h4, w, hw, rfl⟩ | h4
        · have h4' : f_X9_within (nI w) 0 2 = some 1 := h4
          have hk3 : k ≤ 50 := by omega
          have ha := am_le (fun c => Jw n c k y) n
          have hM : Jw n (am (fun c => Jw n c k y) n) k y < 2 ^ 55 := J_lt hn2 ha
          have hfu : pa_fu = 4096 := rfl
          have s0 : f_X10_may_L54 (nI n) (nI k) (nI y) (nI w) 0 mt pa_fu 0 0 0 = f_X10_may_L132 (nI n) (nI k) (nI y) (nI w) (jL (Jw n (am (fun c => Jw n c k y) n) k y : Nat)) (nI (am (fun c => Jw n c k y) n)) 0 mt pa_fu (-9) (-9) 0 := by
            have q := m54_step (mt := mt) (f := 4095) (li := 0) hm hn2 hk3 hy (nI w) (M := 0) (c := 0) (by decide) (by omega)
            have q' : f_X10_may_L54 (nI n) (nI k) (nI y) (nI w) 0 mt pa_fu 0 0 0 = _ := q
            rw [q']
            have r := m54_loop (mt := mt) hm hn2 hk3 hy (nI w) n 4095 0 (by omega) (by omega)
            rw [← r]
            show _ = f_X10_may_L54 (nI n) (nI k) (nI y) (nI w) 0 mt 4095 (jL (Jw n 0 k y : Nat)) (nI 0) (nI (0 + 1))
            by_cases hq : Jw n 0 k y ≤ 0
            · rw [if_pos hq, show Jw n 0 k y = 0 by omega]
            · rw [if_neg hq]
          have s1 := m132_loop (mt := mt) hm hn2 hk3 hy (nI w) (li := am (fun c => Jw n c k y) n) hM (n + 1) pa_fu 0 (by omega) (by omega)
          have s2 : f_X10_may_L54 (nI n) (nI k) (nI y) (nI w) 0 mt pa_fu 0 0 0 = _ := s0.trans s1
          have hex : ∃ c0, c0 ≤ n ∧ ¬ 10 * Jw n c0 k y < Jw n (am (fun c => Jw n c k y) n) k y := ⟨am (fun c => Jw n c k y) n, ha, by omega⟩
          have t1 : f_X5_leastTruth (nI n) (nI k) (nI y) (jL (Jw n (am (fun c => Jw n c k y) n) k y : Nat)) lt = some _ := lt_loop ht hn2 hk3 hy hM hex n pa_fu 0 (by omega) (by omega) (fun i hi => absurd hi (by omega)) rfl
          have t2 : f_X5_mostTruth (nI n) (nI k) (nI y) (jL (Jw n (am (fun c => Jw n c k y) n) k y : Nat)) lt = some _ := mo_loop ht hn2 hk3 hy hM hex n pa_fu (Nat.le_refl n) (by omega) (fun i h1 h2 => absurd h2 (by omega))
          simp only [h4', b1, i10, li_ok ht hn2 hk3 hy, ju_ok ht hn2 ha hk3 hy, t1, t2, s2]
          by_cases hz : nI w = 0
          · exact ⟨_, by rw [if_pos hz], by rw [if_pos hz]⟩
          · by_cases hz1 : nI w = 1
            · exact ⟨_, by rw [if_neg hz, if_pos hz1], by rw [if_neg hz, if_pos hz1]⟩
            · exact ⟨_, by rw [if_neg hz, if_neg hz1], by rw [if_neg hz, if_neg hz1]⟩
        · have h4' : f_X9_within x4 0 2 = some 0 := h4
          simp only [h4', b1, i00]
          exact ⟨_, rfl, rfl⟩
      · simp only [h3, b1, i00]
        exact ⟨_, rfl, rfl⟩
    · simp only [h2, b1, i00]
      exact ⟨_, rfl, rfl⟩
  · have h1' : f_X9_within x1 1 50 = some 0 := h1
    simp only [h1', b1, i00]
    exact ⟨_, rfl, rfl⟩
