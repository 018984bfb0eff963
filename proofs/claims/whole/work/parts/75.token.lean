/-! ===== the habit's words ===== -/
def tm (k : Nat) : Nat := [1, 2, 3, 4, 5, 0, 6].getD k 0
def AR (k : Nat) (v w : Int32) : Prop := (k = 2 → PM v w) ∧ (k = 3 → ∃ a, a ≤ 99 ∧ v = nI a ∧ w = nI a)
theorem AR_of {k : Nat} (h2 : ¬ k = 2) (h3 : ¬ k = 3) (v w : Int32) : AR k v w := ⟨fun h => absurd h h2, fun h => absurd h h3⟩
theorem is_let (x : Int32) : f_X6_isLetter x = f_X9_within x 97 122 := rfl
theorem is_dig (x : Int32) : f_X6_isDigit x = f_X9_within x 48 57 := rfl
theorem let0 (a : Int32) : ∃ u v, f_X6_bitsOf a 114 112 2 = some u ∧ f_X10_lets 0 a = some v ∧ ((u = -1 ∧ v = -1) ∨ (u, v) ∈ [((18 : Int32), (204 : Int32)), (16, 51), (0, 255)]) := by
  by_cases h1 : a = 114
  · subst h1
    exact ⟨18, 204, rfl, rfl, by decide⟩
  · by_cases h2 : a = 112
    · subst h2
      exact ⟨16, 51, rfl, rfl, by decide⟩
    · by_cases h3 : a = 120
      · subst h3
        exact ⟨0, 255, rfl, rfl, by decide⟩
      · refine ⟨-1, -1, ?_, ?_, Or.inl ⟨rfl, rfl⟩⟩
        · rw [f_X6_bitsOf, if_neg h1, if_neg h2, if_neg h3]
        · rw [f_X10_lets, if_neg h3, if_pos rfl, if_neg h1, if_neg h2]
theorem let1 (a : Int32) : ∃ u v, f_X6_bitsOf a 108 117 4 = some u ∧ f_X10_lets 1 a = some v ∧ ((u = -1 ∧ v = -1) ∨ (u, v) ∈ [((36 : Int32), (240 : Int32)), (32, 15), (0, 255)]) := by
  by_cases h1 : a = 108
  · subst h1
    exact ⟨36, 240, rfl, rfl, by decide⟩
  · by_cases h2 : a = 117
    · subst h2
      exact ⟨32, 15, rfl, rfl, by decide⟩
    · by_cases h3 : a = 120
      · subst h3
        exact ⟨0, 255, rfl, rfl, by decide⟩
      · refine ⟨-1, -1, ?_, ?_, Or.inl ⟨rfl, rfl⟩⟩
        · rw [f_X6_bitsOf, if_neg h1, if_neg h2, if_neg h3]
        · rw [f_X10_lets, if_neg h3, if_neg (by decide), if_pos rfl, if_neg h1, if_neg h2]
theorem let2 (a : Int32) : ∃ u v, f_X6_bitsOf a 121 110 1 = some u ∧ f_X10_lets 2 a = some v ∧ ((u = -1 ∧ v = -1) ∨ (u, v) ∈ [((9 : Int32), (170 : Int32)), (8, 85), (0, 255)]) := by
  by_cases h1 : a = 121
  · subst h1
    exact ⟨9, 170, rfl, rfl, by decide⟩
  · by_cases h2 : a = 110
    · subst h2
      exact ⟨8, 85, rfl, rfl, by decide⟩
    · by_cases h3 : a = 120
      · subst h3
        exact ⟨0, 255, rfl, rfl, by decide⟩
      · refine ⟨-1, -1, ?_, ?_, Or.inl ⟨rfl, rfl⟩⟩
        · rw [f_X6_bitsOf, if_neg h1, if_neg h2, if_neg h3]
        · rw [f_X10_lets, if_neg h3, if_neg (by decide), if_neg (by decide), if_neg h1, if_neg h2]
theorem PM_dec : ∀ a ∈ [((18 : Int32), (204 : Int32)), (16, 51), (0, 255)], ∀ b ∈ [((36 : Int32), (240 : Int32)), (32, 15), (0, 255)], ∀ c ∈ [((9 : Int32), (170 : Int32)), (8, 85), (0, 255)], (¬ a.1 < 0 ∧ ¬ b.1 < 0 ∧ 0 ≤ c.1 ∧ ¬ a.2 < 0 ∧ ¬ b.2 < 0 ∧ ¬ c.2 < 0 ∧ 0 ≤ (a.1 + b.1) + c.1) ∧ ∀ g, g < 8 → ((nI g &&& (((a.1 + b.1) + c.1) / (8 : Int32))) = ((a.1 + b.1) + c.1) - ((a.1 + b.1) + c.1) / (8 : Int32) * (8 : Int32) ↔ ((((a.2 &&& b.2) &&& c.2) >>> (nI g &&& 31)) &&& (1 : Int32)) = (1 : Int32)) := by
  decide +kernel
theorem w147 (x2 x3 x4 : Int32) : f_X10_words_b147 x2 x3 x4 = some (6, 0) := rfl
theorem w81 {x1 : Int32} (h : ¬ x1 = 3) (x2 x3 x4 v : Int32) : f_X10_words_b81 x1 x2 x3 x4 v = some (6, 0) := by
  rw [f_X10_words_b81, if_neg h, f_X10_words_b113, if_neg h, w147]
theorem wpat (a b c : Int32) : ∃ (u v : Int32) (k : Nat) (w : Int32), k < 7 ∧ AR k u w ∧ ((f_X6_bitsOf a 114 112 2).bind fun u_3 => (f_X6_bitsOf b 108 117 4).bind fun u_6 => (f_X6_bitsOf c 121 110 1).bind fun u_9 => if u_3 < 0 then some ((-1 : Int32)) else if u_6 < 0 then some ((-1 : Int32)) else if 0 ≤ u_9 then some (((u_3 + u_6) + u_9)) else some ((-1 : Int32))) = some u ∧ ((0 ≤ u ∧ k = 2 ∧ v = 3) ∨ (¬ 0 ≤ u ∧ k = 6 ∧ v = 6)) ∧ f_X10_words_b113 3 a b c = some (v, w) := by
  obtain ⟨u1, v1, a1, a2, a3⟩ := let0 a
  obtain ⟨u2, v2, b1', b2, b3⟩ := let1 b
  obtain ⟨u3, v3, c1, c2, c3⟩ := let2 c
  rw [f_X10_words_b113, if_pos rfl, a1, a2, b1', b2, c1, c2, b1, b1, b1, b1, b1, b1]
  rcases a3 with ⟨rfl, rfl⟩ | a3
  · refine ⟨-1, 6, 6, 0, by omega, AR_of (by decide) (by decide) _ _, ?_, Or.inr ⟨by decide, rfl, rfl⟩, ?_⟩
    · rw [if_pos (by decide)]
    · rw [if_pos (by decide), w147]
  rcases b3 with ⟨rfl, rfl⟩ | b3
  · refine ⟨-1, 6, 6, 0, by omega, AR_of (by decide) (by decide) _ _, ?_, Or.inr ⟨by decide, rfl, rfl⟩, ?_⟩
    · by_cases h : u1 < 0
      · rw [if_pos h]
      · rw [if_neg h, if_pos (by decide)]
    · by_cases h : v1 < 0
      · rw [if_pos h, w147]
      · rw [if_neg h, if_pos (by decide), w147]
  rcases c3 with ⟨rfl, rfl⟩ | c3
  · refine ⟨-1, 6, 6, 0, by omega, AR_of (by decide) (by decide) _ _, ?_, Or.inr ⟨by decide, rfl, rfl⟩, ?_⟩
    · by_cases h : u1 < 0
      · rw [if_pos h]
      · by_cases h' : u2 < 0
        · rw [if_neg h, if_pos h']
        · rw [if_neg h, if_neg h', if_neg (by decide)]
    · by_cases h : v1 < 0
      · rw [if_pos h, w147]
      · by_cases h' : v2 < 0
        · rw [if_neg h, if_pos h', w147]
        · rw [if_neg h, if_neg h', if_pos (by decide), w147]
  · have hh := PM_dec (u1, v1) a3 (u2, v2) b3 (u3, v3) c3
    dsimp only at hh
    obtain ⟨⟨q1, q2, q3, q4, q5, q6, q7⟩, q8⟩ := hh
    refine ⟨(u1 + u2) + u3, 3, 2, (v1 &&& v2) &&& v3, by omega, ⟨fun _ => q8, fun h => absurd h (by decide)⟩, ?_, Or.inl ⟨q7, rfl, rfl⟩, ?_⟩
    · rw [if_neg q1, if_neg q2, if_pos q3]
    · rw [if_neg q4, if_neg q5, if_neg q6, f_X10_words_b148, i10, f_X10_words_b162, i10, a2, b2, c2, b1, b1, b1]
section TOK
variable {n : Nat} {t : Nat → Nat}
theorem by_in (hn : n ≤ 300) {q : Nat} (h : q < n) : f_X10_byteAt (nI q) (nI n) (nF t) = some (nI (t q)) := by
  rw [f_X10_byteAt, if_neg (fun z => by have := (nle_n (by omega) (by omega)).mp z; omega), if_pos (ib_n (by omega) (by decide)), cl_n (by omega)]
  rfl
theorem by_out (hn : n ≤ 300) {q : Nat} (hq : q < 1000) (h : n ≤ q) : f_X10_byteAt (nI q) (nI n) (nF t) = some (-1) := by
  rw [f_X10_byteAt, if_pos ((nle_n (by omega) (by omega)).mpr h)]
theorem by_any (hn : n ≤ 300) {q : Nat} (hq : q < 1000) : ∃ v, f_X10_byteAt (nI q) (nI n) (nF t) = some v := by
  by_cases h : q < n
  · exact ⟨_, by_in hn h⟩
  · exact ⟨_, by_out hn hq (by omega)⟩
theorem sp_one {x p j f : Nat} (hs : pa_slN x ≤ 4) (hj : j < pa_slN x) (hp : p + j < 300) : f_X6_spells_L20 x (nI p) (nF t) (f + 1) (nI j) = if nI (t (p + j)) = pa_schr x j then f_X6_spells_L20 x (nI p) (nF t) f (nI (j + 1)) else some 0 := by
  show f_X6_spells_L20_body x (nI p) (nF t) (f_X6_spells_L20 x (nI p) (nF t) f) (nI j) = _
  rw [f_X6_spells_L20_body, if_neg (fun z => by have := (nle_n (a := pa_slN x) (by omega) (by omega)).mp z; omega), nI_add, if_pos (ib_n hp (by decide)), if_pos (ib_n hj (by omega)), cl_n (by omega), cl_n (by omega), nI_1]
  rfl
theorem sp_end {x p f : Nat} : f_X6_spells_L20 x (nI p) (nF t) (f + 1) (nI (pa_slN x)) = some 1 := by
  show f_X6_spells_L20_body x (nI p) (nF t) (f_X6_spells_L20 x (nI p) (nF t) f) (nI (pa_slN x)) = _
  rw [f_X6_spells_L20_body, if_pos (show pa_slen x ≤ nI (pa_slN x) from Int32.le_refl _)]
theorem sp_no {x p e : Nat} (h : p ≤ e) (he : e ≤ 300) (hl : ¬ e - p = pa_slN x) (hs : pa_slN x ≤ 4) : f_X6_spells x (nI p) (nI e) (nF t) = some 0 := by
  rw [f_X6_spells, nsub h, if_neg (show ¬ nI (e - p) = pa_slen x from fun z => hl ((nI_eq (by omega) (by omega)).mp z))]
theorem sp_0 {p e : Nat} (h : e = p + 4) (he : e ≤ 300) : f_X6_spells 0 (nI p) (nI e) (nF t) = if nI (t p) = 102 then if nI (t (p + 1)) = 105 then if nI (t (p + 2)) = 110 then if nI (t (p + 3)) = 100 then some 1 else some 0 else some 0 else some 0 else some 0 := by
  rw [f_X6_spells, nsub (by omega), show e - p = 4 by omega, if_pos (show nI 4 = pa_slen 0 from rfl)]
  show f_X6_spells_L20 0 (nI p) (nF t) (4091 + 1 + 1 + 1 + 1 + 1) (nI 0) = _
  rw [sp_one (by decide) (by decide) (by omega), sp_one (by decide) (by decide) (by omega), sp_one (by decide) (by decide) (by omega), sp_one (by decide) (by decide) (by omega), show nI (0 + 1 + 1 + 1 + 1) = nI (pa_slN 0) from rfl, sp_end]
  rfl
theorem sp_1 {p e : Nat} (h : e = p + 3) (he : e ≤ 300) : f_X6_spells 1 (nI p) (nI e) (nF t) = if nI (t p) = 97 then if nI (t (p + 1)) = 108 then if nI (t (p + 2)) = 108 then some 1 else some 0 else some 0 else some 0 := by
  rw [f_X6_spells, nsub (by omega), show e - p = 3 by omega, if_pos (show nI 3 = pa_slen 1 from rfl)]
  show f_X6_spells_L20 1 (nI p) (nF t) (4092 + 1 + 1 + 1 + 1) (nI 0) = _
  rw [sp_one (by decide) (by decide) (by omega), sp_one (by decide) (by decide) (by omega), sp_one (by decide) (by decide) (by omega), show nI (0 + 1 + 1 + 1) = nI (pa_slN 1) from rfl, sp_end]
  rfl
theorem pat_3 {p e : Nat} (h : e = p + 3) (he : e ≤ 300) {u : Int32} (hu : ((f_X6_bitsOf (nI (t p)) 114 112 2).bind fun u_3 => (f_X6_bitsOf (nI (t (p + 1))) 108 117 4).bind fun u_6 => (f_X6_bitsOf (nI (t (p + 2))) 121 110 1).bind fun u_9 => if u_3 < 0 then some ((-1 : Int32)) else if u_6 < 0 then some ((-1 : Int32)) else if 0 ≤ u_9 then some (((u_3 + u_6) + u_9)) else some ((-1 : Int32))) = some u) : f_X6_pattern (nI p) (nI e) (nF t) = some u := by
  obtain ⟨u1, v1, a1, -, -⟩ := let0 (nI (t p))
  obtain ⟨u2, v2, a2, -, -⟩ := let1 (nI (t (p + 1)))
  obtain ⟨u3, v3, a3, -, -⟩ := let2 (nI (t (p + 2)))
  rw [a1, b1, a2, b1, a3, b1] at hu
  rw [f_X6_pattern, nsub (by omega), show e - p = 3 by omega, if_pos (show nI 3 = (3 : Int32) from rfl), if_pos (ib_n (by omega : p < 300) (by decide)), cl_n (by omega), show nF t p = nI (t p) from rfl, a1, b1, show nI p + 1 = nI (p + 1) from nI_1 p, if_pos (ib_n (by omega : p + 1 < 300) (by decide)), cl_n (by omega), show nF t (p + 1) = nI (t (p + 1)) from rfl, a2, b1, show nI p + 2 = nI (p + 2) from nI_add p 2, if_pos (ib_n (by omega : p + 2 < 300) (by decide)), cl_n (by omega), show nF t (p + 2) = nI (t (p + 2)) from rfl, a3, b1]
  exact hu
theorem pat_n {p e : Nat} (hp : p ≤ e) (he : e ≤ 300) (h : ¬ e = p + 3) : f_X6_pattern (nI p) (nI e) (nF t) = some (-1) := by
  rw [f_X6_pattern, nsub hp, if_neg (show ¬ nI (e - p) = (3 : Int32) from fun z => h (by have := (nI_eq (b := 3) (by omega) (by omega)).mp z; omega))]
/-- a word, once its end is known -/
theorem wd_end (g : pa_GT) (hn : n ≤ 300) {p e : Nat} (h : p < e) (he : e ≤ n) (x mv : Int32) : ∃ (k : Nat) (v w : Int32), k < 7 ∧ AR k v w ∧ f_X6_readWord_b39 g (nI p) (nI e) x (nF t) = some (g.1 k, nI e, v) ∧ f_X10_words (nI e - nI p) (nI n) (nI p) mv (nF t) = some (nI (tm k), w) := by
  rw [f_X6_readWord_b39, f_X10_words, if_pos (ib_n (by omega : p < 300) (by decide)), nsub (by omega), cl_n (by omega), show nI p + 1 = nI (p + 1) from nI_1 p, show nI p + 2 = nI (p + 2) from nI_add p 2, show nI p + 3 = nI (p + 3) from nI_add p 3]
  by_cases h4 : e = p + 4
  · rw [sp_0 h4 (by omega), by_in hn (by omega : p + 1 < n), b1, by_in hn (by omega : p + 2 < n), b1, show e - p = 4 by omega, if_pos (show nI 4 = (4 : Int32) from rfl), if_pos (ib_n (by omega : p + 3 < 300) (by decide)), cl_n (by omega), sp_no (x := 1) (by omega) (by omega) (by rw [show e - p = 4 by omega]; decide) (by decide), pat_n (by omega) (by omega) (by omega)]
    have hw := w81 (x1 := nI 4) (by decide) (nI (t p)) (nI (t (p + 1))) (nI (t (p + 2))) mv
    show ∃ (k : Nat) (v w : Int32), _ ∧ _ ∧ _ ∧ (if nI (t p) = 102 then if nI (t (p + 1)) = 105 then if nI (t (p + 2)) = 110 then if nI (t (p + 3)) = 100 then some ((1 : Int32), mv) else f_X10_words_b81 (nI 4) (nI (t p)) (nI (t (p + 1))) (nI (t (p + 2))) mv else f_X10_words_b81 (nI 4) (nI (t p)) (nI (t (p + 1))) (nI (t (p + 2))) mv else f_X10_words_b81 (nI 4) (nI (t p)) (nI (t (p + 1))) (nI (t (p + 2))) mv else f_X10_words_b81 (nI 4) (nI (t p)) (nI (t (p + 1))) (nI (t (p + 2))) mv) = _
    rw [hw]
    have hno : ∃ (k : Nat) (v w : Int32), k < 7 ∧ AR k v w ∧ ((some (0 : Int32)).bind fun u_1 => if u_1 = 0 then (some (0 : Int32)).bind fun u_4 => if u_4 = 0 then (some (-1 : Int32)).bind fun u_7 => if 0 ≤ u_7 then some (g.1 2, nI e, u_7) else some (g.1 6, nI e, u_7) else some (g.1 1, nI e, x) else some (g.1 0, nI e, x)) = some (g.1 k, nI e, v) ∧ some ((6 : Int32), (0 : Int32)) = some (nI (tm k), w) := ⟨6, -1, 0, by decide, AR_of (by decide) (by decide) _ _, by rw [b1, i00, b1, i00, b1, if_neg (by decide)], rfl⟩
    by_cases q1 : nI (t p) = 102
    · by_cases q2 : nI (t (p + 1)) = 105
      · by_cases q3 : nI (t (p + 2)) = 110
        · by_cases q4 : nI (t (p + 3)) = 100
          · simp only [if_pos q1, if_pos q2, if_pos q3, if_pos q4]
            exact ⟨0, x, mv, by decide, AR_of (by decide) (by decide) _ _, rfl, rfl⟩
          · simp only [if_pos q1, if_pos q2, if_pos q3, if_neg q4]
            exact hno
        · simp only [if_pos q1, if_pos q2, if_neg q3]
          exact hno
      · simp only [if_pos q1, if_neg q2]
        exact hno
    · simp only [if_neg q1]
      exact hno
  · have n4 : ¬ nI (e - p) = (4 : Int32) := fun z => h4 (by have := (nI_eq (b := 4) (by omega) (by omega)).mp z; omega)
    rw [sp_no (x := 0) (by omega) (by omega) (fun z => h4 (by have : pa_slN 0 = 4 := rfl; omega)) (by decide), b1, i00]
    by_cases h3 : e = p + 3
    · obtain ⟨u, v, k, w, g1, g2, g3, g4, g5⟩ := wpat (nI (t p)) (nI (t (p + 1))) (nI (t (p + 2)))
      rw [sp_1 h3 (by omega), by_in hn (by omega : p + 1 < n), b1, by_in hn (by omega : p + 2 < n), b1, pat_3 h3 (by omega) g3, if_neg n4, show e - p = 3 by omega]
      show ∃ (k : Nat) (v w : Int32), _ ∧ _ ∧ _ ∧ f_X10_words_b81 3 (nI (t p)) (nI (t (p + 1))) (nI (t (p + 2))) mv = _
      have hno : ∃ (k : Nat) (v w : Int32), k < 7 ∧ AR k v w ∧ ((some (0 : Int32)).bind fun u_4 => if u_4 = 0 then (some u).bind fun u_7 => if 0 ≤ u_7 then some (g.1 2, nI e, u_7) else some (g.1 6, nI e, u_7) else some (g.1 1, nI e, x)) = some (g.1 k, nI e, v) ∧ f_X10_words_b113 3 (nI (t p)) (nI (t (p + 1))) (nI (t (p + 2))) = some (nI (tm k), w) := by
        refine ⟨k, u, w, g1, g2, ?_, ?_⟩
        · rw [b1, i00, b1]
          rcases g4 with ⟨q1, q2, q3⟩ | ⟨q1, q2, q3⟩
          · rw [if_pos q1, q2]
          · rw [if_neg q1, q2]
        · rw [g5]
          rcases g4 with ⟨q1, q2, q3⟩ | ⟨q1, q2, q3⟩
          · rw [q2, q3]
            rfl
          · rw [q2, q3]
            rfl
      rw [f_X10_words_b81, if_pos (show (3 : Int32) = 3 from rfl)]
      by_cases q1 : nI (t p) = 97
      · by_cases q2 : nI (t (p + 1)) = 108
        · by_cases q3 : nI (t (p + 2)) = 108
          · simp only [if_pos q1, if_pos q2, if_pos q3]
            exact ⟨1, x, mv, by decide, AR_of (by decide) (by decide) _ _, rfl, rfl⟩
          · simp only [if_pos q1, if_pos q2, if_neg q3]
            exact hno
        · simp only [if_pos q1, if_neg q2]
          exact hno
      · simp only [if_neg q1]
        exact hno
    · obtain ⟨y1, e1⟩ := by_any (t := t) hn (q := p + 1) (by omega)
      obtain ⟨y2, e2⟩ := by_any (t := t) hn (q := p + 2) (by omega)
      rw [sp_no (x := 1) (by omega) (by omega) (fun z => h3 (by have : pa_slN 1 = 3 := rfl; omega)) (by decide), b1, i00, pat_n (by omega) (by omega) h3, b1, if_neg (show ¬ (0 : Int32) ≤ -1 by decide), e1, b1, e2, b1, if_neg n4, w81 (fun z => h3 (by have := (nI_eq (b := 3) (by omega) (by omega)).mp z; omega))]
      exact ⟨6, -1, 0, by decide, AR_of (by decide) (by decide) _ _, rfl, rfl⟩
end TOK
