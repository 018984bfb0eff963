/-! ===== the habit ===== -/
theorem tm_eq : ∀ k, k < 7 → (nI (tm k) = 0 ↔ k = 5) ∧ (nI (tm k) = 1 ↔ k = 0) ∧ (nI (tm k) = 2 ↔ k = 1) ∧ (nI (tm k) = 3 ↔ k = 2) ∧ (nI (tm k) = 4 ↔ k = 3) ∧ (nI (tm k) = 5 ↔ k = 4) := by decide
def GI (g : pa_GT) : Prop := ∀ i j, i < 7 → j < 7 → g.1 i = g.1 j → i = j
theorem GI.eq {g : pa_GT} (h : GI g) {k i : Nat} (hk : k < 7) (hi : i < 7) : g.1 k = g.1 i ↔ k = i := ⟨fun e => h k i hk hi e, fun e => by rw [e]⟩
theorem well_n {q : Nat} (hq : q < 1000) : f_X10_isWell (nI q) = some 0 := by
  rw [f_X10_isWell, if_pos (show (0 : Int32) ≤ nI q from (nle_n (a := 0) (by omega) (by omega)).mpr (by omega))]
theorem want_n {q : Nat} (hq : q < 1000) (x pl : Int32) : f_X10_wants x pl (nI q) = some (nI q) := by
  rw [f_X10_wants, well_n hq, b1, i00]
theorem want_0 (pl : Int32) : f_X10_wants 0 pl (-1) = some pl := rfl
theorem want_1 (pl : Int32) : f_X10_wants 1 pl (-1) = some (-1) := rfl
theorem well_1 : f_X10_isWell (-1) = some 1 := rfl
def HR (n : Nat) (C : Option (Int32 × Int32 × Nat × Int32 × Int32 × Int32 × Int32 × (Nat → Int32) × (Nat → Int32) × (Nat → Int32) × (Nat → Int32))) (R : Option (Int32 × Int32 × Int32 × Int32 × Int32 × Int32 × Int32 × Int32 × Int32 × (Nat → Int32))) : Prop :=
  ∃ (a : Int32) (n' fn' : Nat) (tok' : Nat) (pl' en' va' : Int32) (hp' hl' hq' hm' mf' : Nat → Int32) (ne mt mp mv mq : Int32), n' ≤ n ∧ BInv fn' hp' hl' mf' ∧ C = some (a, nI n', tok', pl', en', va', nI fn', hp', hl', hq', hm') ∧ R = some (a, 0, nI n', ne, mt, mp, mv, mq, nI fn', mf')
def SInv (r : Nat) (hq hm mf mf0 : Nat → Int32) : Prop := r ≤ 12 ∧ (∀ i, i < r → PM (hq i) (mf (26 + 2 * i)) ∧ ((∃ a, 1 ≤ a ∧ a ≤ 50 ∧ hm i = nI a ∧ mf (27 + 2 * i) = nI a) ∨ (hm i = 50 ∧ mf (27 + 2 * i) = -9))) ∧ ∀ i, i < 24 → mf i = mf0 i
section HAB
variable {n fn : Nat} {t : Nat → Nat} {hp hl mf0 : Nat → Int32}
theorem BInv.same (hB : BInv fn hp hl mf0) {mf : Nat → Int32} (h : ∀ i, i < 24 → mf i = mf0 i) : BInv fn hp hl mf := by
  refine ⟨hB.1, fun k hk => ?_⟩
  have h12 := hB.1
  rw [h (2 * k) (by omega), h (2 * k + 1) (by omega)]
  exact hB.2 k hk
theorem HR_flt (hB : BInv fn hp hl mf0) {mf : Nat → Int32} (h : ∀ i, i < 24 → mf i = mf0 i) {C : Option (Int32 × Int32 × Nat × Int32 × Int32 × Int32 × Int32 × (Nat → Int32) × (Nat → Int32) × (Nat → Int32) × (Nat → Int32))} {R : Option (Int32 × Int32 × Int32 × Int32 × Int32 × Int32 × Int32 × Int32 × Int32 × (Nat → Int32))} {a : Int32} {tok : Nat} {pl en va : Int32} {hq hm : Nat → Int32} {ne mt mp mv mq : Int32} (hC : C = some (a, nI n, tok, pl, en, va, nI fn, hp, hl, hq, hm)) (hR : R = some (a, 0, nI n, ne, mt, mp, mv, mq, nI fn, mf)) : HR n C R :=
  ⟨a, n, fn, tok, pl, en, va, hp, hl, hq, hm, mf, ne, mt, mp, mv, mq, Nat.le_refl _, hB.same h, hC, hR⟩
/-- with a fault the rest is skipped -/
theorem fl_21 {f q : Nat} (hq : q < 1000) (x1 ne to pl va : Int32) (mf : Nat → Int32) : f_X10_habit_L21 0 (nI n) (nI fn) (nF t) (f + 1) x1 ne to pl va (nI q) mf = some (-10 - nI q, 0, nI n, ne, to, pl, va, nI q, nI fn, mf) := by
  show f_X10_habit_L21_body 0 (nI n) (nI fn) (nF t) (f_X10_habit_L21 0 (nI n) (nI fn) (nF t) f) x1 ne to pl va (nI q) mf = _
  rw [f_X10_habit_L21_body, well_n hq, b1, i00, f_X10_habit_b244, well_n hq, b1, i00]
theorem fl_224 {f q : Nat} (hq : q < 1000) (x1 s1 ne to pl va : Int32) (mf : Nat → Int32) : f_X10_habit_b224 (f_X10_habit_L21 0 (nI n) (nI fn) (nF t) (f + 1)) x1 s1 0 (nI n) ne to pl va (nI q) (nI fn) (nF t) mf = some (-10 - nI q, 0, nI n, ne, to, pl, va, nI q, nI fn, mf) := by
  rw [f_X10_habit_b224, want_n hq, b1, well_n hq, b1, i00, fl_21 hq]
theorem fl_210 {f q : Nat} (hq : q < 1000) (x1 ne to pl va : Int32) (mf : Nat → Int32) : f_X10_habit_b210 (f_X10_habit_L21 0 (nI n) (nI fn) (nF t) (f + 1)) x1 0 (nI n) ne to pl va (nI q) (nI fn) (nF t) mf = some (-10 - nI q, 0, nI n, ne, to, pl, va, nI q, nI fn, mf) := by
  rw [f_X10_habit_b210]
  split
  · exact fl_224 hq _ _ _ _ _ _ _
  · exact fl_224 hq _ _ _ _ _ _ _
theorem fl_143 {f q : Nat} (hq : q < 1000) (x1 x2 ne to pl va : Int32) (mf : Nat → Int32) : f_X10_habit_b143 (f_X10_habit_L21 0 (nI n) (nI fn) (nF t) (f + 1)) x1 x2 0 (nI n) ne to pl va (nI q) (nI fn) (nF t) mf = some (-10 - nI q, 0, nI n, ne, to, pl, va, nI q, nI fn, mf) := by
  rw [f_X10_habit_b143, well_n hq, b1, i00, fl_210 hq]
theorem fl_101 {f q : Nat} (hq : q < 1000) (x1 x2 s1 ne to pl va : Int32) (mf : Nat → Int32) : f_X10_habit_b101 (f_X10_habit_L21 0 (nI n) (nI fn) (nF t) (f + 1)) x1 x2 s1 0 (nI n) ne to pl va (nI q) (nI fn) (nF t) mf = some (-10 - nI q, 0, nI n, ne, to, pl, va, nI q, nI fn, mf) := by
  rw [f_X10_habit_b101, want_n hq, b1, well_n hq, b1, i00, fl_143 hq]
theorem fl_87 {f q : Nat} (hq : q < 1000) (x1 x2 ne to pl va : Int32) (mf : Nat → Int32) : f_X10_habit_b87 (f_X10_habit_L21 0 (nI n) (nI fn) (nF t) (f + 1)) x1 x2 0 (nI n) ne to pl va (nI q) (nI fn) (nF t) mf = some (-10 - nI q, 0, nI n, ne, to, pl, va, nI q, nI fn, mf) := by
  rw [f_X10_habit_b87]
  split
  · exact fl_101 hq _ _ _ _ _ _ _ _
  · exact fl_101 hq _ _ _ _ _ _ _ _
/-- the faults themselves, at the place of the word -/
theorem ft_72 {f p : Nat} (hq : p < 1000) (x1 x2 ne to va : Int32) (mf : Nat → Int32) : f_X10_habit_b72 (f_X10_habit_L21 0 (nI n) (nI fn) (nF t) (f + 1)) x1 x2 0 (nI n) ne to (nI p) va (-1) (nI fn) (nF t) mf = some (-10 - nI p, 0, nI n, ne, to, nI p, va, nI p, nI fn, mf) := by
  rw [f_X10_habit_b72, f_X10_habit_b73, want_0, b1, well_n hq, b1, i00, fl_87 hq]
theorem ft_101 {f p : Nat} (hq : p < 1000) (x1 x2 ne to va : Int32) (mf : Nat → Int32) : f_X10_habit_b101 (f_X10_habit_L21 0 (nI n) (nI fn) (nF t) (f + 1)) x1 x2 0 0 (nI n) ne to (nI p) va (-1) (nI fn) (nF t) mf = some (-10 - nI p, 0, nI n, ne, to, nI p, va, nI p, nI fn, mf) := by
  rw [f_X10_habit_b101, want_0, b1, well_n hq, b1, i00, fl_143 hq]
theorem ft_180 {f p : Nat} (hq : p < 1000) (x1 ne to va : Int32) (mf : Nat → Int32) : f_X10_habit_b180 (f_X10_habit_L21 0 (nI n) (nI fn) (nF t) (f + 1)) x1 0 (nI n) ne to (nI p) va (-1) (nI fn) (nF t) mf = some (-10 - nI p, 0, nI n, ne, to, nI p, va, nI p, nI fn, mf) := by
  rw [f_X10_habit_b180, f_X10_habit_b181, want_0, b1, well_n hq, b1, i00, fl_210 hq]
theorem ft_224 {f p : Nat} (hq : p < 1000) (x1 ne to va : Int32) (mf : Nat → Int32) : f_X10_habit_b224 (f_X10_habit_L21 0 (nI n) (nI fn) (nF t) (f + 1)) x1 0 0 (nI n) ne to (nI p) va (-1) (nI fn) (nF t) mf = some (-10 - nI p, 0, nI n, ne, to, nI p, va, nI p, nI fn, mf) := by
  rw [f_X10_habit_b224, want_0, b1, well_n hq, b1, i00, fl_21 hq]
/-- what the class does behind a find -/
def hbK (g : pa_GT) (n fn : Nat) (t : Nat → Nat) (hp hl : Nat → Int32) (f r : Nat) (u : Int32 × Nat × Int32 × Int32 × Int32 × (Nat → Int32) × (Nat → Int32)) : Option (Int32 × Int32 × Nat × Int32 × Int32 × Int32 × Int32 × (Nat → Int32) × (Nat → Int32) × (Nat → Int32) × (Nat → Int32)) :=
  if u.1 = 0 then some (((-10 : Int32) - u.2.2.1), nI n, u.2.1, u.2.2.1, u.2.2.2.1, u.2.2.2.2.1, nI fn, hp, hl, u.2.2.2.2.2.1, u.2.2.2.2.2.2) else f_X2_learn_L6 g (nI n) (nF t) (nI fn) hp hl f (nI r + (1 : Int32)) u.2.1 u.2.2.1 u.2.2.2.1 u.2.2.2.2.1 u.2.2.2.2.2.1 u.2.2.2.2.2.2
theorem hbK_0 (g : pa_GT) (f r tok : Nat) (pl en va : Int32) (hq hm : Nat → Int32) : hbK g n fn t hp hl f r (0, tok, pl, en, va, hq, hm) = some (-10 - pl, nI n, tok, pl, en, va, nI fn, hp, hl, hq, hm) := rfl
theorem hbK_1 (g : pa_GT) (f r tok : Nat) (pl en va : Int32) (hq hm : Nat → Int32) : hbK g n fn t hp hl f r (1, tok, pl, en, va, hq, hm) = f_X2_learn_L6 g (nI n) (nF t) (nI fn) hp hl f (nI (r + 1)) tok pl en va hq hm := by
  rw [← nI_1]
  rfl
/-- the reference, before it has read the word that the class will read next -/
def hbR (n fn : Nat) (t : Nat → Nat) (f r e : Nat) (mt mv : Int32) (mf : Nat → Int32) : Option (Int32 × Int32 × Int32 × Int32 × Int32 × Int32 × Int32 × Int32 × Int32 × (Nat → Int32)) :=
  (f_X10_advances (nI n) (nI e) mt mv (nF t)).bind fun u => f_X10_habit_L21 0 (nI n) (nI fn) (nF t) f (nI r) u.1 u.2.1 u.2.2.1 u.2.2.2 (-1) mf
/-- the last word of a find -/
theorem hb_semi {g : pa_GT} (hg : GI g) (hn : n ≤ 300) (hB : BInv fn hp hl mf0) {f r k p e : Nat} {v w : Int32} {hq hm mf : Nat → Int32} (hk : k < 7) (hpn : p ≤ n) (hS : ∀ i, i < 24 → mf i = mf0 i) (ih : ∀ (tok : Nat) (pl va mt mv : Int32), HR n (f_X2_learn_L6 g (nI n) (nF t) (nI fn) hp hl (f + 1) (nI (r + 1)) tok pl (nI e) va hq hm) (hbR n fn t (f + 1) (r + 1) e mt mv mf)) : HR n ((f_X2_readFind_b113 g (g.1 k) (nI p) (nI e) v hq hm).bind (hbK g n fn t hp hl (f + 1) r)) (f_X10_habit_b210 (f_X10_habit_L21 0 (nI n) (nI fn) (nF t) (f + 1)) (nI r) 0 (nI n) (nI e) (nI (tm k)) (nI p) w (-1) (nI fn) (nF t) mf) := by
  have ht5 := (tm_eq k hk).2.2.2.2.2
  rw [f_X2_readFind_b113, f_X10_habit_b210]
  by_cases h : k = 4
  · rw [if_pos ((hg.eq hk (by decide)).mpr h), if_pos (ht5.mpr h), b1, hbK_1, f_X10_habit_b224, want_1, b1, well_1, b1, i10, nI_1]
    exact ih _ _ _ _ _
  · rw [if_neg (fun z => h ((hg.eq hk (by decide)).mp z)), if_neg (fun z => h (ht5.mp z)), b1, hbK_0, ft_224 (by omega)]
    exact HR_flt hB hS rfl rfl
theorem upd_ne {f : Nat → Int32} {k j : Nat} {x : Int32} (h : ¬ j = k) : upd f k x j = f j := pk_un h
/-- a find, behind its first word -/
theorem hb_find {g : pa_GT} (hg : GI g) (hn : n ≤ 300) (ht : ∀ i, t i ≤ 255) (hB : BInv fn hp hl mf0) {f r e tok : Nat} (he : e ≤ n) {x3 x2 pl va mt mv : Int32} (hx : (x3 = 1 ∧ x2 = 0) ∨ (x3 = 0 ∧ x2 = 1)) {hq hm mf : Nat → Int32} (hr : r < 12) (hS : SInv r hq hm mf mf0) (ih : ∀ (e tok : Nat) (pl va mt mv : Int32) (hq hm mf : Nat → Int32), e ≤ n → SInv (r + 1) hq hm mf mf0 → HR n (f_X2_learn_L6 g (nI n) (nF t) (nI fn) hp hl (f + 1) (nI (r + 1)) tok pl (nI e) va hq hm) (hbR n fn t (f + 1) (r + 1) e mt mv mf)) : HR n ((f_X2_readFind_b32 g (nI r) x3 (nI n) tok pl (nI e) va (nF t) hq hm).bind (hbK g n fn t hp hl (f + 1) r)) ((f_X10_advances (nI n) (nI e) mt mv (nF t)).bind fun u => f_X10_habit_b87 (f_X10_habit_L21 0 (nI n) (nI fn) (nF t) (f + 1)) (nI r) x2 0 (nI n) u.1 u.2.1 u.2.2.1 u.2.2.2 (-1) (nI fn) (nF t) mf) := by
  obtain ⟨k2, p2, e2, v2, w2, a1, a2, a3, a4, a5, a6⟩ := av_ok g hn ht tok mt mv he
  have t2 := tm_eq k2 a1
  rw [f_X2_readFind_b32, a5, b1, a6, b1, f_X10_habit_b87]
  dsimp only
  by_cases h2 : k2 = 2
  · have i26 : (26 : Int32) + (2 : Int32) * nI r = nI (26 + 2 * r) := by
      rw [show (2 : Int32) * nI r = nI (2 * r) from pk_mul 2 r]
      exact nI_add 26 (2 * r)
    have i27 : (27 : Int32) + (2 : Int32) * nI r = nI (27 + 2 * r) := by
      rw [show (2 : Int32) * nI r = nI (2 * r) from pk_mul 2 r]
      exact nI_add 27 (2 * r)
    obtain ⟨k3, p3, e3, v3, w3, c1, c2, c3, c4, c5, c6⟩ := av_ok g hn ht (g.1 k2) (nI (tm k2)) w2 a3
    have t3 := tm_eq k3 c1
    rw [if_pos ((hg.eq a1 (by decide)).mpr h2), if_pos (ib_n hr (by decide)), c5, b1, if_pos (t2.2.2.2.1.mpr h2), f_X10_habit_b101, want_1, b1, well_1, b1, i10, i26, i27, if_pos (ib_n (by omega) (by decide)), if_pos (ib_n (by omega) (by decide)), c6, b1, cl_n (by omega), cl_n (by omega), cl_n (by omega), f_X10_habit_b143, well_1, b1, i10]
    dsimp only
    have hS1 : ∀ i, i < 24 → (upd (upd mf (26 + 2 * r) w2) (27 + 2 * r) (-9)) i = mf0 i := fun i hi => by
      rw [upd_ne (by omega), upd_ne (by omega)]
      exact hS.2.2 i hi
    have hSS : ∀ (hm' mf' : Nat → Int32), (∀ i, i < r → hm' i = hm i) → (∀ i, i < 27 + 2 * r → mf' i = (upd mf (26 + 2 * r) w2) i) → ((∃ a, 1 ≤ a ∧ a ≤ 50 ∧ hm' r = nI a ∧ mf' (27 + 2 * r) = nI a) ∨ (hm' r = 50 ∧ mf' (27 + 2 * r) = -9)) → SInv (r + 1) (upd hq r v2) hm' mf' mf0 := fun hm' mf' q1 q2 q3 => by
      refine ⟨by omega, fun i hi => ?_, fun i hi => ?_⟩
      · by_cases hir : i = r
        · subst hir
          rw [pk_us, q2 (26 + 2 * i) (by omega), pk_us]
          exact ⟨a4.1 h2, q3⟩
        · rw [upd_ne hir, q1 i (by omega), q2 (26 + 2 * i) (by omega), q2 (27 + 2 * i) (by omega), upd_ne (by omega), upd_ne (by omega)]
          exact hS.2.1 i (by omega)
      · rw [q2 i (by omega), upd_ne (by omega)]
        exact hS.2.2 i hi
    rcases hx with ⟨rfl, rfl⟩ | ⟨rfl, rfl⟩
    · rw [i10, i00]
      by_cases h3 : k3 = 3
      · obtain ⟨a, ha, rfl, rfl⟩ := c4.2 h3
        rw [if_pos ((hg.eq c1 (by decide)).mpr h3), if_pos (t3.2.2.2.2.1.mpr h3), in_wi]
        rcases wi_cases (nI a) 1 50 with ⟨q1, q2, q3⟩ | q1
        · have ha1 : 1 ≤ a := by
            rcases Nat.eq_zero_or_pos a with z | z
            · subst z
              exact absurd (by decide) q2
            · exact z
          have ha50 : a ≤ 50 := by
            rcases Nat.lt_or_ge 50 a with z | z
            · exact absurd ((nlt_n (a := 50) (by omega) (by omega)).mpr z) q3
            · exact z
          obtain ⟨k4, p4, e4, v4, w4, d1, d2, d3, d4, d5, d6⟩ := av_ok g hn ht (g.1 k3) (nI (tm k3)) (nI a) c3
          rw [q1, b1, b1, i10, i10, d5, b1, f_X10_habit_b181, want_1, b1, well_1, b1, i10, i27, if_pos (ib_n (by omega) (by decide)), d6, b1, cl_n (by omega)]
          dsimp only
          refine hb_semi hg hn hB d1 d2 (fun i hi => ?_) (fun tok pl va mt mv => ih _ _ _ _ _ _ _ _ _ d3 (hSS _ _ (fun i hi => ?_) (fun i hi => ?_) (Or.inl ⟨a, ha1, ha50, ?_, ?_⟩)))
          · rw [upd_ne (by omega)]
            exact hS1 i hi
          · rw [upd_ne (by omega), upd_ne (by omega)]
          · rw [upd_ne (by omega), upd_ne (by omega)]
          · rw [pk_us]
          · rw [pk_us]
        · rw [q1, b1, b1, i00, i00, b1, hbK_0, ft_180 (by omega)]
          exact HR_flt hB hS1 rfl rfl
      · rw [if_neg (fun z => h3 ((hg.eq c1 (by decide)).mp z)), if_neg (fun z => h3 (t3.2.2.2.2.1.mp z)), b1, hbK_0, ft_180 (by omega)]
        exact HR_flt hB hS1 rfl rfl
    · rw [i00, i10]
      refine hb_semi hg hn hB c1 c2 hS1 (fun tok pl va mt mv => ih _ _ _ _ _ _ _ _ _ c3 (hSS _ _ (fun i hi => ?_) (fun i hi => ?_) (Or.inr ⟨?_, ?_⟩)))
      · rw [upd_ne (by omega)]
      · rw [upd_ne (by omega)]
      · rw [pk_us]
      · rw [pk_us]
  · rw [if_neg (fun z => h2 ((hg.eq a1 (by decide)).mp z)), if_neg (fun z => h2 (t2.2.2.2.1.mp z)), b1, hbK_0, ft_101 (by omega)]
    exact HR_flt hB hS.2.2 rfl rfl
/-- the reference lays the staged finds in their place -/
theorem hb_keep {r : Nat} (hr : r ≤ 12) (ne mt mp mv mq : Int32) : ∀ (m f i : Nat) (mf : Nat → Int32), i + m = 24 → m < f → ∃ mf', f_X10_habit_L261 (nI r) 0 ne mt mp mv mq f (nI i) mf = some (nI r, 0, 0, ne, mt, mp, mv, mq, nI r, mf') ∧ (∀ j, j < i → mf' j = mf j) ∧ ∀ j, i ≤ j → j < 2 * r → mf' j = mf (26 + j) := by
  intro m
  induction m with
  | zero =>
    intro f i mf hm hf
    obtain ⟨f, rfl⟩ : ∃ q, f = q + 1 := ⟨f - 1, by omega⟩
    refine ⟨mf, ?_, fun _ _ => rfl, fun j h1 h2 => absurd h2 (by omega)⟩
    show f_X10_habit_L261_body (nI r) 0 ne mt mp mv mq (f_X10_habit_L261 (nI r) 0 ne mt mp mv mq f) (nI i) mf = _
    rw [f_X10_habit_L261_body, if_pos (show (24 : Int32) ≤ nI i from (nle_n (a := 24) (by omega) (by omega)).mpr (by omega))]
  | succ m ih =>
    intro f i mf hm hf
    obtain ⟨f, rfl⟩ : ∃ q, f = q + 1 := ⟨f - 1, by omega⟩
    have e : f_X10_habit_L261 (nI r) 0 ne mt mp mv mq (f + 1) (nI i) mf = f_X10_habit_L261_body (nI r) 0 ne mt mp mv mq (f_X10_habit_L261 (nI r) 0 ne mt mp mv mq f) (nI i) mf := rfl
    rw [e, f_X10_habit_L261_body, if_neg (fun z => by have := (nle_n (a := 24) (by omega) (by omega)).mp z; omega), show (2 : Int32) * nI r = nI (2 * r) from pk_mul 2 r, show (26 : Int32) + nI i = nI (26 + i) from nI_add 26 i, if_pos (ib_n (by omega) (by decide)), if_pos (ib_n (by omega) (by decide)), if_pos (ib_n (by omega) (by decide)), cl_n (by omega), cl_n (by omega), nI_1]
    by_cases h : 2 * r ≤ i
    · obtain ⟨mf', h1, h2, h3⟩ := ih f (i + 1) (upd mf i 0) (by omega) (by omega)
      refine ⟨mf', by rw [if_pos ((nle_n (by omega) (by omega)).mpr h), h1], fun j hj => ?_, fun j q1 q2 => absurd q2 (by omega)⟩
      rw [h2 j (by omega), upd_ne (by omega)]
    · obtain ⟨mf', h1, h2, h3⟩ := ih f (i + 1) (upd mf i (mf (26 + i))) (by omega) (by omega)
      refine ⟨mf', by rw [if_neg (fun z => h ((nle_n (by omega) (by omega)).mp z)), h1], fun j hj => ?_, fun j q1 q2 => ?_⟩
      · rw [h2 j (by omega), upd_ne (by omega)]
      · by_cases hj : j = i
        · subst hj
          rw [h2 j (by omega), pk_us]
        · rw [h3 j (by omega) q2, upd_ne (by omega)]
theorem hb_step {g : pa_GT} (hg : GI g) (hn : n ≤ 300) (ht : ∀ i, t i ≤ 255) (hB : BInv fn hp hl mf0) {f r e tok : Nat} {pl va mt mv : Int32} {hq hm mf : Nat → Int32} (he : e ≤ n) (hS : SInv r hq hm mf mf0) (ih : r < 12 → ∀ (e tok : Nat) (pl va mt mv : Int32) (hq hm mf : Nat → Int32), e ≤ n → SInv (r + 1) hq hm mf mf0 → HR n (f_X2_learn_L6 g (nI n) (nF t) (nI fn) hp hl (f + 1) (nI (r + 1)) tok pl (nI e) va hq hm) (hbR n fn t (f + 1) (r + 1) e mt mv mf)) : HR n (f_X2_learn_L6 g (nI n) (nF t) (nI fn) hp hl (f + 1 + 1) (nI r) tok pl (nI e) va hq hm) (hbR n fn t (f + 1 + 1) r e mt mv mf) := by
  have hr := hS.1
  obtain ⟨k, p, e', v, w, a1, a2, a3, a4, a5, a6⟩ := av_ok g hn ht tok mt mv he
  have t1 := tm_eq k a1
  have eC : f_X2_learn_L6 g (nI n) (nF t) (nI fn) hp hl (f + 1 + 1) (nI r) tok pl (nI e) va hq hm = f_X2_learn_L6_body g (nI n) (nF t) (nI fn) hp hl (f_X2_learn_L6 g (nI n) (nF t) (nI fn) hp hl (f + 1)) (nI r) tok pl (nI e) va hq hm := rfl
  have eR : f_X10_habit_L21 0 (nI n) (nI fn) (nF t) (f + 1 + 1) (nI r) (nI e') (nI (tm k)) (nI p) w (-1) mf = f_X10_habit_L21_body 0 (nI n) (nI fn) (nF t) (f_X10_habit_L21 0 (nI n) (nI fn) (nF t) (f + 1)) (nI r) (nI e') (nI (tm k)) (nI p) w (-1) mf := rfl
  rw [eC, f_X2_learn_L6_body, if_neg (fun z => by have := (nlt_n (a := 12) (by omega) (by omega)).mp z; omega), a5, b1, hbR, a6, b1]
  dsimp only
  rw [eR, f_X10_habit_L21_body, well_1, b1, i10]
  by_cases h5 : k = 5
  · obtain ⟨mf', q1, q2, q3⟩ := hb_keep hr (nI e') (nI (tm k)) (nI p) w (-1) 24 pa_fu 0 mf (by omega) (by decide)
    rw [if_pos ((hg.eq a1 (by decide)).mpr h5), if_pos (t1.1.mpr h5), f_X2_keep, f_X6_empty, b1, b1, f_X10_habit_b244, well_1, b1, i10]
    refine ⟨nI r, 0, r, g.1 k, nI p, nI e', v, va_cpy hq hp 0 0 12, va_cpy hm hl 0 0 12, hq, hm, mf', nI e', nI (tm k), nI p, w, -1, by omega, ⟨hr, fun j hj => ?_⟩, rfl, q1⟩
    rw [pk_cpy_in (by omega) (by omega), pk_cpy_in (by omega) (by omega), q3 (2 * j) (by omega) (by omega), q3 (2 * j + 1) (by omega) (by omega), show 0 + (j - 0) = j by omega, show 26 + (2 * j + 1) = 27 + 2 * j by omega]
    exact hS.2.1 j hj
  · rw [if_neg (fun z => h5 ((hg.eq a1 (by decide)).mp z)), if_neg (fun z => h5 (t1.1.mp z))]
    by_cases h12 : r = 12
    · subst h12
      rw [if_pos (show nI 12 = (12 : Int32) from rfl)]
      have e1 : ∀ s0, f_X10_habit_b48 (f_X10_habit_L21 0 (nI n) (nI fn) (nF t) (f + 1)) (nI 12) s0 0 (nI n) (nI e') (nI (tm k)) (nI p) w (-1) (nI fn) (nF t) mf = some (-10 - nI p, 0, nI n, nI e', nI (tm k), nI p, w, nI p, nI fn, mf) := fun s0 => by
        rw [f_X10_habit_b48, if_pos (show (12 : Int32) ≤ nI 12 by decide), ft_72 (by omega)]
      rw [e1, e1, ite_self]
      exact HR_flt hB hS.2.2 rfl rfl
    · have hr2 : r < 12 := by omega
      have n12 : ¬ (12 : Int32) ≤ nI r := fun z => by have := (nle_n (a := 12) (by omega) (by omega)).mp z; omega
      rw [if_neg (show ¬ nI r = (12 : Int32) from fun z => h12 ((nI_eq (b := 12) (by omega) (by omega)).mp z))]
      show HR n ((f_X2_readFind g (nI r) (nI n) (g.1 k) (nI p) (nI e') v (nF t) hq hm).bind (hbK g n fn t hp hl (f + 1) r)) _
      rw [f_X2_readFind]
      by_cases h0 : k = 0
      · have h1 : ¬ k = 1 := by omega
        rw [if_pos ((hg.eq a1 (by decide)).mpr h0), if_neg (fun z => h1 (t1.2.2.1.mp z)), f_X2_readFind_b15, i10, f_X10_habit_b48, if_neg n12, i00, if_pos (t1.2.1.mpr h0), f_X10_habit_b68, f_X10_habit_b73, want_1, b1, well_1, b1, i10]
        exact hb_find hg hn ht hB a3 (Or.inl ⟨rfl, rfl⟩) hr2 hS (ih hr2)
      · rw [if_neg (fun z => h0 ((hg.eq a1 (by decide)).mp z)), f_X2_readFind_b15, i00]
        by_cases h1 : k = 1
        · rw [if_pos ((hg.eq a1 (by decide)).mpr h1), if_pos (t1.2.2.1.mpr h1), f_X10_habit_b48, if_neg n12, i10, f_X10_habit_b68, f_X10_habit_b73, want_1, b1, well_1, b1, i10]
          exact hb_find hg hn ht hB a3 (Or.inr ⟨rfl, rfl⟩) hr2 hS (ih hr2)
        · rw [if_neg (fun z => h1 ((hg.eq a1 (by decide)).mp z)), if_neg (fun z => h1 (t1.2.2.1.mp z)), f_X10_habit_b48, if_neg n12, i00, if_neg (fun z => h0 (t1.2.1.mp z)), ft_72 (by omega), b1, hbK_0]
          exact HR_flt hB hS.2.2 rfl rfl
theorem ha_loop {g : pa_GT} (hg : GI g) (hn : n ≤ 300) (ht : ∀ i, t i ≤ 255) (hB : BInv fn hp hl mf0) : ∀ (m f r e tok : Nat) (pl va mt mv : Int32) (hq hm mf : Nat → Int32), r + m = 12 → m < f → e ≤ n → SInv r hq hm mf mf0 → HR n (f_X2_learn_L6 g (nI n) (nF t) (nI fn) hp hl (f + 1) (nI r) tok pl (nI e) va hq hm) (hbR n fn t (f + 1) r e mt mv mf) := by
  intro m
  induction m with
  | zero =>
    intro f r e tok pl va mt mv hq hm mf hm' hf he hS
    obtain ⟨f, rfl⟩ : ∃ q, f = q + 1 := ⟨f - 1, by omega⟩
    exact hb_step hg hn ht hB he hS (fun h => absurd h (by omega))
  | succ m ih =>
    intro f r e tok pl va mt mv hq hm mf hm' hf he hS
    obtain ⟨f, rfl⟩ : ∃ q, f = q + 1 := ⟨f - 1, by omega⟩
    exact hb_step hg hn ht hB he hS (fun h e tok pl va mt mv hq hm mf he hS => ih f (r + 1) e tok pl va mt mv hq hm mf (by omega) (by omega) he hS)
/-- promise 7 -/
theorem st_habit {g : pa_GT} (hg : GI g) (hn : n ≤ 300) (ht : ∀ i, t i ≤ 255) (hB : BInv fn hp hl mf0) (tok : Nat) (pl en va : Int32) (hq hm : Nat → Int32) (mt mp mv : Int32) : HR n (f_X9_habit g (nI n) tok pl en va (nF t) (nI fn) hp hl hq hm) (f_X10_habit (nI n) mt mp mv (nI fn) (nF t) mf0) := by
  obtain ⟨a, n', fn', tok', pl', en', va', hp', hl', hq', hm', mf', ne, mt', mp', mv', mq, h1, h2, h3, h4⟩ := ha_loop hg hn ht hB 12 4095 0 0 tok pl va mt mv hq hm mf0 (by omega) (by omega) (by omega) ⟨by omega, fun i hi => absurd hi (by omega), fun _ _ => rfl⟩
  refine ⟨a, n', fn', tok', pl', en', va', hp', hl', hq', hm', mf', ne, mt', mp', mv', mq, h1, h2, ?_, h4⟩
  have e : f_X2_learn g (nI n) tok pl en va (nF t) (nI fn) hp hl hq hm = _ := h3
  rw [f_X9_habit, e, b1]
end HAB
