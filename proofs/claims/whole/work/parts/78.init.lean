/-! ===== the start ===== -/
def TT (n : Nat) : Nat := n * (n + 1) / 2
theorem tt_s (n : Nat) : TT (n + 1) = TT n + (n + 1) := by
  unfold TT
  rw [show (n + 1) * (n + 1 + 1) = n * (n + 1) + (n + 1) * 2 by rw [Nat.mul_comm n (n + 1), ← Nat.mul_add], Nat.add_mul_div_right _ _ (by omega)]
theorem tt_lt {a b : Nat} (h : a < b) : TT a + a < TT b := by
  induction b with
  | zero => omega
  | succ b ih =>
    rw [tt_s]
    rcases Nat.lt_or_ge a b with q | q
    · have := ih q
      omega
    · have : a = b := by omega
      subst this
      omega
theorem tt_ix {n : Nat} (hn : n ≤ 50) : nI n * (nI n + (1 : Int32)) / (2 : Int32) = nI (TT n) ∧ TT n + n < 1326 := by
  have h : n * (n + 1) ≤ 50 * 51 := Nat.mul_le_mul hn (by omega)
  unfold TT
  constructor
  · rw [nI_1, pk_mul, show (2 : Int32) = nI 2 from rfl, pk_div (by omega) (by omega) (by omega)]
  · omega
def TR (n : Nat) (lt : Nat → Int64) : Prop := ∀ a, a < n → ∀ k, k ≤ a → lt (TT a + k) = jL (bi a k : Nat)
theorem TR.upd {n : Nat} {lt : Nat → Int64} (h : TR n lt) {i : Nat} (hi : TT n ≤ i) (x : Int64) : TR n (vp_updL lt i x) := fun a ha k hk => by
  have := tt_lt ha
  rw [pk_uLn (by omega)]
  exact h a ha k hk
theorem ti_in {rec23 : Int32 → (Nat → Int64) → Option (Nat → Int64)} {n : Nat} (hn : n ≤ 50) : ∀ (m f k : Nat) (lt : Nat → Int64), n ≤ k + m → m < f → 1 ≤ k → k ≤ 51 → TR n lt → (∀ j, j < k → j ≤ n → lt (TT n + j) = jL (bi n j : Nat)) → lt (TT n + n) = jL (bi n n : Nat) → ∃ lt', TR (n + 1) lt' ∧ f_X5_init_L55 rec23 (nI n) (nI (TT n)) f (nI k) lt = rec23 (nI (n + 1)) lt' := by
  have done : ∀ (f k : Nat) (lt : Nat → Int64), n ≤ k → k ≤ 51 → TR n lt → (∀ j, j < k → j ≤ n → lt (TT n + j) = jL (bi n j : Nat)) → lt (TT n + n) = jL (bi n n : Nat) → ∃ lt', TR (n + 1) lt' ∧ f_X5_init_L55 rec23 (nI n) (nI (TT n)) (f + 1) (nI k) lt = rec23 (nI (n + 1)) lt' := by
    intro f k lt hk hk2 h1 h2 h3
    refine ⟨lt, fun a ha j hj => ?_, ?_⟩
    · by_cases e : a = n
      · subst e
        by_cases e2 : j = a
        · subst e2
          exact h3
        · exact h2 j (by omega) hj
      · exact h1 a (by omega) j hj
    · show f_X5_init_L55_body rec23 (nI n) (nI (TT n)) (f_X5_init_L55 rec23 (nI n) (nI (TT n)) f) (nI k) lt = _
      rw [f_X5_init_L55_body, if_pos ((nle_n (by omega) (by omega)).mpr hk), nI_1]
  intro m
  induction m with
  | zero =>
    intro f k lt hk hf hk1 hk2 h1 h2 h3
    obtain ⟨f, rfl⟩ : ∃ q, f = q + 1 := ⟨f - 1, by omega⟩
    exact done f k lt (by omega) hk2 h1 h2 h3
  | succ m ih =>
    intro f k lt hk hf hk1 hk2 h1 h2 h3
    obtain ⟨f, rfl⟩ : ∃ q, f = q + 1 := ⟨f - 1, by omega⟩
    by_cases hkn : n ≤ k
    · exact done f k lt hkn hk2 h1 h2 h3
    · obtain ⟨n1, rfl⟩ : ∃ q, n = q + 1 := ⟨n - 1, by omega⟩
      obtain ⟨k1, rfl⟩ : ∃ q, k = q + 1 := ⟨k - 1, by omega⟩
      have hb := (tt_ix hn).2
      have hts := tt_s n1
      have i1 : nI (TT (n1 + 1)) - nI (n1 + 1) + nI (k1 + 1) = nI (TT n1 + (k1 + 1)) := by
        rw [nsub (by omega), nI_add, show TT (n1 + 1) - (n1 + 1) + (k1 + 1) = TT n1 + (k1 + 1) by omega]
      have i2 : nI (TT n1 + (k1 + 1)) - (1 : Int32) = nI (TT n1 + k1) := by
        rw [nI_11, nsub (by omega), show TT n1 + (k1 + 1) - 1 = TT n1 + k1 by omega]
      have ev : lt (TT n1 + k1) + lt (TT n1 + (k1 + 1)) = jL (bi (n1 + 1) (k1 + 1) : Nat) := by
        rw [h1 n1 (by omega) k1 (by omega), h1 n1 (by omega) (k1 + 1) (by omega), jLn_add]
        rfl
      obtain ⟨lt', q1, q2⟩ := ih f (k1 + 1 + 1) (vp_updL lt (TT (n1 + 1) + (k1 + 1)) (jL (bi (n1 + 1) (k1 + 1) : Nat))) (by omega) (by omega) (by omega) (by omega) (h1.upd (by omega) _) (fun j hj hj2 => by
        by_cases e : j = k1 + 1
        · subst e
          rw [pk_uLs]
        · rw [pk_uLn (by omega)]
          exact h2 j (by omega) hj2) (by
        rw [pk_uLn (by omega)]
        exact h3)
      refine ⟨lt', q1, ?_⟩
      show f_X5_init_L55_body rec23 (nI (n1 + 1)) (nI (TT (n1 + 1))) (f_X5_init_L55 rec23 (nI (n1 + 1)) (nI (TT (n1 + 1))) f) (nI (k1 + 1)) lt = _
      rw [f_X5_init_L55_body, if_neg (fun z => hkn ((nle_n (by omega) (by omega)).mp z)), i1, i2, nI_add, if_pos (ib_n (by omega) (by decide)), if_pos (ib_n (by omega) (by decide)), if_pos (ib_n (by omega) (by decide)), cl_n (by omega), cl_n (by omega), cl_n (by omega), ev, nI_1, q2]
theorem ti_out : ∀ (m f n : Nat) (lt : Nat → Int64), n + m = 51 → m < f → TR n lt → ∃ lt', TInv lt' ∧ f_X5_init_L23 f (nI n) lt = some lt' := by
  intro m
  induction m with
  | zero =>
    intro f n lt hn hf h
    obtain ⟨f, rfl⟩ : ∃ q, f = q + 1 := ⟨f - 1, by omega⟩
    refine ⟨lt, fun a ha k hk => h a (by omega) k hk, ?_⟩
    show f_X5_init_L23_body (f_X5_init_L23 f) (nI n) lt = _
    rw [f_X5_init_L23_body, if_pos (show (50 : Int32) < nI n from (nlt_n (a := 50) (by omega) (by omega)).mpr (by omega))]
  | succ m ih =>
    intro f n lt hn hf h
    obtain ⟨f, rfl⟩ : ∃ q, f = q + 1 := ⟨f - 1, by omega⟩
    obtain ⟨e1, e2⟩ := tt_ix (n := n) (by omega)
    have h2 : TR n (vp_updL (vp_updL lt (TT n) 1) (TT n + n) 1) := (h.upd (by omega) _).upd (by omega) _
    obtain ⟨lt1, q1, q2⟩ := ti_in (rec23 := f_X5_init_L23 f) (n := n) (by omega) 51 pa_fu 1 _ (by omega) (by decide) (by omega) (by omega) h2 (fun j hj hj2 => by
      have : j = 0 := by omega
      subst this
      rw [bi_0]
      by_cases e : n = 0
      · subst e
        rw [pk_uLs]
        rfl
      · rw [pk_uLn (by omega), show TT n + 0 = TT n from rfl, pk_uLs]
        rfl) (by
      rw [pk_uLs, bi_self]
      rfl)
    obtain ⟨lt2, q3, q4⟩ := ih f (n + 1) lt1 (by omega) (by omega) q1
    refine ⟨lt2, q3, ?_⟩
    show f_X5_init_L23_body (f_X5_init_L23 f) (nI n) lt = _
    rw [f_X5_init_L23_body, if_neg (fun z => by have := (nlt_n (a := 50) (by omega) (by omega)).mp z; omega), e1, nI_add, if_pos (ib_n (by omega) (by decide)), if_pos (ib_n (by omega) (by decide)), cl_n (by omega), cl_n (by omega), show (1 : Int32) = nI 1 from rfl, q2, q4]
def MR (n : Nat) (mt : Nat → Int64) : Prop := ∀ a, a < n → ∀ k, k ≤ a → mt (51 * a + k) = jL (bi a k : Nat)
theorem MR.upd {n : Nat} (hn : n ≤ 51) {mt : Nat → Int64} (h : MR n mt) {i : Nat} (hi : 51 * n ≤ i) (x : Int64) : MR n (vp_updL mt i x) := fun a ha k hk => by
  rw [pk_uLn (by omega)]
  exact h a ha k hk
theorem mi_in {rec88 : Int32 → (Nat → Int64) → Option (Int32 × Int32 × Int32 × (Nat → Int64) × (Nat → Int32))} {cp lp su : Int32} {mr : Nat → Int32} {n : Nat} (hn : n ≤ 50) : ∀ (m f k : Nat) (mt : Nat → Int64), n + 1 ≤ k + m → m < f → 1 ≤ k → k ≤ 51 → MR n mt → (∀ j, j < k → j ≤ n → mt (51 * n + j) = jL (bi n j : Nat)) → ∃ mt', MR (n + 1) mt' ∧ f_X10_init_L106 rec88 (nI n) cp lp su mr f (nI k) mt = rec88 (nI (n + 1)) mt' := by
  have done : ∀ (f k : Nat) (mt : Nat → Int64), n < k → k ≤ 51 → MR n mt → (∀ j, j < k → j ≤ n → mt (51 * n + j) = jL (bi n j : Nat)) → ∃ mt', MR (n + 1) mt' ∧ f_X10_init_L106 rec88 (nI n) cp lp su mr (f + 1) (nI k) mt = rec88 (nI (n + 1)) mt' := by
    intro f k mt hk hk2 h1 h2
    refine ⟨mt, fun a ha j hj => ?_, ?_⟩
    · by_cases e : a = n
      · subst e
        exact h2 j (by omega) hj
      · exact h1 a (by omega) j hj
    · show f_X10_init_L106_body rec88 (nI n) cp lp su mr (f_X10_init_L106 rec88 (nI n) cp lp su mr f) (nI k) mt = _
      rw [f_X10_init_L106_body, if_pos ((nlt_n (by omega) (by omega)).mpr hk), nI_1]
  intro m
  induction m with
  | zero =>
    intro f k mt hk hf hk1 hk2 h1 h2
    obtain ⟨f, rfl⟩ : ∃ q, f = q + 1 := ⟨f - 1, by omega⟩
    exact done f k mt (by omega) hk2 h1 h2
  | succ m ih =>
    intro f k mt hk hf hk1 hk2 h1 h2
    obtain ⟨f, rfl⟩ : ∃ q, f = q + 1 := ⟨f - 1, by omega⟩
    by_cases hkn : n < k
    · exact done f k mt hkn hk2 h1 h2
    · obtain ⟨n1, rfl⟩ : ∃ q, n = q + 1 := ⟨n - 1, by omega⟩
      obtain ⟨k1, rfl⟩ : ∃ q, k = q + 1 := ⟨k - 1, by omega⟩
      have i0 : nI (n1 + 1) - (1 : Int32) = nI n1 := by
        rw [nI_11, nsub (by omega), show n1 + 1 - 1 = n1 by omega]
      have i1 : (51 : Int32) * nI n1 + nI (k1 + 1) = nI (51 * n1 + (k1 + 1)) := by
        rw [show (51 : Int32) = nI 51 from rfl, pk_mul, nI_add]
      have i2 : nI (51 * n1 + (k1 + 1)) - (1 : Int32) = nI (51 * n1 + k1) := by
        rw [nI_11, nsub (by omega), show 51 * n1 + (k1 + 1) - 1 = 51 * n1 + k1 by omega]
      have i3 : (51 : Int32) * nI (n1 + 1) + nI (k1 + 1) = nI (51 * (n1 + 1) + (k1 + 1)) := by
        rw [show (51 : Int32) = nI 51 from rfl, pk_mul, nI_add]
      have key : ∀ y : Int64, y = jL (bi (n1 + 1) (k1 + 1) : Nat) → ∃ mt', MR (n1 + 1 + 1) mt' ∧ f_X10_init_L106 rec88 (nI (n1 + 1)) cp lp su mr f (nI (k1 + 1 + 1)) (vp_updL mt (51 * (n1 + 1) + (k1 + 1)) y) = rec88 (nI (n1 + 1 + 1)) mt' := fun y hy => by
        subst hy
        refine ih f (k1 + 1 + 1) _ (by omega) (by omega) (by omega) (by omega) (h1.upd (by omega) (by omega) _) (fun j hj hj2 => ?_)
        by_cases e : j = k1 + 1
        · subst e
          rw [pk_uLs]
        · rw [pk_uLn (by omega)]
          exact h2 j (by omega) hj2
      have eR : f_X10_init_L106 rec88 (nI (n1 + 1)) cp lp su mr (f + 1) (nI (k1 + 1)) mt = f_X10_init_L106_body rec88 (nI (n1 + 1)) cp lp su mr (f_X10_init_L106 rec88 (nI (n1 + 1)) cp lp su mr f) (nI (k1 + 1)) mt := rfl
      rw [eR, f_X10_init_L106_body, if_neg (fun z => hkn ((nlt_n (by omega) (by omega)).mp z)), i0, i1, i2, i3, if_pos (ib_n (by omega) (by decide)), nI_1]
      by_cases he : n1 + 1 ≤ k1 + 1
      · have : n1 = k1 := by omega
        subst this
        rw [if_pos (Int32.le_refl _), if_pos (ib_n (by omega) (by decide)), cl_n (by omega), cl_n (by omega)]
        refine key _ ?_
        rw [h1 n1 (by omega) n1 (by omega), bi_self, bi_self]
        rfl
      · rw [if_neg (fun z => he ((nle_n (by omega) (by omega)).mp z)), if_pos (ib_n (by omega) (by decide)), if_pos (ib_n (by omega) (by decide)), cl_n (by omega), cl_n (by omega), cl_n (by omega)]
        refine key _ ?_
        rw [h1 n1 (by omega) k1 (by omega), h1 n1 (by omega) (k1 + 1) (by omega), jLn_add]
        rfl
theorem mr_out {cp lp su : Int32} {mt : Nat → Int64} : ∀ (m f i : Nat), i + m = 8 → m < f → f_X10_init_L174 cp lp su mt f (nI i) (pa_fillI (fun _ => 0) i 100) = some (cp, lp, su, mt, pa_fillI (fun _ => 0) 8 100) := by
  intro m
  induction m with
  | zero =>
    intro f i hi hf
    obtain ⟨f, rfl⟩ : ∃ q, f = q + 1 := ⟨f - 1, by omega⟩
    have e : i = 8 := by omega
    subst e
    show f_X10_init_L174_body cp lp su mt (f_X10_init_L174 cp lp su mt f) (nI 8) (pa_fillI (fun _ => 0) 8 100) = _
    rw [f_X10_init_L174_body, if_pos (by decide)]
  | succ m ih =>
    intro f i hi hf
    obtain ⟨f, rfl⟩ : ∃ q, f = q + 1 := ⟨f - 1, by omega⟩
    show f_X10_init_L174_body cp lp su mt (f_X10_init_L174 cp lp su mt f) (nI i) (pa_fillI (fun _ => 0) i 100) = _
    rw [f_X10_init_L174_body, if_neg (fun z => by have := (nle_n (a := 8) (by omega) (by omega)).mp z; omega), if_pos (ib_n (by omega) (by decide)), cl_n (by omega), pa_fillI_s, nI_1]
    exact ih f (i + 1) (by omega) (by omega)
theorem mi_out {cp lp su : Int32} : ∀ (m f n : Nat) (mt : Nat → Int64), n + m = 51 → m < f → MR n mt → ∃ mt', MInv mt' ∧ f_X10_init_L88 cp lp su (fun _ => 0) f (nI n) mt = some (cp, lp, su, mt', pa_fillI (fun _ => 0) 8 100) := by
  intro m
  induction m with
  | zero =>
    intro f n mt hn hf h
    obtain ⟨f, rfl⟩ : ∃ q, f = q + 1 := ⟨f - 1, by omega⟩
    refine ⟨mt, fun a ha k hk => h a (by omega) k hk, ?_⟩
    show f_X10_init_L88_body cp lp su (fun _ => 0) (f_X10_init_L88 cp lp su (fun _ => 0) f) (nI n) mt = _
    rw [f_X10_init_L88_body, if_pos (show (51 : Int32) ≤ nI n from (nle_n (a := 51) (by omega) (by omega)).mpr (by omega))]
    have q := mr_out (cp := cp) (lp := lp) (su := su) (mt := mt) 8 pa_fu 0 (by omega) (by decide)
    rw [pa_fillI_0] at q
    exact q
  | succ m ih =>
    intro f n mt hn hf h
    obtain ⟨f, rfl⟩ : ∃ q, f = q + 1 := ⟨f - 1, by omega⟩
    have e1 : (51 : Int32) * nI n = nI (51 * n) := pk_mul 51 n
    obtain ⟨mt1, q1, q2⟩ := mi_in (rec88 := f_X10_init_L88 cp lp su (fun _ => 0) f) (cp := cp) (lp := lp) (su := su) (mr := fun _ => 0) (n := n) (by omega) 51 pa_fu 1 (vp_updL mt (51 * n) 1) (by omega) (by decide) (by omega) (by omega) (h.upd (by omega) (by omega) _) (fun j hj hj2 => by
      have : j = 0 := by omega
      subst this
      rw [bi_0, show 51 * n + 0 = 51 * n from rfl, pk_uLs]
      rfl)
    obtain ⟨mt2, q3, q4⟩ := ih f (n + 1) mt1 (by omega) (by omega) q1
    refine ⟨mt2, q3, ?_⟩
    show f_X10_init_L88_body cp lp su (fun _ => 0) (f_X10_init_L88 cp lp su (fun _ => 0) f) (nI n) mt = _
    rw [f_X10_init_L88_body, if_neg (fun z => by have := (nle_n (a := 51) (by omega) (by omega)).mp z; omega), e1, if_pos (ib_n (by omega) (by decide)), cl_n (by omega), show (1 : Int32) = nI 1 from rfl, q2, q4]
def r0 : Nat → Int := fun j => if j < 8 then 100 else 0
def p0 : Nat → Nat := fun i => if i = 2 then 90 else if i = 1 then 5 else if i = 0 then 1 else 0
theorem r0_eq : pa_fillI (fun _ => 0) 8 100 = jF r0 := by
  funext j
  unfold pa_fillI jF r0
  by_cases h : j < 8
  · rw [if_pos h, if_pos h]
    rfl
  · rw [if_neg h, if_neg h]
    rfl
theorem r0_inv : RInv r0 := fun i => by
  unfold r0
  split <;> omega
theorem p0_inv : PInv p0 := by
  unfold PInv p0
  decide
theorem p0_eq : upd (upd (upd (fun _ => 0) 0 1) 1 5) 2 90 = nF p0 := by
  rw [show (fun _ => 0 : Nat → Int32) = nF (fun _ => 0) from rfl, show (1 : Int32) = nI 1 from rfl, show (5 : Int32) = nI 5 from rfl, show (90 : Int32) = nI 90 from rfl, nF_upd, nF_upd, nF_upd]
  rfl
theorem st_init9 (g : pa_GT) : ∃ lt, TInv lt ∧ f_X9_init g = some (0, jF r0, nI 0, g.1 5, 0, 0, 0, nI 0, 0, 0, lt, nI 0, nI 0, 0, 0, nF p0) := by
  obtain ⟨lt, h1, h2⟩ := ti_out 51 pa_fu 0 (fun _ => 0) (by omega) (by decide) (fun a ha => absurd ha (by omega))
  have h3 : f_X5_init = some lt := h2
  refine ⟨lt, h1, ?_⟩
  rw [f_X9_init, f_X4_init, b1, f_X6_init, b1, f_X2_init, b1, f_X0_init, b1, h3, b1, f_X8_init, b1, f_X3_init, b1, f_X1_init, b1, if_pos (by decide), if_pos (by decide), if_pos (by decide), r0_eq]
  show some _ = some _
  rw [← p0_eq]
  rfl
theorem st_init10 : ∃ mt, MInv mt ∧ f_X10_init = some (nI (p0 0), nI (p0 1), nI (p0 2), mt, jF r0) := by
  obtain ⟨mt, h1, h2⟩ := mi_out (cp := 1) (lp := 5) (su := 90) 51 pa_fu 0 (fun _ => 0) (by omega) (by decide) (fun a ha => absurd ha (by omega))
  refine ⟨mt, h1, ?_⟩
  rw [r0_eq] at h2
  exact h2
