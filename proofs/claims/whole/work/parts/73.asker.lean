/-! ===== askers ===== -/
def ri (g : Nat) : Bool := g / 2 % 2 == 1
theorem ri_c : ∀ g, g < 8 → ((nI g &&& (2 : Int32)) = 0 ↔ ri g = false) := by decide
theorem ri_m : ∀ g, g < 8 → ((((204 : Int32) >>> (nI g &&& 31)) &&& (1 : Int32)) = (1 : Int32) ↔ ri g = true) := by decide
def PM (x mk : Int32) : Prop := ∀ g, g < 8 → ((nI g &&& (x / (8 : Int32))) = x - x / (8 : Int32) * (8 : Int32) ↔ ((mk >>> (nI g &&& 31)) &&& (1 : Int32)) = (1 : Int32))
theorem PM_all : PM 0 255 := by
  unfold PM
  decide
/-- how many more are met: of d who are left, where so many may be, and so many are wanted -/
def tk (d lc w : Nat) : Nat := if w < (if d < lc then d else lc) then w else (if d < lc then d else lc)
theorem tk_bd (d lc w : Nat) : tk d lc w ≤ d ∧ tk d lc w ≤ lc ∧ tk d lc w ≤ w := by
  unfold tk
  split <;> split at * <;> omega
theorem tk_big {d a b w : Nat} (ha : d ≤ a) (hb : d ≤ b) : tk d a w = tk d b w := by
  unfold tk
  rw [show (if d < a then d else a) = d by split <;> omega, show (if d < b then d else b) = d by split <;> omega]
theorem tk_c {d lc w : Nat} (hd : d < 2147483648) (hl : lc < 2147483648) (hw : w < 2147483648) : (if nI w < (if nI d < nI lc then nI d else nI lc) then nI w else (if nI d < nI lc then nI d else nI lc)) = nI (tk d lc w) := by
  have e : (if nI d < nI lc then nI d else nI lc) = nI (if d < lc then d else lc) := by
    by_cases h : d < lc
    · rw [if_pos h, if_pos ((nlt_n hd hl).mpr h)]
    · rw [if_neg h, if_neg (fun z => h ((nlt_n hd hl).mp z))]
  rw [e, tk]
  have hm : (if d < lc then d else lc) < 2147483648 := by split <;> omega
  by_cases h : w < (if d < lc then d else lc)
  · rw [if_pos h, if_pos ((nlt_n hw hm).mpr h)]
  · rw [if_neg h, if_neg (fun z => h ((nlt_n hw hm).mp z))]
section ASK
variable {c : Nat → Int} {l : Nat}
def cn (c : Nat → Int) (l g : Nat) : Nat := (c (8 * l + g)).toNat
theorem cn_j (hc : LInv c) (l g : Nat) : jF c (8 * l + g) = nI (cn c l g) := by
  have := hc.1 (8 * l + g)
  rw [jI_n, cn, Int.toNat_of_nonneg this]
  rfl
theorem cn_bd (hc : LInv c) (hl : l < 4) {g : Nat} (hg : g < 8) : cn c l g ≤ 50 := by
  have := hc.le hl hg
  unfold cn
  omega
def wp' (g t w : Nat) : Nat := if ri g = true then w else w - t
def wr' (g t w : Nat) : Nat := if ri g = true then w - t else w
def wk (g wp wr : Nat) : Nat := if ri g = true then wr else wp
theorem mc_one (hc : LInv c) (hl : l < 4) {x5 x6 : Int32} {f g lc wp wr : Nat} {m : Nat → Nat} {am : Nat → Int32} (hg : g < 8) (ha : am g = nI (m g)) (hm : m g ≤ cn c l g) (hlc : lc ≤ 50) (hwp : wp ≤ 50) (hwr : wr ≤ 50) : f_X0_meet_L19 (nI l) x5 x6 (jF c) (f + 1) (nI lc) (nI g) (nI wp) (nI wr) am = if (nI g &&& x5) = x6 then f_X0_meet_L19 (nI l) x5 x6 (jF c) f (nI (lc - tk (cn c l g - m g) lc (wk g wp wr))) (nI (g + 1)) (nI (wp' g (tk (cn c l g - m g) lc (wk g wp wr)) wp)) (nI (wr' g (tk (cn c l g - m g) lc (wk g wp wr)) wr)) (upd am g (nI (m g + tk (cn c l g - m g) lc (wk g wp wr)))) else f_X0_meet_L19 (nI l) x5 x6 (jF c) f (nI lc) (nI (g + 1)) (nI wp) (nI wr) am := by
  have hcb := cn_bd hc hl hg
  show f_X0_meet_L19_body (nI l) x5 x6 (jF c) (f_X0_meet_L19 (nI l) x5 x6 (jF c) f) (nI lc) (nI g) (nI wp) (nI wr) am = _
  rw [f_X0_meet_L19_body, if_neg (fun q => by have := (nle_n (a := 8) (by omega) (by omega)).mp q; omega), nI_1]
  by_cases h : (nI g &&& x5) = x6
  · rw [if_pos h, if_pos h, f_X4_of, (ix_l hl hg).1, if_pos (ib_n (by omega) (by decide)), b1, if_pos (ib_n hg (by decide)), cl_n (by omega), cl_n (by omega), cn_j hc, ha, nsub hm, f_X0_meetGroup]
    by_cases hr : ri g = true
    · have hr2 : ¬ (nI g &&& (2 : Int32)) = 0 := fun z => by
        rw [(ri_c g hg).mp z] at hr
        exact absurd hr (by decide)
      have hb := tk_bd (cn c l g - m g) lc wr
      rw [if_neg hr2, f_X0_meetGroup_b11, if_neg (by decide), f_X0_meetGroup_b28, if_pos (ib_n hg (by decide)), if_neg (by decide), tk_c (by omega) (by omega) (by omega), b1, cl_n (by omega), ha]
      dsimp only
      rw [nsub hb.2.1, nsub hb.2.2, nI_add]
      unfold wp' wr' wk
      rw [if_pos hr, if_pos hr, if_pos hr]
    · have hr1 : ri g = false := by
        cases hq : ri g
        · rfl
        · exact absurd hq hr
      have hr2 : (nI g &&& (2 : Int32)) = 0 := (ri_c g hg).mpr hr1
      have hb := tk_bd (cn c l g - m g) lc wp
      rw [if_pos hr2, f_X0_meetGroup_b11, if_pos rfl, f_X0_meetGroup_b28, if_pos (ib_n hg (by decide)), if_pos rfl, tk_c (by omega) (by omega) (by omega), b1, cl_n (by omega), ha]
      dsimp only
      rw [nsub hb.2.1, nsub hb.2.2, nI_add]
      unfold wp' wr' wk
      rw [if_neg hr, if_neg hr, if_neg hr]
  · rw [if_neg h, if_neg h]
theorem tk_r {d lr w : Nat} {P : Int32 → Prop} (hd : d < 2147483648) (hl : lr < 2147483648) (hw : w < 2147483648) (h : P (nI (tk d lr w))) : (nI w ≤ nI d → (nI lr ≤ nI w → P (nI lr)) ∧ (¬ nI lr ≤ nI w → P (nI w))) ∧ (¬ nI w ≤ nI d → (nI lr ≤ nI d → P (nI lr)) ∧ (¬ nI lr ≤ nI d → P (nI d))) := by
  rw [nle_n hw hd, nle_n hl hw, nle_n hl hd]
  refine ⟨fun h1 => ⟨fun h2 => ?_, fun h2 => ?_⟩, fun h1 => ⟨fun h2 => ?_, fun h2 => ?_⟩⟩
  · have e : tk d lr w = lr := by
      unfold tk
      split <;> split at * <;> omega
    rw [← e]
    exact h
  · have e : tk d lr w = w := by
      unfold tk
      split <;> split at * <;> omega
    rw [← e]
    exact h
  · have e : tk d lr w = lr := by
      unfold tk
      split <;> split at * <;> omega
    rw [← e]
    exact h
  · have e : tk d lr w = d := by
      unfold tk
      split <;> split at * <;> omega
    rw [← e]
    exact h
theorem mm_one (hc : LInv c) (hl : l < 4) {rec33 : Int32 → Int32 → Int32 → (Nat → Int32) → Option (Nat → Int32)} {x6 x7 fi : Int32} {mf : Nat → Int32} {f g lr wp wr t : Nat} {m : Nat → Nat} {mg : Nat → Int32} (hg : g < 8) (ha : mg g = nI (m g)) (hm : m g ≤ cn c l g) (hlr : lr ≤ 1000) (hwp : wp ≤ 50) (hwr : wr ≤ 50) (ht : t = if ((x7 >>> (nI g &&& 31)) &&& (1 : Int32)) = (1 : Int32) then tk (cn c l g - m g) lr (wk g wp wr) else 0) : f_X10_finding_L115 rec33 (nI l) x6 x7 fi (jF c) mf (f + 1) (nI wp) (nI wr) (nI lr) (nI g) mg = f_X10_finding_L115 rec33 (nI l) x6 x7 fi (jF c) mf f (nI (wp' g t wp)) (nI (wr' g t wr)) (nI (lr - t)) (nI (g + 1)) (upd mg g (nI (m g + t))) := by
  have hcb := cn_bd hc hl hg
  have hb := tk_bd (cn c l g - m g) lr (wk g wp wr)
  have htb : t ≤ lr ∧ t ≤ wk g wp wr := by
    rw [ht]
    split <;> omega
  show f_X10_finding_L115_body rec33 (nI l) x6 x7 fi (jF c) mf (f_X10_finding_L115 rec33 (nI l) x6 x7 fi (jF c) mf f) (nI wp) (nI wr) (nI lr) (nI g) mg = _
  rw [f_X10_finding_L115_body, if_neg (fun q => by have := (nle_n (a := 8) (by omega) (by omega)).mp q; omega)]
  have k226 : ∀ x10 : Int32, (x10 = 0 ↔ ri g = false) → f_X10_finding_b226 rec33 (f_X10_finding_L115 rec33 (nI l) x6 x7 fi (jF c) mf f) (nI l) (nI wp) (nI wr) x6 x7 (nI lr) (nI g) x10 (nI t) fi (jF c) mf mg = f_X10_finding_L115 rec33 (nI l) x6 x7 fi (jF c) mf f (nI (wp' g t wp)) (nI (wr' g t wr)) (nI (lr - t)) (nI (g + 1)) (upd mg g (nI (m g + t))) := by
    intro x10 hx
    rw [f_X10_finding_b226, if_pos (ib_n hg (by decide)), f_X10_finding_b260, f_X10_finding_b260, cl_n (by omega), ha, nI_add, nI_1, nsub htb.1]
    by_cases hr : ri g = true
    · have hx0 : ¬ x10 = 0 := fun z => by
        rw [hx.mp z] at hr
        exact absurd hr (by decide)
      have hw : t ≤ wr := by
        have := htb.2
        unfold wk at this
        rw [if_pos hr] at this
        exact this
      rw [if_neg hx0, if_neg hx0, nsub hw, Int32.sub_zero]
      unfold wp' wr'
      rw [if_pos hr, if_pos hr]
    · have hr1 : ri g = false := by
        cases hq : ri g
        · rfl
        · exact absurd hq hr
      have hw : t ≤ wp := by
        have := htb.2
        unfold wk at this
        rw [if_neg hr] at this
        exact this
      rw [if_pos (hx.mpr hr1), if_pos (hx.mpr hr1), nsub hw, Int32.sub_zero]
      unfold wp' wr'
      rw [if_neg hr, if_neg hr]
  have k153 : ∀ x10 : Int32, (x10 = 0 ↔ ri g = false) → f_X10_finding_b153 rec33 (f_X10_finding_L115 rec33 (nI l) x6 x7 fi (jF c) mf f) (nI l) (nI wp) (nI wr) x6 x7 (nI lr) (nI g) x10 (nI (wk g wp wr)) fi (jF c) mf mg = f_X10_finding_L115 rec33 (nI l) x6 x7 fi (jF c) mf f (nI (wp' g t wp)) (nI (wr' g t wr)) (nI (lr - t)) (nI (g + 1)) (upd mg g (nI (m g + t))) := by
    intro x10 hx
    have hwk : wk g wp wr ≤ 50 := by
      unfold wk
      split <;> omega
    have k207 : f_X10_finding_b207 rec33 (f_X10_finding_L115 rec33 (nI l) x6 x7 fi (jF c) mf f) (nI l) (nI wp) (nI wr) x6 x7 (nI lr) (nI g) x10 (nI (tk (cn c l g - m g) lr (wk g wp wr))) fi (jF c) mf mg = f_X10_finding_L115 rec33 (nI l) x6 x7 fi (jF c) mf f (nI (wp' g t wp)) (nI (wr' g t wr)) (nI (lr - t)) (nI (g + 1)) (upd mg g (nI (m g + t))) := by
      rw [f_X10_finding_b207]
      by_cases hb : ((x7 >>> (nI g &&& 31)) &&& (1 : Int32)) = (1 : Int32)
      · rw [if_pos hb, ← k226 x10 hx, ht, if_pos hb]
      · rw [if_neg hb, ← k226 x10 hx, ht, if_neg hb]
        rfl
    have kk := tk_r (P := fun s => f_X10_finding_b207 rec33 (f_X10_finding_L115 rec33 (nI l) x6 x7 fi (jF c) mf f) (nI l) (nI wp) (nI wr) x6 x7 (nI lr) (nI g) x10 s fi (jF c) mf mg = f_X10_finding_L115 rec33 (nI l) x6 x7 fi (jF c) mf f (nI (wp' g t wp)) (nI (wr' g t wr)) (nI (lr - t)) (nI (g + 1)) (upd mg g (nI (m g + t)))) (by omega) (by omega) (by omega) k207
    rw [f_X10_finding_b153, (ix_l hl hg).2, if_pos (ib_n (by omega) (by decide)), if_pos (ib_n hg (by decide)), cl_n (by omega), cl_n (by omega), cn_j hc, ha, nsub hm]
    by_cases h1 : nI (wk g wp wr) ≤ nI (cn c l g - m g)
    · rw [if_pos h1, f_X10_finding_b191]
      by_cases h2 : nI lr ≤ nI (wk g wp wr)
      · rw [if_pos h2]
        exact (kk.1 h1).1 h2
      · rw [if_neg h2]
        exact (kk.1 h1).2 h2
    · rw [if_neg h1, f_X10_finding_b191]
      by_cases h2 : nI lr ≤ nI (cn c l g - m g)
      · rw [if_pos h2]
        exact (kk.2 h1).1 h2
      · rw [if_neg h2]
        exact (kk.2 h1).2 h2
  by_cases hr : ri g = true
  · have e : wk g wp wr = wr := if_pos hr
    rw [e] at k153
    rw [if_pos ((ri_m g hg).mpr hr), f_X10_finding_b139, if_neg (by decide)]
    exact k153 1 ⟨fun z => absurd z (by decide), fun z => by rw [z] at hr; exact absurd hr (by decide)⟩
  · have e : wk g wp wr = wp := if_neg hr
    have hr1 : ri g = false := by
      cases hq : ri g
      · rfl
      · exact absurd hq hr
    rw [e] at k153
    rw [if_neg (fun z => hr ((ri_m g hg).mp z)), f_X10_finding_b139, if_pos rfl]
    exact k153 0 ⟨fun _ => hr1, fun _ => rfl⟩
/-- those whom nobody met yet, in the last j groups -/
def rmn (c : Nat → Int) (l : Nat) (m : Nat → Nat) : Nat → Nat
  | 0 => 0
  | j + 1 => (cn c l (7 - j) - m (7 - j)) + rmn c l m j
theorem rmn_up {m m' : Nat → Nat} : ∀ j, j ≤ 8 → (∀ i, 8 - j ≤ i → i < 8 → m' i = m i) → rmn c l m' j = rmn c l m j := by
  intro j
  induction j with
  | zero => intro _ _; rfl
  | succ j ih =>
    intro hj h
    show (cn c l (7 - j) - m' (7 - j)) + rmn c l m' j = (cn c l (7 - j) - m (7 - j)) + rmn c l m j
    rw [ih (by omega) (fun i h1 h2 => h i (by omega) h2), h (7 - j) (by omega) (by omega)]
def MG (c : Nat → Int) (l : Nat) (m : Nat → Nat) (am mg : Nat → Int32) : Prop := (∀ i, i < 8 → am i = nI (m i)) ∧ (∀ i, i < 8 → mg i = nI (m i)) ∧ ∀ i, i < 8 → m i ≤ cn c l i
theorem mt_loop (hc : LInv c) (hl : l < 4) {x mk x6 fi : Int32} {mf : Nat → Int32} (hpm : PM x mk) {rec33 : Int32 → Int32 → Int32 → (Nat → Int32) → Option (Nat → Int32)} : ∀ (j f1 f2 g lc lr wp wr : Nat) (m : Nat → Nat) (am mg : Nat → Int32), g + j = 8 → j < f1 → j < f2 → MG c l m am mg → wp ≤ 50 → wr ≤ 50 → lc ≤ 50 → lr ≤ 1000 → (lc = lr ∨ rmn c l m j ≤ lc ∧ rmn c l m j ≤ lr) → ∃ (wp2 wr2 : Nat) (m2 : Nat → Nat) (am2 mg2 : Nat → Int32), wp2 ≤ 50 ∧ wr2 ≤ 50 ∧ MG c l m2 am2 mg2 ∧ f_X0_meet_L19 (nI l) (x / (8 : Int32)) (x - x / (8 : Int32) * (8 : Int32)) (jF c) f1 (nI lc) (nI g) (nI wp) (nI wr) am = some (nI wp2, nI wr2, am2) ∧ f_X10_finding_L115 rec33 (nI l) x6 mk fi (jF c) mf f2 (nI wp) (nI wr) (nI lr) (nI g) mg = rec33 (nI wp2) (nI wr2) (x6 + 1) mg2 := by
  intro j
  induction j with
  | zero =>
    intro f1 f2 g lc lr wp wr m am mg hg hf1 hf2 hM hwp hwr hlc hlr hL
    obtain ⟨f1, rfl⟩ : ∃ q, f1 = q + 1 := ⟨f1 - 1, by omega⟩
    obtain ⟨f2, rfl⟩ : ∃ q, f2 = q + 1 := ⟨f2 - 1, by omega⟩
    have e : g = 8 := by omega
    subst e
    refine ⟨wp, wr, m, am, mg, hwp, hwr, hM, ?_, ?_⟩
    · show f_X0_meet_L19_body (nI l) (x / (8 : Int32)) (x - x / (8 : Int32) * (8 : Int32)) (jF c) (f_X0_meet_L19 (nI l) (x / (8 : Int32)) (x - x / (8 : Int32) * (8 : Int32)) (jF c) f1) (nI lc) (nI 8) (nI wp) (nI wr) am = _
      rw [f_X0_meet_L19_body, if_pos (by decide)]
    · show f_X10_finding_L115_body rec33 (nI l) x6 mk fi (jF c) mf (f_X10_finding_L115 rec33 (nI l) x6 mk fi (jF c) mf f2) (nI wp) (nI wr) (nI lr) (nI 8) mg = _
      rw [f_X10_finding_L115_body, if_pos (by decide)]
  | succ j ih =>
    intro f1 f2 g lc lr wp wr m am mg hg hf1 hf2 hM hwp hwr hlc hlr hL
    obtain ⟨f1, rfl⟩ : ∃ q, f1 = q + 1 := ⟨f1 - 1, by omega⟩
    obtain ⟨f2, rfl⟩ : ∃ q, f2 = q + 1 := ⟨f2 - 1, by omega⟩
    have hg8 : g < 8 := by omega
    have eg : 7 - j = g := by omega
    have hr1 : rmn c l m (j + 1) = (cn c l g - m g) + rmn c l m j := by
      show (cn c l (7 - j) - m (7 - j)) + rmn c l m j = _
      rw [eg]
    have hq := hpm g hg8
    rw [mc_one hc hl hg8 (hM.1 g hg8) (hM.2.2 g hg8) hlc hwp hwr, mm_one hc hl hg8 (hM.2.1 g hg8) (hM.2.2 g hg8) hlr hwp hwr rfl]
    by_cases hb : (nI g &&& (x / (8 : Int32))) = x - x / (8 : Int32) * (8 : Int32)
    · have et : tk (cn c l g - m g) lr (wk g wp wr) = tk (cn c l g - m g) lc (wk g wp wr) := by
        rcases hL with z | z
        · rw [z]
        · exact tk_big (by omega) (by omega)
      rw [if_pos hb, if_pos (hq.mp hb), et]
      have hbd := tk_bd (cn c l g - m g) lc (wk g wp wr)
      have hbd2 := tk_bd (cn c l g - m g) lr (wk g wp wr)
      have hmg := hM.2.2 g hg8
      generalize tk (cn c l g - m g) lc (wk g wp wr) = t at *
      refine ih f1 f2 (g + 1) (lc - t) (lr - t) _ _ (fun i => if i = g then m g + t else m i) _ _ (by omega) (by omega) (by omega) ?_ ?_ ?_ (by omega) (by omega) ?_
      · refine ⟨fun i hi => ?_, fun i hi => ?_, fun i hi => ?_⟩
        · dsimp only
          by_cases z : i = g
          · subst z
            rw [pk_us, if_pos rfl]
          · rw [pk_un z, if_neg z]
            exact hM.1 i hi
        · dsimp only
          by_cases z : i = g
          · subst z
            rw [pk_us, if_pos rfl]
          · rw [pk_un z, if_neg z]
            exact hM.2.1 i hi
        · dsimp only
          by_cases z : i = g
          · subst z
            rw [if_pos rfl]
            omega
          · rw [if_neg z]
            exact hM.2.2 i hi
      · unfold wp'
        split <;> omega
      · unfold wr'
        split <;> omega
      · rcases hL with z | z
        · left
          omega
        · right
          rw [rmn_up j (by omega) (fun i h1 h2 => if_neg (by omega))]
          omega
    · rw [if_neg hb, if_neg (fun z => hb (hq.mpr z))]
      have e1 : wp' g 0 wp = wp := by
        unfold wp'
        split <;> rfl
      have e2 : wr' g 0 wr = wr := by
        unfold wr'
        split <;> rfl
      rw [e1, e2]
      refine ih f1 f2 (g + 1) lc (lr - 0) wp wr m am _ (by omega) (by omega) (by omega) ?_ hwp hwr hlc hlr ?_
      · refine ⟨hM.1, fun i hi => ?_, hM.2.2⟩
        by_cases z : i = g
        · subst z
          rw [pk_us]
          rfl
        · rw [pk_un z]
          exact hM.2.1 i hi
      · rcases hL with z | z
        · left
          exact z
        · right
          show rmn c l m j ≤ lc ∧ rmn c l m j ≤ lr
          omega
theorem rmn_50 (hc : LInv c) (hl : l < 4) (m : Nat → Nat) : rmn c l m 8 ≤ 50 := by
  have h := hc.2 l hl
  have hk : ∀ g, ((cn c l g : Nat) : Int) = c (8 * l + g) := fun g => Int.toNat_of_nonneg (hc.1 _)
  have e : rmn c l m 8 = (cn c l 0 - m 0) + ((cn c l 1 - m 1) + ((cn c l 2 - m 2) + ((cn c l 3 - m 3) + ((cn c l 4 - m 4) + ((cn c l 5 - m 5) + ((cn c l 6 - m 6) + ((cn c l 7 - m 7) + 0))))))) := rfl
  rw [e]
  unfold pN at h
  rw [← hk 0, ← hk 1, ← hk 2, ← hk 3, ← hk 4, ← hk 5, ← hk 6, ← hk 7] at h
  have s0 : cn c l 0 - m 0 ≤ cn c l 0 := Nat.sub_le _ _
  have s1 : cn c l 1 - m 1 ≤ cn c l 1 := Nat.sub_le _ _
  have s2 : cn c l 2 - m 2 ≤ cn c l 2 := Nat.sub_le _ _
  have s3 : cn c l 3 - m 3 ≤ cn c l 3 := Nat.sub_le _ _
  have s4 : cn c l 4 - m 4 ≤ cn c l 4 := Nat.sub_le _ _
  have s5 : cn c l 5 - m 5 ≤ cn c l 5 := Nat.sub_le _ _
  have s6 : cn c l 6 - m 6 ≤ cn c l 6 := Nat.sub_le _ _
  have s7 : cn c l 7 - m 7 ≤ cn c l 7 := Nat.sub_le _ _
  generalize cn c l 0 - m 0 = d0 at *
  generalize cn c l 1 - m 1 = d1 at *
  generalize cn c l 2 - m 2 = d2 at *
  generalize cn c l 3 - m 3 = d3 at *
  generalize cn c l 4 - m 4 = d4 at *
  generalize cn c l 5 - m 5 = d5 at *
  generalize cn c l 6 - m 6 = d6 at *
  generalize cn c l 7 - m 7 = d7 at *
  clear hk e
  omega
/-- the finds that askers keep to -/
def BInv (n : Nat) (hp hl mf : Nat → Int32) : Prop := n ≤ 12 ∧ ∀ k, k < n → PM (hp k) (mf (2 * k)) ∧ ((∃ a, 1 ≤ a ∧ a ≤ 50 ∧ hl k = nI a ∧ mf (2 * k + 1) = nI a) ∨ (hl k = 50 ∧ mf (2 * k + 1) = -9))
theorem ask_loop (hc : LInv c) (hl : l < 4) {n : Nat} {hp hli mf : Nat → Int32} (hB : BInv n hp hli mf) : ∀ (j f1 f2 k wp wr : Nat) (m : Nat → Nat) (am mg : Nat → Int32), k + j = n → j < f1 → j + 1 < f2 → MG c l m am mg → wp ≤ 50 → wr ≤ 50 → ∃ (wp2 wr2 : Int32) (m2 : Nat → Nat) (am2 mg2 : Nat → Int32), MG c l m2 am2 mg2 ∧ f_X0_ask_L23 (nI l) (jF c) (nI n) hp hli f1 (nI k) (nI wp) (nI wr) am = some (wp2, wr2, am2) ∧ f_X10_finding_L33 (nI l) (nI n) (jF c) mf f2 (nI wp) (nI wr) (nI k) mg = some mg2 := by
  have hn := hB.1
  intro j
  induction j with
  | zero =>
    intro f1 f2 k wp wr m am mg hk hf1 hf2 hM hwp hwr
    obtain ⟨f1, rfl⟩ : ∃ q, f1 = q + 1 := ⟨f1 - 1, by omega⟩
    obtain ⟨f2, rfl⟩ : ∃ q, f2 = q + 2 := ⟨f2 - 2, by omega⟩
    have e : k = n := by omega
    subst e
    have hr := rmn_50 hc hl m
    obtain ⟨wp2, wr2, m2, am2, mg2, q1, q2, q3, q4, q5⟩ := mt_loop hc hl (x := 0) (mk := 255) (x6 := nI k) (fi := nI k) (mf := mf) PM_all (rec33 := f_X10_finding_L33 (nI l) (nI k) (jF c) mf (f2 + 1)) 8 pa_fu pa_fu 0 50 1000 wp wr m am mg (by omega) (by decide) (by decide) hM hwp hwr (by omega) (by omega) (Or.inr ⟨by omega, by omega⟩)
    have q4' : f_X0_meet (nI l) 0 50 (jF c) (nI wp) (nI wr) am = some (nI wp2, nI wr2, am2) := q4
    have q5' : f_X10_finding_L115 (f_X10_finding_L33 (nI l) (nI k) (jF c) mf (f2 + 1)) (nI l) (nI k) 255 (nI k) (jF c) mf pa_fu (nI wp) (nI wr) 1000 0 mg = _ := q5
    refine ⟨nI wp2, nI wr2, m2, am2, mg2, q3, ?_, ?_⟩
    · show f_X0_ask_L23_body (nI l) (jF c) (nI k) hp hli (f_X0_ask_L23 (nI l) (jF c) (nI k) hp hli f1) (nI k) (nI wp) (nI wr) am = _
      rw [f_X0_ask_L23_body, if_pos (Int32.le_refl _), f_X0_ask_b65, q4', b1]
    · show f_X10_finding_L33_body (nI l) (nI k) (jF c) mf (f_X10_finding_L33 (nI l) (nI k) (jF c) mf (f2 + 1)) (nI wp) (nI wr) (nI k) mg = _
      rw [f_X10_finding_L33_body, if_neg (Int32.lt_irrefl), if_pos (Int32.le_refl _), f_X10_finding_b66, if_pos (Int32.le_refl _), q5', nI_1]
      show f_X10_finding_L33_body (nI l) (nI k) (jF c) mf (f_X10_finding_L33 (nI l) (nI k) (jF c) mf f2) (nI wp2) (nI wr2) (nI (k + 1)) mg2 = _
      rw [f_X10_finding_L33_body, if_pos ((nlt_n (by omega) (by omega)).mpr (by omega))]
  | succ j ih =>
    intro f1 f2 k wp wr m am mg hk hf1 hf2 hM hwp hwr
    obtain ⟨f1, rfl⟩ : ∃ q, f1 = q + 1 := ⟨f1 - 1, by omega⟩
    obtain ⟨f2, rfl⟩ : ∃ q, f2 = q + 1 := ⟨f2 - 1, by omega⟩
    have hr := rmn_50 hc hl m
    obtain ⟨hb1, hb2⟩ := hB.2 k (by omega)
    have c1 : ¬ nI n ≤ nI k := fun q => by have := (nle_n (by omega) (by omega)).mp q; omega
    have c2 : ¬ nI n < nI k := fun q => by have := (nlt_n (by omega) (by omega)).mp q; omega
    have c3 : ¬ (12 : Int32) ≤ nI k := fun q => by have := (nle_n (a := 12) (by omega) (by omega)).mp q; omega
    have e1 : (2 : Int32) * nI k = nI (2 * k) := pk_mul 2 k
    have e2 : nI (2 * k) + (1 : Int32) = nI (2 * k + 1) := nI_1 _
    have key : ∀ lc lr : Nat, hli k = nI lc → (if mf (2 * k + 1) = -9 then (1000 : Int32) else mf (2 * k + 1)) = nI lr → lc ≤ 50 → lr ≤ 1000 → (lc = lr ∨ rmn c l m 8 ≤ lc ∧ rmn c l m 8 ≤ lr) → ∃ (wp2 wr2 : Int32) (m2 : Nat → Nat) (am2 mg2 : Nat → Int32), MG c l m2 am2 mg2 ∧ f_X0_ask_L23 (nI l) (jF c) (nI n) hp hli (f1 + 1) (nI k) (nI wp) (nI wr) am = some (wp2, wr2, am2) ∧ f_X10_finding_L33 (nI l) (nI n) (jF c) mf (f2 + 1) (nI wp) (nI wr) (nI k) mg = some mg2 := by
      intro lc lr h1 h2 h3 h4 h5
      obtain ⟨wp2, wr2, m2, am2, mg2, q1, q2, q3, q4, q5⟩ := mt_loop hc hl (x := hp k) (mk := mf (2 * k)) (x6 := nI k) (fi := nI n) (mf := mf) hb1 (rec33 := f_X10_finding_L33 (nI l) (nI n) (jF c) mf f2) 8 pa_fu pa_fu 0 lc lr wp wr m am mg (by omega) (by decide) (by decide) hM hwp hwr h3 h4 h5
      have q4' : f_X0_meet (nI l) (hp k) (nI lc) (jF c) (nI wp) (nI wr) am = some (nI wp2, nI wr2, am2) := q4
      obtain ⟨wp3, wr3, m3, am3, mg3, z1, z2, z3⟩ := ih f1 f2 (k + 1) wp2 wr2 m2 am2 mg2 (by omega) (by omega) (by omega) q3 q1 q2
      refine ⟨wp3, wr3, m3, am3, mg3, z1, ?_, ?_⟩
      · show f_X0_ask_L23_body (nI l) (jF c) (nI n) hp hli (f_X0_ask_L23 (nI l) (jF c) (nI n) hp hli f1) (nI k) (nI wp) (nI wr) am = _
        rw [f_X0_ask_L23_body, if_neg c1, if_neg c3, if_pos (ib_n (by omega) (by decide)), cl_n (by omega), h1, q4', b1, nI_1]
        exact z2
      · show f_X10_finding_L33_body (nI l) (nI n) (jF c) mf (f_X10_finding_L33 (nI l) (nI n) (jF c) mf f2) (nI wp) (nI wr) (nI k) mg = _
        rw [f_X10_finding_L33_body, if_neg c2, if_neg c1, e1, if_pos (ib_n (by omega) (by decide)), cl_n (by omega), f_X10_finding_b66, if_neg c1, e1, e2, if_pos (ib_n (by omega) (by decide)), cl_n (by omega), ← z3, ← nI_1 k]
        by_cases h9 : mf (2 * k + 1) = -9
        · rw [if_pos h9] at h2
          rw [if_pos h9, h2]
          exact q5
        · rw [if_neg h9] at h2
          rw [if_neg h9, h2]
          exact q5
    rcases hb2 with ⟨a, a1, a2, a3, a4⟩ | ⟨a1, a2⟩
    · exact key a a a3 (by rw [a4, if_neg (nI_ne9 (by omega))]) a2 (by omega) (Or.inl rfl)
    · exact key 50 1000 a1 (by rw [a2, if_pos rfl]; rfl) (by omega) (by omega) (Or.inr ⟨by omega, by omega⟩)
theorem f9_loop {x1 x4 x5 fi : Int32} {ml mf : Nat → Int32} : ∀ (j f g : Nat) (mg : Nat → Int32), g + j = 8 → j < f → (∀ i, i < g → mg i = 0) → ∃ mg2 : Nat → Int32, (∀ i, i < 8 → mg2 i = 0) ∧ f_X10_finding_L9 x1 x4 x5 fi ml mf f (nI g) mg = f_X10_finding_L33 x1 fi ml mf pa_fu x4 x5 0 mg2 := by
  intro j
  induction j with
  | zero =>
    intro f g mg hg hf h
    obtain ⟨f, rfl⟩ : ∃ q, f = q + 1 := ⟨f - 1, by omega⟩
    have e : g = 8 := by omega
    subst e
    refine ⟨mg, h, ?_⟩
    show f_X10_finding_L9_body x1 x4 x5 fi ml mf (f_X10_finding_L9 x1 x4 x5 fi ml mf f) (nI 8) mg = _
    rw [f_X10_finding_L9_body, if_pos (by decide)]
  | succ j ih =>
    intro f g mg hg hf h
    obtain ⟨f, rfl⟩ : ∃ q, f = q + 1 := ⟨f - 1, by omega⟩
    obtain ⟨mg2, h1, h2⟩ := ih f (g + 1) (upd mg g 0) (by omega) (by omega) (by
      intro i hi
      by_cases z : i = g
      · rw [z, pk_us]
      · rw [pk_un z]
        exact h i (by omega))
    refine ⟨mg2, h1, ?_⟩
    rw [← h2]
    show f_X10_finding_L9_body x1 x4 x5 fi ml mf (f_X10_finding_L9 x1 x4 x5 fi ml mf f) (nI g) mg = _
    rw [f_X10_finding_L9_body, if_neg (fun q => by have := (nle_n (a := 8) (by omega) (by omega)).mp q; omega), if_pos (ib_n (by omega) (by decide)), cl_n (by omega), nI_1]
theorem ask_ok (hc : LInv c) (hl : l < 4) {n : Nat} {hp hli mf : Nat → Int32} (hB : BInv n hp hli mf) {wp wr : Nat} (hwp : wp ≤ 50) (hwr : wr ≤ 50) (am mg : Nat → Int32) : ∃ (wp2 wr2 : Int32) (m2 : Nat → Nat) (am2 mg2 : Nat → Int32), MG c l m2 am2 mg2 ∧ f_X0_ask (nI l) (nI wp) (nI wr) (jF c) (nI n) hp hli am = some (wp2, wr2, am2) ∧ f_X10_finding (nI l) (nI wp) (nI wr) (nI n) (jF c) mf mg = some mg2 := by
  have hn := hB.1
  obtain ⟨mg1, h1, h2⟩ := f9_loop (x1 := nI l) (x4 := nI wp) (x5 := nI wr) (fi := nI n) (ml := jF c) (mf := mf) 8 pa_fu 0 mg (by omega) (by decide) (fun i h => absurd h (by omega))
  obtain ⟨wp2, wr2, m2, am2, mg2, q1, q2, q3⟩ := ask_loop hc hl hB n pa_fu pa_fu 0 wp wr (fun _ => 0) (pa_fillI am 8 0) mg1 (by omega) (by have : pa_fu = 4096 := rfl; omega) (by have : pa_fu = 4096 := rfl; omega) ⟨fun i hi => by rw [pa_fillI, if_pos hi]; rfl, h1, fun i hi => Nat.zero_le _⟩ hwp hwr
  exact ⟨wp2, wr2, m2, am2, mg2, q1, q2, h2.trans q3⟩
end ASK
