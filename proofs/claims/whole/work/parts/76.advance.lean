/-! ===== the habit's next word ===== -/
def NR (v w : Int32) : Prop := (∃ a, a ≤ 99 ∧ v = nI a ∧ w = nI a) ∨ (v = nI 100 ∧ ∃ b, 100 ≤ b ∧ b ≤ 999 ∧ w = nI b)
section ADV
variable {n : Nat} {t : Nat → Nat}
theorem wd_ok (g : pa_GT) (hn : n ≤ 300) {p : Nat} (mt mv x : Int32) (hp : p < n) (hL : f_X9_within (nI (t p)) 97 122 = some 1) : ∀ (m f e : Nat), n - e ≤ m → m < f → p ≤ e → e ≤ n → (e = p → 1 ≤ m) → ∃ k e' v w, k < 7 ∧ e' ≤ n ∧ AR k v w ∧ f_X6_readWord_L0 g (nI n) (nI p) x (nF t) f (nI e) = some (g.1 k, nI e', v) ∧ f_X10_advances_L66 (nI n) mt (nI p) mv (nF t) f (nI e) = some (nI e', nI (tm k), nI p, w) := by
  intro m
  induction m with
  | zero =>
    intro f e hm hf hpe he hz
    obtain ⟨f, rfl⟩ : ∃ q, f = q + 1 := ⟨f - 1, by omega⟩
    have hpe2 : p < e := by omega
    have hen : e = n := by omega
    obtain ⟨k, v, w, h1, h2, h3, h4⟩ := wd_end (t := t) g hn hpe2 he x mv
    refine ⟨k, e, v, w, h1, he, h2, ?_, ?_⟩
    · show f_X6_readWord_L0_body g (nI n) (nI p) x (nF t) (f_X6_readWord_L0 g (nI n) (nI p) x (nF t) f) (nI e) = _
      rw [f_X6_readWord_L0_body, if_pos ((nle_n (by omega) (by omega)).mpr (by omega)), h3]
    · show f_X10_advances_L66_body (nI n) mt (nI p) mv (nF t) (f_X10_advances_L66 (nI n) mt (nI p) mv (nF t) f) (nI e) = _
      rw [f_X10_advances_L66_body, by_out hn (by omega) (by omega), b1, show f_X10_in (-1) 97 122 = some 0 from rfl, b1, i00, h4, b1]
  | succ m ih =>
    intro f e hm hf hpe he hz
    obtain ⟨f, rfl⟩ : ∃ q, f = q + 1 := ⟨f - 1, by omega⟩
    have hc : f_X6_readWord_L0 g (nI n) (nI p) x (nF t) (f + 1) (nI e) = f_X6_readWord_L0_body g (nI n) (nI p) x (nF t) (f_X6_readWord_L0 g (nI n) (nI p) x (nF t) f) (nI e) := rfl
    have hr : f_X10_advances_L66 (nI n) mt (nI p) mv (nF t) (f + 1) (nI e) = f_X10_advances_L66_body (nI n) mt (nI p) mv (nF t) (f_X10_advances_L66 (nI n) mt (nI p) mv (nF t) f) (nI e) := rfl
    rw [hc, hr, f_X6_readWord_L0_body, f_X10_advances_L66_body]
    by_cases hen : e < n
    · rw [if_neg (fun z => by have := (nle_n (by omega) (by omega)).mp z; omega), if_pos (ib_n (by omega) (by decide)), cl_n (by omega), by_in hn hen, b1, is_let, in_wi, show nF t e = nI (t e) from rfl, nI_1]
      rcases wi_cases (nI (t e)) 97 122 with ⟨q1, _, _⟩ | q1
      · rw [q1, b1, b1, i10, i10]
        exact ih f (e + 1) (by omega) (by omega) (by omega) (by omega) (by omega)
      · have hpe2 : p < e := by
          rcases Nat.lt_or_ge p e with q | q
          · exact q
          · have : e = p := by omega
            subst this
            rw [hL] at q1
            exact absurd q1 (by decide)
        obtain ⟨k, v, w, h1, h2, h3, h4⟩ := wd_end (t := t) g hn hpe2 he x mv
        refine ⟨k, e, v, w, h1, he, h2, ?_, ?_⟩
        · rw [q1, b1, i00, h3]
        · rw [q1, b1, i00, h4, b1]
    · have hpe2 : p < e := by omega
      obtain ⟨k, v, w, h1, h2, h3, h4⟩ := wd_end (t := t) g hn hpe2 he x mv
      refine ⟨k, e, v, w, h1, he, h2, ?_, ?_⟩
      · rw [if_pos ((nle_n (by omega) (by omega)).mpr (by omega)), h3]
      · rw [by_out hn (by omega) (by omega), b1, show f_X10_in (-1) 97 122 = some 0 from rfl, b1, i00, h4, b1]
theorem nu_end (g : pa_GT) (hn : n ≤ 300) {p e : Nat} {x1 v w : Int32} (hx : (x1 = 0 ∧ ¬ nI (t p) = 48) ∨ (x1 = 1 ∧ nI (t p) = 48)) (hpe : p ≤ e) (he : e ≤ n) (hv : NR v w) : ∃ k, k < 7 ∧ AR k v w ∧ f_X6_readNumber_b88 g x1 (nI p) (nI e) v = some (g.1 k, nI e, v) ∧ (if (99 : Int32) < w then some (nI e, (6 : Int32), nI p, w) else if nI (t p) = (48 : Int32) then if (nI e - nI p) ≤ (1 : Int32) then some (nI e, (4 : Int32), nI p, w) else some (nI e, (6 : Int32), nI p, w) else some (nI e, (4 : Int32), nI p, w)) = some (nI e, nI (tm k), nI p, w) := by
  rw [f_X6_readNumber_b88]
  rcases hv with ⟨a, ha, rfl, rfl⟩ | ⟨rfl, b, hb1, hb2, rfl⟩
  · have h9 : ¬ (99 : Int32) < nI a := fun z => by have := (nlt_n (a := 99) (by omega) (by omega)).mp z; omega
    rw [if_neg h9, if_neg h9]
    rcases hx with ⟨rfl, h⟩ | ⟨rfl, h⟩
    · rw [i00, if_neg h]
      exact ⟨3, by decide, ⟨fun q => absurd q (by decide), fun _ => ⟨a, ha, rfl, rfl⟩⟩, rfl, rfl⟩
    · rw [i10, if_pos h]
      by_cases h1 : nI e - nI p ≤ 1
      · rw [if_pos h1, if_pos h1]
        exact ⟨3, by decide, ⟨fun q => absurd q (by decide), fun _ => ⟨a, ha, rfl, rfl⟩⟩, rfl, rfl⟩
      · rw [if_neg h1, if_neg h1]
        exact ⟨6, by decide, AR_of (by decide) (by decide) _ _, rfl, rfl⟩
  · rw [if_pos (show (99 : Int32) < nI 100 by decide), if_pos (show (99 : Int32) < nI b from (nlt_n (a := 99) (by omega) (by omega)).mpr (by omega))]
    exact ⟨6, by decide, AR_of (by decide) (by decide) _ _, rfl, rfl⟩
theorem nu_ok (g : pa_GT) (hn : n ≤ 300) {p : Nat} {x1 : Int32} (hx : (x1 = 0 ∧ ¬ nI (t p) = 48) ∨ (x1 = 1 ∧ nI (t p) = 48)) : ∀ (m f e : Nat) (v w : Int32), n - e ≤ m → m < f → p ≤ e → e ≤ n → NR v w → ∃ k e' v' w', k < 7 ∧ e' ≤ n ∧ AR k v' w' ∧ f_X6_readNumber_L20 g x1 (nI n) (nI p) (nF t) f (nI e) v = some (g.1 k, nI e', v') ∧ f_X10_advances_L129 (nI (t p)) (nI n) (nI p) (nF t) f (nI e) w = some (nI e', nI (tm k), nI p, w') := by
  intro m
  induction m with
  | zero =>
    intro f e v w hm hf hpe he hv
    obtain ⟨f, rfl⟩ : ∃ q, f = q + 1 := ⟨f - 1, by omega⟩
    obtain ⟨k, h1, h2, h3, h4⟩ := nu_end g hn hx hpe he hv
    refine ⟨k, e, v, w, h1, he, h2, ?_, ?_⟩
    · show f_X6_readNumber_L20_body g x1 (nI n) (nI p) (nF t) (f_X6_readNumber_L20 g x1 (nI n) (nI p) (nF t) f) (nI e) v = _
      rw [f_X6_readNumber_L20_body, if_pos ((nle_n (by omega) (by omega)).mpr (by omega)), h3]
    · show f_X10_advances_L129_body (nI (t p)) (nI n) (nI p) (nF t) (f_X10_advances_L129 (nI (t p)) (nI n) (nI p) (nF t) f) (nI e) w = _
      rw [f_X10_advances_L129_body, by_out hn (by omega) (by omega), b1, show f_X10_in (-1) 48 57 = some 0 from rfl, b1, i00, h4]
  | succ m ih =>
    intro f e v w hm hf hpe he hv
    obtain ⟨f, rfl⟩ : ∃ q, f = q + 1 := ⟨f - 1, by omega⟩
    have hc : f_X6_readNumber_L20 g x1 (nI n) (nI p) (nF t) (f + 1) (nI e) v = f_X6_readNumber_L20_body g x1 (nI n) (nI p) (nF t) (f_X6_readNumber_L20 g x1 (nI n) (nI p) (nF t) f) (nI e) v := rfl
    have hr : f_X10_advances_L129 (nI (t p)) (nI n) (nI p) (nF t) (f + 1) (nI e) w = f_X10_advances_L129_body (nI (t p)) (nI n) (nI p) (nF t) (f_X10_advances_L129 (nI (t p)) (nI n) (nI p) (nF t) f) (nI e) w := rfl
    rw [hc, hr, f_X6_readNumber_L20_body, f_X10_advances_L129_body]
    by_cases hen : e < n
    · rw [if_neg (fun z => by have := (nle_n (by omega) (by omega)).mp z; omega), if_pos (ib_n (by omega) (by decide)), cl_n (by omega), by_in hn hen, b1, is_dig, in_wi, show nF t e = nI (t e) from rfl, nI_1]
      rcases wi_cases (nI (t e)) 48 57 with ⟨q1, q2, q3⟩ | q1
      · rw [q1, b1, b1, i10, i10, b1]
        obtain ⟨d, hd, hdt⟩ : ∃ d, d ≤ 9 ∧ nI (t e) = nI (48 + d) := by
          obtain ⟨y, hy, e1⟩ := wi_nat (x := nI (t e)) (n := 57) (by decide) (fun z => q2 (Int32.lt_trans z (by decide))) q3
          rw [e1] at q2
          have : ¬ y < 48 := fun z => q2 ((nlt_n (b := 48) (by omega) (by omega)).mpr z)
          exact ⟨y - 48, by omega, by rw [e1, show 48 + (y - 48) = y by omega]⟩
        rw [hdt]
        rcases hv with ⟨a, ha, rfl, rfl⟩ | ⟨rfl, b, hb1, hb2, rfl⟩
        · have e1 : nI a * (10 : Int32) + nI (48 + d) - (48 : Int32) = nI (10 * a + d) := by
            rw [show nI a * (10 : Int32) = nI (a * 10) from pk_mul a 10, nI_add, show (48 : Int32) = nI 48 from rfl, nsub (by omega)]
            congr 1
            omega
          have e2 : (10 : Int32) * nI a + nI (48 + d) - (48 : Int32) = nI (10 * a + d) := by
            rw [show (10 : Int32) * nI a = nI (10 * a) from pk_mul 10 a, nI_add, show (48 : Int32) = nI 48 from rfl, nsub (by omega)]
            congr 1
            omega
          rw [e1, e2, if_pos (show nI a ≤ (99 : Int32) from (nle_n (b := 99) (by omega) (by omega)).mpr ha)]
          by_cases hlt : 10 * a + d < 100
          · rw [if_pos (show nI (10 * a + d) < (100 : Int32) from (nlt_n (b := 100) (by omega) (by omega)).mpr hlt)]
            exact ih f (e + 1) _ _ (by omega) (by omega) (by omega) (by omega) (Or.inl ⟨10 * a + d, by omega, rfl, rfl⟩)
          · rw [if_neg (show ¬ nI (10 * a + d) < (100 : Int32) from fun z => hlt ((nlt_n (b := 100) (by omega) (by omega)).mp z))]
            exact ih f (e + 1) _ _ (by omega) (by omega) (by omega) (by omega) (Or.inr ⟨rfl, 10 * a + d, by omega, by omega, rfl⟩)
        · have e1 : nI 100 * (10 : Int32) + nI (48 + d) - (48 : Int32) = nI (1000 + d) := by
            rw [show nI 100 * (10 : Int32) = nI 1000 from rfl, nI_add, show (48 : Int32) = nI 48 from rfl, nsub (by omega)]
            congr 1
            omega
          rw [e1, if_neg (show ¬ nI (1000 + d) < (100 : Int32) from fun z => by have := (nlt_n (b := 100) (by omega) (by omega)).mp z; omega), if_neg (show ¬ nI b ≤ (99 : Int32) from fun z => by have := (nle_n (b := 99) (by omega) (by omega)).mp z; omega)]
          exact ih f (e + 1) _ _ (by omega) (by omega) (by omega) (by omega) (Or.inr ⟨rfl, b, hb1, hb2, rfl⟩)
      · obtain ⟨k, h1, h2, h3, h4⟩ := nu_end g hn hx hpe he hv
        refine ⟨k, e, v, w, h1, he, h2, ?_, ?_⟩
        · rw [q1, b1, i00, h3]
        · rw [q1, b1, i00, h4]
    · obtain ⟨k, h1, h2, h3, h4⟩ := nu_end g hn hx hpe he hv
      refine ⟨k, e, v, w, h1, he, h2, ?_, ?_⟩
      · rw [if_pos ((nle_n (by omega) (by omega)).mpr (by omega)), h3]
      · rw [by_out hn (by omega) (by omega), b1, show f_X10_in (-1) 48 57 = some 0 from rfl, b1, i00, h4]
/-- one word, behind spaces -/
theorem ad_one (g : pa_GT) (hn : n ≤ 300) (ht : ∀ i, t i ≤ 255) (tk : Nat) (mv : Int32) {p : Nat} (hp : p < n) (mt : Int32) : ∃ k e' v w, k < 7 ∧ e' ≤ n ∧ AR k v w ∧ f_X6_advance_b46 g (nI n) tk (nI p) (nF t) = some (g.1 k, nI p, nI e', v) ∧ (if 0 ≤ nI (t p) then (f_X10_in (nI (t p)) (97 : Int32) (122 : Int32)).bind fun u_25 => if u_25 = 0 then (f_X10_in (nI (t p)) (48 : Int32) (57 : Int32)).bind fun u_28 => if u_28 = 0 then if nI (t p) = (59 : Int32) then some ((nI p + (1 : Int32)), (5 : Int32), nI p, mv) else some ((nI p + (1 : Int32)), (6 : Int32), nI p, mv) else f_X10_advances_L129 (nI (t p)) (nI n) (nI p) (nF t) pa_fu (nI p) (0 : Int32) else f_X10_advances_L66 (nI n) mt (nI p) mv (nF t) pa_fu (nI p) else some (nI p, (0 : Int32), nI p, mv)) = some (nI e', nI (tm k), nI p, w) := by
  have htp := ht p
  have h0 : (0 : Int32) ≤ nI (t p) := (nle_n (a := 0) (by omega) (by omega)).mpr (by omega)
  rw [if_pos h0, f_X6_advance_b46, if_pos ((nlt_n (by omega) (by omega)).mpr hp), if_pos (ib_n (by omega) (by decide)), cl_n (by omega), is_let, is_dig, in_wi, show nF t p = nI (t p) from rfl, nI_1]
  rcases wi_cases (nI (t p)) 97 122 with ⟨q1, _, _⟩ | q1
  · rw [q1, b1, b1, i10, i10, f_X6_readWord]
    obtain ⟨k, e', v, w, h1, h2, h3, h4, h5⟩ := wd_ok (t := t) g hn mt mv 0 hp q1 300 pa_fu p (by omega) (by decide) (by omega) (by omega) (by omega)
    exact ⟨k, e', v, w, h1, h2, h3, by rw [h4, b1], h5⟩
  · rw [q1, b1, b1, i00, i00]
    rcases wi_cases (nI (t p)) 48 57 with ⟨q2, _, _⟩ | q2
    · rw [q2, b1, b1, i10, i10, f_X6_readNumber, if_pos (ib_n (by omega) (by decide)), cl_n (by omega), show nF t p = nI (t p) from rfl]
      by_cases h48 : nI (t p) = 48
      · obtain ⟨k, e', v, w, h1, h2, h3, h4, h5⟩ := nu_ok (t := t) g hn (p := p) (x1 := 1) (Or.inr ⟨rfl, h48⟩) 300 pa_fu p 0 0 (by omega) (by decide) (by omega) (by omega) (Or.inl ⟨0, by omega, rfl, rfl⟩)
        exact ⟨k, e', v, w, h1, h2, h3, by rw [if_pos h48, h4, b1], h5⟩
      · obtain ⟨k, e', v, w, h1, h2, h3, h4, h5⟩ := nu_ok (t := t) g hn (p := p) (x1 := 0) (Or.inl ⟨rfl, h48⟩) 300 pa_fu p 0 0 (by omega) (by decide) (by omega) (by omega) (Or.inl ⟨0, by omega, rfl, rfl⟩)
        exact ⟨k, e', v, w, h1, h2, h3, by rw [if_neg h48, h4, b1], h5⟩
    · rw [q2, b1, b1, i00, i00]
      by_cases h59 : nI (t p) = 59
      · rw [if_pos h59, if_pos h59]
        exact ⟨4, p + 1, 0, mv, by decide, by omega, AR_of (by decide) (by decide) _ _, rfl, rfl⟩
      · rw [if_neg h59, if_neg h59]
        exact ⟨6, p + 1, 0, mv, by decide, by omega, AR_of (by decide) (by decide) _ _, rfl, rfl⟩
theorem ad_loop (g : pa_GT) (hn : n ≤ 300) (ht : ∀ i, t i ≤ 255) (tk : Nat) (mt mv : Int32) : ∀ (m f e : Nat), n - e ≤ m → m < f → e ≤ n → ∃ k p e' v w, k < 7 ∧ p ≤ n ∧ e' ≤ n ∧ AR k v w ∧ f_X6_advance_L8 g (nI n) tk (nF t) f (nI e) = some (g.1 k, nI p, nI e', v) ∧ f_X10_advances_L0 (nI n) mt mv (nF t) f (nI e) = some (nI e', nI (tm k), nI p, w) := by
  intro m
  induction m with
  | zero =>
    intro f e hm hf he
    obtain ⟨f, rfl⟩ : ∃ q, f = q + 1 := ⟨f - 1, by omega⟩
    refine ⟨5, e, e, 0, mv, by decide, he, he, AR_of (by decide) (by decide) _ _, ?_, ?_⟩
    · show f_X6_advance_L8_body g (nI n) tk (nF t) (f_X6_advance_L8 g (nI n) tk (nF t) f) (nI e) = _
      rw [f_X6_advance_L8_body, if_pos ((nle_n (by omega) (by omega)).mpr (by omega)), f_X6_advance_b46, if_neg (fun z => by have := (nlt_n (by omega) (by omega)).mp z; omega)]
    · show f_X10_advances_L0_body (nI n) mt mv (nF t) (f_X10_advances_L0 (nI n) mt mv (nF t) f) (nI e) = _
      rw [f_X10_advances_L0_body, by_out hn (by omega) (by omega), b1, if_neg (by decide), b1, if_neg (by decide)]
      rfl
  | succ m ih =>
    intro f e hm hf he
    obtain ⟨f, rfl⟩ : ∃ q, f = q + 1 := ⟨f - 1, by omega⟩
    by_cases hen : e < n
    · have hc : f_X6_advance_L8 g (nI n) tk (nF t) (f + 1) (nI e) = f_X6_advance_L8_body g (nI n) tk (nF t) (f_X6_advance_L8 g (nI n) tk (nF t) f) (nI e) := rfl
      have hr : f_X10_advances_L0 (nI n) mt mv (nF t) (f + 1) (nI e) = f_X10_advances_L0_body (nI n) mt mv (nF t) (f_X10_advances_L0 (nI n) mt mv (nF t) f) (nI e) := rfl
      rw [hc, hr, f_X6_advance_L8_body, f_X10_advances_L0_body, if_neg (fun z => by have := (nle_n (by omega) (by omega)).mp z; omega), if_pos (ib_n (by omega) (by decide)), cl_n (by omega), by_in hn hen, b1, show nF t e = nI (t e) from rfl, b1]
      by_cases h32 : nI (t e) = 32
      · rw [if_pos h32, if_pos h32, nI_1]
        exact ih f (e + 1) (by omega) (by omega) (by omega)
      · rw [if_neg h32, if_neg h32]
        obtain ⟨k, e', v, w, h1, h2, h3, h4, h5⟩ := ad_one (t := t) g hn ht tk mv hen mt
        exact ⟨k, e, e', v, w, h1, by omega, h2, h3, h4, h5⟩
    · exact ih (f + 1) e (by omega) (by omega) he
theorem av_ok (g : pa_GT) (hn : n ≤ 300) (ht : ∀ i, t i ≤ 255) (tk : Nat) (mt mv : Int32) {e : Nat} (he : e ≤ n) : ∃ k p e' v w, k < 7 ∧ p ≤ n ∧ e' ≤ n ∧ AR k v w ∧ f_X6_advance g (nI n) tk (nI e) (nF t) = some (g.1 k, nI p, nI e', v) ∧ f_X10_advances (nI n) (nI e) mt mv (nF t) = some (nI e', nI (tm k), nI p, w) :=
  ad_loop g hn ht tk mt mv 300 pa_fu e (by omega) (by decide) he
end ADV
