abbrev rm_X1_commonDivisor : Room := { frames := 0, cells := 0, slots := 0, locals := 0 }
def f_X1_commonDivisor_L9_body  (rec9 : Int64 → Int64 → Int32 → Option (Int64)) (x4 : Int64) (x6 : Int64) (x8 : Int32) : Option (Int64) :=
  if (100 : Int32) ≤ x8 then
    some (x4)
  else
    if (lg_cmp x6 (0 : Int64)) = 0 then
      some (x4)
    else
      if x6 = 0 then none else
      rec9 x6 (x4 - x4 / x6 * x6) (x8 + (1 : Int32))
def f_X1_commonDivisor_L9  : Nat → Int64 → Int64 → Int32 → Option (Int64)
  | 0 => fun _ _ _ => none
  | n + 1 => f_X1_commonDivisor_L9_body  (f_X1_commonDivisor_L9  n)
def f_X1_commonDivisor (x0 : Int64) (x2 : Int64) : Option (Int64) :=
  f_X1_commonDivisor_L9 pa_fu x0 x2 (0 : Int32)
set_option maxHeartbeats 4000000 in
set_option maxRecDepth 100000 in
theorem w_X1_commonDivisor_L9 {l : Launch} {D : va_G} {cI cJ : ClassId} {g : pa_GT} {A : Nat → Prop} {p : Program} {e : Env} {s : State} {m : MethodId} {args : Array Value} {below : List Frame} {meth : Method} {c : Code}   {o : Int64} (X : pa_X cX1_commonDivisor 11 (some .long) RX1 wsX1_commonDivisor D cI cJ g A p s m args meth c)  : ∀ (n : Nat) (x4 : Int64) (x6 : Int64) (x8 : Int32), f_X1_commonDivisor_L9  n x4 x6 x8 = some o → ∀ (H : Heap) (locs : List Loc) , va_P D vwCl ([] : va_W) H → va_D A ([] : va_W) → va_S A s.heap H locs → ∀ (ls : Array Slot), lv_has ls 11 [(4, .long x4), (6, .long x6), (8, .int x8)] → W p l e (headSpec wsX1_commonDivisor rm_X1_commonDivisor).room s m args below meth c H locs 0 0 (MQ below (va_Ql (fun r (_ : Unit) => r = o) (pa_QB D A ([] : va_W)) A) args s 0 0 A) (F0 m 9 ls []) := by
  obtain ⟨hx, hb, hr, hml, hown, hts, hK, hA, hG, hlk⟩ := id X
  intro n
  induction n with
  | zero =>
    intro x4 x6 x8 hf
    have hf : (none : Option (Int64)) = some o := hf
    cases hf
  | succ n hrec9 =>
    intro x4 x6 x8 hf H locs  hP hD hS ls hl
    have hf : f_X1_commonDivisor_L9_body  (f_X1_commonDivisor_L9  n) x4 x6 x8 = some o := hf
    delta f_X1_commonDivisor_L9_body at hf
    generalize hgr : f_X1_commonDivisor_L9  n = rec9 at hf hrec9
    refine lv_iload hx hb dX1_commonDivisor_9 (lv_at hl 2 rfl) ?_
    refine lv_bipush (v := (100 : Int32)) hx hb dX1_commonDivisor_11 (by decide) ?_
    refine lv_icmp_ge (tgt := 44) hx hb dX1_commonDivisor_13 (by decide) (fun c_1 => ?_) (fun c_1 => ?_)
    · have hf := (if_pos c_1).symm.trans hf
      refine lv_lload hx hb dX1_commonDivisor_44 (lv_at hl 0 rfl) ?_
      obtain rfl := Option.some.inj hf
      exact pa_el X hP hD hS dX1_commonDivisor_46
    · have hf := (if_neg c_1).symm.trans hf
      refine lv_lload hx hb dX1_commonDivisor_16 (lv_at hl 1 rfl) ?_
      refine lv_lconst (v := (0 : Int64)) hx hb dX1_commonDivisor_18 (by decide) ?_
      refine W.lcmp hx hb dX1_commonDivisor_19 ?_
      refine lv_if_eq (tgt := 44) hx hb dX1_commonDivisor_20 (by decide) (fun c_2 => ?_) (fun c_2 => ?_)
      · have hf := (if_pos c_2).symm.trans hf
        refine lv_lload hx hb dX1_commonDivisor_44 (lv_at hl 0 rfl) ?_
        obtain rfl := Option.some.inj hf
        exact pa_el X hP hD hS dX1_commonDivisor_46
      · have hf := (if_neg c_2).symm.trans hf
        refine lv_lload hx hb dX1_commonDivisor_23 (lv_at hl 0 rfl) ?_
        refine lv_lload hx hb dX1_commonDivisor_25 (lv_at hl 1 rfl) ?_
        obtain ⟨hz_3, hf⟩ := pa_dzl hf
        refine lv_lrem hx hb dX1_commonDivisor_27 hz_3 ?_
        refine lv_lstore (lv' := [(9, .long (x4 - x4 / x6 * x6)), (4, .long x4), (6, .long x6), (8, .int x8)]) hx hb dX1_commonDivisor_28 hl (by decide) rfl (fun ls hl => ?_)
        refine lv_lload hx hb dX1_commonDivisor_30 (lv_at hl 2 rfl) ?_
        refine lv_lstore (lv' := [(4, .long x6), (9, .long (x4 - x4 / x6 * x6)), (6, .long x6), (8, .int x8)]) hx hb dX1_commonDivisor_32 hl (by decide) rfl (fun ls hl => ?_)
        refine lv_lload hx hb dX1_commonDivisor_34 (lv_at hl 1 rfl) ?_
        refine lv_lstore (lv' := [(6, .long (x4 - x4 / x6 * x6)), (4, .long x6), (9, .long (x4 - x4 / x6 * x6)), (8, .int x8)]) hx hb dX1_commonDivisor_36 hl (by decide) rfl (fun ls hl => ?_)
        refine lv_iinc (v := (x8 + (1 : Int32))) (lv' := [(8, .int (x8 + (1 : Int32))), (6, .long (x4 - x4 / x6 * x6)), (4, .long x6), (9, .long (x4 - x4 / x6 * x6))]) hx hb dX1_commonDivisor_38 hl (k := 3) rfl rfl (by decide) rfl (fun ls hl => ?_)
        refine lv_goto (tgt := 9) hx hb dX1_commonDivisor_41 (by decide) ?_
        exact hrec9 _ _ _ hf _ _  hP hD hS _ (lv_sub hl [2, 1, 0] rfl)
set_option maxHeartbeats 4000000 in
set_option maxRecDepth 100000 in
theorem w_X1_commonDivisor_b0 {l : Launch} {D : va_G} {cI cJ : ClassId} {g : pa_GT} {A : Nat → Prop} {p : Program} {e : Env} {s : State} {m : MethodId} {args : Array Value} {below : List Frame} {meth : Method} {c : Code} {x0 : Int64} {x2 : Int64}  {o : Int64} (X : pa_X cX1_commonDivisor 11 (some .long) RX1 wsX1_commonDivisor D cI cJ g A p s m args meth c)  (hf : f_X1_commonDivisor x0 x2 = some o) {H : Heap} {locs : List Loc} (hP : va_P D vwCl ([] : va_W) H) (hD : va_D A ([] : va_W)) (hS : va_S A s.heap H locs) {ls : Array Slot} (hl : lv_has ls 11 [(0, .long x0), (2, .long x2)]) : W p l e (headSpec wsX1_commonDivisor rm_X1_commonDivisor).room s m args below meth c H locs 0 0 (MQ below (va_Ql (fun r (_ : Unit) => r = o) (pa_QB D A ([] : va_W)) A) args s 0 0 A) (F0 m 0 ls []) := by
  obtain ⟨hx, hb, hr, hml, hown, hts, hK, hA, hG, hlk⟩ := id X
  delta f_X1_commonDivisor at hf
  refine lv_lload_n hx hb dX1_commonDivisor_0 rfl (lv_at hl 0 rfl) ?_
  refine lv_lstore (lv' := [(4, .long x0), (0, .long x0), (2, .long x2)]) hx hb dX1_commonDivisor_1 hl (by decide) rfl (fun ls hl => ?_)
  refine lv_lload_n hx hb dX1_commonDivisor_3 rfl (lv_at hl 2 rfl) ?_
  refine lv_lstore (lv' := [(6, .long x2), (4, .long x0), (0, .long x0), (2, .long x2)]) hx hb dX1_commonDivisor_4 hl (by decide) rfl (fun ls hl => ?_)
  refine lv_iconst (v := (0 : Int32)) hx hb dX1_commonDivisor_6 (by decide) ?_
  refine lv_istore (lv' := [(8, .int (0 : Int32)), (6, .long x2), (4, .long x0), (0, .long x0), (2, .long x2)]) hx hb dX1_commonDivisor_7 hl (by decide) rfl (fun ls hl => ?_)
  exact w_X1_commonDivisor_L9 X  _ _ _ _ hf _ _  hP hD hS _ (lv_sub hl [2, 1, 0] rfl)
set_option maxHeartbeats 4000000 in
set_option maxRecDepth 100000 in
theorem c_X1_commonDivisor {l : Launch} {D : va_G} {cI cJ : ClassId} {g : pa_GT} {x0 : Int64} {x2 : Int64}  {o : Int64} (hf : f_X1_commonDivisor x0 x2 = some o) : pa_Ml l yX1_commonDivisor wsX1_commonDivisor rm_X1_commonDivisor D cI cJ g [.long x0, .long x2] ([] : va_W) ([] : va_W) o := by
  intro sz
  refine pa_met (cc := cX1_commonDivisor) (maxL := 11) (ret := (some .long)) (lv := [(0, .long x0), (2, .long x2)]) (by decide) rfl (Nat.le_of_ble_eq_true rfl) rfl ?_
  intro p e s m below meth c X hsz hP hD ls hl
  subst hsz
  exact w_X1_commonDivisor_b0 X hf hP hD va_S.rf hl
abbrev wo_X1_become (cI cJ : ClassId) (a_fr : Nat) (v_fr_upper : Int64) (v_fr_lower : Int64) : va_W := [(a_fr, .inr (1, [.long v_fr_upper, .long v_fr_lower]))]
abbrev rm_X1_become : Room := { frames := 1, cells := 0, slots := 0, locals := 30 }
theorem il_X1_become_X1 : ∀ w ∈ wsX10, w ∈ wsX1_become := by decide +kernel
theorem fk_X1_become_0 : Cond.methodLink RX1 18 Lib.MathLoose.abs_long.x ∈ wsX1_become := by decide +kernel
theorem fk_X1_become_1 : Cond.static Lib.MathLoose.abs_long.x ∈ wsX1_become := by decide +kernel
theorem fk_X1_become_2 : Cond.initialized "java/lang/Math" ∈ wsX1_become := by decide +kernel
theorem fk_X1_become_3 : Cond.code Lib.MathLoose.abs_long.x Lib.MathLoose.abs_long.code 2 (some .long) ∈ wsX1_become := by decide +kernel
theorem fk_X1_become_4 : Cond.fieldLink RX1 9 "PostedAsks$Fraction" "upper" "J" ∈ wsX1_become := by decide +kernel
theorem fk_X1_become_5 : Cond.fieldLink RX1 15 "PostedAsks$Fraction" "lower" "J" ∈ wsX1_become := by decide +kernel
def f_X1_become (x1 : Int64) (x3 : Int64) : Option (Int64 × Int64) :=
  (f_X1_commonDivisor (if 0 < x1 then x1 else -x1) x3).bind fun u_1 =>
  if (lg_cmp x3 (1 : Int64)) < 0 then
    some ((0 : Int64), (0 : Int64))
  else
    if 0 ≤ (lg_cmp u_1 (1 : Int64)) then
      if u_1 = 0 then none else
      if u_1 = 0 then none else
      some ((x1 / u_1), (x3 / u_1))
    else
      some ((0 : Int64), (0 : Int64))
set_option maxHeartbeats 4000000 in
set_option maxRecDepth 100000 in
theorem w_X1_become_b0 {l : Launch} {D : va_G} {cI cJ : ClassId} {g : pa_GT} {a_fr : Nat} {A : Nat → Prop} {p : Program} {e : Env} {s : State} {m : MethodId} {args : Array Value} {below : List Frame} {meth : Method} {c : Code} {x1 : Int64} {x3 : Int64} {v_fr_upper : Int64} {v_fr_lower : Int64} {o : Int64 × Int64} (X : pa_X cX1_become 7 none RX1 wsX1_become D cI cJ g A p s m args meth c)  (hf : f_X1_become x1 x3 = some o) {H : Heap} {locs : List Loc} (hP : va_P D vwCl (wo_X1_become cI cJ a_fr v_fr_upper v_fr_lower) H) (hD : va_D A (wo_X1_become cI cJ a_fr v_fr_upper v_fr_lower)) (hS : va_S A s.heap H locs) {ls : Array Slot} (hl : lv_has ls 7 [(0, .ref a_fr), (1, .long x1), (3, .long x3)]) : W p l e (headSpec wsX1_become rm_X1_become).room s m args below meth c H locs 0 0 (MQ below (va_Qv (fun (_ : Unit) => True) (pa_QB D A (wo_X1_become cI cJ a_fr o.1 o.2)) A) args s 0 0 A) (F0 m 0 ls []) := by
  obtain ⟨hx, hb, hr, hml, hown, hts, hK, hA, hG, hlk⟩ := id X
  delta f_X1_become at hf
  refine lv_lload_n hx hb dX1_become_0 rfl (lv_at hl 1 rfl) ?_
  refine va_mabs_long hx hb (hml.trans hl.1.symm) hown (hts _ fk_X1_become_0) (hts _ fk_X1_become_1) (hts _ fk_X1_become_2) (hts _ fk_X1_become_3) (Nat.le_of_ble_eq_true rfl) (Nat.le_of_ble_eq_true rfl) (Nat.zero_le _) (Nat.zero_le _) dX1_become_1 ?_
  refine lv_lload_n hx hb dX1_become_4 rfl (lv_at hl 2 rfl) ?_
  obtain ⟨u_1, hg_2, hf⟩ := pa_bd hf
  refine pa_kl (wc := ([] : va_W)) (wr := [(a_fr, .inr (1, [.long v_fr_upper, .long v_fr_lower]))]) (w1 := ([] : va_W)) (w2 := (wo_X1_become cI cJ a_fr v_fr_upper v_fr_lower)) X hP hD hS [] [0] [0] rfl (pa_rS (As := [.long (if 0 < x1 then x1 else -x1), .long x3]) (rest := []) X hP hD hS [] rfl rfl (c_X1_commonDivisor hg_2 H.size) (va_cwS 2 hts gX1_become_X1_commonDivisor rfl rfl rfl (by decide +kernel) ⟨Nat.le_of_ble_eq_true rfl, Nat.le_of_ble_eq_true rfl⟩) rfl hl.1 rfl (Nat.le_of_ble_eq_true rfl) dX1_become_5 ⟨Nat.zero_le _, Nat.zero_le _⟩) rfl rfl (by decide) rfl rfl (fun H locs hP hD hS => ?_)
  refine lv_lstore (lv' := [(5, .long u_1), (0, .ref a_fr), (1, .long x1), (3, .long x3)]) hx hb dX1_become_8 hl (by decide) rfl (fun ls hl => ?_)
  refine lv_lload_n hx hb dX1_become_10 rfl (lv_at hl 3 rfl) ?_
  refine lv_lconst (v := (1 : Int64)) hx hb dX1_become_11 (by decide) ?_
  refine W.lcmp hx hb dX1_become_12 ?_
  refine lv_if_lt (tgt := 23) hx hb dX1_become_13 (by decide) (fun c_3 => ?_) (fun c_3 => ?_)
  · have hf := (if_pos c_3).symm.trans hf
    refine lv_aload_n hx hb dX1_become_23 rfl (lv_at hl 1 rfl) ?_
    refine lv_lconst (v := (0 : Int64)) hx hb dX1_become_24 (by decide) ?_
    refine va_put (D := D) (ci := 1) (v := .long (0 : Int64)) (ty := .long) (C := RX1) (T := TX1) (N := 2) hx hb hts il_X1_become_X1 tyX1 tyX1_ok nmX1 hown hK hP hD hS 0 rfl rfl 0 (by decide) (hts _ fk_X1_become_4) (fun _ h9 => h9) rfl (tyX1_ok 0 (by decide)) rfl rfl (Nat.le_of_ble_eq_true rfl) dX1_become_25 (fun H locs hP hD hS => ?_)
    have hP : va_P D vwCl (wo_X1_become cI cJ a_fr (0 : Int64) v_fr_lower) H := hP
    have hD : va_D A (wo_X1_become cI cJ a_fr (0 : Int64) v_fr_lower) := hD
    refine lv_aload_n hx hb dX1_become_28 rfl (lv_at hl 1 rfl) ?_
    refine lv_lconst (v := (0 : Int64)) hx hb dX1_become_29 (by decide) ?_
    refine va_put (D := D) (ci := 1) (v := .long (0 : Int64)) (ty := .long) (C := RX1) (T := TX1) (N := 2) hx hb hts il_X1_become_X1 tyX1 tyX1_ok nmX1 hown hK hP hD hS 0 rfl rfl 1 (by decide) (hts _ fk_X1_become_5) (fun _ h9 => h9) rfl (tyX1_ok 1 (by decide)) rfl rfl (Nat.le_of_ble_eq_true rfl) dX1_become_30 (fun H locs hP hD hS => ?_)
    have hP : va_P D vwCl (wo_X1_become cI cJ a_fr (0 : Int64) (0 : Int64)) H := hP
    have hD : va_D A (wo_X1_become cI cJ a_fr (0 : Int64) (0 : Int64)) := hD
    obtain rfl := Option.some.inj hf
    exact pa_ev X hP hD hS dX1_become_33
  · have hf := (if_neg c_3).symm.trans hf
    refine lv_lload hx hb dX1_become_16 (lv_at hl 0 rfl) ?_
    refine lv_lconst (v := (1 : Int64)) hx hb dX1_become_18 (by decide) ?_
    refine W.lcmp hx hb dX1_become_19 ?_
    refine lv_if_ge (tgt := 34) hx hb dX1_become_20 (by decide) (fun c_4 => ?_) (fun c_4 => ?_)
    · have hf := (if_pos c_4).symm.trans hf
      refine lv_aload_n hx hb dX1_become_34 rfl (lv_at hl 1 rfl) ?_
      refine lv_lload_n hx hb dX1_become_35 rfl (lv_at hl 2 rfl) ?_
      refine lv_lload hx hb dX1_become_36 (lv_at hl 0 rfl) ?_
      obtain ⟨hz_5, hf⟩ := pa_dzl hf
      refine lv_ldiv hx hb dX1_become_38 hz_5 ?_
      refine va_put (D := D) (ci := 1) (v := .long (x1 / u_1)) (ty := .long) (C := RX1) (T := TX1) (N := 2) hx hb hts il_X1_become_X1 tyX1 tyX1_ok nmX1 hown hK hP hD hS 0 rfl rfl 0 (by decide) (hts _ fk_X1_become_4) (fun _ h9 => h9) rfl (tyX1_ok 0 (by decide)) rfl rfl (Nat.le_of_ble_eq_true rfl) dX1_become_39 (fun H locs hP hD hS => ?_)
      have hP : va_P D vwCl (wo_X1_become cI cJ a_fr (x1 / u_1) v_fr_lower) H := hP
      have hD : va_D A (wo_X1_become cI cJ a_fr (x1 / u_1) v_fr_lower) := hD
      refine lv_aload_n hx hb dX1_become_42 rfl (lv_at hl 1 rfl) ?_
      refine lv_lload_n hx hb dX1_become_43 rfl (lv_at hl 3 rfl) ?_
      refine lv_lload hx hb dX1_become_44 (lv_at hl 0 rfl) ?_
      obtain ⟨hz_6, hf⟩ := pa_dzl hf
      refine lv_ldiv hx hb dX1_become_46 hz_6 ?_
      refine va_put (D := D) (ci := 1) (v := .long (x3 / u_1)) (ty := .long) (C := RX1) (T := TX1) (N := 2) hx hb hts il_X1_become_X1 tyX1 tyX1_ok nmX1 hown hK hP hD hS 0 rfl rfl 1 (by decide) (hts _ fk_X1_become_5) (fun _ h9 => h9) rfl (tyX1_ok 1 (by decide)) rfl rfl (Nat.le_of_ble_eq_true rfl) dX1_become_47 (fun H locs hP hD hS => ?_)
      have hP : va_P D vwCl (wo_X1_become cI cJ a_fr (x1 / u_1) (x3 / u_1)) H := hP
      have hD : va_D A (wo_X1_become cI cJ a_fr (x1 / u_1) (x3 / u_1)) := hD
      obtain rfl := Option.some.inj hf
      exact pa_ev X hP hD hS dX1_become_50
    · have hf := (if_neg c_4).symm.trans hf
      refine lv_aload_n hx hb dX1_become_23 rfl (lv_at hl 1 rfl) ?_
      refine lv_lconst (v := (0 : Int64)) hx hb dX1_become_24 (by decide) ?_
      refine va_put (D := D) (ci := 1) (v := .long (0 : Int64)) (ty := .long) (C := RX1) (T := TX1) (N := 2) hx hb hts il_X1_become_X1 tyX1 tyX1_ok nmX1 hown hK hP hD hS 0 rfl rfl 0 (by decide) (hts _ fk_X1_become_4) (fun _ h9 => h9) rfl (tyX1_ok 0 (by decide)) rfl rfl (Nat.le_of_ble_eq_true rfl) dX1_become_25 (fun H locs hP hD hS => ?_)
      have hP : va_P D vwCl (wo_X1_become cI cJ a_fr (0 : Int64) v_fr_lower) H := hP
      have hD : va_D A (wo_X1_become cI cJ a_fr (0 : Int64) v_fr_lower) := hD
      refine lv_aload_n hx hb dX1_become_28 rfl (lv_at hl 1 rfl) ?_
      refine lv_lconst (v := (0 : Int64)) hx hb dX1_become_29 (by decide) ?_
      refine va_put (D := D) (ci := 1) (v := .long (0 : Int64)) (ty := .long) (C := RX1) (T := TX1) (N := 2) hx hb hts il_X1_become_X1 tyX1 tyX1_ok nmX1 hown hK hP hD hS 0 rfl rfl 1 (by decide) (hts _ fk_X1_become_5) (fun _ h9 => h9) rfl (tyX1_ok 1 (by decide)) rfl rfl (Nat.le_of_ble_eq_true rfl) dX1_become_30 (fun H locs hP hD hS => ?_)
      have hP : va_P D vwCl (wo_X1_become cI cJ a_fr (0 : Int64) (0 : Int64)) H := hP
      have hD : va_D A (wo_X1_become cI cJ a_fr (0 : Int64) (0 : Int64)) := hD
      obtain rfl := Option.some.inj hf
      exact pa_ev X hP hD hS dX1_become_33
set_option maxHeartbeats 4000000 in
set_option maxRecDepth 100000 in
theorem c_X1_become {l : Launch} {D : va_G} {cI cJ : ClassId} {g : pa_GT} {a_fr : Nat} {x1 : Int64} {x3 : Int64} {v_fr_upper : Int64} {v_fr_lower : Int64} {o : Int64 × Int64} (hf : f_X1_become x1 x3 = some o) : pa_Mv l yX1_become wsX1_become rm_X1_become D cI cJ g [.ref a_fr, .long x1, .long x3] (wo_X1_become cI cJ a_fr v_fr_upper v_fr_lower) (wo_X1_become cI cJ a_fr o.1 o.2) := by
  intro sz
  refine pa_met (cc := cX1_become) (maxL := 7) (ret := none) (lv := [(0, .ref a_fr), (1, .long x1), (3, .long x3)]) (by decide) rfl (Nat.le_of_ble_eq_true rfl) rfl ?_
  intro p e s m below meth c X hsz hP hD ls hl
  subst hsz
  exact w_X1_become_b0 X hf hP hD va_S.rf hl
abbrev wo_X1_add (cI cJ : ClassId) (a_fr : Nat) (v_fr_upper : Int64) (v_fr_lower : Int64) : va_W := [(a_fr, .inr (1, [.long v_fr_upper, .long v_fr_lower]))]
abbrev rm_X1_add : Room := { frames := 2, cells := 0, slots := 0, locals := 56 }
theorem il_X1_add_X1 : ∀ w ∈ wsX10, w ∈ wsX1_add := by decide +kernel
theorem fk_X1_add_0 : Cond.fieldLink RX1 9 "PostedAsks$Fraction" "upper" "J" ∈ wsX1_add := by decide +kernel
theorem fk_X1_add_1 : Cond.fieldLink RX1 15 "PostedAsks$Fraction" "lower" "J" ∈ wsX1_add := by decide +kernel
def f_X1_add (x1 : Int64) (x3 : Int64) (v_fr_upper : Int64) (v_fr_lower : Int64) : Option (Int64 × Int64) :=
  (f_X1_become ((v_fr_upper * x3) + (x1 * v_fr_lower)) (v_fr_lower * x3)).bind fun u_1 =>
  some (u_1.1, u_1.2)
set_option maxHeartbeats 4000000 in
set_option maxRecDepth 100000 in
theorem w_X1_add_b0 {l : Launch} {D : va_G} {cI cJ : ClassId} {g : pa_GT} {a_fr : Nat} {A : Nat → Prop} {p : Program} {e : Env} {s : State} {m : MethodId} {args : Array Value} {below : List Frame} {meth : Method} {c : Code} {x1 : Int64} {x3 : Int64} {v_fr_upper : Int64} {v_fr_lower : Int64}  {o : Int64 × Int64} (X : pa_X cX1_add 5 none RX1 wsX1_add D cI cJ g A p s m args meth c)  (hf : f_X1_add x1 x3 v_fr_upper v_fr_lower = some o) {H : Heap} {locs : List Loc} (hP : va_P D vwCl (wo_X1_add cI cJ a_fr v_fr_upper v_fr_lower) H) (hD : va_D A (wo_X1_add cI cJ a_fr v_fr_upper v_fr_lower)) (hS : va_S A s.heap H locs) {ls : Array Slot} (hl : lv_has ls 5 [(0, .ref a_fr), (1, .long x1), (3, .long x3)]) : W p l e (headSpec wsX1_add rm_X1_add).room s m args below meth c H locs 0 0 (MQ below (va_Qv (fun (_ : Unit) => True) (pa_QB D A (wo_X1_add cI cJ a_fr o.1 o.2)) A) args s 0 0 A) (F0 m 0 ls []) := by
  obtain ⟨hx, hb, hr, hml, hown, hts, hK, hA, hG, hlk⟩ := id X
  delta f_X1_add at hf
  refine lv_aload_n hx hb dX1_add_0 rfl (lv_at hl 0 rfl) ?_
  refine lv_aload_n hx hb dX1_add_1 rfl (lv_at hl 0 rfl) ?_
  refine va_get (D := D) (ci := 1) (v := .long v_fr_upper) (C := RX1) (T := TX1) (N := 2) hx hb hts il_X1_add_X1 hown hK hP 0 rfl rfl 0 (by decide) (hts _ fk_X1_add_0) (fun _ h9 => h9) rfl dX1_add_2 ?_
  refine lv_lload_n hx hb dX1_add_5 rfl (lv_at hl 2 rfl) ?_
  refine lv_lmul hx hb dX1_add_6 ?_
  refine lv_lload_n hx hb dX1_add_7 rfl (lv_at hl 1 rfl) ?_
  refine lv_aload_n hx hb dX1_add_8 rfl (lv_at hl 0 rfl) ?_
  refine va_get (D := D) (ci := 1) (v := .long v_fr_lower) (C := RX1) (T := TX1) (N := 2) hx hb hts il_X1_add_X1 hown hK hP 0 rfl rfl 1 (by decide) (hts _ fk_X1_add_1) (fun _ h9 => h9) rfl dX1_add_9 ?_
  refine lv_lmul hx hb dX1_add_12 ?_
  refine lv_ladd hx hb dX1_add_13 ?_
  refine lv_aload_n hx hb dX1_add_14 rfl (lv_at hl 0 rfl) ?_
  refine va_get (D := D) (ci := 1) (v := .long v_fr_lower) (C := RX1) (T := TX1) (N := 2) hx hb hts il_X1_add_X1 hown hK hP 0 rfl rfl 1 (by decide) (hts _ fk_X1_add_1) (fun _ h9 => h9) rfl dX1_add_15 ?_
  refine lv_lload_n hx hb dX1_add_18 rfl (lv_at hl 2 rfl) ?_
  refine lv_lmul hx hb dX1_add_19 ?_
  obtain ⟨u_1, hg_2, hf⟩ := pa_bd hf
  refine pa_kv (wc := (wo_X1_become cI cJ a_fr v_fr_upper v_fr_lower)) (wr := ([] : va_W)) (w1 := (wo_X1_become cI cJ a_fr u_1.1 u_1.2)) (w2 := (wo_X1_add cI cJ a_fr u_1.1 u_1.2)) X hP hD hS [0] [] [0] rfl (pa_rV (As := [.long ((v_fr_upper * x3) + (x1 * v_fr_lower)), .long (v_fr_lower * x3)]) (rest := []) (T := TX1) X hP hD hS [0] rfl rfl (c_X1_become hg_2 H.size) (cwV 2 hts gX1_add_X1_become rfl rfl rfl (by decide +kernel) ⟨Nat.le_of_ble_eq_true rfl, Nat.le_of_ble_eq_true rfl⟩) (q0 := 0) rfl rfl rfl hl.1 rfl (Nat.le_of_ble_eq_true rfl) dX1_add_20 ⟨Nat.zero_le _, Nat.zero_le _⟩) rfl rfl (by decide) rfl rfl (fun H locs hP hD hS => ?_)
  obtain rfl := Option.some.inj hf
  exact pa_ev X hP hD hS dX1_add_23
set_option maxHeartbeats 4000000 in
set_option maxRecDepth 100000 in
theorem c_X1_add {l : Launch} {D : va_G} {cI cJ : ClassId} {g : pa_GT} {a_fr : Nat} {x1 : Int64} {x3 : Int64} {v_fr_upper : Int64} {v_fr_lower : Int64} {o : Int64 × Int64} (hf : f_X1_add x1 x3 v_fr_upper v_fr_lower = some o) : pa_Mv l yX1_add wsX1_add rm_X1_add D cI cJ g [.ref a_fr, .long x1, .long x3] (wo_X1_add cI cJ a_fr v_fr_upper v_fr_lower) (wo_X1_add cI cJ a_fr o.1 o.2) := by
  intro sz
  refine pa_met (cc := cX1_add) (maxL := 5) (ret := none) (lv := [(0, .ref a_fr), (1, .long x1), (3, .long x3)]) (by decide) rfl (Nat.le_of_ble_eq_true rfl) rfl ?_
  intro p e s m below meth c X hsz hP hD ls hl
  subst hsz
  exact w_X1_add_b0 X hf hP hD va_S.rf hl
abbrev wo_X1_isThere (cI cJ : ClassId) (a_fr : Nat) (v_fr_upper : Int64) (v_fr_lower : Int64) : va_W := [(a_fr, .inr (1, [.long v_fr_upper, .long v_fr_lower]))]
abbrev rm_X1_isThere : Room := { frames := 0, cells := 0, slots := 0, locals := 0 }
theorem il_X1_isThere_X1 : ∀ w ∈ wsX10, w ∈ wsX1_isThere := by decide +kernel
theorem fk_X1_isThere_0 : Cond.fieldLink RX1 15 "PostedAsks$Fraction" "lower" "J" ∈ wsX1_isThere := by decide +kernel
def f_X1_isThere (v_fr_lower : Int64) : Option (Int32) :=
  if (lg_cmp v_fr_lower (0 : Int64)) ≤ 0 then
    some ((0 : Int32))
  else
    some ((1 : Int32))
set_option maxHeartbeats 4000000 in
set_option maxRecDepth 100000 in
theorem w_X1_isThere_b0 {l : Launch} {D : va_G} {cI cJ : ClassId} {g : pa_GT} {a_fr : Nat} {A : Nat → Prop} {p : Program} {e : Env} {s : State} {m : MethodId} {args : Array Value} {below : List Frame} {meth : Method} {c : Code} {v_fr_lower : Int64} {v_fr_upper : Int64} {o : Int32} (X : pa_X cX1_isThere 1 (some .boolean) RX1 wsX1_isThere D cI cJ g A p s m args meth c)  (hf : f_X1_isThere v_fr_lower = some o) {H : Heap} {locs : List Loc} (hP : va_P D vwCl (wo_X1_isThere cI cJ a_fr v_fr_upper v_fr_lower) H) (hD : va_D A (wo_X1_isThere cI cJ a_fr v_fr_upper v_fr_lower)) (hS : va_S A s.heap H locs) {ls : Array Slot} (hl : lv_has ls 1 [(0, .ref a_fr)]) : W p l e (headSpec wsX1_isThere rm_X1_isThere).room s m args below meth c H locs 0 0 (MQ below (va_Qi (fun r (_ : Unit) => r = o) (pa_QB D A (wo_X1_isThere cI cJ a_fr v_fr_upper v_fr_lower)) A) args s 0 0 A) (F0 m 0 ls []) := by
  obtain ⟨hx, hb, hr, hml, hown, hts, hK, hA, hG, hlk⟩ := id X
  delta f_X1_isThere at hf
  refine lv_aload_n hx hb dX1_isThere_0 rfl (lv_at hl 0 rfl) ?_
  refine va_get (D := D) (ci := 1) (v := .long v_fr_lower) (C := RX1) (T := TX1) (N := 2) hx hb hts il_X1_isThere_X1 hown hK hP 0 rfl rfl 1 (by decide) (hts _ fk_X1_isThere_0) (fun _ h9 => h9) rfl dX1_isThere_1 ?_
  refine lv_lconst (v := (0 : Int64)) hx hb dX1_isThere_4 (by decide) ?_
  refine W.lcmp hx hb dX1_isThere_5 ?_
  refine lv_if_le (tgt := 13) hx hb dX1_isThere_6 (by decide) (fun c_1 => ?_) (fun c_1 => ?_)
  · have hf := (if_pos c_1).symm.trans hf
    refine lv_iconst (v := (0 : Int32)) hx hb dX1_isThere_13 (by decide) ?_
    obtain rfl := Option.some.inj hf
    exact pa_ez (v := (0 : Int32)) X hP hD hS rfl dX1_isThere_14
  · have hf := (if_neg c_1).symm.trans hf
    refine lv_iconst (v := (1 : Int32)) hx hb dX1_isThere_9 (by decide) ?_
    refine lv_goto (tgt := 14) hx hb dX1_isThere_10 (by decide) ?_
    obtain rfl := Option.some.inj hf
    exact pa_ez (v := (1 : Int32)) X hP hD hS rfl dX1_isThere_14
set_option maxHeartbeats 4000000 in
set_option maxRecDepth 100000 in
theorem c_X1_isThere {l : Launch} {D : va_G} {cI cJ : ClassId} {g : pa_GT} {a_fr : Nat}  {v_fr_upper : Int64} {v_fr_lower : Int64} {o : Int32} (hf : f_X1_isThere v_fr_lower = some o) : pa_Mi l yX1_isThere wsX1_isThere rm_X1_isThere D cI cJ g [.ref a_fr] (wo_X1_isThere cI cJ a_fr v_fr_upper v_fr_lower) (wo_X1_isThere cI cJ a_fr v_fr_upper v_fr_lower) o := by
  intro sz
  refine pa_met (cc := cX1_isThere) (maxL := 1) (ret := (some .boolean)) (lv := [(0, .ref a_fr)]) (by decide) rfl (Nat.le_of_ble_eq_true rfl) rfl ?_
  intro p e s m below meth c X hsz hP hD ls hl
  subst hsz
  exact w_X1_isThere_b0 X hf hP hD va_S.rf hl
abbrev wo_X1_part (cI cJ : ClassId) (a_fr : Nat) (v_fr_upper : Int64) (v_fr_lower : Int64) : va_W := [(a_fr, .inr (1, [.long v_fr_upper, .long v_fr_lower]))]
abbrev rm_X1_part : Room := { frames := 1, cells := 0, slots := 0, locals := 20 }
theorem il_X1_part_X1 : ∀ w ∈ wsX10, w ∈ wsX1_part := by decide +kernel
theorem fk_X1_part_0 : Cond.fieldLink RX1 15 "PostedAsks$Fraction" "lower" "J" ∈ wsX1_part := by decide +kernel
theorem fk_X1_part_1 : Cond.fieldLink RX1 9 "PostedAsks$Fraction" "upper" "J" ∈ wsX1_part := by decide +kernel
theorem fk_X1_part_2 : Cond.constantLong RX1 36 (-1000000000000000000) ∈ wsX1_part := by decide +kernel
def f_X1_part (x1 : Int32) (v_fr_upper : Int64) (v_fr_lower : Int64) : Option (Int64) :=
  (f_X1_isThere v_fr_lower).bind fun u_1 =>
  if u_1 = 0 then
    some ((-1000000000000000000 : Int64))
  else
    if x1 = 0 then
      some (v_fr_upper)
    else
      some (v_fr_lower)
set_option maxHeartbeats 4000000 in
set_option maxRecDepth 100000 in
theorem w_X1_part_b0 {l : Launch} {D : va_G} {cI cJ : ClassId} {g : pa_GT} {a_fr : Nat} {A : Nat → Prop} {p : Program} {e : Env} {s : State} {m : MethodId} {args : Array Value} {below : List Frame} {meth : Method} {c : Code} {x1 : Int32} {v_fr_upper : Int64} {v_fr_lower : Int64}  {o : Int64} (X : pa_X cX1_part 2 (some .long) RX1 wsX1_part D cI cJ g A p s m args meth c)  (hf : f_X1_part x1 v_fr_upper v_fr_lower = some o) {H : Heap} {locs : List Loc} (hP : va_P D vwCl (wo_X1_part cI cJ a_fr v_fr_upper v_fr_lower) H) (hD : va_D A (wo_X1_part cI cJ a_fr v_fr_upper v_fr_lower)) (hS : va_S A s.heap H locs) {ls : Array Slot} (hl : lv_has ls 2 [(0, .ref a_fr), (1, .int x1)]) : W p l e (headSpec wsX1_part rm_X1_part).room s m args below meth c H locs 0 0 (MQ below (va_Ql (fun r (_ : Unit) => r = o) (pa_QB D A (wo_X1_part cI cJ a_fr v_fr_upper v_fr_lower)) A) args s 0 0 A) (F0 m 0 ls []) := by
  obtain ⟨hx, hb, hr, hml, hown, hts, hK, hA, hG, hlk⟩ := id X
  delta f_X1_part at hf
  refine lv_aload_n hx hb dX1_part_0 rfl (lv_at hl 0 rfl) ?_
  obtain ⟨u_1, hg_2, hf⟩ := pa_bd hf
  refine pa_ki (wc := (wo_X1_isThere cI cJ a_fr v_fr_upper v_fr_lower)) (wr := ([] : va_W)) (w1 := (wo_X1_isThere cI cJ a_fr v_fr_upper v_fr_lower)) (w2 := (wo_X1_part cI cJ a_fr v_fr_upper v_fr_lower)) X hP hD hS [0] [] [0] rfl (pa_rV (As := []) (rest := []) (T := TX1) X hP hD hS [0] rfl rfl (c_X1_isThere hg_2 H.size) (cwV 0 hts gX1_part_X1_isThere rfl rfl rfl (by decide +kernel) ⟨Nat.le_of_ble_eq_true rfl, Nat.le_of_ble_eq_true rfl⟩) (q0 := 0) rfl rfl rfl hl.1 rfl (Nat.le_of_ble_eq_true rfl) dX1_part_1 ⟨Nat.zero_le _, Nat.zero_le _⟩) rfl rfl (by decide) rfl rfl (fun H locs hP hD hS => ?_)
  refine lv_if_ne (tgt := 11) hx hb dX1_part_4 (by decide) (fun c_3 => ?_) (fun c_3 => ?_)
  · have hf := (if_neg c_3).symm.trans hf
    refine lv_iload_n hx hb dX1_part_11 rfl (lv_at hl 1 rfl) ?_
    refine lv_if_ne (tgt := 22) hx hb dX1_part_12 (by decide) (fun c_4 => ?_) (fun c_4 => ?_)
    · have hf := (if_neg c_4).symm.trans hf
      refine lv_aload_n hx hb dX1_part_22 rfl (lv_at hl 0 rfl) ?_
      refine va_get (D := D) (ci := 1) (v := .long v_fr_lower) (C := RX1) (T := TX1) (N := 2) hx hb hts il_X1_part_X1 hown hK hP 0 rfl rfl 1 (by decide) (hts _ fk_X1_part_0) (fun _ h9 => h9) rfl dX1_part_23 ?_
      obtain rfl := Option.some.inj hf
      exact pa_el X hP hD hS dX1_part_26
    · have hf := (if_pos c_4).symm.trans hf
      refine lv_aload_n hx hb dX1_part_15 rfl (lv_at hl 0 rfl) ?_
      refine va_get (D := D) (ci := 1) (v := .long v_fr_upper) (C := RX1) (T := TX1) (N := 2) hx hb hts il_X1_part_X1 hown hK hP 0 rfl rfl 0 (by decide) (hts _ fk_X1_part_1) (fun _ h9 => h9) rfl dX1_part_16 ?_
      refine lv_goto (tgt := 26) hx hb dX1_part_19 (by decide) ?_
      obtain rfl := Option.some.inj hf
      exact pa_el X hP hD hS dX1_part_26
  · have hf := (if_pos c_3).symm.trans hf
    refine lv_ldc2 (v := (-1000000000000000000 : Int64)) hx hb hown (hts _ fk_X1_part_2) dX1_part_7 ?_
    obtain rfl := Option.some.inj hf
    exact pa_el X hP hD hS dX1_part_10
set_option maxHeartbeats 4000000 in
set_option maxRecDepth 100000 in
theorem c_X1_part {l : Launch} {D : va_G} {cI cJ : ClassId} {g : pa_GT} {a_fr : Nat} {x1 : Int32} {v_fr_upper : Int64} {v_fr_lower : Int64} {o : Int64} (hf : f_X1_part x1 v_fr_upper v_fr_lower = some o) : pa_Ml l yX1_part wsX1_part rm_X1_part D cI cJ g [.ref a_fr, .int x1] (wo_X1_part cI cJ a_fr v_fr_upper v_fr_lower) (wo_X1_part cI cJ a_fr v_fr_upper v_fr_lower) o := by
  intro sz
  refine pa_met (cc := cX1_part) (maxL := 2) (ret := (some .long)) (lv := [(0, .ref a_fr), (1, .int x1)]) (by decide) rfl (Nat.le_of_ble_eq_true rfl) rfl ?_
  intro p e s m below meth c X hsz hP hD ls hl
  subst hsz
  exact w_X1_part_b0 X hf hP hD va_S.rf hl
abbrev wo_X1_hundredthsUp (cI cJ : ClassId) (a_fr : Nat) (v_fr_upper : Int64) (v_fr_lower : Int64) : va_W := [(a_fr, .inr (1, [.long v_fr_upper, .long v_fr_lower]))]
abbrev rm_X1_hundredthsUp : Room := { frames := 1, cells := 0, slots := 0, locals := 20 }
theorem il_X1_hundredthsUp_X1 : ∀ w ∈ wsX10, w ∈ wsX1_hundredthsUp := by decide +kernel
theorem fk_X1_hundredthsUp_0 : Cond.fieldLink RX1 9 "PostedAsks$Fraction" "upper" "J" ∈ wsX1_hundredthsUp := by decide +kernel
theorem fk_X1_hundredthsUp_1 : Cond.methodLink RX1 18 Lib.MathLoose.abs_long.x ∈ wsX1_hundredthsUp := by decide +kernel
theorem fk_X1_hundredthsUp_2 : Cond.static Lib.MathLoose.abs_long.x ∈ wsX1_hundredthsUp := by decide +kernel
theorem fk_X1_hundredthsUp_3 : Cond.initialized "java/lang/Math" ∈ wsX1_hundredthsUp := by decide +kernel
theorem fk_X1_hundredthsUp_4 : Cond.code Lib.MathLoose.abs_long.x Lib.MathLoose.abs_long.code 2 (some .long) ∈ wsX1_hundredthsUp := by decide +kernel
theorem fk_X1_hundredthsUp_5 : Cond.constantLong RX1 38 (100) ∈ wsX1_hundredthsUp := by decide +kernel
theorem fk_X1_hundredthsUp_6 : Cond.fieldLink RX1 15 "PostedAsks$Fraction" "lower" "J" ∈ wsX1_hundredthsUp := by decide +kernel
def f_X1_hundredthsUp (v_fr_upper : Int64) (v_fr_lower : Int64) : Option (Int32) :=
  (f_X1_isThere v_fr_lower).bind fun u_1 =>
  if u_1 = 0 then
    some ((0 : Int32))
  else
    if v_fr_lower = 0 then none else
    some ((Int64.toInt32 (((((if 0 < v_fr_upper then v_fr_upper else -v_fr_upper) * (100 : Int64)) + v_fr_lower) - (1 : Int64)) / v_fr_lower)))
set_option maxHeartbeats 4000000 in
set_option maxRecDepth 100000 in
theorem w_X1_hundredthsUp_b0 {l : Launch} {D : va_G} {cI cJ : ClassId} {g : pa_GT} {a_fr : Nat} {A : Nat → Prop} {p : Program} {e : Env} {s : State} {m : MethodId} {args : Array Value} {below : List Frame} {meth : Method} {c : Code} {v_fr_upper : Int64} {v_fr_lower : Int64}  {o : Int32} (X : pa_X cX1_hundredthsUp 1 (some .int) RX1 wsX1_hundredthsUp D cI cJ g A p s m args meth c)  (hf : f_X1_hundredthsUp v_fr_upper v_fr_lower = some o) {H : Heap} {locs : List Loc} (hP : va_P D vwCl (wo_X1_hundredthsUp cI cJ a_fr v_fr_upper v_fr_lower) H) (hD : va_D A (wo_X1_hundredthsUp cI cJ a_fr v_fr_upper v_fr_lower)) (hS : va_S A s.heap H locs) {ls : Array Slot} (hl : lv_has ls 1 [(0, .ref a_fr)]) : W p l e (headSpec wsX1_hundredthsUp rm_X1_hundredthsUp).room s m args below meth c H locs 0 0 (MQ below (va_Qi (fun r (_ : Unit) => r = o) (pa_QB D A (wo_X1_hundredthsUp cI cJ a_fr v_fr_upper v_fr_lower)) A) args s 0 0 A) (F0 m 0 ls []) := by
  obtain ⟨hx, hb, hr, hml, hown, hts, hK, hA, hG, hlk⟩ := id X
  delta f_X1_hundredthsUp at hf
  refine lv_aload_n hx hb dX1_hundredthsUp_0 rfl (lv_at hl 0 rfl) ?_
  obtain ⟨u_1, hg_2, hf⟩ := pa_bd hf
  refine pa_ki (wc := (wo_X1_isThere cI cJ a_fr v_fr_upper v_fr_lower)) (wr := ([] : va_W)) (w1 := (wo_X1_isThere cI cJ a_fr v_fr_upper v_fr_lower)) (w2 := (wo_X1_hundredthsUp cI cJ a_fr v_fr_upper v_fr_lower)) X hP hD hS [0] [] [0] rfl (pa_rV (As := []) (rest := []) (T := TX1) X hP hD hS [0] rfl rfl (c_X1_isThere hg_2 H.size) (cwV 0 hts gX1_hundredthsUp_X1_isThere rfl rfl rfl (by decide +kernel) ⟨Nat.le_of_ble_eq_true rfl, Nat.le_of_ble_eq_true rfl⟩) (q0 := 0) rfl rfl rfl hl.1 rfl (Nat.le_of_ble_eq_true rfl) dX1_hundredthsUp_1 ⟨Nat.zero_le _, Nat.zero_le _⟩) rfl rfl (by decide) rfl rfl (fun H locs hP hD hS => ?_)
  refine lv_if_eq (tgt := 34) hx hb dX1_hundredthsUp_4 (by decide) (fun c_3 => ?_) (fun c_3 => ?_)
  · have hf := (if_pos c_3).symm.trans hf
    refine lv_iconst (v := (0 : Int32)) hx hb dX1_hundredthsUp_34 (by decide) ?_
    obtain rfl := Option.some.inj hf
    exact pa_ei X hP hD hS dX1_hundredthsUp_35
  · have hf := (if_neg c_3).symm.trans hf
    refine lv_aload_n hx hb dX1_hundredthsUp_7 rfl (lv_at hl 0 rfl) ?_
    refine va_get (D := D) (ci := 1) (v := .long v_fr_upper) (C := RX1) (T := TX1) (N := 2) hx hb hts il_X1_hundredthsUp_X1 hown hK hP 0 rfl rfl 0 (by decide) (hts _ fk_X1_hundredthsUp_0) (fun _ h9 => h9) rfl dX1_hundredthsUp_8 ?_
    refine va_mabs_long hx hb (hml.trans hl.1.symm) hown (hts _ fk_X1_hundredthsUp_1) (hts _ fk_X1_hundredthsUp_2) (hts _ fk_X1_hundredthsUp_3) (hts _ fk_X1_hundredthsUp_4) (Nat.le_of_ble_eq_true rfl) (Nat.le_of_ble_eq_true rfl) (Nat.zero_le _) (Nat.zero_le _) dX1_hundredthsUp_11 ?_
    refine lv_ldc2 (v := (100 : Int64)) hx hb hown (hts _ fk_X1_hundredthsUp_5) dX1_hundredthsUp_14 ?_
    refine lv_lmul hx hb dX1_hundredthsUp_17 ?_
    refine lv_aload_n hx hb dX1_hundredthsUp_18 rfl (lv_at hl 0 rfl) ?_
    refine va_get (D := D) (ci := 1) (v := .long v_fr_lower) (C := RX1) (T := TX1) (N := 2) hx hb hts il_X1_hundredthsUp_X1 hown hK hP 0 rfl rfl 1 (by decide) (hts _ fk_X1_hundredthsUp_6) (fun _ h9 => h9) rfl dX1_hundredthsUp_19 ?_
    refine lv_ladd hx hb dX1_hundredthsUp_22 ?_
    refine lv_lconst (v := (1 : Int64)) hx hb dX1_hundredthsUp_23 (by decide) ?_
    refine lv_lsub hx hb dX1_hundredthsUp_24 ?_
    refine lv_aload_n hx hb dX1_hundredthsUp_25 rfl (lv_at hl 0 rfl) ?_
    refine va_get (D := D) (ci := 1) (v := .long v_fr_lower) (C := RX1) (T := TX1) (N := 2) hx hb hts il_X1_hundredthsUp_X1 hown hK hP 0 rfl rfl 1 (by decide) (hts _ fk_X1_hundredthsUp_6) (fun _ h9 => h9) rfl dX1_hundredthsUp_26 ?_
    obtain ⟨hz_4, hf⟩ := pa_dzl hf
    refine lv_ldiv hx hb dX1_hundredthsUp_29 hz_4 ?_
    refine lv_l2i (v := (Int64.toInt32 (((((if 0 < v_fr_upper then v_fr_upper else -v_fr_upper) * (100 : Int64)) + v_fr_lower) - (1 : Int64)) / v_fr_lower))) hx hb dX1_hundredthsUp_30 rfl ?_
    refine lv_goto (tgt := 35) hx hb dX1_hundredthsUp_31 (by decide) ?_
    obtain rfl := Option.some.inj hf
    exact pa_ei X hP hD hS dX1_hundredthsUp_35
set_option maxHeartbeats 4000000 in
set_option maxRecDepth 100000 in
theorem c_X1_hundredthsUp {l : Launch} {D : va_G} {cI cJ : ClassId} {g : pa_GT} {a_fr : Nat}  {v_fr_upper : Int64} {v_fr_lower : Int64} {o : Int32} (hf : f_X1_hundredthsUp v_fr_upper v_fr_lower = some o) : pa_Mi l yX1_hundredthsUp wsX1_hundredthsUp rm_X1_hundredthsUp D cI cJ g [.ref a_fr] (wo_X1_hundredthsUp cI cJ a_fr v_fr_upper v_fr_lower) (wo_X1_hundredthsUp cI cJ a_fr v_fr_upper v_fr_lower) o := by
  intro sz
  refine pa_met (cc := cX1_hundredthsUp) (maxL := 1) (ret := (some .int)) (lv := [(0, .ref a_fr)]) (by decide) rfl (Nat.le_of_ble_eq_true rfl) rfl ?_
  intro p e s m below meth c X hsz hP hD ls hl
  subst hsz
  exact w_X1_hundredthsUp_b0 X hf hP hD va_S.rf hl
