abbrev wo_X4_of (cI cJ : ClassId) (a_la a_lc a_lr : Nat) (v_lc : Nat → Int32) : va_W := [(a_la, .inr (4, [.ref a_lc, .ref a_lr])), (a_lc, .inl (cI, 32, .inl v_lc))]
abbrev rm_X4_of : Room := { frames := 0, cells := 0, slots := 0, locals := 0 }
theorem il_X4_of_X4 : ∀ w ∈ wsX40, w ∈ wsX4_of := by decide +kernel
theorem fk_X4_of_0 : Cond.fieldLink RX4 9 "PostedAsks$Lands" "counts" "[I" ∈ wsX4_of := by decide +kernel
def f_X4_of (x1 : Int32) (x2 : Int32) (v_lc : Nat → Int32) : Option (Int32) :=
  if pa_ib (((x1 * (8 : Int32)) + x2)) 32 = true then
    some ((v_lc (Int32.toNatClampNeg (((x1 * (8 : Int32)) + x2)))))
  else none
set_option maxHeartbeats 4000000 in
set_option maxRecDepth 100000 in
theorem w_X4_of_b0 {l : Launch} {D : va_G} {cI cJ : ClassId} {g : pa_GT} {a_la a_lc a_lr : Nat} {A : Nat → Prop} {p : Program} {e : Env} {s : State} {m : MethodId} {args : Array Value} {below : List Frame} {meth : Method} {c : Code} {x1 : Int32} {x2 : Int32} {v_lc : Nat → Int32}  {o : Int32} (X : pa_X cX4_of 3 (some .int) RX4 wsX4_of D cI cJ g A p s m args meth c)  (hf : f_X4_of x1 x2 v_lc = some o) {H : Heap} {locs : List Loc} (hP : va_P D vwCl (wo_X4_of cI cJ a_la a_lc a_lr v_lc) H) (hD : va_D A (wo_X4_of cI cJ a_la a_lc a_lr v_lc)) (hS : va_S A s.heap H locs) {ls : Array Slot} (hl : lv_has ls 3 [(0, .ref a_la), (1, .int x1), (2, .int x2)]) : W p l e (headSpec wsX4_of rm_X4_of).room s m args below meth c H locs 0 0 (MQ below (va_Qi (fun r (_ : Unit) => r = o) (pa_QB D A (wo_X4_of cI cJ a_la a_lc a_lr v_lc)) A) args s 0 0 A) (F0 m 0 ls []) := by
  obtain ⟨hx, hb, hr, hml, hown, hts, hK, hA, hG, hlk⟩ := id X
  delta f_X4_of at hf
  refine lv_aload_n hx hb dX4_of_0 rfl (lv_at hl 0 rfl) ?_
  refine va_get (D := D) (ci := 4) (v := .ref a_lc) (C := RX4) (T := TX4) (N := 2) hx hb hts il_X4_of_X4 hown hK hP 0 rfl rfl 0 (by decide) (hts _ fk_X4_of_0) (fun _ h9 => h9) rfl dX4_of_1 ?_
  refine lv_iload_n hx hb dX4_of_4 rfl (lv_at hl 1 rfl) ?_
  refine lv_bipush (v := (8 : Int32)) hx hb dX4_of_5 (by decide) ?_
  refine lv_imul hx hb dX4_of_7 ?_
  refine lv_iload_n hx hb dX4_of_8 rfl (lv_at hl 2 rfl) ?_
  refine lv_iadd hx hb dX4_of_9 ?_
  obtain ⟨hi_1, hf⟩ := pa_gd hf
  refine va_iald hx hb hK hP 1 0 rfl rfl hi_1 dX4_of_10 ?_
  cases hf
  exact pa_ei X hP hD hS dX4_of_11
set_option maxHeartbeats 4000000 in
set_option maxRecDepth 100000 in
theorem c_X4_of {l : Launch} {D : va_G} {cI cJ : ClassId} {g : pa_GT} {a_la a_lc a_lr : Nat} {x1 : Int32} {x2 : Int32} {v_lc : Nat → Int32} {o : Int32} (hf : f_X4_of x1 x2 v_lc = some o) : pa_Mi l yX4_of wsX4_of rm_X4_of D cI cJ g [.ref a_la, .int x1, .int x2] (wo_X4_of cI cJ a_la a_lc a_lr v_lc) (wo_X4_of cI cJ a_la a_lc a_lr v_lc) o := by
  intro sz
  refine pa_met (cc := cX4_of) (maxL := 3) (ret := (some .int)) (lv := [(0, .ref a_la), (1, .int x1), (2, .int x2)]) (by decide) rfl (Nat.le_of_ble_eq_true rfl) rfl ?_
  intro p e s m below meth c X hsz hP hD ls hl
  subst hsz
  exact w_X4_of_b0 X hf hP hD va_S.rf hl
abbrev wo_X4_matching (cI cJ : ClassId) (a_la a_lc a_lr : Nat) (v_lc : Nat → Int32) : va_W := [(a_la, .inr (4, [.ref a_lc, .ref a_lr])), (a_lc, .inl (cI, 32, .inl v_lc))]
abbrev rm_X4_matching : Room := { frames := 1, cells := 0, slots := 0, locals := 22 }
def f_X4_matching_L6_body (x1 : Int32) (x2 : Int32) (x3 : Int32) (v_lc : Nat → Int32) (rec6 : Int32 → Int32 → Option (Int32)) (x4 : Int32) (x5 : Int32) : Option (Int32) :=
  if (8 : Int32) ≤ x5 then
    some (x4)
  else
    if (x5 &&& x2) = x3 then
      (f_X4_of x1 x5 v_lc).bind fun u_3 =>
      rec6 ((x4 + u_3)) ((x5 + (1 : Int32)))
    else
      rec6 x4 ((x5 + (1 : Int32)))
def f_X4_matching_L6 (x1 : Int32) (x2 : Int32) (x3 : Int32) (v_lc : Nat → Int32) : Nat → Int32 → Int32 → Option (Int32)
  | 0 => fun _ _ => none
  | n + 1 => f_X4_matching_L6_body x1 x2 x3 v_lc (f_X4_matching_L6 x1 x2 x3 v_lc n)
def f_X4_matching (x1 : Int32) (x2 : Int32) (x3 : Int32) (v_lc : Nat → Int32) : Option (Int32) :=
  f_X4_matching_L6 x1 x2 x3 v_lc pa_fu ((0 : Int32)) ((0 : Int32))
set_option maxHeartbeats 4000000 in
set_option maxRecDepth 100000 in
theorem w_X4_matching_L6 {l : Launch} {D : va_G} {cI cJ : ClassId} {g : pa_GT} {a_la a_lc a_lr : Nat} {A : Nat → Prop} {p : Program} {e : Env} {s : State} {m : MethodId} {args : Array Value} {below : List Frame} {meth : Method} {c : Code} {x1 : Int32} {x2 : Int32} {x3 : Int32} {v_lc : Nat → Int32}  {o : Int32} (X : pa_X cX4_matching 6 (some .int) RX4 wsX4_matching D cI cJ g A p s m args meth c)  : ∀ (n : Nat) (x4 : Int32) (x5 : Int32), f_X4_matching_L6 x1 x2 x3 v_lc n x4 x5 = some o → ∀ (H : Heap) (locs : List Loc) , va_P D vwCl (wo_X4_matching cI cJ a_la a_lc a_lr v_lc) H → va_D A (wo_X4_matching cI cJ a_la a_lc a_lr v_lc) → va_S A s.heap H locs → ∀ (ls : Array Slot), lv_has ls 6 [(0, .ref a_la), (1, .int x1), (2, .int x2), (3, .int x3), (4, .int x4), (5, .int x5)] → W p l e (headSpec wsX4_matching rm_X4_matching).room s m args below meth c H locs 0 0 (MQ below (va_Qi (fun r (_ : Unit) => r = o) (pa_QB D A (wo_X4_matching cI cJ a_la a_lc a_lr v_lc)) A) args s 0 0 A) (F0 m 6 ls []) := by
  obtain ⟨hx, hb, hr, hml, hown, hts, hK, hA, hG, hlk⟩ := id X
  intro n
  induction n with
  | zero =>
    intro x4 x5 hf
    have hf : (none : Option (Int32)) = some o := hf
    cases hf
  | succ n hrec6 =>
    intro x4 x5 hf H locs  hP hD hS ls hl
    have hf : f_X4_matching_L6_body x1 x2 x3 v_lc (f_X4_matching_L6 x1 x2 x3 v_lc n) x4 x5 = some o := hf
    delta f_X4_matching_L6_body at hf
    generalize hgr : f_X4_matching_L6 x1 x2 x3 v_lc n = rec6 at hf hrec6
    refine lv_iload hx hb dX4_matching_6 (lv_at hl 5 rfl) ?_
    refine lv_bipush (v := (8 : Int32)) hx hb dX4_matching_8 (by decide) ?_
    refine lv_icmp_ge (tgt := 39) hx hb dX4_matching_10 (by decide) (fun c_1 => ?_) (fun c_1 => ?_)
    · have hf := (if_pos c_1).symm.trans hf
      refine lv_iload hx hb dX4_matching_39 (lv_at hl 4 rfl) ?_
      cases hf
      exact pa_ei X hP hD hS dX4_matching_41
    · have hf := (if_neg c_1).symm.trans hf
      refine lv_iload hx hb dX4_matching_13 (lv_at hl 5 rfl) ?_
      refine lv_iload_n hx hb dX4_matching_15 rfl (lv_at hl 2 rfl) ?_
      refine lv_iand hx hb dX4_matching_16 ?_
      refine lv_iload_n hx hb dX4_matching_17 rfl (lv_at hl 3 rfl) ?_
      refine lv_icmp_ne (tgt := 33) hx hb dX4_matching_18 (by decide) (fun c_2 => ?_) (fun c_2 => ?_)
      · have hf := (if_neg c_2).symm.trans hf
        refine lv_iinc (v := (x5 + (1 : Int32))) (lv' := [(5, .int ((x5 + (1 : Int32)))), (0, .ref a_la), (1, .int x1), (2, .int x2), (3, .int x3), (4, .int x4)]) hx hb dX4_matching_33 hl (k := 5) rfl rfl (by decide) rfl (fun ls hl => ?_)
        refine lv_goto (tgt := 6) hx hb dX4_matching_36 (by decide) ?_
        exact hrec6 _ _ hf _ _  hP hD hS _ (lv_sub hl [1, 2, 3, 4, 5, 0] rfl)
      · have hf := (if_pos c_2).symm.trans hf
        refine lv_iload hx hb dX4_matching_21 (lv_at hl 4 rfl) ?_
        refine lv_aload_n hx hb dX4_matching_23 rfl (lv_at hl 0 rfl) ?_
        refine lv_iload_n hx hb dX4_matching_24 rfl (lv_at hl 1 rfl) ?_
        refine lv_iload hx hb dX4_matching_25 (lv_at hl 5 rfl) ?_
        obtain ⟨u_3, hg_4, hf⟩ := pa_bd hf
        refine pa_ki (wc := (wo_X4_of cI cJ a_la a_lc a_lr v_lc)) (wr := ([] : va_W)) (w1 := (wo_X4_of cI cJ a_la a_lc a_lr v_lc)) (w2 := (wo_X4_matching cI cJ a_la a_lc a_lr v_lc)) X hP hD hS [0, 1] [] [0, 1] rfl (pa_rV (As := [.int x1, .int x5]) (rest := [.int x4]) (T := TX4) X hP hD hS [0, 1] rfl rfl (c_X4_of hg_4 H.size) (cwV 2 hts gX4_matching_X4_of rfl rfl rfl (by decide +kernel) ⟨Nat.le_of_ble_eq_true rfl, Nat.le_of_ble_eq_true rfl⟩) (q0 := 0) rfl rfl rfl hl.1 rfl (Nat.le_of_ble_eq_true rfl) dX4_matching_27 ⟨Nat.zero_le _, Nat.zero_le _⟩) rfl rfl (by decide) rfl rfl (fun H locs hP hD hS => ?_)
        refine lv_iadd hx hb dX4_matching_30 ?_
        refine lv_istore (lv' := [(4, .int ((x4 + u_3))), (0, .ref a_la), (1, .int x1), (2, .int x2), (3, .int x3), (5, .int x5)]) hx hb dX4_matching_31 hl (by decide) rfl (fun ls hl => ?_)
        refine lv_iinc (v := (x5 + (1 : Int32))) (lv' := [(5, .int ((x5 + (1 : Int32)))), (4, .int ((x4 + u_3))), (0, .ref a_la), (1, .int x1), (2, .int x2), (3, .int x3)]) hx hb dX4_matching_33 hl (k := 5) rfl rfl (by decide) rfl (fun ls hl => ?_)
        refine lv_goto (tgt := 6) hx hb dX4_matching_36 (by decide) ?_
        exact hrec6 _ _ hf _ _  hP hD hS _ (lv_sub hl [2, 3, 4, 5, 1, 0] rfl)
set_option maxHeartbeats 4000000 in
set_option maxRecDepth 100000 in
theorem w_X4_matching_b0 {l : Launch} {D : va_G} {cI cJ : ClassId} {g : pa_GT} {a_la a_lc a_lr : Nat} {A : Nat → Prop} {p : Program} {e : Env} {s : State} {m : MethodId} {args : Array Value} {below : List Frame} {meth : Method} {c : Code} {x1 : Int32} {x2 : Int32} {x3 : Int32} {v_lc : Nat → Int32}  {o : Int32} (X : pa_X cX4_matching 6 (some .int) RX4 wsX4_matching D cI cJ g A p s m args meth c)  (hf : f_X4_matching x1 x2 x3 v_lc = some o) {H : Heap} {locs : List Loc} (hP : va_P D vwCl (wo_X4_matching cI cJ a_la a_lc a_lr v_lc) H) (hD : va_D A (wo_X4_matching cI cJ a_la a_lc a_lr v_lc)) (hS : va_S A s.heap H locs) {ls : Array Slot} (hl : lv_has ls 6 [(0, .ref a_la), (1, .int x1), (2, .int x2), (3, .int x3)]) : W p l e (headSpec wsX4_matching rm_X4_matching).room s m args below meth c H locs 0 0 (MQ below (va_Qi (fun r (_ : Unit) => r = o) (pa_QB D A (wo_X4_matching cI cJ a_la a_lc a_lr v_lc)) A) args s 0 0 A) (F0 m 0 ls []) := by
  obtain ⟨hx, hb, hr, hml, hown, hts, hK, hA, hG, hlk⟩ := id X
  delta f_X4_matching at hf
  refine lv_iconst (v := (0 : Int32)) hx hb dX4_matching_0 (by decide) ?_
  refine lv_istore (lv' := [(4, .int ((0 : Int32))), (0, .ref a_la), (1, .int x1), (2, .int x2), (3, .int x3)]) hx hb dX4_matching_1 hl (by decide) rfl (fun ls hl => ?_)
  refine lv_iconst (v := (0 : Int32)) hx hb dX4_matching_3 (by decide) ?_
  refine lv_istore (lv' := [(5, .int ((0 : Int32))), (4, .int ((0 : Int32))), (0, .ref a_la), (1, .int x1), (2, .int x2), (3, .int x3)]) hx hb dX4_matching_4 hl (by decide) rfl (fun ls hl => ?_)
  exact w_X4_matching_L6 X  _ _ _ hf _ _  hP hD hS _ (lv_sub hl [2, 3, 4, 5, 1, 0] rfl)
set_option maxHeartbeats 4000000 in
set_option maxRecDepth 100000 in
theorem c_X4_matching {l : Launch} {D : va_G} {cI cJ : ClassId} {g : pa_GT} {a_la a_lc a_lr : Nat} {x1 : Int32} {x2 : Int32} {x3 : Int32} {v_lc : Nat → Int32} {o : Int32} (hf : f_X4_matching x1 x2 x3 v_lc = some o) : pa_Mi l yX4_matching wsX4_matching rm_X4_matching D cI cJ g [.ref a_la, .int x1, .int x2, .int x3] (wo_X4_matching cI cJ a_la a_lc a_lr v_lc) (wo_X4_matching cI cJ a_la a_lc a_lr v_lc) o := by
  intro sz
  refine pa_met (cc := cX4_matching) (maxL := 6) (ret := (some .int)) (lv := [(0, .ref a_la), (1, .int x1), (2, .int x2), (3, .int x3)]) (by decide) rfl (Nat.le_of_ble_eq_true rfl) rfl ?_
  intro p e s m below meth c X hsz hP hD ls hl
  subst hsz
  exact w_X4_matching_b0 X hf hP hD va_S.rf hl
abbrev rm_X1_commonDivisor : Room := { frames := 0, cells := 0, slots := 0, locals := 0 }
def f_X1_commonDivisor_L9_body  (rec9 : Int64 → Int64 → Int32 → Option (Int64)) (x4 : Int64) (x6 : Int64) (x8 : Int32) : Option (Int64) :=
  if (100 : Int32) ≤ x8 then
    some (x4)
  else
    if (lg_cmp x6 ((0 : Int64))) = 0 then
      some (x4)
    else
      if x6 = 0 then none else
      rec9 x6 ((x4 - x4 / x6 * x6)) ((x8 + (1 : Int32)))
def f_X1_commonDivisor_L9  : Nat → Int64 → Int64 → Int32 → Option (Int64)
  | 0 => fun _ _ _ => none
  | n + 1 => f_X1_commonDivisor_L9_body  (f_X1_commonDivisor_L9  n)
def f_X1_commonDivisor (x0 : Int64) (x2 : Int64) : Option (Int64) :=
  f_X1_commonDivisor_L9 pa_fu x0 x2 ((0 : Int32))
set_option maxHeartbeats 4000000 in
set_option maxRecDepth 100000 in
theorem w_X1_commonDivisor_L9 {l : Launch} {D : va_G} {cI cJ : ClassId} {g : pa_GT} {A : Nat → Prop} {p : Program} {e : Env} {s : State} {m : MethodId} {args : Array Value} {below : List Frame} {meth : Method} {c : Code}   {o : Int64} (X : pa_X cX1_commonDivisor 11 (some .long) RX1 wsX1_commonDivisor D cI cJ g A p s m args meth c)  : ∀ (n : Nat) (x4 : Int64) (x6 : Int64) (x8 : Int32), f_X1_commonDivisor_L9  n x4 x6 x8 = some o → ∀ (H : Heap) (locs : List Loc) , va_P D vwCl ([] : va_W) H → va_D A ([] : va_W) → va_S A s.heap H locs → ∀ (ls : Array Slot), lv_has ls 11 [(4, .long x4), (6, .long x6), (8, .int x8)] → W p l e (headSpec wsX1_commonDivisor rm_X1_commonDivisor).room s m args below meth c H locs 0 0 (MQ below (va_Ql (fun r (_ : Unit) => r = o) (pa_QB D A ([] : va_W)) A) args s 0 0 A) (F0 m 9 ls []) := by
  obtain ⟨hx, hb, hr, hml, hown, hts, hK, hA, hG, hlk⟩ := id X
  intro n
  induction n with
  | zero =>
    intro x4 x6 x8 hf
    have hf : (none : Option (Int64)) = some o := hf
    cases hf
  | succ n hrec9 =>
    intro x4 x6 x8 hf H locs  hP hD hS ls hl
    have hf : f_X1_commonDivisor_L9_body  (f_X1_commonDivisor_L9  n) x4 x6 x8 = some o := hf
    delta f_X1_commonDivisor_L9_body at hf
    generalize hgr : f_X1_commonDivisor_L9  n = rec9 at hf hrec9
    refine lv_iload hx hb dX1_commonDivisor_9 (lv_at hl 2 rfl) ?_
    refine lv_bipush (v := (100 : Int32)) hx hb dX1_commonDivisor_11 (by decide) ?_
    refine lv_icmp_ge (tgt := 44) hx hb dX1_commonDivisor_13 (by decide) (fun c_1 => ?_) (fun c_1 => ?_)
    · have hf := (if_pos c_1).symm.trans hf
      refine lv_lload hx hb dX1_commonDivisor_44 (lv_at hl 0 rfl) ?_
      cases hf
      exact pa_el X hP hD hS dX1_commonDivisor_46
    · have hf := (if_neg c_1).symm.trans hf
      refine lv_lload hx hb dX1_commonDivisor_16 (lv_at hl 1 rfl) ?_
      refine lv_lconst (v := (0 : Int64)) hx hb dX1_commonDivisor_18 (by decide) ?_
      refine W.lcmp hx hb dX1_commonDivisor_19 ?_
      refine lv_if_eq (tgt := 44) hx hb dX1_commonDivisor_20 (by decide) (fun c_2 => ?_) (fun c_2 => ?_)
      · have hf := (if_pos c_2).symm.trans hf
        refine lv_lload hx hb dX1_commonDivisor_44 (lv_at hl 0 rfl) ?_
        cases hf
        exact pa_el X hP hD hS dX1_commonDivisor_46
      · have hf := (if_neg c_2).symm.trans hf
        refine lv_lload hx hb dX1_commonDivisor_23 (lv_at hl 0 rfl) ?_
        refine lv_lload hx hb dX1_commonDivisor_25 (lv_at hl 1 rfl) ?_
        obtain ⟨hz_3, hf⟩ := pa_dzl hf
        refine lv_lrem hx hb dX1_commonDivisor_27 hz_3 ?_
        refine lv_lstore (lv' := [(9, .long ((x4 - x4 / x6 * x6))), (4, .long x4), (6, .long x6), (8, .int x8)]) hx hb dX1_commonDivisor_28 hl (by decide) rfl (fun ls hl => ?_)
        refine lv_lload hx hb dX1_commonDivisor_30 (lv_at hl 2 rfl) ?_
        refine lv_lstore (lv' := [(4, .long x6), (9, .long ((x4 - x4 / x6 * x6))), (6, .long x6), (8, .int x8)]) hx hb dX1_commonDivisor_32 hl (by decide) rfl (fun ls hl => ?_)
        refine lv_lload hx hb dX1_commonDivisor_34 (lv_at hl 1 rfl) ?_
        refine lv_lstore (lv' := [(6, .long ((x4 - x4 / x6 * x6))), (4, .long x6), (9, .long ((x4 - x4 / x6 * x6))), (8, .int x8)]) hx hb dX1_commonDivisor_36 hl (by decide) rfl (fun ls hl => ?_)
        refine lv_iinc (v := (x8 + (1 : Int32))) (lv' := [(8, .int ((x8 + (1 : Int32)))), (6, .long ((x4 - x4 / x6 * x6))), (4, .long x6), (9, .long ((x4 - x4 / x6 * x6)))]) hx hb dX1_commonDivisor_38 hl (k := 3) rfl rfl (by decide) rfl (fun ls hl => ?_)
        refine lv_goto (tgt := 9) hx hb dX1_commonDivisor_41 (by decide) ?_
        exact hrec9 _ _ _ hf _ _  hP hD hS _ (lv_sub hl [2, 1, 0] rfl)
set_option maxHeartbeats 4000000 in
set_option maxRecDepth 100000 in
theorem w_X1_commonDivisor_b0 {l : Launch} {D : va_G} {cI cJ : ClassId} {g : pa_GT} {A : Nat → Prop} {p : Program} {e : Env} {s : State} {m : MethodId} {args : Array Value} {below : List Frame} {meth : Method} {c : Code} {x0 : Int64} {x2 : Int64}  {o : Int64} (X : pa_X cX1_commonDivisor 11 (some .long) RX1 wsX1_commonDivisor D cI cJ g A p s m args meth c)  (hf : f_X1_commonDivisor x0 x2 = some o) {H : Heap} {locs : List Loc} (hP : va_P D vwCl ([] : va_W) H) (hD : va_D A ([] : va_W)) (hS : va_S A s.heap H locs) {ls : Array Slot} (hl : lv_has ls 11 [(0, .long x0), (2, .long x2)]) : W p l e (headSpec wsX1_commonDivisor rm_X1_commonDivisor).room s m args below meth c H locs 0 0 (MQ below (va_Ql (fun r (_ : Unit) => r = o) (pa_QB D A ([] : va_W)) A) args s 0 0 A) (F0 m 0 ls []) := by
  obtain ⟨hx, hb, hr, hml, hown, hts, hK, hA, hG, hlk⟩ := id X
  delta f_X1_commonDivisor at hf
  refine lv_lload_n hx hb dX1_commonDivisor_0 rfl (lv_at hl 0 rfl) ?_
  refine lv_lstore (lv' := [(4, .long x0), (0, .long x0), (2, .long x2)]) hx hb dX1_commonDivisor_1 hl (by decide) rfl (fun ls hl => ?_)
  refine lv_lload_n hx hb dX1_commonDivisor_3 rfl (lv_at hl 2 rfl) ?_
  refine lv_lstore (lv' := [(6, .long x2), (4, .long x0), (0, .long x0), (2, .long x2)]) hx hb dX1_commonDivisor_4 hl (by decide) rfl (fun ls hl => ?_)
  refine lv_iconst (v := (0 : Int32)) hx hb dX1_commonDivisor_6 (by decide) ?_
  refine lv_istore (lv' := [(8, .int ((0 : Int32))), (6, .long x2), (4, .long x0), (0, .long x0), (2, .long x2)]) hx hb dX1_commonDivisor_7 hl (by decide) rfl (fun ls hl => ?_)
  exact w_X1_commonDivisor_L9 X  _ _ _ _ hf _ _  hP hD hS _ (lv_sub hl [2, 1, 0] rfl)
set_option maxHeartbeats 4000000 in
set_option maxRecDepth 100000 in
theorem c_X1_commonDivisor {l : Launch} {D : va_G} {cI cJ : ClassId} {g : pa_GT} {x0 : Int64} {x2 : Int64}  {o : Int64} (hf : f_X1_commonDivisor x0 x2 = some o) : pa_Ml l yX1_commonDivisor wsX1_commonDivisor rm_X1_commonDivisor D cI cJ g [.long x0, .long x2] ([] : va_W) ([] : va_W) o := by
  intro sz
  refine pa_met (cc := cX1_commonDivisor) (maxL := 11) (ret := (some .long)) (lv := [(0, .long x0), (2, .long x2)]) (by decide) rfl (Nat.le_of_ble_eq_true rfl) rfl ?_
  intro p e s m below meth c X hsz hP hD ls hl
  subst hsz
  exact w_X1_commonDivisor_b0 X hf hP hD va_S.rf hl
abbrev wo_X3_append (cI cJ : ClassId) (a_ho a_hn : Nat) (v_ho_rows : Int32) (v_hn : Nat → Int32) : va_W := [(a_ho, .inr (3, [.ref a_hn, .int v_ho_rows])), (a_hn, .inl (cI, 24, .inl v_hn))]
abbrev rm_X3_append : Room := { frames := 0, cells := 0, slots := 0, locals := 0 }
theorem il_X3_append_X3 : ∀ w ∈ wsX30, w ∈ wsX3_append := by decide +kernel
theorem fk_X3_append_0 : Cond.fieldLink RX3 9 "PostedAsks$House" "needs" "[I" ∈ wsX3_append := by decide +kernel
theorem fk_X3_append_1 : Cond.fieldLink RX3 15 "PostedAsks$House" "rows" "I" ∈ wsX3_append := by decide +kernel
def f_X3_append_L17_body (x1 : Int32) (v_ho_rows : Int32) (rec17 : Int32 → (Nat → Int32) → Option (Int32 × Int32 × (Nat → Int32))) (x2 : Int32) (v_hn : Nat → Int32) : Option (Int32 × Int32 × (Nat → Int32)) :=
  if x2 ≤ 0 then
    if pa_ib x2 24 = true then
      some ((v_ho_rows + (1 : Int32)), (v_ho_rows + (1 : Int32)), (upd v_hn (Int32.toNatClampNeg x2) x1))
    else none
  else
    if pa_ib ((x2 - (1 : Int32))) 24 = true then
      if (v_hn (Int32.toNatClampNeg ((x2 - (1 : Int32))))) ≤ x1 then
        if pa_ib x2 24 = true then
          some ((v_ho_rows + (1 : Int32)), (v_ho_rows + (1 : Int32)), (upd v_hn (Int32.toNatClampNeg x2) x1))
        else none
      else
        if pa_ib x2 24 = true then
          rec17 ((x2 + (-1 : Int32))) ((upd v_hn (Int32.toNatClampNeg x2) ((v_hn (Int32.toNatClampNeg ((x2 - (1 : Int32))))))))
        else none
    else none
def f_X3_append_L17 (x1 : Int32) (v_ho_rows : Int32) : Nat → Int32 → (Nat → Int32) → Option (Int32 × Int32 × (Nat → Int32))
  | 0 => fun _ _ => none
  | n + 1 => f_X3_append_L17_body x1 v_ho_rows (f_X3_append_L17 x1 v_ho_rows n)
def f_X3_append (x1 : Int32) (v_ho_rows : Int32) (v_hn : Nat → Int32) : Option (Int32 × Int32 × (Nat → Int32)) :=
  if v_ho_rows < (24 : Int32) then
    f_X3_append_L17 x1 v_ho_rows pa_fu v_ho_rows v_hn
  else
    some ((-3 : Int32), v_ho_rows, v_hn)
set_option maxHeartbeats 4000000 in
set_option maxRecDepth 100000 in
theorem w_X3_append_L17 {l : Launch} {D : va_G} {cI cJ : ClassId} {g : pa_GT} {a_ho a_hn : Nat} {A : Nat → Prop} {p : Program} {e : Env} {s : State} {m : MethodId} {args : Array Value} {below : List Frame} {meth : Method} {c : Code} {x1 : Int32} {v_ho_rows : Int32}  {o : Int32 × Int32 × (Nat → Int32)} (X : pa_X cX3_append 3 (some .int) RX3 wsX3_append D cI cJ g A p s m args meth c)  : ∀ (n : Nat) (x2 : Int32) (v_hn : Nat → Int32), f_X3_append_L17 x1 v_ho_rows n x2 v_hn = some o → ∀ (H : Heap) (locs : List Loc) , va_P D vwCl (wo_X3_append cI cJ a_ho a_hn v_ho_rows v_hn) H → va_D A (wo_X3_append cI cJ a_ho a_hn v_ho_rows v_hn) → va_S A s.heap H locs → ∀ (ls : Array Slot), lv_has ls 3 [(0, .ref a_ho), (1, .int x1), (2, .int x2)] → W p l e (headSpec wsX3_append rm_X3_append).room s m args below meth c H locs 0 0 (MQ below (va_Qi (fun r (_ : Unit) => r = o.1) (pa_QB D A (wo_X3_append cI cJ a_ho a_hn o.2.1 o.2.2)) A) args s 0 0 A) (F0 m 17 ls []) := by
  obtain ⟨hx, hb, hr, hml, hown, hts, hK, hA, hG, hlk⟩ := id X
  intro n
  induction n with
  | zero =>
    intro x2 v_hn hf
    have hf : (none : Option (Int32 × Int32 × (Nat → Int32))) = some o := hf
    cases hf
  | succ n hrec17 =>
    intro x2 v_hn hf H locs  hP hD hS ls hl
    have hf : f_X3_append_L17_body x1 v_ho_rows (f_X3_append_L17 x1 v_ho_rows n) x2 v_hn = some o := hf
    delta f_X3_append_L17_body at hf
    generalize hgr : f_X3_append_L17 x1 v_ho_rows n = rec17 at hf hrec17
    refine lv_iload_n hx hb dX3_append_17 rfl (lv_at hl 2 rfl) ?_
    refine lv_if_le (tgt := 53) hx hb dX3_append_18 (by decide) (fun c_1 => ?_) (fun c_1 => ?_)
    · have hf := (if_pos c_1).symm.trans hf
      refine lv_aload_n hx hb dX3_append_53 rfl (lv_at hl 0 rfl) ?_
      refine va_get (D := D) (ci := 3) (v := .ref a_hn) (C := RX3) (T := TX3) (N := 2) hx hb hts il_X3_append_X3 hown hK hP 0 rfl rfl 0 (by decide) (hts _ fk_X3_append_0) (fun _ h9 => h9) rfl dX3_append_54 ?_
      refine lv_iload_n hx hb dX3_append_57 rfl (lv_at hl 2 rfl) ?_
      refine lv_iload_n hx hb dX3_append_58 rfl (lv_at hl 1 rfl) ?_
      obtain ⟨hi_2, hf⟩ := pa_gd hf
      refine va_iast hx hb hK hP hD hS 1 0 rfl rfl hi_2 dX3_append_59 (fun H locs hP hD hS => ?_)
      have hP : va_P D vwCl (wo_X3_append cI cJ a_ho a_hn v_ho_rows ((upd v_hn (Int32.toNatClampNeg x2) x1))) H := hP
      have hD : va_D A (wo_X3_append cI cJ a_ho a_hn v_ho_rows ((upd v_hn (Int32.toNatClampNeg x2) x1))) := hD
      refine lv_aload_n hx hb dX3_append_60 rfl (lv_at hl 0 rfl) ?_
      refine lv_dup hx hb dX3_append_61 rfl ?_
      refine va_get (D := D) (ci := 3) (v := .int v_ho_rows) (C := RX3) (T := TX3) (N := 2) hx hb hts il_X3_append_X3 hown hK hP 0 rfl rfl 1 (by decide) (hts _ fk_X3_append_1) (fun _ h9 => h9) rfl dX3_append_62 ?_
      refine lv_iconst (v := (1 : Int32)) hx hb dX3_append_65 (by decide) ?_
      refine lv_iadd hx hb dX3_append_66 ?_
      refine va_put (D := D) (ci := 3) (v := .int ((v_ho_rows + (1 : Int32)))) (ty := .int) (C := RX3) (T := TX3) (N := 2) hx hb hts il_X3_append_X3 tyX3 tyX3_ok nmX3 hown hK hP hD hS 0 rfl rfl 1 (by decide) (hts _ fk_X3_append_1) (fun _ h9 => h9) rfl (tyX3_ok 1 (by decide)) rfl rfl (Nat.le_of_ble_eq_true rfl) dX3_append_67 (fun H locs hP hD hS => ?_)
      have hP : va_P D vwCl (wo_X3_append cI cJ a_ho a_hn ((v_ho_rows + (1 : Int32))) ((upd v_hn (Int32.toNatClampNeg x2) x1))) H := hP
      have hD : va_D A (wo_X3_append cI cJ a_ho a_hn ((v_ho_rows + (1 : Int32))) ((upd v_hn (Int32.toNatClampNeg x2) x1))) := hD
      refine lv_aload_n hx hb dX3_append_70 rfl (lv_at hl 0 rfl) ?_
      refine va_get (D := D) (ci := 3) (v := .int ((v_ho_rows + (1 : Int32)))) (C := RX3) (T := TX3) (N := 2) hx hb hts il_X3_append_X3 hown hK hP 0 rfl rfl 1 (by decide) (hts _ fk_X3_append_1) (fun _ h9 => h9) rfl dX3_append_71 ?_
      cases hf
      exact pa_ei X hP hD hS dX3_append_74
    · have hf := (if_neg c_1).symm.trans hf
      refine lv_aload_n hx hb dX3_append_21 rfl (lv_at hl 0 rfl) ?_
      refine va_get (D := D) (ci := 3) (v := .ref a_hn) (C := RX3) (T := TX3) (N := 2) hx hb hts il_X3_append_X3 hown hK hP 0 rfl rfl 0 (by decide) (hts _ fk_X3_append_0) (fun _ h9 => h9) rfl dX3_append_22 ?_
      refine lv_iload_n hx hb dX3_append_25 rfl (lv_at hl 2 rfl) ?_
      refine lv_iconst (v := (1 : Int32)) hx hb dX3_append_26 (by decide) ?_
      refine lv_isub hx hb dX3_append_27 ?_
      obtain ⟨hi_3, hf⟩ := pa_gd hf
      refine va_iald hx hb hK hP 1 0 rfl rfl hi_3 dX3_append_28 ?_
      refine lv_iload_n hx hb dX3_append_29 rfl (lv_at hl 1 rfl) ?_
      refine lv_icmp_le (tgt := 53) hx hb dX3_append_30 (by decide) (fun c_4 => ?_) (fun c_4 => ?_)
      · have hf := (if_pos c_4).symm.trans hf
        refine lv_aload_n hx hb dX3_append_53 rfl (lv_at hl 0 rfl) ?_
        refine va_get (D := D) (ci := 3) (v := .ref a_hn) (C := RX3) (T := TX3) (N := 2) hx hb hts il_X3_append_X3 hown hK hP 0 rfl rfl 0 (by decide) (hts _ fk_X3_append_0) (fun _ h9 => h9) rfl dX3_append_54 ?_
        refine lv_iload_n hx hb dX3_append_57 rfl (lv_at hl 2 rfl) ?_
        refine lv_iload_n hx hb dX3_append_58 rfl (lv_at hl 1 rfl) ?_
        obtain ⟨hi_5, hf⟩ := pa_gd hf
        refine va_iast hx hb hK hP hD hS 1 0 rfl rfl hi_5 dX3_append_59 (fun H locs hP hD hS => ?_)
        have hP : va_P D vwCl (wo_X3_append cI cJ a_ho a_hn v_ho_rows ((upd v_hn (Int32.toNatClampNeg x2) x1))) H := hP
        have hD : va_D A (wo_X3_append cI cJ a_ho a_hn v_ho_rows ((upd v_hn (Int32.toNatClampNeg x2) x1))) := hD
        refine lv_aload_n hx hb dX3_append_60 rfl (lv_at hl 0 rfl) ?_
        refine lv_dup hx hb dX3_append_61 rfl ?_
        refine va_get (D := D) (ci := 3) (v := .int v_ho_rows) (C := RX3) (T := TX3) (N := 2) hx hb hts il_X3_append_X3 hown hK hP 0 rfl rfl 1 (by decide) (hts _ fk_X3_append_1) (fun _ h9 => h9) rfl dX3_append_62 ?_
        refine lv_iconst (v := (1 : Int32)) hx hb dX3_append_65 (by decide) ?_
        refine lv_iadd hx hb dX3_append_66 ?_
        refine va_put (D := D) (ci := 3) (v := .int ((v_ho_rows + (1 : Int32)))) (ty := .int) (C := RX3) (T := TX3) (N := 2) hx hb hts il_X3_append_X3 tyX3 tyX3_ok nmX3 hown hK hP hD hS 0 rfl rfl 1 (by decide) (hts _ fk_X3_append_1) (fun _ h9 => h9) rfl (tyX3_ok 1 (by decide)) rfl rfl (Nat.le_of_ble_eq_true rfl) dX3_append_67 (fun H locs hP hD hS => ?_)
        have hP : va_P D vwCl (wo_X3_append cI cJ a_ho a_hn ((v_ho_rows + (1 : Int32))) ((upd v_hn (Int32.toNatClampNeg x2) x1))) H := hP
        have hD : va_D A (wo_X3_append cI cJ a_ho a_hn ((v_ho_rows + (1 : Int32))) ((upd v_hn (Int32.toNatClampNeg x2) x1))) := hD
        refine lv_aload_n hx hb dX3_append_70 rfl (lv_at hl 0 rfl) ?_
        refine va_get (D := D) (ci := 3) (v := .int ((v_ho_rows + (1 : Int32)))) (C := RX3) (T := TX3) (N := 2) hx hb hts il_X3_append_X3 hown hK hP 0 rfl rfl 1 (by decide) (hts _ fk_X3_append_1) (fun _ h9 => h9) rfl dX3_append_71 ?_
        cases hf
        exact pa_ei X hP hD hS dX3_append_74
      · have hf := (if_neg c_4).symm.trans hf
        refine lv_aload_n hx hb dX3_append_33 rfl (lv_at hl 0 rfl) ?_
        refine va_get (D := D) (ci := 3) (v := .ref a_hn) (C := RX3) (T := TX3) (N := 2) hx hb hts il_X3_append_X3 hown hK hP 0 rfl rfl 0 (by decide) (hts _ fk_X3_append_0) (fun _ h9 => h9) rfl dX3_append_34 ?_
        refine lv_iload_n hx hb dX3_append_37 rfl (lv_at hl 2 rfl) ?_
        refine lv_aload_n hx hb dX3_append_38 rfl (lv_at hl 0 rfl) ?_
        refine va_get (D := D) (ci := 3) (v := .ref a_hn) (C := RX3) (T := TX3) (N := 2) hx hb hts il_X3_append_X3 hown hK hP 0 rfl rfl 0 (by decide) (hts _ fk_X3_append_0) (fun _ h9 => h9) rfl dX3_append_39 ?_
        refine lv_iload_n hx hb dX3_append_42 rfl (lv_at hl 2 rfl) ?_
        refine lv_iconst (v := (1 : Int32)) hx hb dX3_append_43 (by decide) ?_
        refine lv_isub hx hb dX3_append_44 ?_
        refine va_iald hx hb hK hP 1 0 rfl rfl hi_3 dX3_append_45 ?_
        obtain ⟨hi_7, hf⟩ := pa_gd hf
        refine va_iast hx hb hK hP hD hS 1 0 rfl rfl hi_7 dX3_append_46 (fun H locs hP hD hS => ?_)
        have hP : va_P D vwCl (wo_X3_append cI cJ a_ho a_hn v_ho_rows ((upd v_hn (Int32.toNatClampNeg x2) ((v_hn (Int32.toNatClampNeg ((x2 - (1 : Int32))))))))) H := hP
        have hD : va_D A (wo_X3_append cI cJ a_ho a_hn v_ho_rows ((upd v_hn (Int32.toNatClampNeg x2) ((v_hn (Int32.toNatClampNeg ((x2 - (1 : Int32))))))))) := hD
        refine lv_iinc (v := (x2 + (-1 : Int32))) (lv' := [(2, .int ((x2 + (-1 : Int32)))), (0, .ref a_ho), (1, .int x1)]) hx hb dX3_append_47 hl (k := 2) rfl rfl (by decide) rfl (fun ls hl => ?_)
        refine lv_goto (tgt := 17) hx hb dX3_append_50 (by decide) ?_
        exact hrec17 _ _ hf _ _  hP hD hS _ (lv_sub hl [1, 2, 0] rfl)
set_option maxHeartbeats 4000000 in
set_option maxRecDepth 100000 in
theorem w_X3_append_b0 {l : Launch} {D : va_G} {cI cJ : ClassId} {g : pa_GT} {a_ho a_hn : Nat} {A : Nat → Prop} {p : Program} {e : Env} {s : State} {m : MethodId} {args : Array Value} {below : List Frame} {meth : Method} {c : Code} {x1 : Int32} {v_ho_rows : Int32} {v_hn : Nat → Int32}  {o : Int32 × Int32 × (Nat → Int32)} (X : pa_X cX3_append 3 (some .int) RX3 wsX3_append D cI cJ g A p s m args meth c)  (hf : f_X3_append x1 v_ho_rows v_hn = some o) {H : Heap} {locs : List Loc} (hP : va_P D vwCl (wo_X3_append cI cJ a_ho a_hn v_ho_rows v_hn) H) (hD : va_D A (wo_X3_append cI cJ a_ho a_hn v_ho_rows v_hn)) (hS : va_S A s.heap H locs) {ls : Array Slot} (hl : lv_has ls 3 [(0, .ref a_ho), (1, .int x1)]) : W p l e (headSpec wsX3_append rm_X3_append).room s m args below meth c H locs 0 0 (MQ below (va_Qi (fun r (_ : Unit) => r = o.1) (pa_QB D A (wo_X3_append cI cJ a_ho a_hn o.2.1 o.2.2)) A) args s 0 0 A) (F0 m 0 ls []) := by
  obtain ⟨hx, hb, hr, hml, hown, hts, hK, hA, hG, hlk⟩ := id X
  delta f_X3_append at hf
  refine lv_aload_n hx hb dX3_append_0 rfl (lv_at hl 0 rfl) ?_
  refine va_get (D := D) (ci := 3) (v := .int v_ho_rows) (C := RX3) (T := TX3) (N := 2) hx hb hts il_X3_append_X3 hown hK hP 0 rfl rfl 1 (by decide) (hts _ fk_X3_append_1) (fun _ h9 => h9) rfl dX3_append_1 ?_
  refine lv_bipush (v := (24 : Int32)) hx hb dX3_append_4 (by decide) ?_
  refine lv_icmp_lt (tgt := 12) hx hb dX3_append_6 (by decide) (fun c_8 => ?_) (fun c_8 => ?_)
  · have hf := (if_pos c_8).symm.trans hf
    refine lv_aload_n hx hb dX3_append_12 rfl (lv_at hl 0 rfl) ?_
    refine va_get (D := D) (ci := 3) (v := .int v_ho_rows) (C := RX3) (T := TX3) (N := 2) hx hb hts il_X3_append_X3 hown hK hP 0 rfl rfl 1 (by decide) (hts _ fk_X3_append_1) (fun _ h9 => h9) rfl dX3_append_13 ?_
    refine lv_istore_n (lv' := [(2, .int v_ho_rows), (0, .ref a_ho), (1, .int x1)]) hx hb dX3_append_16 rfl hl (by decide) rfl (fun ls hl => ?_)
    exact w_X3_append_L17 X  _ _ _ hf _ _  hP hD hS _ (lv_sub hl [1, 2, 0] rfl)
  · have hf := (if_neg c_8).symm.trans hf
    refine lv_bipush (v := (-3 : Int32)) hx hb dX3_append_9 (by decide) ?_
    cases hf
    exact pa_ei X hP hD hS dX3_append_11
set_option maxHeartbeats 4000000 in
set_option maxRecDepth 100000 in
theorem c_X3_append {l : Launch} {D : va_G} {cI cJ : ClassId} {g : pa_GT} {a_ho a_hn : Nat} {x1 : Int32} {v_ho_rows : Int32} {v_hn : Nat → Int32} {o : Int32 × Int32 × (Nat → Int32)} (hf : f_X3_append x1 v_ho_rows v_hn = some o) : pa_Mi l yX3_append wsX3_append rm_X3_append D cI cJ g [.ref a_ho, .int x1] (wo_X3_append cI cJ a_ho a_hn v_ho_rows v_hn) (wo_X3_append cI cJ a_ho a_hn o.2.1 o.2.2) o.1 := by
  intro sz
  refine pa_met (cc := cX3_append) (maxL := 3) (ret := (some .int)) (lv := [(0, .ref a_ho), (1, .int x1)]) (by decide) rfl (Nat.le_of_ble_eq_true rfl) rfl ?_
  intro p e s m below meth c X hsz hP hD ls hl
  subst hsz
  exact w_X3_append_b0 X hf hP hD va_S.rf hl
