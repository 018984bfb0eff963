abbrev wo_X4_of (cI cJ : ClassId) (a_la a_lc a_lr : Nat) (v_lc : Nat → Int32) : va_W := [(a_la, .inr (4, [.ref a_lc, .ref a_lr])), (a_lc, .inl (cI, 32, .inl v_lc))]
abbrev rm_X4_of : Room := { frames := 0, cells := 0, slots := 0, locals := 0 }
theorem il_X4_of_X4 : ∀ w ∈ wsX40, w ∈ wsX4_of := by decide +kernel
theorem fk_X4_of_0 : Cond.fieldLink RX4 9 "PostedAsks$Lands" "counts" "[I" ∈ wsX4_of := by decide +kernel
def f_X4_of (x1 : Int32) (x2 : Int32) (v_lc : Nat → Int32) : Option (Int32) :=
  if pa_ib ((x1 * (8 : Int32)) + x2) 32 = true then
    some ((v_lc (Int32.toNatClampNeg ((x1 * (8 : Int32)) + x2))))
  else none
set_option maxHeartbeats 4000000 in
set_option maxRecDepth 100000 in
theorem w_X4_of_b0 {l : Launch} {D : va_G} {cI cJ : ClassId} {g : pa_GT} {a_la a_lc a_lr : Nat} {A : Nat → Prop} {p : Program} {e : Env} {s : State} {m : MethodId} {args : Array Value} {below : List Frame} {meth : Method} {c : Code} {x1 : Int32} {x2 : Int32} {v_lc : Nat → Int32}  {o : Int32} (X : pa_X cX4_of 3 (some .int) RX4 wsX4_of D cI cJ g A p s m args meth c)  (hf : f_X4_of x1 x2 v_lc = some o) {H : Heap} {locs : List Loc} (hP : va_P D vwCl (wo_X4_of cI cJ a_la a_lc a_lr v_lc) H) (hD : va_D A (wo_X4_of cI cJ a_la a_lc a_lr v_lc)) (hS : va_S A s.heap H locs) {ls : Array Slot} (hl : lv_has ls 3 [(0, .ref a_la), (1, .int x1), (2, .int x2)]) : W p l e (headSpec wsX4_of rm_X4_of).room s m args below meth c H locs 0 0 (MQ below (va_Qi (fun r (_ : Unit) => r = o) (pa_QB D A (wo_X4_of cI cJ a_la a_lc a_lr v_lc)) A) args s 0 0 A) (F0 m 0 ls []) := by
  obtain ⟨hx, hb, hr, hml, hown, hts, hK, hA, hG, hlk⟩ := id X
  delta f_X4_of at hf
  refine lv_aload_n hx hb dX4_of_0 rfl (lv_at hl 0 rfl) ?_
  refine va_get (D := D) (ci := 4) (v := .ref a_lc) (C := RX4) (T := TX4) (N := 2) hx hb hts il_X4_of_X4 hown hK hP 0 rfl rfl 0 (by decide) (hts _ fk_X4_of_0) (fun _ h9 => h9) rfl dX4_of_1 ?_
  refine lv_iload_n hx hb dX4_of_4 rfl (lv_at hl 1 rfl) ?_
  refine lv_bipush (v := (8 : Int32)) hx hb dX4_of_5 (by decide) ?_
  refine lv_imul hx hb dX4_of_7 ?_
  refine lv_iload_n hx hb dX4_of_8 rfl (lv_at hl 2 rfl) ?_
  refine lv_iadd hx hb dX4_of_9 ?_
  obtain ⟨hi_1, hf⟩ := pa_gd hf
  refine va_iald hx hb hK hP 1 0 rfl rfl hi_1 dX4_of_10 ?_
  obtain rfl := Option.some.inj hf
  exact pa_ei X hP hD hS dX4_of_11
set_option maxHeartbeats 4000000 in
set_option maxRecDepth 100000 in
theorem c_X4_of {l : Launch} {D : va_G} {cI cJ : ClassId} {g : pa_GT} {a_la a_lc a_lr : Nat} {x1 : Int32} {x2 : Int32} {v_lc : Nat → Int32} {o : Int32} (hf : f_X4_of x1 x2 v_lc = some o) : pa_Mi l yX4_of wsX4_of rm_X4_of D cI cJ g [.ref a_la, .int x1, .int x2] (wo_X4_of cI cJ a_la a_lc a_lr v_lc) (wo_X4_of cI cJ a_la a_lc a_lr v_lc) o := by
  intro sz
  refine pa_met (cc := cX4_of) (maxL := 3) (ret := (some .int)) (lv := [(0, .ref a_la), (1, .int x1), (2, .int x2)]) (by decide) rfl (Nat.le_of_ble_eq_true rfl) rfl ?_
  intro p e s m below meth c X hsz hP hD ls hl
  subst hsz
  exact w_X4_of_b0 X hf hP hD va_S.rf hl
abbrev wo_X4_matching (cI cJ : ClassId) (a_la a_lc a_lr : Nat) (v_lc : Nat → Int32) : va_W := [(a_la, .inr (4, [.ref a_lc, .ref a_lr])), (a_lc, .inl (cI, 32, .inl v_lc))]
abbrev rm_X4_matching : Room := { frames := 1, cells := 0, slots := 0, locals := 22 }
def f_X4_matching_L6_body (x1 : Int32) (x2 : Int32) (x3 : Int32) (v_lc : Nat → Int32) (rec6 : Int32 → Int32 → Option (Int32)) (x4 : Int32) (x5 : Int32) : Option (Int32) :=
  if (8 : Int32) ≤ x5 then
    some (x4)
  else
    if (x5 &&& x2) = x3 then
      (f_X4_of x1 x5 v_lc).bind fun u_3 =>
      rec6 (x4 + u_3) (x5 + (1 : Int32))
    else
      rec6 x4 (x5 + (1 : Int32))
def f_X4_matching_L6 (x1 : Int32) (x2 : Int32) (x3 : Int32) (v_lc : Nat → Int32) : Nat → Int32 → Int32 → Option (Int32)
  | 0 => fun _ _ => none
  | n + 1 => f_X4_matching_L6_body x1 x2 x3 v_lc (f_X4_matching_L6 x1 x2 x3 v_lc n)
def f_X4_matching (x1 : Int32) (x2 : Int32) (x3 : Int32) (v_lc : Nat → Int32) : Option (Int32) :=
  f_X4_matching_L6 x1 x2 x3 v_lc pa_fu (0 : Int32) (0 : Int32)
set_option maxHeartbeats 4000000 in
set_option maxRecDepth 100000 in
theorem w_X4_matching_L6 {l : Launch} {D : va_G} {cI cJ : ClassId} {g : pa_GT} {a_la a_lc a_lr : Nat} {A : Nat → Prop} {p : Program} {e : Env} {s : State} {m : MethodId} {args : Array Value} {below : List Frame} {meth : Method} {c : Code} {x1 : Int32} {x2 : Int32} {x3 : Int32} {v_lc : Nat → Int32}  {o : Int32} (X : pa_X cX4_matching 6 (some .int) RX4 wsX4_matching D cI cJ g A p s m args meth c)  : ∀ (n : Nat) (x4 : Int32) (x5 : Int32), f_X4_matching_L6 x1 x2 x3 v_lc n x4 x5 = some o → ∀ (H : Heap) (locs : List Loc) , va_P D vwCl (wo_X4_matching cI cJ a_la a_lc a_lr v_lc) H → va_D A (wo_X4_matching cI cJ a_la a_lc a_lr v_lc) → va_S A s.heap H locs → ∀ (ls : Array Slot), lv_has ls 6 [(0, .ref a_la), (1, .int x1), (2, .int x2), (3, .int x3), (4, .int x4), (5, .int x5)] → W p l e (headSpec wsX4_matching rm_X4_matching).room s m args below meth c H locs 0 0 (MQ below (va_Qi (fun r (_ : Unit) => r = o) (pa_QB D A (wo_X4_matching cI cJ a_la a_lc a_lr v_lc)) A) args s 0 0 A) (F0 m 6 ls []) := by
  obtain ⟨hx, hb, hr, hml, hown, hts, hK, hA, hG, hlk⟩ := id X
  intro n
  induction n with
  | zero =>
    intro x4 x5 hf
    have hf : (none : Option (Int32)) = some o := hf
    cases hf
  | succ n hrec6 =>
    intro x4 x5 hf H locs  hP hD hS ls hl
    have hf : f_X4_matching_L6_body x1 x2 x3 v_lc (f_X4_matching_L6 x1 x2 x3 v_lc n) x4 x5 = some o := hf
    delta f_X4_matching_L6_body at hf
    generalize hgr : f_X4_matching_L6 x1 x2 x3 v_lc n = rec6 at hf hrec6
    refine lv_iload hx hb dX4_matching_6 (lv_at hl 5 rfl) ?_
    refine lv_bipush (v := (8 : Int32)) hx hb dX4_matching_8 (by decide) ?_
    refine lv_icmp_ge (tgt := 39) hx hb dX4_matching_10 (by decide) (fun c_1 => ?_) (fun c_1 => ?_)
    · have hf := (if_pos c_1).symm.trans hf
      refine lv_iload hx hb dX4_matching_39 (lv_at hl 4 rfl) ?_
      obtain rfl := Option.some.inj hf
      exact pa_ei X hP hD hS dX4_matching_41
    · have hf := (if_neg c_1).symm.trans hf
      refine lv_iload hx hb dX4_matching_13 (lv_at hl 5 rfl) ?_
      refine lv_iload_n hx hb dX4_matching_15 rfl (lv_at hl 2 rfl) ?_
      refine lv_iand hx hb dX4_matching_16 ?_
      refine lv_iload_n hx hb dX4_matching_17 rfl (lv_at hl 3 rfl) ?_
      refine lv_icmp_ne (tgt := 33) hx hb dX4_matching_18 (by decide) (fun c_2 => ?_) (fun c_2 => ?_)
      · have hf := (if_neg c_2).symm.trans hf
        refine lv_iinc (v := (x5 + (1 : Int32))) (lv' := [(5, .int (x5 + (1 : Int32))), (0, .ref a_la), (1, .int x1), (2, .int x2), (3, .int x3), (4, .int x4)]) hx hb dX4_matching_33 hl (k := 5) rfl rfl (by decide) rfl (fun ls hl => ?_)
        refine lv_goto (tgt := 6) hx hb dX4_matching_36 (by decide) ?_
        exact hrec6 _ _ hf _ _  hP hD hS _ (lv_sub hl [1, 2, 3, 4, 5, 0] rfl)
      · have hf := (if_pos c_2).symm.trans hf
        refine lv_iload hx hb dX4_matching_21 (lv_at hl 4 rfl) ?_
        refine lv_aload_n hx hb dX4_matching_23 rfl (lv_at hl 0 rfl) ?_
        refine lv_iload_n hx hb dX4_matching_24 rfl (lv_at hl 1 rfl) ?_
        refine lv_iload hx hb dX4_matching_25 (lv_at hl 5 rfl) ?_
        obtain ⟨u_3, hg_4, hf⟩ := pa_bd hf
        refine pa_ki (wc := (wo_X4_of cI cJ a_la a_lc a_lr v_lc)) (wr := ([] : va_W)) (w1 := (wo_X4_of cI cJ a_la a_lc a_lr v_lc)) (w2 := (wo_X4_matching cI cJ a_la a_lc a_lr v_lc)) X hP hD hS [0, 1] [] [0, 1] rfl (pa_rV (As := [.int x1, .int x5]) (rest := [.int x4]) (T := TX4) X hP hD hS [0, 1] rfl rfl (c_X4_of hg_4 H.size) (cwV 2 hts gX4_matching_X4_of rfl rfl rfl (by decide +kernel) ⟨Nat.le_of_ble_eq_true rfl, Nat.le_of_ble_eq_true rfl⟩) (q0 := 0) rfl rfl rfl hl.1 rfl (Nat.le_of_ble_eq_true rfl) dX4_matching_27 ⟨Nat.zero_le _, Nat.zero_le _⟩) rfl rfl (by decide) rfl rfl (fun H locs hP hD hS => ?_)
        refine lv_iadd hx hb dX4_matching_30 ?_
        refine lv_istore (lv' := [(4, .int (x4 + u_3)), (0, .ref a_la), (1, .int x1), (2, .int x2), (3, .int x3), (5, .int x5)]) hx hb dX4_matching_31 hl (by decide) rfl (fun ls hl => ?_)
        refine lv_iinc (v := (x5 + (1 : Int32))) (lv' := [(5, .int (x5 + (1 : Int32))), (4, .int (x4 + u_3)), (0, .ref a_la), (1, .int x1), (2, .int x2), (3, .int x3)]) hx hb dX4_matching_33 hl (k := 5) rfl rfl (by decide) rfl (fun ls hl => ?_)
        refine lv_goto (tgt := 6) hx hb dX4_matching_36 (by decide) ?_
        exact hrec6 _ _ hf _ _  hP hD hS _ (lv_sub hl [2, 3, 4, 5, 1, 0] rfl)
set_option maxHeartbeats 4000000 in
set_option maxRecDepth 100000 in
theorem w_X4_matching_b0 {l : Launch} {D : va_G} {cI cJ : ClassId} {g : pa_GT} {a_la a_lc a_lr : Nat} {A : Nat → Prop} {p : Program} {e : Env} {s : State} {m : MethodId} {args : Array Value} {below : List Frame} {meth : Method} {c : Code} {x1 : Int32} {x2 : Int32} {x3 : Int32} {v_lc : Nat → Int32}  {o : Int32} (X : pa_X cX4_matching 6 (some .int) RX4 wsX4_matching D cI cJ g A p s m args meth c)  (hf : f_X4_matching x1 x2 x3 v_lc = some o) {H : Heap} {locs : List Loc} (hP : va_P D vwCl (wo_X4_matching cI cJ a_la a_lc a_lr v_lc) H) (hD : va_D A (wo_X4_matching cI cJ a_la a_lc a_lr v_lc)) (hS : va_S A s.heap H locs) {ls : Array Slot} (hl : lv_has ls 6 [(0, .ref a_la), (1, .int x1), (2, .int x2), (3, .int x3)]) : W p l e (headSpec wsX4_matching rm_X4_matching).room s m args below meth c H locs 0 0 (MQ below (va_Qi (fun r (_ : Unit) => r = o) (pa_QB D A (wo_X4_matching cI cJ a_la a_lc a_lr v_lc)) A) args s 0 0 A) (F0 m 0 ls []) := by
  obtain ⟨hx, hb, hr, hml, hown, hts, hK, hA, hG, hlk⟩ := id X
  delta f_X4_matching at hf
  refine lv_iconst (v := (0 : Int32)) hx hb dX4_matching_0 (by decide) ?_
  refine lv_istore (lv' := [(4, .int (0 : Int32)), (0, .ref a_la), (1, .int x1), (2, .int x2), (3, .int x3)]) hx hb dX4_matching_1 hl (by decide) rfl (fun ls hl => ?_)
  refine lv_iconst (v := (0 : Int32)) hx hb dX4_matching_3 (by decide) ?_
  refine lv_istore (lv' := [(5, .int (0 : Int32)), (4, .int (0 : Int32)), (0, .ref a_la), (1, .int x1), (2, .int x2), (3, .int x3)]) hx hb dX4_matching_4 hl (by decide) rfl (fun ls hl => ?_)
  exact w_X4_matching_L6 X  _ _ _ hf _ _  hP hD hS _ (lv_sub hl [2, 3, 4, 5, 1, 0] rfl)
set_option maxHeartbeats 4000000 in
set_option maxRecDepth 100000 in
theorem c_X4_matching {l : Launch} {D : va_G} {cI cJ : ClassId} {g : pa_GT} {a_la a_lc a_lr : Nat} {x1 : Int32} {x2 : Int32} {x3 : Int32} {v_lc : Nat → Int32} {o : Int32} (hf : f_X4_matching x1 x2 x3 v_lc = some o) : pa_Mi l yX4_matching wsX4_matching rm_X4_matching D cI cJ g [.ref a_la, .int x1, .int x2, .int x3] (wo_X4_matching cI cJ a_la a_lc a_lr v_lc) (wo_X4_matching cI cJ a_la a_lc a_lr v_lc) o := by
  intro sz
  refine pa_met (cc := cX4_matching) (maxL := 6) (ret := (some .int)) (lv := [(0, .ref a_la), (1, .int x1), (2, .int x2), (3, .int x3)]) (by decide) rfl (Nat.le_of_ble_eq_true rfl) rfl ?_
  intro p e s m below meth c X hsz hP hD ls hl
  subst hsz
  exact w_X4_matching_b0 X hf hP hD va_S.rf hl
abbrev wo_X4_having (cI cJ : ClassId) (a_la a_lc a_lr : Nat) (v_lc : Nat → Int32) : va_W := [(a_la, .inr (4, [.ref a_lc, .ref a_lr])), (a_lc, .inl (cI, 32, .inl v_lc))]
abbrev rm_X4_having : Room := { frames := 2, cells := 0, slots := 0, locals := 47 }
def f_X4_having (x1 : Int32) (x2 : Int32) (v_lc : Nat → Int32) : Option (Int32) :=
  (f_X4_matching x1 x2 x2 v_lc).bind fun u_1 =>
  some (u_1)
set_option maxHeartbeats 4000000 in
set_option maxRecDepth 100000 in
theorem w_X4_having_b0 {l : Launch} {D : va_G} {cI cJ : ClassId} {g : pa_GT} {a_la a_lc a_lr : Nat} {A : Nat → Prop} {p : Program} {e : Env} {s : State} {m : MethodId} {args : Array Value} {below : List Frame} {meth : Method} {c : Code} {x1 : Int32} {x2 : Int32} {v_lc : Nat → Int32}  {o : Int32} (X : pa_X cX4_having 3 (some .int) RX4 wsX4_having D cI cJ g A p s m args meth c)  (hf : f_X4_having x1 x2 v_lc = some o) {H : Heap} {locs : List Loc} (hP : va_P D vwCl (wo_X4_having cI cJ a_la a_lc a_lr v_lc) H) (hD : va_D A (wo_X4_having cI cJ a_la a_lc a_lr v_lc)) (hS : va_S A s.heap H locs) {ls : Array Slot} (hl : lv_has ls 3 [(0, .ref a_la), (1, .int x1), (2, .int x2)]) : W p l e (headSpec wsX4_having rm_X4_having).room s m args below meth c H locs 0 0 (MQ below (va_Qi (fun r (_ : Unit) => r = o) (pa_QB D A (wo_X4_having cI cJ a_la a_lc a_lr v_lc)) A) args s 0 0 A) (F0 m 0 ls []) := by
  obtain ⟨hx, hb, hr, hml, hown, hts, hK, hA, hG, hlk⟩ := id X
  delta f_X4_having at hf
  refine lv_aload_n hx hb dX4_having_0 rfl (lv_at hl 0 rfl) ?_
  refine lv_iload_n hx hb dX4_having_1 rfl (lv_at hl 1 rfl) ?_
  refine lv_iload_n hx hb dX4_having_2 rfl (lv_at hl 2 rfl) ?_
  refine lv_iload_n hx hb dX4_having_3 rfl (lv_at hl 2 rfl) ?_
  obtain ⟨u_1, hg_2, hf⟩ := pa_bd hf
  refine pa_ki (wc := (wo_X4_matching cI cJ a_la a_lc a_lr v_lc)) (wr := ([] : va_W)) (w1 := (wo_X4_matching cI cJ a_la a_lc a_lr v_lc)) (w2 := (wo_X4_having cI cJ a_la a_lc a_lr v_lc)) X hP hD hS [0, 1] [] [0, 1] rfl (pa_rV (As := [.int x1, .int x2, .int x2]) (rest := []) (T := TX4) X hP hD hS [0, 1] rfl rfl (c_X4_matching hg_2 H.size) (cwV 3 hts gX4_having_X4_matching rfl rfl rfl (by decide +kernel) ⟨Nat.le_of_ble_eq_true rfl, Nat.le_of_ble_eq_true rfl⟩) (q0 := 0) rfl rfl rfl hl.1 rfl (Nat.le_of_ble_eq_true rfl) dX4_having_4 ⟨Nat.zero_le _, Nat.zero_le _⟩) rfl rfl (by decide) rfl rfl (fun H locs hP hD hS => ?_)
  obtain rfl := Option.some.inj hf
  exact pa_ei X hP hD hS dX4_having_7
set_option maxHeartbeats 4000000 in
set_option maxRecDepth 100000 in
theorem c_X4_having {l : Launch} {D : va_G} {cI cJ : ClassId} {g : pa_GT} {a_la a_lc a_lr : Nat} {x1 : Int32} {x2 : Int32} {v_lc : Nat → Int32} {o : Int32} (hf : f_X4_having x1 x2 v_lc = some o) : pa_Mi l yX4_having wsX4_having rm_X4_having D cI cJ g [.ref a_la, .int x1, .int x2] (wo_X4_having cI cJ a_la a_lc a_lr v_lc) (wo_X4_having cI cJ a_la a_lc a_lr v_lc) o := by
  intro sz
  refine pa_met (cc := cX4_having) (maxL := 3) (ret := (some .int)) (lv := [(0, .ref a_la), (1, .int x1), (2, .int x2)]) (by decide) rfl (Nat.le_of_ble_eq_true rfl) rfl ?_
  intro p e s m below meth c X hsz hP hD ls hl
  subst hsz
  exact w_X4_having_b0 X hf hP hD va_S.rf hl
abbrev wo_X4_settle (cI cJ : ClassId) (a_la a_lc a_lr : Nat) (v_lc : Nat → Int32) : va_W := [(a_la, .inr (4, [.ref a_lc, .ref a_lr])), (a_lc, .inl (cI, 32, .inl v_lc))]
abbrev rm_X4_settle : Room := { frames := 3, cells := 0, slots := 0, locals := 69 }
theorem il_X4_settle_X4 : ∀ w ∈ wsX40, w ∈ wsX4_settle := by decide +kernel
theorem fk_X4_settle_0 : Cond.fieldLink RX4 9 "PostedAsks$Lands" "counts" "[I" ∈ wsX4_settle := by decide +kernel
def f_X4_settle (x1 : Int32) (x2 : Int32) (x3 : Int32) (v_lc : Nat → Int32) : Option (Int32 × (Nat → Int32)) :=
  (f_X4_of x1 x2 v_lc).bind fun u_1 =>
  (f_X4_having x1 (0 : Int32) v_lc).bind fun u_3 =>
  if ((u_3 - u_1) + x3) ≤ (50 : Int32) then
    if pa_ib ((x1 * (8 : Int32)) + x2) 32 = true then
      some (u_1, (upd v_lc (Int32.toNatClampNeg ((x1 * (8 : Int32)) + x2)) x3))
    else none
  else
    some ((-3 : Int32), v_lc)
set_option maxHeartbeats 4000000 in
set_option maxRecDepth 100000 in
theorem w_X4_settle_b0 {l : Launch} {D : va_G} {cI cJ : ClassId} {g : pa_GT} {a_la a_lc a_lr : Nat} {A : Nat → Prop} {p : Program} {e : Env} {s : State} {m : MethodId} {args : Array Value} {below : List Frame} {meth : Method} {c : Code} {x1 : Int32} {x2 : Int32} {x3 : Int32} {v_lc : Nat → Int32}  {o : Int32 × (Nat → Int32)} (X : pa_X cX4_settle 5 (some .int) RX4 wsX4_settle D cI cJ g A p s m args meth c)  (hf : f_X4_settle x1 x2 x3 v_lc = some o) {H : Heap} {locs : List Loc} (hP : va_P D vwCl (wo_X4_settle cI cJ a_la a_lc a_lr v_lc) H) (hD : va_D A (wo_X4_settle cI cJ a_la a_lc a_lr v_lc)) (hS : va_S A s.heap H locs) {ls : Array Slot} (hl : lv_has ls 5 [(0, .ref a_la), (1, .int x1), (2, .int x2), (3, .int x3)]) : W p l e (headSpec wsX4_settle rm_X4_settle).room s m args below meth c H locs 0 0 (MQ below (va_Qi (fun r (_ : Unit) => r = o.1) (pa_QB D A (wo_X4_settle cI cJ a_la a_lc a_lr o.2)) A) args s 0 0 A) (F0 m 0 ls []) := by
  obtain ⟨hx, hb, hr, hml, hown, hts, hK, hA, hG, hlk⟩ := id X
  delta f_X4_settle at hf
  refine lv_aload_n hx hb dX4_settle_0 rfl (lv_at hl 0 rfl) ?_
  refine lv_iload_n hx hb dX4_settle_1 rfl (lv_at hl 1 rfl) ?_
  refine lv_iload_n hx hb dX4_settle_2 rfl (lv_at hl 2 rfl) ?_
  obtain ⟨u_1, hg_2, hf⟩ := pa_bd hf
  refine pa_ki (wc := (wo_X4_of cI cJ a_la a_lc a_lr v_lc)) (wr := ([] : va_W)) (w1 := (wo_X4_of cI cJ a_la a_lc a_lr v_lc)) (w2 := (wo_X4_settle cI cJ a_la a_lc a_lr v_lc)) X hP hD hS [0, 1] [] [0, 1] rfl (pa_rV (As := [.int x1, .int x2]) (rest := []) (T := TX4) X hP hD hS [0, 1] rfl rfl (c_X4_of hg_2 H.size) (cwV 2 hts gX4_settle_X4_of rfl rfl rfl (by decide +kernel) ⟨Nat.le_of_ble_eq_true rfl, Nat.le_of_ble_eq_true rfl⟩) (q0 := 0) rfl rfl rfl hl.1 rfl (Nat.le_of_ble_eq_true rfl) dX4_settle_3 ⟨Nat.zero_le _, Nat.zero_le _⟩) rfl rfl (by decide) rfl rfl (fun H locs hP hD hS => ?_)
  refine lv_istore (lv' := [(4, .int u_1), (0, .ref a_la), (1, .int x1), (2, .int x2), (3, .int x3)]) hx hb dX4_settle_6 hl (by decide) rfl (fun ls hl => ?_)
  refine lv_aload_n hx hb dX4_settle_8 rfl (lv_at hl 1 rfl) ?_
  refine lv_iload_n hx hb dX4_settle_9 rfl (lv_at hl 2 rfl) ?_
  refine lv_iconst (v := (0 : Int32)) hx hb dX4_settle_10 (by decide) ?_
  obtain ⟨u_3, hg_4, hf⟩ := pa_bd hf
  refine pa_ki (wc := (wo_X4_having cI cJ a_la a_lc a_lr v_lc)) (wr := ([] : va_W)) (w1 := (wo_X4_having cI cJ a_la a_lc a_lr v_lc)) (w2 := (wo_X4_settle cI cJ a_la a_lc a_lr v_lc)) X hP hD hS [0, 1] [] [0, 1] rfl (pa_rV (As := [.int x1, .int (0 : Int32)]) (rest := []) (T := TX4) X hP hD hS [0, 1] rfl rfl (c_X4_having hg_4 H.size) (cwV 2 hts gX4_settle_X4_having rfl rfl rfl (by decide +kernel) ⟨Nat.le_of_ble_eq_true rfl, Nat.le_of_ble_eq_true rfl⟩) (q0 := 0) rfl rfl rfl hl.1 rfl (Nat.le_of_ble_eq_true rfl) dX4_settle_11 ⟨Nat.zero_le _, Nat.zero_le _⟩) rfl rfl (by decide) rfl rfl (fun H locs hP hD hS => ?_)
  refine lv_iload hx hb dX4_settle_14 (lv_at hl 0 rfl) ?_
  refine lv_isub hx hb dX4_settle_16 ?_
  refine lv_iload_n hx hb dX4_settle_17 rfl (lv_at hl 4 rfl) ?_
  refine lv_iadd hx hb dX4_settle_18 ?_
  refine lv_bipush (v := (50 : Int32)) hx hb dX4_settle_19 (by decide) ?_
  refine lv_icmp_le (tgt := 27) hx hb dX4_settle_21 (by decide) (fun c_5 => ?_) (fun c_5 => ?_)
  · have hf := (if_pos c_5).symm.trans hf
    refine lv_aload_n hx hb dX4_settle_27 rfl (lv_at hl 1 rfl) ?_
    refine va_get (D := D) (ci := 4) (v := .ref a_lc) (C := RX4) (T := TX4) (N := 2) hx hb hts il_X4_settle_X4 hown hK hP 0 rfl rfl 0 (by decide) (hts _ fk_X4_settle_0) (fun _ h9 => h9) rfl dX4_settle_28 ?_
    refine lv_iload_n hx hb dX4_settle_31 rfl (lv_at hl 2 rfl) ?_
    refine lv_bipush (v := (8 : Int32)) hx hb dX4_settle_32 (by decide) ?_
    refine lv_imul hx hb dX4_settle_34 ?_
    refine lv_iload_n hx hb dX4_settle_35 rfl (lv_at hl 3 rfl) ?_
    refine lv_iadd hx hb dX4_settle_36 ?_
    refine lv_iload_n hx hb dX4_settle_37 rfl (lv_at hl 4 rfl) ?_
    obtain ⟨hi_6, hf⟩ := pa_gd hf
    refine va_iast hx hb hK hP hD hS 1 0 rfl rfl hi_6 dX4_settle_38 (fun H locs hP hD hS => ?_)
    have hP : va_P D vwCl (wo_X4_settle cI cJ a_la a_lc a_lr (upd v_lc (Int32.toNatClampNeg ((x1 * (8 : Int32)) + x2)) x3)) H := hP
    have hD : va_D A (wo_X4_settle cI cJ a_la a_lc a_lr (upd v_lc (Int32.toNatClampNeg ((x1 * (8 : Int32)) + x2)) x3)) := hD
    refine lv_iload hx hb dX4_settle_39 (lv_at hl 0 rfl) ?_
    obtain rfl := Option.some.inj hf
    exact pa_ei X hP hD hS dX4_settle_41
  · have hf := (if_neg c_5).symm.trans hf
    refine lv_bipush (v := (-3 : Int32)) hx hb dX4_settle_24 (by decide) ?_
    obtain rfl := Option.some.inj hf
    exact pa_ei X hP hD hS dX4_settle_26
set_option maxHeartbeats 4000000 in
set_option maxRecDepth 100000 in
theorem c_X4_settle {l : Launch} {D : va_G} {cI cJ : ClassId} {g : pa_GT} {a_la a_lc a_lr : Nat} {x1 : Int32} {x2 : Int32} {x3 : Int32} {v_lc : Nat → Int32} {o : Int32 × (Nat → Int32)} (hf : f_X4_settle x1 x2 x3 v_lc = some o) : pa_Mi l yX4_settle wsX4_settle rm_X4_settle D cI cJ g [.ref a_la, .int x1, .int x2, .int x3] (wo_X4_settle cI cJ a_la a_lc a_lr v_lc) (wo_X4_settle cI cJ a_la a_lc a_lr o.2) o.1 := by
  intro sz
  refine pa_met (cc := cX4_settle) (maxL := 5) (ret := (some .int)) (lv := [(0, .ref a_la), (1, .int x1), (2, .int x2), (3, .int x3)]) (by decide) rfl (Nat.le_of_ble_eq_true rfl) rfl ?_
  intro p e s m below meth c X hsz hP hD ls hl
  subst hsz
  exact w_X4_settle_b0 X hf hP hD va_S.rf hl
abbrev wo_X4_changeRate (cI cJ : ClassId) (a_la a_lc a_lr : Nat) (v_lr : Nat → Int32) : va_W := [(a_la, .inr (4, [.ref a_lc, .ref a_lr])), (a_lr, .inl (cI, 8, .inl v_lr))]
abbrev rm_X4_changeRate : Room := { frames := 0, cells := 0, slots := 0, locals := 0 }
theorem il_X4_changeRate_X4 : ∀ w ∈ wsX40, w ∈ wsX4_changeRate := by decide +kernel
theorem fk_X4_changeRate_0 : Cond.fieldLink RX4 15 "PostedAsks$Lands" "rates" "[I" ∈ wsX4_changeRate := by decide +kernel
def f_X4_changeRate (x1 : Int32) (x2 : Int32) (v_lr : Nat → Int32) : Option (Int32 × (Nat → Int32)) :=
  if pa_ib x1 8 = true then
    some ((v_lr (Int32.toNatClampNeg x1)), (upd v_lr (Int32.toNatClampNeg x1) x2))
  else none
set_option maxHeartbeats 4000000 in
set_option maxRecDepth 100000 in
theorem w_X4_changeRate_b0 {l : Launch} {D : va_G} {cI cJ : ClassId} {g : pa_GT} {a_la a_lc a_lr : Nat} {A : Nat → Prop} {p : Program} {e : Env} {s : State} {m : MethodId} {args : Array Value} {below : List Frame} {meth : Method} {c : Code} {x1 : Int32} {x2 : Int32} {v_lr : Nat → Int32}  {o : Int32 × (Nat → Int32)} (X : pa_X cX4_changeRate 4 (some .int) RX4 wsX4_changeRate D cI cJ g A p s m args meth c)  (hf : f_X4_changeRate x1 x2 v_lr = some o) {H : Heap} {locs : List Loc} (hP : va_P D vwCl (wo_X4_changeRate cI cJ a_la a_lc a_lr v_lr) H) (hD : va_D A (wo_X4_changeRate cI cJ a_la a_lc a_lr v_lr)) (hS : va_S A s.heap H locs) {ls : Array Slot} (hl : lv_has ls 4 [(0, .ref a_la), (1, .int x1), (2, .int x2)]) : W p l e (headSpec wsX4_changeRate rm_X4_changeRate).room s m args below meth c H locs 0 0 (MQ below (va_Qi (fun r (_ : Unit) => r = o.1) (pa_QB D A (wo_X4_changeRate cI cJ a_la a_lc a_lr o.2)) A) args s 0 0 A) (F0 m 0 ls []) := by
  obtain ⟨hx, hb, hr, hml, hown, hts, hK, hA, hG, hlk⟩ := id X
  delta f_X4_changeRate at hf
  refine lv_aload_n hx hb dX4_changeRate_0 rfl (lv_at hl 0 rfl) ?_
  refine va_get (D := D) (ci := 4) (v := .ref a_lr) (C := RX4) (T := TX4) (N := 2) hx hb hts il_X4_changeRate_X4 hown hK hP 0 rfl rfl 1 (by decide) (hts _ fk_X4_changeRate_0) (fun _ h9 => h9) rfl dX4_changeRate_1 ?_
  refine lv_iload_n hx hb dX4_changeRate_4 rfl (lv_at hl 1 rfl) ?_
  obtain ⟨hi_1, hf⟩ := pa_gd hf
  refine va_iald hx hb hK hP 1 0 rfl rfl hi_1 dX4_changeRate_5 ?_
  refine lv_istore_n (lv' := [(3, .int (v_lr (Int32.toNatClampNeg x1))), (0, .ref a_la), (1, .int x1), (2, .int x2)]) hx hb dX4_changeRate_6 rfl hl (by decide) rfl (fun ls hl => ?_)
  refine lv_aload_n hx hb dX4_changeRate_7 rfl (lv_at hl 1 rfl) ?_
  refine va_get (D := D) (ci := 4) (v := .ref a_lr) (C := RX4) (T := TX4) (N := 2) hx hb hts il_X4_changeRate_X4 hown hK hP 0 rfl rfl 1 (by decide) (hts _ fk_X4_changeRate_0) (fun _ h9 => h9) rfl dX4_changeRate_8 ?_
  refine lv_iload_n hx hb dX4_changeRate_11 rfl (lv_at hl 2 rfl) ?_
  refine lv_iload_n hx hb dX4_changeRate_12 rfl (lv_at hl 3 rfl) ?_
  refine va_iast hx hb hK hP hD hS 1 0 rfl rfl hi_1 dX4_changeRate_13 (fun H locs hP hD hS => ?_)
  have hP : va_P D vwCl (wo_X4_changeRate cI cJ a_la a_lc a_lr (upd v_lr (Int32.toNatClampNeg x1) x2)) H := hP
  have hD : va_D A (wo_X4_changeRate cI cJ a_la a_lc a_lr (upd v_lr (Int32.toNatClampNeg x1) x2)) := hD
  refine lv_iload_n hx hb dX4_changeRate_14 rfl (lv_at hl 0 rfl) ?_
  obtain rfl := Option.some.inj hf
  exact pa_ei X hP hD hS dX4_changeRate_15
set_option maxHeartbeats 4000000 in
set_option maxRecDepth 100000 in
theorem c_X4_changeRate {l : Launch} {D : va_G} {cI cJ : ClassId} {g : pa_GT} {a_la a_lc a_lr : Nat} {x1 : Int32} {x2 : Int32} {v_lr : Nat → Int32} {o : Int32 × (Nat → Int32)} (hf : f_X4_changeRate x1 x2 v_lr = some o) : pa_Mi l yX4_changeRate wsX4_changeRate rm_X4_changeRate D cI cJ g [.ref a_la, .int x1, .int x2] (wo_X4_changeRate cI cJ a_la a_lc a_lr v_lr) (wo_X4_changeRate cI cJ a_la a_lc a_lr o.2) o.1 := by
  intro sz
  refine pa_met (cc := cX4_changeRate) (maxL := 4) (ret := (some .int)) (lv := [(0, .ref a_la), (1, .int x1), (2, .int x2)]) (by decide) rfl (Nat.le_of_ble_eq_true rfl) rfl ?_
  intro p e s m below meth c X hsz hP hD ls hl
  subst hsz
  exact w_X4_changeRate_b0 X hf hP hD va_S.rf hl
abbrev wo_X4_back (cI cJ : ClassId) (a_la a_lc a_lr : Nat) (v_lc : Nat → Int32) (v_lr : Nat → Int32) : va_W := [(a_la, .inr (4, [.ref a_lc, .ref a_lr])), (a_lc, .inl (cI, 32, .inl v_lc)), (a_lr, .inl (cI, 8, .inl v_lr))]
abbrev rm_X4_back : Room := { frames := 1, cells := 0, slots := 0, locals := 22 }
theorem il_X4_back_X4 : ∀ w ∈ wsX40, w ∈ wsX4_back := by decide +kernel
theorem fk_X4_back_0 : Cond.fieldLink RX4 15 "PostedAsks$Lands" "rates" "[I" ∈ wsX4_back := by decide +kernel
def f_X4_back_L5_body (x1 : Int32) (x2 : Int32) (v_lc : Nat → Int32) (v_lr : Nat → Int32) (rec5 : Int32 → Int32 → Option (Int32)) (x3 : Int32) (x4 : Int32) : Option (Int32) :=
  if (8 : Int32) ≤ x4 then
    some (x3)
  else
    if (x4 &&& x2) = x2 then
      (f_X4_of x1 x4 v_lc).bind fun u_3 =>
      if pa_ib x4 8 = true then
        rec5 (x3 + ((u_3 * (v_lr (Int32.toNatClampNeg x4))) / (100 : Int32))) (x4 + (1 : Int32))
      else none
    else
      rec5 x3 (x4 + (1 : Int32))
def f_X4_back_L5 (x1 : Int32) (x2 : Int32) (v_lc : Nat → Int32) (v_lr : Nat → Int32) : Nat → Int32 → Int32 → Option (Int32)
  | 0 => fun _ _ => none
  | n + 1 => f_X4_back_L5_body x1 x2 v_lc v_lr (f_X4_back_L5 x1 x2 v_lc v_lr n)
def f_X4_back (x1 : Int32) (x2 : Int32) (v_lc : Nat → Int32) (v_lr : Nat → Int32) : Option (Int32) :=
  f_X4_back_L5 x1 x2 v_lc v_lr pa_fu (0 : Int32) (4 : Int32)
set_option maxHeartbeats 4000000 in
set_option maxRecDepth 100000 in
theorem w_X4_back_L5 {l : Launch} {D : va_G} {cI cJ : ClassId} {g : pa_GT} {a_la a_lc a_lr : Nat} {A : Nat → Prop} {p : Program} {e : Env} {s : State} {m : MethodId} {args : Array Value} {below : List Frame} {meth : Method} {c : Code} {x1 : Int32} {x2 : Int32} {v_lc : Nat → Int32} {v_lr : Nat → Int32}  {o : Int32} (X : pa_X cX4_back 5 (some .int) RX4 wsX4_back D cI cJ g A p s m args meth c)  : ∀ (n : Nat) (x3 : Int32) (x4 : Int32), f_X4_back_L5 x1 x2 v_lc v_lr n x3 x4 = some o → ∀ (H : Heap) (locs : List Loc) , va_P D vwCl (wo_X4_back cI cJ a_la a_lc a_lr v_lc v_lr) H → va_D A (wo_X4_back cI cJ a_la a_lc a_lr v_lc v_lr) → va_S A s.heap H locs → ∀ (ls : Array Slot), lv_has ls 5 [(0, .ref a_la), (1, .int x1), (2, .int x2), (3, .int x3), (4, .int x4)] → W p l e (headSpec wsX4_back rm_X4_back).room s m args below meth c H locs 0 0 (MQ below (va_Qi (fun r (_ : Unit) => r = o) (pa_QB D A (wo_X4_back cI cJ a_la a_lc a_lr v_lc v_lr)) A) args s 0 0 A) (F0 m 5 ls []) := by
  obtain ⟨hx, hb, hr, hml, hown, hts, hK, hA, hG, hlk⟩ := id X
  intro n
  induction n with
  | zero =>
    intro x3 x4 hf
    have hf : (none : Option (Int32)) = some o := hf
    cases hf
  | succ n hrec5 =>
    intro x3 x4 hf H locs  hP hD hS ls hl
    have hf : f_X4_back_L5_body x1 x2 v_lc v_lr (f_X4_back_L5 x1 x2 v_lc v_lr n) x3 x4 = some o := hf
    delta f_X4_back_L5_body at hf
    generalize hgr : f_X4_back_L5 x1 x2 v_lc v_lr n = rec5 at hf hrec5
    refine lv_iload hx hb dX4_back_5 (lv_at hl 4 rfl) ?_
    refine lv_bipush (v := (8 : Int32)) hx hb dX4_back_7 (by decide) ?_
    refine lv_icmp_ge (tgt := 47) hx hb dX4_back_9 (by decide) (fun c_1 => ?_) (fun c_1 => ?_)
    · have hf := (if_pos c_1).symm.trans hf
      refine lv_iload_n hx hb dX4_back_47 rfl (lv_at hl 3 rfl) ?_
      obtain rfl := Option.some.inj hf
      exact pa_ei X hP hD hS dX4_back_48
    · have hf := (if_neg c_1).symm.trans hf
      refine lv_iload hx hb dX4_back_12 (lv_at hl 4 rfl) ?_
      refine lv_iload_n hx hb dX4_back_14 rfl (lv_at hl 2 rfl) ?_
      refine lv_iand hx hb dX4_back_15 ?_
      refine lv_iload_n hx hb dX4_back_16 rfl (lv_at hl 2 rfl) ?_
      refine lv_icmp_ne (tgt := 41) hx hb dX4_back_17 (by decide) (fun c_2 => ?_) (fun c_2 => ?_)
      · have hf := (if_neg c_2).symm.trans hf
        refine lv_iinc (v := (x4 + (1 : Int32))) (lv' := [(4, .int (x4 + (1 : Int32))), (0, .ref a_la), (1, .int x1), (2, .int x2), (3, .int x3)]) hx hb dX4_back_41 hl (k := 4) rfl rfl (by decide) rfl (fun ls hl => ?_)
        refine lv_goto (tgt := 5) hx hb dX4_back_44 (by decide) ?_
        exact hrec5 _ _ hf _ _  hP hD hS _ (lv_sub hl [1, 2, 3, 4, 0] rfl)
      · have hf := (if_pos c_2).symm.trans hf
        refine lv_iload_n hx hb dX4_back_20 rfl (lv_at hl 3 rfl) ?_
        refine lv_aload_n hx hb dX4_back_21 rfl (lv_at hl 0 rfl) ?_
        refine lv_iload_n hx hb dX4_back_22 rfl (lv_at hl 1 rfl) ?_
        refine lv_iload hx hb dX4_back_23 (lv_at hl 4 rfl) ?_
        obtain ⟨u_3, hg_4, hf⟩ := pa_bd hf
        refine pa_ki (wc := (wo_X4_of cI cJ a_la a_lc a_lr v_lc)) (wr := [(a_lr, .inl (cI, 8, .inl v_lr))]) (w1 := (wo_X4_of cI cJ a_la a_lc a_lr v_lc)) (w2 := (wo_X4_back cI cJ a_la a_lc a_lr v_lc v_lr)) X hP hD hS [0, 1] [2] [1, 2, 0] rfl (pa_rV (As := [.int x1, .int x4]) (rest := [.int x3]) (T := TX4) X hP hD hS [0, 1] rfl rfl (c_X4_of hg_4 H.size) (cwV 2 hts gX4_back_X4_of rfl rfl rfl (by decide +kernel) ⟨Nat.le_of_ble_eq_true rfl, Nat.le_of_ble_eq_true rfl⟩) (q0 := 0) rfl rfl rfl hl.1 rfl (Nat.le_of_ble_eq_true rfl) dX4_back_25 ⟨Nat.zero_le _, Nat.zero_le _⟩) rfl rfl (by decide) rfl rfl (fun H locs hP hD hS => ?_)
        refine lv_aload_n hx hb dX4_back_28 rfl (lv_at hl 0 rfl) ?_
        refine va_get (D := D) (ci := 4) (v := .ref a_lr) (C := RX4) (T := TX4) (N := 2) hx hb hts il_X4_back_X4 hown hK hP 0 rfl rfl 1 (by decide) (hts _ fk_X4_back_0) (fun _ h9 => h9) rfl dX4_back_29 ?_
        refine lv_iload hx hb dX4_back_32 (lv_at hl 4 rfl) ?_
        obtain ⟨hi_5, hf⟩ := pa_gd hf
        refine va_iald hx hb hK hP 2 0 rfl rfl hi_5 dX4_back_34 ?_
        refine lv_imul hx hb dX4_back_35 ?_
        refine lv_bipush (v := (100 : Int32)) hx hb dX4_back_36 (by decide) ?_
        refine lv_idiv hx hb dX4_back_38 (by decide) ?_
        refine lv_iadd hx hb dX4_back_39 ?_
        refine lv_istore_n (lv' := [(3, .int (x3 + ((u_3 * (v_lr (Int32.toNatClampNeg x4))) / (100 : Int32)))), (0, .ref a_la), (1, .int x1), (2, .int x2), (4, .int x4)]) hx hb dX4_back_40 rfl hl (by decide) rfl (fun ls hl => ?_)
        refine lv_iinc (v := (x4 + (1 : Int32))) (lv' := [(4, .int (x4 + (1 : Int32))), (3, .int (x3 + ((u_3 * (v_lr (Int32.toNatClampNeg x4))) / (100 : Int32)))), (0, .ref a_la), (1, .int x1), (2, .int x2)]) hx hb dX4_back_41 hl (k := 4) rfl rfl (by decide) rfl (fun ls hl => ?_)
        refine lv_goto (tgt := 5) hx hb dX4_back_44 (by decide) ?_
        exact hrec5 _ _ hf _ _  hP hD hS _ (lv_sub hl [2, 3, 4, 1, 0] rfl)
set_option maxHeartbeats 4000000 in
set_option maxRecDepth 100000 in
theorem w_X4_back_b0 {l : Launch} {D : va_G} {cI cJ : ClassId} {g : pa_GT} {a_la a_lc a_lr : Nat} {A : Nat → Prop} {p : Program} {e : Env} {s : State} {m : MethodId} {args : Array Value} {below : List Frame} {meth : Method} {c : Code} {x1 : Int32} {x2 : Int32} {v_lc : Nat → Int32} {v_lr : Nat → Int32}  {o : Int32} (X : pa_X cX4_back 5 (some .int) RX4 wsX4_back D cI cJ g A p s m args meth c)  (hf : f_X4_back x1 x2 v_lc v_lr = some o) {H : Heap} {locs : List Loc} (hP : va_P D vwCl (wo_X4_back cI cJ a_la a_lc a_lr v_lc v_lr) H) (hD : va_D A (wo_X4_back cI cJ a_la a_lc a_lr v_lc v_lr)) (hS : va_S A s.heap H locs) {ls : Array Slot} (hl : lv_has ls 5 [(0, .ref a_la), (1, .int x1), (2, .int x2)]) : W p l e (headSpec wsX4_back rm_X4_back).room s m args below meth c H locs 0 0 (MQ below (va_Qi (fun r (_ : Unit) => r = o) (pa_QB D A (wo_X4_back cI cJ a_la a_lc a_lr v_lc v_lr)) A) args s 0 0 A) (F0 m 0 ls []) := by
  obtain ⟨hx, hb, hr, hml, hown, hts, hK, hA, hG, hlk⟩ := id X
  delta f_X4_back at hf
  refine lv_iconst (v := (0 : Int32)) hx hb dX4_back_0 (by decide) ?_
  refine lv_istore_n (lv' := [(3, .int (0 : Int32)), (0, .ref a_la), (1, .int x1), (2, .int x2)]) hx hb dX4_back_1 rfl hl (by decide) rfl (fun ls hl => ?_)
  refine lv_iconst (v := (4 : Int32)) hx hb dX4_back_2 (by decide) ?_
  refine lv_istore (lv' := [(4, .int (4 : Int32)), (3, .int (0 : Int32)), (0, .ref a_la), (1, .int x1), (2, .int x2)]) hx hb dX4_back_3 hl (by decide) rfl (fun ls hl => ?_)
  exact w_X4_back_L5 X  _ _ _ hf _ _  hP hD hS _ (lv_sub hl [2, 3, 4, 1, 0] rfl)
set_option maxHeartbeats 4000000 in
set_option maxRecDepth 100000 in
theorem c_X4_back {l : Launch} {D : va_G} {cI cJ : ClassId} {g : pa_GT} {a_la a_lc a_lr : Nat} {x1 : Int32} {x2 : Int32} {v_lc : Nat → Int32} {v_lr : Nat → Int32} {o : Int32} (hf : f_X4_back x1 x2 v_lc v_lr = some o) : pa_Mi l yX4_back wsX4_back rm_X4_back D cI cJ g [.ref a_la, .int x1, .int x2] (wo_X4_back cI cJ a_la a_lc a_lr v_lc v_lr) (wo_X4_back cI cJ a_la a_lc a_lr v_lc v_lr) o := by
  intro sz
  refine pa_met (cc := cX4_back) (maxL := 5) (ret := (some .int)) (lv := [(0, .ref a_la), (1, .int x1), (2, .int x2)]) (by decide) rfl (Nat.le_of_ble_eq_true rfl) rfl ?_
  intro p e s m below meth c X hsz hP hD ls hl
  subst hsz
  exact w_X4_back_b0 X hf hP hD va_S.rf hl
abbrev wo_X4_everybody (cI cJ : ClassId) (a_la a_lc a_lr : Nat) (v_lc : Nat → Int32) : va_W := [(a_la, .inr (4, [.ref a_lc, .ref a_lr])), (a_lc, .inl (cI, 32, .inl v_lc))]
abbrev rm_X4_everybody : Room := { frames := 3, cells := 0, slots := 0, locals := 69 }
def f_X4_everybody_L4_body (v_lc : Nat → Int32) (rec4 : Int32 → Int32 → Option (Int32)) (x1 : Int32) (x2 : Int32) : Option (Int32) :=
  if (4 : Int32) ≤ x2 then
    some (x1)
  else
    (f_X4_having x2 (0 : Int32) v_lc).bind fun u_2 =>
    rec4 (x1 + u_2) (x2 + (1 : Int32))
def f_X4_everybody_L4 (v_lc : Nat → Int32) : Nat → Int32 → Int32 → Option (Int32)
  | 0 => fun _ _ => none
  | n + 1 => f_X4_everybody_L4_body v_lc (f_X4_everybody_L4 v_lc n)
def f_X4_everybody (v_lc : Nat → Int32) : Option (Int32) :=
  f_X4_everybody_L4 v_lc pa_fu (0 : Int32) (0 : Int32)
set_option maxHeartbeats 4000000 in
set_option maxRecDepth 100000 in
theorem w_X4_everybody_L4 {l : Launch} {D : va_G} {cI cJ : ClassId} {g : pa_GT} {a_la a_lc a_lr : Nat} {A : Nat → Prop} {p : Program} {e : Env} {s : State} {m : MethodId} {args : Array Value} {below : List Frame} {meth : Method} {c : Code} {v_lc : Nat → Int32}  {o : Int32} (X : pa_X cX4_everybody 3 (some .int) RX4 wsX4_everybody D cI cJ g A p s m args meth c)  : ∀ (n : Nat) (x1 : Int32) (x2 : Int32), f_X4_everybody_L4 v_lc n x1 x2 = some o → ∀ (H : Heap) (locs : List Loc) , va_P D vwCl (wo_X4_everybody cI cJ a_la a_lc a_lr v_lc) H → va_D A (wo_X4_everybody cI cJ a_la a_lc a_lr v_lc) → va_S A s.heap H locs → ∀ (ls : Array Slot), lv_has ls 3 [(0, .ref a_la), (1, .int x1), (2, .int x2)] → W p l e (headSpec wsX4_everybody rm_X4_everybody).room s m args below meth c H locs 0 0 (MQ below (va_Qi (fun r (_ : Unit) => r = o) (pa_QB D A (wo_X4_everybody cI cJ a_la a_lc a_lr v_lc)) A) args s 0 0 A) (F0 m 4 ls []) := by
  obtain ⟨hx, hb, hr, hml, hown, hts, hK, hA, hG, hlk⟩ := id X
  intro n
  induction n with
  | zero =>
    intro x1 x2 hf
    have hf : (none : Option (Int32)) = some o := hf
    cases hf
  | succ n hrec4 =>
    intro x1 x2 hf H locs  hP hD hS ls hl
    have hf : f_X4_everybody_L4_body v_lc (f_X4_everybody_L4 v_lc n) x1 x2 = some o := hf
    delta f_X4_everybody_L4_body at hf
    generalize hgr : f_X4_everybody_L4 v_lc n = rec4 at hf hrec4
    refine lv_iload_n hx hb dX4_everybody_4 rfl (lv_at hl 2 rfl) ?_
    refine lv_iconst (v := (4 : Int32)) hx hb dX4_everybody_5 (by decide) ?_
    refine lv_icmp_ge (tgt := 24) hx hb dX4_everybody_6 (by decide) (fun c_1 => ?_) (fun c_1 => ?_)
    · have hf := (if_pos c_1).symm.trans hf
      refine lv_iload_n hx hb dX4_everybody_24 rfl (lv_at hl 1 rfl) ?_
      obtain rfl := Option.some.inj hf
      exact pa_ei X hP hD hS dX4_everybody_25
    · have hf := (if_neg c_1).symm.trans hf
      refine lv_iload_n hx hb dX4_everybody_9 rfl (lv_at hl 1 rfl) ?_
      refine lv_aload_n hx hb dX4_everybody_10 rfl (lv_at hl 0 rfl) ?_
      refine lv_iload_n hx hb dX4_everybody_11 rfl (lv_at hl 2 rfl) ?_
      refine lv_iconst (v := (0 : Int32)) hx hb dX4_everybody_12 (by decide) ?_
      obtain ⟨u_2, hg_3, hf⟩ := pa_bd hf
      refine pa_ki (wc := (wo_X4_having cI cJ a_la a_lc a_lr v_lc)) (wr := ([] : va_W)) (w1 := (wo_X4_having cI cJ a_la a_lc a_lr v_lc)) (w2 := (wo_X4_everybody cI cJ a_la a_lc a_lr v_lc)) X hP hD hS [0, 1] [] [0, 1] rfl (pa_rV (As := [.int x2, .int (0 : Int32)]) (rest := [.int x1]) (T := TX4) X hP hD hS [0, 1] rfl rfl (c_X4_having hg_3 H.size) (cwV 2 hts gX4_everybody_X4_having rfl rfl rfl (by decide +kernel) ⟨Nat.le_of_ble_eq_true rfl, Nat.le_of_ble_eq_true rfl⟩) (q0 := 0) rfl rfl rfl hl.1 rfl (Nat.le_of_ble_eq_true rfl) dX4_everybody_13 ⟨Nat.zero_le _, Nat.zero_le _⟩) rfl rfl (by decide) rfl rfl (fun H locs hP hD hS => ?_)
      refine lv_iadd hx hb dX4_everybody_16 ?_
      refine lv_istore_n (lv' := [(1, .int (x1 + u_2)), (0, .ref a_la), (2, .int x2)]) hx hb dX4_everybody_17 rfl hl (by decide) rfl (fun ls hl => ?_)
      refine lv_iinc (v := (x2 + (1 : Int32))) (lv' := [(2, .int (x2 + (1 : Int32))), (1, .int (x1 + u_2)), (0, .ref a_la)]) hx hb dX4_everybody_18 hl (k := 2) rfl rfl (by decide) rfl (fun ls hl => ?_)
      refine lv_goto (tgt := 4) hx hb dX4_everybody_21 (by decide) ?_
      exact hrec4 _ _ hf _ _  hP hD hS _ (lv_sub hl [2, 1, 0] rfl)
set_option maxHeartbeats 4000000 in
set_option maxRecDepth 100000 in
theorem w_X4_everybody_b0 {l : Launch} {D : va_G} {cI cJ : ClassId} {g : pa_GT} {a_la a_lc a_lr : Nat} {A : Nat → Prop} {p : Program} {e : Env} {s : State} {m : MethodId} {args : Array Value} {below : List Frame} {meth : Method} {c : Code} {v_lc : Nat → Int32}  {o : Int32} (X : pa_X cX4_everybody 3 (some .int) RX4 wsX4_everybody D cI cJ g A p s m args meth c)  (hf : f_X4_everybody v_lc = some o) {H : Heap} {locs : List Loc} (hP : va_P D vwCl (wo_X4_everybody cI cJ a_la a_lc a_lr v_lc) H) (hD : va_D A (wo_X4_everybody cI cJ a_la a_lc a_lr v_lc)) (hS : va_S A s.heap H locs) {ls : Array Slot} (hl : lv_has ls 3 [(0, .ref a_la)]) : W p l e (headSpec wsX4_everybody rm_X4_everybody).room s m args below meth c H locs 0 0 (MQ below (va_Qi (fun r (_ : Unit) => r = o) (pa_QB D A (wo_X4_everybody cI cJ a_la a_lc a_lr v_lc)) A) args s 0 0 A) (F0 m 0 ls []) := by
  obtain ⟨hx, hb, hr, hml, hown, hts, hK, hA, hG, hlk⟩ := id X
  delta f_X4_everybody at hf
  refine lv_iconst (v := (0 : Int32)) hx hb dX4_everybody_0 (by decide) ?_
  refine lv_istore_n (lv' := [(1, .int (0 : Int32)), (0, .ref a_la)]) hx hb dX4_everybody_1 rfl hl (by decide) rfl (fun ls hl => ?_)
  refine lv_iconst (v := (0 : Int32)) hx hb dX4_everybody_2 (by decide) ?_
  refine lv_istore_n (lv' := [(2, .int (0 : Int32)), (1, .int (0 : Int32)), (0, .ref a_la)]) hx hb dX4_everybody_3 rfl hl (by decide) rfl (fun ls hl => ?_)
  exact w_X4_everybody_L4 X  _ _ _ hf _ _  hP hD hS _ (lv_sub hl [2, 1, 0] rfl)
set_option maxHeartbeats 4000000 in
set_option maxRecDepth 100000 in
theorem c_X4_everybody {l : Launch} {D : va_G} {cI cJ : ClassId} {g : pa_GT} {a_la a_lc a_lr : Nat}  {v_lc : Nat → Int32} {o : Int32} (hf : f_X4_everybody v_lc = some o) : pa_Mi l yX4_everybody wsX4_everybody rm_X4_everybody D cI cJ g [.ref a_la] (wo_X4_everybody cI cJ a_la a_lc a_lr v_lc) (wo_X4_everybody cI cJ a_la a_lc a_lr v_lc) o := by
  intro sz
  refine pa_met (cc := cX4_everybody) (maxL := 3) (ret := (some .int)) (lv := [(0, .ref a_la)]) (by decide) rfl (Nat.le_of_ble_eq_true rfl) rfl ?_
  intro p e s m below meth c X hsz hP hD ls hl
  subst hsz
  exact w_X4_everybody_b0 X hf hP hD va_S.rf hl
abbrev wo_X4_smallest (cI cJ : ClassId) (a_la a_lc a_lr : Nat) (v_lc : Nat → Int32) : va_W := [(a_la, .inr (4, [.ref a_lc, .ref a_lr])), (a_lc, .inl (cI, 32, .inl v_lc))]
abbrev rm_X4_smallest : Room := { frames := 3, cells := 0, slots := 0, locals := 69 }
def f_X4_smallest_L4_body (v_lc : Nat → Int32) (rec4 : Int32 → Int32 → Option (Int32)) (x1 : Int32) (x2 : Int32) : Option (Int32) :=
  if (4 : Int32) ≤ x2 then
    some (x1)
  else
    (f_X4_having x2 (0 : Int32) v_lc).bind fun u_2 =>
    if u_2 ≤ 0 then
      rec4 x1 (x2 + (1 : Int32))
    else
      if x1 = 0 then
        rec4 u_2 (x2 + (1 : Int32))
      else
        if x1 ≤ u_2 then
          rec4 x1 (x2 + (1 : Int32))
        else
          rec4 u_2 (x2 + (1 : Int32))
def f_X4_smallest_L4 (v_lc : Nat → Int32) : Nat → Int32 → Int32 → Option (Int32)
  | 0 => fun _ _ => none
  | n + 1 => f_X4_smallest_L4_body v_lc (f_X4_smallest_L4 v_lc n)
def f_X4_smallest (v_lc : Nat → Int32) : Option (Int32) :=
  f_X4_smallest_L4 v_lc pa_fu (0 : Int32) (0 : Int32)
set_option maxHeartbeats 4000000 in
set_option maxRecDepth 100000 in
theorem w_X4_smallest_L4 {l : Launch} {D : va_G} {cI cJ : ClassId} {g : pa_GT} {a_la a_lc a_lr : Nat} {A : Nat → Prop} {p : Program} {e : Env} {s : State} {m : MethodId} {args : Array Value} {below : List Frame} {meth : Method} {c : Code} {v_lc : Nat → Int32}  {o : Int32} (X : pa_X cX4_smallest 4 (some .int) RX4 wsX4_smallest D cI cJ g A p s m args meth c)  : ∀ (n : Nat) (x1 : Int32) (x2 : Int32), f_X4_smallest_L4 v_lc n x1 x2 = some o → ∀ (H : Heap) (locs : List Loc) , va_P D vwCl (wo_X4_smallest cI cJ a_la a_lc a_lr v_lc) H → va_D A (wo_X4_smallest cI cJ a_la a_lc a_lr v_lc) → va_S A s.heap H locs → ∀ (ls : Array Slot), lv_has ls 4 [(0, .ref a_la), (1, .int x1), (2, .int x2)] → W p l e (headSpec wsX4_smallest rm_X4_smallest).room s m args below meth c H locs 0 0 (MQ below (va_Qi (fun r (_ : Unit) => r = o) (pa_QB D A (wo_X4_smallest cI cJ a_la a_lc a_lr v_lc)) A) args s 0 0 A) (F0 m 4 ls []) := by
  obtain ⟨hx, hb, hr, hml, hown, hts, hK, hA, hG, hlk⟩ := id X
  intro n
  induction n with
  | zero =>
    intro x1 x2 hf
    have hf : (none : Option (Int32)) = some o := hf
    cases hf
  | succ n hrec4 =>
    intro x1 x2 hf H locs  hP hD hS ls hl
    have hf : f_X4_smallest_L4_body v_lc (f_X4_smallest_L4 v_lc n) x1 x2 = some o := hf
    delta f_X4_smallest_L4_body at hf
    generalize hgr : f_X4_smallest_L4 v_lc n = rec4 at hf hrec4
    refine lv_iload_n hx hb dX4_smallest_4 rfl (lv_at hl 2 rfl) ?_
    refine lv_iconst (v := (4 : Int32)) hx hb dX4_smallest_5 (by decide) ?_
    refine lv_icmp_ge (tgt := 37) hx hb dX4_smallest_6 (by decide) (fun c_1 => ?_) (fun c_1 => ?_)
    · have hf := (if_pos c_1).symm.trans hf
      refine lv_iload_n hx hb dX4_smallest_37 rfl (lv_at hl 1 rfl) ?_
      obtain rfl := Option.some.inj hf
      exact pa_ei X hP hD hS dX4_smallest_38
    · have hf := (if_neg c_1).symm.trans hf
      refine lv_aload_n hx hb dX4_smallest_9 rfl (lv_at hl 0 rfl) ?_
      refine lv_iload_n hx hb dX4_smallest_10 rfl (lv_at hl 2 rfl) ?_
      refine lv_iconst (v := (0 : Int32)) hx hb dX4_smallest_11 (by decide) ?_
      obtain ⟨u_2, hg_3, hf⟩ := pa_bd hf
      refine pa_ki (wc := (wo_X4_having cI cJ a_la a_lc a_lr v_lc)) (wr := ([] : va_W)) (w1 := (wo_X4_having cI cJ a_la a_lc a_lr v_lc)) (w2 := (wo_X4_smallest cI cJ a_la a_lc a_lr v_lc)) X hP hD hS [0, 1] [] [0, 1] rfl (pa_rV (As := [.int x2, .int (0 : Int32)]) (rest := []) (T := TX4) X hP hD hS [0, 1] rfl rfl (c_X4_having hg_3 H.size) (cwV 2 hts gX4_smallest_X4_having rfl rfl rfl (by decide +kernel) ⟨Nat.le_of_ble_eq_true rfl, Nat.le_of_ble_eq_true rfl⟩) (q0 := 0) rfl rfl rfl hl.1 rfl (Nat.le_of_ble_eq_true rfl) dX4_smallest_12 ⟨Nat.zero_le _, Nat.zero_le _⟩) rfl rfl (by decide) rfl rfl (fun H locs hP hD hS => ?_)
      refine lv_istore_n (lv' := [(3, .int u_2), (0, .ref a_la), (1, .int x1), (2, .int x2)]) hx hb dX4_smallest_15 rfl hl (by decide) rfl (fun ls hl => ?_)
      refine lv_iload_n hx hb dX4_smallest_16 rfl (lv_at hl 0 rfl) ?_
      refine lv_if_le (tgt := 31) hx hb dX4_smallest_17 (by decide) (fun c_4 => ?_) (fun c_4 => ?_)
      · have hf := (if_pos c_4).symm.trans hf
        refine lv_iinc (v := (x2 + (1 : Int32))) (lv' := [(2, .int (x2 + (1 : Int32))), (3, .int u_2), (0, .ref a_la), (1, .int x1)]) hx hb dX4_smallest_31 hl (k := 3) rfl rfl (by decide) rfl (fun ls hl => ?_)
        refine lv_goto (tgt := 4) hx hb dX4_smallest_34 (by decide) ?_
        exact hrec4 _ _ hf _ _  hP hD hS _ (lv_sub hl [2, 3, 0] rfl)
      · have hf := (if_neg c_4).symm.trans hf
        refine lv_iload_n hx hb dX4_smallest_20 rfl (lv_at hl 2 rfl) ?_
        refine lv_if_eq (tgt := 29) hx hb dX4_smallest_21 (by decide) (fun c_5 => ?_) (fun c_5 => ?_)
        · have hf := (if_pos c_5).symm.trans hf
          refine lv_iload_n hx hb dX4_smallest_29 rfl (lv_at hl 0 rfl) ?_
          refine lv_istore_n (lv' := [(1, .int u_2), (3, .int u_2), (0, .ref a_la), (2, .int x2)]) hx hb dX4_smallest_30 rfl hl (by decide) rfl (fun ls hl => ?_)
          refine lv_iinc (v := (x2 + (1 : Int32))) (lv' := [(2, .int (x2 + (1 : Int32))), (1, .int u_2), (3, .int u_2), (0, .ref a_la)]) hx hb dX4_smallest_31 hl (k := 3) rfl rfl (by decide) rfl (fun ls hl => ?_)
          refine lv_goto (tgt := 4) hx hb dX4_smallest_34 (by decide) ?_
          exact hrec4 _ _ hf _ _  hP hD hS _ (lv_sub hl [3, 1, 0] rfl)
        · have hf := (if_neg c_5).symm.trans hf
          refine lv_iload_n hx hb dX4_smallest_24 rfl (lv_at hl 0 rfl) ?_
          refine lv_iload_n hx hb dX4_smallest_25 rfl (lv_at hl 2 rfl) ?_
          refine lv_icmp_ge (tgt := 31) hx hb dX4_smallest_26 (by decide) (fun c_6 => ?_) (fun c_6 => ?_)
          · have hf := (if_pos c_6).symm.trans hf
            refine lv_iinc (v := (x2 + (1 : Int32))) (lv' := [(2, .int (x2 + (1 : Int32))), (3, .int u_2), (0, .ref a_la), (1, .int x1)]) hx hb dX4_smallest_31 hl (k := 3) rfl rfl (by decide) rfl (fun ls hl => ?_)
            refine lv_goto (tgt := 4) hx hb dX4_smallest_34 (by decide) ?_
            exact hrec4 _ _ hf _ _  hP hD hS _ (lv_sub hl [2, 3, 0] rfl)
          · have hf := (if_neg c_6).symm.trans hf
            refine lv_iload_n hx hb dX4_smallest_29 rfl (lv_at hl 0 rfl) ?_
            refine lv_istore_n (lv' := [(1, .int u_2), (3, .int u_2), (0, .ref a_la), (2, .int x2)]) hx hb dX4_smallest_30 rfl hl (by decide) rfl (fun ls hl => ?_)
            refine lv_iinc (v := (x2 + (1 : Int32))) (lv' := [(2, .int (x2 + (1 : Int32))), (1, .int u_2), (3, .int u_2), (0, .ref a_la)]) hx hb dX4_smallest_31 hl (k := 3) rfl rfl (by decide) rfl (fun ls hl => ?_)
            refine lv_goto (tgt := 4) hx hb dX4_smallest_34 (by decide) ?_
            exact hrec4 _ _ hf _ _  hP hD hS _ (lv_sub hl [3, 1, 0] rfl)
set_option maxHeartbeats 4000000 in
set_option maxRecDepth 100000 in
theorem w_X4_smallest_b0 {l : Launch} {D : va_G} {cI cJ : ClassId} {g : pa_GT} {a_la a_lc a_lr : Nat} {A : Nat → Prop} {p : Program} {e : Env} {s : State} {m : MethodId} {args : Array Value} {below : List Frame} {meth : Method} {c : Code} {v_lc : Nat → Int32}  {o : Int32} (X : pa_X cX4_smallest 4 (some .int) RX4 wsX4_smallest D cI cJ g A p s m args meth c)  (hf : f_X4_smallest v_lc = some o) {H : Heap} {locs : List Loc} (hP : va_P D vwCl (wo_X4_smallest cI cJ a_la a_lc a_lr v_lc) H) (hD : va_D A (wo_X4_smallest cI cJ a_la a_lc a_lr v_lc)) (hS : va_S A s.heap H locs) {ls : Array Slot} (hl : lv_has ls 4 [(0, .ref a_la)]) : W p l e (headSpec wsX4_smallest rm_X4_smallest).room s m args below meth c H locs 0 0 (MQ below (va_Qi (fun r (_ : Unit) => r = o) (pa_QB D A (wo_X4_smallest cI cJ a_la a_lc a_lr v_lc)) A) args s 0 0 A) (F0 m 0 ls []) := by
  obtain ⟨hx, hb, hr, hml, hown, hts, hK, hA, hG, hlk⟩ := id X
  delta f_X4_smallest at hf
  refine lv_iconst (v := (0 : Int32)) hx hb dX4_smallest_0 (by decide) ?_
  refine lv_istore_n (lv' := [(1, .int (0 : Int32)), (0, .ref a_la)]) hx hb dX4_smallest_1 rfl hl (by decide) rfl (fun ls hl => ?_)
  refine lv_iconst (v := (0 : Int32)) hx hb dX4_smallest_2 (by decide) ?_
  refine lv_istore_n (lv' := [(2, .int (0 : Int32)), (1, .int (0 : Int32)), (0, .ref a_la)]) hx hb dX4_smallest_3 rfl hl (by decide) rfl (fun ls hl => ?_)
  exact w_X4_smallest_L4 X  _ _ _ hf _ _  hP hD hS _ (lv_sub hl [2, 1, 0] rfl)
set_option maxHeartbeats 4000000 in
set_option maxRecDepth 100000 in
theorem c_X4_smallest {l : Launch} {D : va_G} {cI cJ : ClassId} {g : pa_GT} {a_la a_lc a_lr : Nat}  {v_lc : Nat → Int32} {o : Int32} (hf : f_X4_smallest v_lc = some o) : pa_Mi l yX4_smallest wsX4_smallest rm_X4_smallest D cI cJ g [.ref a_la] (wo_X4_smallest cI cJ a_la a_lc a_lr v_lc) (wo_X4_smallest cI cJ a_la a_lc a_lr v_lc) o := by
  intro sz
  refine pa_met (cc := cX4_smallest) (maxL := 4) (ret := (some .int)) (lv := [(0, .ref a_la)]) (by decide) rfl (Nat.le_of_ble_eq_true rfl) rfl ?_
  intro p e s m below meth c X hsz hP hD ls hl
  subst hsz
  exact w_X4_smallest_b0 X hf hP hD va_S.rf hl
abbrev wo_X4_empty (cI cJ : ClassId) (a_la a_lc a_lr : Nat) (v_lc : Nat → Int32) : va_W := [(a_la, .inr (4, [.ref a_lc, .ref a_lr])), (a_lc, .inl (cI, 32, .inl v_lc))]
abbrev rm_X4_empty : Room := { frames := 1, cells := 0, slots := 0, locals := 23 }
theorem il_X4_empty_X4 : ∀ w ∈ wsX40, w ∈ wsX4_empty := by decide +kernel
theorem fk_X4_empty_0 : Cond.fieldLink RX4 9 "PostedAsks$Lands" "counts" "[I" ∈ wsX4_empty := by decide +kernel
def f_X4_empty (v_lc : Nat → Int32) : Option ((Nat → Int32)) :=
  some ((pa_fillI v_lc 32 (0 : Int32)))
set_option maxHeartbeats 4000000 in
set_option maxRecDepth 100000 in
theorem w_X4_empty_b0 {l : Launch} {D : va_G} {cI cJ : ClassId} {g : pa_GT} {a_la a_lc a_lr : Nat} {A : Nat → Prop} {p : Program} {e : Env} {s : State} {m : MethodId} {args : Array Value} {below : List Frame} {meth : Method} {c : Code} {v_lc : Nat → Int32}  {o : (Nat → Int32)} (X : pa_X cX4_empty 1 none RX4 wsX4_empty D cI cJ g A p s m args meth c)  (hf : f_X4_empty v_lc = some o) {H : Heap} {locs : List Loc} (hP : va_P D vwCl (wo_X4_empty cI cJ a_la a_lc a_lr v_lc) H) (hD : va_D A (wo_X4_empty cI cJ a_la a_lc a_lr v_lc)) (hS : va_S A s.heap H locs) {ls : Array Slot} (hl : lv_has ls 1 [(0, .ref a_la)]) : W p l e (headSpec wsX4_empty rm_X4_empty).room s m args below meth c H locs 0 0 (MQ below (va_Qv (fun (_ : Unit) => True) (pa_QB D A (wo_X4_empty cI cJ a_la a_lc a_lr o)) A) args s 0 0 A) (F0 m 0 ls []) := by
  obtain ⟨hx, hb, hr, hml, hown, hts, hK, hA, hG, hlk⟩ := id X
  delta f_X4_empty at hf
  refine lv_aload_n hx hb dX4_empty_0 rfl (lv_at hl 0 rfl) ?_
  refine va_get (D := D) (ci := 4) (v := .ref a_lc) (C := RX4) (T := TX4) (N := 2) hx hb hts il_X4_empty_X4 hown hK hP 0 rfl rfl 0 (by decide) (hts _ fk_X4_empty_0) (fun _ h9 => h9) rfl dX4_empty_1 ?_
  refine lv_iconst (v := (0 : Int32)) hx hb dX4_empty_4 (by decide) ?_
  refine pa_kv (wc := [(a_lc, .inl (cI, 32, .inl v_lc))]) (wr := [(a_la, .inr (4, [.ref a_lc, .ref a_lr]))]) (w1 := [(a_lc, .inl (cI, 32, .inl (pa_fillI v_lc 32 (0 : Int32))))]) (w2 := (wo_X4_empty cI cJ a_la a_lc a_lr (pa_fillI v_lc 32 (0 : Int32)))) X hP hD hS [1] [0] [0, 1] rfl (pa_rS (As := [.ref a_lc, .int (0 : Int32)]) (rest := []) X hP hD hS [1] rfl rfl (c_fillI (by decide) H.size) (va_cwS 2 hts gX4_empty_J7_fill_53178 rfl rfl rfl (by decide +kernel) ⟨Nat.le_of_ble_eq_true rfl, Nat.le_of_ble_eq_true rfl⟩) rfl hl.1 rfl (Nat.le_of_ble_eq_true rfl) dX4_empty_5 ⟨Nat.zero_le _, Nat.zero_le _⟩) rfl rfl (by decide) rfl rfl (fun H locs hP hD hS => ?_)
  obtain rfl := Option.some.inj hf
  exact pa_ev X hP hD hS dX4_empty_8
set_option maxHeartbeats 4000000 in
set_option maxRecDepth 100000 in
theorem c_X4_empty {l : Launch} {D : va_G} {cI cJ : ClassId} {g : pa_GT} {a_la a_lc a_lr : Nat}  {v_lc : Nat → Int32} {o : (Nat → Int32)} (hf : f_X4_empty v_lc = some o) : pa_Mv l yX4_empty wsX4_empty rm_X4_empty D cI cJ g [.ref a_la] (wo_X4_empty cI cJ a_la a_lc a_lr v_lc) (wo_X4_empty cI cJ a_la a_lc a_lr o) := by
  intro sz
  refine pa_met (cc := cX4_empty) (maxL := 1) (ret := none) (lv := [(0, .ref a_la)]) (by decide) rfl (Nat.le_of_ble_eq_true rfl) rfl ?_
  intro p e s m below meth c X hsz hP hD ls hl
  subst hsz
  exact w_X4_empty_b0 X hf hP hD va_S.rf hl
