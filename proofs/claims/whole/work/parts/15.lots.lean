abbrev wo_X5_choose (cI cJ : ClassId) (a_lo a_lt a_lw : Nat) (v_lt : Nat → Int64) : va_W := [(a_lo, .inr (5, [.ref a_lt, .ref a_lw])), (a_lt, .inl (cJ, 1326, .inr (.inl v_lt)))]
abbrev rm_X5_choose : Room := { frames := 1, cells := 0, slots := 0, locals := 22 }
theorem il_X5_choose_X5 : ∀ w ∈ wsX50, w ∈ wsX5_choose := by decide +kernel
theorem fk_X5_choose_0 : Cond.initialized RX9 ∈ wsX5_choose := by decide +kernel
theorem fk_X5_choose_1 : Cond.static yX9_within ∈ wsX5_choose := by decide +kernel
theorem fk_X5_choose_2 : Cond.fieldLink RX5 9 "PostedAsks$Lots" "triangle" "[J" ∈ wsX5_choose := by decide +kernel
def f_X5_choose (x1 : Int32) (x2 : Int32) (v_lt : Nat → Int64) : Option (Int64) :=
  (f_X9_within x1 (0 : Int32) (50 : Int32)).bind fun u_1 =>
  if u_1 = 0 then
    some ((0 : Int64))
  else
    (f_X9_within x2 (0 : Int32) x1).bind fun u_4 =>
    if u_4 = 0 then
      some ((0 : Int64))
    else
      if pa_ib (((x1 * (x1 + (1 : Int32))) / (2 : Int32)) + x2) 1326 = true then
        some ((v_lt (Int32.toNatClampNeg (((x1 * (x1 + (1 : Int32))) / (2 : Int32)) + x2))))
      else none
set_option maxHeartbeats 4000000 in
set_option maxRecDepth 100000 in
theorem w_X5_choose_b0 {l : Launch} {D : va_G} {cI cJ : ClassId} {g : pa_GT} {a_lo a_lt a_lw : Nat} {A : Nat → Prop} {p : Program} {e : Env} {s : State} {m : MethodId} {args : Array Value} {below : List Frame} {meth : Method} {c : Code} {x1 : Int32} {x2 : Int32} {v_lt : Nat → Int64}  {o : Int64} (X : pa_X cX5_choose 3 (some .long) RX5 wsX5_choose D cI cJ g A p s m args meth c)  (hf : f_X5_choose x1 x2 v_lt = some o) {H : Heap} {locs : List Loc} (hP : va_P D vwCl (wo_X5_choose cI cJ a_lo a_lt a_lw v_lt) H) (hD : va_D A (wo_X5_choose cI cJ a_lo a_lt a_lw v_lt)) (hS : va_S A s.heap H locs) {ls : Array Slot} (hl : lv_has ls 3 [(0, .ref a_lo), (1, .int x1), (2, .int x2)]) : W p l e (headSpec wsX5_choose rm_X5_choose).room s m args below meth c H locs 0 0 (MQ below (va_Ql (fun r (_ : Unit) => r = o) (pa_QB D A (wo_X5_choose cI cJ a_lo a_lt a_lw v_lt)) A) args s 0 0 A) (F0 m 0 ls []) := by
  obtain ⟨hx, hb, hr, hml, hown, hts, hK, hA, hG, hlk⟩ := id X
  delta f_X5_choose at hf
  refine lv_iload_n hx hb dX5_choose_0 rfl (lv_at hl 1 rfl) ?_
  refine lv_iconst (v := (0 : Int32)) hx hb dX5_choose_1 (by decide) ?_
  refine lv_bipush (v := (50 : Int32)) hx hb dX5_choose_2 (by decide) ?_
  obtain ⟨u_1, hg_2, hf⟩ := pa_bd hf
  refine pa_ki (wc := ([] : va_W)) (wr := [(a_lo, .inr (5, [.ref a_lt, .ref a_lw])), (a_lt, .inl (cJ, 1326, .inr (.inl v_lt)))]) (w1 := ([] : va_W)) (w2 := (wo_X5_choose cI cJ a_lo a_lt a_lw v_lt)) X hP hD hS [] [0, 1] [0, 1] rfl (pa_rN (As := [.int x1, .int (0 : Int32), .int (50 : Int32)]) (rest := []) X hP hD hS [] rfl rfl (c_X9_within hg_2 H.size) (va_cnB 3 hts gX5_choose_X9_within_n18 rfl rfl rfl (hG.1 _ (List.mem_of_getElem? (i := 19) rfl)) (hts _ fk_X5_choose_0) (by decide +kernel) ⟨Nat.le_of_ble_eq_true rfl, Nat.le_of_ble_eq_true rfl⟩) (hts _ fk_X5_choose_1) rfl hl.1 rfl (Nat.le_of_ble_eq_true rfl) dX5_choose_4 ⟨Nat.zero_le _, Nat.zero_le _⟩) rfl rfl (by decide) rfl rfl (fun H locs hP hD hS => ?_)
  refine lv_if_eq (tgt := 36) hx hb dX5_choose_7 (by decide) (fun c_3 => ?_) (fun c_3 => ?_)
  · have hf := (if_pos c_3).symm.trans hf
    refine lv_lconst (v := (0 : Int64)) hx hb dX5_choose_36 (by decide) ?_
    obtain rfl := Option.some.inj hf
    exact pa_el X hP hD hS dX5_choose_37
  · have hf := (if_neg c_3).symm.trans hf
    refine lv_iload_n hx hb dX5_choose_10 rfl (lv_at hl 2 rfl) ?_
    refine lv_iconst (v := (0 : Int32)) hx hb dX5_choose_11 (by decide) ?_
    refine lv_iload_n hx hb dX5_choose_12 rfl (lv_at hl 1 rfl) ?_
    obtain ⟨u_4, hg_5, hf⟩ := pa_bd hf
    refine pa_ki (wc := ([] : va_W)) (wr := [(a_lo, .inr (5, [.ref a_lt, .ref a_lw])), (a_lt, .inl (cJ, 1326, .inr (.inl v_lt)))]) (w1 := ([] : va_W)) (w2 := (wo_X5_choose cI cJ a_lo a_lt a_lw v_lt)) X hP hD hS [] [0, 1] [0, 1] rfl (pa_rN (As := [.int x2, .int (0 : Int32), .int x1]) (rest := []) X hP hD hS [] rfl rfl (c_X9_within hg_5 H.size) (va_cnB 3 hts gX5_choose_X9_within_n18 rfl rfl rfl (hG.1 _ (List.mem_of_getElem? (i := 19) rfl)) (hts _ fk_X5_choose_0) (by decide +kernel) ⟨Nat.le_of_ble_eq_true rfl, Nat.le_of_ble_eq_true rfl⟩) (hts _ fk_X5_choose_1) rfl hl.1 rfl (Nat.le_of_ble_eq_true rfl) dX5_choose_13 ⟨Nat.zero_le _, Nat.zero_le _⟩) rfl rfl (by decide) rfl rfl (fun H locs hP hD hS => ?_)
    refine lv_if_eq (tgt := 36) hx hb dX5_choose_16 (by decide) (fun c_6 => ?_) (fun c_6 => ?_)
    · have hf := (if_pos c_6).symm.trans hf
      refine lv_lconst (v := (0 : Int64)) hx hb dX5_choose_36 (by decide) ?_
      obtain rfl := Option.some.inj hf
      exact pa_el X hP hD hS dX5_choose_37
    · have hf := (if_neg c_6).symm.trans hf
      refine lv_aload_n hx hb dX5_choose_19 rfl (lv_at hl 0 rfl) ?_
      refine va_get (D := D) (ci := 5) (v := .ref a_lt) (C := RX5) (T := TX5) (N := 2) hx hb hts il_X5_choose_X5 hown hK hP 0 rfl rfl 0 (by decide) (hts _ fk_X5_choose_2) (fun _ h9 => h9) rfl dX5_choose_20 ?_
      refine lv_iload_n hx hb dX5_choose_23 rfl (lv_at hl 1 rfl) ?_
      refine lv_iload_n hx hb dX5_choose_24 rfl (lv_at hl 1 rfl) ?_
      refine lv_iconst (v := (1 : Int32)) hx hb dX5_choose_25 (by decide) ?_
      refine lv_iadd hx hb dX5_choose_26 ?_
      refine lv_imul hx hb dX5_choose_27 ?_
      refine lv_iconst (v := (2 : Int32)) hx hb dX5_choose_28 (by decide) ?_
      refine lv_idiv hx hb dX5_choose_29 (by decide) ?_
      refine lv_iload_n hx hb dX5_choose_30 rfl (lv_at hl 2 rfl) ?_
      refine lv_iadd hx hb dX5_choose_31 ?_
      obtain ⟨hi_7, hf⟩ := pa_gd hf
      refine va_lald hx hb hK hP 1 1 rfl rfl hi_7 dX5_choose_32 ?_
      refine lv_goto (tgt := 37) hx hb dX5_choose_33 (by decide) ?_
      obtain rfl := Option.some.inj hf
      exact pa_el X hP hD hS dX5_choose_37
set_option maxHeartbeats 4000000 in
set_option maxRecDepth 100000 in
theorem c_X5_choose {l : Launch} {D : va_G} {cI cJ : ClassId} {g : pa_GT} {a_lo a_lt a_lw : Nat} {x1 : Int32} {x2 : Int32} {v_lt : Nat → Int64} {o : Int64} (hf : f_X5_choose x1 x2 v_lt = some o) : pa_Ml l yX5_choose wsX5_choose rm_X5_choose D cI cJ g [.ref a_lo, .int x1, .int x2] (wo_X5_choose cI cJ a_lo a_lt a_lw v_lt) (wo_X5_choose cI cJ a_lo a_lt a_lw v_lt) o := by
  intro sz
  refine pa_met (cc := cX5_choose) (maxL := 3) (ret := (some .long)) (lv := [(0, .ref a_lo), (1, .int x1), (2, .int x2)]) (by decide) rfl (Nat.le_of_ble_eq_true rfl) rfl ?_
  intro p e s m below meth c X hsz hP hD ls hl
  subst hsz
  exact w_X5_choose_b0 X hf hP hD va_S.rf hl
abbrev wo_X5_just (cI cJ : ClassId) (a_lo a_lt a_lw : Nat) (v_lt : Nat → Int64) : va_W := [(a_lo, .inr (5, [.ref a_lt, .ref a_lw])), (a_lt, .inl (cJ, 1326, .inr (.inl v_lt)))]
abbrev rm_X5_just : Room := { frames := 2, cells := 0, slots := 0, locals := 44 }
def f_X5_just (x1 : Int32) (x2 : Int32) (x3 : Int32) (x4 : Int32) (v_lt : Nat → Int64) : Option (Int64) :=
  (f_X5_choose x2 x4 v_lt).bind fun u_1 =>
  (f_X5_choose (x1 - x2) (x3 - x4) v_lt).bind fun u_3 =>
  some ((u_1 * u_3))
set_option maxHeartbeats 4000000 in
set_option maxRecDepth 100000 in
theorem w_X5_just_b0 {l : Launch} {D : va_G} {cI cJ : ClassId} {g : pa_GT} {a_lo a_lt a_lw : Nat} {A : Nat → Prop} {p : Program} {e : Env} {s : State} {m : MethodId} {args : Array Value} {below : List Frame} {meth : Method} {c : Code} {x1 : Int32} {x2 : Int32} {x3 : Int32} {x4 : Int32} {v_lt : Nat → Int64}  {o : Int64} (X : pa_X cX5_just 5 (some .long) RX5 wsX5_just D cI cJ g A p s m args meth c)  (hf : f_X5_just x1 x2 x3 x4 v_lt = some o) {H : Heap} {locs : List Loc} (hP : va_P D vwCl (wo_X5_just cI cJ a_lo a_lt a_lw v_lt) H) (hD : va_D A (wo_X5_just cI cJ a_lo a_lt a_lw v_lt)) (hS : va_S A s.heap H locs) {ls : Array Slot} (hl : lv_has ls 5 [(0, .ref a_lo), (1, .int x1), (2, .int x2), (3, .int x3), (4, .int x4)]) : W p l e (headSpec wsX5_just rm_X5_just).room s m args below meth c H locs 0 0 (MQ below (va_Ql (fun r (_ : Unit) => r = o) (pa_QB D A (wo_X5_just cI cJ a_lo a_lt a_lw v_lt)) A) args s 0 0 A) (F0 m 0 ls []) := by
  obtain ⟨hx, hb, hr, hml, hown, hts, hK, hA, hG, hlk⟩ := id X
  delta f_X5_just at hf
  refine lv_aload_n hx hb dX5_just_0 rfl (lv_at hl 0 rfl) ?_
  refine lv_iload_n hx hb dX5_just_1 rfl (lv_at hl 2 rfl) ?_
  refine lv_iload hx hb dX5_just_2 (lv_at hl 4 rfl) ?_
  obtain ⟨u_1, hg_2, hf⟩ := pa_bd hf
  refine pa_kl (wc := (wo_X5_choose cI cJ a_lo a_lt a_lw v_lt)) (wr := ([] : va_W)) (w1 := (wo_X5_choose cI cJ a_lo a_lt a_lw v_lt)) (w2 := (wo_X5_just cI cJ a_lo a_lt a_lw v_lt)) X hP hD hS [0, 1] [] [0, 1] rfl (pa_rV (As := [.int x2, .int x4]) (rest := []) (T := TX5) X hP hD hS [0, 1] rfl rfl (c_X5_choose hg_2 H.size) (cwV 2 hts gX5_just_X5_choose rfl rfl rfl (by decide +kernel) ⟨Nat.le_of_ble_eq_true rfl, Nat.le_of_ble_eq_true rfl⟩) (q0 := 0) rfl rfl rfl hl.1 rfl (Nat.le_of_ble_eq_true rfl) dX5_just_4 ⟨Nat.zero_le _, Nat.zero_le _⟩) rfl rfl (by decide) rfl rfl (fun H locs hP hD hS => ?_)
  refine lv_aload_n hx hb dX5_just_7 rfl (lv_at hl 0 rfl) ?_
  refine lv_iload_n hx hb dX5_just_8 rfl (lv_at hl 1 rfl) ?_
  refine lv_iload_n hx hb dX5_just_9 rfl (lv_at hl 2 rfl) ?_
  refine lv_isub hx hb dX5_just_10 ?_
  refine lv_iload_n hx hb dX5_just_11 rfl (lv_at hl 3 rfl) ?_
  refine lv_iload hx hb dX5_just_12 (lv_at hl 4 rfl) ?_
  refine lv_isub hx hb dX5_just_14 ?_
  obtain ⟨u_3, hg_4, hf⟩ := pa_bd hf
  refine pa_kl (wc := (wo_X5_choose cI cJ a_lo a_lt a_lw v_lt)) (wr := ([] : va_W)) (w1 := (wo_X5_choose cI cJ a_lo a_lt a_lw v_lt)) (w2 := (wo_X5_just cI cJ a_lo a_lt a_lw v_lt)) X hP hD hS [0, 1] [] [0, 1] rfl (pa_rV (As := [.int (x1 - x2), .int (x3 - x4)]) (rest := [.long u_1]) (T := TX5) X hP hD hS [0, 1] rfl rfl (c_X5_choose hg_4 H.size) (cwV 2 hts gX5_just_X5_choose rfl rfl rfl (by decide +kernel) ⟨Nat.le_of_ble_eq_true rfl, Nat.le_of_ble_eq_true rfl⟩) (q0 := 0) rfl rfl rfl hl.1 rfl (Nat.le_of_ble_eq_true rfl) dX5_just_15 ⟨Nat.zero_le _, Nat.zero_le _⟩) rfl rfl (by decide) rfl rfl (fun H locs hP hD hS => ?_)
  refine lv_lmul hx hb dX5_just_18 ?_
  obtain rfl := Option.some.inj hf
  exact pa_el X hP hD hS dX5_just_19
set_option maxHeartbeats 4000000 in
set_option maxRecDepth 100000 in
theorem c_X5_just {l : Launch} {D : va_G} {cI cJ : ClassId} {g : pa_GT} {a_lo a_lt a_lw : Nat} {x1 : Int32} {x2 : Int32} {x3 : Int32} {x4 : Int32} {v_lt : Nat → Int64} {o : Int64} (hf : f_X5_just x1 x2 x3 x4 v_lt = some o) : pa_Ml l yX5_just wsX5_just rm_X5_just D cI cJ g [.ref a_lo, .int x1, .int x2, .int x3, .int x4] (wo_X5_just cI cJ a_lo a_lt a_lw v_lt) (wo_X5_just cI cJ a_lo a_lt a_lw v_lt) o := by
  intro sz
  refine pa_met (cc := cX5_just) (maxL := 5) (ret := (some .long)) (lv := [(0, .ref a_lo), (1, .int x1), (2, .int x2), (3, .int x3), (4, .int x4)]) (by decide) rfl (Nat.le_of_ble_eq_true rfl) rfl ?_
  intro p e s m below meth c X hsz hP hD ls hl
  subst hsz
  exact w_X5_just_b0 X hf hP hD va_S.rf hl
abbrev rm_X5_distance : Room := { frames := 1, cells := 0, slots := 0, locals := 14 }
theorem fk_X5_distance_0 : Cond.methodLink RX5 26 Lib.Math.abs.name ∈ wsX5_distance := by decide +kernel
theorem fk_X5_distance_1 : Cond.static Lib.Math.abs.name ∈ wsX5_distance := by decide +kernel
theorem fk_X5_distance_2 : Cond.initialized "java/lang/Math" ∈ wsX5_distance := by decide +kernel
theorem fk_X5_distance_3 : Cond.code Lib.Math.abs.name Lib.Math.abs.code 1 (some .int) ∈ wsX5_distance := by decide +kernel
theorem fk_X5_distance_4 : Cond.methodLink RX5 32 Lib.Math.min.name ∈ wsX5_distance := by decide +kernel
theorem fk_X5_distance_5 : Cond.static Lib.Math.min.name ∈ wsX5_distance := by decide +kernel
theorem fk_X5_distance_6 : Cond.code Lib.Math.min.name Lib.Math.min.code 2 (some .int) ∈ wsX5_distance := by decide +kernel
def f_X5_distance (x0 : Int32) (x1 : Int32) (x2 : Int32) (x3 : Int32) : Option (Int32) :=
  if (1 : Int32) ≤ (x0 * x2) then
    if (x0 * x2) = 0 then none else
    some ((if (((((if 0 ≤ ((x3 * x0) - (x1 * x2)) then ((x3 * x0) - (x1 * x2)) else 0 - ((x3 * x0) - (x1 * x2))) * (100 : Int32)) + (x0 * x2)) - (1 : Int32)) / (x0 * x2)) < (100 : Int32) then (((((if 0 ≤ ((x3 * x0) - (x1 * x2)) then ((x3 * x0) - (x1 * x2)) else 0 - ((x3 * x0) - (x1 * x2))) * (100 : Int32)) + (x0 * x2)) - (1 : Int32)) / (x0 * x2)) else (100 : Int32)))
  else
    some ((100 : Int32))
set_option maxHeartbeats 4000000 in
set_option maxRecDepth 100000 in
theorem w_X5_distance_b0 {l : Launch} {D : va_G} {cI cJ : ClassId} {g : pa_GT} {A : Nat → Prop} {p : Program} {e : Env} {s : State} {m : MethodId} {args : Array Value} {below : List Frame} {meth : Method} {c : Code} {x0 : Int32} {x1 : Int32} {x2 : Int32} {x3 : Int32}  {o : Int32} (X : pa_X cX5_distance 5 (some .int) RX5 wsX5_distance D cI cJ g A p s m args meth c)  (hf : f_X5_distance x0 x1 x2 x3 = some o) {H : Heap} {locs : List Loc} (hP : va_P D vwCl ([] : va_W) H) (hD : va_D A ([] : va_W)) (hS : va_S A s.heap H locs) {ls : Array Slot} (hl : lv_has ls 5 [(0, .int x0), (1, .int x1), (2, .int x2), (3, .int x3)]) : W p l e (headSpec wsX5_distance rm_X5_distance).room s m args below meth c H locs 0 0 (MQ below (va_Qi (fun r (_ : Unit) => r = o) (pa_QB D A ([] : va_W)) A) args s 0 0 A) (F0 m 0 ls []) := by
  obtain ⟨hx, hb, hr, hml, hown, hts, hK, hA, hG, hlk⟩ := id X
  delta f_X5_distance at hf
  refine lv_iload_n hx hb dX5_distance_0 rfl (lv_at hl 0 rfl) ?_
  refine lv_iload_n hx hb dX5_distance_1 rfl (lv_at hl 2 rfl) ?_
  refine lv_imul hx hb dX5_distance_2 ?_
  refine lv_istore (lv' := [(4, .int (x0 * x2)), (0, .int x0), (1, .int x1), (2, .int x2), (3, .int x3)]) hx hb dX5_distance_3 hl (by decide) rfl (fun ls hl => ?_)
  refine lv_iload hx hb dX5_distance_5 (lv_at hl 0 rfl) ?_
  refine lv_iconst (v := (1 : Int32)) hx hb dX5_distance_7 (by decide) ?_
  refine lv_icmp_ge (tgt := 14) hx hb dX5_distance_8 (by decide) (fun c_1 => ?_) (fun c_1 => ?_)
  · have hf := (if_pos c_1).symm.trans hf
    refine lv_bipush (v := (100 : Int32)) hx hb dX5_distance_14 (by decide) ?_
    refine lv_iload_n hx hb dX5_distance_16 rfl (lv_at hl 4 rfl) ?_
    refine lv_iload_n hx hb dX5_distance_17 rfl (lv_at hl 1 rfl) ?_
    refine lv_imul hx hb dX5_distance_18 ?_
    refine lv_iload_n hx hb dX5_distance_19 rfl (lv_at hl 2 rfl) ?_
    refine lv_iload_n hx hb dX5_distance_20 rfl (lv_at hl 3 rfl) ?_
    refine lv_imul hx hb dX5_distance_21 ?_
    refine lv_isub hx hb dX5_distance_22 ?_
    refine va_mabs hx hb (hml.trans hl.1.symm) hown (hts _ fk_X5_distance_0) (hts _ fk_X5_distance_1) (hts _ fk_X5_distance_2) (hts _ fk_X5_distance_3) (Nat.le_of_ble_eq_true rfl) (Nat.le_of_ble_eq_true rfl) (Nat.zero_le _) (Nat.zero_le _) dX5_distance_23 ?_
    refine lv_bipush (v := (100 : Int32)) hx hb dX5_distance_26 (by decide) ?_
    refine lv_imul hx hb dX5_distance_28 ?_
    refine lv_iload hx hb dX5_distance_29 (lv_at hl 0 rfl) ?_
    refine lv_iadd hx hb dX5_distance_31 ?_
    refine lv_iconst (v := (1 : Int32)) hx hb dX5_distance_32 (by decide) ?_
    refine lv_isub hx hb dX5_distance_33 ?_
    refine lv_iload hx hb dX5_distance_34 (lv_at hl 0 rfl) ?_
    obtain ⟨hz_2, hf⟩ := pa_dz hf
    refine lv_idiv hx hb dX5_distance_36 hz_2 ?_
    refine va_mmin hx hb (hml.trans hl.1.symm) hown (hts _ fk_X5_distance_4) (hts _ fk_X5_distance_5) (hts _ fk_X5_distance_2) (hts _ fk_X5_distance_6) (Nat.le_of_ble_eq_true rfl) (Nat.le_of_ble_eq_true rfl) (Nat.zero_le _) (Nat.zero_le _) dX5_distance_37 ?_
    obtain rfl := Option.some.inj hf
    exact pa_ei X hP hD hS dX5_distance_40
  · have hf := (if_neg c_1).symm.trans hf
    refine lv_bipush (v := (100 : Int32)) hx hb dX5_distance_11 (by decide) ?_
    obtain rfl := Option.some.inj hf
    exact pa_ei X hP hD hS dX5_distance_13
set_option maxHeartbeats 4000000 in
set_option maxRecDepth 100000 in
theorem c_X5_distance {l : Launch} {D : va_G} {cI cJ : ClassId} {g : pa_GT} {x0 : Int32} {x1 : Int32} {x2 : Int32} {x3 : Int32}  {o : Int32} (hf : f_X5_distance x0 x1 x2 x3 = some o) : pa_Mi l yX5_distance wsX5_distance rm_X5_distance D cI cJ g [.int x0, .int x1, .int x2, .int x3] ([] : va_W) ([] : va_W) o := by
  intro sz
  refine pa_met (cc := cX5_distance) (maxL := 5) (ret := (some .int)) (lv := [(0, .int x0), (1, .int x1), (2, .int x2), (3, .int x3)]) (by decide) rfl (Nat.le_of_ble_eq_true rfl) rfl ?_
  intro p e s m below meth c X hsz hP hD ls hl
  subst hsz
  exact w_X5_distance_b0 X hf hP hD va_S.rf hl
abbrev wo_X5_near (cI cJ : ClassId) (a_lo a_lt a_lw : Nat) (v_lt : Nat → Int64) : va_W := [(a_lo, .inr (5, [.ref a_lt, .ref a_lw])), (a_lt, .inl (cJ, 1326, .inr (.inl v_lt)))]
abbrev rm_X5_near : Room := { frames := 3, cells := 0, slots := 0, locals := 68 }
def f_X5_near_L6_body (x1 : Int32) (x2 : Int32) (x3 : Int32) (x4 : Int32) (v_lt : Nat → Int64) (rec6 : Int64 → Int32 → Option (Int64)) (x5 : Int64) (x7 : Int32) : Option (Int64) :=
  if x3 < x7 then
    some (x5)
  else
    (f_X5_distance x1 x2 x3 x7).bind fun u_2 =>
    if x4 < u_2 then
      rec6 x5 (x7 + (1 : Int32))
    else
      (f_X5_just x1 x2 x3 x7 v_lt).bind fun u_5 =>
      rec6 (x5 + u_5) (x7 + (1 : Int32))
def f_X5_near_L6 (x1 : Int32) (x2 : Int32) (x3 : Int32) (x4 : Int32) (v_lt : Nat → Int64) : Nat → Int64 → Int32 → Option (Int64)
  | 0 => fun _ _ => none
  | n + 1 => f_X5_near_L6_body x1 x2 x3 x4 v_lt (f_X5_near_L6 x1 x2 x3 x4 v_lt n)
def f_X5_near (x1 : Int32) (x2 : Int32) (x3 : Int32) (x4 : Int32) (v_lt : Nat → Int64) : Option (Int64) :=
  f_X5_near_L6 x1 x2 x3 x4 v_lt pa_fu (0 : Int64) (0 : Int32)
set_option maxHeartbeats 4000000 in
set_option maxRecDepth 100000 in
theorem w_X5_near_L6 {l : Launch} {D : va_G} {cI cJ : ClassId} {g : pa_GT} {a_lo a_lt a_lw : Nat} {A : Nat → Prop} {p : Program} {e : Env} {s : State} {m : MethodId} {args : Array Value} {below : List Frame} {meth : Method} {c : Code} {x1 : Int32} {x2 : Int32} {x3 : Int32} {x4 : Int32} {v_lt : Nat → Int64}  {o : Int64} (X : pa_X cX5_near 8 (some .long) RX5 wsX5_near D cI cJ g A p s m args meth c)  : ∀ (n : Nat) (x5 : Int64) (x7 : Int32), f_X5_near_L6 x1 x2 x3 x4 v_lt n x5 x7 = some o → ∀ (H : Heap) (locs : List Loc) , va_P D vwCl (wo_X5_near cI cJ a_lo a_lt a_lw v_lt) H → va_D A (wo_X5_near cI cJ a_lo a_lt a_lw v_lt) → va_S A s.heap H locs → ∀ (ls : Array Slot), lv_has ls 8 [(0, .ref a_lo), (1, .int x1), (2, .int x2), (3, .int x3), (4, .int x4), (5, .long x5), (7, .int x7)] → W p l e (headSpec wsX5_near rm_X5_near).room s m args below meth c H locs 0 0 (MQ below (va_Ql (fun r (_ : Unit) => r = o) (pa_QB D A (wo_X5_near cI cJ a_lo a_lt a_lw v_lt)) A) args s 0 0 A) (F0 m 6 ls []) := by
  obtain ⟨hx, hb, hr, hml, hown, hts, hK, hA, hG, hlk⟩ := id X
  intro n
  induction n with
  | zero =>
    intro x5 x7 hf
    have hf : (none : Option (Int64)) = some o := hf
    cases hf
  | succ n hrec6 =>
    intro x5 x7 hf H locs  hP hD hS ls hl
    have hf : f_X5_near_L6_body x1 x2 x3 x4 v_lt (f_X5_near_L6 x1 x2 x3 x4 v_lt n) x5 x7 = some o := hf
    delta f_X5_near_L6_body at hf
    generalize hgr : f_X5_near_L6 x1 x2 x3 x4 v_lt n = rec6 at hf hrec6
    refine lv_iload hx hb dX5_near_6 (lv_at hl 6 rfl) ?_
    refine lv_iload_n hx hb dX5_near_8 rfl (lv_at hl 3 rfl) ?_
    refine lv_icmp_gt (tgt := 45) hx hb dX5_near_9 (by decide) (fun c_1 => ?_) (fun c_1 => ?_)
    · have hf := (if_pos c_1).symm.trans hf
      refine lv_lload hx hb dX5_near_45 (lv_at hl 5 rfl) ?_
      obtain rfl := Option.some.inj hf
      exact pa_el X hP hD hS dX5_near_47
    · have hf := (if_neg c_1).symm.trans hf
      refine lv_iload_n hx hb dX5_near_12 rfl (lv_at hl 1 rfl) ?_
      refine lv_iload_n hx hb dX5_near_13 rfl (lv_at hl 2 rfl) ?_
      refine lv_iload_n hx hb dX5_near_14 rfl (lv_at hl 3 rfl) ?_
      refine lv_iload hx hb dX5_near_15 (lv_at hl 6 rfl) ?_
      obtain ⟨u_2, hg_3, hf⟩ := pa_bd hf
      refine pa_ki (wc := ([] : va_W)) (wr := [(a_lo, .inr (5, [.ref a_lt, .ref a_lw])), (a_lt, .inl (cJ, 1326, .inr (.inl v_lt)))]) (w1 := ([] : va_W)) (w2 := (wo_X5_near cI cJ a_lo a_lt a_lw v_lt)) X hP hD hS [] [0, 1] [0, 1] rfl (pa_rS (As := [.int x1, .int x2, .int x3, .int x7]) (rest := []) X hP hD hS [] rfl rfl (c_X5_distance hg_3 H.size) (va_cwS 4 hts gX5_near_X5_distance rfl rfl rfl (by decide +kernel) ⟨Nat.le_of_ble_eq_true rfl, Nat.le_of_ble_eq_true rfl⟩) rfl hl.1 rfl (Nat.le_of_ble_eq_true rfl) dX5_near_17 ⟨Nat.zero_le _, Nat.zero_le _⟩) rfl rfl (by decide) rfl rfl (fun H locs hP hD hS => ?_)
      refine lv_iload hx hb dX5_near_20 (lv_at hl 4 rfl) ?_
      refine lv_icmp_gt (tgt := 39) hx hb dX5_near_22 (by decide) (fun c_4 => ?_) (fun c_4 => ?_)
      · have hf := (if_pos c_4).symm.trans hf
        refine lv_iinc (v := (x7 + (1 : Int32))) (lv' := [(7, .int (x7 + (1 : Int32))), (0, .ref a_lo), (1, .int x1), (2, .int x2), (3, .int x3), (4, .int x4), (5, .long x5)]) hx hb dX5_near_39 hl (k := 6) rfl rfl (by decide) rfl (fun ls hl => ?_)
        refine lv_goto (tgt := 6) hx hb dX5_near_42 (by decide) ?_
        exact hrec6 _ _ hf _ _  hP hD hS _ (lv_sub hl [1, 2, 3, 4, 5, 6, 0] rfl)
      · have hf := (if_neg c_4).symm.trans hf
        refine lv_lload hx hb dX5_near_25 (lv_at hl 5 rfl) ?_
        refine lv_aload_n hx hb dX5_near_27 rfl (lv_at hl 0 rfl) ?_
        refine lv_iload_n hx hb dX5_near_28 rfl (lv_at hl 1 rfl) ?_
        refine lv_iload_n hx hb dX5_near_29 rfl (lv_at hl 2 rfl) ?_
        refine lv_iload_n hx hb dX5_near_30 rfl (lv_at hl 3 rfl) ?_
        refine lv_iload hx hb dX5_near_31 (lv_at hl 6 rfl) ?_
        obtain ⟨u_5, hg_6, hf⟩ := pa_bd hf
        refine pa_kl (wc := (wo_X5_just cI cJ a_lo a_lt a_lw v_lt)) (wr := ([] : va_W)) (w1 := (wo_X5_just cI cJ a_lo a_lt a_lw v_lt)) (w2 := (wo_X5_near cI cJ a_lo a_lt a_lw v_lt)) X hP hD hS [0, 1] [] [0, 1] rfl (pa_rV (As := [.int x1, .int x2, .int x3, .int x7]) (rest := [.long x5]) (T := TX5) X hP hD hS [0, 1] rfl rfl (c_X5_just hg_6 H.size) (cwV 4 hts gX5_near_X5_just rfl rfl rfl (by decide +kernel) ⟨Nat.le_of_ble_eq_true rfl, Nat.le_of_ble_eq_true rfl⟩) (q0 := 0) rfl rfl rfl hl.1 rfl (Nat.le_of_ble_eq_true rfl) dX5_near_33 ⟨Nat.zero_le _, Nat.zero_le _⟩) rfl rfl (by decide) rfl rfl (fun H locs hP hD hS => ?_)
        refine lv_ladd hx hb dX5_near_36 ?_
        refine lv_lstore (lv' := [(5, .long (x5 + u_5)), (0, .ref a_lo), (1, .int x1), (2, .int x2), (3, .int x3), (4, .int x4), (7, .int x7)]) hx hb dX5_near_37 hl (by decide) rfl (fun ls hl => ?_)
        refine lv_iinc (v := (x7 + (1 : Int32))) (lv' := [(7, .int (x7 + (1 : Int32))), (5, .long (x5 + u_5)), (0, .ref a_lo), (1, .int x1), (2, .int x2), (3, .int x3), (4, .int x4)]) hx hb dX5_near_39 hl (k := 6) rfl rfl (by decide) rfl (fun ls hl => ?_)
        refine lv_goto (tgt := 6) hx hb dX5_near_42 (by decide) ?_
        exact hrec6 _ _ hf _ _  hP hD hS _ (lv_sub hl [2, 3, 4, 5, 6, 1, 0] rfl)
set_option maxHeartbeats 4000000 in
set_option maxRecDepth 100000 in
theorem w_X5_near_b0 {l : Launch} {D : va_G} {cI cJ : ClassId} {g : pa_GT} {a_lo a_lt a_lw : Nat} {A : Nat → Prop} {p : Program} {e : Env} {s : State} {m : MethodId} {args : Array Value} {below : List Frame} {meth : Method} {c : Code} {x1 : Int32} {x2 : Int32} {x3 : Int32} {x4 : Int32} {v_lt : Nat → Int64}  {o : Int64} (X : pa_X cX5_near 8 (some .long) RX5 wsX5_near D cI cJ g A p s m args meth c)  (hf : f_X5_near x1 x2 x3 x4 v_lt = some o) {H : Heap} {locs : List Loc} (hP : va_P D vwCl (wo_X5_near cI cJ a_lo a_lt a_lw v_lt) H) (hD : va_D A (wo_X5_near cI cJ a_lo a_lt a_lw v_lt)) (hS : va_S A s.heap H locs) {ls : Array Slot} (hl : lv_has ls 8 [(0, .ref a_lo), (1, .int x1), (2, .int x2), (3, .int x3), (4, .int x4)]) : W p l e (headSpec wsX5_near rm_X5_near).room s m args below meth c H locs 0 0 (MQ below (va_Ql (fun r (_ : Unit) => r = o) (pa_QB D A (wo_X5_near cI cJ a_lo a_lt a_lw v_lt)) A) args s 0 0 A) (F0 m 0 ls []) := by
  obtain ⟨hx, hb, hr, hml, hown, hts, hK, hA, hG, hlk⟩ := id X
  delta f_X5_near at hf
  refine lv_lconst (v := (0 : Int64)) hx hb dX5_near_0 (by decide) ?_
  refine lv_lstore (lv' := [(5, .long (0 : Int64)), (0, .ref a_lo), (1, .int x1), (2, .int x2), (3, .int x3), (4, .int x4)]) hx hb dX5_near_1 hl (by decide) rfl (fun ls hl => ?_)
  refine lv_iconst (v := (0 : Int32)) hx hb dX5_near_3 (by decide) ?_
  refine lv_istore (lv' := [(7, .int (0 : Int32)), (5, .long (0 : Int64)), (0, .ref a_lo), (1, .int x1), (2, .int x2), (3, .int x3), (4, .int x4)]) hx hb dX5_near_4 hl (by decide) rfl (fun ls hl => ?_)
  exact w_X5_near_L6 X  _ _ _ hf _ _  hP hD hS _ (lv_sub hl [2, 3, 4, 5, 6, 1, 0] rfl)
set_option maxHeartbeats 4000000 in
set_option maxRecDepth 100000 in
theorem c_X5_near {l : Launch} {D : va_G} {cI cJ : ClassId} {g : pa_GT} {a_lo a_lt a_lw : Nat} {x1 : Int32} {x2 : Int32} {x3 : Int32} {x4 : Int32} {v_lt : Nat → Int64} {o : Int64} (hf : f_X5_near x1 x2 x3 x4 v_lt = some o) : pa_Ml l yX5_near wsX5_near rm_X5_near D cI cJ g [.ref a_lo, .int x1, .int x2, .int x3, .int x4] (wo_X5_near cI cJ a_lo a_lt a_lw v_lt) (wo_X5_near cI cJ a_lo a_lt a_lw v_lt) o := by
  intro sz
  refine pa_met (cc := cX5_near) (maxL := 8) (ret := (some .long)) (lv := [(0, .ref a_lo), (1, .int x1), (2, .int x2), (3, .int x3), (4, .int x4)]) (by decide) rfl (Nat.le_of_ble_eq_true rfl) rfl ?_
  intro p e s m below meth c X hsz hP hD ls hl
  subst hsz
  exact w_X5_near_b0 X hf hP hD va_S.rf hl
abbrev rm_X5_isEnough : Room := { frames := 0, cells := 0, slots := 0, locals := 0 }
theorem fk_X5_isEnough_0 : Cond.constantLong RX5 44 (100) ∈ wsX5_isEnough := by decide +kernel
def f_X5_isEnough (x0 : Int64) (x2 : Int64) (x4 : Int32) : Option (Int32) :=
  if (lg_cmp (x0 * (100 : Int64)) (x2 * (Int32.toInt64 x4))) < 0 then
    some ((0 : Int32))
  else
    some ((1 : Int32))
set_option maxHeartbeats 4000000 in
set_option maxRecDepth 100000 in
theorem w_X5_isEnough_b0 {l : Launch} {D : va_G} {cI cJ : ClassId} {g : pa_GT} {A : Nat → Prop} {p : Program} {e : Env} {s : State} {m : MethodId} {args : Array Value} {below : List Frame} {meth : Method} {c : Code} {x0 : Int64} {x2 : Int64} {x4 : Int32}  {o : Int32} (X : pa_X cX5_isEnough 5 (some .boolean) RX5 wsX5_isEnough D cI cJ g A p s m args meth c)  (hf : f_X5_isEnough x0 x2 x4 = some o) {H : Heap} {locs : List Loc} (hP : va_P D vwCl ([] : va_W) H) (hD : va_D A ([] : va_W)) (hS : va_S A s.heap H locs) {ls : Array Slot} (hl : lv_has ls 5 [(0, .long x0), (2, .long x2), (4, .int x4)]) : W p l e (headSpec wsX5_isEnough rm_X5_isEnough).room s m args below meth c H locs 0 0 (MQ below (va_Qi (fun r (_ : Unit) => r = o) (pa_QB D A ([] : va_W)) A) args s 0 0 A) (F0 m 0 ls []) := by
  obtain ⟨hx, hb, hr, hml, hown, hts, hK, hA, hG, hlk⟩ := id X
  delta f_X5_isEnough at hf
  refine lv_lload_n hx hb dX5_isEnough_0 rfl (lv_at hl 0 rfl) ?_
  refine lv_ldc2 (v := (100 : Int64)) hx hb hown (hts _ fk_X5_isEnough_0) dX5_isEnough_1 ?_
  refine lv_lmul hx hb dX5_isEnough_4 ?_
  refine lv_lload_n hx hb dX5_isEnough_5 rfl (lv_at hl 1 rfl) ?_
  refine lv_iload hx hb dX5_isEnough_6 (lv_at hl 2 rfl) ?_
  refine lv_i2l (v := (Int32.toInt64 x4)) hx hb dX5_isEnough_8 rfl ?_
  refine lv_lmul hx hb dX5_isEnough_9 ?_
  refine W.lcmp hx hb dX5_isEnough_10 ?_
  refine lv_if_lt (tgt := 18) hx hb dX5_isEnough_11 (by decide) (fun c_1 => ?_) (fun c_1 => ?_)
  · have hf := (if_pos c_1).symm.trans hf
    refine lv_iconst (v := (0 : Int32)) hx hb dX5_isEnough_18 (by decide) ?_
    obtain rfl := Option.some.inj hf
    exact pa_ez (v := (0 : Int32)) X hP hD hS rfl dX5_isEnough_19
  · have hf := (if_neg c_1).symm.trans hf
    refine lv_iconst (v := (1 : Int32)) hx hb dX5_isEnough_14 (by decide) ?_
    refine lv_goto (tgt := 19) hx hb dX5_isEnough_15 (by decide) ?_
    obtain rfl := Option.some.inj hf
    exact pa_ez (v := (1 : Int32)) X hP hD hS rfl dX5_isEnough_19
set_option maxHeartbeats 4000000 in
set_option maxRecDepth 100000 in
theorem c_X5_isEnough {l : Launch} {D : va_G} {cI cJ : ClassId} {g : pa_GT} {x0 : Int64} {x2 : Int64} {x4 : Int32}  {o : Int32} (hf : f_X5_isEnough x0 x2 x4 = some o) : pa_Mi l yX5_isEnough wsX5_isEnough rm_X5_isEnough D cI cJ g [.long x0, .long x2, .int x4] ([] : va_W) ([] : va_W) o := by
  intro sz
  refine pa_met (cc := cX5_isEnough) (maxL := 5) (ret := (some .boolean)) (lv := [(0, .long x0), (2, .long x2), (4, .int x4)]) (by decide) rfl (Nat.le_of_ble_eq_true rfl) rfl ?_
  intro p e s m below meth c X hsz hP hD ls hl
  subst hsz
  exact w_X5_isEnough_b0 X hf hP hD va_S.rf hl
abbrev wo_X5_fewest (cI cJ : ClassId) (a_lo a_lt a_lw : Nat) (v_lt : Nat → Int64) : va_W := [(a_lo, .inr (5, [.ref a_lt, .ref a_lw])), (a_lt, .inl (cJ, 1326, .inr (.inl v_lt)))]
abbrev rm_X5_fewest : Room := { frames := 4, cells := 0, slots := 0, locals := 95 }
def f_X5_fewest_L3_body (x1 : Int32) (x2 : Int32) (x3 : Int32) (x4 : Int32) (v_lt : Nat → Int64) (rec3 : Int32 → Option (Int32)) (x5 : Int32) : Option (Int32) :=
  if x1 ≤ x5 then
    some (x1)
  else
    (f_X5_near x1 x2 x5 x3 v_lt).bind fun u_2 =>
    (f_X5_choose x1 x5 v_lt).bind fun u_4 =>
    (f_X5_isEnough u_2 u_4 x4).bind fun u_6 =>
    if u_6 = 0 then
      rec3 (x5 + (1 : Int32))
    else
      some (x5)
def f_X5_fewest_L3 (x1 : Int32) (x2 : Int32) (x3 : Int32) (x4 : Int32) (v_lt : Nat → Int64) : Nat → Int32 → Option (Int32)
  | 0 => fun _ => none
  | n + 1 => f_X5_fewest_L3_body x1 x2 x3 x4 v_lt (f_X5_fewest_L3 x1 x2 x3 x4 v_lt n)
def f_X5_fewest (x1 : Int32) (x2 : Int32) (x3 : Int32) (x4 : Int32) (v_lt : Nat → Int64) : Option (Int32) :=
  f_X5_fewest_L3 x1 x2 x3 x4 v_lt pa_fu (1 : Int32)
set_option maxHeartbeats 4000000 in
set_option maxRecDepth 100000 in
theorem w_X5_fewest_L3 {l : Launch} {D : va_G} {cI cJ : ClassId} {g : pa_GT} {a_lo a_lt a_lw : Nat} {A : Nat → Prop} {p : Program} {e : Env} {s : State} {m : MethodId} {args : Array Value} {below : List Frame} {meth : Method} {c : Code} {x1 : Int32} {x2 : Int32} {x3 : Int32} {x4 : Int32} {v_lt : Nat → Int64}  {o : Int32} (X : pa_X cX5_fewest 6 (some .int) RX5 wsX5_fewest D cI cJ g A p s m args meth c)  : ∀ (n : Nat) (x5 : Int32), f_X5_fewest_L3 x1 x2 x3 x4 v_lt n x5 = some o → ∀ (H : Heap) (locs : List Loc) , va_P D vwCl (wo_X5_fewest cI cJ a_lo a_lt a_lw v_lt) H → va_D A (wo_X5_fewest cI cJ a_lo a_lt a_lw v_lt) → va_S A s.heap H locs → ∀ (ls : Array Slot), lv_has ls 6 [(0, .ref a_lo), (1, .int x1), (2, .int x2), (3, .int x3), (4, .int x4), (5, .int x5)] → W p l e (headSpec wsX5_fewest rm_X5_fewest).room s m args below meth c H locs 0 0 (MQ below (va_Qi (fun r (_ : Unit) => r = o) (pa_QB D A (wo_X5_fewest cI cJ a_lo a_lt a_lw v_lt)) A) args s 0 0 A) (F0 m 3 ls []) := by
  obtain ⟨hx, hb, hr, hml, hown, hts, hK, hA, hG, hlk⟩ := id X
  intro n
  induction n with
  | zero =>
    intro x5 hf
    have hf : (none : Option (Int32)) = some o := hf
    cases hf
  | succ n hrec3 =>
    intro x5 hf H locs  hP hD hS ls hl
    have hf : f_X5_fewest_L3_body x1 x2 x3 x4 v_lt (f_X5_fewest_L3 x1 x2 x3 x4 v_lt n) x5 = some o := hf
    delta f_X5_fewest_L3_body at hf
    generalize hgr : f_X5_fewest_L3 x1 x2 x3 x4 v_lt n = rec3 at hf hrec3
    refine lv_iload hx hb dX5_fewest_3 (lv_at hl 5 rfl) ?_
    refine lv_iload_n hx hb dX5_fewest_5 rfl (lv_at hl 1 rfl) ?_
    refine lv_icmp_ge (tgt := 42) hx hb dX5_fewest_6 (by decide) (fun c_1 => ?_) (fun c_1 => ?_)
    · have hf := (if_pos c_1).symm.trans hf
      refine lv_iload_n hx hb dX5_fewest_42 rfl (lv_at hl 1 rfl) ?_
      obtain rfl := Option.some.inj hf
      exact pa_ei X hP hD hS dX5_fewest_43
    · have hf := (if_neg c_1).symm.trans hf
      refine lv_aload_n hx hb dX5_fewest_9 rfl (lv_at hl 0 rfl) ?_
      refine lv_iload_n hx hb dX5_fewest_10 rfl (lv_at hl 1 rfl) ?_
      refine lv_iload_n hx hb dX5_fewest_11 rfl (lv_at hl 2 rfl) ?_
      refine lv_iload hx hb dX5_fewest_12 (lv_at hl 5 rfl) ?_
      refine lv_iload_n hx hb dX5_fewest_14 rfl (lv_at hl 3 rfl) ?_
      obtain ⟨u_2, hg_3, hf⟩ := pa_bd hf
      refine pa_kl (wc := (wo_X5_near cI cJ a_lo a_lt a_lw v_lt)) (wr := ([] : va_W)) (w1 := (wo_X5_near cI cJ a_lo a_lt a_lw v_lt)) (w2 := (wo_X5_fewest cI cJ a_lo a_lt a_lw v_lt)) X hP hD hS [0, 1] [] [0, 1] rfl (pa_rV (As := [.int x1, .int x2, .int x5, .int x3]) (rest := []) (T := TX5) X hP hD hS [0, 1] rfl rfl (c_X5_near hg_3 H.size) (cwV 4 hts gX5_fewest_X5_near rfl rfl rfl (by decide +kernel) ⟨Nat.le_of_ble_eq_true rfl, Nat.le_of_ble_eq_true rfl⟩) (q0 := 0) rfl rfl rfl hl.1 rfl (Nat.le_of_ble_eq_true rfl) dX5_fewest_15 ⟨Nat.zero_le _, Nat.zero_le _⟩) rfl rfl (by decide) rfl rfl (fun H locs hP hD hS => ?_)
      refine lv_aload_n hx hb dX5_fewest_18 rfl (lv_at hl 0 rfl) ?_
      refine lv_iload_n hx hb dX5_fewest_19 rfl (lv_at hl 1 rfl) ?_
      refine lv_iload hx hb dX5_fewest_20 (lv_at hl 5 rfl) ?_
      obtain ⟨u_4, hg_5, hf⟩ := pa_bd hf
      refine pa_kl (wc := (wo_X5_choose cI cJ a_lo a_lt a_lw v_lt)) (wr := ([] : va_W)) (w1 := (wo_X5_choose cI cJ a_lo a_lt a_lw v_lt)) (w2 := (wo_X5_fewest cI cJ a_lo a_lt a_lw v_lt)) X hP hD hS [0, 1] [] [0, 1] rfl (pa_rV (As := [.int x1, .int x5]) (rest := [.long u_2]) (T := TX5) X hP hD hS [0, 1] rfl rfl (c_X5_choose hg_5 H.size) (cwV 2 hts gX5_fewest_X5_choose rfl rfl rfl (by decide +kernel) ⟨Nat.le_of_ble_eq_true rfl, Nat.le_of_ble_eq_true rfl⟩) (q0 := 0) rfl rfl rfl hl.1 rfl (Nat.le_of_ble_eq_true rfl) dX5_fewest_22 ⟨Nat.zero_le _, Nat.zero_le _⟩) rfl rfl (by decide) rfl rfl (fun H locs hP hD hS => ?_)
      refine lv_iload hx hb dX5_fewest_25 (lv_at hl 4 rfl) ?_
      obtain ⟨u_6, hg_7, hf⟩ := pa_bd hf
      refine pa_ki (wc := ([] : va_W)) (wr := [(a_lo, .inr (5, [.ref a_lt, .ref a_lw])), (a_lt, .inl (cJ, 1326, .inr (.inl v_lt)))]) (w1 := ([] : va_W)) (w2 := (wo_X5_fewest cI cJ a_lo a_lt a_lw v_lt)) X hP hD hS [] [0, 1] [0, 1] rfl (pa_rS (As := [.long u_2, .long u_4, .int x4]) (rest := []) X hP hD hS [] rfl rfl (c_X5_isEnough hg_7 H.size) (va_cwS 3 hts gX5_fewest_X5_isEnough rfl rfl rfl (by decide +kernel) ⟨Nat.le_of_ble_eq_true rfl, Nat.le_of_ble_eq_true rfl⟩) rfl hl.1 rfl (Nat.le_of_ble_eq_true rfl) dX5_fewest_27 ⟨Nat.zero_le _, Nat.zero_le _⟩) rfl rfl (by decide) rfl rfl (fun H locs hP hD hS => ?_)
      refine lv_if_eq (tgt := 36) hx hb dX5_fewest_30 (by decide) (fun c_8 => ?_) (fun c_8 => ?_)
      · have hf := (if_pos c_8).symm.trans hf
        refine lv_iinc (v := (x5 + (1 : Int32))) (lv' := [(5, .int (x5 + (1 : Int32))), (0, .ref a_lo), (1, .int x1), (2, .int x2), (3, .int x3), (4, .int x4)]) hx hb dX5_fewest_36 hl (k := 5) rfl rfl (by decide) rfl (fun ls hl => ?_)
        refine lv_goto (tgt := 3) hx hb dX5_fewest_39 (by decide) ?_
        exact hrec3 _ hf _ _  hP hD hS _ (lv_sub hl [1, 2, 3, 4, 5, 0] rfl)
      · have hf := (if_neg c_8).symm.trans hf
        refine lv_iload hx hb dX5_fewest_33 (lv_at hl 5 rfl) ?_
        obtain rfl := Option.some.inj hf
        exact pa_ei X hP hD hS dX5_fewest_35
set_option maxHeartbeats 4000000 in
set_option maxRecDepth 100000 in
theorem w_X5_fewest_b0 {l : Launch} {D : va_G} {cI cJ : ClassId} {g : pa_GT} {a_lo a_lt a_lw : Nat} {A : Nat → Prop} {p : Program} {e : Env} {s : State} {m : MethodId} {args : Array Value} {below : List Frame} {meth : Method} {c : Code} {x1 : Int32} {x2 : Int32} {x3 : Int32} {x4 : Int32} {v_lt : Nat → Int64}  {o : Int32} (X : pa_X cX5_fewest 6 (some .int) RX5 wsX5_fewest D cI cJ g A p s m args meth c)  (hf : f_X5_fewest x1 x2 x3 x4 v_lt = some o) {H : Heap} {locs : List Loc} (hP : va_P D vwCl (wo_X5_fewest cI cJ a_lo a_lt a_lw v_lt) H) (hD : va_D A (wo_X5_fewest cI cJ a_lo a_lt a_lw v_lt)) (hS : va_S A s.heap H locs) {ls : Array Slot} (hl : lv_has ls 6 [(0, .ref a_lo), (1, .int x1), (2, .int x2), (3, .int x3), (4, .int x4)]) : W p l e (headSpec wsX5_fewest rm_X5_fewest).room s m args below meth c H locs 0 0 (MQ below (va_Qi (fun r (_ : Unit) => r = o) (pa_QB D A (wo_X5_fewest cI cJ a_lo a_lt a_lw v_lt)) A) args s 0 0 A) (F0 m 0 ls []) := by
  obtain ⟨hx, hb, hr, hml, hown, hts, hK, hA, hG, hlk⟩ := id X
  delta f_X5_fewest at hf
  refine lv_iconst (v := (1 : Int32)) hx hb dX5_fewest_0 (by decide) ?_
  refine lv_istore (lv' := [(5, .int (1 : Int32)), (0, .ref a_lo), (1, .int x1), (2, .int x2), (3, .int x3), (4, .int x4)]) hx hb dX5_fewest_1 hl (by decide) rfl (fun ls hl => ?_)
  exact w_X5_fewest_L3 X  _ _ hf _ _  hP hD hS _ (lv_sub hl [1, 2, 3, 4, 5, 0] rfl)
set_option maxHeartbeats 4000000 in
set_option maxRecDepth 100000 in
theorem c_X5_fewest {l : Launch} {D : va_G} {cI cJ : ClassId} {g : pa_GT} {a_lo a_lt a_lw : Nat} {x1 : Int32} {x2 : Int32} {x3 : Int32} {x4 : Int32} {v_lt : Nat → Int64} {o : Int32} (hf : f_X5_fewest x1 x2 x3 x4 v_lt = some o) : pa_Mi l yX5_fewest wsX5_fewest rm_X5_fewest D cI cJ g [.ref a_lo, .int x1, .int x2, .int x3, .int x4] (wo_X5_fewest cI cJ a_lo a_lt a_lw v_lt) (wo_X5_fewest cI cJ a_lo a_lt a_lw v_lt) o := by
  intro sz
  refine pa_met (cc := cX5_fewest) (maxL := 6) (ret := (some .int)) (lv := [(0, .ref a_lo), (1, .int x1), (2, .int x2), (3, .int x3), (4, .int x4)]) (by decide) rfl (Nat.le_of_ble_eq_true rfl) rfl ?_
  intro p e s m below meth c X hsz hP hD ls hl
  subst hsz
  exact w_X5_fewest_b0 X hf hP hD va_S.rf hl
abbrev wo_X5_leastDistance (cI cJ : ClassId) (a_lo a_lt a_lw : Nat) (v_lt : Nat → Int64) (v_lw : Nat → Int64) : va_W := [(a_lo, .inr (5, [.ref a_lt, .ref a_lw])), (a_lt, .inl (cJ, 1326, .inr (.inl v_lt))), (a_lw, .inl (cJ, 101, .inr (.inl v_lw)))]
abbrev rm_X5_leastDistance : Room := { frames := 3, cells := 0, slots := 0, locals := 68 }
theorem il_X5_leastDistance_X5 : ∀ w ∈ wsX50, w ∈ wsX5_leastDistance := by decide +kernel
theorem fk_X5_leastDistance_0 : Cond.fieldLink RX5 15 "PostedAsks$Lots" "waysByDistance" "[J" ∈ wsX5_leastDistance := by decide +kernel
def f_X5_leastDistance_L62_body (x4 : Int32) (x5 : Int64) (v_lw : Nat → Int64) (rec62 : Int64 → Int32 → Option (Int32 × (Nat → Int64))) (x7 : Int64) (x9 : Int32) : Option (Int32 × (Nat → Int64)) :=
  if (100 : Int32) ≤ x9 then
    some ((100 : Int32), v_lw)
  else
    if pa_ib x9 101 = true then
      (f_X5_isEnough (x7 + (v_lw (Int32.toNatClampNeg x9))) x5 x4).bind fun u_3 =>
      if u_3 = 0 then
        rec62 (x7 + (v_lw (Int32.toNatClampNeg x9))) (x9 + (1 : Int32))
      else
        some (x9, v_lw)
    else none
def f_X5_leastDistance_L62 (x4 : Int32) (x5 : Int64) (v_lw : Nat → Int64) : Nat → Int64 → Int32 → Option (Int32 × (Nat → Int64))
  | 0 => fun _ _ => none
  | n + 1 => f_X5_leastDistance_L62_body x4 x5 v_lw (f_X5_leastDistance_L62 x4 x5 v_lw n)
def f_X5_leastDistance_L11_body (x1 : Int32) (x2 : Int32) (x3 : Int32) (x4 : Int32) (v_lt : Nat → Int64) (rec11 : Int32 → (Nat → Int64) → Option (Int32 × (Nat → Int64))) (x5 : Int32) (v_lw : Nat → Int64) : Option (Int32 × (Nat → Int64)) :=
  if x3 < x5 then
    (f_X5_choose x1 x3 v_lt).bind fun u_7 =>
    f_X5_leastDistance_L62 x4 u_7 v_lw pa_fu (0 : Int64) (0 : Int32)
  else
    (f_X5_distance x1 x2 x3 x5).bind fun u_9 =>
    if pa_ib u_9 101 = true then
      (f_X5_just x1 x2 x3 x5 v_lt).bind fun u_12 =>
      rec11 (x5 + (1 : Int32)) (vp_updL v_lw (Int32.toNatClampNeg u_9) ((v_lw (Int32.toNatClampNeg u_9)) + u_12))
    else none
def f_X5_leastDistance_L11 (x1 : Int32) (x2 : Int32) (x3 : Int32) (x4 : Int32) (v_lt : Nat → Int64) : Nat → Int32 → (Nat → Int64) → Option (Int32 × (Nat → Int64))
  | 0 => fun _ _ => none
  | n + 1 => f_X5_leastDistance_L11_body x1 x2 x3 x4 v_lt (f_X5_leastDistance_L11 x1 x2 x3 x4 v_lt n)
def f_X5_leastDistance (x1 : Int32) (x2 : Int32) (x3 : Int32) (x4 : Int32) (v_lt : Nat → Int64) (v_lw : Nat → Int64) : Option (Int32 × (Nat → Int64)) :=
  f_X5_leastDistance_L11 x1 x2 x3 x4 v_lt pa_fu (0 : Int32) (pa_fillJ v_lw 101 (0 : Int64))
set_option maxHeartbeats 4000000 in
set_option maxRecDepth 100000 in
theorem w_X5_leastDistance_L62 {l : Launch} {D : va_G} {cI cJ : ClassId} {g : pa_GT} {a_lo a_lt a_lw : Nat} {A : Nat → Prop} {p : Program} {e : Env} {s : State} {m : MethodId} {args : Array Value} {below : List Frame} {meth : Method} {c : Code} {x4 : Int32} {x5 : Int64} {v_lw : Nat → Int64} {v_lt : Nat → Int64} {o : Int32 × (Nat → Int64)} (X : pa_X cX5_leastDistance 10 (some .int) RX5 wsX5_leastDistance D cI cJ g A p s m args meth c)  : ∀ (n : Nat) (x7 : Int64) (x9 : Int32), f_X5_leastDistance_L62 x4 x5 v_lw n x7 x9 = some o → ∀ (H : Heap) (locs : List Loc) , va_P D vwCl (wo_X5_leastDistance cI cJ a_lo a_lt a_lw v_lt v_lw) H → va_D A (wo_X5_leastDistance cI cJ a_lo a_lt a_lw v_lt v_lw) → va_S A s.heap H locs → ∀ (ls : Array Slot), lv_has ls 10 [(0, .ref a_lo), (4, .int x4), (5, .long x5), (7, .long x7), (9, .int x9)] → W p l e (headSpec wsX5_leastDistance rm_X5_leastDistance).room s m args below meth c H locs 0 0 (MQ below (va_Qi (fun r (_ : Unit) => r = o.1) (pa_QB D A (wo_X5_leastDistance cI cJ a_lo a_lt a_lw v_lt o.2)) A) args s 0 0 A) (F0 m 62 ls []) := by
  obtain ⟨hx, hb, hr, hml, hown, hts, hK, hA, hG, hlk⟩ := id X
  intro n
  induction n with
  | zero =>
    intro x7 x9 hf
    have hf : (none : Option (Int32 × (Nat → Int64))) = some o := hf
    cases hf
  | succ n hrec62 =>
    intro x7 x9 hf H locs  hP hD hS ls hl
    have hf : f_X5_leastDistance_L62_body x4 x5 v_lw (f_X5_leastDistance_L62 x4 x5 v_lw n) x7 x9 = some o := hf
    delta f_X5_leastDistance_L62_body at hf
    generalize hgr : f_X5_leastDistance_L62 x4 x5 v_lw n = rec62 at hf hrec62
    refine lv_iload hx hb dX5_leastDistance_62 (lv_at hl 4 rfl) ?_
    refine lv_bipush (v := (100 : Int32)) hx hb dX5_leastDistance_64 (by decide) ?_
    refine lv_icmp_ge (tgt := 102) hx hb dX5_leastDistance_66 (by decide) (fun c_1 => ?_) (fun c_1 => ?_)
    · have hf := (if_pos c_1).symm.trans hf
      refine lv_bipush (v := (100 : Int32)) hx hb dX5_leastDistance_102 (by decide) ?_
      obtain rfl := Option.some.inj hf
      exact pa_ei X hP hD hS dX5_leastDistance_104
    · have hf := (if_neg c_1).symm.trans hf
      refine lv_lload hx hb dX5_leastDistance_69 (lv_at hl 3 rfl) ?_
      refine lv_aload_n hx hb dX5_leastDistance_71 rfl (lv_at hl 0 rfl) ?_
      refine va_get (D := D) (ci := 5) (v := .ref a_lw) (C := RX5) (T := TX5) (N := 2) hx hb hts il_X5_leastDistance_X5 hown hK hP 0 rfl rfl 1 (by decide) (hts _ fk_X5_leastDistance_0) (fun _ h9 => h9) rfl dX5_leastDistance_72 ?_
      refine lv_iload hx hb dX5_leastDistance_75 (lv_at hl 4 rfl) ?_
      obtain ⟨hi_2, hf⟩ := pa_gd hf
      refine va_lald hx hb hK hP 2 1 rfl rfl hi_2 dX5_leastDistance_77 ?_
      refine lv_ladd hx hb dX5_leastDistance_78 ?_
      refine lv_lstore (lv' := [(7, .long (x7 + (v_lw (Int32.toNatClampNeg x9)))), (0, .ref a_lo), (4, .int x4), (5, .long x5), (9, .int x9)]) hx hb dX5_leastDistance_79 hl (by decide) rfl (fun ls hl => ?_)
      refine lv_lload hx hb dX5_leastDistance_81 (lv_at hl 0 rfl) ?_
      refine lv_lload hx hb dX5_leastDistance_83 (lv_at hl 3 rfl) ?_
      refine lv_iload hx hb dX5_leastDistance_85 (lv_at hl 2 rfl) ?_
      obtain ⟨u_3, hg_4, hf⟩ := pa_bd hf
      refine pa_ki (wc := ([] : va_W)) (wr := [(a_lo, .inr (5, [.ref a_lt, .ref a_lw])), (a_lt, .inl (cJ, 1326, .inr (.inl v_lt))), (a_lw, .inl (cJ, 101, .inr (.inl v_lw)))]) (w1 := ([] : va_W)) (w2 := (wo_X5_leastDistance cI cJ a_lo a_lt a_lw v_lt v_lw)) X hP hD hS [] [0, 1, 2] [0, 1, 2] rfl (pa_rS (As := [.long (x7 + (v_lw (Int32.toNatClampNeg x9))), .long x5, .int x4]) (rest := []) X hP hD hS [] rfl rfl (c_X5_isEnough hg_4 H.size) (va_cwS 3 hts gX5_leastDistance_X5_isEnough rfl rfl rfl (by decide +kernel) ⟨Nat.le_of_ble_eq_true rfl, Nat.le_of_ble_eq_true rfl⟩) rfl hl.1 rfl (Nat.le_of_ble_eq_true rfl) dX5_leastDistance_87 ⟨Nat.zero_le _, Nat.zero_le _⟩) rfl rfl (by decide) rfl rfl (fun H locs hP hD hS => ?_)
      refine lv_if_eq (tgt := 96) hx hb dX5_leastDistance_90 (by decide) (fun c_5 => ?_) (fun c_5 => ?_)
      · have hf := (if_pos c_5).symm.trans hf
        refine lv_iinc (v := (x9 + (1 : Int32))) (lv' := [(9, .int (x9 + (1 : Int32))), (7, .long (x7 + (v_lw (Int32.toNatClampNeg x9)))), (0, .ref a_lo), (4, .int x4), (5, .long x5)]) hx hb dX5_leastDistance_96 hl (k := 4) rfl rfl (by decide) rfl (fun ls hl => ?_)
        refine lv_goto (tgt := 62) hx hb dX5_leastDistance_99 (by decide) ?_
        exact hrec62 _ _ hf _ _  hP hD hS _ (lv_sub hl [2, 3, 4, 1, 0] rfl)
      · have hf := (if_neg c_5).symm.trans hf
        refine lv_iload hx hb dX5_leastDistance_93 (lv_at hl 4 rfl) ?_
        obtain rfl := Option.some.inj hf
        exact pa_ei X hP hD hS dX5_leastDistance_95
set_option maxHeartbeats 4000000 in
set_option maxRecDepth 100000 in
theorem w_X5_leastDistance_L11 {l : Launch} {D : va_G} {cI cJ : ClassId} {g : pa_GT} {a_lo a_lt a_lw : Nat} {A : Nat → Prop} {p : Program} {e : Env} {s : State} {m : MethodId} {args : Array Value} {below : List Frame} {meth : Method} {c : Code} {x1 : Int32} {x2 : Int32} {x3 : Int32} {x4 : Int32} {v_lt : Nat → Int64}  {o : Int32 × (Nat → Int64)} (X : pa_X cX5_leastDistance 10 (some .int) RX5 wsX5_leastDistance D cI cJ g A p s m args meth c)  : ∀ (n : Nat) (x5 : Int32) (v_lw : Nat → Int64), f_X5_leastDistance_L11 x1 x2 x3 x4 v_lt n x5 v_lw = some o → ∀ (H : Heap) (locs : List Loc) , va_P D vwCl (wo_X5_leastDistance cI cJ a_lo a_lt a_lw v_lt v_lw) H → va_D A (wo_X5_leastDistance cI cJ a_lo a_lt a_lw v_lt v_lw) → va_S A s.heap H locs → ∀ (ls : Array Slot), lv_has ls 10 [(0, .ref a_lo), (1, .int x1), (2, .int x2), (3, .int x3), (4, .int x4), (5, .int x5)] → W p l e (headSpec wsX5_leastDistance rm_X5_leastDistance).room s m args below meth c H locs 0 0 (MQ below (va_Qi (fun r (_ : Unit) => r = o.1) (pa_QB D A (wo_X5_leastDistance cI cJ a_lo a_lt a_lw v_lt o.2)) A) args s 0 0 A) (F0 m 11 ls []) := by
  obtain ⟨hx, hb, hr, hml, hown, hts, hK, hA, hG, hlk⟩ := id X
  intro n
  induction n with
  | zero =>
    intro x5 v_lw hf
    have hf : (none : Option (Int32 × (Nat → Int64))) = some o := hf
    cases hf
  | succ n hrec11 =>
    intro x5 v_lw hf H locs  hP hD hS ls hl
    have hf : f_X5_leastDistance_L11_body x1 x2 x3 x4 v_lt (f_X5_leastDistance_L11 x1 x2 x3 x4 v_lt n) x5 v_lw = some o := hf
    delta f_X5_leastDistance_L11_body at hf
    generalize hgr : f_X5_leastDistance_L11 x1 x2 x3 x4 v_lt n = rec11 at hf hrec11
    refine lv_iload hx hb dX5_leastDistance_11 (lv_at hl 5 rfl) ?_
    refine lv_iload_n hx hb dX5_leastDistance_13 rfl (lv_at hl 3 rfl) ?_
    refine lv_icmp_gt (tgt := 48) hx hb dX5_leastDistance_14 (by decide) (fun c_6 => ?_) (fun c_6 => ?_)
    · have hf := (if_pos c_6).symm.trans hf
      refine lv_aload_n hx hb dX5_leastDistance_48 rfl (lv_at hl 0 rfl) ?_
      refine lv_iload_n hx hb dX5_leastDistance_49 rfl (lv_at hl 1 rfl) ?_
      refine lv_iload_n hx hb dX5_leastDistance_50 rfl (lv_at hl 3 rfl) ?_
      obtain ⟨u_7, hg_8, hf⟩ := pa_bd hf
      refine pa_kl (wc := (wo_X5_choose cI cJ a_lo a_lt a_lw v_lt)) (wr := [(a_lw, .inl (cJ, 101, .inr (.inl v_lw)))]) (w1 := (wo_X5_choose cI cJ a_lo a_lt a_lw v_lt)) (w2 := (wo_X5_leastDistance cI cJ a_lo a_lt a_lw v_lt v_lw)) X hP hD hS [0, 1] [2] [1, 2, 0] rfl (pa_rV (As := [.int x1, .int x3]) (rest := []) (T := TX5) X hP hD hS [0, 1] rfl rfl (c_X5_choose hg_8 H.size) (cwV 2 hts gX5_leastDistance_X5_choose rfl rfl rfl (by decide +kernel) ⟨Nat.le_of_ble_eq_true rfl, Nat.le_of_ble_eq_true rfl⟩) (q0 := 0) rfl rfl rfl hl.1 rfl (Nat.le_of_ble_eq_true rfl) dX5_leastDistance_51 ⟨Nat.zero_le _, Nat.zero_le _⟩) rfl rfl (by decide) rfl rfl (fun H locs hP hD hS => ?_)
      refine lv_lstore (lv' := [(5, .long u_7), (0, .ref a_lo), (1, .int x1), (2, .int x2), (3, .int x3), (4, .int x4)]) hx hb dX5_leastDistance_54 hl (by decide) rfl (fun ls hl => ?_)
      refine lv_lconst (v := (0 : Int64)) hx hb dX5_leastDistance_56 (by decide) ?_
      refine lv_lstore (lv' := [(7, .long (0 : Int64)), (5, .long u_7), (0, .ref a_lo), (1, .int x1), (2, .int x2), (3, .int x3), (4, .int x4)]) hx hb dX5_leastDistance_57 hl (by decide) rfl (fun ls hl => ?_)
      refine lv_iconst (v := (0 : Int32)) hx hb dX5_leastDistance_59 (by decide) ?_
      refine lv_istore (lv' := [(9, .int (0 : Int32)), (7, .long (0 : Int64)), (5, .long u_7), (0, .ref a_lo), (1, .int x1), (2, .int x2), (3, .int x3), (4, .int x4)]) hx hb dX5_leastDistance_60 hl (by decide) rfl (fun ls hl => ?_)
      exact w_X5_leastDistance_L62 X  _ _ _ hf _ _  hP hD hS _ (lv_sub hl [3, 7, 2, 1, 0] rfl)
    · have hf := (if_neg c_6).symm.trans hf
      refine lv_aload_n hx hb dX5_leastDistance_17 rfl (lv_at hl 0 rfl) ?_
      refine va_get (D := D) (ci := 5) (v := .ref a_lw) (C := RX5) (T := TX5) (N := 2) hx hb hts il_X5_leastDistance_X5 hown hK hP 0 rfl rfl 1 (by decide) (hts _ fk_X5_leastDistance_0) (fun _ h9 => h9) rfl dX5_leastDistance_18 ?_
      refine lv_iload_n hx hb dX5_leastDistance_21 rfl (lv_at hl 1 rfl) ?_
      refine lv_iload_n hx hb dX5_leastDistance_22 rfl (lv_at hl 2 rfl) ?_
      refine lv_iload_n hx hb dX5_leastDistance_23 rfl (lv_at hl 3 rfl) ?_
      refine lv_iload hx hb dX5_leastDistance_24 (lv_at hl 5 rfl) ?_
      obtain ⟨u_9, hg_10, hf⟩ := pa_bd hf
      refine pa_ki (wc := ([] : va_W)) (wr := [(a_lo, .inr (5, [.ref a_lt, .ref a_lw])), (a_lt, .inl (cJ, 1326, .inr (.inl v_lt))), (a_lw, .inl (cJ, 101, .inr (.inl v_lw)))]) (w1 := ([] : va_W)) (w2 := (wo_X5_leastDistance cI cJ a_lo a_lt a_lw v_lt v_lw)) X hP hD hS [] [0, 1, 2] [0, 1, 2] rfl (pa_rS (As := [.int x1, .int x2, .int x3, .int x5]) (rest := [.ref a_lw]) X hP hD hS [] rfl rfl (c_X5_distance hg_10 H.size) (va_cwS 4 hts gX5_leastDistance_X5_distance rfl rfl rfl (by decide +kernel) ⟨Nat.le_of_ble_eq_true rfl, Nat.le_of_ble_eq_true rfl⟩) rfl hl.1 rfl (Nat.le_of_ble_eq_true rfl) dX5_leastDistance_26 ⟨Nat.zero_le _, Nat.zero_le _⟩) rfl rfl (by decide) rfl rfl (fun H locs hP hD hS => ?_)
      refine lv_dup2_11 hx hb dX5_leastDistance_29 rfl rfl ?_
      obtain ⟨hi_11, hf⟩ := pa_gd hf
      refine va_lald hx hb hK hP 2 1 rfl rfl hi_11 dX5_leastDistance_30 ?_
      refine lv_aload_n hx hb dX5_leastDistance_31 rfl (lv_at hl 0 rfl) ?_
      refine lv_iload_n hx hb dX5_leastDistance_32 rfl (lv_at hl 1 rfl) ?_
      refine lv_iload_n hx hb dX5_leastDistance_33 rfl (lv_at hl 2 rfl) ?_
      refine lv_iload_n hx hb dX5_leastDistance_34 rfl (lv_at hl 3 rfl) ?_
      refine lv_iload hx hb dX5_leastDistance_35 (lv_at hl 5 rfl) ?_
      obtain ⟨u_12, hg_13, hf⟩ := pa_bd hf
      refine pa_kl (wc := (wo_X5_just cI cJ a_lo a_lt a_lw v_lt)) (wr := [(a_lw, .inl (cJ, 101, .inr (.inl v_lw)))]) (w1 := (wo_X5_just cI cJ a_lo a_lt a_lw v_lt)) (w2 := (wo_X5_leastDistance cI cJ a_lo a_lt a_lw v_lt v_lw)) X hP hD hS [0, 1] [2] [1, 2, 0] rfl (pa_rV (As := [.int x1, .int x2, .int x3, .int x5]) (rest := [.long (v_lw (Int32.toNatClampNeg u_9)), .int u_9, .ref a_lw]) (T := TX5) X hP hD hS [0, 1] rfl rfl (c_X5_just hg_13 H.size) (cwV 4 hts gX5_leastDistance_X5_just rfl rfl rfl (by decide +kernel) ⟨Nat.le_of_ble_eq_true rfl, Nat.le_of_ble_eq_true rfl⟩) (q0 := 0) rfl rfl rfl hl.1 rfl (Nat.le_of_ble_eq_true rfl) dX5_leastDistance_37 ⟨Nat.zero_le _, Nat.zero_le _⟩) rfl rfl (by decide) rfl rfl (fun H locs hP hD hS => ?_)
      refine lv_ladd hx hb dX5_leastDistance_40 ?_
      refine va_last hx hb hK hP hD hS 2 1 rfl rfl hi_11 dX5_leastDistance_41 (fun H locs hP hD hS => ?_)
      have hP : va_P D vwCl (wo_X5_leastDistance cI cJ a_lo a_lt a_lw v_lt (vp_updL v_lw (Int32.toNatClampNeg u_9) ((v_lw (Int32.toNatClampNeg u_9)) + u_12))) H := hP
      have hD : va_D A (wo_X5_leastDistance cI cJ a_lo a_lt a_lw v_lt (vp_updL v_lw (Int32.toNatClampNeg u_9) ((v_lw (Int32.toNatClampNeg u_9)) + u_12))) := hD
      refine lv_iinc (v := (x5 + (1 : Int32))) (lv' := [(5, .int (x5 + (1 : Int32))), (0, .ref a_lo), (1, .int x1), (2, .int x2), (3, .int x3), (4, .int x4)]) hx hb dX5_leastDistance_42 hl (k := 5) rfl rfl (by decide) rfl (fun ls hl => ?_)
      refine lv_goto (tgt := 11) hx hb dX5_leastDistance_45 (by decide) ?_
      exact hrec11 _ _ hf _ _  hP hD hS _ (lv_sub hl [1, 2, 3, 4, 5, 0] rfl)
set_option maxHeartbeats 4000000 in
set_option maxRecDepth 100000 in
theorem w_X5_leastDistance_b0 {l : Launch} {D : va_G} {cI cJ : ClassId} {g : pa_GT} {a_lo a_lt a_lw : Nat} {A : Nat → Prop} {p : Program} {e : Env} {s : State} {m : MethodId} {args : Array Value} {below : List Frame} {meth : Method} {c : Code} {x1 : Int32} {x2 : Int32} {x3 : Int32} {x4 : Int32} {v_lt : Nat → Int64} {v_lw : Nat → Int64}  {o : Int32 × (Nat → Int64)} (X : pa_X cX5_leastDistance 10 (some .int) RX5 wsX5_leastDistance D cI cJ g A p s m args meth c)  (hf : f_X5_leastDistance x1 x2 x3 x4 v_lt v_lw = some o) {H : Heap} {locs : List Loc} (hP : va_P D vwCl (wo_X5_leastDistance cI cJ a_lo a_lt a_lw v_lt v_lw) H) (hD : va_D A (wo_X5_leastDistance cI cJ a_lo a_lt a_lw v_lt v_lw)) (hS : va_S A s.heap H locs) {ls : Array Slot} (hl : lv_has ls 10 [(0, .ref a_lo), (1, .int x1), (2, .int x2), (3, .int x3), (4, .int x4)]) : W p l e (headSpec wsX5_leastDistance rm_X5_leastDistance).room s m args below meth c H locs 0 0 (MQ below (va_Qi (fun r (_ : Unit) => r = o.1) (pa_QB D A (wo_X5_leastDistance cI cJ a_lo a_lt a_lw v_lt o.2)) A) args s 0 0 A) (F0 m 0 ls []) := by
  obtain ⟨hx, hb, hr, hml, hown, hts, hK, hA, hG, hlk⟩ := id X
  delta f_X5_leastDistance at hf
  refine lv_aload_n hx hb dX5_leastDistance_0 rfl (lv_at hl 0 rfl) ?_
  refine va_get (D := D) (ci := 5) (v := .ref a_lw) (C := RX5) (T := TX5) (N := 2) hx hb hts il_X5_leastDistance_X5 hown hK hP 0 rfl rfl 1 (by decide) (hts _ fk_X5_leastDistance_0) (fun _ h9 => h9) rfl dX5_leastDistance_1 ?_
  refine lv_lconst (v := (0 : Int64)) hx hb dX5_leastDistance_4 (by decide) ?_
  refine pa_kv (wc := [(a_lw, .inl (cJ, 101, .inr (.inl v_lw)))]) (wr := [(a_lo, .inr (5, [.ref a_lt, .ref a_lw])), (a_lt, .inl (cJ, 1326, .inr (.inl v_lt)))]) (w1 := [(a_lw, .inl (cJ, 101, .inr (.inl (pa_fillJ v_lw 101 (0 : Int64)))))]) (w2 := (wo_X5_leastDistance cI cJ a_lo a_lt a_lw v_lt (pa_fillJ v_lw 101 (0 : Int64)))) X hP hD hS [2] [0, 1] [0, 1, 2] rfl (pa_rS (As := [.ref a_lw, .long (0 : Int64)]) (rest := []) X hP hD hS [2] rfl rfl (c_fillJ (by decide) H.size) (va_cwS 2 hts gX5_leastDistance_J7_fill_d0a16 rfl rfl rfl (by decide +kernel) ⟨Nat.le_of_ble_eq_true rfl, Nat.le_of_ble_eq_true rfl⟩) rfl hl.1 rfl (Nat.le_of_ble_eq_true rfl) dX5_leastDistance_5 ⟨Nat.zero_le _, Nat.zero_le _⟩) rfl rfl (by decide) rfl rfl (fun H locs hP hD hS => ?_)
  refine lv_iconst (v := (0 : Int32)) hx hb dX5_leastDistance_8 (by decide) ?_
  refine lv_istore (lv' := [(5, .int (0 : Int32)), (0, .ref a_lo), (1, .int x1), (2, .int x2), (3, .int x3), (4, .int x4)]) hx hb dX5_leastDistance_9 hl (by decide) rfl (fun ls hl => ?_)
  exact w_X5_leastDistance_L11 X  _ _ _ hf _ _  hP hD hS _ (lv_sub hl [1, 2, 3, 4, 5, 0] rfl)
set_option maxHeartbeats 4000000 in
set_option maxRecDepth 100000 in
theorem c_X5_leastDistance {l : Launch} {D : va_G} {cI cJ : ClassId} {g : pa_GT} {a_lo a_lt a_lw : Nat} {x1 : Int32} {x2 : Int32} {x3 : Int32} {x4 : Int32} {v_lt : Nat → Int64} {v_lw : Nat → Int64} {o : Int32 × (Nat → Int64)} (hf : f_X5_leastDistance x1 x2 x3 x4 v_lt v_lw = some o) : pa_Mi l yX5_leastDistance wsX5_leastDistance rm_X5_leastDistance D cI cJ g [.ref a_lo, .int x1, .int x2, .int x3, .int x4] (wo_X5_leastDistance cI cJ a_lo a_lt a_lw v_lt v_lw) (wo_X5_leastDistance cI cJ a_lo a_lt a_lw v_lt o.2) o.1 := by
  intro sz
  refine pa_met (cc := cX5_leastDistance) (maxL := 10) (ret := (some .int)) (lv := [(0, .ref a_lo), (1, .int x1), (2, .int x2), (3, .int x3), (4, .int x4)]) (by decide) rfl (Nat.le_of_ble_eq_true rfl) rfl ?_
  intro p e s m below meth c X hsz hP hD ls hl
  subst hsz
  exact w_X5_leastDistance_b0 X hf hP hD va_S.rf hl
abbrev wo_X5_likeliest (cI cJ : ClassId) (a_lo a_lt a_lw : Nat) (v_lt : Nat → Int64) : va_W := [(a_lo, .inr (5, [.ref a_lt, .ref a_lw])), (a_lt, .inl (cJ, 1326, .inr (.inl v_lt)))]
abbrev rm_X5_likeliest : Room := { frames := 3, cells := 0, slots := 0, locals := 68 }
def f_X5_likeliest_L6_body (x1 : Int32) (x2 : Int32) (x3 : Int32) (v_lt : Nat → Int64) (rec6 : Int32 → Int32 → Option (Int32)) (x4 : Int32) (x5 : Int32) : Option (Int32) :=
  if x1 < x5 then
    some (x4)
  else
    (f_X5_just x1 x5 x2 x3 v_lt).bind fun u_2 =>
    (f_X5_just x1 x4 x2 x3 v_lt).bind fun u_4 =>
    if (lg_cmp u_2 u_4) ≤ 0 then
      rec6 x4 (x5 + (1 : Int32))
    else
      rec6 x5 (x5 + (1 : Int32))
def f_X5_likeliest_L6 (x1 : Int32) (x2 : Int32) (x3 : Int32) (v_lt : Nat → Int64) : Nat → Int32 → Int32 → Option (Int32)
  | 0 => fun _ _ => none
  | n + 1 => f_X5_likeliest_L6_body x1 x2 x3 v_lt (f_X5_likeliest_L6 x1 x2 x3 v_lt n)
def f_X5_likeliest (x1 : Int32) (x2 : Int32) (x3 : Int32) (v_lt : Nat → Int64) : Option (Int32) :=
  f_X5_likeliest_L6 x1 x2 x3 v_lt pa_fu (0 : Int32) (1 : Int32)
set_option maxHeartbeats 4000000 in
set_option maxRecDepth 100000 in
theorem w_X5_likeliest_L6 {l : Launch} {D : va_G} {cI cJ : ClassId} {g : pa_GT} {a_lo a_lt a_lw : Nat} {A : Nat → Prop} {p : Program} {e : Env} {s : State} {m : MethodId} {args : Array Value} {below : List Frame} {meth : Method} {c : Code} {x1 : Int32} {x2 : Int32} {x3 : Int32} {v_lt : Nat → Int64}  {o : Int32} (X : pa_X cX5_likeliest 6 (some .int) RX5 wsX5_likeliest D cI cJ g A p s m args meth c)  : ∀ (n : Nat) (x4 : Int32) (x5 : Int32), f_X5_likeliest_L6 x1 x2 x3 v_lt n x4 x5 = some o → ∀ (H : Heap) (locs : List Loc) , va_P D vwCl (wo_X5_likeliest cI cJ a_lo a_lt a_lw v_lt) H → va_D A (wo_X5_likeliest cI cJ a_lo a_lt a_lw v_lt) → va_S A s.heap H locs → ∀ (ls : Array Slot), lv_has ls 6 [(0, .ref a_lo), (1, .int x1), (2, .int x2), (3, .int x3), (4, .int x4), (5, .int x5)] → W p l e (headSpec wsX5_likeliest rm_X5_likeliest).room s m args below meth c H locs 0 0 (MQ below (va_Qi (fun r (_ : Unit) => r = o) (pa_QB D A (wo_X5_likeliest cI cJ a_lo a_lt a_lw v_lt)) A) args s 0 0 A) (F0 m 6 ls []) := by
  obtain ⟨hx, hb, hr, hml, hown, hts, hK, hA, hG, hlk⟩ := id X
  intro n
  induction n with
  | zero =>
    intro x4 x5 hf
    have hf : (none : Option (Int32)) = some o := hf
    cases hf
  | succ n hrec6 =>
    intro x4 x5 hf H locs  hP hD hS ls hl
    have hf : f_X5_likeliest_L6_body x1 x2 x3 v_lt (f_X5_likeliest_L6 x1 x2 x3 v_lt n) x4 x5 = some o := hf
    delta f_X5_likeliest_L6_body at hf
    generalize hgr : f_X5_likeliest_L6 x1 x2 x3 v_lt n = rec6 at hf hrec6
    refine lv_iload hx hb dX5_likeliest_6 (lv_at hl 5 rfl) ?_
    refine lv_iload_n hx hb dX5_likeliest_8 rfl (lv_at hl 1 rfl) ?_
    refine lv_icmp_gt (tgt := 44) hx hb dX5_likeliest_9 (by decide) (fun c_1 => ?_) (fun c_1 => ?_)
    · have hf := (if_pos c_1).symm.trans hf
      refine lv_iload hx hb dX5_likeliest_44 (lv_at hl 4 rfl) ?_
      obtain rfl := Option.some.inj hf
      exact pa_ei X hP hD hS dX5_likeliest_46
    · have hf := (if_neg c_1).symm.trans hf
      refine lv_aload_n hx hb dX5_likeliest_12 rfl (lv_at hl 0 rfl) ?_
      refine lv_iload_n hx hb dX5_likeliest_13 rfl (lv_at hl 1 rfl) ?_
      refine lv_iload hx hb dX5_likeliest_14 (lv_at hl 5 rfl) ?_
      refine lv_iload_n hx hb dX5_likeliest_16 rfl (lv_at hl 2 rfl) ?_
      refine lv_iload_n hx hb dX5_likeliest_17 rfl (lv_at hl 3 rfl) ?_
      obtain ⟨u_2, hg_3, hf⟩ := pa_bd hf
      refine pa_kl (wc := (wo_X5_just cI cJ a_lo a_lt a_lw v_lt)) (wr := ([] : va_W)) (w1 := (wo_X5_just cI cJ a_lo a_lt a_lw v_lt)) (w2 := (wo_X5_likeliest cI cJ a_lo a_lt a_lw v_lt)) X hP hD hS [0, 1] [] [0, 1] rfl (pa_rV (As := [.int x1, .int x5, .int x2, .int x3]) (rest := []) (T := TX5) X hP hD hS [0, 1] rfl rfl (c_X5_just hg_3 H.size) (cwV 4 hts gX5_likeliest_X5_just rfl rfl rfl (by decide +kernel) ⟨Nat.le_of_ble_eq_true rfl, Nat.le_of_ble_eq_true rfl⟩) (q0 := 0) rfl rfl rfl hl.1 rfl (Nat.le_of_ble_eq_true rfl) dX5_likeliest_18 ⟨Nat.zero_le _, Nat.zero_le _⟩) rfl rfl (by decide) rfl rfl (fun H locs hP hD hS => ?_)
      refine lv_aload_n hx hb dX5_likeliest_21 rfl (lv_at hl 0 rfl) ?_
      refine lv_iload_n hx hb dX5_likeliest_22 rfl (lv_at hl 1 rfl) ?_
      refine lv_iload hx hb dX5_likeliest_23 (lv_at hl 4 rfl) ?_
      refine lv_iload_n hx hb dX5_likeliest_25 rfl (lv_at hl 2 rfl) ?_
      refine lv_iload_n hx hb dX5_likeliest_26 rfl (lv_at hl 3 rfl) ?_
      obtain ⟨u_4, hg_5, hf⟩ := pa_bd hf
      refine pa_kl (wc := (wo_X5_just cI cJ a_lo a_lt a_lw v_lt)) (wr := ([] : va_W)) (w1 := (wo_X5_just cI cJ a_lo a_lt a_lw v_lt)) (w2 := (wo_X5_likeliest cI cJ a_lo a_lt a_lw v_lt)) X hP hD hS [0, 1] [] [0, 1] rfl (pa_rV (As := [.int x1, .int x4, .int x2, .int x3]) (rest := [.long u_2]) (T := TX5) X hP hD hS [0, 1] rfl rfl (c_X5_just hg_5 H.size) (cwV 4 hts gX5_likeliest_X5_just rfl rfl rfl (by decide +kernel) ⟨Nat.le_of_ble_eq_true rfl, Nat.le_of_ble_eq_true rfl⟩) (q0 := 0) rfl rfl rfl hl.1 rfl (Nat.le_of_ble_eq_true rfl) dX5_likeliest_27 ⟨Nat.zero_le _, Nat.zero_le _⟩) rfl rfl (by decide) rfl rfl (fun H locs hP hD hS => ?_)
      refine W.lcmp hx hb dX5_likeliest_30 ?_
      refine lv_if_le (tgt := 38) hx hb dX5_likeliest_31 (by decide) (fun c_6 => ?_) (fun c_6 => ?_)
      · have hf := (if_pos c_6).symm.trans hf
        refine lv_iinc (v := (x5 + (1 : Int32))) (lv' := [(5, .int (x5 + (1 : Int32))), (0, .ref a_lo), (1, .int x1), (2, .int x2), (3, .int x3), (4, .int x4)]) hx hb dX5_likeliest_38 hl (k := 5) rfl rfl (by decide) rfl (fun ls hl => ?_)
        refine lv_goto (tgt := 6) hx hb dX5_likeliest_41 (by decide) ?_
        exact hrec6 _ _ hf _ _  hP hD hS _ (lv_sub hl [1, 2, 3, 4, 5, 0] rfl)
      · have hf := (if_neg c_6).symm.trans hf
        refine lv_iload hx hb dX5_likeliest_34 (lv_at hl 5 rfl) ?_
        refine lv_istore (lv' := [(4, .int x5), (0, .ref a_lo), (1, .int x1), (2, .int x2), (3, .int x3), (5, .int x5)]) hx hb dX5_likeliest_36 hl (by decide) rfl (fun ls hl => ?_)
        refine lv_iinc (v := (x5 + (1 : Int32))) (lv' := [(5, .int (x5 + (1 : Int32))), (4, .int x5), (0, .ref a_lo), (1, .int x1), (2, .int x2), (3, .int x3)]) hx hb dX5_likeliest_38 hl (k := 5) rfl rfl (by decide) rfl (fun ls hl => ?_)
        refine lv_goto (tgt := 6) hx hb dX5_likeliest_41 (by decide) ?_
        exact hrec6 _ _ hf _ _  hP hD hS _ (lv_sub hl [2, 3, 4, 5, 1, 0] rfl)
set_option maxHeartbeats 4000000 in
set_option maxRecDepth 100000 in
theorem w_X5_likeliest_b0 {l : Launch} {D : va_G} {cI cJ : ClassId} {g : pa_GT} {a_lo a_lt a_lw : Nat} {A : Nat → Prop} {p : Program} {e : Env} {s : State} {m : MethodId} {args : Array Value} {below : List Frame} {meth : Method} {c : Code} {x1 : Int32} {x2 : Int32} {x3 : Int32} {v_lt : Nat → Int64}  {o : Int32} (X : pa_X cX5_likeliest 6 (some .int) RX5 wsX5_likeliest D cI cJ g A p s m args meth c)  (hf : f_X5_likeliest x1 x2 x3 v_lt = some o) {H : Heap} {locs : List Loc} (hP : va_P D vwCl (wo_X5_likeliest cI cJ a_lo a_lt a_lw v_lt) H) (hD : va_D A (wo_X5_likeliest cI cJ a_lo a_lt a_lw v_lt)) (hS : va_S A s.heap H locs) {ls : Array Slot} (hl : lv_has ls 6 [(0, .ref a_lo), (1, .int x1), (2, .int x2), (3, .int x3)]) : W p l e (headSpec wsX5_likeliest rm_X5_likeliest).room s m args below meth c H locs 0 0 (MQ below (va_Qi (fun r (_ : Unit) => r = o) (pa_QB D A (wo_X5_likeliest cI cJ a_lo a_lt a_lw v_lt)) A) args s 0 0 A) (F0 m 0 ls []) := by
  obtain ⟨hx, hb, hr, hml, hown, hts, hK, hA, hG, hlk⟩ := id X
  delta f_X5_likeliest at hf
  refine lv_iconst (v := (0 : Int32)) hx hb dX5_likeliest_0 (by decide) ?_
  refine lv_istore (lv' := [(4, .int (0 : Int32)), (0, .ref a_lo), (1, .int x1), (2, .int x2), (3, .int x3)]) hx hb dX5_likeliest_1 hl (by decide) rfl (fun ls hl => ?_)
  refine lv_iconst (v := (1 : Int32)) hx hb dX5_likeliest_3 (by decide) ?_
  refine lv_istore (lv' := [(5, .int (1 : Int32)), (4, .int (0 : Int32)), (0, .ref a_lo), (1, .int x1), (2, .int x2), (3, .int x3)]) hx hb dX5_likeliest_4 hl (by decide) rfl (fun ls hl => ?_)
  exact w_X5_likeliest_L6 X  _ _ _ hf _ _  hP hD hS _ (lv_sub hl [2, 3, 4, 5, 1, 0] rfl)
set_option maxHeartbeats 4000000 in
set_option maxRecDepth 100000 in
theorem c_X5_likeliest {l : Launch} {D : va_G} {cI cJ : ClassId} {g : pa_GT} {a_lo a_lt a_lw : Nat} {x1 : Int32} {x2 : Int32} {x3 : Int32} {v_lt : Nat → Int64} {o : Int32} (hf : f_X5_likeliest x1 x2 x3 v_lt = some o) : pa_Mi l yX5_likeliest wsX5_likeliest rm_X5_likeliest D cI cJ g [.ref a_lo, .int x1, .int x2, .int x3] (wo_X5_likeliest cI cJ a_lo a_lt a_lw v_lt) (wo_X5_likeliest cI cJ a_lo a_lt a_lw v_lt) o := by
  intro sz
  refine pa_met (cc := cX5_likeliest) (maxL := 6) (ret := (some .int)) (lv := [(0, .ref a_lo), (1, .int x1), (2, .int x2), (3, .int x3)]) (by decide) rfl (Nat.le_of_ble_eq_true rfl) rfl ?_
  intro p e s m below meth c X hsz hP hD ls hl
  subst hsz
  exact w_X5_likeliest_b0 X hf hP hD va_S.rf hl
abbrev wo_X5_isLikely (cI cJ : ClassId) (a_lo a_lt a_lw : Nat) (v_lt : Nat → Int64) : va_W := [(a_lo, .inr (5, [.ref a_lt, .ref a_lw])), (a_lt, .inl (cJ, 1326, .inr (.inl v_lt)))]
abbrev rm_X5_isLikely : Room := { frames := 3, cells := 0, slots := 0, locals := 68 }
theorem fk_X5_isLikely_0 : Cond.constantLong RX5 59 (10) ∈ wsX5_isLikely := by decide +kernel
def f_X5_isLikely (x1 : Int32) (x2 : Int32) (x3 : Int32) (x4 : Int32) (x5 : Int64) (v_lt : Nat → Int64) : Option (Int32) :=
  (f_X5_just x1 x2 x3 x4 v_lt).bind fun u_1 =>
  if (lg_cmp (u_1 * (10 : Int64)) x5) < 0 then
    some ((0 : Int32))
  else
    some ((1 : Int32))
set_option maxHeartbeats 4000000 in
set_option maxRecDepth 100000 in
theorem w_X5_isLikely_b0 {l : Launch} {D : va_G} {cI cJ : ClassId} {g : pa_GT} {a_lo a_lt a_lw : Nat} {A : Nat → Prop} {p : Program} {e : Env} {s : State} {m : MethodId} {args : Array Value} {below : List Frame} {meth : Method} {c : Code} {x1 : Int32} {x2 : Int32} {x3 : Int32} {x4 : Int32} {x5 : Int64} {v_lt : Nat → Int64}  {o : Int32} (X : pa_X cX5_isLikely 7 (some .boolean) RX5 wsX5_isLikely D cI cJ g A p s m args meth c)  (hf : f_X5_isLikely x1 x2 x3 x4 x5 v_lt = some o) {H : Heap} {locs : List Loc} (hP : va_P D vwCl (wo_X5_isLikely cI cJ a_lo a_lt a_lw v_lt) H) (hD : va_D A (wo_X5_isLikely cI cJ a_lo a_lt a_lw v_lt)) (hS : va_S A s.heap H locs) {ls : Array Slot} (hl : lv_has ls 7 [(0, .ref a_lo), (1, .int x1), (2, .int x2), (3, .int x3), (4, .int x4), (5, .long x5)]) : W p l e (headSpec wsX5_isLikely rm_X5_isLikely).room s m args below meth c H locs 0 0 (MQ below (va_Qi (fun r (_ : Unit) => r = o) (pa_QB D A (wo_X5_isLikely cI cJ a_lo a_lt a_lw v_lt)) A) args s 0 0 A) (F0 m 0 ls []) := by
  obtain ⟨hx, hb, hr, hml, hown, hts, hK, hA, hG, hlk⟩ := id X
  delta f_X5_isLikely at hf
  refine lv_aload_n hx hb dX5_isLikely_0 rfl (lv_at hl 0 rfl) ?_
  refine lv_iload_n hx hb dX5_isLikely_1 rfl (lv_at hl 1 rfl) ?_
  refine lv_iload_n hx hb dX5_isLikely_2 rfl (lv_at hl 2 rfl) ?_
  refine lv_iload_n hx hb dX5_isLikely_3 rfl (lv_at hl 3 rfl) ?_
  refine lv_iload hx hb dX5_isLikely_4 (lv_at hl 4 rfl) ?_
  obtain ⟨u_1, hg_2, hf⟩ := pa_bd hf
  refine pa_kl (wc := (wo_X5_just cI cJ a_lo a_lt a_lw v_lt)) (wr := ([] : va_W)) (w1 := (wo_X5_just cI cJ a_lo a_lt a_lw v_lt)) (w2 := (wo_X5_isLikely cI cJ a_lo a_lt a_lw v_lt)) X hP hD hS [0, 1] [] [0, 1] rfl (pa_rV (As := [.int x1, .int x2, .int x3, .int x4]) (rest := []) (T := TX5) X hP hD hS [0, 1] rfl rfl (c_X5_just hg_2 H.size) (cwV 4 hts gX5_isLikely_X5_just rfl rfl rfl (by decide +kernel) ⟨Nat.le_of_ble_eq_true rfl, Nat.le_of_ble_eq_true rfl⟩) (q0 := 0) rfl rfl rfl hl.1 rfl (Nat.le_of_ble_eq_true rfl) dX5_isLikely_6 ⟨Nat.zero_le _, Nat.zero_le _⟩) rfl rfl (by decide) rfl rfl (fun H locs hP hD hS => ?_)
  refine lv_ldc2 (v := (10 : Int64)) hx hb hown (hts _ fk_X5_isLikely_0) dX5_isLikely_9 ?_
  refine lv_lmul hx hb dX5_isLikely_12 ?_
  refine lv_lload hx hb dX5_isLikely_13 (lv_at hl 5 rfl) ?_
  refine W.lcmp hx hb dX5_isLikely_15 ?_
  refine lv_if_lt (tgt := 23) hx hb dX5_isLikely_16 (by decide) (fun c_3 => ?_) (fun c_3 => ?_)
  · have hf := (if_pos c_3).symm.trans hf
    refine lv_iconst (v := (0 : Int32)) hx hb dX5_isLikely_23 (by decide) ?_
    obtain rfl := Option.some.inj hf
    exact pa_ez (v := (0 : Int32)) X hP hD hS rfl dX5_isLikely_24
  · have hf := (if_neg c_3).symm.trans hf
    refine lv_iconst (v := (1 : Int32)) hx hb dX5_isLikely_19 (by decide) ?_
    refine lv_goto (tgt := 24) hx hb dX5_isLikely_20 (by decide) ?_
    obtain rfl := Option.some.inj hf
    exact pa_ez (v := (1 : Int32)) X hP hD hS rfl dX5_isLikely_24
set_option maxHeartbeats 4000000 in
set_option maxRecDepth 100000 in
theorem c_X5_isLikely {l : Launch} {D : va_G} {cI cJ : ClassId} {g : pa_GT} {a_lo a_lt a_lw : Nat} {x1 : Int32} {x2 : Int32} {x3 : Int32} {x4 : Int32} {x5 : Int64} {v_lt : Nat → Int64} {o : Int32} (hf : f_X5_isLikely x1 x2 x3 x4 x5 v_lt = some o) : pa_Mi l yX5_isLikely wsX5_isLikely rm_X5_isLikely D cI cJ g [.ref a_lo, .int x1, .int x2, .int x3, .int x4, .long x5] (wo_X5_isLikely cI cJ a_lo a_lt a_lw v_lt) (wo_X5_isLikely cI cJ a_lo a_lt a_lw v_lt) o := by
  intro sz
  refine pa_met (cc := cX5_isLikely) (maxL := 7) (ret := (some .boolean)) (lv := [(0, .ref a_lo), (1, .int x1), (2, .int x2), (3, .int x3), (4, .int x4), (5, .long x5)]) (by decide) rfl (Nat.le_of_ble_eq_true rfl) rfl ?_
  intro p e s m below meth c X hsz hP hD ls hl
  subst hsz
  exact w_X5_isLikely_b0 X hf hP hD va_S.rf hl
abbrev wo_X5_leastTruth (cI cJ : ClassId) (a_lo a_lt a_lw : Nat) (v_lt : Nat → Int64) : va_W := [(a_lo, .inr (5, [.ref a_lt, .ref a_lw])), (a_lt, .inl (cJ, 1326, .inr (.inl v_lt)))]
abbrev rm_X5_leastTruth : Room := { frames := 4, cells := 0, slots := 0, locals := 94 }
def f_X5_leastTruth_L3_body (x1 : Int32) (x2 : Int32) (x3 : Int32) (x4 : Int64) (v_lt : Nat → Int64) (rec3 : Int32 → Option (Int32)) (x6 : Int32) : Option (Int32) :=
  if x1 ≤ x6 then
    some (x1)
  else
    (f_X5_isLikely x1 x6 x2 x3 x4 v_lt).bind fun u_2 =>
    if u_2 = 0 then
      rec3 (x6 + (1 : Int32))
    else
      some (x6)
def f_X5_leastTruth_L3 (x1 : Int32) (x2 : Int32) (x3 : Int32) (x4 : Int64) (v_lt : Nat → Int64) : Nat → Int32 → Option (Int32)
  | 0 => fun _ => none
  | n + 1 => f_X5_leastTruth_L3_body x1 x2 x3 x4 v_lt (f_X5_leastTruth_L3 x1 x2 x3 x4 v_lt n)
def f_X5_leastTruth (x1 : Int32) (x2 : Int32) (x3 : Int32) (x4 : Int64) (v_lt : Nat → Int64) : Option (Int32) :=
  f_X5_leastTruth_L3 x1 x2 x3 x4 v_lt pa_fu (0 : Int32)
set_option maxHeartbeats 4000000 in
set_option maxRecDepth 100000 in
theorem w_X5_leastTruth_L3 {l : Launch} {D : va_G} {cI cJ : ClassId} {g : pa_GT} {a_lo a_lt a_lw : Nat} {A : Nat → Prop} {p : Program} {e : Env} {s : State} {m : MethodId} {args : Array Value} {below : List Frame} {meth : Method} {c : Code} {x1 : Int32} {x2 : Int32} {x3 : Int32} {x4 : Int64} {v_lt : Nat → Int64}  {o : Int32} (X : pa_X cX5_leastTruth 7 (some .int) RX5 wsX5_leastTruth D cI cJ g A p s m args meth c)  : ∀ (n : Nat) (x6 : Int32), f_X5_leastTruth_L3 x1 x2 x3 x4 v_lt n x6 = some o → ∀ (H : Heap) (locs : List Loc) , va_P D vwCl (wo_X5_leastTruth cI cJ a_lo a_lt a_lw v_lt) H → va_D A (wo_X5_leastTruth cI cJ a_lo a_lt a_lw v_lt) → va_S A s.heap H locs → ∀ (ls : Array Slot), lv_has ls 7 [(0, .ref a_lo), (1, .int x1), (2, .int x2), (3, .int x3), (4, .long x4), (6, .int x6)] → W p l e (headSpec wsX5_leastTruth rm_X5_leastTruth).room s m args below meth c H locs 0 0 (MQ below (va_Qi (fun r (_ : Unit) => r = o) (pa_QB D A (wo_X5_leastTruth cI cJ a_lo a_lt a_lw v_lt)) A) args s 0 0 A) (F0 m 3 ls []) := by
  obtain ⟨hx, hb, hr, hml, hown, hts, hK, hA, hG, hlk⟩ := id X
  intro n
  induction n with
  | zero =>
    intro x6 hf
    have hf : (none : Option (Int32)) = some o := hf
    cases hf
  | succ n hrec3 =>
    intro x6 hf H locs  hP hD hS ls hl
    have hf : f_X5_leastTruth_L3_body x1 x2 x3 x4 v_lt (f_X5_leastTruth_L3 x1 x2 x3 x4 v_lt n) x6 = some o := hf
    delta f_X5_leastTruth_L3_body at hf
    generalize hgr : f_X5_leastTruth_L3 x1 x2 x3 x4 v_lt n = rec3 at hf hrec3
    refine lv_iload hx hb dX5_leastTruth_3 (lv_at hl 5 rfl) ?_
    refine lv_iload_n hx hb dX5_leastTruth_5 rfl (lv_at hl 1 rfl) ?_
    refine lv_icmp_ge (tgt := 32) hx hb dX5_leastTruth_6 (by decide) (fun c_1 => ?_) (fun c_1 => ?_)
    · have hf := (if_pos c_1).symm.trans hf
      refine lv_iload_n hx hb dX5_leastTruth_32 rfl (lv_at hl 1 rfl) ?_
      obtain rfl := Option.some.inj hf
      exact pa_ei X hP hD hS dX5_leastTruth_33
    · have hf := (if_neg c_1).symm.trans hf
      refine lv_aload_n hx hb dX5_leastTruth_9 rfl (lv_at hl 0 rfl) ?_
      refine lv_iload_n hx hb dX5_leastTruth_10 rfl (lv_at hl 1 rfl) ?_
      refine lv_iload hx hb dX5_leastTruth_11 (lv_at hl 5 rfl) ?_
      refine lv_iload_n hx hb dX5_leastTruth_13 rfl (lv_at hl 2 rfl) ?_
      refine lv_iload_n hx hb dX5_leastTruth_14 rfl (lv_at hl 3 rfl) ?_
      refine lv_lload hx hb dX5_leastTruth_15 (lv_at hl 4 rfl) ?_
      obtain ⟨u_2, hg_3, hf⟩ := pa_bd hf
      refine pa_ki (wc := (wo_X5_isLikely cI cJ a_lo a_lt a_lw v_lt)) (wr := ([] : va_W)) (w1 := (wo_X5_isLikely cI cJ a_lo a_lt a_lw v_lt)) (w2 := (wo_X5_leastTruth cI cJ a_lo a_lt a_lw v_lt)) X hP hD hS [0, 1] [] [0, 1] rfl (pa_rV (As := [.int x1, .int x6, .int x2, .int x3, .long x4]) (rest := []) (T := TX5) X hP hD hS [0, 1] rfl rfl (c_X5_isLikely hg_3 H.size) (cwV 5 hts gX5_leastTruth_X5_isLikely rfl rfl rfl (by decide +kernel) ⟨Nat.le_of_ble_eq_true rfl, Nat.le_of_ble_eq_true rfl⟩) (q0 := 0) rfl rfl rfl hl.1 rfl (Nat.le_of_ble_eq_true rfl) dX5_leastTruth_17 ⟨Nat.zero_le _, Nat.zero_le _⟩) rfl rfl (by decide) rfl rfl (fun H locs hP hD hS => ?_)
      refine lv_if_eq (tgt := 26) hx hb dX5_leastTruth_20 (by decide) (fun c_4 => ?_) (fun c_4 => ?_)
      · have hf := (if_pos c_4).symm.trans hf
        refine lv_iinc (v := (x6 + (1 : Int32))) (lv' := [(6, .int (x6 + (1 : Int32))), (0, .ref a_lo), (1, .int x1), (2, .int x2), (3, .int x3), (4, .long x4)]) hx hb dX5_leastTruth_26 hl (k := 5) rfl rfl (by decide) rfl (fun ls hl => ?_)
        refine lv_goto (tgt := 3) hx hb dX5_leastTruth_29 (by decide) ?_
        exact hrec3 _ hf _ _  hP hD hS _ (lv_sub hl [1, 2, 3, 4, 5, 0] rfl)
      · have hf := (if_neg c_4).symm.trans hf
        refine lv_iload hx hb dX5_leastTruth_23 (lv_at hl 5 rfl) ?_
        obtain rfl := Option.some.inj hf
        exact pa_ei X hP hD hS dX5_leastTruth_25
set_option maxHeartbeats 4000000 in
set_option maxRecDepth 100000 in
theorem w_X5_leastTruth_b0 {l : Launch} {D : va_G} {cI cJ : ClassId} {g : pa_GT} {a_lo a_lt a_lw : Nat} {A : Nat → Prop} {p : Program} {e : Env} {s : State} {m : MethodId} {args : Array Value} {below : List Frame} {meth : Method} {c : Code} {x1 : Int32} {x2 : Int32} {x3 : Int32} {x4 : Int64} {v_lt : Nat → Int64}  {o : Int32} (X : pa_X cX5_leastTruth 7 (some .int) RX5 wsX5_leastTruth D cI cJ g A p s m args meth c)  (hf : f_X5_leastTruth x1 x2 x3 x4 v_lt = some o) {H : Heap} {locs : List Loc} (hP : va_P D vwCl (wo_X5_leastTruth cI cJ a_lo a_lt a_lw v_lt) H) (hD : va_D A (wo_X5_leastTruth cI cJ a_lo a_lt a_lw v_lt)) (hS : va_S A s.heap H locs) {ls : Array Slot} (hl : lv_has ls 7 [(0, .ref a_lo), (1, .int x1), (2, .int x2), (3, .int x3), (4, .long x4)]) : W p l e (headSpec wsX5_leastTruth rm_X5_leastTruth).room s m args below meth c H locs 0 0 (MQ below (va_Qi (fun r (_ : Unit) => r = o) (pa_QB D A (wo_X5_leastTruth cI cJ a_lo a_lt a_lw v_lt)) A) args s 0 0 A) (F0 m 0 ls []) := by
  obtain ⟨hx, hb, hr, hml, hown, hts, hK, hA, hG, hlk⟩ := id X
  delta f_X5_leastTruth at hf
  refine lv_iconst (v := (0 : Int32)) hx hb dX5_leastTruth_0 (by decide) ?_
  refine lv_istore (lv' := [(6, .int (0 : Int32)), (0, .ref a_lo), (1, .int x1), (2, .int x2), (3, .int x3), (4, .long x4)]) hx hb dX5_leastTruth_1 hl (by decide) rfl (fun ls hl => ?_)
  exact w_X5_leastTruth_L3 X  _ _ hf _ _  hP hD hS _ (lv_sub hl [1, 2, 3, 4, 5, 0] rfl)
set_option maxHeartbeats 4000000 in
set_option maxRecDepth 100000 in
theorem c_X5_leastTruth {l : Launch} {D : va_G} {cI cJ : ClassId} {g : pa_GT} {a_lo a_lt a_lw : Nat} {x1 : Int32} {x2 : Int32} {x3 : Int32} {x4 : Int64} {v_lt : Nat → Int64} {o : Int32} (hf : f_X5_leastTruth x1 x2 x3 x4 v_lt = some o) : pa_Mi l yX5_leastTruth wsX5_leastTruth rm_X5_leastTruth D cI cJ g [.ref a_lo, .int x1, .int x2, .int x3, .long x4] (wo_X5_leastTruth cI cJ a_lo a_lt a_lw v_lt) (wo_X5_leastTruth cI cJ a_lo a_lt a_lw v_lt) o := by
  intro sz
  refine pa_met (cc := cX5_leastTruth) (maxL := 7) (ret := (some .int)) (lv := [(0, .ref a_lo), (1, .int x1), (2, .int x2), (3, .int x3), (4, .long x4)]) (by decide) rfl (Nat.le_of_ble_eq_true rfl) rfl ?_
  intro p e s m below meth c X hsz hP hD ls hl
  subst hsz
  exact w_X5_leastTruth_b0 X hf hP hD va_S.rf hl
abbrev wo_X5_mostTruth (cI cJ : ClassId) (a_lo a_lt a_lw : Nat) (v_lt : Nat → Int64) : va_W := [(a_lo, .inr (5, [.ref a_lt, .ref a_lw])), (a_lt, .inl (cJ, 1326, .inr (.inl v_lt)))]
abbrev rm_X5_mostTruth : Room := { frames := 4, cells := 0, slots := 0, locals := 94 }
def f_X5_mostTruth_L3_body (x1 : Int32) (x2 : Int32) (x3 : Int32) (x4 : Int64) (v_lt : Nat → Int64) (rec3 : Int32 → Option (Int32)) (x6 : Int32) : Option (Int32) :=
  if x6 ≤ 0 then
    some ((0 : Int32))
  else
    (f_X5_isLikely x1 x6 x2 x3 x4 v_lt).bind fun u_2 =>
    if u_2 = 0 then
      rec3 (x6 + (-1 : Int32))
    else
      some (x6)
def f_X5_mostTruth_L3 (x1 : Int32) (x2 : Int32) (x3 : Int32) (x4 : Int64) (v_lt : Nat → Int64) : Nat → Int32 → Option (Int32)
  | 0 => fun _ => none
  | n + 1 => f_X5_mostTruth_L3_body x1 x2 x3 x4 v_lt (f_X5_mostTruth_L3 x1 x2 x3 x4 v_lt n)
def f_X5_mostTruth (x1 : Int32) (x2 : Int32) (x3 : Int32) (x4 : Int64) (v_lt : Nat → Int64) : Option (Int32) :=
  f_X5_mostTruth_L3 x1 x2 x3 x4 v_lt pa_fu x1
set_option maxHeartbeats 4000000 in
set_option maxRecDepth 100000 in
theorem w_X5_mostTruth_L3 {l : Launch} {D : va_G} {cI cJ : ClassId} {g : pa_GT} {a_lo a_lt a_lw : Nat} {A : Nat → Prop} {p : Program} {e : Env} {s : State} {m : MethodId} {args : Array Value} {below : List Frame} {meth : Method} {c : Code} {x1 : Int32} {x2 : Int32} {x3 : Int32} {x4 : Int64} {v_lt : Nat → Int64}  {o : Int32} (X : pa_X cX5_mostTruth 7 (some .int) RX5 wsX5_mostTruth D cI cJ g A p s m args meth c)  : ∀ (n : Nat) (x6 : Int32), f_X5_mostTruth_L3 x1 x2 x3 x4 v_lt n x6 = some o → ∀ (H : Heap) (locs : List Loc) , va_P D vwCl (wo_X5_mostTruth cI cJ a_lo a_lt a_lw v_lt) H → va_D A (wo_X5_mostTruth cI cJ a_lo a_lt a_lw v_lt) → va_S A s.heap H locs → ∀ (ls : Array Slot), lv_has ls 7 [(0, .ref a_lo), (1, .int x1), (2, .int x2), (3, .int x3), (4, .long x4), (6, .int x6)] → W p l e (headSpec wsX5_mostTruth rm_X5_mostTruth).room s m args below meth c H locs 0 0 (MQ below (va_Qi (fun r (_ : Unit) => r = o) (pa_QB D A (wo_X5_mostTruth cI cJ a_lo a_lt a_lw v_lt)) A) args s 0 0 A) (F0 m 3 ls []) := by
  obtain ⟨hx, hb, hr, hml, hown, hts, hK, hA, hG, hlk⟩ := id X
  intro n
  induction n with
  | zero =>
    intro x6 hf
    have hf : (none : Option (Int32)) = some o := hf
    cases hf
  | succ n hrec3 =>
    intro x6 hf H locs  hP hD hS ls hl
    have hf : f_X5_mostTruth_L3_body x1 x2 x3 x4 v_lt (f_X5_mostTruth_L3 x1 x2 x3 x4 v_lt n) x6 = some o := hf
    delta f_X5_mostTruth_L3_body at hf
    generalize hgr : f_X5_mostTruth_L3 x1 x2 x3 x4 v_lt n = rec3 at hf hrec3
    refine lv_iload hx hb dX5_mostTruth_3 (lv_at hl 5 rfl) ?_
    refine lv_if_le (tgt := 31) hx hb dX5_mostTruth_5 (by decide) (fun c_1 => ?_) (fun c_1 => ?_)
    · have hf := (if_pos c_1).symm.trans hf
      refine lv_iconst (v := (0 : Int32)) hx hb dX5_mostTruth_31 (by decide) ?_
      obtain rfl := Option.some.inj hf
      exact pa_ei X hP hD hS dX5_mostTruth_32
    · have hf := (if_neg c_1).symm.trans hf
      refine lv_aload_n hx hb dX5_mostTruth_8 rfl (lv_at hl 0 rfl) ?_
      refine lv_iload_n hx hb dX5_mostTruth_9 rfl (lv_at hl 1 rfl) ?_
      refine lv_iload hx hb dX5_mostTruth_10 (lv_at hl 5 rfl) ?_
      refine lv_iload_n hx hb dX5_mostTruth_12 rfl (lv_at hl 2 rfl) ?_
      refine lv_iload_n hx hb dX5_mostTruth_13 rfl (lv_at hl 3 rfl) ?_
      refine lv_lload hx hb dX5_mostTruth_14 (lv_at hl 4 rfl) ?_
      obtain ⟨u_2, hg_3, hf⟩ := pa_bd hf
      refine pa_ki (wc := (wo_X5_isLikely cI cJ a_lo a_lt a_lw v_lt)) (wr := ([] : va_W)) (w1 := (wo_X5_isLikely cI cJ a_lo a_lt a_lw v_lt)) (w2 := (wo_X5_mostTruth cI cJ a_lo a_lt a_lw v_lt)) X hP hD hS [0, 1] [] [0, 1] rfl (pa_rV (As := [.int x1, .int x6, .int x2, .int x3, .long x4]) (rest := []) (T := TX5) X hP hD hS [0, 1] rfl rfl (c_X5_isLikely hg_3 H.size) (cwV 5 hts gX5_mostTruth_X5_isLikely rfl rfl rfl (by decide +kernel) ⟨Nat.le_of_ble_eq_true rfl, Nat.le_of_ble_eq_true rfl⟩) (q0 := 0) rfl rfl rfl hl.1 rfl (Nat.le_of_ble_eq_true rfl) dX5_mostTruth_16 ⟨Nat.zero_le _, Nat.zero_le _⟩) rfl rfl (by decide) rfl rfl (fun H locs hP hD hS => ?_)
      refine lv_if_eq (tgt := 25) hx hb dX5_mostTruth_19 (by decide) (fun c_4 => ?_) (fun c_4 => ?_)
      · have hf := (if_pos c_4).symm.trans hf
        refine lv_iinc (v := (x6 + (-1 : Int32))) (lv' := [(6, .int (x6 + (-1 : Int32))), (0, .ref a_lo), (1, .int x1), (2, .int x2), (3, .int x3), (4, .long x4)]) hx hb dX5_mostTruth_25 hl (k := 5) rfl rfl (by decide) rfl (fun ls hl => ?_)
        refine lv_goto (tgt := 3) hx hb dX5_mostTruth_28 (by decide) ?_
        exact hrec3 _ hf _ _  hP hD hS _ (lv_sub hl [1, 2, 3, 4, 5, 0] rfl)
      · have hf := (if_neg c_4).symm.trans hf
        refine lv_iload hx hb dX5_mostTruth_22 (lv_at hl 5 rfl) ?_
        obtain rfl := Option.some.inj hf
        exact pa_ei X hP hD hS dX5_mostTruth_24
set_option maxHeartbeats 4000000 in
set_option maxRecDepth 100000 in
theorem w_X5_mostTruth_b0 {l : Launch} {D : va_G} {cI cJ : ClassId} {g : pa_GT} {a_lo a_lt a_lw : Nat} {A : Nat → Prop} {p : Program} {e : Env} {s : State} {m : MethodId} {args : Array Value} {below : List Frame} {meth : Method} {c : Code} {x1 : Int32} {x2 : Int32} {x3 : Int32} {x4 : Int64} {v_lt : Nat → Int64}  {o : Int32} (X : pa_X cX5_mostTruth 7 (some .int) RX5 wsX5_mostTruth D cI cJ g A p s m args meth c)  (hf : f_X5_mostTruth x1 x2 x3 x4 v_lt = some o) {H : Heap} {locs : List Loc} (hP : va_P D vwCl (wo_X5_mostTruth cI cJ a_lo a_lt a_lw v_lt) H) (hD : va_D A (wo_X5_mostTruth cI cJ a_lo a_lt a_lw v_lt)) (hS : va_S A s.heap H locs) {ls : Array Slot} (hl : lv_has ls 7 [(0, .ref a_lo), (1, .int x1), (2, .int x2), (3, .int x3), (4, .long x4)]) : W p l e (headSpec wsX5_mostTruth rm_X5_mostTruth).room s m args below meth c H locs 0 0 (MQ below (va_Qi (fun r (_ : Unit) => r = o) (pa_QB D A (wo_X5_mostTruth cI cJ a_lo a_lt a_lw v_lt)) A) args s 0 0 A) (F0 m 0 ls []) := by
  obtain ⟨hx, hb, hr, hml, hown, hts, hK, hA, hG, hlk⟩ := id X
  delta f_X5_mostTruth at hf
  refine lv_iload_n hx hb dX5_mostTruth_0 rfl (lv_at hl 1 rfl) ?_
  refine lv_istore (lv' := [(6, .int x1), (0, .ref a_lo), (1, .int x1), (2, .int x2), (3, .int x3), (4, .long x4)]) hx hb dX5_mostTruth_1 hl (by decide) rfl (fun ls hl => ?_)
  exact w_X5_mostTruth_L3 X  _ _ hf _ _  hP hD hS _ (lv_sub hl [1, 2, 3, 4, 5, 0] rfl)
set_option maxHeartbeats 4000000 in
set_option maxRecDepth 100000 in
theorem c_X5_mostTruth {l : Launch} {D : va_G} {cI cJ : ClassId} {g : pa_GT} {a_lo a_lt a_lw : Nat} {x1 : Int32} {x2 : Int32} {x3 : Int32} {x4 : Int64} {v_lt : Nat → Int64} {o : Int32} (hf : f_X5_mostTruth x1 x2 x3 x4 v_lt = some o) : pa_Mi l yX5_mostTruth wsX5_mostTruth rm_X5_mostTruth D cI cJ g [.ref a_lo, .int x1, .int x2, .int x3, .long x4] (wo_X5_mostTruth cI cJ a_lo a_lt a_lw v_lt) (wo_X5_mostTruth cI cJ a_lo a_lt a_lw v_lt) o := by
  intro sz
  refine pa_met (cc := cX5_mostTruth) (maxL := 7) (ret := (some .int)) (lv := [(0, .ref a_lo), (1, .int x1), (2, .int x2), (3, .int x3), (4, .long x4)]) (by decide) rfl (Nat.le_of_ble_eq_true rfl) rfl ?_
  intro p e s m below meth c X hsz hP hD ls hl
  subst hsz
  exact w_X5_mostTruth_b0 X hf hP hD va_S.rf hl
