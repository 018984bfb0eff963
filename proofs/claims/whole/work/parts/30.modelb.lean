abbrev wo_X10_isWell (cI cJ : ClassId) (a_m a_mt a_ml a_mr a_mx a_mf a_mg a_mw a_mh : Nat) (v_m_thrown : Int32) (v_m_trace : Int64) (v_m_typed : Int32) (v_m_next : Int32) (v_m_token : Int32) (v_m_place : Int32) (v_m_value : Int32) (v_m_fault : Int32) (v_m_finds : Int32) (v_m_weeks : Int32) (v_m_rows : Int32) (v_m_cardPrice : Int32) (v_m_lotPrice : Int32) (v_m_sure : Int32) (v_m_up : Int64) (v_m_down : Int64) : va_W := [(a_m, .inr (9, [.int v_m_thrown, .long v_m_trace, .ref a_mt, .ref a_ml, .ref a_mr, .ref a_mx, .int v_m_typed, .int v_m_next, .int v_m_token, .int v_m_place, .int v_m_value, .int v_m_fault, .int v_m_finds, .ref a_mf, .ref a_mg, .int v_m_weeks, .ref a_mw, .int v_m_rows, .ref a_mh, .int v_m_cardPrice, .int v_m_lotPrice, .int v_m_sure, .long v_m_up, .long v_m_down]))]
abbrev rm_X10_isWell : Room := { frames := 0, cells := 0, slots := 0, locals := 0 }
theorem il_X10_isWell_X10 : ∀ w ∈ wsX100, w ∈ wsX10_isWell := by decide +kernel
theorem fk_X10_isWell_0 : Cond.fieldLink RX10 111 "PostedAsksModel" "fault" "I" ∈ wsX10_isWell := by decide +kernel
def f_X10_isWell (v_m_fault : Int32) : Option (Int32) :=
  if 0 ≤ v_m_fault then
    some ((0 : Int32))
  else
    some ((1 : Int32))
set_option maxHeartbeats 4000000 in
set_option maxRecDepth 100000 in
theorem w_X10_isWell_b0 {l : Launch} {D : va_G} {cI cJ : ClassId} {g : pa_GT} {a_m a_mt a_ml a_mr a_mx a_mf a_mg a_mw a_mh : Nat} {A : Nat → Prop} {p : Program} {e : Env} {s : State} {m : MethodId} {args : Array Value} {below : List Frame} {meth : Method} {c : Code} {v_m_fault : Int32} {v_m_thrown : Int32} {v_m_trace : Int64} {v_m_typed : Int32} {v_m_next : Int32} {v_m_token : Int32} {v_m_place : Int32} {v_m_value : Int32} {v_m_finds : Int32} {v_m_weeks : Int32} {v_m_rows : Int32} {v_m_cardPrice : Int32} {v_m_lotPrice : Int32} {v_m_sure : Int32} {v_m_up : Int64} {v_m_down : Int64} {o : Int32} (X : pa_X cX10_isWell 1 (some .boolean) RX10 wsX10_isWell D cI cJ g A p s m args meth c)  (hf : f_X10_isWell v_m_fault = some o) {H : Heap} {locs : List Loc} (hP : va_P D vwCl (wo_X10_isWell cI cJ a_m a_mt a_ml a_mr a_mx a_mf a_mg a_mw a_mh v_m_thrown v_m_trace v_m_typed v_m_next v_m_token v_m_place v_m_value v_m_fault v_m_finds v_m_weeks v_m_rows v_m_cardPrice v_m_lotPrice v_m_sure v_m_up v_m_down) H) (hD : va_D A (wo_X10_isWell cI cJ a_m a_mt a_ml a_mr a_mx a_mf a_mg a_mw a_mh v_m_thrown v_m_trace v_m_typed v_m_next v_m_token v_m_place v_m_value v_m_fault v_m_finds v_m_weeks v_m_rows v_m_cardPrice v_m_lotPrice v_m_sure v_m_up v_m_down)) (hS : va_S A s.heap H locs) {ls : Array Slot} (hl : lv_has ls 1 [(0, .ref a_m)]) : W p l e (headSpec wsX10_isWell rm_X10_isWell).room s m args below meth c H locs 0 0 (MQ below (va_Qi (fun r (_ : Unit) => r = o) (pa_QB D A (wo_X10_isWell cI cJ a_m a_mt a_ml a_mr a_mx a_mf a_mg a_mw a_mh v_m_thrown v_m_trace v_m_typed v_m_next v_m_token v_m_place v_m_value v_m_fault v_m_finds v_m_weeks v_m_rows v_m_cardPrice v_m_lotPrice v_m_sure v_m_up v_m_down)) A) args s 0 0 A) (F0 m 0 ls []) := by
  obtain ⟨hx, hb, hr, hml, hown, hts, hK, hA, hG, hlk⟩ := id X
  delta f_X10_isWell at hf
  refine lv_aload_n hx hb dX10_isWell_0 rfl (lv_at hl 0 rfl) ?_
  refine va_get (D := D) (ci := 9) (v := .int v_m_fault) (C := RX10) (T := TX10) (N := 24) hx hb hts il_X10_isWell_X10 hown hK hP 0 rfl rfl 11 (by decide) (hts _ fk_X10_isWell_0) (fun _ h9 => h9) rfl dX10_isWell_1 ?_
  refine lv_if_ge (tgt := 11) hx hb dX10_isWell_4 (by decide) (fun c_1 => ?_) (fun c_1 => ?_)
  · have hf := (if_pos c_1).symm.trans hf
    refine lv_iconst (v := (0 : Int32)) hx hb dX10_isWell_11 (by decide) ?_
    obtain rfl := Option.some.inj hf
    exact pa_ez (v := (0 : Int32)) X hP hD hS rfl dX10_isWell_12
  · have hf := (if_neg c_1).symm.trans hf
    refine lv_iconst (v := (1 : Int32)) hx hb dX10_isWell_7 (by decide) ?_
    refine lv_goto (tgt := 12) hx hb dX10_isWell_8 (by decide) ?_
    obtain rfl := Option.some.inj hf
    exact pa_ez (v := (1 : Int32)) X hP hD hS rfl dX10_isWell_12
set_option maxHeartbeats 4000000 in
set_option maxRecDepth 100000 in
theorem c_X10_isWell {l : Launch} {D : va_G} {cI cJ : ClassId} {g : pa_GT} {a_m a_mt a_ml a_mr a_mx a_mf a_mg a_mw a_mh : Nat}  {v_m_thrown : Int32} {v_m_trace : Int64} {v_m_typed : Int32} {v_m_next : Int32} {v_m_token : Int32} {v_m_place : Int32} {v_m_value : Int32} {v_m_fault : Int32} {v_m_finds : Int32} {v_m_weeks : Int32} {v_m_rows : Int32} {v_m_cardPrice : Int32} {v_m_lotPrice : Int32} {v_m_sure : Int32} {v_m_up : Int64} {v_m_down : Int64} {o : Int32} (hf : f_X10_isWell v_m_fault = some o) : pa_Mi l yX10_isWell wsX10_isWell rm_X10_isWell D cI cJ g [.ref a_m] (wo_X10_isWell cI cJ a_m a_mt a_ml a_mr a_mx a_mf a_mg a_mw a_mh v_m_thrown v_m_trace v_m_typed v_m_next v_m_token v_m_place v_m_value v_m_fault v_m_finds v_m_weeks v_m_rows v_m_cardPrice v_m_lotPrice v_m_sure v_m_up v_m_down) (wo_X10_isWell cI cJ a_m a_mt a_ml a_mr a_mx a_mf a_mg a_mw a_mh v_m_thrown v_m_trace v_m_typed v_m_next v_m_token v_m_place v_m_value v_m_fault v_m_finds v_m_weeks v_m_rows v_m_cardPrice v_m_lotPrice v_m_sure v_m_up v_m_down) o := by
  intro sz
  refine pa_met (cc := cX10_isWell) (maxL := 1) (ret := (some .boolean)) (lv := [(0, .ref a_m)]) (by decide) rfl (Nat.le_of_ble_eq_true rfl) rfl ?_
  intro p e s m below meth c X hsz hP hD ls hl
  subst hsz
  exact w_X10_isWell_b0 X hf hP hD va_S.rf hl
abbrev wo_X10_wants (cI cJ : ClassId) (a_m a_mt a_ml a_mr a_mx a_mf a_mg a_mw a_mh : Nat) (v_m_thrown : Int32) (v_m_trace : Int64) (v_m_typed : Int32) (v_m_next : Int32) (v_m_token : Int32) (v_m_place : Int32) (v_m_value : Int32) (v_m_fault : Int32) (v_m_finds : Int32) (v_m_weeks : Int32) (v_m_rows : Int32) (v_m_cardPrice : Int32) (v_m_lotPrice : Int32) (v_m_sure : Int32) (v_m_up : Int64) (v_m_down : Int64) : va_W := [(a_m, .inr (9, [.int v_m_thrown, .long v_m_trace, .ref a_mt, .ref a_ml, .ref a_mr, .ref a_mx, .int v_m_typed, .int v_m_next, .int v_m_token, .int v_m_place, .int v_m_value, .int v_m_fault, .int v_m_finds, .ref a_mf, .ref a_mg, .int v_m_weeks, .ref a_mw, .int v_m_rows, .ref a_mh, .int v_m_cardPrice, .int v_m_lotPrice, .int v_m_sure, .long v_m_up, .long v_m_down]))]
abbrev rm_X10_wants : Room := { frames := 1, cells := 0, slots := 0, locals := 20 }
theorem il_X10_wants_X10 : ∀ w ∈ wsX100, w ∈ wsX10_wants := by decide +kernel
theorem fk_X10_wants_0 : Cond.fieldLink RX10 88 "PostedAsksModel" "place" "I" ∈ wsX10_wants := by decide +kernel
theorem fk_X10_wants_1 : Cond.fieldLink RX10 111 "PostedAsksModel" "fault" "I" ∈ wsX10_wants := by decide +kernel
def f_X10_wants (x1 : Int32) (v_m_place : Int32) (v_m_fault : Int32) : Option (Int32) :=
  (f_X10_isWell v_m_fault).bind fun u_1 =>
  if u_1 = 0 then
    some (v_m_fault)
  else
    if x1 = 0 then
      some (v_m_place)
    else
      some (v_m_fault)
set_option maxHeartbeats 4000000 in
set_option maxRecDepth 100000 in
theorem w_X10_wants_b0 {l : Launch} {D : va_G} {cI cJ : ClassId} {g : pa_GT} {a_m a_mt a_ml a_mr a_mx a_mf a_mg a_mw a_mh : Nat} {A : Nat → Prop} {p : Program} {e : Env} {s : State} {m : MethodId} {args : Array Value} {below : List Frame} {meth : Method} {c : Code} {x1 : Int32} {v_m_place : Int32} {v_m_fault : Int32} {v_m_thrown : Int32} {v_m_trace : Int64} {v_m_typed : Int32} {v_m_next : Int32} {v_m_token : Int32} {v_m_value : Int32} {v_m_finds : Int32} {v_m_weeks : Int32} {v_m_rows : Int32} {v_m_cardPrice : Int32} {v_m_lotPrice : Int32} {v_m_sure : Int32} {v_m_up : Int64} {v_m_down : Int64} {o : Int32} (X : pa_X cX10_wants 2 none RX10 wsX10_wants D cI cJ g A p s m args meth c)  (hf : f_X10_wants x1 v_m_place v_m_fault = some o) {H : Heap} {locs : List Loc} (hP : va_P D vwCl (wo_X10_wants cI cJ a_m a_mt a_ml a_mr a_mx a_mf a_mg a_mw a_mh v_m_thrown v_m_trace v_m_typed v_m_next v_m_token v_m_place v_m_value v_m_fault v_m_finds v_m_weeks v_m_rows v_m_cardPrice v_m_lotPrice v_m_sure v_m_up v_m_down) H) (hD : va_D A (wo_X10_wants cI cJ a_m a_mt a_ml a_mr a_mx a_mf a_mg a_mw a_mh v_m_thrown v_m_trace v_m_typed v_m_next v_m_token v_m_place v_m_value v_m_fault v_m_finds v_m_weeks v_m_rows v_m_cardPrice v_m_lotPrice v_m_sure v_m_up v_m_down)) (hS : va_S A s.heap H locs) {ls : Array Slot} (hl : lv_has ls 2 [(0, .ref a_m), (1, .int x1)]) : W p l e (headSpec wsX10_wants rm_X10_wants).room s m args below meth c H locs 0 0 (MQ below (va_Qv (fun (_ : Unit) => True) (pa_QB D A (wo_X10_wants cI cJ a_m a_mt a_ml a_mr a_mx a_mf a_mg a_mw a_mh v_m_thrown v_m_trace v_m_typed v_m_next v_m_token v_m_place v_m_value o v_m_finds v_m_weeks v_m_rows v_m_cardPrice v_m_lotPrice v_m_sure v_m_up v_m_down)) A) args s 0 0 A) (F0 m 0 ls []) := by
  obtain ⟨hx, hb, hr, hml, hown, hts, hK, hA, hG, hlk⟩ := id X
  delta f_X10_wants at hf
  refine lv_aload_n hx hb dX10_wants_0 rfl (lv_at hl 0 rfl) ?_
  obtain ⟨u_1, hg_2, hf⟩ := pa_bd hf
  refine pa_ki (wc := (wo_X10_isWell cI cJ a_m a_mt a_ml a_mr a_mx a_mf a_mg a_mw a_mh v_m_thrown v_m_trace v_m_typed v_m_next v_m_token v_m_place v_m_value v_m_fault v_m_finds v_m_weeks v_m_rows v_m_cardPrice v_m_lotPrice v_m_sure v_m_up v_m_down)) (wr := ([] : va_W)) (w1 := (wo_X10_isWell cI cJ a_m a_mt a_ml a_mr a_mx a_mf a_mg a_mw a_mh v_m_thrown v_m_trace v_m_typed v_m_next v_m_token v_m_place v_m_value v_m_fault v_m_finds v_m_weeks v_m_rows v_m_cardPrice v_m_lotPrice v_m_sure v_m_up v_m_down)) (w2 := (wo_X10_wants cI cJ a_m a_mt a_ml a_mr a_mx a_mf a_mg a_mw a_mh v_m_thrown v_m_trace v_m_typed v_m_next v_m_token v_m_place v_m_value v_m_fault v_m_finds v_m_weeks v_m_rows v_m_cardPrice v_m_lotPrice v_m_sure v_m_up v_m_down)) X hP hD hS [0] [] [0] rfl (pa_rV (As := []) (rest := []) (T := TX10) X hP hD hS [0] rfl rfl (c_X10_isWell hg_2 H.size) (cwV 0 hts gX10_wants_X10_isWell rfl rfl rfl (by decide +kernel) ⟨Nat.le_of_ble_eq_true rfl, Nat.le_of_ble_eq_true rfl⟩) (q0 := 0) rfl rfl rfl hl.1 rfl (Nat.le_of_ble_eq_true rfl) dX10_wants_1 ⟨Nat.zero_le _, Nat.zero_le _⟩) rfl rfl (by decide) rfl rfl (fun H locs hP hD hS => ?_)
  refine lv_if_eq (tgt := 19) hx hb dX10_wants_4 (by decide) (fun c_3 => ?_) (fun c_3 => ?_)
  · have hf := (if_pos c_3).symm.trans hf
    obtain rfl := Option.some.inj hf
    exact pa_ev X hP hD hS dX10_wants_19
  · have hf := (if_neg c_3).symm.trans hf
    refine lv_iload_n hx hb dX10_wants_7 rfl (lv_at hl 1 rfl) ?_
    refine lv_if_ne (tgt := 19) hx hb dX10_wants_8 (by decide) (fun c_4 => ?_) (fun c_4 => ?_)
    · have hf := (if_neg c_4).symm.trans hf
      obtain rfl := Option.some.inj hf
      exact pa_ev X hP hD hS dX10_wants_19
    · have hf := (if_pos c_4).symm.trans hf
      refine lv_aload_n hx hb dX10_wants_11 rfl (lv_at hl 0 rfl) ?_
      refine lv_aload_n hx hb dX10_wants_12 rfl (lv_at hl 0 rfl) ?_
      refine va_get (D := D) (ci := 9) (v := .int v_m_place) (C := RX10) (T := TX10) (N := 24) hx hb hts il_X10_wants_X10 hown hK hP 0 rfl rfl 9 (by decide) (hts _ fk_X10_wants_0) (fun _ h9 => h9) rfl dX10_wants_13 ?_
      refine va_put (D := D) (ci := 9) (v := .int v_m_place) (ty := .int) (C := RX10) (T := TX10) (N := 24) hx hb hts il_X10_wants_X10 tyX10 tyX10_ok nmX10 hown hK hP hD hS 0 rfl rfl 11 (by decide) (hts _ fk_X10_wants_1) (fun _ h9 => h9) rfl (tyX10_ok 11 (by decide)) rfl rfl (Nat.le_of_ble_eq_true rfl) dX10_wants_16 (fun H locs hP hD hS => ?_)
      have hP : va_P D vwCl (wo_X10_wants cI cJ a_m a_mt a_ml a_mr a_mx a_mf a_mg a_mw a_mh v_m_thrown v_m_trace v_m_typed v_m_next v_m_token v_m_place v_m_value v_m_place v_m_finds v_m_weeks v_m_rows v_m_cardPrice v_m_lotPrice v_m_sure v_m_up v_m_down) H := hP
      have hD : va_D A (wo_X10_wants cI cJ a_m a_mt a_ml a_mr a_mx a_mf a_mg a_mw a_mh v_m_thrown v_m_trace v_m_typed v_m_next v_m_token v_m_place v_m_value v_m_place v_m_finds v_m_weeks v_m_rows v_m_cardPrice v_m_lotPrice v_m_sure v_m_up v_m_down) := hD
      obtain rfl := Option.some.inj hf
      exact pa_ev X hP hD hS dX10_wants_19
set_option maxHeartbeats 4000000 in
set_option maxRecDepth 100000 in
theorem c_X10_wants {l : Launch} {D : va_G} {cI cJ : ClassId} {g : pa_GT} {a_m a_mt a_ml a_mr a_mx a_mf a_mg a_mw a_mh : Nat} {x1 : Int32} {v_m_thrown : Int32} {v_m_trace : Int64} {v_m_typed : Int32} {v_m_next : Int32} {v_m_token : Int32} {v_m_place : Int32} {v_m_value : Int32} {v_m_fault : Int32} {v_m_finds : Int32} {v_m_weeks : Int32} {v_m_rows : Int32} {v_m_cardPrice : Int32} {v_m_lotPrice : Int32} {v_m_sure : Int32} {v_m_up : Int64} {v_m_down : Int64} {o : Int32} (hf : f_X10_wants x1 v_m_place v_m_fault = some o) : pa_Mv l yX10_wants wsX10_wants rm_X10_wants D cI cJ g [.ref a_m, .int x1] (wo_X10_wants cI cJ a_m a_mt a_ml a_mr a_mx a_mf a_mg a_mw a_mh v_m_thrown v_m_trace v_m_typed v_m_next v_m_token v_m_place v_m_value v_m_fault v_m_finds v_m_weeks v_m_rows v_m_cardPrice v_m_lotPrice v_m_sure v_m_up v_m_down) (wo_X10_wants cI cJ a_m a_mt a_ml a_mr a_mx a_mf a_mg a_mw a_mh v_m_thrown v_m_trace v_m_typed v_m_next v_m_token v_m_place v_m_value o v_m_finds v_m_weeks v_m_rows v_m_cardPrice v_m_lotPrice v_m_sure v_m_up v_m_down) := by
  intro sz
  refine pa_met (cc := cX10_wants) (maxL := 2) (ret := none) (lv := [(0, .ref a_m), (1, .int x1)]) (by decide) rfl (Nat.le_of_ble_eq_true rfl) rfl ?_
  intro p e s m below meth c X hsz hP hD ls hl
  subst hsz
  exact w_X10_wants_b0 X hf hP hD va_S.rf hl
abbrev wo_X10_habit (cI cJ : ClassId) (a_m a_mt a_ml a_mr a_mx a_mf a_mg a_mw a_mh : Nat) (v_m_thrown : Int32) (v_m_trace : Int64) (v_m_typed : Int32) (v_m_next : Int32) (v_m_token : Int32) (v_m_place : Int32) (v_m_value : Int32) (v_m_fault : Int32) (v_m_finds : Int32) (v_m_weeks : Int32) (v_m_rows : Int32) (v_m_cardPrice : Int32) (v_m_lotPrice : Int32) (v_m_sure : Int32) (v_m_up : Int64) (v_m_down : Int64) (v_mx : Nat → Int32) (v_mf : Nat → Int32) : va_W := [(a_m, .inr (9, [.int v_m_thrown, .long v_m_trace, .ref a_mt, .ref a_ml, .ref a_mr, .ref a_mx, .int v_m_typed, .int v_m_next, .int v_m_token, .int v_m_place, .int v_m_value, .int v_m_fault, .int v_m_finds, .ref a_mf, .ref a_mg, .int v_m_weeks, .ref a_mw, .int v_m_rows, .ref a_mh, .int v_m_cardPrice, .int v_m_lotPrice, .int v_m_sure, .long v_m_up, .long v_m_down])), (a_mx, .inl (cI, 300, .inl v_mx)), (a_mf, .inl (cI, 50, .inl v_mf))]
abbrev rm_X10_habit : Room := { frames := 3, cells := 0, slots := 0, locals := 67 }
theorem il_X10_habit_X10 : ∀ w ∈ wsX100, w ∈ wsX10_habit := by decide +kernel
theorem fk_X10_habit_0 : Cond.fieldLink RX10 125 "PostedAsksModel" "finds" "I" ∈ wsX10_habit := by decide +kernel
theorem fk_X10_habit_1 : Cond.fieldLink RX10 83 "PostedAsksModel" "typed" "I" ∈ wsX10_habit := by decide +kernel
theorem fk_X10_habit_2 : Cond.fieldLink RX10 23 "PostedAsksModel" "find" "[I" ∈ wsX10_habit := by decide +kernel
theorem fk_X10_habit_3 : Cond.fieldLink RX10 111 "PostedAsksModel" "fault" "I" ∈ wsX10_habit := by decide +kernel
theorem fk_X10_habit_4 : Cond.fieldLink RX10 95 "PostedAsksModel" "token" "I" ∈ wsX10_habit := by decide +kernel
theorem fk_X10_habit_5 : Cond.fieldLink RX10 101 "PostedAsksModel" "value" "I" ∈ wsX10_habit := by decide +kernel
theorem fk_X10_habit_6 : Cond.fieldLink RX10 45 "PostedAsksModel" "thrown" "I" ∈ wsX10_habit := by decide +kernel
theorem fk_X10_habit_7 : Cond.fieldLink RX10 104 "PostedAsksModel" "next" "I" ∈ wsX10_habit := by decide +kernel
def f_X10_habit_L261_body (x1 : Int32) (v_m_thrown : Int32) (v_m_next : Int32) (v_m_token : Int32) (v_m_place : Int32) (v_m_value : Int32) (v_m_fault : Int32) (rec261 : Int32 → (Nat → Int32) → Option (Int32 × Int32 × Int32 × Int32 × Int32 × Int32 × Int32 × Int32 × Int32 × (Nat → Int32))) (x2 : Int32) (v_mf : Nat → Int32) : Option (Int32 × Int32 × Int32 × Int32 × Int32 × Int32 × Int32 × Int32 × Int32 × (Nat → Int32)) :=
  if (24 : Int32) ≤ x2 then
    some (x1, v_m_thrown, (0 : Int32), v_m_next, v_m_token, v_m_place, v_m_value, v_m_fault, x1, v_mf)
  else
    if ((2 : Int32) * x1) ≤ x2 then
      if pa_ib x2 50 = true then
        rec261 (x2 + (1 : Int32)) (upd v_mf (Int32.toNatClampNeg x2) (0 : Int32))
      else none
    else
      if pa_ib ((26 : Int32) + x2) 50 = true then
        if pa_ib x2 50 = true then
          rec261 (x2 + (1 : Int32)) (upd v_mf (Int32.toNatClampNeg x2) (v_mf (Int32.toNatClampNeg ((26 : Int32) + x2))))
        else none
      else none
def f_X10_habit_L261 (x1 : Int32) (v_m_thrown : Int32) (v_m_next : Int32) (v_m_token : Int32) (v_m_place : Int32) (v_m_value : Int32) (v_m_fault : Int32) : Nat → Int32 → (Nat → Int32) → Option (Int32 × Int32 × Int32 × Int32 × Int32 × Int32 × Int32 × Int32 × Int32 × (Nat → Int32))
  | 0 => fun _ _ => none
  | n + 1 => f_X10_habit_L261_body x1 v_m_thrown v_m_next v_m_token v_m_place v_m_value v_m_fault (f_X10_habit_L261 x1 v_m_thrown v_m_next v_m_token v_m_place v_m_value v_m_fault n)
def f_X10_habit_b244 (x1 : Int32) (v_m_thrown : Int32) (v_m_typed : Int32) (v_m_next : Int32) (v_m_token : Int32) (v_m_place : Int32) (v_m_value : Int32) (v_m_fault : Int32) (v_m_finds : Int32) (v_mf : Nat → Int32) : Option (Int32 × Int32 × Int32 × Int32 × Int32 × Int32 × Int32 × Int32 × Int32 × (Nat → Int32)) :=
  (f_X10_isWell v_m_fault).bind fun u_6 =>
  if u_6 = 0 then
    some (((-10 : Int32) - v_m_fault), v_m_thrown, v_m_typed, v_m_next, v_m_token, v_m_place, v_m_value, v_m_fault, v_m_finds, v_mf)
  else
    f_X10_habit_L261 x1 v_m_thrown v_m_next v_m_token v_m_place v_m_value v_m_fault pa_fu (0 : Int32) v_mf
def f_X10_habit_b224 (rec21 : Int32 → Int32 → Int32 → Int32 → Int32 → Int32 → (Nat → Int32) → Option (Int32 × Int32 × Int32 × Int32 × Int32 × Int32 × Int32 × Int32 × Int32 × (Nat → Int32))) (x1 : Int32) (s1 : Int32) (v_m_thrown : Int32) (v_m_typed : Int32) (v_m_next : Int32) (v_m_token : Int32) (v_m_place : Int32) (v_m_value : Int32) (v_m_fault : Int32) (v_m_finds : Int32) (v_mx : Nat → Int32) (v_mf : Nat → Int32) : Option (Int32 × Int32 × Int32 × Int32 × Int32 × Int32 × Int32 × Int32 × Int32 × (Nat → Int32)) :=
  (f_X10_wants s1 v_m_place v_m_fault).bind fun u_9 =>
  (f_X10_isWell u_9).bind fun u_11 =>
  if u_11 = 0 then
    rec21 x1 v_m_next v_m_token v_m_place v_m_value u_9 v_mf
  else
    (f_X10_advances v_m_typed v_m_next v_m_token v_m_value v_mx).bind fun u_14 =>
    rec21 (x1 + (1 : Int32)) u_14.1 u_14.2.1 u_14.2.2.1 u_14.2.2.2 u_9 v_mf
def f_X10_habit_b210 (rec21 : Int32 → Int32 → Int32 → Int32 → Int32 → Int32 → (Nat → Int32) → Option (Int32 × Int32 × Int32 × Int32 × Int32 × Int32 × Int32 × Int32 × Int32 × (Nat → Int32))) (x1 : Int32) (v_m_thrown : Int32) (v_m_typed : Int32) (v_m_next : Int32) (v_m_token : Int32) (v_m_place : Int32) (v_m_value : Int32) (v_m_fault : Int32) (v_m_finds : Int32) (v_mx : Nat → Int32) (v_mf : Nat → Int32) : Option (Int32 × Int32 × Int32 × Int32 × Int32 × Int32 × Int32 × Int32 × Int32 × (Nat → Int32)) :=
  if v_m_token = (5 : Int32) then
    f_X10_habit_b224 rec21 x1 (1 : Int32) v_m_thrown v_m_typed v_m_next v_m_token v_m_place v_m_value v_m_fault v_m_finds v_mx v_mf
  else
    f_X10_habit_b224 rec21 x1 (0 : Int32) v_m_thrown v_m_typed v_m_next v_m_token v_m_place v_m_value v_m_fault v_m_finds v_mx v_mf
def f_X10_habit_b181 (rec21 : Int32 → Int32 → Int32 → Int32 → Int32 → Int32 → (Nat → Int32) → Option (Int32 × Int32 × Int32 × Int32 × Int32 × Int32 × Int32 × Int32 × Int32 × (Nat → Int32))) (x1 : Int32) (s1 : Int32) (v_m_thrown : Int32) (v_m_typed : Int32) (v_m_next : Int32) (v_m_token : Int32) (v_m_place : Int32) (v_m_value : Int32) (v_m_fault : Int32) (v_m_finds : Int32) (v_mx : Nat → Int32) (v_mf : Nat → Int32) : Option (Int32 × Int32 × Int32 × Int32 × Int32 × Int32 × Int32 × Int32 × Int32 × (Nat → Int32)) :=
  (f_X10_wants s1 v_m_place v_m_fault).bind fun u_17 =>
  (f_X10_isWell u_17).bind fun u_19 =>
  if u_19 = 0 then
    f_X10_habit_b210 rec21 x1 v_m_thrown v_m_typed v_m_next v_m_token v_m_place v_m_value u_17 v_m_finds v_mx v_mf
  else
    if pa_ib ((27 : Int32) + ((2 : Int32) * x1)) 50 = true then
      (f_X10_advances v_m_typed v_m_next v_m_token v_m_value v_mx).bind fun u_23 =>
      f_X10_habit_b210 rec21 x1 v_m_thrown v_m_typed u_23.1 u_23.2.1 u_23.2.2.1 u_23.2.2.2 u_17 v_m_finds v_mx (upd v_mf (Int32.toNatClampNeg ((27 : Int32) + ((2 : Int32) * x1))) v_m_value)
    else none
def f_X10_habit_b180 (rec21 : Int32 → Int32 → Int32 → Int32 → Int32 → Int32 → (Nat → Int32) → Option (Int32 × Int32 × Int32 × Int32 × Int32 × Int32 × Int32 × Int32 × Int32 × (Nat → Int32))) (x1 : Int32) (v_m_thrown : Int32) (v_m_typed : Int32) (v_m_next : Int32) (v_m_token : Int32) (v_m_place : Int32) (v_m_value : Int32) (v_m_fault : Int32) (v_m_finds : Int32) (v_mx : Nat → Int32) (v_mf : Nat → Int32) : Option (Int32 × Int32 × Int32 × Int32 × Int32 × Int32 × Int32 × Int32 × Int32 × (Nat → Int32)) :=
  f_X10_habit_b181 rec21 x1 (0 : Int32) v_m_thrown v_m_typed v_m_next v_m_token v_m_place v_m_value v_m_fault v_m_finds v_mx v_mf
def f_X10_habit_b143 (rec21 : Int32 → Int32 → Int32 → Int32 → Int32 → Int32 → (Nat → Int32) → Option (Int32 × Int32 × Int32 × Int32 × Int32 × Int32 × Int32 × Int32 × Int32 × (Nat → Int32))) (x1 : Int32) (x2 : Int32) (v_m_thrown : Int32) (v_m_typed : Int32) (v_m_next : Int32) (v_m_token : Int32) (v_m_place : Int32) (v_m_value : Int32) (v_m_fault : Int32) (v_m_finds : Int32) (v_mx : Nat → Int32) (v_mf : Nat → Int32) : Option (Int32 × Int32 × Int32 × Int32 × Int32 × Int32 × Int32 × Int32 × Int32 × (Nat → Int32)) :=
  (f_X10_isWell v_m_fault).bind fun u_25 =>
  if u_25 = 0 then
    f_X10_habit_b210 rec21 x1 v_m_thrown v_m_typed v_m_next v_m_token v_m_place v_m_value v_m_fault v_m_finds v_mx v_mf
  else
    if x2 = 0 then
      if v_m_token = (4 : Int32) then
        (f_X10_in v_m_value (1 : Int32) (50 : Int32)).bind fun u_30 =>
        if u_30 = 0 then
          f_X10_habit_b180 rec21 x1 v_m_thrown v_m_typed v_m_next v_m_token v_m_place v_m_value v_m_fault v_m_finds v_mx v_mf
        else
          f_X10_habit_b181 rec21 x1 (1 : Int32) v_m_thrown v_m_typed v_m_next v_m_token v_m_place v_m_value v_m_fault v_m_finds v_mx v_mf
      else
        f_X10_habit_b180 rec21 x1 v_m_thrown v_m_typed v_m_next v_m_token v_m_place v_m_value v_m_fault v_m_finds v_mx v_mf
    else
      f_X10_habit_b210 rec21 x1 v_m_thrown v_m_typed v_m_next v_m_token v_m_place v_m_value v_m_fault v_m_finds v_mx v_mf
def f_X10_habit_b101 (rec21 : Int32 → Int32 → Int32 → Int32 → Int32 → Int32 → (Nat → Int32) → Option (Int32 × Int32 × Int32 × Int32 × Int32 × Int32 × Int32 × Int32 × Int32 × (Nat → Int32))) (x1 : Int32) (x2 : Int32) (s1 : Int32) (v_m_thrown : Int32) (v_m_typed : Int32) (v_m_next : Int32) (v_m_token : Int32) (v_m_place : Int32) (v_m_value : Int32) (v_m_fault : Int32) (v_m_finds : Int32) (v_mx : Nat → Int32) (v_mf : Nat → Int32) : Option (Int32 × Int32 × Int32 × Int32 × Int32 × Int32 × Int32 × Int32 × Int32 × (Nat → Int32)) :=
  (f_X10_wants s1 v_m_place v_m_fault).bind fun u_33 =>
  (f_X10_isWell u_33).bind fun u_35 =>
  if u_35 = 0 then
    f_X10_habit_b143 rec21 x1 x2 v_m_thrown v_m_typed v_m_next v_m_token v_m_place v_m_value u_33 v_m_finds v_mx v_mf
  else
    if pa_ib ((26 : Int32) + ((2 : Int32) * x1)) 50 = true then
      if pa_ib ((27 : Int32) + ((2 : Int32) * x1)) 50 = true then
        (f_X10_advances v_m_typed v_m_next v_m_token v_m_value v_mx).bind fun u_40 =>
        f_X10_habit_b143 rec21 x1 x2 v_m_thrown v_m_typed u_40.1 u_40.2.1 u_40.2.2.1 u_40.2.2.2 u_33 v_m_finds v_mx (upd (upd v_mf (Int32.toNatClampNeg ((26 : Int32) + ((2 : Int32) * x1))) v_m_value) (Int32.toNatClampNeg ((27 : Int32) + ((2 : Int32) * x1))) (-9 : Int32))
      else none
    else none
def f_X10_habit_b87 (rec21 : Int32 → Int32 → Int32 → Int32 → Int32 → Int32 → (Nat → Int32) → Option (Int32 × Int32 × Int32 × Int32 × Int32 × Int32 × Int32 × Int32 × Int32 × (Nat → Int32))) (x1 : Int32) (x2 : Int32) (v_m_thrown : Int32) (v_m_typed : Int32) (v_m_next : Int32) (v_m_token : Int32) (v_m_place : Int32) (v_m_value : Int32) (v_m_fault : Int32) (v_m_finds : Int32) (v_mx : Nat → Int32) (v_mf : Nat → Int32) : Option (Int32 × Int32 × Int32 × Int32 × Int32 × Int32 × Int32 × Int32 × Int32 × (Nat → Int32)) :=
  if v_m_token = (3 : Int32) then
    f_X10_habit_b101 rec21 x1 x2 (1 : Int32) v_m_thrown v_m_typed v_m_next v_m_token v_m_place v_m_value v_m_fault v_m_finds v_mx v_mf
  else
    f_X10_habit_b101 rec21 x1 x2 (0 : Int32) v_m_thrown v_m_typed v_m_next v_m_token v_m_place v_m_value v_m_fault v_m_finds v_mx v_mf
def f_X10_habit_b73 (rec21 : Int32 → Int32 → Int32 → Int32 → Int32 → Int32 → (Nat → Int32) → Option (Int32 × Int32 × Int32 × Int32 × Int32 × Int32 × Int32 × Int32 × Int32 × (Nat → Int32))) (x1 : Int32) (x2 : Int32) (s1 : Int32) (v_m_thrown : Int32) (v_m_typed : Int32) (v_m_next : Int32) (v_m_token : Int32) (v_m_place : Int32) (v_m_value : Int32) (v_m_fault : Int32) (v_m_finds : Int32) (v_mx : Nat → Int32) (v_mf : Nat → Int32) : Option (Int32 × Int32 × Int32 × Int32 × Int32 × Int32 × Int32 × Int32 × Int32 × (Nat → Int32)) :=
  (f_X10_wants s1 v_m_place v_m_fault).bind fun u_43 =>
  (f_X10_isWell u_43).bind fun u_45 =>
  if u_45 = 0 then
    f_X10_habit_b87 rec21 x1 x2 v_m_thrown v_m_typed v_m_next v_m_token v_m_place v_m_value u_43 v_m_finds v_mx v_mf
  else
    (f_X10_advances v_m_typed v_m_next v_m_token v_m_value v_mx).bind fun u_48 =>
    f_X10_habit_b87 rec21 x1 x2 v_m_thrown v_m_typed u_48.1 u_48.2.1 u_48.2.2.1 u_48.2.2.2 u_43 v_m_finds v_mx v_mf
def f_X10_habit_b72 (rec21 : Int32 → Int32 → Int32 → Int32 → Int32 → Int32 → (Nat → Int32) → Option (Int32 × Int32 × Int32 × Int32 × Int32 × Int32 × Int32 × Int32 × Int32 × (Nat → Int32))) (x1 : Int32) (x2 : Int32) (v_m_thrown : Int32) (v_m_typed : Int32) (v_m_next : Int32) (v_m_token : Int32) (v_m_place : Int32) (v_m_value : Int32) (v_m_fault : Int32) (v_m_finds : Int32) (v_mx : Nat → Int32) (v_mf : Nat → Int32) : Option (Int32 × Int32 × Int32 × Int32 × Int32 × Int32 × Int32 × Int32 × Int32 × (Nat → Int32)) :=
  f_X10_habit_b73 rec21 x1 x2 (0 : Int32) v_m_thrown v_m_typed v_m_next v_m_token v_m_place v_m_value v_m_fault v_m_finds v_mx v_mf
def f_X10_habit_b68 (rec21 : Int32 → Int32 → Int32 → Int32 → Int32 → Int32 → (Nat → Int32) → Option (Int32 × Int32 × Int32 × Int32 × Int32 × Int32 × Int32 × Int32 × Int32 × (Nat → Int32))) (x1 : Int32) (x2 : Int32) (v_m_thrown : Int32) (v_m_typed : Int32) (v_m_next : Int32) (v_m_token : Int32) (v_m_place : Int32) (v_m_value : Int32) (v_m_fault : Int32) (v_m_finds : Int32) (v_mx : Nat → Int32) (v_mf : Nat → Int32) : Option (Int32 × Int32 × Int32 × Int32 × Int32 × Int32 × Int32 × Int32 × Int32 × (Nat → Int32)) :=
  f_X10_habit_b73 rec21 x1 x2 (1 : Int32) v_m_thrown v_m_typed v_m_next v_m_token v_m_place v_m_value v_m_fault v_m_finds v_mx v_mf
def f_X10_habit_b48 (rec21 : Int32 → Int32 → Int32 → Int32 → Int32 → Int32 → (Nat → Int32) → Option (Int32 × Int32 × Int32 × Int32 × Int32 × Int32 × Int32 × Int32 × Int32 × (Nat → Int32))) (x1 : Int32) (s0 : Int32) (v_m_thrown : Int32) (v_m_typed : Int32) (v_m_next : Int32) (v_m_token : Int32) (v_m_place : Int32) (v_m_value : Int32) (v_m_fault : Int32) (v_m_finds : Int32) (v_mx : Nat → Int32) (v_mf : Nat → Int32) : Option (Int32 × Int32 × Int32 × Int32 × Int32 × Int32 × Int32 × Int32 × Int32 × (Nat → Int32)) :=
  if (12 : Int32) ≤ x1 then
    f_X10_habit_b72 rec21 x1 s0 v_m_thrown v_m_typed v_m_next v_m_token v_m_place v_m_value v_m_fault v_m_finds v_mx v_mf
  else
    if s0 = 0 then
      if v_m_token = (1 : Int32) then
        f_X10_habit_b68 rec21 x1 s0 v_m_thrown v_m_typed v_m_next v_m_token v_m_place v_m_value v_m_fault v_m_finds v_mx v_mf
      else
        f_X10_habit_b72 rec21 x1 s0 v_m_thrown v_m_typed v_m_next v_m_token v_m_place v_m_value v_m_fault v_m_finds v_mx v_mf
    else
      f_X10_habit_b68 rec21 x1 s0 v_m_thrown v_m_typed v_m_next v_m_token v_m_place v_m_value v_m_fault v_m_finds v_mx v_mf
def f_X10_habit_L21_body (v_m_thrown : Int32) (v_m_typed : Int32) (v_m_finds : Int32) (v_mx : Nat → Int32) (rec21 : Int32 → Int32 → Int32 → Int32 → Int32 → Int32 → (Nat → Int32) → Option (Int32 × Int32 × Int32 × Int32 × Int32 × Int32 × Int32 × Int32 × Int32 × (Nat → Int32))) (x1 : Int32) (v_m_next : Int32) (v_m_token : Int32) (v_m_place : Int32) (v_m_value : Int32) (v_m_fault : Int32) (v_mf : Nat → Int32) : Option (Int32 × Int32 × Int32 × Int32 × Int32 × Int32 × Int32 × Int32 × Int32 × (Nat → Int32)) :=
  (f_X10_isWell v_m_fault).bind fun u_53 =>
  if u_53 = 0 then
    f_X10_habit_b244 x1 v_m_thrown v_m_typed v_m_next v_m_token v_m_place v_m_value v_m_fault v_m_finds v_mf
  else
    if v_m_token = 0 then
      f_X10_habit_b244 x1 v_m_thrown v_m_typed v_m_next v_m_token v_m_place v_m_value v_m_fault v_m_finds v_mf
    else
      if v_m_token = (2 : Int32) then
        f_X10_habit_b48 rec21 x1 (1 : Int32) v_m_thrown v_m_typed v_m_next v_m_token v_m_place v_m_value v_m_fault v_m_finds v_mx v_mf
      else
        f_X10_habit_b48 rec21 x1 (0 : Int32) v_m_thrown v_m_typed v_m_next v_m_token v_m_place v_m_value v_m_fault v_m_finds v_mx v_mf
def f_X10_habit_L21 (v_m_thrown : Int32) (v_m_typed : Int32) (v_m_finds : Int32) (v_mx : Nat → Int32) : Nat → Int32 → Int32 → Int32 → Int32 → Int32 → Int32 → (Nat → Int32) → Option (Int32 × Int32 × Int32 × Int32 × Int32 × Int32 × Int32 × Int32 × Int32 × (Nat → Int32))
  | 0 => fun _ _ _ _ _ _ _ => none
  | n + 1 => f_X10_habit_L21_body v_m_thrown v_m_typed v_m_finds v_mx (f_X10_habit_L21 v_m_thrown v_m_typed v_m_finds v_mx n)
def f_X10_habit (v_m_typed : Int32) (v_m_token : Int32) (v_m_place : Int32) (v_m_value : Int32) (v_m_finds : Int32) (v_mx : Nat → Int32) (v_mf : Nat → Int32) : Option (Int32 × Int32 × Int32 × Int32 × Int32 × Int32 × Int32 × Int32 × Int32 × (Nat → Int32)) :=
  (f_X10_advances v_m_typed (0 : Int32) v_m_token v_m_value v_mx).bind fun u_58 =>
  f_X10_habit_L21 (0 : Int32) v_m_typed v_m_finds v_mx pa_fu (0 : Int32) u_58.1 u_58.2.1 u_58.2.2.1 u_58.2.2.2 (-1 : Int32) v_mf
set_option maxHeartbeats 4000000 in
set_option maxRecDepth 100000 in
theorem w_X10_habit_L261 {l : Launch} {D : va_G} {cI cJ : ClassId} {g : pa_GT} {a_m a_mt a_ml a_mr a_mx a_mf a_mg a_mw a_mh : Nat} {A : Nat → Prop} {p : Program} {e : Env} {s : State} {m : MethodId} {args : Array Value} {below : List Frame} {meth : Method} {c : Code} {x1 : Int32} {v_m_thrown : Int32} {v_m_next : Int32} {v_m_token : Int32} {v_m_place : Int32} {v_m_value : Int32} {v_m_fault : Int32} {v_m_trace : Int64} {v_m_weeks : Int32} {v_m_rows : Int32} {v_m_cardPrice : Int32} {v_m_lotPrice : Int32} {v_m_sure : Int32} {v_m_up : Int64} {v_m_down : Int64} {v_mx : Nat → Int32} {o : Int32 × Int32 × Int32 × Int32 × Int32 × Int32 × Int32 × Int32 × Int32 × (Nat → Int32)} (X : pa_X cX10_habit 3 (some .int) RX10 wsX10_habit D cI cJ g A p s m args meth c)  : ∀ (n : Nat) (x2 : Int32) (v_mf : Nat → Int32), f_X10_habit_L261 x1 v_m_thrown v_m_next v_m_token v_m_place v_m_value v_m_fault n x2 v_mf = some o → ∀ (H : Heap) (locs : List Loc) (v_m_typed : Int32) (v_m_finds : Int32), va_P D vwCl (wo_X10_habit cI cJ a_m a_mt a_ml a_mr a_mx a_mf a_mg a_mw a_mh v_m_thrown v_m_trace v_m_typed v_m_next v_m_token v_m_place v_m_value v_m_fault v_m_finds v_m_weeks v_m_rows v_m_cardPrice v_m_lotPrice v_m_sure v_m_up v_m_down v_mx v_mf) H → va_D A (wo_X10_habit cI cJ a_m a_mt a_ml a_mr a_mx a_mf a_mg a_mw a_mh v_m_thrown v_m_trace v_m_typed v_m_next v_m_token v_m_place v_m_value v_m_fault v_m_finds v_m_weeks v_m_rows v_m_cardPrice v_m_lotPrice v_m_sure v_m_up v_m_down v_mx v_mf) → va_S A s.heap H locs → ∀ (ls : Array Slot), lv_has ls 3 [(0, .ref a_m), (1, .int x1), (2, .int x2)] → W p l e (headSpec wsX10_habit rm_X10_habit).room s m args below meth c H locs 0 0 (MQ below (va_Qi (fun r (_ : Unit) => r = o.1) (pa_QB D A (wo_X10_habit cI cJ a_m a_mt a_ml a_mr a_mx a_mf a_mg a_mw a_mh o.2.1 v_m_trace o.2.2.1 o.2.2.2.1 o.2.2.2.2.1 o.2.2.2.2.2.1 o.2.2.2.2.2.2.1 o.2.2.2.2.2.2.2.1 o.2.2.2.2.2.2.2.2.1 v_m_weeks v_m_rows v_m_cardPrice v_m_lotPrice v_m_sure v_m_up v_m_down v_mx o.2.2.2.2.2.2.2.2.2)) A) args s 0 0 A) (F0 m 261 ls []) := by
  obtain ⟨hx, hb, hr, hml, hown, hts, hK, hA, hG, hlk⟩ := id X
  intro n
  induction n with
  | zero =>
    intro x2 v_mf hf
    have hf : (none : Option (Int32 × Int32 × Int32 × Int32 × Int32 × Int32 × Int32 × Int32 × Int32 × (Nat → Int32))) = some o := hf
    cases hf
  | succ n hrec261 =>
    intro x2 v_mf hf H locs v_m_typed v_m_finds hP hD hS ls hl
    have hf : f_X10_habit_L261_body x1 v_m_thrown v_m_next v_m_token v_m_place v_m_value v_m_fault (f_X10_habit_L261 x1 v_m_thrown v_m_next v_m_token v_m_place v_m_value v_m_fault n) x2 v_mf = some o := hf
    delta f_X10_habit_L261_body at hf
    generalize hgr : f_X10_habit_L261 x1 v_m_thrown v_m_next v_m_token v_m_place v_m_value v_m_fault n = rec261 at hf hrec261
    refine lv_iload_n hx hb dX10_habit_261 rfl (lv_at hl 2 rfl) ?_
    refine lv_bipush (v := (24 : Int32)) hx hb dX10_habit_262 (by decide) ?_
    refine lv_icmp_ge (tgt := 299) hx hb dX10_habit_264 (by decide) (fun c_1 => ?_) (fun c_1 => ?_)
    · have hf := (if_pos c_1).symm.trans hf
      refine lv_aload_n hx hb dX10_habit_299 rfl (lv_at hl 0 rfl) ?_
      refine lv_iload_n hx hb dX10_habit_300 rfl (lv_at hl 1 rfl) ?_
      refine va_put (D := D) (ci := 9) (v := .int x1) (ty := .int) (C := RX10) (T := TX10) (N := 24) hx hb hts il_X10_habit_X10 tyX10 tyX10_ok nmX10 hown hK hP hD hS 0 rfl rfl 12 (by decide) (hts _ fk_X10_habit_0) (fun _ h9 => h9) rfl (tyX10_ok 12 (by decide)) rfl rfl (Nat.le_of_ble_eq_true rfl) dX10_habit_301 (fun H locs hP hD hS => ?_)
      have hP : va_P D vwCl (wo_X10_habit cI cJ a_m a_mt a_ml a_mr a_mx a_mf a_mg a_mw a_mh v_m_thrown v_m_trace v_m_typed v_m_next v_m_token v_m_place v_m_value v_m_fault x1 v_m_weeks v_m_rows v_m_cardPrice v_m_lotPrice v_m_sure v_m_up v_m_down v_mx v_mf) H := hP
      have hD : va_D A (wo_X10_habit cI cJ a_m a_mt a_ml a_mr a_mx a_mf a_mg a_mw a_mh v_m_thrown v_m_trace v_m_typed v_m_next v_m_token v_m_place v_m_value v_m_fault x1 v_m_weeks v_m_rows v_m_cardPrice v_m_lotPrice v_m_sure v_m_up v_m_down v_mx v_mf) := hD
      refine lv_aload_n hx hb dX10_habit_304 rfl (lv_at hl 0 rfl) ?_
      refine lv_iconst (v := (0 : Int32)) hx hb dX10_habit_305 (by decide) ?_
      refine va_put (D := D) (ci := 9) (v := .int (0 : Int32)) (ty := .int) (C := RX10) (T := TX10) (N := 24) hx hb hts il_X10_habit_X10 tyX10 tyX10_ok nmX10 hown hK hP hD hS 0 rfl rfl 6 (by decide) (hts _ fk_X10_habit_1) (fun _ h9 => h9) rfl (tyX10_ok 6 (by decide)) rfl rfl (Nat.le_of_ble_eq_true rfl) dX10_habit_306 (fun H locs hP hD hS => ?_)
      have hP : va_P D vwCl (wo_X10_habit cI cJ a_m a_mt a_ml a_mr a_mx a_mf a_mg a_mw a_mh v_m_thrown v_m_trace (0 : Int32) v_m_next v_m_token v_m_place v_m_value v_m_fault x1 v_m_weeks v_m_rows v_m_cardPrice v_m_lotPrice v_m_sure v_m_up v_m_down v_mx v_mf) H := hP
      have hD : va_D A (wo_X10_habit cI cJ a_m a_mt a_ml a_mr a_mx a_mf a_mg a_mw a_mh v_m_thrown v_m_trace (0 : Int32) v_m_next v_m_token v_m_place v_m_value v_m_fault x1 v_m_weeks v_m_rows v_m_cardPrice v_m_lotPrice v_m_sure v_m_up v_m_down v_mx v_mf) := hD
      refine lv_iload_n hx hb dX10_habit_309 rfl (lv_at hl 1 rfl) ?_
      obtain rfl := Option.some.inj hf
      exact pa_ei X hP hD hS dX10_habit_310
    · have hf := (if_neg c_1).symm.trans hf
      refine lv_aload_n hx hb dX10_habit_267 rfl (lv_at hl 0 rfl) ?_
      refine va_get (D := D) (ci := 9) (v := .ref a_mf) (C := RX10) (T := TX10) (N := 24) hx hb hts il_X10_habit_X10 hown hK hP 0 rfl rfl 13 (by decide) (hts _ fk_X10_habit_2) (fun _ h9 => h9) rfl dX10_habit_268 ?_
      refine lv_iload_n hx hb dX10_habit_271 rfl (lv_at hl 2 rfl) ?_
      refine lv_iload_n hx hb dX10_habit_272 rfl (lv_at hl 2 rfl) ?_
      refine lv_iconst (v := (2 : Int32)) hx hb dX10_habit_273 (by decide) ?_
      refine lv_iload_n hx hb dX10_habit_274 rfl (lv_at hl 1 rfl) ?_
      refine lv_imul hx hb dX10_habit_275 ?_
      refine lv_icmp_ge (tgt := 291) hx hb dX10_habit_276 (by decide) (fun c_2 => ?_) (fun c_2 => ?_)
      · have hf := (if_pos c_2).symm.trans hf
        refine lv_iconst (v := (0 : Int32)) hx hb dX10_habit_291 (by decide) ?_
        obtain ⟨hi_3, hf⟩ := pa_gd hf
        refine va_iast hx hb hK hP hD hS 2 0 rfl rfl hi_3 dX10_habit_292 (fun H locs hP hD hS => ?_)
        have hP : va_P D vwCl (wo_X10_habit cI cJ a_m a_mt a_ml a_mr a_mx a_mf a_mg a_mw a_mh v_m_thrown v_m_trace v_m_typed v_m_next v_m_token v_m_place v_m_value v_m_fault v_m_finds v_m_weeks v_m_rows v_m_cardPrice v_m_lotPrice v_m_sure v_m_up v_m_down v_mx (upd v_mf (Int32.toNatClampNeg x2) (0 : Int32))) H := hP
        have hD : va_D A (wo_X10_habit cI cJ a_m a_mt a_ml a_mr a_mx a_mf a_mg a_mw a_mh v_m_thrown v_m_trace v_m_typed v_m_next v_m_token v_m_place v_m_value v_m_fault v_m_finds v_m_weeks v_m_rows v_m_cardPrice v_m_lotPrice v_m_sure v_m_up v_m_down v_mx (upd v_mf (Int32.toNatClampNeg x2) (0 : Int32))) := hD
        refine lv_iinc (v := (x2 + (1 : Int32))) (lv' := [(2, .int (x2 + (1 : Int32))), (0, .ref a_m), (1, .int x1)]) hx hb dX10_habit_293 hl (k := 2) rfl rfl (by decide) rfl (fun ls hl => ?_)
        refine lv_goto (tgt := 261) hx hb dX10_habit_296 (by decide) ?_
        exact hrec261 _ _ hf _ _ _ _ hP hD hS _ (lv_sub hl [1, 2, 0] rfl)
      · have hf := (if_neg c_2).symm.trans hf
        refine lv_aload_n hx hb dX10_habit_279 rfl (lv_at hl 0 rfl) ?_
        refine va_get (D := D) (ci := 9) (v := .ref a_mf) (C := RX10) (T := TX10) (N := 24) hx hb hts il_X10_habit_X10 hown hK hP 0 rfl rfl 13 (by decide) (hts _ fk_X10_habit_2) (fun _ h9 => h9) rfl dX10_habit_280 ?_
        refine lv_bipush (v := (26 : Int32)) hx hb dX10_habit_283 (by decide) ?_
        refine lv_iload_n hx hb dX10_habit_285 rfl (lv_at hl 2 rfl) ?_
        refine lv_iadd hx hb dX10_habit_286 ?_
        obtain ⟨hi_4, hf⟩ := pa_gd hf
        refine va_iald hx hb hK hP 2 0 rfl rfl hi_4 dX10_habit_287 ?_
        refine lv_goto (tgt := 292) hx hb dX10_habit_288 (by decide) ?_
        obtain ⟨hi_5, hf⟩ := pa_gd hf
        refine va_iast hx hb hK hP hD hS 2 0 rfl rfl hi_5 dX10_habit_292 (fun H locs hP hD hS => ?_)
        have hP : va_P D vwCl (wo_X10_habit cI cJ a_m a_mt a_ml a_mr a_mx a_mf a_mg a_mw a_mh v_m_thrown v_m_trace v_m_typed v_m_next v_m_token v_m_place v_m_value v_m_fault v_m_finds v_m_weeks v_m_rows v_m_cardPrice v_m_lotPrice v_m_sure v_m_up v_m_down v_mx (upd v_mf (Int32.toNatClampNeg x2) (v_mf (Int32.toNatClampNeg ((26 : Int32) + x2))))) H := hP
        have hD : va_D A (wo_X10_habit cI cJ a_m a_mt a_ml a_mr a_mx a_mf a_mg a_mw a_mh v_m_thrown v_m_trace v_m_typed v_m_next v_m_token v_m_place v_m_value v_m_fault v_m_finds v_m_weeks v_m_rows v_m_cardPrice v_m_lotPrice v_m_sure v_m_up v_m_down v_mx (upd v_mf (Int32.toNatClampNeg x2) (v_mf (Int32.toNatClampNeg ((26 : Int32) + x2))))) := hD
        refine lv_iinc (v := (x2 + (1 : Int32))) (lv' := [(2, .int (x2 + (1 : Int32))), (0, .ref a_m), (1, .int x1)]) hx hb dX10_habit_293 hl (k := 2) rfl rfl (by decide) rfl (fun ls hl => ?_)
        refine lv_goto (tgt := 261) hx hb dX10_habit_296 (by decide) ?_
        exact hrec261 _ _ hf _ _ _ _ hP hD hS _ (lv_sub hl [1, 2, 0] rfl)
set_option maxHeartbeats 4000000 in
set_option maxRecDepth 100000 in
theorem w_X10_habit_b244 {l : Launch} {D : va_G} {cI cJ : ClassId} {g : pa_GT} {a_m a_mt a_ml a_mr a_mx a_mf a_mg a_mw a_mh : Nat} {A : Nat → Prop} {p : Program} {e : Env} {s : State} {m : MethodId} {args : Array Value} {below : List Frame} {meth : Method} {c : Code} {x1 : Int32} {v_m_thrown : Int32} {v_m_typed : Int32} {v_m_next : Int32} {v_m_token : Int32} {v_m_place : Int32} {v_m_value : Int32} {v_m_fault : Int32} {v_m_finds : Int32} {v_mf : Nat → Int32} {v_m_trace : Int64} {v_m_weeks : Int32} {v_m_rows : Int32} {v_m_cardPrice : Int32} {v_m_lotPrice : Int32} {v_m_sure : Int32} {v_m_up : Int64} {v_m_down : Int64} {v_mx : Nat → Int32} {o : Int32 × Int32 × Int32 × Int32 × Int32 × Int32 × Int32 × Int32 × Int32 × (Nat → Int32)} (X : pa_X cX10_habit 3 (some .int) RX10 wsX10_habit D cI cJ g A p s m args meth c)  (hf : f_X10_habit_b244 x1 v_m_thrown v_m_typed v_m_next v_m_token v_m_place v_m_value v_m_fault v_m_finds v_mf = some o) {H : Heap} {locs : List Loc} (hP : va_P D vwCl (wo_X10_habit cI cJ a_m a_mt a_ml a_mr a_mx a_mf a_mg a_mw a_mh v_m_thrown v_m_trace v_m_typed v_m_next v_m_token v_m_place v_m_value v_m_fault v_m_finds v_m_weeks v_m_rows v_m_cardPrice v_m_lotPrice v_m_sure v_m_up v_m_down v_mx v_mf) H) (hD : va_D A (wo_X10_habit cI cJ a_m a_mt a_ml a_mr a_mx a_mf a_mg a_mw a_mh v_m_thrown v_m_trace v_m_typed v_m_next v_m_token v_m_place v_m_value v_m_fault v_m_finds v_m_weeks v_m_rows v_m_cardPrice v_m_lotPrice v_m_sure v_m_up v_m_down v_mx v_mf)) (hS : va_S A s.heap H locs) {ls : Array Slot} (hl : lv_has ls 3 [(0, .ref a_m), (1, .int x1)]) : W p l e (headSpec wsX10_habit rm_X10_habit).room s m args below meth c H locs 0 0 (MQ below (va_Qi (fun r (_ : Unit) => r = o.1) (pa_QB D A (wo_X10_habit cI cJ a_m a_mt a_ml a_mr a_mx a_mf a_mg a_mw a_mh o.2.1 v_m_trace o.2.2.1 o.2.2.2.1 o.2.2.2.2.1 o.2.2.2.2.2.1 o.2.2.2.2.2.2.1 o.2.2.2.2.2.2.2.1 o.2.2.2.2.2.2.2.2.1 v_m_weeks v_m_rows v_m_cardPrice v_m_lotPrice v_m_sure v_m_up v_m_down v_mx o.2.2.2.2.2.2.2.2.2)) A) args s 0 0 A) (F0 m 244 ls []) := by
  obtain ⟨hx, hb, hr, hml, hown, hts, hK, hA, hG, hlk⟩ := id X
  delta f_X10_habit_b244 at hf
  refine lv_aload_n hx hb dX10_habit_244 rfl (lv_at hl 0 rfl) ?_
  obtain ⟨u_6, hg_7, hf⟩ := pa_bd hf
  refine pa_ki (wc := (wo_X10_isWell cI cJ a_m a_mt a_ml a_mr a_mx a_mf a_mg a_mw a_mh v_m_thrown v_m_trace v_m_typed v_m_next v_m_token v_m_place v_m_value v_m_fault v_m_finds v_m_weeks v_m_rows v_m_cardPrice v_m_lotPrice v_m_sure v_m_up v_m_down)) (wr := [(a_mx, .inl (cI, 300, .inl v_mx)), (a_mf, .inl (cI, 50, .inl v_mf))]) (w1 := (wo_X10_isWell cI cJ a_m a_mt a_ml a_mr a_mx a_mf a_mg a_mw a_mh v_m_thrown v_m_trace v_m_typed v_m_next v_m_token v_m_place v_m_value v_m_fault v_m_finds v_m_weeks v_m_rows v_m_cardPrice v_m_lotPrice v_m_sure v_m_up v_m_down)) (w2 := (wo_X10_habit cI cJ a_m a_mt a_ml a_mr a_mx a_mf a_mg a_mw a_mh v_m_thrown v_m_trace v_m_typed v_m_next v_m_token v_m_place v_m_value v_m_fault v_m_finds v_m_weeks v_m_rows v_m_cardPrice v_m_lotPrice v_m_sure v_m_up v_m_down v_mx v_mf)) X hP hD hS [0] [1, 2] [2, 0, 1] rfl (pa_rV (As := []) (rest := []) (T := TX10) X hP hD hS [0] rfl rfl (c_X10_isWell hg_7 H.size) (cwV 0 hts gX10_habit_X10_isWell rfl rfl rfl (by decide +kernel) ⟨Nat.le_of_ble_eq_true rfl, Nat.le_of_ble_eq_true rfl⟩) (q0 := 0) rfl rfl rfl hl.1 rfl (Nat.le_of_ble_eq_true rfl) dX10_habit_245 ⟨Nat.zero_le _, Nat.zero_le _⟩) rfl rfl (by decide) rfl rfl (fun H locs hP hD hS => ?_)
  refine lv_if_ne (tgt := 259) hx hb dX10_habit_248 (by decide) (fun c_8 => ?_) (fun c_8 => ?_)
  · have hf := (if_neg c_8).symm.trans hf
    refine lv_iconst (v := (0 : Int32)) hx hb dX10_habit_259 (by decide) ?_
    refine lv_istore_n (lv' := [(2, .int (0 : Int32)), (0, .ref a_m), (1, .int x1)]) hx hb dX10_habit_260 rfl hl (by decide) rfl (fun ls hl => ?_)
    exact w_X10_habit_L261 X  _ _ _ hf _ _ _ _ hP hD hS _ (lv_sub hl [1, 2, 0] rfl)
  · have hf := (if_pos c_8).symm.trans hf
    refine lv_bipush (v := (-10 : Int32)) hx hb dX10_habit_251 (by decide) ?_
    refine lv_aload_n hx hb dX10_habit_253 rfl (lv_at hl 0 rfl) ?_
    refine va_get (D := D) (ci := 9) (v := .int v_m_fault) (C := RX10) (T := TX10) (N := 24) hx hb hts il_X10_habit_X10 hown hK hP 0 rfl rfl 11 (by decide) (hts _ fk_X10_habit_3) (fun _ h9 => h9) rfl dX10_habit_254 ?_
    refine lv_isub hx hb dX10_habit_257 ?_
    obtain rfl := Option.some.inj hf
    exact pa_ei X hP hD hS dX10_habit_258
set_option maxHeartbeats 4000000 in
set_option maxRecDepth 100000 in
theorem w_X10_habit_b224 {l : Launch} {D : va_G} {cI cJ : ClassId} {g : pa_GT} {a_m a_mt a_ml a_mr a_mx a_mf a_mg a_mw a_mh : Nat} {A : Nat → Prop} {p : Program} {e : Env} {s : State} {m : MethodId} {args : Array Value} {below : List Frame} {meth : Method} {c : Code} {x1 : Int32} {s1 : Int32} {v_m_thrown : Int32} {v_m_typed : Int32} {v_m_next : Int32} {v_m_token : Int32} {v_m_place : Int32} {v_m_value : Int32} {v_m_fault : Int32} {v_m_finds : Int32} {v_mx : Nat → Int32} {v_mf : Nat → Int32} {v_m_trace : Int64} {v_m_weeks : Int32} {v_m_rows : Int32} {v_m_cardPrice : Int32} {v_m_lotPrice : Int32} {v_m_sure : Int32} {v_m_up : Int64} {v_m_down : Int64} {o : Int32 × Int32 × Int32 × Int32 × Int32 × Int32 × Int32 × Int32 × Int32 × (Nat → Int32)} (X : pa_X cX10_habit 3 (some .int) RX10 wsX10_habit D cI cJ g A p s m args meth c) {rec21 : Int32 → Int32 → Int32 → Int32 → Int32 → Int32 → (Nat → Int32) → Option (Int32 × Int32 × Int32 × Int32 × Int32 × Int32 × Int32 × Int32 × Int32 × (Nat → Int32))} (hrec21 : ∀ (x1 : Int32) (v_m_next : Int32) (v_m_token : Int32) (v_m_place : Int32) (v_m_value : Int32) (v_m_fault : Int32) (v_mf : Nat → Int32), rec21 x1 v_m_next v_m_token v_m_place v_m_value v_m_fault v_mf = some o → ∀ (H : Heap) (locs : List Loc) , va_P D vwCl (wo_X10_habit cI cJ a_m a_mt a_ml a_mr a_mx a_mf a_mg a_mw a_mh v_m_thrown v_m_trace v_m_typed v_m_next v_m_token v_m_place v_m_value v_m_fault v_m_finds v_m_weeks v_m_rows v_m_cardPrice v_m_lotPrice v_m_sure v_m_up v_m_down v_mx v_mf) H → va_D A (wo_X10_habit cI cJ a_m a_mt a_ml a_mr a_mx a_mf a_mg a_mw a_mh v_m_thrown v_m_trace v_m_typed v_m_next v_m_token v_m_place v_m_value v_m_fault v_m_finds v_m_weeks v_m_rows v_m_cardPrice v_m_lotPrice v_m_sure v_m_up v_m_down v_mx v_mf) → va_S A s.heap H locs → ∀ (ls : Array Slot), lv_has ls 3 [(0, .ref a_m), (1, .int x1)] → W p l e (headSpec wsX10_habit rm_X10_habit).room s m args below meth c H locs 0 0 (MQ below (va_Qi (fun r (_ : Unit) => r = o.1) (pa_QB D A (wo_X10_habit cI cJ a_m a_mt a_ml a_mr a_mx a_mf a_mg a_mw a_mh o.2.1 v_m_trace o.2.2.1 o.2.2.2.1 o.2.2.2.2.1 o.2.2.2.2.2.1 o.2.2.2.2.2.2.1 o.2.2.2.2.2.2.2.1 o.2.2.2.2.2.2.2.2.1 v_m_weeks v_m_rows v_m_cardPrice v_m_lotPrice v_m_sure v_m_up v_m_down v_mx o.2.2.2.2.2.2.2.2.2)) A) args s 0 0 A) (F0 m 21 ls [])) (hf : f_X10_habit_b224 rec21 x1 s1 v_m_thrown v_m_typed v_m_next v_m_token v_m_place v_m_value v_m_fault v_m_finds v_mx v_mf = some o) {H : Heap} {locs : List Loc} (hP : va_P D vwCl (wo_X10_habit cI cJ a_m a_mt a_ml a_mr a_mx a_mf a_mg a_mw a_mh v_m_thrown v_m_trace v_m_typed v_m_next v_m_token v_m_place v_m_value v_m_fault v_m_finds v_m_weeks v_m_rows v_m_cardPrice v_m_lotPrice v_m_sure v_m_up v_m_down v_mx v_mf) H) (hD : va_D A (wo_X10_habit cI cJ a_m a_mt a_ml a_mr a_mx a_mf a_mg a_mw a_mh v_m_thrown v_m_trace v_m_typed v_m_next v_m_token v_m_place v_m_value v_m_fault v_m_finds v_m_weeks v_m_rows v_m_cardPrice v_m_lotPrice v_m_sure v_m_up v_m_down v_mx v_mf)) (hS : va_S A s.heap H locs) {ls : Array Slot} (hl : lv_has ls 3 [(0, .ref a_m), (1, .int x1)]) : W p l e (headSpec wsX10_habit rm_X10_habit).room s m args below meth c H locs 0 0 (MQ below (va_Qi (fun r (_ : Unit) => r = o.1) (pa_QB D A (wo_X10_habit cI cJ a_m a_mt a_ml a_mr a_mx a_mf a_mg a_mw a_mh o.2.1 v_m_trace o.2.2.1 o.2.2.2.1 o.2.2.2.2.1 o.2.2.2.2.2.1 o.2.2.2.2.2.2.1 o.2.2.2.2.2.2.2.1 o.2.2.2.2.2.2.2.2.1 v_m_weeks v_m_rows v_m_cardPrice v_m_lotPrice v_m_sure v_m_up v_m_down v_mx o.2.2.2.2.2.2.2.2.2)) A) args s 0 0 A) (F0 m 224 ls [.int s1, .ref a_m]) := by
  obtain ⟨hx, hb, hr, hml, hown, hts, hK, hA, hG, hlk⟩ := id X
  delta f_X10_habit_b224 at hf
  obtain ⟨u_9, hg_10, hf⟩ := pa_bd hf
  refine pa_kv (wc := (wo_X10_wants cI cJ a_m a_mt a_ml a_mr a_mx a_mf a_mg a_mw a_mh v_m_thrown v_m_trace v_m_typed v_m_next v_m_token v_m_place v_m_value v_m_fault v_m_finds v_m_weeks v_m_rows v_m_cardPrice v_m_lotPrice v_m_sure v_m_up v_m_down)) (wr := [(a_mx, .inl (cI, 300, .inl v_mx)), (a_mf, .inl (cI, 50, .inl v_mf))]) (w1 := (wo_X10_wants cI cJ a_m a_mt a_ml a_mr a_mx a_mf a_mg a_mw a_mh v_m_thrown v_m_trace v_m_typed v_m_next v_m_token v_m_place v_m_value u_9 v_m_finds v_m_weeks v_m_rows v_m_cardPrice v_m_lotPrice v_m_sure v_m_up v_m_down)) (w2 := (wo_X10_habit cI cJ a_m a_mt a_ml a_mr a_mx a_mf a_mg a_mw a_mh v_m_thrown v_m_trace v_m_typed v_m_next v_m_token v_m_place v_m_value u_9 v_m_finds v_m_weeks v_m_rows v_m_cardPrice v_m_lotPrice v_m_sure v_m_up v_m_down v_mx v_mf)) X hP hD hS [0] [1, 2] [2, 0, 1] rfl (pa_rV (As := [.int s1]) (rest := []) (T := TX10) X hP hD hS [0] rfl rfl (c_X10_wants hg_10 H.size) (cwV 1 hts gX10_habit_X10_wants rfl rfl rfl (by decide +kernel) ⟨Nat.le_of_ble_eq_true rfl, Nat.le_of_ble_eq_true rfl⟩) (q0 := 0) rfl rfl rfl hl.1 rfl (Nat.le_of_ble_eq_true rfl) dX10_habit_224 ⟨Nat.zero_le _, Nat.zero_le _⟩) rfl rfl (by decide) rfl rfl (fun H locs hP hD hS => ?_)
  refine lv_aload_n hx hb dX10_habit_227 rfl (lv_at hl 0 rfl) ?_
  obtain ⟨u_11, hg_12, hf⟩ := pa_bd hf
  refine pa_ki (wc := (wo_X10_isWell cI cJ a_m a_mt a_ml a_mr a_mx a_mf a_mg a_mw a_mh v_m_thrown v_m_trace v_m_typed v_m_next v_m_token v_m_place v_m_value u_9 v_m_finds v_m_weeks v_m_rows v_m_cardPrice v_m_lotPrice v_m_sure v_m_up v_m_down)) (wr := [(a_mx, .inl (cI, 300, .inl v_mx)), (a_mf, .inl (cI, 50, .inl v_mf))]) (w1 := (wo_X10_isWell cI cJ a_m a_mt a_ml a_mr a_mx a_mf a_mg a_mw a_mh v_m_thrown v_m_trace v_m_typed v_m_next v_m_token v_m_place v_m_value u_9 v_m_finds v_m_weeks v_m_rows v_m_cardPrice v_m_lotPrice v_m_sure v_m_up v_m_down)) (w2 := (wo_X10_habit cI cJ a_m a_mt a_ml a_mr a_mx a_mf a_mg a_mw a_mh v_m_thrown v_m_trace v_m_typed v_m_next v_m_token v_m_place v_m_value u_9 v_m_finds v_m_weeks v_m_rows v_m_cardPrice v_m_lotPrice v_m_sure v_m_up v_m_down v_mx v_mf)) X hP hD hS [0] [1, 2] [2, 0, 1] rfl (pa_rV (As := []) (rest := []) (T := TX10) X hP hD hS [0] rfl rfl (c_X10_isWell hg_12 H.size) (cwV 0 hts gX10_habit_X10_isWell rfl rfl rfl (by decide +kernel) ⟨Nat.le_of_ble_eq_true rfl, Nat.le_of_ble_eq_true rfl⟩) (q0 := 0) rfl rfl rfl hl.1 rfl (Nat.le_of_ble_eq_true rfl) dX10_habit_228 ⟨Nat.zero_le _, Nat.zero_le _⟩) rfl rfl (by decide) rfl rfl (fun H locs hP hD hS => ?_)
  refine lv_if_eq (tgt := 241) hx hb dX10_habit_231 (by decide) (fun c_13 => ?_) (fun c_13 => ?_)
  · have hf := (if_pos c_13).symm.trans hf
    refine lv_goto (tgt := 21) hx hb dX10_habit_241 (by decide) ?_
    exact hrec21 _ _ _ _ _ _ _ hf _ _  hP hD hS _ (lv_sub hl [0, 1] rfl)
  · have hf := (if_neg c_13).symm.trans hf
    refine lv_aload_n hx hb dX10_habit_234 rfl (lv_at hl 0 rfl) ?_
    obtain ⟨u_14, hg_15, hf⟩ := pa_bd hf
    refine pa_kv (wc := (wo_X10_advances cI cJ a_m a_mt a_ml a_mr a_mx a_mf a_mg a_mw a_mh v_m_thrown v_m_trace v_m_typed v_m_next v_m_token v_m_place v_m_value u_9 v_m_finds v_m_weeks v_m_rows v_m_cardPrice v_m_lotPrice v_m_sure v_m_up v_m_down v_mx)) (wr := [(a_mf, .inl (cI, 50, .inl v_mf))]) (w1 := (wo_X10_advances cI cJ a_m a_mt a_ml a_mr a_mx a_mf a_mg a_mw a_mh v_m_thrown v_m_trace v_m_typed u_14.1 u_14.2.1 u_14.2.2.1 u_14.2.2.2 u_9 v_m_finds v_m_weeks v_m_rows v_m_cardPrice v_m_lotPrice v_m_sure v_m_up v_m_down v_mx)) (w2 := (wo_X10_habit cI cJ a_m a_mt a_ml a_mr a_mx a_mf a_mg a_mw a_mh v_m_thrown v_m_trace v_m_typed u_14.1 u_14.2.1 u_14.2.2.1 u_14.2.2.2 u_9 v_m_finds v_m_weeks v_m_rows v_m_cardPrice v_m_lotPrice v_m_sure v_m_up v_m_down v_mx v_mf)) X hP hD hS [0, 1] [2] [1, 2, 0] rfl (pa_rV (As := []) (rest := []) (T := TX10) X hP hD hS [0, 1] rfl rfl (c_X10_advances hg_15 H.size) (cwV 0 hts gX10_habit_X10_advances rfl rfl rfl (by decide +kernel) ⟨Nat.le_of_ble_eq_true rfl, Nat.le_of_ble_eq_true rfl⟩) (q0 := 0) rfl rfl rfl hl.1 rfl (Nat.le_of_ble_eq_true rfl) dX10_habit_235 ⟨Nat.zero_le _, Nat.zero_le _⟩) rfl rfl (by decide) rfl rfl (fun H locs hP hD hS => ?_)
    refine lv_iinc (v := (x1 + (1 : Int32))) (lv' := [(1, .int (x1 + (1 : Int32))), (0, .ref a_m)]) hx hb dX10_habit_238 hl (k := 1) rfl rfl (by decide) rfl (fun ls hl => ?_)
    refine lv_goto (tgt := 21) hx hb dX10_habit_241 (by decide) ?_
    exact hrec21 _ _ _ _ _ _ _ hf _ _  hP hD hS _ (lv_sub hl [1, 0] rfl)
set_option maxHeartbeats 4000000 in
set_option maxRecDepth 100000 in
theorem w_X10_habit_b210 {l : Launch} {D : va_G} {cI cJ : ClassId} {g : pa_GT} {a_m a_mt a_ml a_mr a_mx a_mf a_mg a_mw a_mh : Nat} {A : Nat → Prop} {p : Program} {e : Env} {s : State} {m : MethodId} {args : Array Value} {below : List Frame} {meth : Method} {c : Code} {x1 : Int32} {v_m_thrown : Int32} {v_m_typed : Int32} {v_m_next : Int32} {v_m_token : Int32} {v_m_place : Int32} {v_m_value : Int32} {v_m_fault : Int32} {v_m_finds : Int32} {v_mx : Nat → Int32} {v_mf : Nat → Int32} {v_m_trace : Int64} {v_m_weeks : Int32} {v_m_rows : Int32} {v_m_cardPrice : Int32} {v_m_lotPrice : Int32} {v_m_sure : Int32} {v_m_up : Int64} {v_m_down : Int64} {o : Int32 × Int32 × Int32 × Int32 × Int32 × Int32 × Int32 × Int32 × Int32 × (Nat → Int32)} (X : pa_X cX10_habit 3 (some .int) RX10 wsX10_habit D cI cJ g A p s m args meth c) {rec21 : Int32 → Int32 → Int32 → Int32 → Int32 → Int32 → (Nat → Int32) → Option (Int32 × Int32 × Int32 × Int32 × Int32 × Int32 × Int32 × Int32 × Int32 × (Nat → Int32))} (hrec21 : ∀ (x1 : Int32) (v_m_next : Int32) (v_m_token : Int32) (v_m_place : Int32) (v_m_value : Int32) (v_m_fault : Int32) (v_mf : Nat → Int32), rec21 x1 v_m_next v_m_token v_m_place v_m_value v_m_fault v_mf = some o → ∀ (H : Heap) (locs : List Loc) , va_P D vwCl (wo_X10_habit cI cJ a_m a_mt a_ml a_mr a_mx a_mf a_mg a_mw a_mh v_m_thrown v_m_trace v_m_typed v_m_next v_m_token v_m_place v_m_value v_m_fault v_m_finds v_m_weeks v_m_rows v_m_cardPrice v_m_lotPrice v_m_sure v_m_up v_m_down v_mx v_mf) H → va_D A (wo_X10_habit cI cJ a_m a_mt a_ml a_mr a_mx a_mf a_mg a_mw a_mh v_m_thrown v_m_trace v_m_typed v_m_next v_m_token v_m_place v_m_value v_m_fault v_m_finds v_m_weeks v_m_rows v_m_cardPrice v_m_lotPrice v_m_sure v_m_up v_m_down v_mx v_mf) → va_S A s.heap H locs → ∀ (ls : Array Slot), lv_has ls 3 [(0, .ref a_m), (1, .int x1)] → W p l e (headSpec wsX10_habit rm_X10_habit).room s m args below meth c H locs 0 0 (MQ below (va_Qi (fun r (_ : Unit) => r = o.1) (pa_QB D A (wo_X10_habit cI cJ a_m a_mt a_ml a_mr a_mx a_mf a_mg a_mw a_mh o.2.1 v_m_trace o.2.2.1 o.2.2.2.1 o.2.2.2.2.1 o.2.2.2.2.2.1 o.2.2.2.2.2.2.1 o.2.2.2.2.2.2.2.1 o.2.2.2.2.2.2.2.2.1 v_m_weeks v_m_rows v_m_cardPrice v_m_lotPrice v_m_sure v_m_up v_m_down v_mx o.2.2.2.2.2.2.2.2.2)) A) args s 0 0 A) (F0 m 21 ls [])) (hf : f_X10_habit_b210 rec21 x1 v_m_thrown v_m_typed v_m_next v_m_token v_m_place v_m_value v_m_fault v_m_finds v_mx v_mf = some o) {H : Heap} {locs : List Loc} (hP : va_P D vwCl (wo_X10_habit cI cJ a_m a_mt a_ml a_mr a_mx a_mf a_mg a_mw a_mh v_m_thrown v_m_trace v_m_typed v_m_next v_m_token v_m_place v_m_value v_m_fault v_m_finds v_m_weeks v_m_rows v_m_cardPrice v_m_lotPrice v_m_sure v_m_up v_m_down v_mx v_mf) H) (hD : va_D A (wo_X10_habit cI cJ a_m a_mt a_ml a_mr a_mx a_mf a_mg a_mw a_mh v_m_thrown v_m_trace v_m_typed v_m_next v_m_token v_m_place v_m_value v_m_fault v_m_finds v_m_weeks v_m_rows v_m_cardPrice v_m_lotPrice v_m_sure v_m_up v_m_down v_mx v_mf)) (hS : va_S A s.heap H locs) {ls : Array Slot} (hl : lv_has ls 3 [(0, .ref a_m), (1, .int x1)]) : W p l e (headSpec wsX10_habit rm_X10_habit).room s m args below meth c H locs 0 0 (MQ below (va_Qi (fun r (_ : Unit) => r = o.1) (pa_QB D A (wo_X10_habit cI cJ a_m a_mt a_ml a_mr a_mx a_mf a_mg a_mw a_mh o.2.1 v_m_trace o.2.2.1 o.2.2.2.1 o.2.2.2.2.1 o.2.2.2.2.2.1 o.2.2.2.2.2.2.1 o.2.2.2.2.2.2.2.1 o.2.2.2.2.2.2.2.2.1 v_m_weeks v_m_rows v_m_cardPrice v_m_lotPrice v_m_sure v_m_up v_m_down v_mx o.2.2.2.2.2.2.2.2.2)) A) args s 0 0 A) (F0 m 210 ls []) := by
  obtain ⟨hx, hb, hr, hml, hown, hts, hK, hA, hG, hlk⟩ := id X
  delta f_X10_habit_b210 at hf
  refine lv_aload_n hx hb dX10_habit_210 rfl (lv_at hl 0 rfl) ?_
  refine lv_aload_n hx hb dX10_habit_211 rfl (lv_at hl 0 rfl) ?_
  refine va_get (D := D) (ci := 9) (v := .int v_m_token) (C := RX10) (T := TX10) (N := 24) hx hb hts il_X10_habit_X10 hown hK hP 0 rfl rfl 8 (by decide) (hts _ fk_X10_habit_4) (fun _ h9 => h9) rfl dX10_habit_212 ?_
  refine lv_iconst (v := (5 : Int32)) hx hb dX10_habit_215 (by decide) ?_
  refine lv_icmp_ne (tgt := 223) hx hb dX10_habit_216 (by decide) (fun c_16 => ?_) (fun c_16 => ?_)
  · have hf := (if_neg c_16).symm.trans hf
    refine lv_iconst (v := (0 : Int32)) hx hb dX10_habit_223 (by decide) ?_
    exact w_X10_habit_b224 X hrec21 hf hP hD hS (lv_sub hl [0, 1] rfl)
  · have hf := (if_pos c_16).symm.trans hf
    refine lv_iconst (v := (1 : Int32)) hx hb dX10_habit_219 (by decide) ?_
    refine lv_goto (tgt := 224) hx hb dX10_habit_220 (by decide) ?_
    exact w_X10_habit_b224 X hrec21 hf hP hD hS (lv_sub hl [0, 1] rfl)
set_option maxHeartbeats 4000000 in
set_option maxRecDepth 100000 in
theorem w_X10_habit_b181 {l : Launch} {D : va_G} {cI cJ : ClassId} {g : pa_GT} {a_m a_mt a_ml a_mr a_mx a_mf a_mg a_mw a_mh : Nat} {A : Nat → Prop} {p : Program} {e : Env} {s : State} {m : MethodId} {args : Array Value} {below : List Frame} {meth : Method} {c : Code} {x1 : Int32} {s1 : Int32} {v_m_thrown : Int32} {v_m_typed : Int32} {v_m_next : Int32} {v_m_token : Int32} {v_m_place : Int32} {v_m_value : Int32} {v_m_fault : Int32} {v_m_finds : Int32} {v_mx : Nat → Int32} {v_mf : Nat → Int32} {v_m_trace : Int64} {v_m_weeks : Int32} {v_m_rows : Int32} {v_m_cardPrice : Int32} {v_m_lotPrice : Int32} {v_m_sure : Int32} {v_m_up : Int64} {v_m_down : Int64} {o : Int32 × Int32 × Int32 × Int32 × Int32 × Int32 × Int32 × Int32 × Int32 × (Nat → Int32)} (X : pa_X cX10_habit 3 (some .int) RX10 wsX10_habit D cI cJ g A p s m args meth c) {rec21 : Int32 → Int32 → Int32 → Int32 → Int32 → Int32 → (Nat → Int32) → Option (Int32 × Int32 × Int32 × Int32 × Int32 × Int32 × Int32 × Int32 × Int32 × (Nat → Int32))} (hrec21 : ∀ (x1 : Int32) (v_m_next : Int32) (v_m_token : Int32) (v_m_place : Int32) (v_m_value : Int32) (v_m_fault : Int32) (v_mf : Nat → Int32), rec21 x1 v_m_next v_m_token v_m_place v_m_value v_m_fault v_mf = some o → ∀ (H : Heap) (locs : List Loc) , va_P D vwCl (wo_X10_habit cI cJ a_m a_mt a_ml a_mr a_mx a_mf a_mg a_mw a_mh v_m_thrown v_m_trace v_m_typed v_m_next v_m_token v_m_place v_m_value v_m_fault v_m_finds v_m_weeks v_m_rows v_m_cardPrice v_m_lotPrice v_m_sure v_m_up v_m_down v_mx v_mf) H → va_D A (wo_X10_habit cI cJ a_m a_mt a_ml a_mr a_mx a_mf a_mg a_mw a_mh v_m_thrown v_m_trace v_m_typed v_m_next v_m_token v_m_place v_m_value v_m_fault v_m_finds v_m_weeks v_m_rows v_m_cardPrice v_m_lotPrice v_m_sure v_m_up v_m_down v_mx v_mf) → va_S A s.heap H locs → ∀ (ls : Array Slot), lv_has ls 3 [(0, .ref a_m), (1, .int x1)] → W p l e (headSpec wsX10_habit rm_X10_habit).room s m args below meth c H locs 0 0 (MQ below (va_Qi (fun r (_ : Unit) => r = o.1) (pa_QB D A (wo_X10_habit cI cJ a_m a_mt a_ml a_mr a_mx a_mf a_mg a_mw a_mh o.2.1 v_m_trace o.2.2.1 o.2.2.2.1 o.2.2.2.2.1 o.2.2.2.2.2.1 o.2.2.2.2.2.2.1 o.2.2.2.2.2.2.2.1 o.2.2.2.2.2.2.2.2.1 v_m_weeks v_m_rows v_m_cardPrice v_m_lotPrice v_m_sure v_m_up v_m_down v_mx o.2.2.2.2.2.2.2.2.2)) A) args s 0 0 A) (F0 m 21 ls [])) (hf : f_X10_habit_b181 rec21 x1 s1 v_m_thrown v_m_typed v_m_next v_m_token v_m_place v_m_value v_m_fault v_m_finds v_mx v_mf = some o) {H : Heap} {locs : List Loc} (hP : va_P D vwCl (wo_X10_habit cI cJ a_m a_mt a_ml a_mr a_mx a_mf a_mg a_mw a_mh v_m_thrown v_m_trace v_m_typed v_m_next v_m_token v_m_place v_m_value v_m_fault v_m_finds v_m_weeks v_m_rows v_m_cardPrice v_m_lotPrice v_m_sure v_m_up v_m_down v_mx v_mf) H) (hD : va_D A (wo_X10_habit cI cJ a_m a_mt a_ml a_mr a_mx a_mf a_mg a_mw a_mh v_m_thrown v_m_trace v_m_typed v_m_next v_m_token v_m_place v_m_value v_m_fault v_m_finds v_m_weeks v_m_rows v_m_cardPrice v_m_lotPrice v_m_sure v_m_up v_m_down v_mx v_mf)) (hS : va_S A s.heap H locs) {ls : Array Slot} (hl : lv_has ls 3 [(0, .ref a_m), (1, .int x1)]) : W p l e (headSpec wsX10_habit rm_X10_habit).room s m args below meth c H locs 0 0 (MQ below (va_Qi (fun r (_ : Unit) => r = o.1) (pa_QB D A (wo_X10_habit cI cJ a_m a_mt a_ml a_mr a_mx a_mf a_mg a_mw a_mh o.2.1 v_m_trace o.2.2.1 o.2.2.2.1 o.2.2.2.2.1 o.2.2.2.2.2.1 o.2.2.2.2.2.2.1 o.2.2.2.2.2.2.2.1 o.2.2.2.2.2.2.2.2.1 v_m_weeks v_m_rows v_m_cardPrice v_m_lotPrice v_m_sure v_m_up v_m_down v_mx o.2.2.2.2.2.2.2.2.2)) A) args s 0 0 A) (F0 m 181 ls [.int s1, .ref a_m]) := by
  obtain ⟨hx, hb, hr, hml, hown, hts, hK, hA, hG, hlk⟩ := id X
  delta f_X10_habit_b181 at hf
  obtain ⟨u_17, hg_18, hf⟩ := pa_bd hf
  refine pa_kv (wc := (wo_X10_wants cI cJ a_m a_mt a_ml a_mr a_mx a_mf a_mg a_mw a_mh v_m_thrown v_m_trace v_m_typed v_m_next v_m_token v_m_place v_m_value v_m_fault v_m_finds v_m_weeks v_m_rows v_m_cardPrice v_m_lotPrice v_m_sure v_m_up v_m_down)) (wr := [(a_mx, .inl (cI, 300, .inl v_mx)), (a_mf, .inl (cI, 50, .inl v_mf))]) (w1 := (wo_X10_wants cI cJ a_m a_mt a_ml a_mr a_mx a_mf a_mg a_mw a_mh v_m_thrown v_m_trace v_m_typed v_m_next v_m_token v_m_place v_m_value u_17 v_m_finds v_m_weeks v_m_rows v_m_cardPrice v_m_lotPrice v_m_sure v_m_up v_m_down)) (w2 := (wo_X10_habit cI cJ a_m a_mt a_ml a_mr a_mx a_mf a_mg a_mw a_mh v_m_thrown v_m_trace v_m_typed v_m_next v_m_token v_m_place v_m_value u_17 v_m_finds v_m_weeks v_m_rows v_m_cardPrice v_m_lotPrice v_m_sure v_m_up v_m_down v_mx v_mf)) X hP hD hS [0] [1, 2] [2, 0, 1] rfl (pa_rV (As := [.int s1]) (rest := []) (T := TX10) X hP hD hS [0] rfl rfl (c_X10_wants hg_18 H.size) (cwV 1 hts gX10_habit_X10_wants rfl rfl rfl (by decide +kernel) ⟨Nat.le_of_ble_eq_true rfl, Nat.le_of_ble_eq_true rfl⟩) (q0 := 0) rfl rfl rfl hl.1 rfl (Nat.le_of_ble_eq_true rfl) dX10_habit_181 ⟨Nat.zero_le _, Nat.zero_le _⟩) rfl rfl (by decide) rfl rfl (fun H locs hP hD hS => ?_)
  refine lv_aload_n hx hb dX10_habit_184 rfl (lv_at hl 0 rfl) ?_
  obtain ⟨u_19, hg_20, hf⟩ := pa_bd hf
  refine pa_ki (wc := (wo_X10_isWell cI cJ a_m a_mt a_ml a_mr a_mx a_mf a_mg a_mw a_mh v_m_thrown v_m_trace v_m_typed v_m_next v_m_token v_m_place v_m_value u_17 v_m_finds v_m_weeks v_m_rows v_m_cardPrice v_m_lotPrice v_m_sure v_m_up v_m_down)) (wr := [(a_mx, .inl (cI, 300, .inl v_mx)), (a_mf, .inl (cI, 50, .inl v_mf))]) (w1 := (wo_X10_isWell cI cJ a_m a_mt a_ml a_mr a_mx a_mf a_mg a_mw a_mh v_m_thrown v_m_trace v_m_typed v_m_next v_m_token v_m_place v_m_value u_17 v_m_finds v_m_weeks v_m_rows v_m_cardPrice v_m_lotPrice v_m_sure v_m_up v_m_down)) (w2 := (wo_X10_habit cI cJ a_m a_mt a_ml a_mr a_mx a_mf a_mg a_mw a_mh v_m_thrown v_m_trace v_m_typed v_m_next v_m_token v_m_place v_m_value u_17 v_m_finds v_m_weeks v_m_rows v_m_cardPrice v_m_lotPrice v_m_sure v_m_up v_m_down v_mx v_mf)) X hP hD hS [0] [1, 2] [2, 0, 1] rfl (pa_rV (As := []) (rest := []) (T := TX10) X hP hD hS [0] rfl rfl (c_X10_isWell hg_20 H.size) (cwV 0 hts gX10_habit_X10_isWell rfl rfl rfl (by decide +kernel) ⟨Nat.le_of_ble_eq_true rfl, Nat.le_of_ble_eq_true rfl⟩) (q0 := 0) rfl rfl rfl hl.1 rfl (Nat.le_of_ble_eq_true rfl) dX10_habit_185 ⟨Nat.zero_le _, Nat.zero_le _⟩) rfl rfl (by decide) rfl rfl (fun H locs hP hD hS => ?_)
  refine lv_if_eq (tgt := 210) hx hb dX10_habit_188 (by decide) (fun c_21 => ?_) (fun c_21 => ?_)
  · have hf := (if_pos c_21).symm.trans hf
    exact w_X10_habit_b210 X hrec21 hf hP hD hS (lv_sub hl [0, 1] rfl)
  · have hf := (if_neg c_21).symm.trans hf
    refine lv_aload_n hx hb dX10_habit_191 rfl (lv_at hl 0 rfl) ?_
    refine va_get (D := D) (ci := 9) (v := .ref a_mf) (C := RX10) (T := TX10) (N := 24) hx hb hts il_X10_habit_X10 hown hK hP 0 rfl rfl 13 (by decide) (hts _ fk_X10_habit_2) (fun _ h9 => h9) rfl dX10_habit_192 ?_
    refine lv_bipush (v := (27 : Int32)) hx hb dX10_habit_195 (by decide) ?_
    refine lv_iconst (v := (2 : Int32)) hx hb dX10_habit_197 (by decide) ?_
    refine lv_iload_n hx hb dX10_habit_198 rfl (lv_at hl 1 rfl) ?_
    refine lv_imul hx hb dX10_habit_199 ?_
    refine lv_iadd hx hb dX10_habit_200 ?_
    refine lv_aload_n hx hb dX10_habit_201 rfl (lv_at hl 0 rfl) ?_
    refine va_get (D := D) (ci := 9) (v := .int v_m_value) (C := RX10) (T := TX10) (N := 24) hx hb hts il_X10_habit_X10 hown hK hP 0 rfl rfl 10 (by decide) (hts _ fk_X10_habit_5) (fun _ h9 => h9) rfl dX10_habit_202 ?_
    obtain ⟨hi_22, hf⟩ := pa_gd hf
    refine va_iast hx hb hK hP hD hS 2 0 rfl rfl hi_22 dX10_habit_205 (fun H locs hP hD hS => ?_)
    have hP : va_P D vwCl (wo_X10_habit cI cJ a_m a_mt a_ml a_mr a_mx a_mf a_mg a_mw a_mh v_m_thrown v_m_trace v_m_typed v_m_next v_m_token v_m_place v_m_value u_17 v_m_finds v_m_weeks v_m_rows v_m_cardPrice v_m_lotPrice v_m_sure v_m_up v_m_down v_mx (upd v_mf (Int32.toNatClampNeg ((27 : Int32) + ((2 : Int32) * x1))) v_m_value)) H := hP
    have hD : va_D A (wo_X10_habit cI cJ a_m a_mt a_ml a_mr a_mx a_mf a_mg a_mw a_mh v_m_thrown v_m_trace v_m_typed v_m_next v_m_token v_m_place v_m_value u_17 v_m_finds v_m_weeks v_m_rows v_m_cardPrice v_m_lotPrice v_m_sure v_m_up v_m_down v_mx (upd v_mf (Int32.toNatClampNeg ((27 : Int32) + ((2 : Int32) * x1))) v_m_value)) := hD
    refine lv_aload_n hx hb dX10_habit_206 rfl (lv_at hl 0 rfl) ?_
    obtain ⟨u_23, hg_24, hf⟩ := pa_bd hf
    refine pa_kv (wc := (wo_X10_advances cI cJ a_m a_mt a_ml a_mr a_mx a_mf a_mg a_mw a_mh v_m_thrown v_m_trace v_m_typed v_m_next v_m_token v_m_place v_m_value u_17 v_m_finds v_m_weeks v_m_rows v_m_cardPrice v_m_lotPrice v_m_sure v_m_up v_m_down v_mx)) (wr := [(a_mf, .inl (cI, 50, .inl (upd v_mf (Int32.toNatClampNeg ((27 : Int32) + ((2 : Int32) * x1))) v_m_value)))]) (w1 := (wo_X10_advances cI cJ a_m a_mt a_ml a_mr a_mx a_mf a_mg a_mw a_mh v_m_thrown v_m_trace v_m_typed u_23.1 u_23.2.1 u_23.2.2.1 u_23.2.2.2 u_17 v_m_finds v_m_weeks v_m_rows v_m_cardPrice v_m_lotPrice v_m_sure v_m_up v_m_down v_mx)) (w2 := (wo_X10_habit cI cJ a_m a_mt a_ml a_mr a_mx a_mf a_mg a_mw a_mh v_m_thrown v_m_trace v_m_typed u_23.1 u_23.2.1 u_23.2.2.1 u_23.2.2.2 u_17 v_m_finds v_m_weeks v_m_rows v_m_cardPrice v_m_lotPrice v_m_sure v_m_up v_m_down v_mx (upd v_mf (Int32.toNatClampNeg ((27 : Int32) + ((2 : Int32) * x1))) v_m_value))) X hP hD hS [0, 1] [2] [1, 2, 0] rfl (pa_rV (As := []) (rest := []) (T := TX10) X hP hD hS [0, 1] rfl rfl (c_X10_advances hg_24 H.size) (cwV 0 hts gX10_habit_X10_advances rfl rfl rfl (by decide +kernel) ⟨Nat.le_of_ble_eq_true rfl, Nat.le_of_ble_eq_true rfl⟩) (q0 := 0) rfl rfl rfl hl.1 rfl (Nat.le_of_ble_eq_true rfl) dX10_habit_207 ⟨Nat.zero_le _, Nat.zero_le _⟩) rfl rfl (by decide) rfl rfl (fun H locs hP hD hS => ?_)
    exact w_X10_habit_b210 X hrec21 hf hP hD hS (lv_sub hl [0, 1] rfl)
set_option maxHeartbeats 4000000 in
set_option maxRecDepth 100000 in
theorem w_X10_habit_b180 {l : Launch} {D : va_G} {cI cJ : ClassId} {g : pa_GT} {a_m a_mt a_ml a_mr a_mx a_mf a_mg a_mw a_mh : Nat} {A : Nat → Prop} {p : Program} {e : Env} {s : State} {m : MethodId} {args : Array Value} {below : List Frame} {meth : Method} {c : Code} {x1 : Int32} {v_m_thrown : Int32} {v_m_typed : Int32} {v_m_next : Int32} {v_m_token : Int32} {v_m_place : Int32} {v_m_value : Int32} {v_m_fault : Int32} {v_m_finds : Int32} {v_mx : Nat → Int32} {v_mf : Nat → Int32} {v_m_trace : Int64} {v_m_weeks : Int32} {v_m_rows : Int32} {v_m_cardPrice : Int32} {v_m_lotPrice : Int32} {v_m_sure : Int32} {v_m_up : Int64} {v_m_down : Int64} {o : Int32 × Int32 × Int32 × Int32 × Int32 × Int32 × Int32 × Int32 × Int32 × (Nat → Int32)} (X : pa_X cX10_habit 3 (some .int) RX10 wsX10_habit D cI cJ g A p s m args meth c) {rec21 : Int32 → Int32 → Int32 → Int32 → Int32 → Int32 → (Nat → Int32) → Option (Int32 × Int32 × Int32 × Int32 × Int32 × Int32 × Int32 × Int32 × Int32 × (Nat → Int32))} (hrec21 : ∀ (x1 : Int32) (v_m_next : Int32) (v_m_token : Int32) (v_m_place : Int32) (v_m_value : Int32) (v_m_fault : Int32) (v_mf : Nat → Int32), rec21 x1 v_m_next v_m_token v_m_place v_m_value v_m_fault v_mf = some o → ∀ (H : Heap) (locs : List Loc) , va_P D vwCl (wo_X10_habit cI cJ a_m a_mt a_ml a_mr a_mx a_mf a_mg a_mw a_mh v_m_thrown v_m_trace v_m_typed v_m_next v_m_token v_m_place v_m_value v_m_fault v_m_finds v_m_weeks v_m_rows v_m_cardPrice v_m_lotPrice v_m_sure v_m_up v_m_down v_mx v_mf) H → va_D A (wo_X10_habit cI cJ a_m a_mt a_ml a_mr a_mx a_mf a_mg a_mw a_mh v_m_thrown v_m_trace v_m_typed v_m_next v_m_token v_m_place v_m_value v_m_fault v_m_finds v_m_weeks v_m_rows v_m_cardPrice v_m_lotPrice v_m_sure v_m_up v_m_down v_mx v_mf) → va_S A s.heap H locs → ∀ (ls : Array Slot), lv_has ls 3 [(0, .ref a_m), (1, .int x1)] → W p l e (headSpec wsX10_habit rm_X10_habit).room s m args below meth c H locs 0 0 (MQ below (va_Qi (fun r (_ : Unit) => r = o.1) (pa_QB D A (wo_X10_habit cI cJ a_m a_mt a_ml a_mr a_mx a_mf a_mg a_mw a_mh o.2.1 v_m_trace o.2.2.1 o.2.2.2.1 o.2.2.2.2.1 o.2.2.2.2.2.1 o.2.2.2.2.2.2.1 o.2.2.2.2.2.2.2.1 o.2.2.2.2.2.2.2.2.1 v_m_weeks v_m_rows v_m_cardPrice v_m_lotPrice v_m_sure v_m_up v_m_down v_mx o.2.2.2.2.2.2.2.2.2)) A) args s 0 0 A) (F0 m 21 ls [])) (hf : f_X10_habit_b180 rec21 x1 v_m_thrown v_m_typed v_m_next v_m_token v_m_place v_m_value v_m_fault v_m_finds v_mx v_mf = some o) {H : Heap} {locs : List Loc} (hP : va_P D vwCl (wo_X10_habit cI cJ a_m a_mt a_ml a_mr a_mx a_mf a_mg a_mw a_mh v_m_thrown v_m_trace v_m_typed v_m_next v_m_token v_m_place v_m_value v_m_fault v_m_finds v_m_weeks v_m_rows v_m_cardPrice v_m_lotPrice v_m_sure v_m_up v_m_down v_mx v_mf) H) (hD : va_D A (wo_X10_habit cI cJ a_m a_mt a_ml a_mr a_mx a_mf a_mg a_mw a_mh v_m_thrown v_m_trace v_m_typed v_m_next v_m_token v_m_place v_m_value v_m_fault v_m_finds v_m_weeks v_m_rows v_m_cardPrice v_m_lotPrice v_m_sure v_m_up v_m_down v_mx v_mf)) (hS : va_S A s.heap H locs) {ls : Array Slot} (hl : lv_has ls 3 [(0, .ref a_m), (1, .int x1)]) : W p l e (headSpec wsX10_habit rm_X10_habit).room s m args below meth c H locs 0 0 (MQ below (va_Qi (fun r (_ : Unit) => r = o.1) (pa_QB D A (wo_X10_habit cI cJ a_m a_mt a_ml a_mr a_mx a_mf a_mg a_mw a_mh o.2.1 v_m_trace o.2.2.1 o.2.2.2.1 o.2.2.2.2.1 o.2.2.2.2.2.1 o.2.2.2.2.2.2.1 o.2.2.2.2.2.2.2.1 o.2.2.2.2.2.2.2.2.1 v_m_weeks v_m_rows v_m_cardPrice v_m_lotPrice v_m_sure v_m_up v_m_down v_mx o.2.2.2.2.2.2.2.2.2)) A) args s 0 0 A) (F0 m 180 ls [.ref a_m]) := by
  obtain ⟨hx, hb, hr, hml, hown, hts, hK, hA, hG, hlk⟩ := id X
  delta f_X10_habit_b180 at hf
  refine lv_iconst (v := (0 : Int32)) hx hb dX10_habit_180 (by decide) ?_
  exact w_X10_habit_b181 X hrec21 hf hP hD hS (lv_sub hl [0, 1] rfl)
set_option maxHeartbeats 4000000 in
set_option maxRecDepth 100000 in
theorem w_X10_habit_b143 {l : Launch} {D : va_G} {cI cJ : ClassId} {g : pa_GT} {a_m a_mt a_ml a_mr a_mx a_mf a_mg a_mw a_mh : Nat} {A : Nat → Prop} {p : Program} {e : Env} {s : State} {m : MethodId} {args : Array Value} {below : List Frame} {meth : Method} {c : Code} {x1 : Int32} {x2 : Int32} {v_m_thrown : Int32} {v_m_typed : Int32} {v_m_next : Int32} {v_m_token : Int32} {v_m_place : Int32} {v_m_value : Int32} {v_m_fault : Int32} {v_m_finds : Int32} {v_mx : Nat → Int32} {v_mf : Nat → Int32} {v_m_trace : Int64} {v_m_weeks : Int32} {v_m_rows : Int32} {v_m_cardPrice : Int32} {v_m_lotPrice : Int32} {v_m_sure : Int32} {v_m_up : Int64} {v_m_down : Int64} {o : Int32 × Int32 × Int32 × Int32 × Int32 × Int32 × Int32 × Int32 × Int32 × (Nat → Int32)} (X : pa_X cX10_habit 3 (some .int) RX10 wsX10_habit D cI cJ g A p s m args meth c) {rec21 : Int32 → Int32 → Int32 → Int32 → Int32 → Int32 → (Nat → Int32) → Option (Int32 × Int32 × Int32 × Int32 × Int32 × Int32 × Int32 × Int32 × Int32 × (Nat → Int32))} (hrec21 : ∀ (x1 : Int32) (v_m_next : Int32) (v_m_token : Int32) (v_m_place : Int32) (v_m_value : Int32) (v_m_fault : Int32) (v_mf : Nat → Int32), rec21 x1 v_m_next v_m_token v_m_place v_m_value v_m_fault v_mf = some o → ∀ (H : Heap) (locs : List Loc) , va_P D vwCl (wo_X10_habit cI cJ a_m a_mt a_ml a_mr a_mx a_mf a_mg a_mw a_mh v_m_thrown v_m_trace v_m_typed v_m_next v_m_token v_m_place v_m_value v_m_fault v_m_finds v_m_weeks v_m_rows v_m_cardPrice v_m_lotPrice v_m_sure v_m_up v_m_down v_mx v_mf) H → va_D A (wo_X10_habit cI cJ a_m a_mt a_ml a_mr a_mx a_mf a_mg a_mw a_mh v_m_thrown v_m_trace v_m_typed v_m_next v_m_token v_m_place v_m_value v_m_fault v_m_finds v_m_weeks v_m_rows v_m_cardPrice v_m_lotPrice v_m_sure v_m_up v_m_down v_mx v_mf) → va_S A s.heap H locs → ∀ (ls : Array Slot), lv_has ls 3 [(0, .ref a_m), (1, .int x1)] → W p l e (headSpec wsX10_habit rm_X10_habit).room s m args below meth c H locs 0 0 (MQ below (va_Qi (fun r (_ : Unit) => r = o.1) (pa_QB D A (wo_X10_habit cI cJ a_m a_mt a_ml a_mr a_mx a_mf a_mg a_mw a_mh o.2.1 v_m_trace o.2.2.1 o.2.2.2.1 o.2.2.2.2.1 o.2.2.2.2.2.1 o.2.2.2.2.2.2.1 o.2.2.2.2.2.2.2.1 o.2.2.2.2.2.2.2.2.1 v_m_weeks v_m_rows v_m_cardPrice v_m_lotPrice v_m_sure v_m_up v_m_down v_mx o.2.2.2.2.2.2.2.2.2)) A) args s 0 0 A) (F0 m 21 ls [])) (hf : f_X10_habit_b143 rec21 x1 x2 v_m_thrown v_m_typed v_m_next v_m_token v_m_place v_m_value v_m_fault v_m_finds v_mx v_mf = some o) {H : Heap} {locs : List Loc} (hP : va_P D vwCl (wo_X10_habit cI cJ a_m a_mt a_ml a_mr a_mx a_mf a_mg a_mw a_mh v_m_thrown v_m_trace v_m_typed v_m_next v_m_token v_m_place v_m_value v_m_fault v_m_finds v_m_weeks v_m_rows v_m_cardPrice v_m_lotPrice v_m_sure v_m_up v_m_down v_mx v_mf) H) (hD : va_D A (wo_X10_habit cI cJ a_m a_mt a_ml a_mr a_mx a_mf a_mg a_mw a_mh v_m_thrown v_m_trace v_m_typed v_m_next v_m_token v_m_place v_m_value v_m_fault v_m_finds v_m_weeks v_m_rows v_m_cardPrice v_m_lotPrice v_m_sure v_m_up v_m_down v_mx v_mf)) (hS : va_S A s.heap H locs) {ls : Array Slot} (hl : lv_has ls 3 [(0, .ref a_m), (1, .int x1), (2, .int x2)]) : W p l e (headSpec wsX10_habit rm_X10_habit).room s m args below meth c H locs 0 0 (MQ below (va_Qi (fun r (_ : Unit) => r = o.1) (pa_QB D A (wo_X10_habit cI cJ a_m a_mt a_ml a_mr a_mx a_mf a_mg a_mw a_mh o.2.1 v_m_trace o.2.2.1 o.2.2.2.1 o.2.2.2.2.1 o.2.2.2.2.2.1 o.2.2.2.2.2.2.1 o.2.2.2.2.2.2.2.1 o.2.2.2.2.2.2.2.2.1 v_m_weeks v_m_rows v_m_cardPrice v_m_lotPrice v_m_sure v_m_up v_m_down v_mx o.2.2.2.2.2.2.2.2.2)) A) args s 0 0 A) (F0 m 143 ls []) := by
  obtain ⟨hx, hb, hr, hml, hown, hts, hK, hA, hG, hlk⟩ := id X
  delta f_X10_habit_b143 at hf
  refine lv_aload_n hx hb dX10_habit_143 rfl (lv_at hl 0 rfl) ?_
  obtain ⟨u_25, hg_26, hf⟩ := pa_bd hf
  refine pa_ki (wc := (wo_X10_isWell cI cJ a_m a_mt a_ml a_mr a_mx a_mf a_mg a_mw a_mh v_m_thrown v_m_trace v_m_typed v_m_next v_m_token v_m_place v_m_value v_m_fault v_m_finds v_m_weeks v_m_rows v_m_cardPrice v_m_lotPrice v_m_sure v_m_up v_m_down)) (wr := [(a_mx, .inl (cI, 300, .inl v_mx)), (a_mf, .inl (cI, 50, .inl v_mf))]) (w1 := (wo_X10_isWell cI cJ a_m a_mt a_ml a_mr a_mx a_mf a_mg a_mw a_mh v_m_thrown v_m_trace v_m_typed v_m_next v_m_token v_m_place v_m_value v_m_fault v_m_finds v_m_weeks v_m_rows v_m_cardPrice v_m_lotPrice v_m_sure v_m_up v_m_down)) (w2 := (wo_X10_habit cI cJ a_m a_mt a_ml a_mr a_mx a_mf a_mg a_mw a_mh v_m_thrown v_m_trace v_m_typed v_m_next v_m_token v_m_place v_m_value v_m_fault v_m_finds v_m_weeks v_m_rows v_m_cardPrice v_m_lotPrice v_m_sure v_m_up v_m_down v_mx v_mf)) X hP hD hS [0] [1, 2] [2, 0, 1] rfl (pa_rV (As := []) (rest := []) (T := TX10) X hP hD hS [0] rfl rfl (c_X10_isWell hg_26 H.size) (cwV 0 hts gX10_habit_X10_isWell rfl rfl rfl (by decide +kernel) ⟨Nat.le_of_ble_eq_true rfl, Nat.le_of_ble_eq_true rfl⟩) (q0 := 0) rfl rfl rfl hl.1 rfl (Nat.le_of_ble_eq_true rfl) dX10_habit_144 ⟨Nat.zero_le _, Nat.zero_le _⟩) rfl rfl (by decide) rfl rfl (fun H locs hP hD hS => ?_)
  refine lv_if_eq (tgt := 210) hx hb dX10_habit_147 (by decide) (fun c_27 => ?_) (fun c_27 => ?_)
  · have hf := (if_pos c_27).symm.trans hf
    exact w_X10_habit_b210 X hrec21 hf hP hD hS (lv_sub hl [0, 1] rfl)
  · have hf := (if_neg c_27).symm.trans hf
    refine lv_iload_n hx hb dX10_habit_150 rfl (lv_at hl 2 rfl) ?_
    refine lv_if_ne (tgt := 210) hx hb dX10_habit_151 (by decide) (fun c_28 => ?_) (fun c_28 => ?_)
    · have hf := (if_neg c_28).symm.trans hf
      exact w_X10_habit_b210 X hrec21 hf hP hD hS (lv_sub hl [0, 1] rfl)
    · have hf := (if_pos c_28).symm.trans hf
      refine lv_aload_n hx hb dX10_habit_154 rfl (lv_at hl 0 rfl) ?_
      refine lv_aload_n hx hb dX10_habit_155 rfl (lv_at hl 0 rfl) ?_
      refine va_get (D := D) (ci := 9) (v := .int v_m_token) (C := RX10) (T := TX10) (N := 24) hx hb hts il_X10_habit_X10 hown hK hP 0 rfl rfl 8 (by decide) (hts _ fk_X10_habit_4) (fun _ h9 => h9) rfl dX10_habit_156 ?_
      refine lv_iconst (v := (4 : Int32)) hx hb dX10_habit_159 (by decide) ?_
      refine lv_icmp_ne (tgt := 180) hx hb dX10_habit_160 (by decide) (fun c_29 => ?_) (fun c_29 => ?_)
      · have hf := (if_neg c_29).symm.trans hf
        exact w_X10_habit_b180 X hrec21 hf hP hD hS (lv_sub hl [0, 1] rfl)
      · have hf := (if_pos c_29).symm.trans hf
        refine lv_aload_n hx hb dX10_habit_163 rfl (lv_at hl 0 rfl) ?_
        refine va_get (D := D) (ci := 9) (v := .int v_m_value) (C := RX10) (T := TX10) (N := 24) hx hb hts il_X10_habit_X10 hown hK hP 0 rfl rfl 10 (by decide) (hts _ fk_X10_habit_5) (fun _ h9 => h9) rfl dX10_habit_164 ?_
        refine lv_iconst (v := (1 : Int32)) hx hb dX10_habit_167 (by decide) ?_
        refine lv_bipush (v := (50 : Int32)) hx hb dX10_habit_168 (by decide) ?_
        obtain ⟨u_30, hg_31, hf⟩ := pa_bd hf
        refine pa_ki (wc := ([] : va_W)) (wr := [(a_m, .inr (9, [.int v_m_thrown, .long v_m_trace, .ref a_mt, .ref a_ml, .ref a_mr, .ref a_mx, .int v_m_typed, .int v_m_next, .int v_m_token, .int v_m_place, .int v_m_value, .int v_m_fault, .int v_m_finds, .ref a_mf, .ref a_mg, .int v_m_weeks, .ref a_mw, .int v_m_rows, .ref a_mh, .int v_m_cardPrice, .int v_m_lotPrice, .int v_m_sure, .long v_m_up, .long v_m_down])), (a_mx, .inl (cI, 300, .inl v_mx)), (a_mf, .inl (cI, 50, .inl v_mf))]) (w1 := ([] : va_W)) (w2 := (wo_X10_habit cI cJ a_m a_mt a_ml a_mr a_mx a_mf a_mg a_mw a_mh v_m_thrown v_m_trace v_m_typed v_m_next v_m_token v_m_place v_m_value v_m_fault v_m_finds v_m_weeks v_m_rows v_m_cardPrice v_m_lotPrice v_m_sure v_m_up v_m_down v_mx v_mf)) X hP hD hS [] [0, 1, 2] [0, 1, 2] rfl (pa_rS (As := [.int v_m_value, .int (1 : Int32), .int (50 : Int32)]) (rest := [.ref a_m]) X hP hD hS [] rfl rfl (c_X10_in hg_31 H.size) (va_cwS 3 hts gX10_habit_X10_in rfl rfl rfl (by decide +kernel) ⟨Nat.le_of_ble_eq_true rfl, Nat.le_of_ble_eq_true rfl⟩) rfl hl.1 rfl (Nat.le_of_ble_eq_true rfl) dX10_habit_170 ⟨Nat.zero_le _, Nat.zero_le _⟩) rfl rfl (by decide) rfl rfl (fun H locs hP hD hS => ?_)
        refine lv_if_eq (tgt := 180) hx hb dX10_habit_173 (by decide) (fun c_32 => ?_) (fun c_32 => ?_)
        · have hf := (if_pos c_32).symm.trans hf
          exact w_X10_habit_b180 X hrec21 hf hP hD hS (lv_sub hl [0, 1] rfl)
        · have hf := (if_neg c_32).symm.trans hf
          refine lv_iconst (v := (1 : Int32)) hx hb dX10_habit_176 (by decide) ?_
          refine lv_goto (tgt := 181) hx hb dX10_habit_177 (by decide) ?_
          exact w_X10_habit_b181 X hrec21 hf hP hD hS (lv_sub hl [0, 1] rfl)
set_option maxHeartbeats 4000000 in
set_option maxRecDepth 100000 in
theorem w_X10_habit_b101 {l : Launch} {D : va_G} {cI cJ : ClassId} {g : pa_GT} {a_m a_mt a_ml a_mr a_mx a_mf a_mg a_mw a_mh : Nat} {A : Nat → Prop} {p : Program} {e : Env} {s : State} {m : MethodId} {args : Array Value} {below : List Frame} {meth : Method} {c : Code} {x1 : Int32} {x2 : Int32} {s1 : Int32} {v_m_thrown : Int32} {v_m_typed : Int32} {v_m_next : Int32} {v_m_token : Int32} {v_m_place : Int32} {v_m_value : Int32} {v_m_fault : Int32} {v_m_finds : Int32} {v_mx : Nat → Int32} {v_mf : Nat → Int32} {v_m_trace : Int64} {v_m_weeks : Int32} {v_m_rows : Int32} {v_m_cardPrice : Int32} {v_m_lotPrice : Int32} {v_m_sure : Int32} {v_m_up : Int64} {v_m_down : Int64} {o : Int32 × Int32 × Int32 × Int32 × Int32 × Int32 × Int32 × Int32 × Int32 × (Nat → Int32)} (X : pa_X cX10_habit 3 (some .int) RX10 wsX10_habit D cI cJ g A p s m args meth c) {rec21 : Int32 → Int32 → Int32 → Int32 → Int32 → Int32 → (Nat → Int32) → Option (Int32 × Int32 × Int32 × Int32 × Int32 × Int32 × Int32 × Int32 × Int32 × (Nat → Int32))} (hrec21 : ∀ (x1 : Int32) (v_m_next : Int32) (v_m_token : Int32) (v_m_place : Int32) (v_m_value : Int32) (v_m_fault : Int32) (v_mf : Nat → Int32), rec21 x1 v_m_next v_m_token v_m_place v_m_value v_m_fault v_mf = some o → ∀ (H : Heap) (locs : List Loc) , va_P D vwCl (wo_X10_habit cI cJ a_m a_mt a_ml a_mr a_mx a_mf a_mg a_mw a_mh v_m_thrown v_m_trace v_m_typed v_m_next v_m_token v_m_place v_m_value v_m_fault v_m_finds v_m_weeks v_m_rows v_m_cardPrice v_m_lotPrice v_m_sure v_m_up v_m_down v_mx v_mf) H → va_D A (wo_X10_habit cI cJ a_m a_mt a_ml a_mr a_mx a_mf a_mg a_mw a_mh v_m_thrown v_m_trace v_m_typed v_m_next v_m_token v_m_place v_m_value v_m_fault v_m_finds v_m_weeks v_m_rows v_m_cardPrice v_m_lotPrice v_m_sure v_m_up v_m_down v_mx v_mf) → va_S A s.heap H locs → ∀ (ls : Array Slot), lv_has ls 3 [(0, .ref a_m), (1, .int x1)] → W p l e (headSpec wsX10_habit rm_X10_habit).room s m args below meth c H locs 0 0 (MQ below (va_Qi (fun r (_ : Unit) => r = o.1) (pa_QB D A (wo_X10_habit cI cJ a_m a_mt a_ml a_mr a_mx a_mf a_mg a_mw a_mh o.2.1 v_m_trace o.2.2.1 o.2.2.2.1 o.2.2.2.2.1 o.2.2.2.2.2.1 o.2.2.2.2.2.2.1 o.2.2.2.2.2.2.2.1 o.2.2.2.2.2.2.2.2.1 v_m_weeks v_m_rows v_m_cardPrice v_m_lotPrice v_m_sure v_m_up v_m_down v_mx o.2.2.2.2.2.2.2.2.2)) A) args s 0 0 A) (F0 m 21 ls [])) (hf : f_X10_habit_b101 rec21 x1 x2 s1 v_m_thrown v_m_typed v_m_next v_m_token v_m_place v_m_value v_m_fault v_m_finds v_mx v_mf = some o) {H : Heap} {locs : List Loc} (hP : va_P D vwCl (wo_X10_habit cI cJ a_m a_mt a_ml a_mr a_mx a_mf a_mg a_mw a_mh v_m_thrown v_m_trace v_m_typed v_m_next v_m_token v_m_place v_m_value v_m_fault v_m_finds v_m_weeks v_m_rows v_m_cardPrice v_m_lotPrice v_m_sure v_m_up v_m_down v_mx v_mf) H) (hD : va_D A (wo_X10_habit cI cJ a_m a_mt a_ml a_mr a_mx a_mf a_mg a_mw a_mh v_m_thrown v_m_trace v_m_typed v_m_next v_m_token v_m_place v_m_value v_m_fault v_m_finds v_m_weeks v_m_rows v_m_cardPrice v_m_lotPrice v_m_sure v_m_up v_m_down v_mx v_mf)) (hS : va_S A s.heap H locs) {ls : Array Slot} (hl : lv_has ls 3 [(0, .ref a_m), (1, .int x1), (2, .int x2)]) : W p l e (headSpec wsX10_habit rm_X10_habit).room s m args below meth c H locs 0 0 (MQ below (va_Qi (fun r (_ : Unit) => r = o.1) (pa_QB D A (wo_X10_habit cI cJ a_m a_mt a_ml a_mr a_mx a_mf a_mg a_mw a_mh o.2.1 v_m_trace o.2.2.1 o.2.2.2.1 o.2.2.2.2.1 o.2.2.2.2.2.1 o.2.2.2.2.2.2.1 o.2.2.2.2.2.2.2.1 o.2.2.2.2.2.2.2.2.1 v_m_weeks v_m_rows v_m_cardPrice v_m_lotPrice v_m_sure v_m_up v_m_down v_mx o.2.2.2.2.2.2.2.2.2)) A) args s 0 0 A) (F0 m 101 ls [.int s1, .ref a_m]) := by
  obtain ⟨hx, hb, hr, hml, hown, hts, hK, hA, hG, hlk⟩ := id X
  delta f_X10_habit_b101 at hf
  obtain ⟨u_33, hg_34, hf⟩ := pa_bd hf
  refine pa_kv (wc := (wo_X10_wants cI cJ a_m a_mt a_ml a_mr a_mx a_mf a_mg a_mw a_mh v_m_thrown v_m_trace v_m_typed v_m_next v_m_token v_m_place v_m_value v_m_fault v_m_finds v_m_weeks v_m_rows v_m_cardPrice v_m_lotPrice v_m_sure v_m_up v_m_down)) (wr := [(a_mx, .inl (cI, 300, .inl v_mx)), (a_mf, .inl (cI, 50, .inl v_mf))]) (w1 := (wo_X10_wants cI cJ a_m a_mt a_ml a_mr a_mx a_mf a_mg a_mw a_mh v_m_thrown v_m_trace v_m_typed v_m_next v_m_token v_m_place v_m_value u_33 v_m_finds v_m_weeks v_m_rows v_m_cardPrice v_m_lotPrice v_m_sure v_m_up v_m_down)) (w2 := (wo_X10_habit cI cJ a_m a_mt a_ml a_mr a_mx a_mf a_mg a_mw a_mh v_m_thrown v_m_trace v_m_typed v_m_next v_m_token v_m_place v_m_value u_33 v_m_finds v_m_weeks v_m_rows v_m_cardPrice v_m_lotPrice v_m_sure v_m_up v_m_down v_mx v_mf)) X hP hD hS [0] [1, 2] [2, 0, 1] rfl (pa_rV (As := [.int s1]) (rest := []) (T := TX10) X hP hD hS [0] rfl rfl (c_X10_wants hg_34 H.size) (cwV 1 hts gX10_habit_X10_wants rfl rfl rfl (by decide +kernel) ⟨Nat.le_of_ble_eq_true rfl, Nat.le_of_ble_eq_true rfl⟩) (q0 := 0) rfl rfl rfl hl.1 rfl (Nat.le_of_ble_eq_true rfl) dX10_habit_101 ⟨Nat.zero_le _, Nat.zero_le _⟩) rfl rfl (by decide) rfl rfl (fun H locs hP hD hS => ?_)
  refine lv_aload_n hx hb dX10_habit_104 rfl (lv_at hl 0 rfl) ?_
  obtain ⟨u_35, hg_36, hf⟩ := pa_bd hf
  refine pa_ki (wc := (wo_X10_isWell cI cJ a_m a_mt a_ml a_mr a_mx a_mf a_mg a_mw a_mh v_m_thrown v_m_trace v_m_typed v_m_next v_m_token v_m_place v_m_value u_33 v_m_finds v_m_weeks v_m_rows v_m_cardPrice v_m_lotPrice v_m_sure v_m_up v_m_down)) (wr := [(a_mx, .inl (cI, 300, .inl v_mx)), (a_mf, .inl (cI, 50, .inl v_mf))]) (w1 := (wo_X10_isWell cI cJ a_m a_mt a_ml a_mr a_mx a_mf a_mg a_mw a_mh v_m_thrown v_m_trace v_m_typed v_m_next v_m_token v_m_place v_m_value u_33 v_m_finds v_m_weeks v_m_rows v_m_cardPrice v_m_lotPrice v_m_sure v_m_up v_m_down)) (w2 := (wo_X10_habit cI cJ a_m a_mt a_ml a_mr a_mx a_mf a_mg a_mw a_mh v_m_thrown v_m_trace v_m_typed v_m_next v_m_token v_m_place v_m_value u_33 v_m_finds v_m_weeks v_m_rows v_m_cardPrice v_m_lotPrice v_m_sure v_m_up v_m_down v_mx v_mf)) X hP hD hS [0] [1, 2] [2, 0, 1] rfl (pa_rV (As := []) (rest := []) (T := TX10) X hP hD hS [0] rfl rfl (c_X10_isWell hg_36 H.size) (cwV 0 hts gX10_habit_X10_isWell rfl rfl rfl (by decide +kernel) ⟨Nat.le_of_ble_eq_true rfl, Nat.le_of_ble_eq_true rfl⟩) (q0 := 0) rfl rfl rfl hl.1 rfl (Nat.le_of_ble_eq_true rfl) dX10_habit_105 ⟨Nat.zero_le _, Nat.zero_le _⟩) rfl rfl (by decide) rfl rfl (fun H locs hP hD hS => ?_)
  refine lv_if_eq (tgt := 143) hx hb dX10_habit_108 (by decide) (fun c_37 => ?_) (fun c_37 => ?_)
  · have hf := (if_pos c_37).symm.trans hf
    exact w_X10_habit_b143 X hrec21 hf hP hD hS (lv_sub hl [0, 1, 2] rfl)
  · have hf := (if_neg c_37).symm.trans hf
    refine lv_aload_n hx hb dX10_habit_111 rfl (lv_at hl 0 rfl) ?_
    refine va_get (D := D) (ci := 9) (v := .ref a_mf) (C := RX10) (T := TX10) (N := 24) hx hb hts il_X10_habit_X10 hown hK hP 0 rfl rfl 13 (by decide) (hts _ fk_X10_habit_2) (fun _ h9 => h9) rfl dX10_habit_112 ?_
    refine lv_bipush (v := (26 : Int32)) hx hb dX10_habit_115 (by decide) ?_
    refine lv_iconst (v := (2 : Int32)) hx hb dX10_habit_117 (by decide) ?_
    refine lv_iload_n hx hb dX10_habit_118 rfl (lv_at hl 1 rfl) ?_
    refine lv_imul hx hb dX10_habit_119 ?_
    refine lv_iadd hx hb dX10_habit_120 ?_
    refine lv_aload_n hx hb dX10_habit_121 rfl (lv_at hl 0 rfl) ?_
    refine va_get (D := D) (ci := 9) (v := .int v_m_value) (C := RX10) (T := TX10) (N := 24) hx hb hts il_X10_habit_X10 hown hK hP 0 rfl rfl 10 (by decide) (hts _ fk_X10_habit_5) (fun _ h9 => h9) rfl dX10_habit_122 ?_
    obtain ⟨hi_38, hf⟩ := pa_gd hf
    refine va_iast hx hb hK hP hD hS 2 0 rfl rfl hi_38 dX10_habit_125 (fun H locs hP hD hS => ?_)
    have hP : va_P D vwCl (wo_X10_habit cI cJ a_m a_mt a_ml a_mr a_mx a_mf a_mg a_mw a_mh v_m_thrown v_m_trace v_m_typed v_m_next v_m_token v_m_place v_m_value u_33 v_m_finds v_m_weeks v_m_rows v_m_cardPrice v_m_lotPrice v_m_sure v_m_up v_m_down v_mx (upd v_mf (Int32.toNatClampNeg ((26 : Int32) + ((2 : Int32) * x1))) v_m_value)) H := hP
    have hD : va_D A (wo_X10_habit cI cJ a_m a_mt a_ml a_mr a_mx a_mf a_mg a_mw a_mh v_m_thrown v_m_trace v_m_typed v_m_next v_m_token v_m_place v_m_value u_33 v_m_finds v_m_weeks v_m_rows v_m_cardPrice v_m_lotPrice v_m_sure v_m_up v_m_down v_mx (upd v_mf (Int32.toNatClampNeg ((26 : Int32) + ((2 : Int32) * x1))) v_m_value)) := hD
    refine lv_aload_n hx hb dX10_habit_126 rfl (lv_at hl 0 rfl) ?_
    refine va_get (D := D) (ci := 9) (v := .ref a_mf) (C := RX10) (T := TX10) (N := 24) hx hb hts il_X10_habit_X10 hown hK hP 0 rfl rfl 13 (by decide) (hts _ fk_X10_habit_2) (fun _ h9 => h9) rfl dX10_habit_127 ?_
    refine lv_bipush (v := (27 : Int32)) hx hb dX10_habit_130 (by decide) ?_
    refine lv_iconst (v := (2 : Int32)) hx hb dX10_habit_132 (by decide) ?_
    refine lv_iload_n hx hb dX10_habit_133 rfl (lv_at hl 1 rfl) ?_
    refine lv_imul hx hb dX10_habit_134 ?_
    refine lv_iadd hx hb dX10_habit_135 ?_
    refine lv_bipush (v := (-9 : Int32)) hx hb dX10_habit_136 (by decide) ?_
    obtain ⟨hi_39, hf⟩ := pa_gd hf
    refine va_iast hx hb hK hP hD hS 2 0 rfl rfl hi_39 dX10_habit_138 (fun H locs hP hD hS => ?_)
    have hP : va_P D vwCl (wo_X10_habit cI cJ a_m a_mt a_ml a_mr a_mx a_mf a_mg a_mw a_mh v_m_thrown v_m_trace v_m_typed v_m_next v_m_token v_m_place v_m_value u_33 v_m_finds v_m_weeks v_m_rows v_m_cardPrice v_m_lotPrice v_m_sure v_m_up v_m_down v_mx (upd (upd v_mf (Int32.toNatClampNeg ((26 : Int32) + ((2 : Int32) * x1))) v_m_value) (Int32.toNatClampNeg ((27 : Int32) + ((2 : Int32) * x1))) (-9 : Int32))) H := hP
    have hD : va_D A (wo_X10_habit cI cJ a_m a_mt a_ml a_mr a_mx a_mf a_mg a_mw a_mh v_m_thrown v_m_trace v_m_typed v_m_next v_m_token v_m_place v_m_value u_33 v_m_finds v_m_weeks v_m_rows v_m_cardPrice v_m_lotPrice v_m_sure v_m_up v_m_down v_mx (upd (upd v_mf (Int32.toNatClampNeg ((26 : Int32) + ((2 : Int32) * x1))) v_m_value) (Int32.toNatClampNeg ((27 : Int32) + ((2 : Int32) * x1))) (-9 : Int32))) := hD
    refine lv_aload_n hx hb dX10_habit_139 rfl (lv_at hl 0 rfl) ?_
    obtain ⟨u_40, hg_41, hf⟩ := pa_bd hf
    refine pa_kv (wc := (wo_X10_advances cI cJ a_m a_mt a_ml a_mr a_mx a_mf a_mg a_mw a_mh v_m_thrown v_m_trace v_m_typed v_m_next v_m_token v_m_place v_m_value u_33 v_m_finds v_m_weeks v_m_rows v_m_cardPrice v_m_lotPrice v_m_sure v_m_up v_m_down v_mx)) (wr := [(a_mf, .inl (cI, 50, .inl (upd (upd v_mf (Int32.toNatClampNeg ((26 : Int32) + ((2 : Int32) * x1))) v_m_value) (Int32.toNatClampNeg ((27 : Int32) + ((2 : Int32) * x1))) (-9 : Int32))))]) (w1 := (wo_X10_advances cI cJ a_m a_mt a_ml a_mr a_mx a_mf a_mg a_mw a_mh v_m_thrown v_m_trace v_m_typed u_40.1 u_40.2.1 u_40.2.2.1 u_40.2.2.2 u_33 v_m_finds v_m_weeks v_m_rows v_m_cardPrice v_m_lotPrice v_m_sure v_m_up v_m_down v_mx)) (w2 := (wo_X10_habit cI cJ a_m a_mt a_ml a_mr a_mx a_mf a_mg a_mw a_mh v_m_thrown v_m_trace v_m_typed u_40.1 u_40.2.1 u_40.2.2.1 u_40.2.2.2 u_33 v_m_finds v_m_weeks v_m_rows v_m_cardPrice v_m_lotPrice v_m_sure v_m_up v_m_down v_mx (upd (upd v_mf (Int32.toNatClampNeg ((26 : Int32) + ((2 : Int32) * x1))) v_m_value) (Int32.toNatClampNeg ((27 : Int32) + ((2 : Int32) * x1))) (-9 : Int32)))) X hP hD hS [0, 1] [2] [1, 2, 0] rfl (pa_rV (As := []) (rest := []) (T := TX10) X hP hD hS [0, 1] rfl rfl (c_X10_advances hg_41 H.size) (cwV 0 hts gX10_habit_X10_advances rfl rfl rfl (by decide +kernel) ⟨Nat.le_of_ble_eq_true rfl, Nat.le_of_ble_eq_true rfl⟩) (q0 := 0) rfl rfl rfl hl.1 rfl (Nat.le_of_ble_eq_true rfl) dX10_habit_140 ⟨Nat.zero_le _, Nat.zero_le _⟩) rfl rfl (by decide) rfl rfl (fun H locs hP hD hS => ?_)
    exact w_X10_habit_b143 X hrec21 hf hP hD hS (lv_sub hl [0, 1, 2] rfl)
set_option maxHeartbeats 4000000 in
set_option maxRecDepth 100000 in
theorem w_X10_habit_b87 {l : Launch} {D : va_G} {cI cJ : ClassId} {g : pa_GT} {a_m a_mt a_ml a_mr a_mx a_mf a_mg a_mw a_mh : Nat} {A : Nat → Prop} {p : Program} {e : Env} {s : State} {m : MethodId} {args : Array Value} {below : List Frame} {meth : Method} {c : Code} {x1 : Int32} {x2 : Int32} {v_m_thrown : Int32} {v_m_typed : Int32} {v_m_next : Int32} {v_m_token : Int32} {v_m_place : Int32} {v_m_value : Int32} {v_m_fault : Int32} {v_m_finds : Int32} {v_mx : Nat → Int32} {v_mf : Nat → Int32} {v_m_trace : Int64} {v_m_weeks : Int32} {v_m_rows : Int32} {v_m_cardPrice : Int32} {v_m_lotPrice : Int32} {v_m_sure : Int32} {v_m_up : Int64} {v_m_down : Int64} {o : Int32 × Int32 × Int32 × Int32 × Int32 × Int32 × Int32 × Int32 × Int32 × (Nat → Int32)} (X : pa_X cX10_habit 3 (some .int) RX10 wsX10_habit D cI cJ g A p s m args meth c) {rec21 : Int32 → Int32 → Int32 → Int32 → Int32 → Int32 → (Nat → Int32) → Option (Int32 × Int32 × Int32 × Int32 × Int32 × Int32 × Int32 × Int32 × Int32 × (Nat → Int32))} (hrec21 : ∀ (x1 : Int32) (v_m_next : Int32) (v_m_token : Int32) (v_m_place : Int32) (v_m_value : Int32) (v_m_fault : Int32) (v_mf : Nat → Int32), rec21 x1 v_m_next v_m_token v_m_place v_m_value v_m_fault v_mf = some o → ∀ (H : Heap) (locs : List Loc) , va_P D vwCl (wo_X10_habit cI cJ a_m a_mt a_ml a_mr a_mx a_mf a_mg a_mw a_mh v_m_thrown v_m_trace v_m_typed v_m_next v_m_token v_m_place v_m_value v_m_fault v_m_finds v_m_weeks v_m_rows v_m_cardPrice v_m_lotPrice v_m_sure v_m_up v_m_down v_mx v_mf) H → va_D A (wo_X10_habit cI cJ a_m a_mt a_ml a_mr a_mx a_mf a_mg a_mw a_mh v_m_thrown v_m_trace v_m_typed v_m_next v_m_token v_m_place v_m_value v_m_fault v_m_finds v_m_weeks v_m_rows v_m_cardPrice v_m_lotPrice v_m_sure v_m_up v_m_down v_mx v_mf) → va_S A s.heap H locs → ∀ (ls : Array Slot), lv_has ls 3 [(0, .ref a_m), (1, .int x1)] → W p l e (headSpec wsX10_habit rm_X10_habit).room s m args below meth c H locs 0 0 (MQ below (va_Qi (fun r (_ : Unit) => r = o.1) (pa_QB D A (wo_X10_habit cI cJ a_m a_mt a_ml a_mr a_mx a_mf a_mg a_mw a_mh o.2.1 v_m_trace o.2.2.1 o.2.2.2.1 o.2.2.2.2.1 o.2.2.2.2.2.1 o.2.2.2.2.2.2.1 o.2.2.2.2.2.2.2.1 o.2.2.2.2.2.2.2.2.1 v_m_weeks v_m_rows v_m_cardPrice v_m_lotPrice v_m_sure v_m_up v_m_down v_mx o.2.2.2.2.2.2.2.2.2)) A) args s 0 0 A) (F0 m 21 ls [])) (hf : f_X10_habit_b87 rec21 x1 x2 v_m_thrown v_m_typed v_m_next v_m_token v_m_place v_m_value v_m_fault v_m_finds v_mx v_mf = some o) {H : Heap} {locs : List Loc} (hP : va_P D vwCl (wo_X10_habit cI cJ a_m a_mt a_ml a_mr a_mx a_mf a_mg a_mw a_mh v_m_thrown v_m_trace v_m_typed v_m_next v_m_token v_m_place v_m_value v_m_fault v_m_finds v_m_weeks v_m_rows v_m_cardPrice v_m_lotPrice v_m_sure v_m_up v_m_down v_mx v_mf) H) (hD : va_D A (wo_X10_habit cI cJ a_m a_mt a_ml a_mr a_mx a_mf a_mg a_mw a_mh v_m_thrown v_m_trace v_m_typed v_m_next v_m_token v_m_place v_m_value v_m_fault v_m_finds v_m_weeks v_m_rows v_m_cardPrice v_m_lotPrice v_m_sure v_m_up v_m_down v_mx v_mf)) (hS : va_S A s.heap H locs) {ls : Array Slot} (hl : lv_has ls 3 [(0, .ref a_m), (1, .int x1), (2, .int x2)]) : W p l e (headSpec wsX10_habit rm_X10_habit).room s m args below meth c H locs 0 0 (MQ below (va_Qi (fun r (_ : Unit) => r = o.1) (pa_QB D A (wo_X10_habit cI cJ a_m a_mt a_ml a_mr a_mx a_mf a_mg a_mw a_mh o.2.1 v_m_trace o.2.2.1 o.2.2.2.1 o.2.2.2.2.1 o.2.2.2.2.2.1 o.2.2.2.2.2.2.1 o.2.2.2.2.2.2.2.1 o.2.2.2.2.2.2.2.2.1 v_m_weeks v_m_rows v_m_cardPrice v_m_lotPrice v_m_sure v_m_up v_m_down v_mx o.2.2.2.2.2.2.2.2.2)) A) args s 0 0 A) (F0 m 87 ls []) := by
  obtain ⟨hx, hb, hr, hml, hown, hts, hK, hA, hG, hlk⟩ := id X
  delta f_X10_habit_b87 at hf
  refine lv_aload_n hx hb dX10_habit_87 rfl (lv_at hl 0 rfl) ?_
  refine lv_aload_n hx hb dX10_habit_88 rfl (lv_at hl 0 rfl) ?_
  refine va_get (D := D) (ci := 9) (v := .int v_m_token) (C := RX10) (T := TX10) (N := 24) hx hb hts il_X10_habit_X10 hown hK hP 0 rfl rfl 8 (by decide) (hts _ fk_X10_habit_4) (fun _ h9 => h9) rfl dX10_habit_89 ?_
  refine lv_iconst (v := (3 : Int32)) hx hb dX10_habit_92 (by decide) ?_
  refine lv_icmp_ne (tgt := 100) hx hb dX10_habit_93 (by decide) (fun c_42 => ?_) (fun c_42 => ?_)
  · have hf := (if_neg c_42).symm.trans hf
    refine lv_iconst (v := (0 : Int32)) hx hb dX10_habit_100 (by decide) ?_
    exact w_X10_habit_b101 X hrec21 hf hP hD hS (lv_sub hl [0, 1, 2] rfl)
  · have hf := (if_pos c_42).symm.trans hf
    refine lv_iconst (v := (1 : Int32)) hx hb dX10_habit_96 (by decide) ?_
    refine lv_goto (tgt := 101) hx hb dX10_habit_97 (by decide) ?_
    exact w_X10_habit_b101 X hrec21 hf hP hD hS (lv_sub hl [0, 1, 2] rfl)
set_option maxHeartbeats 4000000 in
set_option maxRecDepth 100000 in
theorem w_X10_habit_b73 {l : Launch} {D : va_G} {cI cJ : ClassId} {g : pa_GT} {a_m a_mt a_ml a_mr a_mx a_mf a_mg a_mw a_mh : Nat} {A : Nat → Prop} {p : Program} {e : Env} {s : State} {m : MethodId} {args : Array Value} {below : List Frame} {meth : Method} {c : Code} {x1 : Int32} {x2 : Int32} {s1 : Int32} {v_m_thrown : Int32} {v_m_typed : Int32} {v_m_next : Int32} {v_m_token : Int32} {v_m_place : Int32} {v_m_value : Int32} {v_m_fault : Int32} {v_m_finds : Int32} {v_mx : Nat → Int32} {v_mf : Nat → Int32} {v_m_trace : Int64} {v_m_weeks : Int32} {v_m_rows : Int32} {v_m_cardPrice : Int32} {v_m_lotPrice : Int32} {v_m_sure : Int32} {v_m_up : Int64} {v_m_down : Int64} {o : Int32 × Int32 × Int32 × Int32 × Int32 × Int32 × Int32 × Int32 × Int32 × (Nat → Int32)} (X : pa_X cX10_habit 3 (some .int) RX10 wsX10_habit D cI cJ g A p s m args meth c) {rec21 : Int32 → Int32 → Int32 → Int32 → Int32 → Int32 → (Nat → Int32) → Option (Int32 × Int32 × Int32 × Int32 × Int32 × Int32 × Int32 × Int32 × Int32 × (Nat → Int32))} (hrec21 : ∀ (x1 : Int32) (v_m_next : Int32) (v_m_token : Int32) (v_m_place : Int32) (v_m_value : Int32) (v_m_fault : Int32) (v_mf : Nat → Int32), rec21 x1 v_m_next v_m_token v_m_place v_m_value v_m_fault v_mf = some o → ∀ (H : Heap) (locs : List Loc) , va_P D vwCl (wo_X10_habit cI cJ a_m a_mt a_ml a_mr a_mx a_mf a_mg a_mw a_mh v_m_thrown v_m_trace v_m_typed v_m_next v_m_token v_m_place v_m_value v_m_fault v_m_finds v_m_weeks v_m_rows v_m_cardPrice v_m_lotPrice v_m_sure v_m_up v_m_down v_mx v_mf) H → va_D A (wo_X10_habit cI cJ a_m a_mt a_ml a_mr a_mx a_mf a_mg a_mw a_mh v_m_thrown v_m_trace v_m_typed v_m_next v_m_token v_m_place v_m_value v_m_fault v_m_finds v_m_weeks v_m_rows v_m_cardPrice v_m_lotPrice v_m_sure v_m_up v_m_down v_mx v_mf) → va_S A s.heap H locs → ∀ (ls : Array Slot), lv_has ls 3 [(0, .ref a_m), (1, .int x1)] → W p l e (headSpec wsX10_habit rm_X10_habit).room s m args below meth c H locs 0 0 (MQ below (va_Qi (fun r (_ : Unit) => r = o.1) (pa_QB D A (wo_X10_habit cI cJ a_m a_mt a_ml a_mr a_mx a_mf a_mg a_mw a_mh o.2.1 v_m_trace o.2.2.1 o.2.2.2.1 o.2.2.2.2.1 o.2.2.2.2.2.1 o.2.2.2.2.2.2.1 o.2.2.2.2.2.2.2.1 o.2.2.2.2.2.2.2.2.1 v_m_weeks v_m_rows v_m_cardPrice v_m_lotPrice v_m_sure v_m_up v_m_down v_mx o.2.2.2.2.2.2.2.2.2)) A) args s 0 0 A) (F0 m 21 ls [])) (hf : f_X10_habit_b73 rec21 x1 x2 s1 v_m_thrown v_m_typed v_m_next v_m_token v_m_place v_m_value v_m_fault v_m_finds v_mx v_mf = some o) {H : Heap} {locs : List Loc} (hP : va_P D vwCl (wo_X10_habit cI cJ a_m a_mt a_ml a_mr a_mx a_mf a_mg a_mw a_mh v_m_thrown v_m_trace v_m_typed v_m_next v_m_token v_m_place v_m_value v_m_fault v_m_finds v_m_weeks v_m_rows v_m_cardPrice v_m_lotPrice v_m_sure v_m_up v_m_down v_mx v_mf) H) (hD : va_D A (wo_X10_habit cI cJ a_m a_mt a_ml a_mr a_mx a_mf a_mg a_mw a_mh v_m_thrown v_m_trace v_m_typed v_m_next v_m_token v_m_place v_m_value v_m_fault v_m_finds v_m_weeks v_m_rows v_m_cardPrice v_m_lotPrice v_m_sure v_m_up v_m_down v_mx v_mf)) (hS : va_S A s.heap H locs) {ls : Array Slot} (hl : lv_has ls 3 [(0, .ref a_m), (1, .int x1), (2, .int x2)]) : W p l e (headSpec wsX10_habit rm_X10_habit).room s m args below meth c H locs 0 0 (MQ below (va_Qi (fun r (_ : Unit) => r = o.1) (pa_QB D A (wo_X10_habit cI cJ a_m a_mt a_ml a_mr a_mx a_mf a_mg a_mw a_mh o.2.1 v_m_trace o.2.2.1 o.2.2.2.1 o.2.2.2.2.1 o.2.2.2.2.2.1 o.2.2.2.2.2.2.1 o.2.2.2.2.2.2.2.1 o.2.2.2.2.2.2.2.2.1 v_m_weeks v_m_rows v_m_cardPrice v_m_lotPrice v_m_sure v_m_up v_m_down v_mx o.2.2.2.2.2.2.2.2.2)) A) args s 0 0 A) (F0 m 73 ls [.int s1, .ref a_m]) := by
  obtain ⟨hx, hb, hr, hml, hown, hts, hK, hA, hG, hlk⟩ := id X
  delta f_X10_habit_b73 at hf
  obtain ⟨u_43, hg_44, hf⟩ := pa_bd hf
  refine pa_kv (wc := (wo_X10_wants cI cJ a_m a_mt a_ml a_mr a_mx a_mf a_mg a_mw a_mh v_m_thrown v_m_trace v_m_typed v_m_next v_m_token v_m_place v_m_value v_m_fault v_m_finds v_m_weeks v_m_rows v_m_cardPrice v_m_lotPrice v_m_sure v_m_up v_m_down)) (wr := [(a_mx, .inl (cI, 300, .inl v_mx)), (a_mf, .inl (cI, 50, .inl v_mf))]) (w1 := (wo_X10_wants cI cJ a_m a_mt a_ml a_mr a_mx a_mf a_mg a_mw a_mh v_m_thrown v_m_trace v_m_typed v_m_next v_m_token v_m_place v_m_value u_43 v_m_finds v_m_weeks v_m_rows v_m_cardPrice v_m_lotPrice v_m_sure v_m_up v_m_down)) (w2 := (wo_X10_habit cI cJ a_m a_mt a_ml a_mr a_mx a_mf a_mg a_mw a_mh v_m_thrown v_m_trace v_m_typed v_m_next v_m_token v_m_place v_m_value u_43 v_m_finds v_m_weeks v_m_rows v_m_cardPrice v_m_lotPrice v_m_sure v_m_up v_m_down v_mx v_mf)) X hP hD hS [0] [1, 2] [2, 0, 1] rfl (pa_rV (As := [.int s1]) (rest := []) (T := TX10) X hP hD hS [0] rfl rfl (c_X10_wants hg_44 H.size) (cwV 1 hts gX10_habit_X10_wants rfl rfl rfl (by decide +kernel) ⟨Nat.le_of_ble_eq_true rfl, Nat.le_of_ble_eq_true rfl⟩) (q0 := 0) rfl rfl rfl hl.1 rfl (Nat.le_of_ble_eq_true rfl) dX10_habit_73 ⟨Nat.zero_le _, Nat.zero_le _⟩) rfl rfl (by decide) rfl rfl (fun H locs hP hD hS => ?_)
  refine lv_aload_n hx hb dX10_habit_76 rfl (lv_at hl 0 rfl) ?_
  obtain ⟨u_45, hg_46, hf⟩ := pa_bd hf
  refine pa_ki (wc := (wo_X10_isWell cI cJ a_m a_mt a_ml a_mr a_mx a_mf a_mg a_mw a_mh v_m_thrown v_m_trace v_m_typed v_m_next v_m_token v_m_place v_m_value u_43 v_m_finds v_m_weeks v_m_rows v_m_cardPrice v_m_lotPrice v_m_sure v_m_up v_m_down)) (wr := [(a_mx, .inl (cI, 300, .inl v_mx)), (a_mf, .inl (cI, 50, .inl v_mf))]) (w1 := (wo_X10_isWell cI cJ a_m a_mt a_ml a_mr a_mx a_mf a_mg a_mw a_mh v_m_thrown v_m_trace v_m_typed v_m_next v_m_token v_m_place v_m_value u_43 v_m_finds v_m_weeks v_m_rows v_m_cardPrice v_m_lotPrice v_m_sure v_m_up v_m_down)) (w2 := (wo_X10_habit cI cJ a_m a_mt a_ml a_mr a_mx a_mf a_mg a_mw a_mh v_m_thrown v_m_trace v_m_typed v_m_next v_m_token v_m_place v_m_value u_43 v_m_finds v_m_weeks v_m_rows v_m_cardPrice v_m_lotPrice v_m_sure v_m_up v_m_down v_mx v_mf)) X hP hD hS [0] [1, 2] [2, 0, 1] rfl (pa_rV (As := []) (rest := []) (T := TX10) X hP hD hS [0] rfl rfl (c_X10_isWell hg_46 H.size) (cwV 0 hts gX10_habit_X10_isWell rfl rfl rfl (by decide +kernel) ⟨Nat.le_of_ble_eq_true rfl, Nat.le_of_ble_eq_true rfl⟩) (q0 := 0) rfl rfl rfl hl.1 rfl (Nat.le_of_ble_eq_true rfl) dX10_habit_77 ⟨Nat.zero_le _, Nat.zero_le _⟩) rfl rfl (by decide) rfl rfl (fun H locs hP hD hS => ?_)
  refine lv_if_eq (tgt := 87) hx hb dX10_habit_80 (by decide) (fun c_47 => ?_) (fun c_47 => ?_)
  · have hf := (if_pos c_47).symm.trans hf
    exact w_X10_habit_b87 X hrec21 hf hP hD hS (lv_sub hl [0, 1, 2] rfl)
  · have hf := (if_neg c_47).symm.trans hf
    refine lv_aload_n hx hb dX10_habit_83 rfl (lv_at hl 0 rfl) ?_
    obtain ⟨u_48, hg_49, hf⟩ := pa_bd hf
    refine pa_kv (wc := (wo_X10_advances cI cJ a_m a_mt a_ml a_mr a_mx a_mf a_mg a_mw a_mh v_m_thrown v_m_trace v_m_typed v_m_next v_m_token v_m_place v_m_value u_43 v_m_finds v_m_weeks v_m_rows v_m_cardPrice v_m_lotPrice v_m_sure v_m_up v_m_down v_mx)) (wr := [(a_mf, .inl (cI, 50, .inl v_mf))]) (w1 := (wo_X10_advances cI cJ a_m a_mt a_ml a_mr a_mx a_mf a_mg a_mw a_mh v_m_thrown v_m_trace v_m_typed u_48.1 u_48.2.1 u_48.2.2.1 u_48.2.2.2 u_43 v_m_finds v_m_weeks v_m_rows v_m_cardPrice v_m_lotPrice v_m_sure v_m_up v_m_down v_mx)) (w2 := (wo_X10_habit cI cJ a_m a_mt a_ml a_mr a_mx a_mf a_mg a_mw a_mh v_m_thrown v_m_trace v_m_typed u_48.1 u_48.2.1 u_48.2.2.1 u_48.2.2.2 u_43 v_m_finds v_m_weeks v_m_rows v_m_cardPrice v_m_lotPrice v_m_sure v_m_up v_m_down v_mx v_mf)) X hP hD hS [0, 1] [2] [1, 2, 0] rfl (pa_rV (As := []) (rest := []) (T := TX10) X hP hD hS [0, 1] rfl rfl (c_X10_advances hg_49 H.size) (cwV 0 hts gX10_habit_X10_advances rfl rfl rfl (by decide +kernel) ⟨Nat.le_of_ble_eq_true rfl, Nat.le_of_ble_eq_true rfl⟩) (q0 := 0) rfl rfl rfl hl.1 rfl (Nat.le_of_ble_eq_true rfl) dX10_habit_84 ⟨Nat.zero_le _, Nat.zero_le _⟩) rfl rfl (by decide) rfl rfl (fun H locs hP hD hS => ?_)
    exact w_X10_habit_b87 X hrec21 hf hP hD hS (lv_sub hl [0, 1, 2] rfl)
set_option maxHeartbeats 4000000 in
set_option maxRecDepth 100000 in
theorem w_X10_habit_b72 {l : Launch} {D : va_G} {cI cJ : ClassId} {g : pa_GT} {a_m a_mt a_ml a_mr a_mx a_mf a_mg a_mw a_mh : Nat} {A : Nat → Prop} {p : Program} {e : Env} {s : State} {m : MethodId} {args : Array Value} {below : List Frame} {meth : Method} {c : Code} {x1 : Int32} {x2 : Int32} {v_m_thrown : Int32} {v_m_typed : Int32} {v_m_next : Int32} {v_m_token : Int32} {v_m_place : Int32} {v_m_value : Int32} {v_m_fault : Int32} {v_m_finds : Int32} {v_mx : Nat → Int32} {v_mf : Nat → Int32} {v_m_trace : Int64} {v_m_weeks : Int32} {v_m_rows : Int32} {v_m_cardPrice : Int32} {v_m_lotPrice : Int32} {v_m_sure : Int32} {v_m_up : Int64} {v_m_down : Int64} {o : Int32 × Int32 × Int32 × Int32 × Int32 × Int32 × Int32 × Int32 × Int32 × (Nat → Int32)} (X : pa_X cX10_habit 3 (some .int) RX10 wsX10_habit D cI cJ g A p s m args meth c) {rec21 : Int32 → Int32 → Int32 → Int32 → Int32 → Int32 → (Nat → Int32) → Option (Int32 × Int32 × Int32 × Int32 × Int32 × Int32 × Int32 × Int32 × Int32 × (Nat → Int32))} (hrec21 : ∀ (x1 : Int32) (v_m_next : Int32) (v_m_token : Int32) (v_m_place : Int32) (v_m_value : Int32) (v_m_fault : Int32) (v_mf : Nat → Int32), rec21 x1 v_m_next v_m_token v_m_place v_m_value v_m_fault v_mf = some o → ∀ (H : Heap) (locs : List Loc) , va_P D vwCl (wo_X10_habit cI cJ a_m a_mt a_ml a_mr a_mx a_mf a_mg a_mw a_mh v_m_thrown v_m_trace v_m_typed v_m_next v_m_token v_m_place v_m_value v_m_fault v_m_finds v_m_weeks v_m_rows v_m_cardPrice v_m_lotPrice v_m_sure v_m_up v_m_down v_mx v_mf) H → va_D A (wo_X10_habit cI cJ a_m a_mt a_ml a_mr a_mx a_mf a_mg a_mw a_mh v_m_thrown v_m_trace v_m_typed v_m_next v_m_token v_m_place v_m_value v_m_fault v_m_finds v_m_weeks v_m_rows v_m_cardPrice v_m_lotPrice v_m_sure v_m_up v_m_down v_mx v_mf) → va_S A s.heap H locs → ∀ (ls : Array Slot), lv_has ls 3 [(0, .ref a_m), (1, .int x1)] → W p l e (headSpec wsX10_habit rm_X10_habit).room s m args below meth c H locs 0 0 (MQ below (va_Qi (fun r (_ : Unit) => r = o.1) (pa_QB D A (wo_X10_habit cI cJ a_m a_mt a_ml a_mr a_mx a_mf a_mg a_mw a_mh o.2.1 v_m_trace o.2.2.1 o.2.2.2.1 o.2.2.2.2.1 o.2.2.2.2.2.1 o.2.2.2.2.2.2.1 o.2.2.2.2.2.2.2.1 o.2.2.2.2.2.2.2.2.1 v_m_weeks v_m_rows v_m_cardPrice v_m_lotPrice v_m_sure v_m_up v_m_down v_mx o.2.2.2.2.2.2.2.2.2)) A) args s 0 0 A) (F0 m 21 ls [])) (hf : f_X10_habit_b72 rec21 x1 x2 v_m_thrown v_m_typed v_m_next v_m_token v_m_place v_m_value v_m_fault v_m_finds v_mx v_mf = some o) {H : Heap} {locs : List Loc} (hP : va_P D vwCl (wo_X10_habit cI cJ a_m a_mt a_ml a_mr a_mx a_mf a_mg a_mw a_mh v_m_thrown v_m_trace v_m_typed v_m_next v_m_token v_m_place v_m_value v_m_fault v_m_finds v_m_weeks v_m_rows v_m_cardPrice v_m_lotPrice v_m_sure v_m_up v_m_down v_mx v_mf) H) (hD : va_D A (wo_X10_habit cI cJ a_m a_mt a_ml a_mr a_mx a_mf a_mg a_mw a_mh v_m_thrown v_m_trace v_m_typed v_m_next v_m_token v_m_place v_m_value v_m_fault v_m_finds v_m_weeks v_m_rows v_m_cardPrice v_m_lotPrice v_m_sure v_m_up v_m_down v_mx v_mf)) (hS : va_S A s.heap H locs) {ls : Array Slot} (hl : lv_has ls 3 [(0, .ref a_m), (1, .int x1), (2, .int x2)]) : W p l e (headSpec wsX10_habit rm_X10_habit).room s m args below meth c H locs 0 0 (MQ below (va_Qi (fun r (_ : Unit) => r = o.1) (pa_QB D A (wo_X10_habit cI cJ a_m a_mt a_ml a_mr a_mx a_mf a_mg a_mw a_mh o.2.1 v_m_trace o.2.2.1 o.2.2.2.1 o.2.2.2.2.1 o.2.2.2.2.2.1 o.2.2.2.2.2.2.1 o.2.2.2.2.2.2.2.1 o.2.2.2.2.2.2.2.2.1 v_m_weeks v_m_rows v_m_cardPrice v_m_lotPrice v_m_sure v_m_up v_m_down v_mx o.2.2.2.2.2.2.2.2.2)) A) args s 0 0 A) (F0 m 72 ls [.ref a_m]) := by
  obtain ⟨hx, hb, hr, hml, hown, hts, hK, hA, hG, hlk⟩ := id X
  delta f_X10_habit_b72 at hf
  refine lv_iconst (v := (0 : Int32)) hx hb dX10_habit_72 (by decide) ?_
  exact w_X10_habit_b73 X hrec21 hf hP hD hS (lv_sub hl [0, 1, 2] rfl)
set_option maxHeartbeats 4000000 in
set_option maxRecDepth 100000 in
theorem w_X10_habit_b68 {l : Launch} {D : va_G} {cI cJ : ClassId} {g : pa_GT} {a_m a_mt a_ml a_mr a_mx a_mf a_mg a_mw a_mh : Nat} {A : Nat → Prop} {p : Program} {e : Env} {s : State} {m : MethodId} {args : Array Value} {below : List Frame} {meth : Method} {c : Code} {x1 : Int32} {x2 : Int32} {v_m_thrown : Int32} {v_m_typed : Int32} {v_m_next : Int32} {v_m_token : Int32} {v_m_place : Int32} {v_m_value : Int32} {v_m_fault : Int32} {v_m_finds : Int32} {v_mx : Nat → Int32} {v_mf : Nat → Int32} {v_m_trace : Int64} {v_m_weeks : Int32} {v_m_rows : Int32} {v_m_cardPrice : Int32} {v_m_lotPrice : Int32} {v_m_sure : Int32} {v_m_up : Int64} {v_m_down : Int64} {o : Int32 × Int32 × Int32 × Int32 × Int32 × Int32 × Int32 × Int32 × Int32 × (Nat → Int32)} (X : pa_X cX10_habit 3 (some .int) RX10 wsX10_habit D cI cJ g A p s m args meth c) {rec21 : Int32 → Int32 → Int32 → Int32 → Int32 → Int32 → (Nat → Int32) → Option (Int32 × Int32 × Int32 × Int32 × Int32 × Int32 × Int32 × Int32 × Int32 × (Nat → Int32))} (hrec21 : ∀ (x1 : Int32) (v_m_next : Int32) (v_m_token : Int32) (v_m_place : Int32) (v_m_value : Int32) (v_m_fault : Int32) (v_mf : Nat → Int32), rec21 x1 v_m_next v_m_token v_m_place v_m_value v_m_fault v_mf = some o → ∀ (H : Heap) (locs : List Loc) , va_P D vwCl (wo_X10_habit cI cJ a_m a_mt a_ml a_mr a_mx a_mf a_mg a_mw a_mh v_m_thrown v_m_trace v_m_typed v_m_next v_m_token v_m_place v_m_value v_m_fault v_m_finds v_m_weeks v_m_rows v_m_cardPrice v_m_lotPrice v_m_sure v_m_up v_m_down v_mx v_mf) H → va_D A (wo_X10_habit cI cJ a_m a_mt a_ml a_mr a_mx a_mf a_mg a_mw a_mh v_m_thrown v_m_trace v_m_typed v_m_next v_m_token v_m_place v_m_value v_m_fault v_m_finds v_m_weeks v_m_rows v_m_cardPrice v_m_lotPrice v_m_sure v_m_up v_m_down v_mx v_mf) → va_S A s.heap H locs → ∀ (ls : Array Slot), lv_has ls 3 [(0, .ref a_m), (1, .int x1)] → W p l e (headSpec wsX10_habit rm_X10_habit).room s m args below meth c H locs 0 0 (MQ below (va_Qi (fun r (_ : Unit) => r = o.1) (pa_QB D A (wo_X10_habit cI cJ a_m a_mt a_ml a_mr a_mx a_mf a_mg a_mw a_mh o.2.1 v_m_trace o.2.2.1 o.2.2.2.1 o.2.2.2.2.1 o.2.2.2.2.2.1 o.2.2.2.2.2.2.1 o.2.2.2.2.2.2.2.1 o.2.2.2.2.2.2.2.2.1 v_m_weeks v_m_rows v_m_cardPrice v_m_lotPrice v_m_sure v_m_up v_m_down v_mx o.2.2.2.2.2.2.2.2.2)) A) args s 0 0 A) (F0 m 21 ls [])) (hf : f_X10_habit_b68 rec21 x1 x2 v_m_thrown v_m_typed v_m_next v_m_token v_m_place v_m_value v_m_fault v_m_finds v_mx v_mf = some o) {H : Heap} {locs : List Loc} (hP : va_P D vwCl (wo_X10_habit cI cJ a_m a_mt a_ml a_mr a_mx a_mf a_mg a_mw a_mh v_m_thrown v_m_trace v_m_typed v_m_next v_m_token v_m_place v_m_value v_m_fault v_m_finds v_m_weeks v_m_rows v_m_cardPrice v_m_lotPrice v_m_sure v_m_up v_m_down v_mx v_mf) H) (hD : va_D A (wo_X10_habit cI cJ a_m a_mt a_ml a_mr a_mx a_mf a_mg a_mw a_mh v_m_thrown v_m_trace v_m_typed v_m_next v_m_token v_m_place v_m_value v_m_fault v_m_finds v_m_weeks v_m_rows v_m_cardPrice v_m_lotPrice v_m_sure v_m_up v_m_down v_mx v_mf)) (hS : va_S A s.heap H locs) {ls : Array Slot} (hl : lv_has ls 3 [(0, .ref a_m), (1, .int x1), (2, .int x2)]) : W p l e (headSpec wsX10_habit rm_X10_habit).room s m args below meth c H locs 0 0 (MQ below (va_Qi (fun r (_ : Unit) => r = o.1) (pa_QB D A (wo_X10_habit cI cJ a_m a_mt a_ml a_mr a_mx a_mf a_mg a_mw a_mh o.2.1 v_m_trace o.2.2.1 o.2.2.2.1 o.2.2.2.2.1 o.2.2.2.2.2.1 o.2.2.2.2.2.2.1 o.2.2.2.2.2.2.2.1 o.2.2.2.2.2.2.2.2.1 v_m_weeks v_m_rows v_m_cardPrice v_m_lotPrice v_m_sure v_m_up v_m_down v_mx o.2.2.2.2.2.2.2.2.2)) A) args s 0 0 A) (F0 m 68 ls [.ref a_m]) := by
  obtain ⟨hx, hb, hr, hml, hown, hts, hK, hA, hG, hlk⟩ := id X
  delta f_X10_habit_b68 at hf
  refine lv_iconst (v := (1 : Int32)) hx hb dX10_habit_68 (by decide) ?_
  refine lv_goto (tgt := 73) hx hb dX10_habit_69 (by decide) ?_
  exact w_X10_habit_b73 X hrec21 hf hP hD hS (lv_sub hl [0, 1, 2] rfl)
set_option maxHeartbeats 4000000 in
set_option maxRecDepth 100000 in
theorem w_X10_habit_b48 {l : Launch} {D : va_G} {cI cJ : ClassId} {g : pa_GT} {a_m a_mt a_ml a_mr a_mx a_mf a_mg a_mw a_mh : Nat} {A : Nat → Prop} {p : Program} {e : Env} {s : State} {m : MethodId} {args : Array Value} {below : List Frame} {meth : Method} {c : Code} {x1 : Int32} {s0 : Int32} {v_m_thrown : Int32} {v_m_typed : Int32} {v_m_next : Int32} {v_m_token : Int32} {v_m_place : Int32} {v_m_value : Int32} {v_m_fault : Int32} {v_m_finds : Int32} {v_mx : Nat → Int32} {v_mf : Nat → Int32} {v_m_trace : Int64} {v_m_weeks : Int32} {v_m_rows : Int32} {v_m_cardPrice : Int32} {v_m_lotPrice : Int32} {v_m_sure : Int32} {v_m_up : Int64} {v_m_down : Int64} {o : Int32 × Int32 × Int32 × Int32 × Int32 × Int32 × Int32 × Int32 × Int32 × (Nat → Int32)} (X : pa_X cX10_habit 3 (some .int) RX10 wsX10_habit D cI cJ g A p s m args meth c) {rec21 : Int32 → Int32 → Int32 → Int32 → Int32 → Int32 → (Nat → Int32) → Option (Int32 × Int32 × Int32 × Int32 × Int32 × Int32 × Int32 × Int32 × Int32 × (Nat → Int32))} (hrec21 : ∀ (x1 : Int32) (v_m_next : Int32) (v_m_token : Int32) (v_m_place : Int32) (v_m_value : Int32) (v_m_fault : Int32) (v_mf : Nat → Int32), rec21 x1 v_m_next v_m_token v_m_place v_m_value v_m_fault v_mf = some o → ∀ (H : Heap) (locs : List Loc) , va_P D vwCl (wo_X10_habit cI cJ a_m a_mt a_ml a_mr a_mx a_mf a_mg a_mw a_mh v_m_thrown v_m_trace v_m_typed v_m_next v_m_token v_m_place v_m_value v_m_fault v_m_finds v_m_weeks v_m_rows v_m_cardPrice v_m_lotPrice v_m_sure v_m_up v_m_down v_mx v_mf) H → va_D A (wo_X10_habit cI cJ a_m a_mt a_ml a_mr a_mx a_mf a_mg a_mw a_mh v_m_thrown v_m_trace v_m_typed v_m_next v_m_token v_m_place v_m_value v_m_fault v_m_finds v_m_weeks v_m_rows v_m_cardPrice v_m_lotPrice v_m_sure v_m_up v_m_down v_mx v_mf) → va_S A s.heap H locs → ∀ (ls : Array Slot), lv_has ls 3 [(0, .ref a_m), (1, .int x1)] → W p l e (headSpec wsX10_habit rm_X10_habit).room s m args below meth c H locs 0 0 (MQ below (va_Qi (fun r (_ : Unit) => r = o.1) (pa_QB D A (wo_X10_habit cI cJ a_m a_mt a_ml a_mr a_mx a_mf a_mg a_mw a_mh o.2.1 v_m_trace o.2.2.1 o.2.2.2.1 o.2.2.2.2.1 o.2.2.2.2.2.1 o.2.2.2.2.2.2.1 o.2.2.2.2.2.2.2.1 o.2.2.2.2.2.2.2.2.1 v_m_weeks v_m_rows v_m_cardPrice v_m_lotPrice v_m_sure v_m_up v_m_down v_mx o.2.2.2.2.2.2.2.2.2)) A) args s 0 0 A) (F0 m 21 ls [])) (hf : f_X10_habit_b48 rec21 x1 s0 v_m_thrown v_m_typed v_m_next v_m_token v_m_place v_m_value v_m_fault v_m_finds v_mx v_mf = some o) {H : Heap} {locs : List Loc} (hP : va_P D vwCl (wo_X10_habit cI cJ a_m a_mt a_ml a_mr a_mx a_mf a_mg a_mw a_mh v_m_thrown v_m_trace v_m_typed v_m_next v_m_token v_m_place v_m_value v_m_fault v_m_finds v_m_weeks v_m_rows v_m_cardPrice v_m_lotPrice v_m_sure v_m_up v_m_down v_mx v_mf) H) (hD : va_D A (wo_X10_habit cI cJ a_m a_mt a_ml a_mr a_mx a_mf a_mg a_mw a_mh v_m_thrown v_m_trace v_m_typed v_m_next v_m_token v_m_place v_m_value v_m_fault v_m_finds v_m_weeks v_m_rows v_m_cardPrice v_m_lotPrice v_m_sure v_m_up v_m_down v_mx v_mf)) (hS : va_S A s.heap H locs) {ls : Array Slot} (hl : lv_has ls 3 [(0, .ref a_m), (1, .int x1)]) : W p l e (headSpec wsX10_habit rm_X10_habit).room s m args below meth c H locs 0 0 (MQ below (va_Qi (fun r (_ : Unit) => r = o.1) (pa_QB D A (wo_X10_habit cI cJ a_m a_mt a_ml a_mr a_mx a_mf a_mg a_mw a_mh o.2.1 v_m_trace o.2.2.1 o.2.2.2.1 o.2.2.2.2.1 o.2.2.2.2.2.1 o.2.2.2.2.2.2.1 o.2.2.2.2.2.2.2.1 o.2.2.2.2.2.2.2.2.1 v_m_weeks v_m_rows v_m_cardPrice v_m_lotPrice v_m_sure v_m_up v_m_down v_mx o.2.2.2.2.2.2.2.2.2)) A) args s 0 0 A) (F0 m 48 ls [.int s0]) := by
  obtain ⟨hx, hb, hr, hml, hown, hts, hK, hA, hG, hlk⟩ := id X
  delta f_X10_habit_b48 at hf
  refine lv_istore_n (lv' := [(2, .int s0), (0, .ref a_m), (1, .int x1)]) hx hb dX10_habit_48 rfl hl (by decide) rfl (fun ls hl => ?_)
  refine lv_aload_n hx hb dX10_habit_49 rfl (lv_at hl 1 rfl) ?_
  refine lv_iload_n hx hb dX10_habit_50 rfl (lv_at hl 2 rfl) ?_
  refine lv_bipush (v := (12 : Int32)) hx hb dX10_habit_51 (by decide) ?_
  refine lv_icmp_ge (tgt := 72) hx hb dX10_habit_53 (by decide) (fun c_50 => ?_) (fun c_50 => ?_)
  · have hf := (if_pos c_50).symm.trans hf
    exact w_X10_habit_b72 X hrec21 hf hP hD hS (lv_sub hl [1, 2, 0] rfl)
  · have hf := (if_neg c_50).symm.trans hf
    refine lv_iload_n hx hb dX10_habit_56 rfl (lv_at hl 0 rfl) ?_
    refine lv_if_ne (tgt := 68) hx hb dX10_habit_57 (by decide) (fun c_51 => ?_) (fun c_51 => ?_)
    · have hf := (if_neg c_51).symm.trans hf
      exact w_X10_habit_b68 X hrec21 hf hP hD hS (lv_sub hl [1, 2, 0] rfl)
    · have hf := (if_pos c_51).symm.trans hf
      refine lv_aload_n hx hb dX10_habit_60 rfl (lv_at hl 1 rfl) ?_
      refine va_get (D := D) (ci := 9) (v := .int v_m_token) (C := RX10) (T := TX10) (N := 24) hx hb hts il_X10_habit_X10 hown hK hP 0 rfl rfl 8 (by decide) (hts _ fk_X10_habit_4) (fun _ h9 => h9) rfl dX10_habit_61 ?_
      refine lv_iconst (v := (1 : Int32)) hx hb dX10_habit_64 (by decide) ?_
      refine lv_icmp_ne (tgt := 72) hx hb dX10_habit_65 (by decide) (fun c_52 => ?_) (fun c_52 => ?_)
      · have hf := (if_neg c_52).symm.trans hf
        exact w_X10_habit_b72 X hrec21 hf hP hD hS (lv_sub hl [1, 2, 0] rfl)
      · have hf := (if_pos c_52).symm.trans hf
        exact w_X10_habit_b68 X hrec21 hf hP hD hS (lv_sub hl [1, 2, 0] rfl)
set_option maxHeartbeats 4000000 in
set_option maxRecDepth 100000 in
theorem w_X10_habit_L21 {l : Launch} {D : va_G} {cI cJ : ClassId} {g : pa_GT} {a_m a_mt a_ml a_mr a_mx a_mf a_mg a_mw a_mh : Nat} {A : Nat → Prop} {p : Program} {e : Env} {s : State} {m : MethodId} {args : Array Value} {below : List Frame} {meth : Method} {c : Code} {v_m_thrown : Int32} {v_m_typed : Int32} {v_m_finds : Int32} {v_mx : Nat → Int32} {v_m_trace : Int64} {v_m_weeks : Int32} {v_m_rows : Int32} {v_m_cardPrice : Int32} {v_m_lotPrice : Int32} {v_m_sure : Int32} {v_m_up : Int64} {v_m_down : Int64} {o : Int32 × Int32 × Int32 × Int32 × Int32 × Int32 × Int32 × Int32 × Int32 × (Nat → Int32)} (X : pa_X cX10_habit 3 (some .int) RX10 wsX10_habit D cI cJ g A p s m args meth c)  : ∀ (n : Nat) (x1 : Int32) (v_m_next : Int32) (v_m_token : Int32) (v_m_place : Int32) (v_m_value : Int32) (v_m_fault : Int32) (v_mf : Nat → Int32), f_X10_habit_L21 v_m_thrown v_m_typed v_m_finds v_mx n x1 v_m_next v_m_token v_m_place v_m_value v_m_fault v_mf = some o → ∀ (H : Heap) (locs : List Loc) , va_P D vwCl (wo_X10_habit cI cJ a_m a_mt a_ml a_mr a_mx a_mf a_mg a_mw a_mh v_m_thrown v_m_trace v_m_typed v_m_next v_m_token v_m_place v_m_value v_m_fault v_m_finds v_m_weeks v_m_rows v_m_cardPrice v_m_lotPrice v_m_sure v_m_up v_m_down v_mx v_mf) H → va_D A (wo_X10_habit cI cJ a_m a_mt a_ml a_mr a_mx a_mf a_mg a_mw a_mh v_m_thrown v_m_trace v_m_typed v_m_next v_m_token v_m_place v_m_value v_m_fault v_m_finds v_m_weeks v_m_rows v_m_cardPrice v_m_lotPrice v_m_sure v_m_up v_m_down v_mx v_mf) → va_S A s.heap H locs → ∀ (ls : Array Slot), lv_has ls 3 [(0, .ref a_m), (1, .int x1)] → W p l e (headSpec wsX10_habit rm_X10_habit).room s m args below meth c H locs 0 0 (MQ below (va_Qi (fun r (_ : Unit) => r = o.1) (pa_QB D A (wo_X10_habit cI cJ a_m a_mt a_ml a_mr a_mx a_mf a_mg a_mw a_mh o.2.1 v_m_trace o.2.2.1 o.2.2.2.1 o.2.2.2.2.1 o.2.2.2.2.2.1 o.2.2.2.2.2.2.1 o.2.2.2.2.2.2.2.1 o.2.2.2.2.2.2.2.2.1 v_m_weeks v_m_rows v_m_cardPrice v_m_lotPrice v_m_sure v_m_up v_m_down v_mx o.2.2.2.2.2.2.2.2.2)) A) args s 0 0 A) (F0 m 21 ls []) := by
  obtain ⟨hx, hb, hr, hml, hown, hts, hK, hA, hG, hlk⟩ := id X
  intro n
  induction n with
  | zero =>
    intro x1 v_m_next v_m_token v_m_place v_m_value v_m_fault v_mf hf
    have hf : (none : Option (Int32 × Int32 × Int32 × Int32 × Int32 × Int32 × Int32 × Int32 × Int32 × (Nat → Int32))) = some o := hf
    cases hf
  | succ n hrec21 =>
    intro x1 v_m_next v_m_token v_m_place v_m_value v_m_fault v_mf hf H locs  hP hD hS ls hl
    have hf : f_X10_habit_L21_body v_m_thrown v_m_typed v_m_finds v_mx (f_X10_habit_L21 v_m_thrown v_m_typed v_m_finds v_mx n) x1 v_m_next v_m_token v_m_place v_m_value v_m_fault v_mf = some o := hf
    delta f_X10_habit_L21_body at hf
    generalize hgr : f_X10_habit_L21 v_m_thrown v_m_typed v_m_finds v_mx n = rec21 at hf hrec21
    refine lv_aload_n hx hb dX10_habit_21 rfl (lv_at hl 0 rfl) ?_
    obtain ⟨u_53, hg_54, hf⟩ := pa_bd hf
    refine pa_ki (wc := (wo_X10_isWell cI cJ a_m a_mt a_ml a_mr a_mx a_mf a_mg a_mw a_mh v_m_thrown v_m_trace v_m_typed v_m_next v_m_token v_m_place v_m_value v_m_fault v_m_finds v_m_weeks v_m_rows v_m_cardPrice v_m_lotPrice v_m_sure v_m_up v_m_down)) (wr := [(a_mx, .inl (cI, 300, .inl v_mx)), (a_mf, .inl (cI, 50, .inl v_mf))]) (w1 := (wo_X10_isWell cI cJ a_m a_mt a_ml a_mr a_mx a_mf a_mg a_mw a_mh v_m_thrown v_m_trace v_m_typed v_m_next v_m_token v_m_place v_m_value v_m_fault v_m_finds v_m_weeks v_m_rows v_m_cardPrice v_m_lotPrice v_m_sure v_m_up v_m_down)) (w2 := (wo_X10_habit cI cJ a_m a_mt a_ml a_mr a_mx a_mf a_mg a_mw a_mh v_m_thrown v_m_trace v_m_typed v_m_next v_m_token v_m_place v_m_value v_m_fault v_m_finds v_m_weeks v_m_rows v_m_cardPrice v_m_lotPrice v_m_sure v_m_up v_m_down v_mx v_mf)) X hP hD hS [0] [1, 2] [2, 0, 1] rfl (pa_rV (As := []) (rest := []) (T := TX10) X hP hD hS [0] rfl rfl (c_X10_isWell hg_54 H.size) (cwV 0 hts gX10_habit_X10_isWell rfl rfl rfl (by decide +kernel) ⟨Nat.le_of_ble_eq_true rfl, Nat.le_of_ble_eq_true rfl⟩) (q0 := 0) rfl rfl rfl hl.1 rfl (Nat.le_of_ble_eq_true rfl) dX10_habit_22 ⟨Nat.zero_le _, Nat.zero_le _⟩) rfl rfl (by decide) rfl rfl (fun H locs hP hD hS => ?_)
    refine lv_if_eq (tgt := 244) hx hb dX10_habit_25 (by decide) (fun c_55 => ?_) (fun c_55 => ?_)
    · have hf := (if_pos c_55).symm.trans hf
      exact w_X10_habit_b244 X  hf hP hD hS (lv_sub hl [0, 1] rfl)
    · have hf := (if_neg c_55).symm.trans hf
      refine lv_aload_n hx hb dX10_habit_28 rfl (lv_at hl 0 rfl) ?_
      refine va_get (D := D) (ci := 9) (v := .int v_m_token) (C := RX10) (T := TX10) (N := 24) hx hb hts il_X10_habit_X10 hown hK hP 0 rfl rfl 8 (by decide) (hts _ fk_X10_habit_4) (fun _ h9 => h9) rfl dX10_habit_29 ?_
      refine lv_if_eq (tgt := 244) hx hb dX10_habit_32 (by decide) (fun c_56 => ?_) (fun c_56 => ?_)
      · have hf := (if_pos c_56).symm.trans hf
        exact w_X10_habit_b244 X  hf hP hD hS (lv_sub hl [0, 1] rfl)
      · have hf := (if_neg c_56).symm.trans hf
        refine lv_aload_n hx hb dX10_habit_35 rfl (lv_at hl 0 rfl) ?_
        refine va_get (D := D) (ci := 9) (v := .int v_m_token) (C := RX10) (T := TX10) (N := 24) hx hb hts il_X10_habit_X10 hown hK hP 0 rfl rfl 8 (by decide) (hts _ fk_X10_habit_4) (fun _ h9 => h9) rfl dX10_habit_36 ?_
        refine lv_iconst (v := (2 : Int32)) hx hb dX10_habit_39 (by decide) ?_
        refine lv_icmp_ne (tgt := 47) hx hb dX10_habit_40 (by decide) (fun c_57 => ?_) (fun c_57 => ?_)
        · have hf := (if_neg c_57).symm.trans hf
          refine lv_iconst (v := (0 : Int32)) hx hb dX10_habit_47 (by decide) ?_
          exact w_X10_habit_b48 X hrec21 hf hP hD hS (lv_sub hl [0, 1] rfl)
        · have hf := (if_pos c_57).symm.trans hf
          refine lv_iconst (v := (1 : Int32)) hx hb dX10_habit_43 (by decide) ?_
          refine lv_goto (tgt := 48) hx hb dX10_habit_44 (by decide) ?_
          exact w_X10_habit_b48 X hrec21 hf hP hD hS (lv_sub hl [0, 1] rfl)
set_option maxHeartbeats 4000000 in
set_option maxRecDepth 100000 in
theorem w_X10_habit_b0 {l : Launch} {D : va_G} {cI cJ : ClassId} {g : pa_GT} {a_m a_mt a_ml a_mr a_mx a_mf a_mg a_mw a_mh : Nat} {A : Nat → Prop} {p : Program} {e : Env} {s : State} {m : MethodId} {args : Array Value} {below : List Frame} {meth : Method} {c : Code} {v_m_typed : Int32} {v_m_token : Int32} {v_m_place : Int32} {v_m_value : Int32} {v_m_finds : Int32} {v_mx : Nat → Int32} {v_mf : Nat → Int32} {v_m_thrown : Int32} {v_m_trace : Int64} {v_m_next : Int32} {v_m_fault : Int32} {v_m_weeks : Int32} {v_m_rows : Int32} {v_m_cardPrice : Int32} {v_m_lotPrice : Int32} {v_m_sure : Int32} {v_m_up : Int64} {v_m_down : Int64} {o : Int32 × Int32 × Int32 × Int32 × Int32 × Int32 × Int32 × Int32 × Int32 × (Nat → Int32)} (X : pa_X cX10_habit 3 (some .int) RX10 wsX10_habit D cI cJ g A p s m args meth c)  (hf : f_X10_habit v_m_typed v_m_token v_m_place v_m_value v_m_finds v_mx v_mf = some o) {H : Heap} {locs : List Loc} (hP : va_P D vwCl (wo_X10_habit cI cJ a_m a_mt a_ml a_mr a_mx a_mf a_mg a_mw a_mh v_m_thrown v_m_trace v_m_typed v_m_next v_m_token v_m_place v_m_value v_m_fault v_m_finds v_m_weeks v_m_rows v_m_cardPrice v_m_lotPrice v_m_sure v_m_up v_m_down v_mx v_mf) H) (hD : va_D A (wo_X10_habit cI cJ a_m a_mt a_ml a_mr a_mx a_mf a_mg a_mw a_mh v_m_thrown v_m_trace v_m_typed v_m_next v_m_token v_m_place v_m_value v_m_fault v_m_finds v_m_weeks v_m_rows v_m_cardPrice v_m_lotPrice v_m_sure v_m_up v_m_down v_mx v_mf)) (hS : va_S A s.heap H locs) {ls : Array Slot} (hl : lv_has ls 3 [(0, .ref a_m)]) : W p l e (headSpec wsX10_habit rm_X10_habit).room s m args below meth c H locs 0 0 (MQ below (va_Qi (fun r (_ : Unit) => r = o.1) (pa_QB D A (wo_X10_habit cI cJ a_m a_mt a_ml a_mr a_mx a_mf a_mg a_mw a_mh o.2.1 v_m_trace o.2.2.1 o.2.2.2.1 o.2.2.2.2.1 o.2.2.2.2.2.1 o.2.2.2.2.2.2.1 o.2.2.2.2.2.2.2.1 o.2.2.2.2.2.2.2.2.1 v_m_weeks v_m_rows v_m_cardPrice v_m_lotPrice v_m_sure v_m_up v_m_down v_mx o.2.2.2.2.2.2.2.2.2)) A) args s 0 0 A) (F0 m 0 ls []) := by
  obtain ⟨hx, hb, hr, hml, hown, hts, hK, hA, hG, hlk⟩ := id X
  delta f_X10_habit at hf
  refine lv_aload_n hx hb dX10_habit_0 rfl (lv_at hl 0 rfl) ?_
  refine lv_iconst (v := (0 : Int32)) hx hb dX10_habit_1 (by decide) ?_
  refine va_put (D := D) (ci := 9) (v := .int (0 : Int32)) (ty := .int) (C := RX10) (T := TX10) (N := 24) hx hb hts il_X10_habit_X10 tyX10 tyX10_ok nmX10 hown hK hP hD hS 0 rfl rfl 0 (by decide) (hts _ fk_X10_habit_6) (fun _ h9 => h9) rfl (tyX10_ok 0 (by decide)) rfl rfl (Nat.le_of_ble_eq_true rfl) dX10_habit_2 (fun H locs hP hD hS => ?_)
  have hP : va_P D vwCl (wo_X10_habit cI cJ a_m a_mt a_ml a_mr a_mx a_mf a_mg a_mw a_mh (0 : Int32) v_m_trace v_m_typed v_m_next v_m_token v_m_place v_m_value v_m_fault v_m_finds v_m_weeks v_m_rows v_m_cardPrice v_m_lotPrice v_m_sure v_m_up v_m_down v_mx v_mf) H := hP
  have hD : va_D A (wo_X10_habit cI cJ a_m a_mt a_ml a_mr a_mx a_mf a_mg a_mw a_mh (0 : Int32) v_m_trace v_m_typed v_m_next v_m_token v_m_place v_m_value v_m_fault v_m_finds v_m_weeks v_m_rows v_m_cardPrice v_m_lotPrice v_m_sure v_m_up v_m_down v_mx v_mf) := hD
  refine lv_aload_n hx hb dX10_habit_5 rfl (lv_at hl 0 rfl) ?_
  refine lv_iconst (v := (-1 : Int32)) hx hb dX10_habit_6 (by decide) ?_
  refine va_put (D := D) (ci := 9) (v := .int (-1 : Int32)) (ty := .int) (C := RX10) (T := TX10) (N := 24) hx hb hts il_X10_habit_X10 tyX10 tyX10_ok nmX10 hown hK hP hD hS 0 rfl rfl 11 (by decide) (hts _ fk_X10_habit_3) (fun _ h9 => h9) rfl (tyX10_ok 11 (by decide)) rfl rfl (Nat.le_of_ble_eq_true rfl) dX10_habit_7 (fun H locs hP hD hS => ?_)
  have hP : va_P D vwCl (wo_X10_habit cI cJ a_m a_mt a_ml a_mr a_mx a_mf a_mg a_mw a_mh (0 : Int32) v_m_trace v_m_typed v_m_next v_m_token v_m_place v_m_value (-1 : Int32) v_m_finds v_m_weeks v_m_rows v_m_cardPrice v_m_lotPrice v_m_sure v_m_up v_m_down v_mx v_mf) H := hP
  have hD : va_D A (wo_X10_habit cI cJ a_m a_mt a_ml a_mr a_mx a_mf a_mg a_mw a_mh (0 : Int32) v_m_trace v_m_typed v_m_next v_m_token v_m_place v_m_value (-1 : Int32) v_m_finds v_m_weeks v_m_rows v_m_cardPrice v_m_lotPrice v_m_sure v_m_up v_m_down v_mx v_mf) := hD
  refine lv_aload_n hx hb dX10_habit_10 rfl (lv_at hl 0 rfl) ?_
  refine lv_iconst (v := (0 : Int32)) hx hb dX10_habit_11 (by decide) ?_
  refine va_put (D := D) (ci := 9) (v := .int (0 : Int32)) (ty := .int) (C := RX10) (T := TX10) (N := 24) hx hb hts il_X10_habit_X10 tyX10 tyX10_ok nmX10 hown hK hP hD hS 0 rfl rfl 7 (by decide) (hts _ fk_X10_habit_7) (fun _ h9 => h9) rfl (tyX10_ok 7 (by decide)) rfl rfl (Nat.le_of_ble_eq_true rfl) dX10_habit_12 (fun H locs hP hD hS => ?_)
  have hP : va_P D vwCl (wo_X10_habit cI cJ a_m a_mt a_ml a_mr a_mx a_mf a_mg a_mw a_mh (0 : Int32) v_m_trace v_m_typed (0 : Int32) v_m_token v_m_place v_m_value (-1 : Int32) v_m_finds v_m_weeks v_m_rows v_m_cardPrice v_m_lotPrice v_m_sure v_m_up v_m_down v_mx v_mf) H := hP
  have hD : va_D A (wo_X10_habit cI cJ a_m a_mt a_ml a_mr a_mx a_mf a_mg a_mw a_mh (0 : Int32) v_m_trace v_m_typed (0 : Int32) v_m_token v_m_place v_m_value (-1 : Int32) v_m_finds v_m_weeks v_m_rows v_m_cardPrice v_m_lotPrice v_m_sure v_m_up v_m_down v_mx v_mf) := hD
  refine lv_iconst (v := (0 : Int32)) hx hb dX10_habit_15 (by decide) ?_
  refine lv_istore_n (lv' := [(1, .int (0 : Int32)), (0, .ref a_m)]) hx hb dX10_habit_16 rfl hl (by decide) rfl (fun ls hl => ?_)
  refine lv_aload_n hx hb dX10_habit_17 rfl (lv_at hl 1 rfl) ?_
  obtain ⟨u_58, hg_59, hf⟩ := pa_bd hf
  refine pa_kv (wc := (wo_X10_advances cI cJ a_m a_mt a_ml a_mr a_mx a_mf a_mg a_mw a_mh (0 : Int32) v_m_trace v_m_typed (0 : Int32) v_m_token v_m_place v_m_value (-1 : Int32) v_m_finds v_m_weeks v_m_rows v_m_cardPrice v_m_lotPrice v_m_sure v_m_up v_m_down v_mx)) (wr := [(a_mf, .inl (cI, 50, .inl v_mf))]) (w1 := (wo_X10_advances cI cJ a_m a_mt a_ml a_mr a_mx a_mf a_mg a_mw a_mh (0 : Int32) v_m_trace v_m_typed u_58.1 u_58.2.1 u_58.2.2.1 u_58.2.2.2 (-1 : Int32) v_m_finds v_m_weeks v_m_rows v_m_cardPrice v_m_lotPrice v_m_sure v_m_up v_m_down v_mx)) (w2 := (wo_X10_habit cI cJ a_m a_mt a_ml a_mr a_mx a_mf a_mg a_mw a_mh (0 : Int32) v_m_trace v_m_typed u_58.1 u_58.2.1 u_58.2.2.1 u_58.2.2.2 (-1 : Int32) v_m_finds v_m_weeks v_m_rows v_m_cardPrice v_m_lotPrice v_m_sure v_m_up v_m_down v_mx v_mf)) X hP hD hS [0, 1] [2] [1, 2, 0] rfl (pa_rV (As := []) (rest := []) (T := TX10) X hP hD hS [0, 1] rfl rfl (c_X10_advances hg_59 H.size) (cwV 0 hts gX10_habit_X10_advances rfl rfl rfl (by decide +kernel) ⟨Nat.le_of_ble_eq_true rfl, Nat.le_of_ble_eq_true rfl⟩) (q0 := 0) rfl rfl rfl hl.1 rfl (Nat.le_of_ble_eq_true rfl) dX10_habit_18 ⟨Nat.zero_le _, Nat.zero_le _⟩) rfl rfl (by decide) rfl rfl (fun H locs hP hD hS => ?_)
  exact w_X10_habit_L21 X  _ _ _ _ _ _ _ _ hf _ _  hP hD hS _ (lv_sub hl [1, 0] rfl)
set_option maxHeartbeats 4000000 in
set_option maxRecDepth 100000 in
theorem c_X10_habit {l : Launch} {D : va_G} {cI cJ : ClassId} {g : pa_GT} {a_m a_mt a_ml a_mr a_mx a_mf a_mg a_mw a_mh : Nat}  {v_m_thrown : Int32} {v_m_trace : Int64} {v_m_typed : Int32} {v_m_next : Int32} {v_m_token : Int32} {v_m_place : Int32} {v_m_value : Int32} {v_m_fault : Int32} {v_m_finds : Int32} {v_m_weeks : Int32} {v_m_rows : Int32} {v_m_cardPrice : Int32} {v_m_lotPrice : Int32} {v_m_sure : Int32} {v_m_up : Int64} {v_m_down : Int64} {v_mx : Nat → Int32} {v_mf : Nat → Int32} {o : Int32 × Int32 × Int32 × Int32 × Int32 × Int32 × Int32 × Int32 × Int32 × (Nat → Int32)} (hf : f_X10_habit v_m_typed v_m_token v_m_place v_m_value v_m_finds v_mx v_mf = some o) : pa_Mi l yX10_habit wsX10_habit rm_X10_habit D cI cJ g [.ref a_m] (wo_X10_habit cI cJ a_m a_mt a_ml a_mr a_mx a_mf a_mg a_mw a_mh v_m_thrown v_m_trace v_m_typed v_m_next v_m_token v_m_place v_m_value v_m_fault v_m_finds v_m_weeks v_m_rows v_m_cardPrice v_m_lotPrice v_m_sure v_m_up v_m_down v_mx v_mf) (wo_X10_habit cI cJ a_m a_mt a_ml a_mr a_mx a_mf a_mg a_mw a_mh o.2.1 v_m_trace o.2.2.1 o.2.2.2.1 o.2.2.2.2.1 o.2.2.2.2.2.1 o.2.2.2.2.2.2.1 o.2.2.2.2.2.2.2.1 o.2.2.2.2.2.2.2.2.1 v_m_weeks v_m_rows v_m_cardPrice v_m_lotPrice v_m_sure v_m_up v_m_down v_mx o.2.2.2.2.2.2.2.2.2) o.1 := by
  intro sz
  refine pa_met (cc := cX10_habit) (maxL := 3) (ret := (some .int)) (lv := [(0, .ref a_m)]) (by decide) rfl (Nat.le_of_ble_eq_true rfl) rfl ?_
  intro p e s m below meth c X hsz hP hD ls hl
  subst hsz
  exact w_X10_habit_b0 X hf hP hD va_S.rf hl
abbrev wo_X10_finding (cI cJ : ClassId) (a_m a_mt a_ml a_mr a_mx a_mf a_mg a_mw a_mh : Nat) (v_m_thrown : Int32) (v_m_trace : Int64) (v_m_typed : Int32) (v_m_next : Int32) (v_m_token : Int32) (v_m_place : Int32) (v_m_value : Int32) (v_m_fault : Int32) (v_m_finds : Int32) (v_m_weeks : Int32) (v_m_rows : Int32) (v_m_cardPrice : Int32) (v_m_lotPrice : Int32) (v_m_sure : Int32) (v_m_up : Int64) (v_m_down : Int64) (v_ml : Nat → Int32) (v_mf : Nat → Int32) (v_mg : Nat → Int32) : va_W := [(a_m, .inr (9, [.int v_m_thrown, .long v_m_trace, .ref a_mt, .ref a_ml, .ref a_mr, .ref a_mx, .int v_m_typed, .int v_m_next, .int v_m_token, .int v_m_place, .int v_m_value, .int v_m_fault, .int v_m_finds, .ref a_mf, .ref a_mg, .int v_m_weeks, .ref a_mw, .int v_m_rows, .ref a_mh, .int v_m_cardPrice, .int v_m_lotPrice, .int v_m_sure, .long v_m_up, .long v_m_down])), (a_ml, .inl (cI, 32, .inl v_ml)), (a_mf, .inl (cI, 50, .inl v_mf)), (a_mg, .inl (cI, 8, .inl v_mg))]
abbrev rm_X10_finding : Room := { frames := 0, cells := 0, slots := 0, locals := 0 }
theorem il_X10_finding_X10 : ∀ w ∈ wsX100, w ∈ wsX10_finding := by decide +kernel
theorem fk_X10_finding_0 : Cond.fieldLink RX10 26 "PostedAsksModel" "got" "[I" ∈ wsX10_finding := by decide +kernel
theorem fk_X10_finding_1 : Cond.fieldLink RX10 13 "PostedAsksModel" "lands" "[I" ∈ wsX10_finding := by decide +kernel
theorem fk_X10_finding_2 : Cond.fieldLink RX10 125 "PostedAsksModel" "finds" "I" ∈ wsX10_finding := by decide +kernel
theorem fk_X10_finding_3 : Cond.fieldLink RX10 23 "PostedAsksModel" "find" "[I" ∈ wsX10_finding := by decide +kernel
def f_X10_finding_b260 (rec33 : Int32 → Int32 → Int32 → (Nat → Int32) → Option ((Nat → Int32))) (rec115 : Int32 → Int32 → Int32 → Int32 → (Nat → Int32) → Option ((Nat → Int32))) (x1 : Int32) (x4 : Int32) (x6 : Int32) (x7 : Int32) (x8 : Int32) (x9 : Int32) (x10 : Int32) (x13 : Int32) (s0 : Int32) (s1 : Int32) (v_m_finds : Int32) (v_ml : Nat → Int32) (v_mf : Nat → Int32) (v_mg : Nat → Int32) : Option ((Nat → Int32)) :=
  if x10 = 0 then
    rec115 (x4 - x13) (s0 - s1) x8 (x9 + (1 : Int32)) v_mg
  else
    rec115 (x4 - (0 : Int32)) (s0 - s1) x8 (x9 + (1 : Int32)) v_mg
def f_X10_finding_b226 (rec33 : Int32 → Int32 → Int32 → (Nat → Int32) → Option ((Nat → Int32))) (rec115 : Int32 → Int32 → Int32 → Int32 → (Nat → Int32) → Option ((Nat → Int32))) (x1 : Int32) (x4 : Int32) (x5 : Int32) (x6 : Int32) (x7 : Int32) (x8 : Int32) (x9 : Int32) (x10 : Int32) (s0 : Int32) (v_m_finds : Int32) (v_ml : Nat → Int32) (v_mf : Nat → Int32) (v_mg : Nat → Int32) : Option ((Nat → Int32)) :=
  if pa_ib x9 8 = true then
    if x10 = 0 then
      f_X10_finding_b260 rec33 rec115 x1 x4 x6 x7 (x8 - s0) x9 x10 s0 x5 (0 : Int32) v_m_finds v_ml v_mf (upd v_mg (Int32.toNatClampNeg x9) ((v_mg (Int32.toNatClampNeg x9)) + s0))
    else
      f_X10_finding_b260 rec33 rec115 x1 x4 x6 x7 (x8 - s0) x9 x10 s0 x5 s0 v_m_finds v_ml v_mf (upd v_mg (Int32.toNatClampNeg x9) ((v_mg (Int32.toNatClampNeg x9)) + s0))
  else none
def f_X10_finding_b207 (rec33 : Int32 → Int32 → Int32 → (Nat → Int32) → Option ((Nat → Int32))) (rec115 : Int32 → Int32 → Int32 → Int32 → (Nat → Int32) → Option ((Nat → Int32))) (x1 : Int32) (x4 : Int32) (x5 : Int32) (x6 : Int32) (x7 : Int32) (x8 : Int32) (x9 : Int32) (x10 : Int32) (s0 : Int32) (v_m_finds : Int32) (v_ml : Nat → Int32) (v_mf : Nat → Int32) (v_mg : Nat → Int32) : Option ((Nat → Int32)) :=
  if ((x7 >>> (x9 &&& 31)) &&& (1 : Int32)) = (1 : Int32) then
    f_X10_finding_b226 rec33 rec115 x1 x4 x5 x6 x7 x8 x9 x10 s0 v_m_finds v_ml v_mf v_mg
  else
    f_X10_finding_b226 rec33 rec115 x1 x4 x5 x6 x7 x8 x9 x10 (0 : Int32) v_m_finds v_ml v_mf v_mg
def f_X10_finding_b191 (rec33 : Int32 → Int32 → Int32 → (Nat → Int32) → Option ((Nat → Int32))) (rec115 : Int32 → Int32 → Int32 → Int32 → (Nat → Int32) → Option ((Nat → Int32))) (x1 : Int32) (x4 : Int32) (x5 : Int32) (x6 : Int32) (x7 : Int32) (x8 : Int32) (x9 : Int32) (x10 : Int32) (s0 : Int32) (v_m_finds : Int32) (v_ml : Nat → Int32) (v_mf : Nat → Int32) (v_mg : Nat → Int32) : Option ((Nat → Int32)) :=
  if x8 ≤ s0 then
    f_X10_finding_b207 rec33 rec115 x1 x4 x5 x6 x7 x8 x9 x10 x8 v_m_finds v_ml v_mf v_mg
  else
    f_X10_finding_b207 rec33 rec115 x1 x4 x5 x6 x7 x8 x9 x10 s0 v_m_finds v_ml v_mf v_mg
def f_X10_finding_b153 (rec33 : Int32 → Int32 → Int32 → (Nat → Int32) → Option ((Nat → Int32))) (rec115 : Int32 → Int32 → Int32 → Int32 → (Nat → Int32) → Option ((Nat → Int32))) (x1 : Int32) (x4 : Int32) (x5 : Int32) (x6 : Int32) (x7 : Int32) (x8 : Int32) (x9 : Int32) (x10 : Int32) (s0 : Int32) (v_m_finds : Int32) (v_ml : Nat → Int32) (v_mf : Nat → Int32) (v_mg : Nat → Int32) : Option ((Nat → Int32)) :=
  if pa_ib (((8 : Int32) * x1) + x9) 32 = true then
    if pa_ib x9 8 = true then
      if s0 ≤ ((v_ml (Int32.toNatClampNeg (((8 : Int32) * x1) + x9))) - (v_mg (Int32.toNatClampNeg x9))) then
        f_X10_finding_b191 rec33 rec115 x1 x4 x5 x6 x7 x8 x9 x10 s0 v_m_finds v_ml v_mf v_mg
      else
        f_X10_finding_b191 rec33 rec115 x1 x4 x5 x6 x7 x8 x9 x10 ((v_ml (Int32.toNatClampNeg (((8 : Int32) * x1) + x9))) - (v_mg (Int32.toNatClampNeg x9))) v_m_finds v_ml v_mf v_mg
    else none
  else none
def f_X10_finding_b139 (rec33 : Int32 → Int32 → Int32 → (Nat → Int32) → Option ((Nat → Int32))) (rec115 : Int32 → Int32 → Int32 → Int32 → (Nat → Int32) → Option ((Nat → Int32))) (x1 : Int32) (x4 : Int32) (x5 : Int32) (x6 : Int32) (x7 : Int32) (x8 : Int32) (x9 : Int32) (s0 : Int32) (v_m_finds : Int32) (v_ml : Nat → Int32) (v_mf : Nat → Int32) (v_mg : Nat → Int32) : Option ((Nat → Int32)) :=
  if s0 = 0 then
    f_X10_finding_b153 rec33 rec115 x1 x4 x5 x6 x7 x8 x9 s0 x4 v_m_finds v_ml v_mf v_mg
  else
    f_X10_finding_b153 rec33 rec115 x1 x4 x5 x6 x7 x8 x9 s0 x5 v_m_finds v_ml v_mf v_mg
def f_X10_finding_L115_body (rec33 : Int32 → Int32 → Int32 → (Nat → Int32) → Option ((Nat → Int32))) (x1 : Int32) (x6 : Int32) (x7 : Int32) (v_m_finds : Int32) (v_ml : Nat → Int32) (v_mf : Nat → Int32) (rec115 : Int32 → Int32 → Int32 → Int32 → (Nat → Int32) → Option ((Nat → Int32))) (x4 : Int32) (x5 : Int32) (x8 : Int32) (x9 : Int32) (v_mg : Nat → Int32) : Option ((Nat → Int32)) :=
  if (8 : Int32) ≤ x9 then
    rec33 x4 x5 (x6 + (1 : Int32)) v_mg
  else
    if (((204 : Int32) >>> (x9 &&& 31)) &&& (1 : Int32)) = (1 : Int32) then
      f_X10_finding_b139 rec33 rec115 x1 x4 x5 x6 x7 x8 x9 (1 : Int32) v_m_finds v_ml v_mf v_mg
    else
      f_X10_finding_b139 rec33 rec115 x1 x4 x5 x6 x7 x8 x9 (0 : Int32) v_m_finds v_ml v_mf v_mg
def f_X10_finding_L115 (rec33 : Int32 → Int32 → Int32 → (Nat → Int32) → Option ((Nat → Int32))) (x1 : Int32) (x6 : Int32) (x7 : Int32) (v_m_finds : Int32) (v_ml : Nat → Int32) (v_mf : Nat → Int32) : Nat → Int32 → Int32 → Int32 → Int32 → (Nat → Int32) → Option ((Nat → Int32))
  | 0 => fun _ _ _ _ _ => none
  | n + 1 => f_X10_finding_L115_body rec33 x1 x6 x7 v_m_finds v_ml v_mf (f_X10_finding_L115 rec33 x1 x6 x7 v_m_finds v_ml v_mf n)
def f_X10_finding_b66 (rec33 : Int32 → Int32 → Int32 → (Nat → Int32) → Option ((Nat → Int32))) (x1 : Int32) (x4 : Int32) (x5 : Int32) (x6 : Int32) (s0 : Int32) (v_m_finds : Int32) (v_ml : Nat → Int32) (v_mf : Nat → Int32) (v_mg : Nat → Int32) : Option ((Nat → Int32)) :=
  if v_m_finds ≤ x6 then
    f_X10_finding_L115 rec33 x1 x6 s0 v_m_finds v_ml v_mf pa_fu x4 x5 (1000 : Int32) (0 : Int32) v_mg
  else
    if pa_ib (((2 : Int32) * x6) + (1 : Int32)) 50 = true then
      if (v_mf (Int32.toNatClampNeg (((2 : Int32) * x6) + (1 : Int32)))) = (-9 : Int32) then
        f_X10_finding_L115 rec33 x1 x6 s0 v_m_finds v_ml v_mf pa_fu x4 x5 (1000 : Int32) (0 : Int32) v_mg
      else
        f_X10_finding_L115 rec33 x1 x6 s0 v_m_finds v_ml v_mf pa_fu x4 x5 (v_mf (Int32.toNatClampNeg (((2 : Int32) * x6) + (1 : Int32)))) (0 : Int32) v_mg
    else none
def f_X10_finding_L33_body (x1 : Int32) (v_m_finds : Int32) (v_ml : Nat → Int32) (v_mf : Nat → Int32) (rec33 : Int32 → Int32 → Int32 → (Nat → Int32) → Option ((Nat → Int32))) (x4 : Int32) (x5 : Int32) (x6 : Int32) (v_mg : Nat → Int32) : Option ((Nat → Int32)) :=
  if v_m_finds < x6 then
    some (v_mg)
  else
    if v_m_finds ≤ x6 then
      f_X10_finding_b66 rec33 x1 x4 x5 x6 (255 : Int32) v_m_finds v_ml v_mf v_mg
    else
      if pa_ib ((2 : Int32) * x6) 50 = true then
        f_X10_finding_b66 rec33 x1 x4 x5 x6 (v_mf (Int32.toNatClampNeg ((2 : Int32) * x6))) v_m_finds v_ml v_mf v_mg
      else none
def f_X10_finding_L33 (x1 : Int32) (v_m_finds : Int32) (v_ml : Nat → Int32) (v_mf : Nat → Int32) : Nat → Int32 → Int32 → Int32 → (Nat → Int32) → Option ((Nat → Int32))
  | 0 => fun _ _ _ _ => none
  | n + 1 => f_X10_finding_L33_body x1 v_m_finds v_ml v_mf (f_X10_finding_L33 x1 v_m_finds v_ml v_mf n)
def f_X10_finding_L9_body (x1 : Int32) (x4 : Int32) (x5 : Int32) (v_m_finds : Int32) (v_ml : Nat → Int32) (v_mf : Nat → Int32) (rec9 : Int32 → (Nat → Int32) → Option ((Nat → Int32))) (x6 : Int32) (v_mg : Nat → Int32) : Option ((Nat → Int32)) :=
  if (8 : Int32) ≤ x6 then
    f_X10_finding_L33 x1 v_m_finds v_ml v_mf pa_fu x4 x5 (0 : Int32) v_mg
  else
    if pa_ib x6 8 = true then
      rec9 (x6 + (1 : Int32)) (upd v_mg (Int32.toNatClampNeg x6) (0 : Int32))
    else none
def f_X10_finding_L9 (x1 : Int32) (x4 : Int32) (x5 : Int32) (v_m_finds : Int32) (v_ml : Nat → Int32) (v_mf : Nat → Int32) : Nat → Int32 → (Nat → Int32) → Option ((Nat → Int32))
  | 0 => fun _ _ => none
  | n + 1 => f_X10_finding_L9_body x1 x4 x5 v_m_finds v_ml v_mf (f_X10_finding_L9 x1 x4 x5 v_m_finds v_ml v_mf n)
def f_X10_finding (x1 : Int32) (x2 : Int32) (x3 : Int32) (v_m_finds : Int32) (v_ml : Nat → Int32) (v_mf : Nat → Int32) (v_mg : Nat → Int32) : Option ((Nat → Int32)) :=
  f_X10_finding_L9 x1 x2 x3 v_m_finds v_ml v_mf pa_fu (0 : Int32) v_mg
set_option maxHeartbeats 4000000 in
set_option maxRecDepth 100000 in
theorem w_X10_finding_b260 {l : Launch} {D : va_G} {cI cJ : ClassId} {g : pa_GT} {a_m a_mt a_ml a_mr a_mx a_mf a_mg a_mw a_mh : Nat} {A : Nat → Prop} {p : Program} {e : Env} {s : State} {m : MethodId} {args : Array Value} {below : List Frame} {meth : Method} {c : Code} {x1 : Int32} {x4 : Int32} {x6 : Int32} {x7 : Int32} {x8 : Int32} {x9 : Int32} {x10 : Int32} {x13 : Int32} {s0 : Int32} {s1 : Int32} {v_m_finds : Int32} {v_ml : Nat → Int32} {v_mf : Nat → Int32} {v_mg : Nat → Int32} {v_m_thrown : Int32} {v_m_trace : Int64} {v_m_typed : Int32} {v_m_next : Int32} {v_m_token : Int32} {v_m_place : Int32} {v_m_value : Int32} {v_m_fault : Int32} {v_m_weeks : Int32} {v_m_rows : Int32} {v_m_cardPrice : Int32} {v_m_lotPrice : Int32} {v_m_sure : Int32} {v_m_up : Int64} {v_m_down : Int64} {o : (Nat → Int32)} (X : pa_X cX10_finding 14 none RX10 wsX10_finding D cI cJ g A p s m args meth c) {rec33 : Int32 → Int32 → Int32 → (Nat → Int32) → Option ((Nat → Int32))} (hrec33 : ∀ (x4 : Int32) (x5 : Int32) (x6 : Int32) (v_mg : Nat → Int32), rec33 x4 x5 x6 v_mg = some o → ∀ (H : Heap) (locs : List Loc) , va_P D vwCl (wo_X10_finding cI cJ a_m a_mt a_ml a_mr a_mx a_mf a_mg a_mw a_mh v_m_thrown v_m_trace v_m_typed v_m_next v_m_token v_m_place v_m_value v_m_fault v_m_finds v_m_weeks v_m_rows v_m_cardPrice v_m_lotPrice v_m_sure v_m_up v_m_down v_ml v_mf v_mg) H → va_D A (wo_X10_finding cI cJ a_m a_mt a_ml a_mr a_mx a_mf a_mg a_mw a_mh v_m_thrown v_m_trace v_m_typed v_m_next v_m_token v_m_place v_m_value v_m_fault v_m_finds v_m_weeks v_m_rows v_m_cardPrice v_m_lotPrice v_m_sure v_m_up v_m_down v_ml v_mf v_mg) → va_S A s.heap H locs → ∀ (ls : Array Slot), lv_has ls 14 [(0, .ref a_m), (1, .int x1), (4, .int x4), (5, .int x5), (6, .int x6)] → W p l e (headSpec wsX10_finding rm_X10_finding).room s m args below meth c H locs 0 0 (MQ below (va_Qv (fun (_ : Unit) => True) (pa_QB D A (wo_X10_finding cI cJ a_m a_mt a_ml a_mr a_mx a_mf a_mg a_mw a_mh v_m_thrown v_m_trace v_m_typed v_m_next v_m_token v_m_place v_m_value v_m_fault v_m_finds v_m_weeks v_m_rows v_m_cardPrice v_m_lotPrice v_m_sure v_m_up v_m_down v_ml v_mf o)) A) args s 0 0 A) (F0 m 33 ls [])) {rec115 : Int32 → Int32 → Int32 → Int32 → (Nat → Int32) → Option ((Nat → Int32))} (hrec115 : ∀ (x4 : Int32) (x5 : Int32) (x8 : Int32) (x9 : Int32) (v_mg : Nat → Int32), rec115 x4 x5 x8 x9 v_mg = some o → ∀ (H : Heap) (locs : List Loc) , va_P D vwCl (wo_X10_finding cI cJ a_m a_mt a_ml a_mr a_mx a_mf a_mg a_mw a_mh v_m_thrown v_m_trace v_m_typed v_m_next v_m_token v_m_place v_m_value v_m_fault v_m_finds v_m_weeks v_m_rows v_m_cardPrice v_m_lotPrice v_m_sure v_m_up v_m_down v_ml v_mf v_mg) H → va_D A (wo_X10_finding cI cJ a_m a_mt a_ml a_mr a_mx a_mf a_mg a_mw a_mh v_m_thrown v_m_trace v_m_typed v_m_next v_m_token v_m_place v_m_value v_m_fault v_m_finds v_m_weeks v_m_rows v_m_cardPrice v_m_lotPrice v_m_sure v_m_up v_m_down v_ml v_mf v_mg) → va_S A s.heap H locs → ∀ (ls : Array Slot), lv_has ls 14 [(0, .ref a_m), (1, .int x1), (4, .int x4), (5, .int x5), (6, .int x6), (7, .int x7), (8, .int x8), (9, .int x9)] → W p l e (headSpec wsX10_finding rm_X10_finding).room s m args below meth c H locs 0 0 (MQ below (va_Qv (fun (_ : Unit) => True) (pa_QB D A (wo_X10_finding cI cJ a_m a_mt a_ml a_mr a_mx a_mf a_mg a_mw a_mh v_m_thrown v_m_trace v_m_typed v_m_next v_m_token v_m_place v_m_value v_m_fault v_m_finds v_m_weeks v_m_rows v_m_cardPrice v_m_lotPrice v_m_sure v_m_up v_m_down v_ml v_mf o)) A) args s 0 0 A) (F0 m 115 ls [])) (hf : f_X10_finding_b260 rec33 rec115 x1 x4 x6 x7 x8 x9 x10 x13 s0 s1 v_m_finds v_ml v_mf v_mg = some o) {H : Heap} {locs : List Loc} (hP : va_P D vwCl (wo_X10_finding cI cJ a_m a_mt a_ml a_mr a_mx a_mf a_mg a_mw a_mh v_m_thrown v_m_trace v_m_typed v_m_next v_m_token v_m_place v_m_value v_m_fault v_m_finds v_m_weeks v_m_rows v_m_cardPrice v_m_lotPrice v_m_sure v_m_up v_m_down v_ml v_mf v_mg) H) (hD : va_D A (wo_X10_finding cI cJ a_m a_mt a_ml a_mr a_mx a_mf a_mg a_mw a_mh v_m_thrown v_m_trace v_m_typed v_m_next v_m_token v_m_place v_m_value v_m_fault v_m_finds v_m_weeks v_m_rows v_m_cardPrice v_m_lotPrice v_m_sure v_m_up v_m_down v_ml v_mf v_mg)) (hS : va_S A s.heap H locs) {ls : Array Slot} (hl : lv_has ls 14 [(0, .ref a_m), (1, .int x1), (4, .int x4), (6, .int x6), (7, .int x7), (8, .int x8), (9, .int x9), (10, .int x10), (13, .int x13)]) : W p l e (headSpec wsX10_finding rm_X10_finding).room s m args below meth c H locs 0 0 (MQ below (va_Qv (fun (_ : Unit) => True) (pa_QB D A (wo_X10_finding cI cJ a_m a_mt a_ml a_mr a_mx a_mf a_mg a_mw a_mh v_m_thrown v_m_trace v_m_typed v_m_next v_m_token v_m_place v_m_value v_m_fault v_m_finds v_m_weeks v_m_rows v_m_cardPrice v_m_lotPrice v_m_sure v_m_up v_m_down v_ml v_mf o)) A) args s 0 0 A) (F0 m 260 ls [.int s1, .int s0]) := by
  obtain ⟨hx, hb, hr, hml, hown, hts, hK, hA, hG, hlk⟩ := id X
  delta f_X10_finding_b260 at hf
  refine lv_isub hx hb dX10_finding_260 ?_
  refine lv_istore (lv' := [(5, .int (s0 - s1)), (0, .ref a_m), (1, .int x1), (4, .int x4), (6, .int x6), (7, .int x7), (8, .int x8), (9, .int x9), (10, .int x10), (13, .int x13)]) hx hb dX10_finding_261 hl (by decide) rfl (fun ls hl => ?_)
  refine lv_iload hx hb dX10_finding_263 (lv_at hl 3 rfl) ?_
  refine lv_iload hx hb dX10_finding_265 (lv_at hl 8 rfl) ?_
  refine lv_if_eq (tgt := 274) hx hb dX10_finding_267 (by decide) (fun c_1 => ?_) (fun c_1 => ?_)
  · have hf := (if_pos c_1).symm.trans hf
    refine lv_iload hx hb dX10_finding_274 (lv_at hl 9 rfl) ?_
    refine lv_isub hx hb dX10_finding_276 ?_
    refine lv_istore (lv' := [(4, .int (x4 - x13)), (5, .int (s0 - s1)), (0, .ref a_m), (1, .int x1), (6, .int x6), (7, .int x7), (8, .int x8), (9, .int x9), (10, .int x10), (13, .int x13)]) hx hb dX10_finding_277 hl (by decide) rfl (fun ls hl => ?_)
    refine lv_iinc (v := (x9 + (1 : Int32))) (lv' := [(9, .int (x9 + (1 : Int32))), (4, .int (x4 - x13)), (5, .int (s0 - s1)), (0, .ref a_m), (1, .int x1), (6, .int x6), (7, .int x7), (8, .int x8), (10, .int x10), (13, .int x13)]) hx hb dX10_finding_279 hl (k := 7) rfl rfl (by decide) rfl (fun ls hl => ?_)
    refine lv_goto (tgt := 115) hx hb dX10_finding_282 (by decide) ?_
    exact hrec115 _ _ _ _ _ hf _ _  hP hD hS _ (lv_sub hl [3, 4, 1, 2, 5, 6, 7, 0] rfl)
  · have hf := (if_neg c_1).symm.trans hf
    refine lv_iconst (v := (0 : Int32)) hx hb dX10_finding_270 (by decide) ?_
    refine lv_goto (tgt := 276) hx hb dX10_finding_271 (by decide) ?_
    refine lv_isub hx hb dX10_finding_276 ?_
    refine lv_istore (lv' := [(4, .int (x4 - (0 : Int32))), (5, .int (s0 - s1)), (0, .ref a_m), (1, .int x1), (6, .int x6), (7, .int x7), (8, .int x8), (9, .int x9), (10, .int x10), (13, .int x13)]) hx hb dX10_finding_277 hl (by decide) rfl (fun ls hl => ?_)
    refine lv_iinc (v := (x9 + (1 : Int32))) (lv' := [(9, .int (x9 + (1 : Int32))), (4, .int (x4 - (0 : Int32))), (5, .int (s0 - s1)), (0, .ref a_m), (1, .int x1), (6, .int x6), (7, .int x7), (8, .int x8), (10, .int x10), (13, .int x13)]) hx hb dX10_finding_279 hl (k := 7) rfl rfl (by decide) rfl (fun ls hl => ?_)
    refine lv_goto (tgt := 115) hx hb dX10_finding_282 (by decide) ?_
    exact hrec115 _ _ _ _ _ hf _ _  hP hD hS _ (lv_sub hl [3, 4, 1, 2, 5, 6, 7, 0] rfl)
set_option maxHeartbeats 4000000 in
set_option maxRecDepth 100000 in
theorem w_X10_finding_b226 {l : Launch} {D : va_G} {cI cJ : ClassId} {g : pa_GT} {a_m a_mt a_ml a_mr a_mx a_mf a_mg a_mw a_mh : Nat} {A : Nat → Prop} {p : Program} {e : Env} {s : State} {m : MethodId} {args : Array Value} {below : List Frame} {meth : Method} {c : Code} {x1 : Int32} {x4 : Int32} {x5 : Int32} {x6 : Int32} {x7 : Int32} {x8 : Int32} {x9 : Int32} {x10 : Int32} {s0 : Int32} {v_m_finds : Int32} {v_ml : Nat → Int32} {v_mf : Nat → Int32} {v_mg : Nat → Int32} {v_m_thrown : Int32} {v_m_trace : Int64} {v_m_typed : Int32} {v_m_next : Int32} {v_m_token : Int32} {v_m_place : Int32} {v_m_value : Int32} {v_m_fault : Int32} {v_m_weeks : Int32} {v_m_rows : Int32} {v_m_cardPrice : Int32} {v_m_lotPrice : Int32} {v_m_sure : Int32} {v_m_up : Int64} {v_m_down : Int64} {o : (Nat → Int32)} (X : pa_X cX10_finding 14 none RX10 wsX10_finding D cI cJ g A p s m args meth c) {rec33 : Int32 → Int32 → Int32 → (Nat → Int32) → Option ((Nat → Int32))} (hrec33 : ∀ (x4 : Int32) (x5 : Int32) (x6 : Int32) (v_mg : Nat → Int32), rec33 x4 x5 x6 v_mg = some o → ∀ (H : Heap) (locs : List Loc) , va_P D vwCl (wo_X10_finding cI cJ a_m a_mt a_ml a_mr a_mx a_mf a_mg a_mw a_mh v_m_thrown v_m_trace v_m_typed v_m_next v_m_token v_m_place v_m_value v_m_fault v_m_finds v_m_weeks v_m_rows v_m_cardPrice v_m_lotPrice v_m_sure v_m_up v_m_down v_ml v_mf v_mg) H → va_D A (wo_X10_finding cI cJ a_m a_mt a_ml a_mr a_mx a_mf a_mg a_mw a_mh v_m_thrown v_m_trace v_m_typed v_m_next v_m_token v_m_place v_m_value v_m_fault v_m_finds v_m_weeks v_m_rows v_m_cardPrice v_m_lotPrice v_m_sure v_m_up v_m_down v_ml v_mf v_mg) → va_S A s.heap H locs → ∀ (ls : Array Slot), lv_has ls 14 [(0, .ref a_m), (1, .int x1), (4, .int x4), (5, .int x5), (6, .int x6)] → W p l e (headSpec wsX10_finding rm_X10_finding).room s m args below meth c H locs 0 0 (MQ below (va_Qv (fun (_ : Unit) => True) (pa_QB D A (wo_X10_finding cI cJ a_m a_mt a_ml a_mr a_mx a_mf a_mg a_mw a_mh v_m_thrown v_m_trace v_m_typed v_m_next v_m_token v_m_place v_m_value v_m_fault v_m_finds v_m_weeks v_m_rows v_m_cardPrice v_m_lotPrice v_m_sure v_m_up v_m_down v_ml v_mf o)) A) args s 0 0 A) (F0 m 33 ls [])) {rec115 : Int32 → Int32 → Int32 → Int32 → (Nat → Int32) → Option ((Nat → Int32))} (hrec115 : ∀ (x4 : Int32) (x5 : Int32) (x8 : Int32) (x9 : Int32) (v_mg : Nat → Int32), rec115 x4 x5 x8 x9 v_mg = some o → ∀ (H : Heap) (locs : List Loc) , va_P D vwCl (wo_X10_finding cI cJ a_m a_mt a_ml a_mr a_mx a_mf a_mg a_mw a_mh v_m_thrown v_m_trace v_m_typed v_m_next v_m_token v_m_place v_m_value v_m_fault v_m_finds v_m_weeks v_m_rows v_m_cardPrice v_m_lotPrice v_m_sure v_m_up v_m_down v_ml v_mf v_mg) H → va_D A (wo_X10_finding cI cJ a_m a_mt a_ml a_mr a_mx a_mf a_mg a_mw a_mh v_m_thrown v_m_trace v_m_typed v_m_next v_m_token v_m_place v_m_value v_m_fault v_m_finds v_m_weeks v_m_rows v_m_cardPrice v_m_lotPrice v_m_sure v_m_up v_m_down v_ml v_mf v_mg) → va_S A s.heap H locs → ∀ (ls : Array Slot), lv_has ls 14 [(0, .ref a_m), (1, .int x1), (4, .int x4), (5, .int x5), (6, .int x6), (7, .int x7), (8, .int x8), (9, .int x9)] → W p l e (headSpec wsX10_finding rm_X10_finding).room s m args below meth c H locs 0 0 (MQ below (va_Qv (fun (_ : Unit) => True) (pa_QB D A (wo_X10_finding cI cJ a_m a_mt a_ml a_mr a_mx a_mf a_mg a_mw a_mh v_m_thrown v_m_trace v_m_typed v_m_next v_m_token v_m_place v_m_value v_m_fault v_m_finds v_m_weeks v_m_rows v_m_cardPrice v_m_lotPrice v_m_sure v_m_up v_m_down v_ml v_mf o)) A) args s 0 0 A) (F0 m 115 ls [])) (hf : f_X10_finding_b226 rec33 rec115 x1 x4 x5 x6 x7 x8 x9 x10 s0 v_m_finds v_ml v_mf v_mg = some o) {H : Heap} {locs : List Loc} (hP : va_P D vwCl (wo_X10_finding cI cJ a_m a_mt a_ml a_mr a_mx a_mf a_mg a_mw a_mh v_m_thrown v_m_trace v_m_typed v_m_next v_m_token v_m_place v_m_value v_m_fault v_m_finds v_m_weeks v_m_rows v_m_cardPrice v_m_lotPrice v_m_sure v_m_up v_m_down v_ml v_mf v_mg) H) (hD : va_D A (wo_X10_finding cI cJ a_m a_mt a_ml a_mr a_mx a_mf a_mg a_mw a_mh v_m_thrown v_m_trace v_m_typed v_m_next v_m_token v_m_place v_m_value v_m_fault v_m_finds v_m_weeks v_m_rows v_m_cardPrice v_m_lotPrice v_m_sure v_m_up v_m_down v_ml v_mf v_mg)) (hS : va_S A s.heap H locs) {ls : Array Slot} (hl : lv_has ls 14 [(0, .ref a_m), (1, .int x1), (4, .int x4), (5, .int x5), (6, .int x6), (7, .int x7), (8, .int x8), (9, .int x9), (10, .int x10)]) : W p l e (headSpec wsX10_finding rm_X10_finding).room s m args below meth c H locs 0 0 (MQ below (va_Qv (fun (_ : Unit) => True) (pa_QB D A (wo_X10_finding cI cJ a_m a_mt a_ml a_mr a_mx a_mf a_mg a_mw a_mh v_m_thrown v_m_trace v_m_typed v_m_next v_m_token v_m_place v_m_value v_m_fault v_m_finds v_m_weeks v_m_rows v_m_cardPrice v_m_lotPrice v_m_sure v_m_up v_m_down v_ml v_mf o)) A) args s 0 0 A) (F0 m 226 ls [.int s0]) := by
  obtain ⟨hx, hb, hr, hml, hown, hts, hK, hA, hG, hlk⟩ := id X
  delta f_X10_finding_b226 at hf
  refine lv_istore (lv' := [(13, .int s0), (0, .ref a_m), (1, .int x1), (4, .int x4), (5, .int x5), (6, .int x6), (7, .int x7), (8, .int x8), (9, .int x9), (10, .int x10)]) hx hb dX10_finding_226 hl (by decide) rfl (fun ls hl => ?_)
  refine lv_aload_n hx hb dX10_finding_228 rfl (lv_at hl 1 rfl) ?_
  refine va_get (D := D) (ci := 9) (v := .ref a_mg) (C := RX10) (T := TX10) (N := 24) hx hb hts il_X10_finding_X10 hown hK hP 0 rfl rfl 14 (by decide) (hts _ fk_X10_finding_0) (fun _ h9 => h9) rfl dX10_finding_229 ?_
  refine lv_iload hx hb dX10_finding_232 (lv_at hl 8 rfl) ?_
  refine lv_dup2_11 hx hb dX10_finding_234 rfl rfl ?_
  obtain ⟨hi_2, hf⟩ := pa_gd hf
  refine va_iald hx hb hK hP 3 0 rfl rfl hi_2 dX10_finding_235 ?_
  refine lv_iload hx hb dX10_finding_236 (lv_at hl 0 rfl) ?_
  refine lv_iadd hx hb dX10_finding_238 ?_
  refine va_iast hx hb hK hP hD hS 3 0 rfl rfl hi_2 dX10_finding_239 (fun H locs hP hD hS => ?_)
  have hP : va_P D vwCl (wo_X10_finding cI cJ a_m a_mt a_ml a_mr a_mx a_mf a_mg a_mw a_mh v_m_thrown v_m_trace v_m_typed v_m_next v_m_token v_m_place v_m_value v_m_fault v_m_finds v_m_weeks v_m_rows v_m_cardPrice v_m_lotPrice v_m_sure v_m_up v_m_down v_ml v_mf (upd v_mg (Int32.toNatClampNeg x9) ((v_mg (Int32.toNatClampNeg x9)) + s0))) H := hP
  have hD : va_D A (wo_X10_finding cI cJ a_m a_mt a_ml a_mr a_mx a_mf a_mg a_mw a_mh v_m_thrown v_m_trace v_m_typed v_m_next v_m_token v_m_place v_m_value v_m_fault v_m_finds v_m_weeks v_m_rows v_m_cardPrice v_m_lotPrice v_m_sure v_m_up v_m_down v_ml v_mf (upd v_mg (Int32.toNatClampNeg x9) ((v_mg (Int32.toNatClampNeg x9)) + s0))) := hD
  refine lv_iload hx hb dX10_finding_240 (lv_at hl 7 rfl) ?_
  refine lv_iload hx hb dX10_finding_242 (lv_at hl 0 rfl) ?_
  refine lv_isub hx hb dX10_finding_244 ?_
  refine lv_istore (lv' := [(8, .int (x8 - s0)), (13, .int s0), (0, .ref a_m), (1, .int x1), (4, .int x4), (5, .int x5), (6, .int x6), (7, .int x7), (9, .int x9), (10, .int x10)]) hx hb dX10_finding_245 hl (by decide) rfl (fun ls hl => ?_)
  refine lv_iload hx hb dX10_finding_247 (lv_at hl 5 rfl) ?_
  refine lv_iload hx hb dX10_finding_249 (lv_at hl 9 rfl) ?_
  refine lv_if_eq (tgt := 259) hx hb dX10_finding_251 (by decide) (fun c_4 => ?_) (fun c_4 => ?_)
  · have hf := (if_pos c_4).symm.trans hf
    refine lv_iconst (v := (0 : Int32)) hx hb dX10_finding_259 (by decide) ?_
    exact w_X10_finding_b260 X hrec33 hrec115 hf hP hD hS (lv_sub hl [2, 3, 4, 6, 7, 0, 8, 9, 1] rfl)
  · have hf := (if_neg c_4).symm.trans hf
    refine lv_iload hx hb dX10_finding_254 (lv_at hl 1 rfl) ?_
    refine lv_goto (tgt := 260) hx hb dX10_finding_256 (by decide) ?_
    exact w_X10_finding_b260 X hrec33 hrec115 hf hP hD hS (lv_sub hl [2, 3, 4, 6, 7, 0, 8, 9, 1] rfl)
set_option maxHeartbeats 4000000 in
set_option maxRecDepth 100000 in
theorem w_X10_finding_b207 {l : Launch} {D : va_G} {cI cJ : ClassId} {g : pa_GT} {a_m a_mt a_ml a_mr a_mx a_mf a_mg a_mw a_mh : Nat} {A : Nat → Prop} {p : Program} {e : Env} {s : State} {m : MethodId} {args : Array Value} {below : List Frame} {meth : Method} {c : Code} {x1 : Int32} {x4 : Int32} {x5 : Int32} {x6 : Int32} {x7 : Int32} {x8 : Int32} {x9 : Int32} {x10 : Int32} {s0 : Int32} {v_m_finds : Int32} {v_ml : Nat → Int32} {v_mf : Nat → Int32} {v_mg : Nat → Int32} {v_m_thrown : Int32} {v_m_trace : Int64} {v_m_typed : Int32} {v_m_next : Int32} {v_m_token : Int32} {v_m_place : Int32} {v_m_value : Int32} {v_m_fault : Int32} {v_m_weeks : Int32} {v_m_rows : Int32} {v_m_cardPrice : Int32} {v_m_lotPrice : Int32} {v_m_sure : Int32} {v_m_up : Int64} {v_m_down : Int64} {o : (Nat → Int32)} (X : pa_X cX10_finding 14 none RX10 wsX10_finding D cI cJ g A p s m args meth c) {rec33 : Int32 → Int32 → Int32 → (Nat → Int32) → Option ((Nat → Int32))} (hrec33 : ∀ (x4 : Int32) (x5 : Int32) (x6 : Int32) (v_mg : Nat → Int32), rec33 x4 x5 x6 v_mg = some o → ∀ (H : Heap) (locs : List Loc) , va_P D vwCl (wo_X10_finding cI cJ a_m a_mt a_ml a_mr a_mx a_mf a_mg a_mw a_mh v_m_thrown v_m_trace v_m_typed v_m_next v_m_token v_m_place v_m_value v_m_fault v_m_finds v_m_weeks v_m_rows v_m_cardPrice v_m_lotPrice v_m_sure v_m_up v_m_down v_ml v_mf v_mg) H → va_D A (wo_X10_finding cI cJ a_m a_mt a_ml a_mr a_mx a_mf a_mg a_mw a_mh v_m_thrown v_m_trace v_m_typed v_m_next v_m_token v_m_place v_m_value v_m_fault v_m_finds v_m_weeks v_m_rows v_m_cardPrice v_m_lotPrice v_m_sure v_m_up v_m_down v_ml v_mf v_mg) → va_S A s.heap H locs → ∀ (ls : Array Slot), lv_has ls 14 [(0, .ref a_m), (1, .int x1), (4, .int x4), (5, .int x5), (6, .int x6)] → W p l e (headSpec wsX10_finding rm_X10_finding).room s m args below meth c H locs 0 0 (MQ below (va_Qv (fun (_ : Unit) => True) (pa_QB D A (wo_X10_finding cI cJ a_m a_mt a_ml a_mr a_mx a_mf a_mg a_mw a_mh v_m_thrown v_m_trace v_m_typed v_m_next v_m_token v_m_place v_m_value v_m_fault v_m_finds v_m_weeks v_m_rows v_m_cardPrice v_m_lotPrice v_m_sure v_m_up v_m_down v_ml v_mf o)) A) args s 0 0 A) (F0 m 33 ls [])) {rec115 : Int32 → Int32 → Int32 → Int32 → (Nat → Int32) → Option ((Nat → Int32))} (hrec115 : ∀ (x4 : Int32) (x5 : Int32) (x8 : Int32) (x9 : Int32) (v_mg : Nat → Int32), rec115 x4 x5 x8 x9 v_mg = some o → ∀ (H : Heap) (locs : List Loc) , va_P D vwCl (wo_X10_finding cI cJ a_m a_mt a_ml a_mr a_mx a_mf a_mg a_mw a_mh v_m_thrown v_m_trace v_m_typed v_m_next v_m_token v_m_place v_m_value v_m_fault v_m_finds v_m_weeks v_m_rows v_m_cardPrice v_m_lotPrice v_m_sure v_m_up v_m_down v_ml v_mf v_mg) H → va_D A (wo_X10_finding cI cJ a_m a_mt a_ml a_mr a_mx a_mf a_mg a_mw a_mh v_m_thrown v_m_trace v_m_typed v_m_next v_m_token v_m_place v_m_value v_m_fault v_m_finds v_m_weeks v_m_rows v_m_cardPrice v_m_lotPrice v_m_sure v_m_up v_m_down v_ml v_mf v_mg) → va_S A s.heap H locs → ∀ (ls : Array Slot), lv_has ls 14 [(0, .ref a_m), (1, .int x1), (4, .int x4), (5, .int x5), (6, .int x6), (7, .int x7), (8, .int x8), (9, .int x9)] → W p l e (headSpec wsX10_finding rm_X10_finding).room s m args below meth c H locs 0 0 (MQ below (va_Qv (fun (_ : Unit) => True) (pa_QB D A (wo_X10_finding cI cJ a_m a_mt a_ml a_mr a_mx a_mf a_mg a_mw a_mh v_m_thrown v_m_trace v_m_typed v_m_next v_m_token v_m_place v_m_value v_m_fault v_m_finds v_m_weeks v_m_rows v_m_cardPrice v_m_lotPrice v_m_sure v_m_up v_m_down v_ml v_mf o)) A) args s 0 0 A) (F0 m 115 ls [])) (hf : f_X10_finding_b207 rec33 rec115 x1 x4 x5 x6 x7 x8 x9 x10 s0 v_m_finds v_ml v_mf v_mg = some o) {H : Heap} {locs : List Loc} (hP : va_P D vwCl (wo_X10_finding cI cJ a_m a_mt a_ml a_mr a_mx a_mf a_mg a_mw a_mh v_m_thrown v_m_trace v_m_typed v_m_next v_m_token v_m_place v_m_value v_m_fault v_m_finds v_m_weeks v_m_rows v_m_cardPrice v_m_lotPrice v_m_sure v_m_up v_m_down v_ml v_mf v_mg) H) (hD : va_D A (wo_X10_finding cI cJ a_m a_mt a_ml a_mr a_mx a_mf a_mg a_mw a_mh v_m_thrown v_m_trace v_m_typed v_m_next v_m_token v_m_place v_m_value v_m_fault v_m_finds v_m_weeks v_m_rows v_m_cardPrice v_m_lotPrice v_m_sure v_m_up v_m_down v_ml v_mf v_mg)) (hS : va_S A s.heap H locs) {ls : Array Slot} (hl : lv_has ls 14 [(0, .ref a_m), (1, .int x1), (4, .int x4), (5, .int x5), (6, .int x6), (7, .int x7), (8, .int x8), (9, .int x9), (10, .int x10)]) : W p l e (headSpec wsX10_finding rm_X10_finding).room s m args below meth c H locs 0 0 (MQ below (va_Qv (fun (_ : Unit) => True) (pa_QB D A (wo_X10_finding cI cJ a_m a_mt a_ml a_mr a_mx a_mf a_mg a_mw a_mh v_m_thrown v_m_trace v_m_typed v_m_next v_m_token v_m_place v_m_value v_m_fault v_m_finds v_m_weeks v_m_rows v_m_cardPrice v_m_lotPrice v_m_sure v_m_up v_m_down v_ml v_mf o)) A) args s 0 0 A) (F0 m 207 ls [.int s0]) := by
  obtain ⟨hx, hb, hr, hml, hown, hts, hK, hA, hG, hlk⟩ := id X
  delta f_X10_finding_b207 at hf
  refine lv_istore (lv' := [(13, .int s0), (0, .ref a_m), (1, .int x1), (4, .int x4), (5, .int x5), (6, .int x6), (7, .int x7), (8, .int x8), (9, .int x9), (10, .int x10)]) hx hb dX10_finding_207 hl (by decide) rfl (fun ls hl => ?_)
  refine lv_iload hx hb dX10_finding_209 (lv_at hl 6 rfl) ?_
  refine lv_iload hx hb dX10_finding_211 (lv_at hl 8 rfl) ?_
  refine lv_ishr hx hb dX10_finding_213 ?_
  refine lv_iconst (v := (1 : Int32)) hx hb dX10_finding_214 (by decide) ?_
  refine lv_iand hx hb dX10_finding_215 ?_
  refine lv_iconst (v := (1 : Int32)) hx hb dX10_finding_216 (by decide) ?_
  refine lv_icmp_ne (tgt := 225) hx hb dX10_finding_217 (by decide) (fun c_5 => ?_) (fun c_5 => ?_)
  · have hf := (if_neg c_5).symm.trans hf
    refine lv_iconst (v := (0 : Int32)) hx hb dX10_finding_225 (by decide) ?_
    exact w_X10_finding_b226 X hrec33 hrec115 hf hP hD hS (lv_sub hl [1, 2, 3, 4, 5, 6, 7, 8, 9] rfl)
  · have hf := (if_pos c_5).symm.trans hf
    refine lv_iload hx hb dX10_finding_220 (lv_at hl 0 rfl) ?_
    refine lv_goto (tgt := 226) hx hb dX10_finding_222 (by decide) ?_
    exact w_X10_finding_b226 X hrec33 hrec115 hf hP hD hS (lv_sub hl [1, 2, 3, 4, 5, 6, 7, 8, 9] rfl)
set_option maxHeartbeats 4000000 in
set_option maxRecDepth 100000 in
theorem w_X10_finding_b191 {l : Launch} {D : va_G} {cI cJ : ClassId} {g : pa_GT} {a_m a_mt a_ml a_mr a_mx a_mf a_mg a_mw a_mh : Nat} {A : Nat → Prop} {p : Program} {e : Env} {s : State} {m : MethodId} {args : Array Value} {below : List Frame} {meth : Method} {c : Code} {x1 : Int32} {x4 : Int32} {x5 : Int32} {x6 : Int32} {x7 : Int32} {x8 : Int32} {x9 : Int32} {x10 : Int32} {s0 : Int32} {v_m_finds : Int32} {v_ml : Nat → Int32} {v_mf : Nat → Int32} {v_mg : Nat → Int32} {v_m_thrown : Int32} {v_m_trace : Int64} {v_m_typed : Int32} {v_m_next : Int32} {v_m_token : Int32} {v_m_place : Int32} {v_m_value : Int32} {v_m_fault : Int32} {v_m_weeks : Int32} {v_m_rows : Int32} {v_m_cardPrice : Int32} {v_m_lotPrice : Int32} {v_m_sure : Int32} {v_m_up : Int64} {v_m_down : Int64} {o : (Nat → Int32)} (X : pa_X cX10_finding 14 none RX10 wsX10_finding D cI cJ g A p s m args meth c) {rec33 : Int32 → Int32 → Int32 → (Nat → Int32) → Option ((Nat → Int32))} (hrec33 : ∀ (x4 : Int32) (x5 : Int32) (x6 : Int32) (v_mg : Nat → Int32), rec33 x4 x5 x6 v_mg = some o → ∀ (H : Heap) (locs : List Loc) , va_P D vwCl (wo_X10_finding cI cJ a_m a_mt a_ml a_mr a_mx a_mf a_mg a_mw a_mh v_m_thrown v_m_trace v_m_typed v_m_next v_m_token v_m_place v_m_value v_m_fault v_m_finds v_m_weeks v_m_rows v_m_cardPrice v_m_lotPrice v_m_sure v_m_up v_m_down v_ml v_mf v_mg) H → va_D A (wo_X10_finding cI cJ a_m a_mt a_ml a_mr a_mx a_mf a_mg a_mw a_mh v_m_thrown v_m_trace v_m_typed v_m_next v_m_token v_m_place v_m_value v_m_fault v_m_finds v_m_weeks v_m_rows v_m_cardPrice v_m_lotPrice v_m_sure v_m_up v_m_down v_ml v_mf v_mg) → va_S A s.heap H locs → ∀ (ls : Array Slot), lv_has ls 14 [(0, .ref a_m), (1, .int x1), (4, .int x4), (5, .int x5), (6, .int x6)] → W p l e (headSpec wsX10_finding rm_X10_finding).room s m args below meth c H locs 0 0 (MQ below (va_Qv (fun (_ : Unit) => True) (pa_QB D A (wo_X10_finding cI cJ a_m a_mt a_ml a_mr a_mx a_mf a_mg a_mw a_mh v_m_thrown v_m_trace v_m_typed v_m_next v_m_token v_m_place v_m_value v_m_fault v_m_finds v_m_weeks v_m_rows v_m_cardPrice v_m_lotPrice v_m_sure v_m_up v_m_down v_ml v_mf o)) A) args s 0 0 A) (F0 m 33 ls [])) {rec115 : Int32 → Int32 → Int32 → Int32 → (Nat → Int32) → Option ((Nat → Int32))} (hrec115 : ∀ (x4 : Int32) (x5 : Int32) (x8 : Int32) (x9 : Int32) (v_mg : Nat → Int32), rec115 x4 x5 x8 x9 v_mg = some o → ∀ (H : Heap) (locs : List Loc) , va_P D vwCl (wo_X10_finding cI cJ a_m a_mt a_ml a_mr a_mx a_mf a_mg a_mw a_mh v_m_thrown v_m_trace v_m_typed v_m_next v_m_token v_m_place v_m_value v_m_fault v_m_finds v_m_weeks v_m_rows v_m_cardPrice v_m_lotPrice v_m_sure v_m_up v_m_down v_ml v_mf v_mg) H → va_D A (wo_X10_finding cI cJ a_m a_mt a_ml a_mr a_mx a_mf a_mg a_mw a_mh v_m_thrown v_m_trace v_m_typed v_m_next v_m_token v_m_place v_m_value v_m_fault v_m_finds v_m_weeks v_m_rows v_m_cardPrice v_m_lotPrice v_m_sure v_m_up v_m_down v_ml v_mf v_mg) → va_S A s.heap H locs → ∀ (ls : Array Slot), lv_has ls 14 [(0, .ref a_m), (1, .int x1), (4, .int x4), (5, .int x5), (6, .int x6), (7, .int x7), (8, .int x8), (9, .int x9)] → W p l e (headSpec wsX10_finding rm_X10_finding).room s m args below meth c H locs 0 0 (MQ below (va_Qv (fun (_ : Unit) => True) (pa_QB D A (wo_X10_finding cI cJ a_m a_mt a_ml a_mr a_mx a_mf a_mg a_mw a_mh v_m_thrown v_m_trace v_m_typed v_m_next v_m_token v_m_place v_m_value v_m_fault v_m_finds v_m_weeks v_m_rows v_m_cardPrice v_m_lotPrice v_m_sure v_m_up v_m_down v_ml v_mf o)) A) args s 0 0 A) (F0 m 115 ls [])) (hf : f_X10_finding_b191 rec33 rec115 x1 x4 x5 x6 x7 x8 x9 x10 s0 v_m_finds v_ml v_mf v_mg = some o) {H : Heap} {locs : List Loc} (hP : va_P D vwCl (wo_X10_finding cI cJ a_m a_mt a_ml a_mr a_mx a_mf a_mg a_mw a_mh v_m_thrown v_m_trace v_m_typed v_m_next v_m_token v_m_place v_m_value v_m_fault v_m_finds v_m_weeks v_m_rows v_m_cardPrice v_m_lotPrice v_m_sure v_m_up v_m_down v_ml v_mf v_mg) H) (hD : va_D A (wo_X10_finding cI cJ a_m a_mt a_ml a_mr a_mx a_mf a_mg a_mw a_mh v_m_thrown v_m_trace v_m_typed v_m_next v_m_token v_m_place v_m_value v_m_fault v_m_finds v_m_weeks v_m_rows v_m_cardPrice v_m_lotPrice v_m_sure v_m_up v_m_down v_ml v_mf v_mg)) (hS : va_S A s.heap H locs) {ls : Array Slot} (hl : lv_has ls 14 [(0, .ref a_m), (1, .int x1), (4, .int x4), (5, .int x5), (6, .int x6), (7, .int x7), (8, .int x8), (9, .int x9), (10, .int x10)]) : W p l e (headSpec wsX10_finding rm_X10_finding).room s m args below meth c H locs 0 0 (MQ below (va_Qv (fun (_ : Unit) => True) (pa_QB D A (wo_X10_finding cI cJ a_m a_mt a_ml a_mr a_mx a_mf a_mg a_mw a_mh v_m_thrown v_m_trace v_m_typed v_m_next v_m_token v_m_place v_m_value v_m_fault v_m_finds v_m_weeks v_m_rows v_m_cardPrice v_m_lotPrice v_m_sure v_m_up v_m_down v_ml v_mf o)) A) args s 0 0 A) (F0 m 191 ls [.int s0]) := by
  obtain ⟨hx, hb, hr, hml, hown, hts, hK, hA, hG, hlk⟩ := id X
  delta f_X10_finding_b191 at hf
  refine lv_istore (lv' := [(13, .int s0), (0, .ref a_m), (1, .int x1), (4, .int x4), (5, .int x5), (6, .int x6), (7, .int x7), (8, .int x8), (9, .int x9), (10, .int x10)]) hx hb dX10_finding_191 hl (by decide) rfl (fun ls hl => ?_)
  refine lv_iload hx hb dX10_finding_193 (lv_at hl 0 rfl) ?_
  refine lv_iload hx hb dX10_finding_195 (lv_at hl 7 rfl) ?_
  refine lv_icmp_ge (tgt := 205) hx hb dX10_finding_197 (by decide) (fun c_6 => ?_) (fun c_6 => ?_)
  · have hf := (if_pos c_6).symm.trans hf
    refine lv_iload hx hb dX10_finding_205 (lv_at hl 7 rfl) ?_
    exact w_X10_finding_b207 X hrec33 hrec115 hf hP hD hS (lv_sub hl [1, 2, 3, 4, 5, 6, 7, 8, 9] rfl)
  · have hf := (if_neg c_6).symm.trans hf
    refine lv_iload hx hb dX10_finding_200 (lv_at hl 0 rfl) ?_
    refine lv_goto (tgt := 207) hx hb dX10_finding_202 (by decide) ?_
    exact w_X10_finding_b207 X hrec33 hrec115 hf hP hD hS (lv_sub hl [1, 2, 3, 4, 5, 6, 7, 8, 9] rfl)
set_option maxHeartbeats 4000000 in
set_option maxRecDepth 100000 in
theorem w_X10_finding_b153 {l : Launch} {D : va_G} {cI cJ : ClassId} {g : pa_GT} {a_m a_mt a_ml a_mr a_mx a_mf a_mg a_mw a_mh : Nat} {A : Nat → Prop} {p : Program} {e : Env} {s : State} {m : MethodId} {args : Array Value} {below : List Frame} {meth : Method} {c : Code} {x1 : Int32} {x4 : Int32} {x5 : Int32} {x6 : Int32} {x7 : Int32} {x8 : Int32} {x9 : Int32} {x10 : Int32} {s0 : Int32} {v_m_finds : Int32} {v_ml : Nat → Int32} {v_mf : Nat → Int32} {v_mg : Nat → Int32} {v_m_thrown : Int32} {v_m_trace : Int64} {v_m_typed : Int32} {v_m_next : Int32} {v_m_token : Int32} {v_m_place : Int32} {v_m_value : Int32} {v_m_fault : Int32} {v_m_weeks : Int32} {v_m_rows : Int32} {v_m_cardPrice : Int32} {v_m_lotPrice : Int32} {v_m_sure : Int32} {v_m_up : Int64} {v_m_down : Int64} {o : (Nat → Int32)} (X : pa_X cX10_finding 14 none RX10 wsX10_finding D cI cJ g A p s m args meth c) {rec33 : Int32 → Int32 → Int32 → (Nat → Int32) → Option ((Nat → Int32))} (hrec33 : ∀ (x4 : Int32) (x5 : Int32) (x6 : Int32) (v_mg : Nat → Int32), rec33 x4 x5 x6 v_mg = some o → ∀ (H : Heap) (locs : List Loc) , va_P D vwCl (wo_X10_finding cI cJ a_m a_mt a_ml a_mr a_mx a_mf a_mg a_mw a_mh v_m_thrown v_m_trace v_m_typed v_m_next v_m_token v_m_place v_m_value v_m_fault v_m_finds v_m_weeks v_m_rows v_m_cardPrice v_m_lotPrice v_m_sure v_m_up v_m_down v_ml v_mf v_mg) H → va_D A (wo_X10_finding cI cJ a_m a_mt a_ml a_mr a_mx a_mf a_mg a_mw a_mh v_m_thrown v_m_trace v_m_typed v_m_next v_m_token v_m_place v_m_value v_m_fault v_m_finds v_m_weeks v_m_rows v_m_cardPrice v_m_lotPrice v_m_sure v_m_up v_m_down v_ml v_mf v_mg) → va_S A s.heap H locs → ∀ (ls : Array Slot), lv_has ls 14 [(0, .ref a_m), (1, .int x1), (4, .int x4), (5, .int x5), (6, .int x6)] → W p l e (headSpec wsX10_finding rm_X10_finding).room s m args below meth c H locs 0 0 (MQ below (va_Qv (fun (_ : Unit) => True) (pa_QB D A (wo_X10_finding cI cJ a_m a_mt a_ml a_mr a_mx a_mf a_mg a_mw a_mh v_m_thrown v_m_trace v_m_typed v_m_next v_m_token v_m_place v_m_value v_m_fault v_m_finds v_m_weeks v_m_rows v_m_cardPrice v_m_lotPrice v_m_sure v_m_up v_m_down v_ml v_mf o)) A) args s 0 0 A) (F0 m 33 ls [])) {rec115 : Int32 → Int32 → Int32 → Int32 → (Nat → Int32) → Option ((Nat → Int32))} (hrec115 : ∀ (x4 : Int32) (x5 : Int32) (x8 : Int32) (x9 : Int32) (v_mg : Nat → Int32), rec115 x4 x5 x8 x9 v_mg = some o → ∀ (H : Heap) (locs : List Loc) , va_P D vwCl (wo_X10_finding cI cJ a_m a_mt a_ml a_mr a_mx a_mf a_mg a_mw a_mh v_m_thrown v_m_trace v_m_typed v_m_next v_m_token v_m_place v_m_value v_m_fault v_m_finds v_m_weeks v_m_rows v_m_cardPrice v_m_lotPrice v_m_sure v_m_up v_m_down v_ml v_mf v_mg) H → va_D A (wo_X10_finding cI cJ a_m a_mt a_ml a_mr a_mx a_mf a_mg a_mw a_mh v_m_thrown v_m_trace v_m_typed v_m_next v_m_token v_m_place v_m_value v_m_fault v_m_finds v_m_weeks v_m_rows v_m_cardPrice v_m_lotPrice v_m_sure v_m_up v_m_down v_ml v_mf v_mg) → va_S A s.heap H locs → ∀ (ls : Array Slot), lv_has ls 14 [(0, .ref a_m), (1, .int x1), (4, .int x4), (5, .int x5), (6, .int x6), (7, .int x7), (8, .int x8), (9, .int x9)] → W p l e (headSpec wsX10_finding rm_X10_finding).room s m args below meth c H locs 0 0 (MQ below (va_Qv (fun (_ : Unit) => True) (pa_QB D A (wo_X10_finding cI cJ a_m a_mt a_ml a_mr a_mx a_mf a_mg a_mw a_mh v_m_thrown v_m_trace v_m_typed v_m_next v_m_token v_m_place v_m_value v_m_fault v_m_finds v_m_weeks v_m_rows v_m_cardPrice v_m_lotPrice v_m_sure v_m_up v_m_down v_ml v_mf o)) A) args s 0 0 A) (F0 m 115 ls [])) (hf : f_X10_finding_b153 rec33 rec115 x1 x4 x5 x6 x7 x8 x9 x10 s0 v_m_finds v_ml v_mf v_mg = some o) {H : Heap} {locs : List Loc} (hP : va_P D vwCl (wo_X10_finding cI cJ a_m a_mt a_ml a_mr a_mx a_mf a_mg a_mw a_mh v_m_thrown v_m_trace v_m_typed v_m_next v_m_token v_m_place v_m_value v_m_fault v_m_finds v_m_weeks v_m_rows v_m_cardPrice v_m_lotPrice v_m_sure v_m_up v_m_down v_ml v_mf v_mg) H) (hD : va_D A (wo_X10_finding cI cJ a_m a_mt a_ml a_mr a_mx a_mf a_mg a_mw a_mh v_m_thrown v_m_trace v_m_typed v_m_next v_m_token v_m_place v_m_value v_m_fault v_m_finds v_m_weeks v_m_rows v_m_cardPrice v_m_lotPrice v_m_sure v_m_up v_m_down v_ml v_mf v_mg)) (hS : va_S A s.heap H locs) {ls : Array Slot} (hl : lv_has ls 14 [(0, .ref a_m), (1, .int x1), (4, .int x4), (5, .int x5), (6, .int x6), (7, .int x7), (8, .int x8), (9, .int x9), (10, .int x10)]) : W p l e (headSpec wsX10_finding rm_X10_finding).room s m args below meth c H locs 0 0 (MQ below (va_Qv (fun (_ : Unit) => True) (pa_QB D A (wo_X10_finding cI cJ a_m a_mt a_ml a_mr a_mx a_mf a_mg a_mw a_mh v_m_thrown v_m_trace v_m_typed v_m_next v_m_token v_m_place v_m_value v_m_fault v_m_finds v_m_weeks v_m_rows v_m_cardPrice v_m_lotPrice v_m_sure v_m_up v_m_down v_ml v_mf o)) A) args s 0 0 A) (F0 m 153 ls [.int s0]) := by
  obtain ⟨hx, hb, hr, hml, hown, hts, hK, hA, hG, hlk⟩ := id X
  delta f_X10_finding_b153 at hf
  refine lv_istore (lv' := [(11, .int s0), (0, .ref a_m), (1, .int x1), (4, .int x4), (5, .int x5), (6, .int x6), (7, .int x7), (8, .int x8), (9, .int x9), (10, .int x10)]) hx hb dX10_finding_153 hl (by decide) rfl (fun ls hl => ?_)
  refine lv_aload_n hx hb dX10_finding_155 rfl (lv_at hl 1 rfl) ?_
  refine va_get (D := D) (ci := 9) (v := .ref a_ml) (C := RX10) (T := TX10) (N := 24) hx hb hts il_X10_finding_X10 hown hK hP 0 rfl rfl 3 (by decide) (hts _ fk_X10_finding_1) (fun _ h9 => h9) rfl dX10_finding_156 ?_
  refine lv_bipush (v := (8 : Int32)) hx hb dX10_finding_159 (by decide) ?_
  refine lv_iload_n hx hb dX10_finding_161 rfl (lv_at hl 2 rfl) ?_
  refine lv_imul hx hb dX10_finding_162 ?_
  refine lv_iload hx hb dX10_finding_163 (lv_at hl 8 rfl) ?_
  refine lv_iadd hx hb dX10_finding_165 ?_
  obtain ⟨hi_7, hf⟩ := pa_gd hf
  refine va_iald hx hb hK hP 1 0 rfl rfl hi_7 dX10_finding_166 ?_
  refine lv_aload_n hx hb dX10_finding_167 rfl (lv_at hl 1 rfl) ?_
  refine va_get (D := D) (ci := 9) (v := .ref a_mg) (C := RX10) (T := TX10) (N := 24) hx hb hts il_X10_finding_X10 hown hK hP 0 rfl rfl 14 (by decide) (hts _ fk_X10_finding_0) (fun _ h9 => h9) rfl dX10_finding_168 ?_
  refine lv_iload hx hb dX10_finding_171 (lv_at hl 8 rfl) ?_
  obtain ⟨hi_8, hf⟩ := pa_gd hf
  refine va_iald hx hb hK hP 3 0 rfl rfl hi_8 dX10_finding_173 ?_
  refine lv_isub hx hb dX10_finding_174 ?_
  refine lv_istore (lv' := [(12, .int ((v_ml (Int32.toNatClampNeg (((8 : Int32) * x1) + x9))) - (v_mg (Int32.toNatClampNeg x9)))), (11, .int s0), (0, .ref a_m), (1, .int x1), (4, .int x4), (5, .int x5), (6, .int x6), (7, .int x7), (8, .int x8), (9, .int x9), (10, .int x10)]) hx hb dX10_finding_175 hl (by decide) rfl (fun ls hl => ?_)
  refine lv_iload hx hb dX10_finding_177 (lv_at hl 0 rfl) ?_
  refine lv_iload hx hb dX10_finding_179 (lv_at hl 1 rfl) ?_
  refine lv_icmp_ge (tgt := 189) hx hb dX10_finding_181 (by decide) (fun c_9 => ?_) (fun c_9 => ?_)
  · have hf := (if_pos c_9).symm.trans hf
    refine lv_iload hx hb dX10_finding_189 (lv_at hl 1 rfl) ?_
    exact w_X10_finding_b191 X hrec33 hrec115 hf hP hD hS (lv_sub hl [2, 3, 4, 5, 6, 7, 8, 9, 10] rfl)
  · have hf := (if_neg c_9).symm.trans hf
    refine lv_iload hx hb dX10_finding_184 (lv_at hl 0 rfl) ?_
    refine lv_goto (tgt := 191) hx hb dX10_finding_186 (by decide) ?_
    exact w_X10_finding_b191 X hrec33 hrec115 hf hP hD hS (lv_sub hl [2, 3, 4, 5, 6, 7, 8, 9, 10] rfl)
set_option maxHeartbeats 4000000 in
set_option maxRecDepth 100000 in
theorem w_X10_finding_b139 {l : Launch} {D : va_G} {cI cJ : ClassId} {g : pa_GT} {a_m a_mt a_ml a_mr a_mx a_mf a_mg a_mw a_mh : Nat} {A : Nat → Prop} {p : Program} {e : Env} {s : State} {m : MethodId} {args : Array Value} {below : List Frame} {meth : Method} {c : Code} {x1 : Int32} {x4 : Int32} {x5 : Int32} {x6 : Int32} {x7 : Int32} {x8 : Int32} {x9 : Int32} {s0 : Int32} {v_m_finds : Int32} {v_ml : Nat → Int32} {v_mf : Nat → Int32} {v_mg : Nat → Int32} {v_m_thrown : Int32} {v_m_trace : Int64} {v_m_typed : Int32} {v_m_next : Int32} {v_m_token : Int32} {v_m_place : Int32} {v_m_value : Int32} {v_m_fault : Int32} {v_m_weeks : Int32} {v_m_rows : Int32} {v_m_cardPrice : Int32} {v_m_lotPrice : Int32} {v_m_sure : Int32} {v_m_up : Int64} {v_m_down : Int64} {o : (Nat → Int32)} (X : pa_X cX10_finding 14 none RX10 wsX10_finding D cI cJ g A p s m args meth c) {rec33 : Int32 → Int32 → Int32 → (Nat → Int32) → Option ((Nat → Int32))} (hrec33 : ∀ (x4 : Int32) (x5 : Int32) (x6 : Int32) (v_mg : Nat → Int32), rec33 x4 x5 x6 v_mg = some o → ∀ (H : Heap) (locs : List Loc) , va_P D vwCl (wo_X10_finding cI cJ a_m a_mt a_ml a_mr a_mx a_mf a_mg a_mw a_mh v_m_thrown v_m_trace v_m_typed v_m_next v_m_token v_m_place v_m_value v_m_fault v_m_finds v_m_weeks v_m_rows v_m_cardPrice v_m_lotPrice v_m_sure v_m_up v_m_down v_ml v_mf v_mg) H → va_D A (wo_X10_finding cI cJ a_m a_mt a_ml a_mr a_mx a_mf a_mg a_mw a_mh v_m_thrown v_m_trace v_m_typed v_m_next v_m_token v_m_place v_m_value v_m_fault v_m_finds v_m_weeks v_m_rows v_m_cardPrice v_m_lotPrice v_m_sure v_m_up v_m_down v_ml v_mf v_mg) → va_S A s.heap H locs → ∀ (ls : Array Slot), lv_has ls 14 [(0, .ref a_m), (1, .int x1), (4, .int x4), (5, .int x5), (6, .int x6)] → W p l e (headSpec wsX10_finding rm_X10_finding).room s m args below meth c H locs 0 0 (MQ below (va_Qv (fun (_ : Unit) => True) (pa_QB D A (wo_X10_finding cI cJ a_m a_mt a_ml a_mr a_mx a_mf a_mg a_mw a_mh v_m_thrown v_m_trace v_m_typed v_m_next v_m_token v_m_place v_m_value v_m_fault v_m_finds v_m_weeks v_m_rows v_m_cardPrice v_m_lotPrice v_m_sure v_m_up v_m_down v_ml v_mf o)) A) args s 0 0 A) (F0 m 33 ls [])) {rec115 : Int32 → Int32 → Int32 → Int32 → (Nat → Int32) → Option ((Nat → Int32))} (hrec115 : ∀ (x4 : Int32) (x5 : Int32) (x8 : Int32) (x9 : Int32) (v_mg : Nat → Int32), rec115 x4 x5 x8 x9 v_mg = some o → ∀ (H : Heap) (locs : List Loc) , va_P D vwCl (wo_X10_finding cI cJ a_m a_mt a_ml a_mr a_mx a_mf a_mg a_mw a_mh v_m_thrown v_m_trace v_m_typed v_m_next v_m_token v_m_place v_m_value v_m_fault v_m_finds v_m_weeks v_m_rows v_m_cardPrice v_m_lotPrice v_m_sure v_m_up v_m_down v_ml v_mf v_mg) H → va_D A (wo_X10_finding cI cJ a_m a_mt a_ml a_mr a_mx a_mf a_mg a_mw a_mh v_m_thrown v_m_trace v_m_typed v_m_next v_m_token v_m_place v_m_value v_m_fault v_m_finds v_m_weeks v_m_rows v_m_cardPrice v_m_lotPrice v_m_sure v_m_up v_m_down v_ml v_mf v_mg) → va_S A s.heap H locs → ∀ (ls : Array Slot), lv_has ls 14 [(0, .ref a_m), (1, .int x1), (4, .int x4), (5, .int x5), (6, .int x6), (7, .int x7), (8, .int x8), (9, .int x9)] → W p l e (headSpec wsX10_finding rm_X10_finding).room s m args below meth c H locs 0 0 (MQ below (va_Qv (fun (_ : Unit) => True) (pa_QB D A (wo_X10_finding cI cJ a_m a_mt a_ml a_mr a_mx a_mf a_mg a_mw a_mh v_m_thrown v_m_trace v_m_typed v_m_next v_m_token v_m_place v_m_value v_m_fault v_m_finds v_m_weeks v_m_rows v_m_cardPrice v_m_lotPrice v_m_sure v_m_up v_m_down v_ml v_mf o)) A) args s 0 0 A) (F0 m 115 ls [])) (hf : f_X10_finding_b139 rec33 rec115 x1 x4 x5 x6 x7 x8 x9 s0 v_m_finds v_ml v_mf v_mg = some o) {H : Heap} {locs : List Loc} (hP : va_P D vwCl (wo_X10_finding cI cJ a_m a_mt a_ml a_mr a_mx a_mf a_mg a_mw a_mh v_m_thrown v_m_trace v_m_typed v_m_next v_m_token v_m_place v_m_value v_m_fault v_m_finds v_m_weeks v_m_rows v_m_cardPrice v_m_lotPrice v_m_sure v_m_up v_m_down v_ml v_mf v_mg) H) (hD : va_D A (wo_X10_finding cI cJ a_m a_mt a_ml a_mr a_mx a_mf a_mg a_mw a_mh v_m_thrown v_m_trace v_m_typed v_m_next v_m_token v_m_place v_m_value v_m_fault v_m_finds v_m_weeks v_m_rows v_m_cardPrice v_m_lotPrice v_m_sure v_m_up v_m_down v_ml v_mf v_mg)) (hS : va_S A s.heap H locs) {ls : Array Slot} (hl : lv_has ls 14 [(0, .ref a_m), (1, .int x1), (4, .int x4), (5, .int x5), (6, .int x6), (7, .int x7), (8, .int x8), (9, .int x9)]) : W p l e (headSpec wsX10_finding rm_X10_finding).room s m args below meth c H locs 0 0 (MQ below (va_Qv (fun (_ : Unit) => True) (pa_QB D A (wo_X10_finding cI cJ a_m a_mt a_ml a_mr a_mx a_mf a_mg a_mw a_mh v_m_thrown v_m_trace v_m_typed v_m_next v_m_token v_m_place v_m_value v_m_fault v_m_finds v_m_weeks v_m_rows v_m_cardPrice v_m_lotPrice v_m_sure v_m_up v_m_down v_ml v_mf o)) A) args s 0 0 A) (F0 m 139 ls [.int s0]) := by
  obtain ⟨hx, hb, hr, hml, hown, hts, hK, hA, hG, hlk⟩ := id X
  delta f_X10_finding_b139 at hf
  refine lv_istore (lv' := [(10, .int s0), (0, .ref a_m), (1, .int x1), (4, .int x4), (5, .int x5), (6, .int x6), (7, .int x7), (8, .int x8), (9, .int x9)]) hx hb dX10_finding_139 hl (by decide) rfl (fun ls hl => ?_)
  refine lv_iload hx hb dX10_finding_141 (lv_at hl 0 rfl) ?_
  refine lv_if_eq (tgt := 151) hx hb dX10_finding_143 (by decide) (fun c_10 => ?_) (fun c_10 => ?_)
  · have hf := (if_pos c_10).symm.trans hf
    refine lv_iload hx hb dX10_finding_151 (lv_at hl 3 rfl) ?_
    exact w_X10_finding_b153 X hrec33 hrec115 hf hP hD hS (lv_sub hl [1, 2, 3, 4, 5, 6, 7, 8, 0] rfl)
  · have hf := (if_neg c_10).symm.trans hf
    refine lv_iload hx hb dX10_finding_146 (lv_at hl 4 rfl) ?_
    refine lv_goto (tgt := 153) hx hb dX10_finding_148 (by decide) ?_
    exact w_X10_finding_b153 X hrec33 hrec115 hf hP hD hS (lv_sub hl [1, 2, 3, 4, 5, 6, 7, 8, 0] rfl)
set_option maxHeartbeats 4000000 in
set_option maxRecDepth 100000 in
theorem w_X10_finding_L115 {l : Launch} {D : va_G} {cI cJ : ClassId} {g : pa_GT} {a_m a_mt a_ml a_mr a_mx a_mf a_mg a_mw a_mh : Nat} {A : Nat → Prop} {p : Program} {e : Env} {s : State} {m : MethodId} {args : Array Value} {below : List Frame} {meth : Method} {c : Code} {x1 : Int32} {x6 : Int32} {x7 : Int32} {v_m_finds : Int32} {v_ml : Nat → Int32} {v_mf : Nat → Int32} {v_m_thrown : Int32} {v_m_trace : Int64} {v_m_typed : Int32} {v_m_next : Int32} {v_m_token : Int32} {v_m_place : Int32} {v_m_value : Int32} {v_m_fault : Int32} {v_m_weeks : Int32} {v_m_rows : Int32} {v_m_cardPrice : Int32} {v_m_lotPrice : Int32} {v_m_sure : Int32} {v_m_up : Int64} {v_m_down : Int64} {o : (Nat → Int32)} (X : pa_X cX10_finding 14 none RX10 wsX10_finding D cI cJ g A p s m args meth c) {rec33 : Int32 → Int32 → Int32 → (Nat → Int32) → Option ((Nat → Int32))} (hrec33 : ∀ (x4 : Int32) (x5 : Int32) (x6 : Int32) (v_mg : Nat → Int32), rec33 x4 x5 x6 v_mg = some o → ∀ (H : Heap) (locs : List Loc) , va_P D vwCl (wo_X10_finding cI cJ a_m a_mt a_ml a_mr a_mx a_mf a_mg a_mw a_mh v_m_thrown v_m_trace v_m_typed v_m_next v_m_token v_m_place v_m_value v_m_fault v_m_finds v_m_weeks v_m_rows v_m_cardPrice v_m_lotPrice v_m_sure v_m_up v_m_down v_ml v_mf v_mg) H → va_D A (wo_X10_finding cI cJ a_m a_mt a_ml a_mr a_mx a_mf a_mg a_mw a_mh v_m_thrown v_m_trace v_m_typed v_m_next v_m_token v_m_place v_m_value v_m_fault v_m_finds v_m_weeks v_m_rows v_m_cardPrice v_m_lotPrice v_m_sure v_m_up v_m_down v_ml v_mf v_mg) → va_S A s.heap H locs → ∀ (ls : Array Slot), lv_has ls 14 [(0, .ref a_m), (1, .int x1), (4, .int x4), (5, .int x5), (6, .int x6)] → W p l e (headSpec wsX10_finding rm_X10_finding).room s m args below meth c H locs 0 0 (MQ below (va_Qv (fun (_ : Unit) => True) (pa_QB D A (wo_X10_finding cI cJ a_m a_mt a_ml a_mr a_mx a_mf a_mg a_mw a_mh v_m_thrown v_m_trace v_m_typed v_m_next v_m_token v_m_place v_m_value v_m_fault v_m_finds v_m_weeks v_m_rows v_m_cardPrice v_m_lotPrice v_m_sure v_m_up v_m_down v_ml v_mf o)) A) args s 0 0 A) (F0 m 33 ls [])) : ∀ (n : Nat) (x4 : Int32) (x5 : Int32) (x8 : Int32) (x9 : Int32) (v_mg : Nat → Int32), f_X10_finding_L115 rec33 x1 x6 x7 v_m_finds v_ml v_mf n x4 x5 x8 x9 v_mg = some o → ∀ (H : Heap) (locs : List Loc) , va_P D vwCl (wo_X10_finding cI cJ a_m a_mt a_ml a_mr a_mx a_mf a_mg a_mw a_mh v_m_thrown v_m_trace v_m_typed v_m_next v_m_token v_m_place v_m_value v_m_fault v_m_finds v_m_weeks v_m_rows v_m_cardPrice v_m_lotPrice v_m_sure v_m_up v_m_down v_ml v_mf v_mg) H → va_D A (wo_X10_finding cI cJ a_m a_mt a_ml a_mr a_mx a_mf a_mg a_mw a_mh v_m_thrown v_m_trace v_m_typed v_m_next v_m_token v_m_place v_m_value v_m_fault v_m_finds v_m_weeks v_m_rows v_m_cardPrice v_m_lotPrice v_m_sure v_m_up v_m_down v_ml v_mf v_mg) → va_S A s.heap H locs → ∀ (ls : Array Slot), lv_has ls 14 [(0, .ref a_m), (1, .int x1), (4, .int x4), (5, .int x5), (6, .int x6), (7, .int x7), (8, .int x8), (9, .int x9)] → W p l e (headSpec wsX10_finding rm_X10_finding).room s m args below meth c H locs 0 0 (MQ below (va_Qv (fun (_ : Unit) => True) (pa_QB D A (wo_X10_finding cI cJ a_m a_mt a_ml a_mr a_mx a_mf a_mg a_mw a_mh v_m_thrown v_m_trace v_m_typed v_m_next v_m_token v_m_place v_m_value v_m_fault v_m_finds v_m_weeks v_m_rows v_m_cardPrice v_m_lotPrice v_m_sure v_m_up v_m_down v_ml v_mf o)) A) args s 0 0 A) (F0 m 115 ls []) := by
  obtain ⟨hx, hb, hr, hml, hown, hts, hK, hA, hG, hlk⟩ := id X
  intro n
  induction n with
  | zero =>
    intro x4 x5 x8 x9 v_mg hf
    have hf : (none : Option ((Nat → Int32))) = some o := hf
    cases hf
  | succ n hrec115 =>
    intro x4 x5 x8 x9 v_mg hf H locs  hP hD hS ls hl
    have hf : f_X10_finding_L115_body rec33 x1 x6 x7 v_m_finds v_ml v_mf (f_X10_finding_L115 rec33 x1 x6 x7 v_m_finds v_ml v_mf n) x4 x5 x8 x9 v_mg = some o := hf
    delta f_X10_finding_L115_body at hf
    generalize hgr : f_X10_finding_L115 rec33 x1 x6 x7 v_m_finds v_ml v_mf n = rec115 at hf hrec115
    refine lv_iload hx hb dX10_finding_115 (lv_at hl 7 rfl) ?_
    refine lv_bipush (v := (8 : Int32)) hx hb dX10_finding_117 (by decide) ?_
    refine lv_icmp_ge (tgt := 285) hx hb dX10_finding_119 (by decide) (fun c_11 => ?_) (fun c_11 => ?_)
    · have hf := (if_pos c_11).symm.trans hf
      refine lv_iinc (v := (x6 + (1 : Int32))) (lv' := [(6, .int (x6 + (1 : Int32))), (0, .ref a_m), (1, .int x1), (4, .int x4), (5, .int x5), (7, .int x7), (8, .int x8), (9, .int x9)]) hx hb dX10_finding_285 hl (k := 4) rfl rfl (by decide) rfl (fun ls hl => ?_)
      refine lv_goto (tgt := 33) hx hb dX10_finding_288 (by decide) ?_
      exact hrec33 _ _ _ _ hf _ _  hP hD hS _ (lv_sub hl [1, 2, 3, 4, 0] rfl)
    · have hf := (if_neg c_11).symm.trans hf
      refine lv_sipush (v := (204 : Int32)) hx hb dX10_finding_122 (by decide) ?_
      refine lv_iload hx hb dX10_finding_125 (lv_at hl 7 rfl) ?_
      refine lv_ishr hx hb dX10_finding_127 ?_
      refine lv_iconst (v := (1 : Int32)) hx hb dX10_finding_128 (by decide) ?_
      refine lv_iand hx hb dX10_finding_129 ?_
      refine lv_iconst (v := (1 : Int32)) hx hb dX10_finding_130 (by decide) ?_
      refine lv_icmp_ne (tgt := 138) hx hb dX10_finding_131 (by decide) (fun c_12 => ?_) (fun c_12 => ?_)
      · have hf := (if_neg c_12).symm.trans hf
        refine lv_iconst (v := (0 : Int32)) hx hb dX10_finding_138 (by decide) ?_
        exact w_X10_finding_b139 X hrec33 hrec115 hf hP hD hS (lv_sub hl [0, 1, 2, 3, 4, 5, 6, 7] rfl)
      · have hf := (if_pos c_12).symm.trans hf
        refine lv_iconst (v := (1 : Int32)) hx hb dX10_finding_134 (by decide) ?_
        refine lv_goto (tgt := 139) hx hb dX10_finding_135 (by decide) ?_
        exact w_X10_finding_b139 X hrec33 hrec115 hf hP hD hS (lv_sub hl [0, 1, 2, 3, 4, 5, 6, 7] rfl)
set_option maxHeartbeats 4000000 in
set_option maxRecDepth 100000 in
theorem w_X10_finding_b66 {l : Launch} {D : va_G} {cI cJ : ClassId} {g : pa_GT} {a_m a_mt a_ml a_mr a_mx a_mf a_mg a_mw a_mh : Nat} {A : Nat → Prop} {p : Program} {e : Env} {s : State} {m : MethodId} {args : Array Value} {below : List Frame} {meth : Method} {c : Code} {x1 : Int32} {x4 : Int32} {x5 : Int32} {x6 : Int32} {s0 : Int32} {v_m_finds : Int32} {v_ml : Nat → Int32} {v_mf : Nat → Int32} {v_mg : Nat → Int32} {v_m_thrown : Int32} {v_m_trace : Int64} {v_m_typed : Int32} {v_m_next : Int32} {v_m_token : Int32} {v_m_place : Int32} {v_m_value : Int32} {v_m_fault : Int32} {v_m_weeks : Int32} {v_m_rows : Int32} {v_m_cardPrice : Int32} {v_m_lotPrice : Int32} {v_m_sure : Int32} {v_m_up : Int64} {v_m_down : Int64} {o : (Nat → Int32)} (X : pa_X cX10_finding 14 none RX10 wsX10_finding D cI cJ g A p s m args meth c) {rec33 : Int32 → Int32 → Int32 → (Nat → Int32) → Option ((Nat → Int32))} (hrec33 : ∀ (x4 : Int32) (x5 : Int32) (x6 : Int32) (v_mg : Nat → Int32), rec33 x4 x5 x6 v_mg = some o → ∀ (H : Heap) (locs : List Loc) , va_P D vwCl (wo_X10_finding cI cJ a_m a_mt a_ml a_mr a_mx a_mf a_mg a_mw a_mh v_m_thrown v_m_trace v_m_typed v_m_next v_m_token v_m_place v_m_value v_m_fault v_m_finds v_m_weeks v_m_rows v_m_cardPrice v_m_lotPrice v_m_sure v_m_up v_m_down v_ml v_mf v_mg) H → va_D A (wo_X10_finding cI cJ a_m a_mt a_ml a_mr a_mx a_mf a_mg a_mw a_mh v_m_thrown v_m_trace v_m_typed v_m_next v_m_token v_m_place v_m_value v_m_fault v_m_finds v_m_weeks v_m_rows v_m_cardPrice v_m_lotPrice v_m_sure v_m_up v_m_down v_ml v_mf v_mg) → va_S A s.heap H locs → ∀ (ls : Array Slot), lv_has ls 14 [(0, .ref a_m), (1, .int x1), (4, .int x4), (5, .int x5), (6, .int x6)] → W p l e (headSpec wsX10_finding rm_X10_finding).room s m args below meth c H locs 0 0 (MQ below (va_Qv (fun (_ : Unit) => True) (pa_QB D A (wo_X10_finding cI cJ a_m a_mt a_ml a_mr a_mx a_mf a_mg a_mw a_mh v_m_thrown v_m_trace v_m_typed v_m_next v_m_token v_m_place v_m_value v_m_fault v_m_finds v_m_weeks v_m_rows v_m_cardPrice v_m_lotPrice v_m_sure v_m_up v_m_down v_ml v_mf o)) A) args s 0 0 A) (F0 m 33 ls [])) (hf : f_X10_finding_b66 rec33 x1 x4 x5 x6 s0 v_m_finds v_ml v_mf v_mg = some o) {H : Heap} {locs : List Loc} (hP : va_P D vwCl (wo_X10_finding cI cJ a_m a_mt a_ml a_mr a_mx a_mf a_mg a_mw a_mh v_m_thrown v_m_trace v_m_typed v_m_next v_m_token v_m_place v_m_value v_m_fault v_m_finds v_m_weeks v_m_rows v_m_cardPrice v_m_lotPrice v_m_sure v_m_up v_m_down v_ml v_mf v_mg) H) (hD : va_D A (wo_X10_finding cI cJ a_m a_mt a_ml a_mr a_mx a_mf a_mg a_mw a_mh v_m_thrown v_m_trace v_m_typed v_m_next v_m_token v_m_place v_m_value v_m_fault v_m_finds v_m_weeks v_m_rows v_m_cardPrice v_m_lotPrice v_m_sure v_m_up v_m_down v_ml v_mf v_mg)) (hS : va_S A s.heap H locs) {ls : Array Slot} (hl : lv_has ls 14 [(0, .ref a_m), (1, .int x1), (4, .int x4), (5, .int x5), (6, .int x6)]) : W p l e (headSpec wsX10_finding rm_X10_finding).room s m args below meth c H locs 0 0 (MQ below (va_Qv (fun (_ : Unit) => True) (pa_QB D A (wo_X10_finding cI cJ a_m a_mt a_ml a_mr a_mx a_mf a_mg a_mw a_mh v_m_thrown v_m_trace v_m_typed v_m_next v_m_token v_m_place v_m_value v_m_fault v_m_finds v_m_weeks v_m_rows v_m_cardPrice v_m_lotPrice v_m_sure v_m_up v_m_down v_ml v_mf o)) A) args s 0 0 A) (F0 m 66 ls [.int s0]) := by
  obtain ⟨hx, hb, hr, hml, hown, hts, hK, hA, hG, hlk⟩ := id X
  delta f_X10_finding_b66 at hf
  refine lv_istore (lv' := [(7, .int s0), (0, .ref a_m), (1, .int x1), (4, .int x4), (5, .int x5), (6, .int x6)]) hx hb dX10_finding_66 hl (by decide) rfl (fun ls hl => ?_)
  refine lv_iload hx hb dX10_finding_68 (lv_at hl 5 rfl) ?_
  refine lv_aload_n hx hb dX10_finding_70 rfl (lv_at hl 1 rfl) ?_
  refine va_get (D := D) (ci := 9) (v := .int v_m_finds) (C := RX10) (T := TX10) (N := 24) hx hb hts il_X10_finding_X10 hown hK hP 0 rfl rfl 12 (by decide) (hts _ fk_X10_finding_2) (fun _ h9 => h9) rfl dX10_finding_71 ?_
  refine lv_icmp_ge (tgt := 107) hx hb dX10_finding_74 (by decide) (fun c_13 => ?_) (fun c_13 => ?_)
  · have hf := (if_pos c_13).symm.trans hf
    refine lv_sipush (v := (1000 : Int32)) hx hb dX10_finding_107 (by decide) ?_
    refine lv_istore (lv' := [(8, .int (1000 : Int32)), (7, .int s0), (0, .ref a_m), (1, .int x1), (4, .int x4), (5, .int x5), (6, .int x6)]) hx hb dX10_finding_110 hl (by decide) rfl (fun ls hl => ?_)
    refine lv_iconst (v := (0 : Int32)) hx hb dX10_finding_112 (by decide) ?_
    refine lv_istore (lv' := [(9, .int (0 : Int32)), (8, .int (1000 : Int32)), (7, .int s0), (0, .ref a_m), (1, .int x1), (4, .int x4), (5, .int x5), (6, .int x6)]) hx hb dX10_finding_113 hl (by decide) rfl (fun ls hl => ?_)
    exact w_X10_finding_L115 X hrec33 _ _ _ _ _ _ hf _ _  hP hD hS _ (lv_sub hl [3, 4, 5, 6, 7, 2, 1, 0] rfl)
  · have hf := (if_neg c_13).symm.trans hf
    refine lv_aload_n hx hb dX10_finding_77 rfl (lv_at hl 1 rfl) ?_
    refine va_get (D := D) (ci := 9) (v := .ref a_mf) (C := RX10) (T := TX10) (N := 24) hx hb hts il_X10_finding_X10 hown hK hP 0 rfl rfl 13 (by decide) (hts _ fk_X10_finding_3) (fun _ h9 => h9) rfl dX10_finding_78 ?_
    refine lv_iconst (v := (2 : Int32)) hx hb dX10_finding_81 (by decide) ?_
    refine lv_iload hx hb dX10_finding_82 (lv_at hl 5 rfl) ?_
    refine lv_imul hx hb dX10_finding_84 ?_
    refine lv_iconst (v := (1 : Int32)) hx hb dX10_finding_85 (by decide) ?_
    refine lv_iadd hx hb dX10_finding_86 ?_
    obtain ⟨hi_14, hf⟩ := pa_gd hf
    refine va_iald hx hb hK hP 2 0 rfl rfl hi_14 dX10_finding_87 ?_
    refine lv_bipush (v := (-9 : Int32)) hx hb dX10_finding_88 (by decide) ?_
    refine lv_icmp_eq (tgt := 107) hx hb dX10_finding_90 (by decide) (fun c_15 => ?_) (fun c_15 => ?_)
    · have hf := (if_pos c_15).symm.trans hf
      refine lv_sipush (v := (1000 : Int32)) hx hb dX10_finding_107 (by decide) ?_
      refine lv_istore (lv' := [(8, .int (1000 : Int32)), (7, .int s0), (0, .ref a_m), (1, .int x1), (4, .int x4), (5, .int x5), (6, .int x6)]) hx hb dX10_finding_110 hl (by decide) rfl (fun ls hl => ?_)
      refine lv_iconst (v := (0 : Int32)) hx hb dX10_finding_112 (by decide) ?_
      refine lv_istore (lv' := [(9, .int (0 : Int32)), (8, .int (1000 : Int32)), (7, .int s0), (0, .ref a_m), (1, .int x1), (4, .int x4), (5, .int x5), (6, .int x6)]) hx hb dX10_finding_113 hl (by decide) rfl (fun ls hl => ?_)
      exact w_X10_finding_L115 X hrec33 _ _ _ _ _ _ hf _ _  hP hD hS _ (lv_sub hl [3, 4, 5, 6, 7, 2, 1, 0] rfl)
    · have hf := (if_neg c_15).symm.trans hf
      refine lv_aload_n hx hb dX10_finding_93 rfl (lv_at hl 1 rfl) ?_
      refine va_get (D := D) (ci := 9) (v := .ref a_mf) (C := RX10) (T := TX10) (N := 24) hx hb hts il_X10_finding_X10 hown hK hP 0 rfl rfl 13 (by decide) (hts _ fk_X10_finding_3) (fun _ h9 => h9) rfl dX10_finding_94 ?_
      refine lv_iconst (v := (2 : Int32)) hx hb dX10_finding_97 (by decide) ?_
      refine lv_iload hx hb dX10_finding_98 (lv_at hl 5 rfl) ?_
      refine lv_imul hx hb dX10_finding_100 ?_
      refine lv_iconst (v := (1 : Int32)) hx hb dX10_finding_101 (by decide) ?_
      refine lv_iadd hx hb dX10_finding_102 ?_
      refine va_iald hx hb hK hP 2 0 rfl rfl hi_14 dX10_finding_103 ?_
      refine lv_goto (tgt := 110) hx hb dX10_finding_104 (by decide) ?_
      refine lv_istore (lv' := [(8, .int (v_mf (Int32.toNatClampNeg (((2 : Int32) * x6) + (1 : Int32))))), (7, .int s0), (0, .ref a_m), (1, .int x1), (4, .int x4), (5, .int x5), (6, .int x6)]) hx hb dX10_finding_110 hl (by decide) rfl (fun ls hl => ?_)
      refine lv_iconst (v := (0 : Int32)) hx hb dX10_finding_112 (by decide) ?_
      refine lv_istore (lv' := [(9, .int (0 : Int32)), (8, .int (v_mf (Int32.toNatClampNeg (((2 : Int32) * x6) + (1 : Int32))))), (7, .int s0), (0, .ref a_m), (1, .int x1), (4, .int x4), (5, .int x5), (6, .int x6)]) hx hb dX10_finding_113 hl (by decide) rfl (fun ls hl => ?_)
      exact w_X10_finding_L115 X hrec33 _ _ _ _ _ _ hf _ _  hP hD hS _ (lv_sub hl [3, 4, 5, 6, 7, 2, 1, 0] rfl)
set_option maxHeartbeats 4000000 in
set_option maxRecDepth 100000 in
theorem w_X10_finding_L33 {l : Launch} {D : va_G} {cI cJ : ClassId} {g : pa_GT} {a_m a_mt a_ml a_mr a_mx a_mf a_mg a_mw a_mh : Nat} {A : Nat → Prop} {p : Program} {e : Env} {s : State} {m : MethodId} {args : Array Value} {below : List Frame} {meth : Method} {c : Code} {x1 : Int32} {v_m_finds : Int32} {v_ml : Nat → Int32} {v_mf : Nat → Int32} {v_m_thrown : Int32} {v_m_trace : Int64} {v_m_typed : Int32} {v_m_next : Int32} {v_m_token : Int32} {v_m_place : Int32} {v_m_value : Int32} {v_m_fault : Int32} {v_m_weeks : Int32} {v_m_rows : Int32} {v_m_cardPrice : Int32} {v_m_lotPrice : Int32} {v_m_sure : Int32} {v_m_up : Int64} {v_m_down : Int64} {o : (Nat → Int32)} (X : pa_X cX10_finding 14 none RX10 wsX10_finding D cI cJ g A p s m args meth c)  : ∀ (n : Nat) (x4 : Int32) (x5 : Int32) (x6 : Int32) (v_mg : Nat → Int32), f_X10_finding_L33 x1 v_m_finds v_ml v_mf n x4 x5 x6 v_mg = some o → ∀ (H : Heap) (locs : List Loc) , va_P D vwCl (wo_X10_finding cI cJ a_m a_mt a_ml a_mr a_mx a_mf a_mg a_mw a_mh v_m_thrown v_m_trace v_m_typed v_m_next v_m_token v_m_place v_m_value v_m_fault v_m_finds v_m_weeks v_m_rows v_m_cardPrice v_m_lotPrice v_m_sure v_m_up v_m_down v_ml v_mf v_mg) H → va_D A (wo_X10_finding cI cJ a_m a_mt a_ml a_mr a_mx a_mf a_mg a_mw a_mh v_m_thrown v_m_trace v_m_typed v_m_next v_m_token v_m_place v_m_value v_m_fault v_m_finds v_m_weeks v_m_rows v_m_cardPrice v_m_lotPrice v_m_sure v_m_up v_m_down v_ml v_mf v_mg) → va_S A s.heap H locs → ∀ (ls : Array Slot), lv_has ls 14 [(0, .ref a_m), (1, .int x1), (4, .int x4), (5, .int x5), (6, .int x6)] → W p l e (headSpec wsX10_finding rm_X10_finding).room s m args below meth c H locs 0 0 (MQ below (va_Qv (fun (_ : Unit) => True) (pa_QB D A (wo_X10_finding cI cJ a_m a_mt a_ml a_mr a_mx a_mf a_mg a_mw a_mh v_m_thrown v_m_trace v_m_typed v_m_next v_m_token v_m_place v_m_value v_m_fault v_m_finds v_m_weeks v_m_rows v_m_cardPrice v_m_lotPrice v_m_sure v_m_up v_m_down v_ml v_mf o)) A) args s 0 0 A) (F0 m 33 ls []) := by
  obtain ⟨hx, hb, hr, hml, hown, hts, hK, hA, hG, hlk⟩ := id X
  intro n
  induction n with
  | zero =>
    intro x4 x5 x6 v_mg hf
    have hf : (none : Option ((Nat → Int32))) = some o := hf
    cases hf
  | succ n hrec33 =>
    intro x4 x5 x6 v_mg hf H locs  hP hD hS ls hl
    have hf : f_X10_finding_L33_body x1 v_m_finds v_ml v_mf (f_X10_finding_L33 x1 v_m_finds v_ml v_mf n) x4 x5 x6 v_mg = some o := hf
    delta f_X10_finding_L33_body at hf
    generalize hgr : f_X10_finding_L33 x1 v_m_finds v_ml v_mf n = rec33 at hf hrec33
    refine lv_iload hx hb dX10_finding_33 (lv_at hl 4 rfl) ?_
    refine lv_aload_n hx hb dX10_finding_35 rfl (lv_at hl 0 rfl) ?_
    refine va_get (D := D) (ci := 9) (v := .int v_m_finds) (C := RX10) (T := TX10) (N := 24) hx hb hts il_X10_finding_X10 hown hK hP 0 rfl rfl 12 (by decide) (hts _ fk_X10_finding_2) (fun _ h9 => h9) rfl dX10_finding_36 ?_
    refine lv_icmp_gt (tgt := 291) hx hb dX10_finding_39 (by decide) (fun c_17 => ?_) (fun c_17 => ?_)
    · have hf := (if_pos c_17).symm.trans hf
      obtain rfl := Option.some.inj hf
      exact pa_ev X hP hD hS dX10_finding_291
    · have hf := (if_neg c_17).symm.trans hf
      refine lv_iload hx hb dX10_finding_42 (lv_at hl 4 rfl) ?_
      refine lv_aload_n hx hb dX10_finding_44 rfl (lv_at hl 0 rfl) ?_
      refine va_get (D := D) (ci := 9) (v := .int v_m_finds) (C := RX10) (T := TX10) (N := 24) hx hb hts il_X10_finding_X10 hown hK hP 0 rfl rfl 12 (by decide) (hts _ fk_X10_finding_2) (fun _ h9 => h9) rfl dX10_finding_45 ?_
      refine lv_icmp_ge (tgt := 63) hx hb dX10_finding_48 (by decide) (fun c_18 => ?_) (fun c_18 => ?_)
      · have hf := (if_pos c_18).symm.trans hf
        refine lv_sipush (v := (255 : Int32)) hx hb dX10_finding_63 (by decide) ?_
        exact w_X10_finding_b66 X hrec33 hf hP hD hS (lv_sub hl [0, 1, 2, 3, 4] rfl)
      · have hf := (if_neg c_18).symm.trans hf
        refine lv_aload_n hx hb dX10_finding_51 rfl (lv_at hl 0 rfl) ?_
        refine va_get (D := D) (ci := 9) (v := .ref a_mf) (C := RX10) (T := TX10) (N := 24) hx hb hts il_X10_finding_X10 hown hK hP 0 rfl rfl 13 (by decide) (hts _ fk_X10_finding_3) (fun _ h9 => h9) rfl dX10_finding_52 ?_
        refine lv_iconst (v := (2 : Int32)) hx hb dX10_finding_55 (by decide) ?_
        refine lv_iload hx hb dX10_finding_56 (lv_at hl 4 rfl) ?_
        refine lv_imul hx hb dX10_finding_58 ?_
        obtain ⟨hi_19, hf⟩ := pa_gd hf
        refine va_iald hx hb hK hP 2 0 rfl rfl hi_19 dX10_finding_59 ?_
        refine lv_goto (tgt := 66) hx hb dX10_finding_60 (by decide) ?_
        exact w_X10_finding_b66 X hrec33 hf hP hD hS (lv_sub hl [0, 1, 2, 3, 4] rfl)
set_option maxHeartbeats 4000000 in
set_option maxRecDepth 100000 in
theorem w_X10_finding_L9 {l : Launch} {D : va_G} {cI cJ : ClassId} {g : pa_GT} {a_m a_mt a_ml a_mr a_mx a_mf a_mg a_mw a_mh : Nat} {A : Nat → Prop} {p : Program} {e : Env} {s : State} {m : MethodId} {args : Array Value} {below : List Frame} {meth : Method} {c : Code} {x1 : Int32} {x4 : Int32} {x5 : Int32} {v_m_finds : Int32} {v_ml : Nat → Int32} {v_mf : Nat → Int32} {v_m_thrown : Int32} {v_m_trace : Int64} {v_m_typed : Int32} {v_m_next : Int32} {v_m_token : Int32} {v_m_place : Int32} {v_m_value : Int32} {v_m_fault : Int32} {v_m_weeks : Int32} {v_m_rows : Int32} {v_m_cardPrice : Int32} {v_m_lotPrice : Int32} {v_m_sure : Int32} {v_m_up : Int64} {v_m_down : Int64} {o : (Nat → Int32)} (X : pa_X cX10_finding 14 none RX10 wsX10_finding D cI cJ g A p s m args meth c)  : ∀ (n : Nat) (x6 : Int32) (v_mg : Nat → Int32), f_X10_finding_L9 x1 x4 x5 v_m_finds v_ml v_mf n x6 v_mg = some o → ∀ (H : Heap) (locs : List Loc) , va_P D vwCl (wo_X10_finding cI cJ a_m a_mt a_ml a_mr a_mx a_mf a_mg a_mw a_mh v_m_thrown v_m_trace v_m_typed v_m_next v_m_token v_m_place v_m_value v_m_fault v_m_finds v_m_weeks v_m_rows v_m_cardPrice v_m_lotPrice v_m_sure v_m_up v_m_down v_ml v_mf v_mg) H → va_D A (wo_X10_finding cI cJ a_m a_mt a_ml a_mr a_mx a_mf a_mg a_mw a_mh v_m_thrown v_m_trace v_m_typed v_m_next v_m_token v_m_place v_m_value v_m_fault v_m_finds v_m_weeks v_m_rows v_m_cardPrice v_m_lotPrice v_m_sure v_m_up v_m_down v_ml v_mf v_mg) → va_S A s.heap H locs → ∀ (ls : Array Slot), lv_has ls 14 [(0, .ref a_m), (1, .int x1), (4, .int x4), (5, .int x5), (6, .int x6)] → W p l e (headSpec wsX10_finding rm_X10_finding).room s m args below meth c H locs 0 0 (MQ below (va_Qv (fun (_ : Unit) => True) (pa_QB D A (wo_X10_finding cI cJ a_m a_mt a_ml a_mr a_mx a_mf a_mg a_mw a_mh v_m_thrown v_m_trace v_m_typed v_m_next v_m_token v_m_place v_m_value v_m_fault v_m_finds v_m_weeks v_m_rows v_m_cardPrice v_m_lotPrice v_m_sure v_m_up v_m_down v_ml v_mf o)) A) args s 0 0 A) (F0 m 9 ls []) := by
  obtain ⟨hx, hb, hr, hml, hown, hts, hK, hA, hG, hlk⟩ := id X
  intro n
  induction n with
  | zero =>
    intro x6 v_mg hf
    have hf : (none : Option ((Nat → Int32))) = some o := hf
    cases hf
  | succ n hrec9 =>
    intro x6 v_mg hf H locs  hP hD hS ls hl
    have hf : f_X10_finding_L9_body x1 x4 x5 v_m_finds v_ml v_mf (f_X10_finding_L9 x1 x4 x5 v_m_finds v_ml v_mf n) x6 v_mg = some o := hf
    delta f_X10_finding_L9_body at hf
    generalize hgr : f_X10_finding_L9 x1 x4 x5 v_m_finds v_ml v_mf n = rec9 at hf hrec9
    refine lv_iload hx hb dX10_finding_9 (lv_at hl 4 rfl) ?_
    refine lv_bipush (v := (8 : Int32)) hx hb dX10_finding_11 (by decide) ?_
    refine lv_icmp_ge (tgt := 30) hx hb dX10_finding_13 (by decide) (fun c_20 => ?_) (fun c_20 => ?_)
    · have hf := (if_pos c_20).symm.trans hf
      refine lv_iconst (v := (0 : Int32)) hx hb dX10_finding_30 (by decide) ?_
      refine lv_istore (lv' := [(6, .int (0 : Int32)), (0, .ref a_m), (1, .int x1), (4, .int x4), (5, .int x5)]) hx hb dX10_finding_31 hl (by decide) rfl (fun ls hl => ?_)
      exact w_X10_finding_L33 X  _ _ _ _ _ hf _ _  hP hD hS _ (lv_sub hl [1, 2, 3, 4, 0] rfl)
    · have hf := (if_neg c_20).symm.trans hf
      refine lv_aload_n hx hb dX10_finding_16 rfl (lv_at hl 0 rfl) ?_
      refine va_get (D := D) (ci := 9) (v := .ref a_mg) (C := RX10) (T := TX10) (N := 24) hx hb hts il_X10_finding_X10 hown hK hP 0 rfl rfl 14 (by decide) (hts _ fk_X10_finding_0) (fun _ h9 => h9) rfl dX10_finding_17 ?_
      refine lv_iload hx hb dX10_finding_20 (lv_at hl 4 rfl) ?_
      refine lv_iconst (v := (0 : Int32)) hx hb dX10_finding_22 (by decide) ?_
      obtain ⟨hi_21, hf⟩ := pa_gd hf
      refine va_iast hx hb hK hP hD hS 3 0 rfl rfl hi_21 dX10_finding_23 (fun H locs hP hD hS => ?_)
      have hP : va_P D vwCl (wo_X10_finding cI cJ a_m a_mt a_ml a_mr a_mx a_mf a_mg a_mw a_mh v_m_thrown v_m_trace v_m_typed v_m_next v_m_token v_m_place v_m_value v_m_fault v_m_finds v_m_weeks v_m_rows v_m_cardPrice v_m_lotPrice v_m_sure v_m_up v_m_down v_ml v_mf (upd v_mg (Int32.toNatClampNeg x6) (0 : Int32))) H := hP
      have hD : va_D A (wo_X10_finding cI cJ a_m a_mt a_ml a_mr a_mx a_mf a_mg a_mw a_mh v_m_thrown v_m_trace v_m_typed v_m_next v_m_token v_m_place v_m_value v_m_fault v_m_finds v_m_weeks v_m_rows v_m_cardPrice v_m_lotPrice v_m_sure v_m_up v_m_down v_ml v_mf (upd v_mg (Int32.toNatClampNeg x6) (0 : Int32))) := hD
      refine lv_iinc (v := (x6 + (1 : Int32))) (lv' := [(6, .int (x6 + (1 : Int32))), (0, .ref a_m), (1, .int x1), (4, .int x4), (5, .int x5)]) hx hb dX10_finding_24 hl (k := 4) rfl rfl (by decide) rfl (fun ls hl => ?_)
      refine lv_goto (tgt := 9) hx hb dX10_finding_27 (by decide) ?_
      exact hrec9 _ _ hf _ _  hP hD hS _ (lv_sub hl [1, 2, 3, 4, 0] rfl)
set_option maxHeartbeats 4000000 in
set_option maxRecDepth 100000 in
theorem w_X10_finding_b0 {l : Launch} {D : va_G} {cI cJ : ClassId} {g : pa_GT} {a_m a_mt a_ml a_mr a_mx a_mf a_mg a_mw a_mh : Nat} {A : Nat → Prop} {p : Program} {e : Env} {s : State} {m : MethodId} {args : Array Value} {below : List Frame} {meth : Method} {c : Code} {x1 : Int32} {x2 : Int32} {x3 : Int32} {v_m_finds : Int32} {v_ml : Nat → Int32} {v_mf : Nat → Int32} {v_mg : Nat → Int32} {v_m_thrown : Int32} {v_m_trace : Int64} {v_m_typed : Int32} {v_m_next : Int32} {v_m_token : Int32} {v_m_place : Int32} {v_m_value : Int32} {v_m_fault : Int32} {v_m_weeks : Int32} {v_m_rows : Int32} {v_m_cardPrice : Int32} {v_m_lotPrice : Int32} {v_m_sure : Int32} {v_m_up : Int64} {v_m_down : Int64} {o : (Nat → Int32)} (X : pa_X cX10_finding 14 none RX10 wsX10_finding D cI cJ g A p s m args meth c)  (hf : f_X10_finding x1 x2 x3 v_m_finds v_ml v_mf v_mg = some o) {H : Heap} {locs : List Loc} (hP : va_P D vwCl (wo_X10_finding cI cJ a_m a_mt a_ml a_mr a_mx a_mf a_mg a_mw a_mh v_m_thrown v_m_trace v_m_typed v_m_next v_m_token v_m_place v_m_value v_m_fault v_m_finds v_m_weeks v_m_rows v_m_cardPrice v_m_lotPrice v_m_sure v_m_up v_m_down v_ml v_mf v_mg) H) (hD : va_D A (wo_X10_finding cI cJ a_m a_mt a_ml a_mr a_mx a_mf a_mg a_mw a_mh v_m_thrown v_m_trace v_m_typed v_m_next v_m_token v_m_place v_m_value v_m_fault v_m_finds v_m_weeks v_m_rows v_m_cardPrice v_m_lotPrice v_m_sure v_m_up v_m_down v_ml v_mf v_mg)) (hS : va_S A s.heap H locs) {ls : Array Slot} (hl : lv_has ls 14 [(0, .ref a_m), (1, .int x1), (2, .int x2), (3, .int x3)]) : W p l e (headSpec wsX10_finding rm_X10_finding).room s m args below meth c H locs 0 0 (MQ below (va_Qv (fun (_ : Unit) => True) (pa_QB D A (wo_X10_finding cI cJ a_m a_mt a_ml a_mr a_mx a_mf a_mg a_mw a_mh v_m_thrown v_m_trace v_m_typed v_m_next v_m_token v_m_place v_m_value v_m_fault v_m_finds v_m_weeks v_m_rows v_m_cardPrice v_m_lotPrice v_m_sure v_m_up v_m_down v_ml v_mf o)) A) args s 0 0 A) (F0 m 0 ls []) := by
  obtain ⟨hx, hb, hr, hml, hown, hts, hK, hA, hG, hlk⟩ := id X
  delta f_X10_finding at hf
  refine lv_iload_n hx hb dX10_finding_0 rfl (lv_at hl 2 rfl) ?_
  refine lv_istore (lv' := [(4, .int x2), (0, .ref a_m), (1, .int x1), (2, .int x2), (3, .int x3)]) hx hb dX10_finding_1 hl (by decide) rfl (fun ls hl => ?_)
  refine lv_iload_n hx hb dX10_finding_3 rfl (lv_at hl 4 rfl) ?_
  refine lv_istore (lv' := [(5, .int x3), (4, .int x2), (0, .ref a_m), (1, .int x1), (2, .int x2), (3, .int x3)]) hx hb dX10_finding_4 hl (by decide) rfl (fun ls hl => ?_)
  refine lv_iconst (v := (0 : Int32)) hx hb dX10_finding_6 (by decide) ?_
  refine lv_istore (lv' := [(6, .int (0 : Int32)), (5, .int x3), (4, .int x2), (0, .ref a_m), (1, .int x1), (2, .int x2), (3, .int x3)]) hx hb dX10_finding_7 hl (by decide) rfl (fun ls hl => ?_)
  exact w_X10_finding_L9 X  _ _ _ hf _ _  hP hD hS _ (lv_sub hl [3, 4, 2, 1, 0] rfl)
set_option maxHeartbeats 4000000 in
set_option maxRecDepth 100000 in
theorem c_X10_finding {l : Launch} {D : va_G} {cI cJ : ClassId} {g : pa_GT} {a_m a_mt a_ml a_mr a_mx a_mf a_mg a_mw a_mh : Nat} {x1 : Int32} {x2 : Int32} {x3 : Int32} {v_m_thrown : Int32} {v_m_trace : Int64} {v_m_typed : Int32} {v_m_next : Int32} {v_m_token : Int32} {v_m_place : Int32} {v_m_value : Int32} {v_m_fault : Int32} {v_m_finds : Int32} {v_m_weeks : Int32} {v_m_rows : Int32} {v_m_cardPrice : Int32} {v_m_lotPrice : Int32} {v_m_sure : Int32} {v_m_up : Int64} {v_m_down : Int64} {v_ml : Nat → Int32} {v_mf : Nat → Int32} {v_mg : Nat → Int32} {o : (Nat → Int32)} (hf : f_X10_finding x1 x2 x3 v_m_finds v_ml v_mf v_mg = some o) : pa_Mv l yX10_finding wsX10_finding rm_X10_finding D cI cJ g [.ref a_m, .int x1, .int x2, .int x3] (wo_X10_finding cI cJ a_m a_mt a_ml a_mr a_mx a_mf a_mg a_mw a_mh v_m_thrown v_m_trace v_m_typed v_m_next v_m_token v_m_place v_m_value v_m_fault v_m_finds v_m_weeks v_m_rows v_m_cardPrice v_m_lotPrice v_m_sure v_m_up v_m_down v_ml v_mf v_mg) (wo_X10_finding cI cJ a_m a_mt a_ml a_mr a_mx a_mf a_mg a_mw a_mh v_m_thrown v_m_trace v_m_typed v_m_next v_m_token v_m_place v_m_value v_m_fault v_m_finds v_m_weeks v_m_rows v_m_cardPrice v_m_lotPrice v_m_sure v_m_up v_m_down v_ml v_mf o) := by
  intro sz
  refine pa_met (cc := cX10_finding) (maxL := 14) (ret := none) (lv := [(0, .ref a_m), (1, .int x1), (2, .int x2), (3, .int x3)]) (by decide) rfl (Nat.le_of_ble_eq_true rfl) rfl ?_
  intro p e s m below meth c X hsz hP hD ls hl
  subst hsz
  exact w_X10_finding_b0 X hf hP hD va_S.rf hl
abbrev wo_X10_gotOf (cI cJ : ClassId) (a_m a_mt a_ml a_mr a_mx a_mf a_mg a_mw a_mh : Nat) (v_m_thrown : Int32) (v_m_trace : Int64) (v_m_typed : Int32) (v_m_next : Int32) (v_m_token : Int32) (v_m_place : Int32) (v_m_value : Int32) (v_m_fault : Int32) (v_m_finds : Int32) (v_m_weeks : Int32) (v_m_rows : Int32) (v_m_cardPrice : Int32) (v_m_lotPrice : Int32) (v_m_sure : Int32) (v_m_up : Int64) (v_m_down : Int64) (v_mg : Nat → Int32) : va_W := [(a_m, .inr (9, [.int v_m_thrown, .long v_m_trace, .ref a_mt, .ref a_ml, .ref a_mr, .ref a_mx, .int v_m_typed, .int v_m_next, .int v_m_token, .int v_m_place, .int v_m_value, .int v_m_fault, .int v_m_finds, .ref a_mf, .ref a_mg, .int v_m_weeks, .ref a_mw, .int v_m_rows, .ref a_mh, .int v_m_cardPrice, .int v_m_lotPrice, .int v_m_sure, .long v_m_up, .long v_m_down])), (a_mg, .inl (cI, 8, .inl v_mg))]
abbrev rm_X10_gotOf : Room := { frames := 0, cells := 0, slots := 0, locals := 0 }
theorem il_X10_gotOf_X10 : ∀ w ∈ wsX100, w ∈ wsX10_gotOf := by decide +kernel
theorem fk_X10_gotOf_0 : Cond.fieldLink RX10 26 "PostedAsksModel" "got" "[I" ∈ wsX10_gotOf := by decide +kernel
def f_X10_gotOf_L4_body (x1 : Int32) (v_mg : Nat → Int32) (rec4 : Int32 → Int32 → Option (Int32)) (x2 : Int32) (x3 : Int32) : Option (Int32) :=
  if (8 : Int32) ≤ x3 then
    some (x2)
  else
    if ((x1 >>> (x3 &&& 31)) &&& (1 : Int32)) = (1 : Int32) then
      if pa_ib x3 8 = true then
        rec4 (x2 + (v_mg (Int32.toNatClampNeg x3))) (x3 + (1 : Int32))
      else none
    else
      rec4 (x2 + (0 : Int32)) (x3 + (1 : Int32))
def f_X10_gotOf_L4 (x1 : Int32) (v_mg : Nat → Int32) : Nat → Int32 → Int32 → Option (Int32)
  | 0 => fun _ _ => none
  | n + 1 => f_X10_gotOf_L4_body x1 v_mg (f_X10_gotOf_L4 x1 v_mg n)
def f_X10_gotOf (x1 : Int32) (v_mg : Nat → Int32) : Option (Int32) :=
  f_X10_gotOf_L4 x1 v_mg pa_fu (0 : Int32) (0 : Int32)
set_option maxHeartbeats 4000000 in
set_option maxRecDepth 100000 in
theorem w_X10_gotOf_L4 {l : Launch} {D : va_G} {cI cJ : ClassId} {g : pa_GT} {a_m a_mt a_ml a_mr a_mx a_mf a_mg a_mw a_mh : Nat} {A : Nat → Prop} {p : Program} {e : Env} {s : State} {m : MethodId} {args : Array Value} {below : List Frame} {meth : Method} {c : Code} {x1 : Int32} {v_mg : Nat → Int32} {v_m_thrown : Int32} {v_m_trace : Int64} {v_m_typed : Int32} {v_m_next : Int32} {v_m_token : Int32} {v_m_place : Int32} {v_m_value : Int32} {v_m_fault : Int32} {v_m_finds : Int32} {v_m_weeks : Int32} {v_m_rows : Int32} {v_m_cardPrice : Int32} {v_m_lotPrice : Int32} {v_m_sure : Int32} {v_m_up : Int64} {v_m_down : Int64} {o : Int32} (X : pa_X cX10_gotOf 4 (some .int) RX10 wsX10_gotOf D cI cJ g A p s m args meth c)  : ∀ (n : Nat) (x2 : Int32) (x3 : Int32), f_X10_gotOf_L4 x1 v_mg n x2 x3 = some o → ∀ (H : Heap) (locs : List Loc) , va_P D vwCl (wo_X10_gotOf cI cJ a_m a_mt a_ml a_mr a_mx a_mf a_mg a_mw a_mh v_m_thrown v_m_trace v_m_typed v_m_next v_m_token v_m_place v_m_value v_m_fault v_m_finds v_m_weeks v_m_rows v_m_cardPrice v_m_lotPrice v_m_sure v_m_up v_m_down v_mg) H → va_D A (wo_X10_gotOf cI cJ a_m a_mt a_ml a_mr a_mx a_mf a_mg a_mw a_mh v_m_thrown v_m_trace v_m_typed v_m_next v_m_token v_m_place v_m_value v_m_fault v_m_finds v_m_weeks v_m_rows v_m_cardPrice v_m_lotPrice v_m_sure v_m_up v_m_down v_mg) → va_S A s.heap H locs → ∀ (ls : Array Slot), lv_has ls 4 [(0, .ref a_m), (1, .int x1), (2, .int x2), (3, .int x3)] → W p l e (headSpec wsX10_gotOf rm_X10_gotOf).room s m args below meth c H locs 0 0 (MQ below (va_Qi (fun r (_ : Unit) => r = o) (pa_QB D A (wo_X10_gotOf cI cJ a_m a_mt a_ml a_mr a_mx a_mf a_mg a_mw a_mh v_m_thrown v_m_trace v_m_typed v_m_next v_m_token v_m_place v_m_value v_m_fault v_m_finds v_m_weeks v_m_rows v_m_cardPrice v_m_lotPrice v_m_sure v_m_up v_m_down v_mg)) A) args s 0 0 A) (F0 m 4 ls []) := by
  obtain ⟨hx, hb, hr, hml, hown, hts, hK, hA, hG, hlk⟩ := id X
  intro n
  induction n with
  | zero =>
    intro x2 x3 hf
    have hf : (none : Option (Int32)) = some o := hf
    cases hf
  | succ n hrec4 =>
    intro x2 x3 hf H locs  hP hD hS ls hl
    have hf : f_X10_gotOf_L4_body x1 v_mg (f_X10_gotOf_L4 x1 v_mg n) x2 x3 = some o := hf
    delta f_X10_gotOf_L4_body at hf
    generalize hgr : f_X10_gotOf_L4 x1 v_mg n = rec4 at hf hrec4
    refine lv_iload_n hx hb dX10_gotOf_4 rfl (lv_at hl 3 rfl) ?_
    refine lv_bipush (v := (8 : Int32)) hx hb dX10_gotOf_5 (by decide) ?_
    refine lv_icmp_ge (tgt := 38) hx hb dX10_gotOf_7 (by decide) (fun c_1 => ?_) (fun c_1 => ?_)
    · have hf := (if_pos c_1).symm.trans hf
      refine lv_iload_n hx hb dX10_gotOf_38 rfl (lv_at hl 2 rfl) ?_
      obtain rfl := Option.some.inj hf
      exact pa_ei X hP hD hS dX10_gotOf_39
    · have hf := (if_neg c_1).symm.trans hf
      refine lv_iload_n hx hb dX10_gotOf_10 rfl (lv_at hl 2 rfl) ?_
      refine lv_iload_n hx hb dX10_gotOf_11 rfl (lv_at hl 1 rfl) ?_
      refine lv_iload_n hx hb dX10_gotOf_12 rfl (lv_at hl 3 rfl) ?_
      refine lv_ishr hx hb dX10_gotOf_13 ?_
      refine lv_iconst (v := (1 : Int32)) hx hb dX10_gotOf_14 (by decide) ?_
      refine lv_iand hx hb dX10_gotOf_15 ?_
      refine lv_iconst (v := (1 : Int32)) hx hb dX10_gotOf_16 (by decide) ?_
      refine lv_icmp_ne (tgt := 29) hx hb dX10_gotOf_17 (by decide) (fun c_2 => ?_) (fun c_2 => ?_)
      · have hf := (if_neg c_2).symm.trans hf
        refine lv_iconst (v := (0 : Int32)) hx hb dX10_gotOf_29 (by decide) ?_
        refine lv_iadd hx hb dX10_gotOf_30 ?_
        refine lv_istore_n (lv' := [(2, .int (x2 + (0 : Int32))), (0, .ref a_m), (1, .int x1), (3, .int x3)]) hx hb dX10_gotOf_31 rfl hl (by decide) rfl (fun ls hl => ?_)
        refine lv_iinc (v := (x3 + (1 : Int32))) (lv' := [(3, .int (x3 + (1 : Int32))), (2, .int (x2 + (0 : Int32))), (0, .ref a_m), (1, .int x1)]) hx hb dX10_gotOf_32 hl (k := 3) rfl rfl (by decide) rfl (fun ls hl => ?_)
        refine lv_goto (tgt := 4) hx hb dX10_gotOf_35 (by decide) ?_
        exact hrec4 _ _ hf _ _  hP hD hS _ (lv_sub hl [2, 3, 1, 0] rfl)
      · have hf := (if_pos c_2).symm.trans hf
        refine lv_aload_n hx hb dX10_gotOf_20 rfl (lv_at hl 0 rfl) ?_
        refine va_get (D := D) (ci := 9) (v := .ref a_mg) (C := RX10) (T := TX10) (N := 24) hx hb hts il_X10_gotOf_X10 hown hK hP 0 rfl rfl 14 (by decide) (hts _ fk_X10_gotOf_0) (fun _ h9 => h9) rfl dX10_gotOf_21 ?_
        refine lv_iload_n hx hb dX10_gotOf_24 rfl (lv_at hl 3 rfl) ?_
        obtain ⟨hi_3, hf⟩ := pa_gd hf
        refine va_iald hx hb hK hP 1 0 rfl rfl hi_3 dX10_gotOf_25 ?_
        refine lv_goto (tgt := 30) hx hb dX10_gotOf_26 (by decide) ?_
        refine lv_iadd hx hb dX10_gotOf_30 ?_
        refine lv_istore_n (lv' := [(2, .int (x2 + (v_mg (Int32.toNatClampNeg x3)))), (0, .ref a_m), (1, .int x1), (3, .int x3)]) hx hb dX10_gotOf_31 rfl hl (by decide) rfl (fun ls hl => ?_)
        refine lv_iinc (v := (x3 + (1 : Int32))) (lv' := [(3, .int (x3 + (1 : Int32))), (2, .int (x2 + (v_mg (Int32.toNatClampNeg x3)))), (0, .ref a_m), (1, .int x1)]) hx hb dX10_gotOf_32 hl (k := 3) rfl rfl (by decide) rfl (fun ls hl => ?_)
        refine lv_goto (tgt := 4) hx hb dX10_gotOf_35 (by decide) ?_
        exact hrec4 _ _ hf _ _  hP hD hS _ (lv_sub hl [2, 3, 1, 0] rfl)
set_option maxHeartbeats 4000000 in
set_option maxRecDepth 100000 in
theorem w_X10_gotOf_b0 {l : Launch} {D : va_G} {cI cJ : ClassId} {g : pa_GT} {a_m a_mt a_ml a_mr a_mx a_mf a_mg a_mw a_mh : Nat} {A : Nat → Prop} {p : Program} {e : Env} {s : State} {m : MethodId} {args : Array Value} {below : List Frame} {meth : Method} {c : Code} {x1 : Int32} {v_mg : Nat → Int32} {v_m_thrown : Int32} {v_m_trace : Int64} {v_m_typed : Int32} {v_m_next : Int32} {v_m_token : Int32} {v_m_place : Int32} {v_m_value : Int32} {v_m_fault : Int32} {v_m_finds : Int32} {v_m_weeks : Int32} {v_m_rows : Int32} {v_m_cardPrice : Int32} {v_m_lotPrice : Int32} {v_m_sure : Int32} {v_m_up : Int64} {v_m_down : Int64} {o : Int32} (X : pa_X cX10_gotOf 4 (some .int) RX10 wsX10_gotOf D cI cJ g A p s m args meth c)  (hf : f_X10_gotOf x1 v_mg = some o) {H : Heap} {locs : List Loc} (hP : va_P D vwCl (wo_X10_gotOf cI cJ a_m a_mt a_ml a_mr a_mx a_mf a_mg a_mw a_mh v_m_thrown v_m_trace v_m_typed v_m_next v_m_token v_m_place v_m_value v_m_fault v_m_finds v_m_weeks v_m_rows v_m_cardPrice v_m_lotPrice v_m_sure v_m_up v_m_down v_mg) H) (hD : va_D A (wo_X10_gotOf cI cJ a_m a_mt a_ml a_mr a_mx a_mf a_mg a_mw a_mh v_m_thrown v_m_trace v_m_typed v_m_next v_m_token v_m_place v_m_value v_m_fault v_m_finds v_m_weeks v_m_rows v_m_cardPrice v_m_lotPrice v_m_sure v_m_up v_m_down v_mg)) (hS : va_S A s.heap H locs) {ls : Array Slot} (hl : lv_has ls 4 [(0, .ref a_m), (1, .int x1)]) : W p l e (headSpec wsX10_gotOf rm_X10_gotOf).room s m args below meth c H locs 0 0 (MQ below (va_Qi (fun r (_ : Unit) => r = o) (pa_QB D A (wo_X10_gotOf cI cJ a_m a_mt a_ml a_mr a_mx a_mf a_mg a_mw a_mh v_m_thrown v_m_trace v_m_typed v_m_next v_m_token v_m_place v_m_value v_m_fault v_m_finds v_m_weeks v_m_rows v_m_cardPrice v_m_lotPrice v_m_sure v_m_up v_m_down v_mg)) A) args s 0 0 A) (F0 m 0 ls []) := by
  obtain ⟨hx, hb, hr, hml, hown, hts, hK, hA, hG, hlk⟩ := id X
  delta f_X10_gotOf at hf
  refine lv_iconst (v := (0 : Int32)) hx hb dX10_gotOf_0 (by decide) ?_
  refine lv_istore_n (lv' := [(2, .int (0 : Int32)), (0, .ref a_m), (1, .int x1)]) hx hb dX10_gotOf_1 rfl hl (by decide) rfl (fun ls hl => ?_)
  refine lv_iconst (v := (0 : Int32)) hx hb dX10_gotOf_2 (by decide) ?_
  refine lv_istore_n (lv' := [(3, .int (0 : Int32)), (2, .int (0 : Int32)), (0, .ref a_m), (1, .int x1)]) hx hb dX10_gotOf_3 rfl hl (by decide) rfl (fun ls hl => ?_)
  exact w_X10_gotOf_L4 X  _ _ _ hf _ _  hP hD hS _ (lv_sub hl [2, 3, 1, 0] rfl)
set_option maxHeartbeats 4000000 in
set_option maxRecDepth 100000 in
theorem c_X10_gotOf {l : Launch} {D : va_G} {cI cJ : ClassId} {g : pa_GT} {a_m a_mt a_ml a_mr a_mx a_mf a_mg a_mw a_mh : Nat} {x1 : Int32} {v_m_thrown : Int32} {v_m_trace : Int64} {v_m_typed : Int32} {v_m_next : Int32} {v_m_token : Int32} {v_m_place : Int32} {v_m_value : Int32} {v_m_fault : Int32} {v_m_finds : Int32} {v_m_weeks : Int32} {v_m_rows : Int32} {v_m_cardPrice : Int32} {v_m_lotPrice : Int32} {v_m_sure : Int32} {v_m_up : Int64} {v_m_down : Int64} {v_mg : Nat → Int32} {o : Int32} (hf : f_X10_gotOf x1 v_mg = some o) : pa_Mi l yX10_gotOf wsX10_gotOf rm_X10_gotOf D cI cJ g [.ref a_m, .int x1] (wo_X10_gotOf cI cJ a_m a_mt a_ml a_mr a_mx a_mf a_mg a_mw a_mh v_m_thrown v_m_trace v_m_typed v_m_next v_m_token v_m_place v_m_value v_m_fault v_m_finds v_m_weeks v_m_rows v_m_cardPrice v_m_lotPrice v_m_sure v_m_up v_m_down v_mg) (wo_X10_gotOf cI cJ a_m a_mt a_ml a_mr a_mx a_mf a_mg a_mw a_mh v_m_thrown v_m_trace v_m_typed v_m_next v_m_token v_m_place v_m_value v_m_fault v_m_finds v_m_weeks v_m_rows v_m_cardPrice v_m_lotPrice v_m_sure v_m_up v_m_down v_mg) o := by
  intro sz
  refine pa_met (cc := cX10_gotOf) (maxL := 4) (ret := (some .int)) (lv := [(0, .ref a_m), (1, .int x1)]) (by decide) rfl (Nat.le_of_ble_eq_true rfl) rfl ?_
  intro p e s m below meth c X hsz hP hD ls hl
  subst hsz
  exact w_X10_gotOf_b0 X hf hP hD va_S.rf hl
abbrev rm_X10_isAsked : Room := { frames := 2, cells := 0, slots := 0, locals := 42 }
def f_X10_isAsked (x0 : Int32) (x1 : Int32) (x2 : Int32) : Option (Int32) :=
  (f_X10_isLand x0).bind fun u_1 =>
  if u_1 = 0 then
    some ((0 : Int32))
  else
    (f_X10_in x1 (0 : Int32) (50 : Int32)).bind fun u_4 =>
    if u_4 = 0 then
      some ((0 : Int32))
    else
      (f_X10_in x2 (0 : Int32) (50 : Int32)).bind fun u_7 =>
      if u_7 = 0 then
        some ((0 : Int32))
      else
        some ((1 : Int32))
set_option maxHeartbeats 4000000 in
set_option maxRecDepth 100000 in
theorem w_X10_isAsked_b0 {l : Launch} {D : va_G} {cI cJ : ClassId} {g : pa_GT} {A : Nat → Prop} {p : Program} {e : Env} {s : State} {m : MethodId} {args : Array Value} {below : List Frame} {meth : Method} {c : Code} {x0 : Int32} {x1 : Int32} {x2 : Int32}  {o : Int32} (X : pa_X cX10_isAsked 3 (some .boolean) RX10 wsX10_isAsked D cI cJ g A p s m args meth c)  (hf : f_X10_isAsked x0 x1 x2 = some o) {H : Heap} {locs : List Loc} (hP : va_P D vwCl ([] : va_W) H) (hD : va_D A ([] : va_W)) (hS : va_S A s.heap H locs) {ls : Array Slot} (hl : lv_has ls 3 [(0, .int x0), (1, .int x1), (2, .int x2)]) : W p l e (headSpec wsX10_isAsked rm_X10_isAsked).room s m args below meth c H locs 0 0 (MQ below (va_Qi (fun r (_ : Unit) => r = o) (pa_QB D A ([] : va_W)) A) args s 0 0 A) (F0 m 0 ls []) := by
  obtain ⟨hx, hb, hr, hml, hown, hts, hK, hA, hG, hlk⟩ := id X
  delta f_X10_isAsked at hf
  refine lv_iload_n hx hb dX10_isAsked_0 rfl (lv_at hl 0 rfl) ?_
  obtain ⟨u_1, hg_2, hf⟩ := pa_bd hf
  refine pa_ki (wc := ([] : va_W)) (wr := ([] : va_W)) (w1 := ([] : va_W)) (w2 := ([] : va_W)) X hP hD hS [] [] [] rfl (pa_rS (As := [.int x0]) (rest := []) X hP hD hS [] rfl rfl (c_X10_isLand hg_2 H.size) (va_cwS 1 hts gX10_isAsked_X10_isLand rfl rfl rfl (by decide +kernel) ⟨Nat.le_of_ble_eq_true rfl, Nat.le_of_ble_eq_true rfl⟩) rfl hl.1 rfl (Nat.le_of_ble_eq_true rfl) dX10_isAsked_1 ⟨Nat.zero_le _, Nat.zero_le _⟩) rfl rfl (by decide) rfl rfl (fun H locs hP hD hS => ?_)
  refine lv_if_eq (tgt := 31) hx hb dX10_isAsked_4 (by decide) (fun c_3 => ?_) (fun c_3 => ?_)
  · have hf := (if_pos c_3).symm.trans hf
    refine lv_iconst (v := (0 : Int32)) hx hb dX10_isAsked_31 (by decide) ?_
    obtain rfl := Option.some.inj hf
    exact pa_ez (v := (0 : Int32)) X hP hD hS rfl dX10_isAsked_32
  · have hf := (if_neg c_3).symm.trans hf
    refine lv_iload_n hx hb dX10_isAsked_7 rfl (lv_at hl 1 rfl) ?_
    refine lv_iconst (v := (0 : Int32)) hx hb dX10_isAsked_8 (by decide) ?_
    refine lv_bipush (v := (50 : Int32)) hx hb dX10_isAsked_9 (by decide) ?_
    obtain ⟨u_4, hg_5, hf⟩ := pa_bd hf
    refine pa_ki (wc := ([] : va_W)) (wr := ([] : va_W)) (w1 := ([] : va_W)) (w2 := ([] : va_W)) X hP hD hS [] [] [] rfl (pa_rS (As := [.int x1, .int (0 : Int32), .int (50 : Int32)]) (rest := []) X hP hD hS [] rfl rfl (c_X10_in hg_5 H.size) (va_cwS 3 hts gX10_isAsked_X10_in rfl rfl rfl (by decide +kernel) ⟨Nat.le_of_ble_eq_true rfl, Nat.le_of_ble_eq_true rfl⟩) rfl hl.1 rfl (Nat.le_of_ble_eq_true rfl) dX10_isAsked_11 ⟨Nat.zero_le _, Nat.zero_le _⟩) rfl rfl (by decide) rfl rfl (fun H locs hP hD hS => ?_)
    refine lv_if_eq (tgt := 31) hx hb dX10_isAsked_14 (by decide) (fun c_6 => ?_) (fun c_6 => ?_)
    · have hf := (if_pos c_6).symm.trans hf
      refine lv_iconst (v := (0 : Int32)) hx hb dX10_isAsked_31 (by decide) ?_
      obtain rfl := Option.some.inj hf
      exact pa_ez (v := (0 : Int32)) X hP hD hS rfl dX10_isAsked_32
    · have hf := (if_neg c_6).symm.trans hf
      refine lv_iload_n hx hb dX10_isAsked_17 rfl (lv_at hl 2 rfl) ?_
      refine lv_iconst (v := (0 : Int32)) hx hb dX10_isAsked_18 (by decide) ?_
      refine lv_bipush (v := (50 : Int32)) hx hb dX10_isAsked_19 (by decide) ?_
      obtain ⟨u_7, hg_8, hf⟩ := pa_bd hf
      refine pa_ki (wc := ([] : va_W)) (wr := ([] : va_W)) (w1 := ([] : va_W)) (w2 := ([] : va_W)) X hP hD hS [] [] [] rfl (pa_rS (As := [.int x2, .int (0 : Int32), .int (50 : Int32)]) (rest := []) X hP hD hS [] rfl rfl (c_X10_in hg_8 H.size) (va_cwS 3 hts gX10_isAsked_X10_in rfl rfl rfl (by decide +kernel) ⟨Nat.le_of_ble_eq_true rfl, Nat.le_of_ble_eq_true rfl⟩) rfl hl.1 rfl (Nat.le_of_ble_eq_true rfl) dX10_isAsked_21 ⟨Nat.zero_le _, Nat.zero_le _⟩) rfl rfl (by decide) rfl rfl (fun H locs hP hD hS => ?_)
      refine lv_if_eq (tgt := 31) hx hb dX10_isAsked_24 (by decide) (fun c_9 => ?_) (fun c_9 => ?_)
      · have hf := (if_pos c_9).symm.trans hf
        refine lv_iconst (v := (0 : Int32)) hx hb dX10_isAsked_31 (by decide) ?_
        obtain rfl := Option.some.inj hf
        exact pa_ez (v := (0 : Int32)) X hP hD hS rfl dX10_isAsked_32
      · have hf := (if_neg c_9).symm.trans hf
        refine lv_iconst (v := (1 : Int32)) hx hb dX10_isAsked_27 (by decide) ?_
        refine lv_goto (tgt := 32) hx hb dX10_isAsked_28 (by decide) ?_
        obtain rfl := Option.some.inj hf
        exact pa_ez (v := (1 : Int32)) X hP hD hS rfl dX10_isAsked_32
set_option maxHeartbeats 4000000 in
set_option maxRecDepth 100000 in
theorem c_X10_isAsked {l : Launch} {D : va_G} {cI cJ : ClassId} {g : pa_GT} {x0 : Int32} {x1 : Int32} {x2 : Int32}  {o : Int32} (hf : f_X10_isAsked x0 x1 x2 = some o) : pa_Mi l yX10_isAsked wsX10_isAsked rm_X10_isAsked D cI cJ g [.int x0, .int x1, .int x2] ([] : va_W) ([] : va_W) o := by
  intro sz
  refine pa_met (cc := cX10_isAsked) (maxL := 3) (ret := (some .boolean)) (lv := [(0, .int x0), (1, .int x1), (2, .int x2)]) (by decide) rfl (Nat.le_of_ble_eq_true rfl) rfl ?_
  intro p e s m below meth c X hsz hP hD ls hl
  subst hsz
  exact w_X10_isAsked_b0 X hf hP hD va_S.rf hl
abbrev wo_X10_found (cI cJ : ClassId) (a_m a_mt a_ml a_mr a_mx a_mf a_mg a_mw a_mh : Nat) (v_m_thrown : Int32) (v_m_trace : Int64) (v_m_typed : Int32) (v_m_next : Int32) (v_m_token : Int32) (v_m_place : Int32) (v_m_value : Int32) (v_m_fault : Int32) (v_m_finds : Int32) (v_m_weeks : Int32) (v_m_rows : Int32) (v_m_cardPrice : Int32) (v_m_lotPrice : Int32) (v_m_sure : Int32) (v_m_up : Int64) (v_m_down : Int64) (v_ml : Nat → Int32) (v_mf : Nat → Int32) (v_mg : Nat → Int32) : va_W := [(a_m, .inr (9, [.int v_m_thrown, .long v_m_trace, .ref a_mt, .ref a_ml, .ref a_mr, .ref a_mx, .int v_m_typed, .int v_m_next, .int v_m_token, .int v_m_place, .int v_m_value, .int v_m_fault, .int v_m_finds, .ref a_mf, .ref a_mg, .int v_m_weeks, .ref a_mw, .int v_m_rows, .ref a_mh, .int v_m_cardPrice, .int v_m_lotPrice, .int v_m_sure, .long v_m_up, .long v_m_down])), (a_ml, .inl (cI, 32, .inl v_ml)), (a_mf, .inl (cI, 50, .inl v_mf)), (a_mg, .inl (cI, 8, .inl v_mg))]
abbrev rm_X10_found : Room := { frames := 3, cells := 0, slots := 0, locals := 64 }
theorem il_X10_found_X10 : ∀ w ∈ wsX100, w ∈ wsX10_found := by decide +kernel
theorem fk_X10_found_0 : Cond.fieldLink RX10 45 "PostedAsksModel" "thrown" "I" ∈ wsX10_found := by decide +kernel
theorem fk_X10_found_1 : Cond.fieldLink RX10 26 "PostedAsksModel" "got" "[I" ∈ wsX10_found := by decide +kernel
def f_X10_found (x1 : Int32) (x2 : Int32) (x3 : Int32) (x4 : Int32) (v_m_finds : Int32) (v_ml : Nat → Int32) (v_mf : Nat → Int32) (v_mg : Nat → Int32) : Option (Int32 × Int32 × (Nat → Int32)) :=
  (f_X10_isAsked x1 x2 x3).bind fun u_1 =>
  if u_1 = 0 then
    some ((-1 : Int32), (0 : Int32), v_mg)
  else
    (f_X10_in x4 (0 : Int32) (8 : Int32)).bind fun u_4 =>
    if u_4 = 0 then
      some ((-1 : Int32), (0 : Int32), v_mg)
    else
      (f_X10_finding x1 x2 x3 v_m_finds v_ml v_mf v_mg).bind fun u_7 =>
      if x4 = (8 : Int32) then
        (f_X10_gotOf (255 : Int32) u_7).bind fun u_11 =>
        some (u_11, (0 : Int32), u_7)
      else
        if pa_ib x4 8 = true then
          some ((u_7 (Int32.toNatClampNeg x4)), (0 : Int32), u_7)
        else none
set_option maxHeartbeats 4000000 in
set_option maxRecDepth 100000 in
theorem w_X10_found_b0 {l : Launch} {D : va_G} {cI cJ : ClassId} {g : pa_GT} {a_m a_mt a_ml a_mr a_mx a_mf a_mg a_mw a_mh : Nat} {A : Nat → Prop} {p : Program} {e : Env} {s : State} {m : MethodId} {args : Array Value} {below : List Frame} {meth : Method} {c : Code} {x1 : Int32} {x2 : Int32} {x3 : Int32} {x4 : Int32} {v_m_finds : Int32} {v_ml : Nat → Int32} {v_mf : Nat → Int32} {v_mg : Nat → Int32} {v_m_thrown : Int32} {v_m_trace : Int64} {v_m_typed : Int32} {v_m_next : Int32} {v_m_token : Int32} {v_m_place : Int32} {v_m_value : Int32} {v_m_fault : Int32} {v_m_weeks : Int32} {v_m_rows : Int32} {v_m_cardPrice : Int32} {v_m_lotPrice : Int32} {v_m_sure : Int32} {v_m_up : Int64} {v_m_down : Int64} {o : Int32 × Int32 × (Nat → Int32)} (X : pa_X cX10_found 5 (some .int) RX10 wsX10_found D cI cJ g A p s m args meth c)  (hf : f_X10_found x1 x2 x3 x4 v_m_finds v_ml v_mf v_mg = some o) {H : Heap} {locs : List Loc} (hP : va_P D vwCl (wo_X10_found cI cJ a_m a_mt a_ml a_mr a_mx a_mf a_mg a_mw a_mh v_m_thrown v_m_trace v_m_typed v_m_next v_m_token v_m_place v_m_value v_m_fault v_m_finds v_m_weeks v_m_rows v_m_cardPrice v_m_lotPrice v_m_sure v_m_up v_m_down v_ml v_mf v_mg) H) (hD : va_D A (wo_X10_found cI cJ a_m a_mt a_ml a_mr a_mx a_mf a_mg a_mw a_mh v_m_thrown v_m_trace v_m_typed v_m_next v_m_token v_m_place v_m_value v_m_fault v_m_finds v_m_weeks v_m_rows v_m_cardPrice v_m_lotPrice v_m_sure v_m_up v_m_down v_ml v_mf v_mg)) (hS : va_S A s.heap H locs) {ls : Array Slot} (hl : lv_has ls 5 [(0, .ref a_m), (1, .int x1), (2, .int x2), (3, .int x3), (4, .int x4)]) : W p l e (headSpec wsX10_found rm_X10_found).room s m args below meth c H locs 0 0 (MQ below (va_Qi (fun r (_ : Unit) => r = o.1) (pa_QB D A (wo_X10_found cI cJ a_m a_mt a_ml a_mr a_mx a_mf a_mg a_mw a_mh o.2.1 v_m_trace v_m_typed v_m_next v_m_token v_m_place v_m_value v_m_fault v_m_finds v_m_weeks v_m_rows v_m_cardPrice v_m_lotPrice v_m_sure v_m_up v_m_down v_ml v_mf o.2.2)) A) args s 0 0 A) (F0 m 0 ls []) := by
  obtain ⟨hx, hb, hr, hml, hown, hts, hK, hA, hG, hlk⟩ := id X
  delta f_X10_found at hf
  refine lv_aload_n hx hb dX10_found_0 rfl (lv_at hl 0 rfl) ?_
  refine lv_iconst (v := (0 : Int32)) hx hb dX10_found_1 (by decide) ?_
  refine va_put (D := D) (ci := 9) (v := .int (0 : Int32)) (ty := .int) (C := RX10) (T := TX10) (N := 24) hx hb hts il_X10_found_X10 tyX10 tyX10_ok nmX10 hown hK hP hD hS 0 rfl rfl 0 (by decide) (hts _ fk_X10_found_0) (fun _ h9 => h9) rfl (tyX10_ok 0 (by decide)) rfl rfl (Nat.le_of_ble_eq_true rfl) dX10_found_2 (fun H locs hP hD hS => ?_)
  have hP : va_P D vwCl (wo_X10_found cI cJ a_m a_mt a_ml a_mr a_mx a_mf a_mg a_mw a_mh (0 : Int32) v_m_trace v_m_typed v_m_next v_m_token v_m_place v_m_value v_m_fault v_m_finds v_m_weeks v_m_rows v_m_cardPrice v_m_lotPrice v_m_sure v_m_up v_m_down v_ml v_mf v_mg) H := hP
  have hD : va_D A (wo_X10_found cI cJ a_m a_mt a_ml a_mr a_mx a_mf a_mg a_mw a_mh (0 : Int32) v_m_trace v_m_typed v_m_next v_m_token v_m_place v_m_value v_m_fault v_m_finds v_m_weeks v_m_rows v_m_cardPrice v_m_lotPrice v_m_sure v_m_up v_m_down v_ml v_mf v_mg) := hD
  refine lv_iload_n hx hb dX10_found_5 rfl (lv_at hl 1 rfl) ?_
  refine lv_iload_n hx hb dX10_found_6 rfl (lv_at hl 2 rfl) ?_
  refine lv_iload_n hx hb dX10_found_7 rfl (lv_at hl 3 rfl) ?_
  obtain ⟨u_1, hg_2, hf⟩ := pa_bd hf
  refine pa_ki (wc := ([] : va_W)) (wr := [(a_m, .inr (9, [.int (0 : Int32), .long v_m_trace, .ref a_mt, .ref a_ml, .ref a_mr, .ref a_mx, .int v_m_typed, .int v_m_next, .int v_m_token, .int v_m_place, .int v_m_value, .int v_m_fault, .int v_m_finds, .ref a_mf, .ref a_mg, .int v_m_weeks, .ref a_mw, .int v_m_rows, .ref a_mh, .int v_m_cardPrice, .int v_m_lotPrice, .int v_m_sure, .long v_m_up, .long v_m_down])), (a_ml, .inl (cI, 32, .inl v_ml)), (a_mf, .inl (cI, 50, .inl v_mf)), (a_mg, .inl (cI, 8, .inl v_mg))]) (w1 := ([] : va_W)) (w2 := (wo_X10_found cI cJ a_m a_mt a_ml a_mr a_mx a_mf a_mg a_mw a_mh (0 : Int32) v_m_trace v_m_typed v_m_next v_m_token v_m_place v_m_value v_m_fault v_m_finds v_m_weeks v_m_rows v_m_cardPrice v_m_lotPrice v_m_sure v_m_up v_m_down v_ml v_mf v_mg)) X hP hD hS [] [0, 1, 2, 3] [0, 1, 2, 3] rfl (pa_rS (As := [.int x1, .int x2, .int x3]) (rest := []) X hP hD hS [] rfl rfl (c_X10_isAsked hg_2 H.size) (va_cwS 3 hts gX10_found_X10_isAsked rfl rfl rfl (by decide +kernel) ⟨Nat.le_of_ble_eq_true rfl, Nat.le_of_ble_eq_true rfl⟩) rfl hl.1 rfl (Nat.le_of_ble_eq_true rfl) dX10_found_8 ⟨Nat.zero_le _, Nat.zero_le _⟩) rfl rfl (by decide) rfl rfl (fun H locs hP hD hS => ?_)
  refine lv_if_eq (tgt := 25) hx hb dX10_found_11 (by decide) (fun c_3 => ?_) (fun c_3 => ?_)
  · have hf := (if_pos c_3).symm.trans hf
    refine lv_iconst (v := (-1 : Int32)) hx hb dX10_found_25 (by decide) ?_
    obtain rfl := Option.some.inj hf
    exact pa_ei X hP hD hS dX10_found_26
  · have hf := (if_neg c_3).symm.trans hf
    refine lv_iload hx hb dX10_found_14 (lv_at hl 4 rfl) ?_
    refine lv_iconst (v := (0 : Int32)) hx hb dX10_found_16 (by decide) ?_
    refine lv_bipush (v := (8 : Int32)) hx hb dX10_found_17 (by decide) ?_
    obtain ⟨u_4, hg_5, hf⟩ := pa_bd hf
    refine pa_ki (wc := ([] : va_W)) (wr := [(a_m, .inr (9, [.int (0 : Int32), .long v_m_trace, .ref a_mt, .ref a_ml, .ref a_mr, .ref a_mx, .int v_m_typed, .int v_m_next, .int v_m_token, .int v_m_place, .int v_m_value, .int v_m_fault, .int v_m_finds, .ref a_mf, .ref a_mg, .int v_m_weeks, .ref a_mw, .int v_m_rows, .ref a_mh, .int v_m_cardPrice, .int v_m_lotPrice, .int v_m_sure, .long v_m_up, .long v_m_down])), (a_ml, .inl (cI, 32, .inl v_ml)), (a_mf, .inl (cI, 50, .inl v_mf)), (a_mg, .inl (cI, 8, .inl v_mg))]) (w1 := ([] : va_W)) (w2 := (wo_X10_found cI cJ a_m a_mt a_ml a_mr a_mx a_mf a_mg a_mw a_mh (0 : Int32) v_m_trace v_m_typed v_m_next v_m_token v_m_place v_m_value v_m_fault v_m_finds v_m_weeks v_m_rows v_m_cardPrice v_m_lotPrice v_m_sure v_m_up v_m_down v_ml v_mf v_mg)) X hP hD hS [] [0, 1, 2, 3] [0, 1, 2, 3] rfl (pa_rS (As := [.int x4, .int (0 : Int32), .int (8 : Int32)]) (rest := []) X hP hD hS [] rfl rfl (c_X10_in hg_5 H.size) (va_cwS 3 hts gX10_found_X10_in rfl rfl rfl (by decide +kernel) ⟨Nat.le_of_ble_eq_true rfl, Nat.le_of_ble_eq_true rfl⟩) rfl hl.1 rfl (Nat.le_of_ble_eq_true rfl) dX10_found_19 ⟨Nat.zero_le _, Nat.zero_le _⟩) rfl rfl (by decide) rfl rfl (fun H locs hP hD hS => ?_)
    refine lv_if_ne (tgt := 27) hx hb dX10_found_22 (by decide) (fun c_6 => ?_) (fun c_6 => ?_)
    · have hf := (if_neg c_6).symm.trans hf
      refine lv_aload_n hx hb dX10_found_27 rfl (lv_at hl 0 rfl) ?_
      refine lv_iload_n hx hb dX10_found_28 rfl (lv_at hl 1 rfl) ?_
      refine lv_iload_n hx hb dX10_found_29 rfl (lv_at hl 2 rfl) ?_
      refine lv_iload_n hx hb dX10_found_30 rfl (lv_at hl 3 rfl) ?_
      obtain ⟨u_7, hg_8, hf⟩ := pa_bd hf
      refine pa_kv (wc := (wo_X10_finding cI cJ a_m a_mt a_ml a_mr a_mx a_mf a_mg a_mw a_mh (0 : Int32) v_m_trace v_m_typed v_m_next v_m_token v_m_place v_m_value v_m_fault v_m_finds v_m_weeks v_m_rows v_m_cardPrice v_m_lotPrice v_m_sure v_m_up v_m_down v_ml v_mf v_mg)) (wr := ([] : va_W)) (w1 := (wo_X10_finding cI cJ a_m a_mt a_ml a_mr a_mx a_mf a_mg a_mw a_mh (0 : Int32) v_m_trace v_m_typed v_m_next v_m_token v_m_place v_m_value v_m_fault v_m_finds v_m_weeks v_m_rows v_m_cardPrice v_m_lotPrice v_m_sure v_m_up v_m_down v_ml v_mf u_7)) (w2 := (wo_X10_found cI cJ a_m a_mt a_ml a_mr a_mx a_mf a_mg a_mw a_mh (0 : Int32) v_m_trace v_m_typed v_m_next v_m_token v_m_place v_m_value v_m_fault v_m_finds v_m_weeks v_m_rows v_m_cardPrice v_m_lotPrice v_m_sure v_m_up v_m_down v_ml v_mf u_7)) X hP hD hS [0, 1, 2, 3] [] [0, 1, 2, 3] rfl (pa_rV (As := [.int x1, .int x2, .int x3]) (rest := []) (T := TX10) X hP hD hS [0, 1, 2, 3] rfl rfl (c_X10_finding hg_8 H.size) (cwV 3 hts gX10_found_X10_finding rfl rfl rfl (by decide +kernel) ⟨Nat.le_of_ble_eq_true rfl, Nat.le_of_ble_eq_true rfl⟩) (q0 := 0) rfl rfl rfl hl.1 rfl (Nat.le_of_ble_eq_true rfl) dX10_found_31 ⟨Nat.zero_le _, Nat.zero_le _⟩) rfl rfl (by decide) rfl rfl (fun H locs hP hD hS => ?_)
      refine lv_iload hx hb dX10_found_34 (lv_at hl 4 rfl) ?_
      refine lv_bipush (v := (8 : Int32)) hx hb dX10_found_36 (by decide) ?_
      refine lv_icmp_ne (tgt := 51) hx hb dX10_found_38 (by decide) (fun c_9 => ?_) (fun c_9 => ?_)
      · have hf := (if_neg c_9).symm.trans hf
        refine lv_aload_n hx hb dX10_found_51 rfl (lv_at hl 0 rfl) ?_
        refine va_get (D := D) (ci := 9) (v := .ref a_mg) (C := RX10) (T := TX10) (N := 24) hx hb hts il_X10_found_X10 hown hK hP 0 rfl rfl 14 (by decide) (hts _ fk_X10_found_1) (fun _ h9 => h9) rfl dX10_found_52 ?_
        refine lv_iload hx hb dX10_found_55 (lv_at hl 4 rfl) ?_
        obtain ⟨hi_10, hf⟩ := pa_gd hf
        refine va_iald hx hb hK hP 3 0 rfl rfl hi_10 dX10_found_57 ?_
        obtain rfl := Option.some.inj hf
        exact pa_ei X hP hD hS dX10_found_58
      · have hf := (if_pos c_9).symm.trans hf
        refine lv_aload_n hx hb dX10_found_41 rfl (lv_at hl 0 rfl) ?_
        refine lv_sipush (v := (255 : Int32)) hx hb dX10_found_42 (by decide) ?_
        obtain ⟨u_11, hg_12, hf⟩ := pa_bd hf
        refine pa_ki (wc := (wo_X10_gotOf cI cJ a_m a_mt a_ml a_mr a_mx a_mf a_mg a_mw a_mh (0 : Int32) v_m_trace v_m_typed v_m_next v_m_token v_m_place v_m_value v_m_fault v_m_finds v_m_weeks v_m_rows v_m_cardPrice v_m_lotPrice v_m_sure v_m_up v_m_down u_7)) (wr := [(a_ml, .inl (cI, 32, .inl v_ml)), (a_mf, .inl (cI, 50, .inl v_mf))]) (w1 := (wo_X10_gotOf cI cJ a_m a_mt a_ml a_mr a_mx a_mf a_mg a_mw a_mh (0 : Int32) v_m_trace v_m_typed v_m_next v_m_token v_m_place v_m_value v_m_fault v_m_finds v_m_weeks v_m_rows v_m_cardPrice v_m_lotPrice v_m_sure v_m_up v_m_down u_7)) (w2 := (wo_X10_found cI cJ a_m a_mt a_ml a_mr a_mx a_mf a_mg a_mw a_mh (0 : Int32) v_m_trace v_m_typed v_m_next v_m_token v_m_place v_m_value v_m_fault v_m_finds v_m_weeks v_m_rows v_m_cardPrice v_m_lotPrice v_m_sure v_m_up v_m_down v_ml v_mf u_7)) X hP hD hS [0, 3] [1, 2] [2, 0, 1, 3] rfl (pa_rV (As := [.int (255 : Int32)]) (rest := []) (T := TX10) X hP hD hS [0, 3] rfl rfl (c_X10_gotOf hg_12 H.size) (cwV 1 hts gX10_found_X10_gotOf rfl rfl rfl (by decide +kernel) ⟨Nat.le_of_ble_eq_true rfl, Nat.le_of_ble_eq_true rfl⟩) (q0 := 0) rfl rfl rfl hl.1 rfl (Nat.le_of_ble_eq_true rfl) dX10_found_45 ⟨Nat.zero_le _, Nat.zero_le _⟩) rfl rfl (by decide) rfl rfl (fun H locs hP hD hS => ?_)
        refine lv_goto (tgt := 58) hx hb dX10_found_48 (by decide) ?_
        obtain rfl := Option.some.inj hf
        exact pa_ei X hP hD hS dX10_found_58
    · have hf := (if_pos c_6).symm.trans hf
      refine lv_iconst (v := (-1 : Int32)) hx hb dX10_found_25 (by decide) ?_
      obtain rfl := Option.some.inj hf
      exact pa_ei X hP hD hS dX10_found_26
set_option maxHeartbeats 4000000 in
set_option maxRecDepth 100000 in
theorem c_X10_found {l : Launch} {D : va_G} {cI cJ : ClassId} {g : pa_GT} {a_m a_mt a_ml a_mr a_mx a_mf a_mg a_mw a_mh : Nat} {x1 : Int32} {x2 : Int32} {x3 : Int32} {x4 : Int32} {v_m_thrown : Int32} {v_m_trace : Int64} {v_m_typed : Int32} {v_m_next : Int32} {v_m_token : Int32} {v_m_place : Int32} {v_m_value : Int32} {v_m_fault : Int32} {v_m_finds : Int32} {v_m_weeks : Int32} {v_m_rows : Int32} {v_m_cardPrice : Int32} {v_m_lotPrice : Int32} {v_m_sure : Int32} {v_m_up : Int64} {v_m_down : Int64} {v_ml : Nat → Int32} {v_mf : Nat → Int32} {v_mg : Nat → Int32} {o : Int32 × Int32 × (Nat → Int32)} (hf : f_X10_found x1 x2 x3 x4 v_m_finds v_ml v_mf v_mg = some o) : pa_Mi l yX10_found wsX10_found rm_X10_found D cI cJ g [.ref a_m, .int x1, .int x2, .int x3, .int x4] (wo_X10_found cI cJ a_m a_mt a_ml a_mr a_mx a_mf a_mg a_mw a_mh v_m_thrown v_m_trace v_m_typed v_m_next v_m_token v_m_place v_m_value v_m_fault v_m_finds v_m_weeks v_m_rows v_m_cardPrice v_m_lotPrice v_m_sure v_m_up v_m_down v_ml v_mf v_mg) (wo_X10_found cI cJ a_m a_mt a_ml a_mr a_mx a_mf a_mg a_mw a_mh o.2.1 v_m_trace v_m_typed v_m_next v_m_token v_m_place v_m_value v_m_fault v_m_finds v_m_weeks v_m_rows v_m_cardPrice v_m_lotPrice v_m_sure v_m_up v_m_down v_ml v_mf o.2.2) o.1 := by
  intro sz
  refine pa_met (cc := cX10_found) (maxL := 5) (ret := (some .int)) (lv := [(0, .ref a_m), (1, .int x1), (2, .int x2), (3, .int x3), (4, .int x4)]) (by decide) rfl (Nat.le_of_ble_eq_true rfl) rfl ?_
  intro p e s m below meth c X hsz hP hD ls hl
  subst hsz
  exact w_X10_found_b0 X hf hP hD va_S.rf hl
abbrev wo_X10_weighs (cI cJ : ClassId) (a_m a_mt a_ml a_mr a_mx a_mf a_mg a_mw a_mh : Nat) (v_m_thrown : Int32) (v_m_trace : Int64) (v_m_typed : Int32) (v_m_next : Int32) (v_m_token : Int32) (v_m_place : Int32) (v_m_value : Int32) (v_m_fault : Int32) (v_m_finds : Int32) (v_m_weeks : Int32) (v_m_rows : Int32) (v_m_cardPrice : Int32) (v_m_lotPrice : Int32) (v_m_sure : Int32) (v_m_up : Int64) (v_m_down : Int64) (v_ml : Nat → Int32) (v_mg : Nat → Int32) : va_W := [(a_m, .inr (9, [.int v_m_thrown, .long v_m_trace, .ref a_mt, .ref a_ml, .ref a_mr, .ref a_mx, .int v_m_typed, .int v_m_next, .int v_m_token, .int v_m_place, .int v_m_value, .int v_m_fault, .int v_m_finds, .ref a_mf, .ref a_mg, .int v_m_weeks, .ref a_mw, .int v_m_rows, .ref a_mh, .int v_m_cardPrice, .int v_m_lotPrice, .int v_m_sure, .long v_m_up, .long v_m_down])), (a_ml, .inl (cI, 32, .inl v_ml)), (a_mg, .inl (cI, 8, .inl v_mg))]
abbrev rm_X10_weighs : Room := { frames := 1, cells := 0, slots := 0, locals := 24 }
theorem il_X10_weighs_X10 : ∀ w ∈ wsX100, w ∈ wsX10_weighs := by decide +kernel
theorem fk_X10_weighs_0 : Cond.fieldLink RX10 52 "PostedAsksModel" "up" "J" ∈ wsX10_weighs := by decide +kernel
theorem fk_X10_weighs_1 : Cond.fieldLink RX10 56 "PostedAsksModel" "down" "J" ∈ wsX10_weighs := by decide +kernel
def f_X10_weighs_b90 (x2 : Int32) (x3 : Int32) (x4 : Int32) (x7 : Int64) (s0 : Int64) (v_mg : Nat → Int32) : Option (Int32 × Int64 × Int64) :=
  (f_X10_gotOf (34 : Int32) v_mg).bind fun u_1 =>
  (f_X10_gotOf (136 : Int32) v_mg).bind fun u_3 =>
  some ((1 : Int32), (((x7 * (Int32.toInt64 x4)) * (Int32.toInt64 u_1)) + ((s0 * (Int32.toInt64 x3)) * (Int32.toInt64 u_3))), ((x7 * s0) * (Int32.toInt64 x2)))
def f_X10_weighs_b76 (x2 : Int32) (x3 : Int32) (x4 : Int32) (x6 : Int32) (s0 : Int64) (v_mg : Nat → Int32) : Option (Int32 × Int64 × Int64) :=
  if x4 ≤ 0 then
    f_X10_weighs_b90 x2 x3 x4 s0 (1 : Int64) v_mg
  else
    f_X10_weighs_b90 x2 x3 x4 s0 (Int32.toInt64 x6) v_mg
def f_X10_weighs_b65 (x2 : Int32) (x3 : Int32) (x4 : Int32) (x5 : Int32) (x6 : Int32) (v_mg : Nat → Int32) : Option (Int32 × Int64 × Int64) :=
  if x3 ≤ 0 then
    f_X10_weighs_b76 x2 x3 x4 x6 (1 : Int64) v_mg
  else
    f_X10_weighs_b76 x2 x3 x4 x6 (Int32.toInt64 x5) v_mg
def f_X10_weighs_b53 (x2 : Int32) (x3 : Int32) (x4 : Int32) (x5 : Int32) (x6 : Int32) (v_m_up : Int64) (v_m_down : Int64) (v_mg : Nat → Int32) : Option (Int32 × Int64 × Int64) :=
  if x4 ≤ 0 then
    f_X10_weighs_b65 x2 x3 x4 x5 x6 v_mg
  else
    if x6 = 0 then
      some ((0 : Int32), v_m_up, v_m_down)
    else
      f_X10_weighs_b65 x2 x3 x4 x5 x6 v_mg
def f_X10_weighs (x1 : Int32) (v_m_up : Int64) (v_m_down : Int64) (v_ml : Nat → Int32) (v_mg : Nat → Int32) : Option (Int32 × Int64 × Int64) :=
  (f_X10_persons x1 (255 : Int32) v_ml).bind fun u_9 =>
  (f_X10_persons x1 (204 : Int32) v_ml).bind fun u_11 =>
  (f_X10_gotOf (204 : Int32) v_mg).bind fun u_13 =>
  (f_X10_gotOf (51 : Int32) v_mg).bind fun u_15 =>
  if u_9 = 0 then
    some ((0 : Int32), v_m_up, v_m_down)
  else
    if u_11 ≤ 0 then
      f_X10_weighs_b53 u_9 u_11 (u_9 - u_11) u_13 u_15 v_m_up v_m_down v_mg
    else
      if u_13 = 0 then
        some ((0 : Int32), v_m_up, v_m_down)
      else
        f_X10_weighs_b53 u_9 u_11 (u_9 - u_11) u_13 u_15 v_m_up v_m_down v_mg
set_option maxHeartbeats 4000000 in
set_option maxRecDepth 100000 in
theorem w_X10_weighs_b90 {l : Launch} {D : va_G} {cI cJ : ClassId} {g : pa_GT} {a_m a_mt a_ml a_mr a_mx a_mf a_mg a_mw a_mh : Nat} {A : Nat → Prop} {p : Program} {e : Env} {s : State} {m : MethodId} {args : Array Value} {below : List Frame} {meth : Method} {c : Code} {x2 : Int32} {x3 : Int32} {x4 : Int32} {x7 : Int64} {s0 : Int64} {v_mg : Nat → Int32} {v_m_thrown : Int32} {v_m_trace : Int64} {v_m_typed : Int32} {v_m_next : Int32} {v_m_token : Int32} {v_m_place : Int32} {v_m_value : Int32} {v_m_fault : Int32} {v_m_finds : Int32} {v_m_weeks : Int32} {v_m_rows : Int32} {v_m_cardPrice : Int32} {v_m_lotPrice : Int32} {v_m_sure : Int32} {v_m_up : Int64} {v_m_down : Int64} {v_ml : Nat → Int32} {o : Int32 × Int64 × Int64} (X : pa_X cX10_weighs 11 (some .boolean) RX10 wsX10_weighs D cI cJ g A p s m args meth c)  (hf : f_X10_weighs_b90 x2 x3 x4 x7 s0 v_mg = some o) {H : Heap} {locs : List Loc} (hP : va_P D vwCl (wo_X10_weighs cI cJ a_m a_mt a_ml a_mr a_mx a_mf a_mg a_mw a_mh v_m_thrown v_m_trace v_m_typed v_m_next v_m_token v_m_place v_m_value v_m_fault v_m_finds v_m_weeks v_m_rows v_m_cardPrice v_m_lotPrice v_m_sure v_m_up v_m_down v_ml v_mg) H) (hD : va_D A (wo_X10_weighs cI cJ a_m a_mt a_ml a_mr a_mx a_mf a_mg a_mw a_mh v_m_thrown v_m_trace v_m_typed v_m_next v_m_token v_m_place v_m_value v_m_fault v_m_finds v_m_weeks v_m_rows v_m_cardPrice v_m_lotPrice v_m_sure v_m_up v_m_down v_ml v_mg)) (hS : va_S A s.heap H locs) {ls : Array Slot} (hl : lv_has ls 11 [(0, .ref a_m), (2, .int x2), (3, .int x3), (4, .int x4), (7, .long x7)]) : W p l e (headSpec wsX10_weighs rm_X10_weighs).room s m args below meth c H locs 0 0 (MQ below (va_Qi (fun r (_ : Unit) => r = o.1) (pa_QB D A (wo_X10_weighs cI cJ a_m a_mt a_ml a_mr a_mx a_mf a_mg a_mw a_mh v_m_thrown v_m_trace v_m_typed v_m_next v_m_token v_m_place v_m_value v_m_fault v_m_finds v_m_weeks v_m_rows v_m_cardPrice v_m_lotPrice v_m_sure o.2.1 o.2.2 v_ml v_mg)) A) args s 0 0 A) (F0 m 90 ls [.long s0]) := by
  obtain ⟨hx, hb, hr, hml, hown, hts, hK, hA, hG, hlk⟩ := id X
  delta f_X10_weighs_b90 at hf
  refine lv_lstore (lv' := [(9, .long s0), (0, .ref a_m), (2, .int x2), (3, .int x3), (4, .int x4), (7, .long x7)]) hx hb dX10_weighs_90 hl (by decide) rfl (fun ls hl => ?_)
  refine lv_aload_n hx hb dX10_weighs_92 rfl (lv_at hl 1 rfl) ?_
  refine lv_lload hx hb dX10_weighs_93 (lv_at hl 5 rfl) ?_
  refine lv_iload hx hb dX10_weighs_95 (lv_at hl 4 rfl) ?_
  refine lv_i2l (v := (Int32.toInt64 x4)) hx hb dX10_weighs_97 rfl ?_
  refine lv_lmul hx hb dX10_weighs_98 ?_
  refine lv_aload_n hx hb dX10_weighs_99 rfl (lv_at hl 1 rfl) ?_
  refine lv_bipush (v := (34 : Int32)) hx hb dX10_weighs_100 (by decide) ?_
  obtain ⟨u_1, hg_2, hf⟩ := pa_bd hf
  refine pa_ki (wc := (wo_X10_gotOf cI cJ a_m a_mt a_ml a_mr a_mx a_mf a_mg a_mw a_mh v_m_thrown v_m_trace v_m_typed v_m_next v_m_token v_m_place v_m_value v_m_fault v_m_finds v_m_weeks v_m_rows v_m_cardPrice v_m_lotPrice v_m_sure v_m_up v_m_down v_mg)) (wr := [(a_ml, .inl (cI, 32, .inl v_ml))]) (w1 := (wo_X10_gotOf cI cJ a_m a_mt a_ml a_mr a_mx a_mf a_mg a_mw a_mh v_m_thrown v_m_trace v_m_typed v_m_next v_m_token v_m_place v_m_value v_m_fault v_m_finds v_m_weeks v_m_rows v_m_cardPrice v_m_lotPrice v_m_sure v_m_up v_m_down v_mg)) (w2 := (wo_X10_weighs cI cJ a_m a_mt a_ml a_mr a_mx a_mf a_mg a_mw a_mh v_m_thrown v_m_trace v_m_typed v_m_next v_m_token v_m_place v_m_value v_m_fault v_m_finds v_m_weeks v_m_rows v_m_cardPrice v_m_lotPrice v_m_sure v_m_up v_m_down v_ml v_mg)) X hP hD hS [0, 2] [1] [1, 0, 2] rfl (pa_rV (As := [.int (34 : Int32)]) (rest := [.long (x7 * (Int32.toInt64 x4)), .ref a_m]) (T := TX10) X hP hD hS [0, 2] rfl rfl (c_X10_gotOf hg_2 H.size) (cwV 1 hts gX10_weighs_X10_gotOf rfl rfl rfl (by decide +kernel) ⟨Nat.le_of_ble_eq_true rfl, Nat.le_of_ble_eq_true rfl⟩) (q0 := 0) rfl rfl rfl hl.1 rfl (Nat.le_of_ble_eq_true rfl) dX10_weighs_102 ⟨Nat.zero_le _, Nat.zero_le _⟩) rfl rfl (by decide) rfl rfl (fun H locs hP hD hS => ?_)
  refine lv_i2l (v := (Int32.toInt64 u_1)) hx hb dX10_weighs_105 rfl ?_
  refine lv_lmul hx hb dX10_weighs_106 ?_
  refine lv_lload hx hb dX10_weighs_107 (lv_at hl 0 rfl) ?_
  refine lv_iload_n hx hb dX10_weighs_109 rfl (lv_at hl 3 rfl) ?_
  refine lv_i2l (v := (Int32.toInt64 x3)) hx hb dX10_weighs_110 rfl ?_
  refine lv_lmul hx hb dX10_weighs_111 ?_
  refine lv_aload_n hx hb dX10_weighs_112 rfl (lv_at hl 1 rfl) ?_
  refine lv_sipush (v := (136 : Int32)) hx hb dX10_weighs_113 (by decide) ?_
  obtain ⟨u_3, hg_4, hf⟩ := pa_bd hf
  refine pa_ki (wc := (wo_X10_gotOf cI cJ a_m a_mt a_ml a_mr a_mx a_mf a_mg a_mw a_mh v_m_thrown v_m_trace v_m_typed v_m_next v_m_token v_m_place v_m_value v_m_fault v_m_finds v_m_weeks v_m_rows v_m_cardPrice v_m_lotPrice v_m_sure v_m_up v_m_down v_mg)) (wr := [(a_ml, .inl (cI, 32, .inl v_ml))]) (w1 := (wo_X10_gotOf cI cJ a_m a_mt a_ml a_mr a_mx a_mf a_mg a_mw a_mh v_m_thrown v_m_trace v_m_typed v_m_next v_m_token v_m_place v_m_value v_m_fault v_m_finds v_m_weeks v_m_rows v_m_cardPrice v_m_lotPrice v_m_sure v_m_up v_m_down v_mg)) (w2 := (wo_X10_weighs cI cJ a_m a_mt a_ml a_mr a_mx a_mf a_mg a_mw a_mh v_m_thrown v_m_trace v_m_typed v_m_next v_m_token v_m_place v_m_value v_m_fault v_m_finds v_m_weeks v_m_rows v_m_cardPrice v_m_lotPrice v_m_sure v_m_up v_m_down v_ml v_mg)) X hP hD hS [0, 2] [1] [1, 0, 2] rfl (pa_rV (As := [.int (136 : Int32)]) (rest := [.long (s0 * (Int32.toInt64 x3)), .long ((x7 * (Int32.toInt64 x4)) * (Int32.toInt64 u_1)), .ref a_m]) (T := TX10) X hP hD hS [0, 2] rfl rfl (c_X10_gotOf hg_4 H.size) (cwV 1 hts gX10_weighs_X10_gotOf rfl rfl rfl (by decide +kernel) ⟨Nat.le_of_ble_eq_true rfl, Nat.le_of_ble_eq_true rfl⟩) (q0 := 0) rfl rfl rfl hl.1 rfl (Nat.le_of_ble_eq_true rfl) dX10_weighs_116 ⟨Nat.zero_le _, Nat.zero_le _⟩) rfl rfl (by decide) rfl rfl (fun H locs hP hD hS => ?_)
  refine lv_i2l (v := (Int32.toInt64 u_3)) hx hb dX10_weighs_119 rfl ?_
  refine lv_lmul hx hb dX10_weighs_120 ?_
  refine lv_ladd hx hb dX10_weighs_121 ?_
  refine va_put (D := D) (ci := 9) (v := .long (((x7 * (Int32.toInt64 x4)) * (Int32.toInt64 u_1)) + ((s0 * (Int32.toInt64 x3)) * (Int32.toInt64 u_3)))) (ty := .long) (C := RX10) (T := TX10) (N := 24) hx hb hts il_X10_weighs_X10 tyX10 tyX10_ok nmX10 hown hK hP hD hS 0 rfl rfl 22 (by decide) (hts _ fk_X10_weighs_0) (fun _ h9 => h9) rfl (tyX10_ok 22 (by decide)) rfl rfl (Nat.le_of_ble_eq_true rfl) dX10_weighs_122 (fun H locs hP hD hS => ?_)
  have hP : va_P D vwCl (wo_X10_weighs cI cJ a_m a_mt a_ml a_mr a_mx a_mf a_mg a_mw a_mh v_m_thrown v_m_trace v_m_typed v_m_next v_m_token v_m_place v_m_value v_m_fault v_m_finds v_m_weeks v_m_rows v_m_cardPrice v_m_lotPrice v_m_sure (((x7 * (Int32.toInt64 x4)) * (Int32.toInt64 u_1)) + ((s0 * (Int32.toInt64 x3)) * (Int32.toInt64 u_3))) v_m_down v_ml v_mg) H := hP
  have hD : va_D A (wo_X10_weighs cI cJ a_m a_mt a_ml a_mr a_mx a_mf a_mg a_mw a_mh v_m_thrown v_m_trace v_m_typed v_m_next v_m_token v_m_place v_m_value v_m_fault v_m_finds v_m_weeks v_m_rows v_m_cardPrice v_m_lotPrice v_m_sure (((x7 * (Int32.toInt64 x4)) * (Int32.toInt64 u_1)) + ((s0 * (Int32.toInt64 x3)) * (Int32.toInt64 u_3))) v_m_down v_ml v_mg) := hD
  refine lv_aload_n hx hb dX10_weighs_125 rfl (lv_at hl 1 rfl) ?_
  refine lv_lload hx hb dX10_weighs_126 (lv_at hl 5 rfl) ?_
  refine lv_lload hx hb dX10_weighs_128 (lv_at hl 0 rfl) ?_
  refine lv_lmul hx hb dX10_weighs_130 ?_
  refine lv_iload_n hx hb dX10_weighs_131 rfl (lv_at hl 2 rfl) ?_
  refine lv_i2l (v := (Int32.toInt64 x2)) hx hb dX10_weighs_132 rfl ?_
  refine lv_lmul hx hb dX10_weighs_133 ?_
  refine va_put (D := D) (ci := 9) (v := .long ((x7 * s0) * (Int32.toInt64 x2))) (ty := .long) (C := RX10) (T := TX10) (N := 24) hx hb hts il_X10_weighs_X10 tyX10 tyX10_ok nmX10 hown hK hP hD hS 0 rfl rfl 23 (by decide) (hts _ fk_X10_weighs_1) (fun _ h9 => h9) rfl (tyX10_ok 23 (by decide)) rfl rfl (Nat.le_of_ble_eq_true rfl) dX10_weighs_134 (fun H locs hP hD hS => ?_)
  have hP : va_P D vwCl (wo_X10_weighs cI cJ a_m a_mt a_ml a_mr a_mx a_mf a_mg a_mw a_mh v_m_thrown v_m_trace v_m_typed v_m_next v_m_token v_m_place v_m_value v_m_fault v_m_finds v_m_weeks v_m_rows v_m_cardPrice v_m_lotPrice v_m_sure (((x7 * (Int32.toInt64 x4)) * (Int32.toInt64 u_1)) + ((s0 * (Int32.toInt64 x3)) * (Int32.toInt64 u_3))) ((x7 * s0) * (Int32.toInt64 x2)) v_ml v_mg) H := hP
  have hD : va_D A (wo_X10_weighs cI cJ a_m a_mt a_ml a_mr a_mx a_mf a_mg a_mw a_mh v_m_thrown v_m_trace v_m_typed v_m_next v_m_token v_m_place v_m_value v_m_fault v_m_finds v_m_weeks v_m_rows v_m_cardPrice v_m_lotPrice v_m_sure (((x7 * (Int32.toInt64 x4)) * (Int32.toInt64 u_1)) + ((s0 * (Int32.toInt64 x3)) * (Int32.toInt64 u_3))) ((x7 * s0) * (Int32.toInt64 x2)) v_ml v_mg) := hD
  refine lv_iconst (v := (1 : Int32)) hx hb dX10_weighs_137 (by decide) ?_
  obtain rfl := Option.some.inj hf
  exact pa_ez (v := (1 : Int32)) X hP hD hS rfl dX10_weighs_138
set_option maxHeartbeats 4000000 in
set_option maxRecDepth 100000 in
theorem w_X10_weighs_b76 {l : Launch} {D : va_G} {cI cJ : ClassId} {g : pa_GT} {a_m a_mt a_ml a_mr a_mx a_mf a_mg a_mw a_mh : Nat} {A : Nat → Prop} {p : Program} {e : Env} {s : State} {m : MethodId} {args : Array Value} {below : List Frame} {meth : Method} {c : Code} {x2 : Int32} {x3 : Int32} {x4 : Int32} {x6 : Int32} {s0 : Int64} {v_mg : Nat → Int32} {v_m_thrown : Int32} {v_m_trace : Int64} {v_m_typed : Int32} {v_m_next : Int32} {v_m_token : Int32} {v_m_place : Int32} {v_m_value : Int32} {v_m_fault : Int32} {v_m_finds : Int32} {v_m_weeks : Int32} {v_m_rows : Int32} {v_m_cardPrice : Int32} {v_m_lotPrice : Int32} {v_m_sure : Int32} {v_m_up : Int64} {v_m_down : Int64} {v_ml : Nat → Int32} {o : Int32 × Int64 × Int64} (X : pa_X cX10_weighs 11 (some .boolean) RX10 wsX10_weighs D cI cJ g A p s m args meth c)  (hf : f_X10_weighs_b76 x2 x3 x4 x6 s0 v_mg = some o) {H : Heap} {locs : List Loc} (hP : va_P D vwCl (wo_X10_weighs cI cJ a_m a_mt a_ml a_mr a_mx a_mf a_mg a_mw a_mh v_m_thrown v_m_trace v_m_typed v_m_next v_m_token v_m_place v_m_value v_m_fault v_m_finds v_m_weeks v_m_rows v_m_cardPrice v_m_lotPrice v_m_sure v_m_up v_m_down v_ml v_mg) H) (hD : va_D A (wo_X10_weighs cI cJ a_m a_mt a_ml a_mr a_mx a_mf a_mg a_mw a_mh v_m_thrown v_m_trace v_m_typed v_m_next v_m_token v_m_place v_m_value v_m_fault v_m_finds v_m_weeks v_m_rows v_m_cardPrice v_m_lotPrice v_m_sure v_m_up v_m_down v_ml v_mg)) (hS : va_S A s.heap H locs) {ls : Array Slot} (hl : lv_has ls 11 [(0, .ref a_m), (2, .int x2), (3, .int x3), (4, .int x4), (6, .int x6)]) : W p l e (headSpec wsX10_weighs rm_X10_weighs).room s m args below meth c H locs 0 0 (MQ below (va_Qi (fun r (_ : Unit) => r = o.1) (pa_QB D A (wo_X10_weighs cI cJ a_m a_mt a_ml a_mr a_mx a_mf a_mg a_mw a_mh v_m_thrown v_m_trace v_m_typed v_m_next v_m_token v_m_place v_m_value v_m_fault v_m_finds v_m_weeks v_m_rows v_m_cardPrice v_m_lotPrice v_m_sure o.2.1 o.2.2 v_ml v_mg)) A) args s 0 0 A) (F0 m 76 ls [.long s0]) := by
  obtain ⟨hx, hb, hr, hml, hown, hts, hK, hA, hG, hlk⟩ := id X
  delta f_X10_weighs_b76 at hf
  refine lv_lstore (lv' := [(7, .long s0), (0, .ref a_m), (2, .int x2), (3, .int x3), (4, .int x4), (6, .int x6)]) hx hb dX10_weighs_76 hl (by decide) rfl (fun ls hl => ?_)
  refine lv_iload hx hb dX10_weighs_78 (lv_at hl 4 rfl) ?_
  refine lv_if_le (tgt := 89) hx hb dX10_weighs_80 (by decide) (fun c_5 => ?_) (fun c_5 => ?_)
  · have hf := (if_pos c_5).symm.trans hf
    refine lv_lconst (v := (1 : Int64)) hx hb dX10_weighs_89 (by decide) ?_
    exact w_X10_weighs_b90 X  hf hP hD hS (lv_sub hl [1, 2, 3, 4, 0] rfl)
  · have hf := (if_neg c_5).symm.trans hf
    refine lv_iload hx hb dX10_weighs_83 (lv_at hl 5 rfl) ?_
    refine lv_i2l (v := (Int32.toInt64 x6)) hx hb dX10_weighs_85 rfl ?_
    refine lv_goto (tgt := 90) hx hb dX10_weighs_86 (by decide) ?_
    exact w_X10_weighs_b90 X  hf hP hD hS (lv_sub hl [1, 2, 3, 4, 0] rfl)
set_option maxHeartbeats 4000000 in
set_option maxRecDepth 100000 in
theorem w_X10_weighs_b65 {l : Launch} {D : va_G} {cI cJ : ClassId} {g : pa_GT} {a_m a_mt a_ml a_mr a_mx a_mf a_mg a_mw a_mh : Nat} {A : Nat → Prop} {p : Program} {e : Env} {s : State} {m : MethodId} {args : Array Value} {below : List Frame} {meth : Method} {c : Code} {x2 : Int32} {x3 : Int32} {x4 : Int32} {x5 : Int32} {x6 : Int32} {v_mg : Nat → Int32} {v_m_thrown : Int32} {v_m_trace : Int64} {v_m_typed : Int32} {v_m_next : Int32} {v_m_token : Int32} {v_m_place : Int32} {v_m_value : Int32} {v_m_fault : Int32} {v_m_finds : Int32} {v_m_weeks : Int32} {v_m_rows : Int32} {v_m_cardPrice : Int32} {v_m_lotPrice : Int32} {v_m_sure : Int32} {v_m_up : Int64} {v_m_down : Int64} {v_ml : Nat → Int32} {o : Int32 × Int64 × Int64} (X : pa_X cX10_weighs 11 (some .boolean) RX10 wsX10_weighs D cI cJ g A p s m args meth c)  (hf : f_X10_weighs_b65 x2 x3 x4 x5 x6 v_mg = some o) {H : Heap} {locs : List Loc} (hP : va_P D vwCl (wo_X10_weighs cI cJ a_m a_mt a_ml a_mr a_mx a_mf a_mg a_mw a_mh v_m_thrown v_m_trace v_m_typed v_m_next v_m_token v_m_place v_m_value v_m_fault v_m_finds v_m_weeks v_m_rows v_m_cardPrice v_m_lotPrice v_m_sure v_m_up v_m_down v_ml v_mg) H) (hD : va_D A (wo_X10_weighs cI cJ a_m a_mt a_ml a_mr a_mx a_mf a_mg a_mw a_mh v_m_thrown v_m_trace v_m_typed v_m_next v_m_token v_m_place v_m_value v_m_fault v_m_finds v_m_weeks v_m_rows v_m_cardPrice v_m_lotPrice v_m_sure v_m_up v_m_down v_ml v_mg)) (hS : va_S A s.heap H locs) {ls : Array Slot} (hl : lv_has ls 11 [(0, .ref a_m), (2, .int x2), (3, .int x3), (4, .int x4), (5, .int x5), (6, .int x6)]) : W p l e (headSpec wsX10_weighs rm_X10_weighs).room s m args below meth c H locs 0 0 (MQ below (va_Qi (fun r (_ : Unit) => r = o.1) (pa_QB D A (wo_X10_weighs cI cJ a_m a_mt a_ml a_mr a_mx a_mf a_mg a_mw a_mh v_m_thrown v_m_trace v_m_typed v_m_next v_m_token v_m_place v_m_value v_m_fault v_m_finds v_m_weeks v_m_rows v_m_cardPrice v_m_lotPrice v_m_sure o.2.1 o.2.2 v_ml v_mg)) A) args s 0 0 A) (F0 m 65 ls []) := by
  obtain ⟨hx, hb, hr, hml, hown, hts, hK, hA, hG, hlk⟩ := id X
  delta f_X10_weighs_b65 at hf
  refine lv_iload_n hx hb dX10_weighs_65 rfl (lv_at hl 2 rfl) ?_
  refine lv_if_le (tgt := 75) hx hb dX10_weighs_66 (by decide) (fun c_6 => ?_) (fun c_6 => ?_)
  · have hf := (if_pos c_6).symm.trans hf
    refine lv_lconst (v := (1 : Int64)) hx hb dX10_weighs_75 (by decide) ?_
    exact w_X10_weighs_b76 X  hf hP hD hS (lv_sub hl [0, 1, 2, 3, 5] rfl)
  · have hf := (if_neg c_6).symm.trans hf
    refine lv_iload hx hb dX10_weighs_69 (lv_at hl 4 rfl) ?_
    refine lv_i2l (v := (Int32.toInt64 x5)) hx hb dX10_weighs_71 rfl ?_
    refine lv_goto (tgt := 76) hx hb dX10_weighs_72 (by decide) ?_
    exact w_X10_weighs_b76 X  hf hP hD hS (lv_sub hl [0, 1, 2, 3, 5] rfl)
set_option maxHeartbeats 4000000 in
set_option maxRecDepth 100000 in
theorem w_X10_weighs_b53 {l : Launch} {D : va_G} {cI cJ : ClassId} {g : pa_GT} {a_m a_mt a_ml a_mr a_mx a_mf a_mg a_mw a_mh : Nat} {A : Nat → Prop} {p : Program} {e : Env} {s : State} {m : MethodId} {args : Array Value} {below : List Frame} {meth : Method} {c : Code} {x2 : Int32} {x3 : Int32} {x4 : Int32} {x5 : Int32} {x6 : Int32} {v_m_up : Int64} {v_m_down : Int64} {v_mg : Nat → Int32} {v_m_thrown : Int32} {v_m_trace : Int64} {v_m_typed : Int32} {v_m_next : Int32} {v_m_token : Int32} {v_m_place : Int32} {v_m_value : Int32} {v_m_fault : Int32} {v_m_finds : Int32} {v_m_weeks : Int32} {v_m_rows : Int32} {v_m_cardPrice : Int32} {v_m_lotPrice : Int32} {v_m_sure : Int32} {v_ml : Nat → Int32} {o : Int32 × Int64 × Int64} (X : pa_X cX10_weighs 11 (some .boolean) RX10 wsX10_weighs D cI cJ g A p s m args meth c)  (hf : f_X10_weighs_b53 x2 x3 x4 x5 x6 v_m_up v_m_down v_mg = some o) {H : Heap} {locs : List Loc} (hP : va_P D vwCl (wo_X10_weighs cI cJ a_m a_mt a_ml a_mr a_mx a_mf a_mg a_mw a_mh v_m_thrown v_m_trace v_m_typed v_m_next v_m_token v_m_place v_m_value v_m_fault v_m_finds v_m_weeks v_m_rows v_m_cardPrice v_m_lotPrice v_m_sure v_m_up v_m_down v_ml v_mg) H) (hD : va_D A (wo_X10_weighs cI cJ a_m a_mt a_ml a_mr a_mx a_mf a_mg a_mw a_mh v_m_thrown v_m_trace v_m_typed v_m_next v_m_token v_m_place v_m_value v_m_fault v_m_finds v_m_weeks v_m_rows v_m_cardPrice v_m_lotPrice v_m_sure v_m_up v_m_down v_ml v_mg)) (hS : va_S A s.heap H locs) {ls : Array Slot} (hl : lv_has ls 11 [(0, .ref a_m), (2, .int x2), (3, .int x3), (4, .int x4), (5, .int x5), (6, .int x6)]) : W p l e (headSpec wsX10_weighs rm_X10_weighs).room s m args below meth c H locs 0 0 (MQ below (va_Qi (fun r (_ : Unit) => r = o.1) (pa_QB D A (wo_X10_weighs cI cJ a_m a_mt a_ml a_mr a_mx a_mf a_mg a_mw a_mh v_m_thrown v_m_trace v_m_typed v_m_next v_m_token v_m_place v_m_value v_m_fault v_m_finds v_m_weeks v_m_rows v_m_cardPrice v_m_lotPrice v_m_sure o.2.1 o.2.2 v_ml v_mg)) A) args s 0 0 A) (F0 m 53 ls []) := by
  obtain ⟨hx, hb, hr, hml, hown, hts, hK, hA, hG, hlk⟩ := id X
  delta f_X10_weighs_b53 at hf
  refine lv_iload hx hb dX10_weighs_53 (lv_at hl 3 rfl) ?_
  refine lv_if_le (tgt := 65) hx hb dX10_weighs_55 (by decide) (fun c_7 => ?_) (fun c_7 => ?_)
  · have hf := (if_pos c_7).symm.trans hf
    exact w_X10_weighs_b65 X  hf hP hD hS (lv_sub hl [0, 1, 2, 3, 4, 5] rfl)
  · have hf := (if_neg c_7).symm.trans hf
    refine lv_iload hx hb dX10_weighs_58 (lv_at hl 5 rfl) ?_
    refine lv_if_ne (tgt := 65) hx hb dX10_weighs_60 (by decide) (fun c_8 => ?_) (fun c_8 => ?_)
    · have hf := (if_neg c_8).symm.trans hf
      exact w_X10_weighs_b65 X  hf hP hD hS (lv_sub hl [0, 1, 2, 3, 4, 5] rfl)
    · have hf := (if_pos c_8).symm.trans hf
      refine lv_iconst (v := (0 : Int32)) hx hb dX10_weighs_63 (by decide) ?_
      obtain rfl := Option.some.inj hf
      exact pa_ez (v := (0 : Int32)) X hP hD hS rfl dX10_weighs_64
set_option maxHeartbeats 4000000 in
set_option maxRecDepth 100000 in
theorem w_X10_weighs_b0 {l : Launch} {D : va_G} {cI cJ : ClassId} {g : pa_GT} {a_m a_mt a_ml a_mr a_mx a_mf a_mg a_mw a_mh : Nat} {A : Nat → Prop} {p : Program} {e : Env} {s : State} {m : MethodId} {args : Array Value} {below : List Frame} {meth : Method} {c : Code} {x1 : Int32} {v_m_up : Int64} {v_m_down : Int64} {v_ml : Nat → Int32} {v_mg : Nat → Int32} {v_m_thrown : Int32} {v_m_trace : Int64} {v_m_typed : Int32} {v_m_next : Int32} {v_m_token : Int32} {v_m_place : Int32} {v_m_value : Int32} {v_m_fault : Int32} {v_m_finds : Int32} {v_m_weeks : Int32} {v_m_rows : Int32} {v_m_cardPrice : Int32} {v_m_lotPrice : Int32} {v_m_sure : Int32} {o : Int32 × Int64 × Int64} (X : pa_X cX10_weighs 11 (some .boolean) RX10 wsX10_weighs D cI cJ g A p s m args meth c)  (hf : f_X10_weighs x1 v_m_up v_m_down v_ml v_mg = some o) {H : Heap} {locs : List Loc} (hP : va_P D vwCl (wo_X10_weighs cI cJ a_m a_mt a_ml a_mr a_mx a_mf a_mg a_mw a_mh v_m_thrown v_m_trace v_m_typed v_m_next v_m_token v_m_place v_m_value v_m_fault v_m_finds v_m_weeks v_m_rows v_m_cardPrice v_m_lotPrice v_m_sure v_m_up v_m_down v_ml v_mg) H) (hD : va_D A (wo_X10_weighs cI cJ a_m a_mt a_ml a_mr a_mx a_mf a_mg a_mw a_mh v_m_thrown v_m_trace v_m_typed v_m_next v_m_token v_m_place v_m_value v_m_fault v_m_finds v_m_weeks v_m_rows v_m_cardPrice v_m_lotPrice v_m_sure v_m_up v_m_down v_ml v_mg)) (hS : va_S A s.heap H locs) {ls : Array Slot} (hl : lv_has ls 11 [(0, .ref a_m), (1, .int x1)]) : W p l e (headSpec wsX10_weighs rm_X10_weighs).room s m args below meth c H locs 0 0 (MQ below (va_Qi (fun r (_ : Unit) => r = o.1) (pa_QB D A (wo_X10_weighs cI cJ a_m a_mt a_ml a_mr a_mx a_mf a_mg a_mw a_mh v_m_thrown v_m_trace v_m_typed v_m_next v_m_token v_m_place v_m_value v_m_fault v_m_finds v_m_weeks v_m_rows v_m_cardPrice v_m_lotPrice v_m_sure o.2.1 o.2.2 v_ml v_mg)) A) args s 0 0 A) (F0 m 0 ls []) := by
  obtain ⟨hx, hb, hr, hml, hown, hts, hK, hA, hG, hlk⟩ := id X
  delta f_X10_weighs at hf
  refine lv_aload_n hx hb dX10_weighs_0 rfl (lv_at hl 0 rfl) ?_
  refine lv_iload_n hx hb dX10_weighs_1 rfl (lv_at hl 1 rfl) ?_
  refine lv_sipush (v := (255 : Int32)) hx hb dX10_weighs_2 (by decide) ?_
  obtain ⟨u_9, hg_10, hf⟩ := pa_bd hf
  refine pa_ki (wc := (wo_X10_persons cI cJ a_m a_mt a_ml a_mr a_mx a_mf a_mg a_mw a_mh v_m_thrown v_m_trace v_m_typed v_m_next v_m_token v_m_place v_m_value v_m_fault v_m_finds v_m_weeks v_m_rows v_m_cardPrice v_m_lotPrice v_m_sure v_m_up v_m_down v_ml)) (wr := [(a_mg, .inl (cI, 8, .inl v_mg))]) (w1 := (wo_X10_persons cI cJ a_m a_mt a_ml a_mr a_mx a_mf a_mg a_mw a_mh v_m_thrown v_m_trace v_m_typed v_m_next v_m_token v_m_place v_m_value v_m_fault v_m_finds v_m_weeks v_m_rows v_m_cardPrice v_m_lotPrice v_m_sure v_m_up v_m_down v_ml)) (w2 := (wo_X10_weighs cI cJ a_m a_mt a_ml a_mr a_mx a_mf a_mg a_mw a_mh v_m_thrown v_m_trace v_m_typed v_m_next v_m_token v_m_place v_m_value v_m_fault v_m_finds v_m_weeks v_m_rows v_m_cardPrice v_m_lotPrice v_m_sure v_m_up v_m_down v_ml v_mg)) X hP hD hS [0, 1] [2] [1, 2, 0] rfl (pa_rV (As := [.int x1, .int (255 : Int32)]) (rest := []) (T := TX10) X hP hD hS [0, 1] rfl rfl (c_X10_persons hg_10 H.size) (cwV 2 hts gX10_weighs_X10_persons rfl rfl rfl (by decide +kernel) ⟨Nat.le_of_ble_eq_true rfl, Nat.le_of_ble_eq_true rfl⟩) (q0 := 0) rfl rfl rfl hl.1 rfl (Nat.le_of_ble_eq_true rfl) dX10_weighs_5 ⟨Nat.zero_le _, Nat.zero_le _⟩) rfl rfl (by decide) rfl rfl (fun H locs hP hD hS => ?_)
  refine lv_istore_n (lv' := [(2, .int u_9), (0, .ref a_m), (1, .int x1)]) hx hb dX10_weighs_8 rfl hl (by decide) rfl (fun ls hl => ?_)
  refine lv_aload_n hx hb dX10_weighs_9 rfl (lv_at hl 1 rfl) ?_
  refine lv_iload_n hx hb dX10_weighs_10 rfl (lv_at hl 2 rfl) ?_
  refine lv_sipush (v := (204 : Int32)) hx hb dX10_weighs_11 (by decide) ?_
  obtain ⟨u_11, hg_12, hf⟩ := pa_bd hf
  refine pa_ki (wc := (wo_X10_persons cI cJ a_m a_mt a_ml a_mr a_mx a_mf a_mg a_mw a_mh v_m_thrown v_m_trace v_m_typed v_m_next v_m_token v_m_place v_m_value v_m_fault v_m_finds v_m_weeks v_m_rows v_m_cardPrice v_m_lotPrice v_m_sure v_m_up v_m_down v_ml)) (wr := [(a_mg, .inl (cI, 8, .inl v_mg))]) (w1 := (wo_X10_persons cI cJ a_m a_mt a_ml a_mr a_mx a_mf a_mg a_mw a_mh v_m_thrown v_m_trace v_m_typed v_m_next v_m_token v_m_place v_m_value v_m_fault v_m_finds v_m_weeks v_m_rows v_m_cardPrice v_m_lotPrice v_m_sure v_m_up v_m_down v_ml)) (w2 := (wo_X10_weighs cI cJ a_m a_mt a_ml a_mr a_mx a_mf a_mg a_mw a_mh v_m_thrown v_m_trace v_m_typed v_m_next v_m_token v_m_place v_m_value v_m_fault v_m_finds v_m_weeks v_m_rows v_m_cardPrice v_m_lotPrice v_m_sure v_m_up v_m_down v_ml v_mg)) X hP hD hS [0, 1] [2] [1, 2, 0] rfl (pa_rV (As := [.int x1, .int (204 : Int32)]) (rest := []) (T := TX10) X hP hD hS [0, 1] rfl rfl (c_X10_persons hg_12 H.size) (cwV 2 hts gX10_weighs_X10_persons rfl rfl rfl (by decide +kernel) ⟨Nat.le_of_ble_eq_true rfl, Nat.le_of_ble_eq_true rfl⟩) (q0 := 0) rfl rfl rfl hl.1 rfl (Nat.le_of_ble_eq_true rfl) dX10_weighs_14 ⟨Nat.zero_le _, Nat.zero_le _⟩) rfl rfl (by decide) rfl rfl (fun H locs hP hD hS => ?_)
  refine lv_istore_n (lv' := [(3, .int u_11), (2, .int u_9), (0, .ref a_m), (1, .int x1)]) hx hb dX10_weighs_17 rfl hl (by decide) rfl (fun ls hl => ?_)
  refine lv_iload_n hx hb dX10_weighs_18 rfl (lv_at hl 1 rfl) ?_
  refine lv_iload_n hx hb dX10_weighs_19 rfl (lv_at hl 0 rfl) ?_
  refine lv_isub hx hb dX10_weighs_20 ?_
  refine lv_istore (lv' := [(4, .int (u_9 - u_11)), (3, .int u_11), (2, .int u_9), (0, .ref a_m), (1, .int x1)]) hx hb dX10_weighs_21 hl (by decide) rfl (fun ls hl => ?_)
  refine lv_aload_n hx hb dX10_weighs_23 rfl (lv_at hl 3 rfl) ?_
  refine lv_sipush (v := (204 : Int32)) hx hb dX10_weighs_24 (by decide) ?_
  obtain ⟨u_13, hg_14, hf⟩ := pa_bd hf
  refine pa_ki (wc := (wo_X10_gotOf cI cJ a_m a_mt a_ml a_mr a_mx a_mf a_mg a_mw a_mh v_m_thrown v_m_trace v_m_typed v_m_next v_m_token v_m_place v_m_value v_m_fault v_m_finds v_m_weeks v_m_rows v_m_cardPrice v_m_lotPrice v_m_sure v_m_up v_m_down v_mg)) (wr := [(a_ml, .inl (cI, 32, .inl v_ml))]) (w1 := (wo_X10_gotOf cI cJ a_m a_mt a_ml a_mr a_mx a_mf a_mg a_mw a_mh v_m_thrown v_m_trace v_m_typed v_m_next v_m_token v_m_place v_m_value v_m_fault v_m_finds v_m_weeks v_m_rows v_m_cardPrice v_m_lotPrice v_m_sure v_m_up v_m_down v_mg)) (w2 := (wo_X10_weighs cI cJ a_m a_mt a_ml a_mr a_mx a_mf a_mg a_mw a_mh v_m_thrown v_m_trace v_m_typed v_m_next v_m_token v_m_place v_m_value v_m_fault v_m_finds v_m_weeks v_m_rows v_m_cardPrice v_m_lotPrice v_m_sure v_m_up v_m_down v_ml v_mg)) X hP hD hS [0, 2] [1] [1, 0, 2] rfl (pa_rV (As := [.int (204 : Int32)]) (rest := []) (T := TX10) X hP hD hS [0, 2] rfl rfl (c_X10_gotOf hg_14 H.size) (cwV 1 hts gX10_weighs_X10_gotOf rfl rfl rfl (by decide +kernel) ⟨Nat.le_of_ble_eq_true rfl, Nat.le_of_ble_eq_true rfl⟩) (q0 := 0) rfl rfl rfl hl.1 rfl (Nat.le_of_ble_eq_true rfl) dX10_weighs_27 ⟨Nat.zero_le _, Nat.zero_le _⟩) rfl rfl (by decide) rfl rfl (fun H locs hP hD hS => ?_)
  refine lv_istore (lv' := [(5, .int u_13), (4, .int (u_9 - u_11)), (3, .int u_11), (2, .int u_9), (0, .ref a_m), (1, .int x1)]) hx hb dX10_weighs_30 hl (by decide) rfl (fun ls hl => ?_)
  refine lv_aload_n hx hb dX10_weighs_32 rfl (lv_at hl 4 rfl) ?_
  refine lv_bipush (v := (51 : Int32)) hx hb dX10_weighs_33 (by decide) ?_
  obtain ⟨u_15, hg_16, hf⟩ := pa_bd hf
  refine pa_ki (wc := (wo_X10_gotOf cI cJ a_m a_mt a_ml a_mr a_mx a_mf a_mg a_mw a_mh v_m_thrown v_m_trace v_m_typed v_m_next v_m_token v_m_place v_m_value v_m_fault v_m_finds v_m_weeks v_m_rows v_m_cardPrice v_m_lotPrice v_m_sure v_m_up v_m_down v_mg)) (wr := [(a_ml, .inl (cI, 32, .inl v_ml))]) (w1 := (wo_X10_gotOf cI cJ a_m a_mt a_ml a_mr a_mx a_mf a_mg a_mw a_mh v_m_thrown v_m_trace v_m_typed v_m_next v_m_token v_m_place v_m_value v_m_fault v_m_finds v_m_weeks v_m_rows v_m_cardPrice v_m_lotPrice v_m_sure v_m_up v_m_down v_mg)) (w2 := (wo_X10_weighs cI cJ a_m a_mt a_ml a_mr a_mx a_mf a_mg a_mw a_mh v_m_thrown v_m_trace v_m_typed v_m_next v_m_token v_m_place v_m_value v_m_fault v_m_finds v_m_weeks v_m_rows v_m_cardPrice v_m_lotPrice v_m_sure v_m_up v_m_down v_ml v_mg)) X hP hD hS [0, 2] [1] [1, 0, 2] rfl (pa_rV (As := [.int (51 : Int32)]) (rest := []) (T := TX10) X hP hD hS [0, 2] rfl rfl (c_X10_gotOf hg_16 H.size) (cwV 1 hts gX10_weighs_X10_gotOf rfl rfl rfl (by decide +kernel) ⟨Nat.le_of_ble_eq_true rfl, Nat.le_of_ble_eq_true rfl⟩) (q0 := 0) rfl rfl rfl hl.1 rfl (Nat.le_of_ble_eq_true rfl) dX10_weighs_35 ⟨Nat.zero_le _, Nat.zero_le _⟩) rfl rfl (by decide) rfl rfl (fun H locs hP hD hS => ?_)
  refine lv_istore (lv' := [(6, .int u_15), (5, .int u_13), (4, .int (u_9 - u_11)), (3, .int u_11), (2, .int u_9), (0, .ref a_m), (1, .int x1)]) hx hb dX10_weighs_38 hl (by decide) rfl (fun ls hl => ?_)
  refine lv_iload_n hx hb dX10_weighs_40 rfl (lv_at hl 4 rfl) ?_
  refine lv_if_eq (tgt := 63) hx hb dX10_weighs_41 (by decide) (fun c_17 => ?_) (fun c_17 => ?_)
  · have hf := (if_pos c_17).symm.trans hf
    refine lv_iconst (v := (0 : Int32)) hx hb dX10_weighs_63 (by decide) ?_
    obtain rfl := Option.some.inj hf
    exact pa_ez (v := (0 : Int32)) X hP hD hS rfl dX10_weighs_64
  · have hf := (if_neg c_17).symm.trans hf
    refine lv_iload_n hx hb dX10_weighs_44 rfl (lv_at hl 3 rfl) ?_
    refine lv_if_le (tgt := 53) hx hb dX10_weighs_45 (by decide) (fun c_18 => ?_) (fun c_18 => ?_)
    · have hf := (if_pos c_18).symm.trans hf
      exact w_X10_weighs_b53 X  hf hP hD hS (lv_sub hl [5, 4, 3, 2, 1, 0] rfl)
    · have hf := (if_neg c_18).symm.trans hf
      refine lv_iload hx hb dX10_weighs_48 (lv_at hl 1 rfl) ?_
      refine lv_if_eq (tgt := 63) hx hb dX10_weighs_50 (by decide) (fun c_19 => ?_) (fun c_19 => ?_)
      · have hf := (if_pos c_19).symm.trans hf
        refine lv_iconst (v := (0 : Int32)) hx hb dX10_weighs_63 (by decide) ?_
        obtain rfl := Option.some.inj hf
        exact pa_ez (v := (0 : Int32)) X hP hD hS rfl dX10_weighs_64
      · have hf := (if_neg c_19).symm.trans hf
        exact w_X10_weighs_b53 X  hf hP hD hS (lv_sub hl [5, 4, 3, 2, 1, 0] rfl)
set_option maxHeartbeats 4000000 in
set_option maxRecDepth 100000 in
theorem c_X10_weighs {l : Launch} {D : va_G} {cI cJ : ClassId} {g : pa_GT} {a_m a_mt a_ml a_mr a_mx a_mf a_mg a_mw a_mh : Nat} {x1 : Int32} {v_m_thrown : Int32} {v_m_trace : Int64} {v_m_typed : Int32} {v_m_next : Int32} {v_m_token : Int32} {v_m_place : Int32} {v_m_value : Int32} {v_m_fault : Int32} {v_m_finds : Int32} {v_m_weeks : Int32} {v_m_rows : Int32} {v_m_cardPrice : Int32} {v_m_lotPrice : Int32} {v_m_sure : Int32} {v_m_up : Int64} {v_m_down : Int64} {v_ml : Nat → Int32} {v_mg : Nat → Int32} {o : Int32 × Int64 × Int64} (hf : f_X10_weighs x1 v_m_up v_m_down v_ml v_mg = some o) : pa_Mi l yX10_weighs wsX10_weighs rm_X10_weighs D cI cJ g [.ref a_m, .int x1] (wo_X10_weighs cI cJ a_m a_mt a_ml a_mr a_mx a_mf a_mg a_mw a_mh v_m_thrown v_m_trace v_m_typed v_m_next v_m_token v_m_place v_m_value v_m_fault v_m_finds v_m_weeks v_m_rows v_m_cardPrice v_m_lotPrice v_m_sure v_m_up v_m_down v_ml v_mg) (wo_X10_weighs cI cJ a_m a_mt a_ml a_mr a_mx a_mf a_mg a_mw a_mh v_m_thrown v_m_trace v_m_typed v_m_next v_m_token v_m_place v_m_value v_m_fault v_m_finds v_m_weeks v_m_rows v_m_cardPrice v_m_lotPrice v_m_sure o.2.1 o.2.2 v_ml v_mg) o.1 := by
  intro sz
  refine pa_met (cc := cX10_weighs) (maxL := 11) (ret := (some .boolean)) (lv := [(0, .ref a_m), (1, .int x1)]) (by decide) rfl (Nat.le_of_ble_eq_true rfl) rfl ?_
  intro p e s m below meth c X hsz hP hD ls hl
  subst hsz
  exact w_X10_weighs_b0 X hf hP hD va_S.rf hl
