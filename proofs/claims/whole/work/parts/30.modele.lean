abbrev wo_X10_count (cI cJ : ClassId) (a_m a_mt a_ml a_mr a_mx a_mf a_mg a_mw a_mh : Nat) (v_m_thrown : Int32) (v_m_trace : Int64) (v_m_typed : Int32) (v_m_next : Int32) (v_m_token : Int32) (v_m_place : Int32) (v_m_value : Int32) (v_m_fault : Int32) (v_m_finds : Int32) (v_m_weeks : Int32) (v_m_rows : Int32) (v_m_cardPrice : Int32) (v_m_lotPrice : Int32) (v_m_sure : Int32) (v_m_up : Int64) (v_m_down : Int64) (v_ml : Nat → Int32) : va_W := [(a_m, .inr (9, [.int v_m_thrown, .long v_m_trace, .ref a_mt, .ref a_ml, .ref a_mr, .ref a_mx, .int v_m_typed, .int v_m_next, .int v_m_token, .int v_m_place, .int v_m_value, .int v_m_fault, .int v_m_finds, .ref a_mf, .ref a_mg, .int v_m_weeks, .ref a_mw, .int v_m_rows, .ref a_mh, .int v_m_cardPrice, .int v_m_lotPrice, .int v_m_sure, .long v_m_up, .long v_m_down])), (a_ml, .inl (cI, 32, .inl v_ml))]
abbrev rm_X10_count : Room := { frames := 2, cells := 0, slots := 0, locals := 46 }
theorem il_X10_count_X10 : ∀ w ∈ wsX100, w ∈ wsX10_count := by decide +kernel
theorem fk_X10_count_0 : Cond.fieldLink RX10 45 "PostedAsksModel" "thrown" "I" ∈ wsX10_count := by decide +kernel
theorem fk_X10_count_1 : Cond.fieldLink RX10 83 "PostedAsksModel" "typed" "I" ∈ wsX10_count := by decide +kernel
theorem fk_X10_count_2 : Cond.fieldLink RX10 166 "PostedAsksModel" "rows" "I" ∈ wsX10_count := by decide +kernel
theorem fk_X10_count_3 : Cond.fieldLink RX10 160 "PostedAsksModel" "weeks" "I" ∈ wsX10_count := by decide +kernel
theorem fk_X10_count_4 : Cond.fieldLink RX10 125 "PostedAsksModel" "finds" "I" ∈ wsX10_count := by decide +kernel
def f_X10_count (x1 : Int32) (v_m_typed : Int32) (v_m_finds : Int32) (v_m_weeks : Int32) (v_m_rows : Int32) (v_ml : Nat → Int32) : Option (Int32 × Int32) :=
  if x1 = 0 then
    (f_X10_everybody v_ml).bind fun u_6 =>
    some (u_6, (0 : Int32))
  else
    if x1 = (1 : Int32) then
      some (v_m_finds, (0 : Int32))
    else
      if x1 = (2 : Int32) then
        some (v_m_weeks, (0 : Int32))
      else
        if x1 = (3 : Int32) then
          some (v_m_rows, (0 : Int32))
        else
          if x1 = (4 : Int32) then
            some (v_m_typed, (0 : Int32))
          else
            some ((-1 : Int32), (0 : Int32))
set_option maxHeartbeats 4000000 in
set_option maxRecDepth 100000 in
theorem w_X10_count_b0 {l : Launch} {D : va_G} {cI cJ : ClassId} {g : pa_GT} {a_m a_mt a_ml a_mr a_mx a_mf a_mg a_mw a_mh : Nat} {A : Nat → Prop} {p : Program} {e : Env} {s : State} {m : MethodId} {args : Array Value} {below : List Frame} {meth : Method} {c : Code} {x1 : Int32} {v_m_typed : Int32} {v_m_finds : Int32} {v_m_weeks : Int32} {v_m_rows : Int32} {v_ml : Nat → Int32} {v_m_thrown : Int32} {v_m_trace : Int64} {v_m_next : Int32} {v_m_token : Int32} {v_m_place : Int32} {v_m_value : Int32} {v_m_fault : Int32} {v_m_cardPrice : Int32} {v_m_lotPrice : Int32} {v_m_sure : Int32} {v_m_up : Int64} {v_m_down : Int64} {o : Int32 × Int32} (X : pa_X cX10_count 2 (some .int) RX10 wsX10_count D cI cJ g A p s m args meth c)  (hf : f_X10_count x1 v_m_typed v_m_finds v_m_weeks v_m_rows v_ml = some o) {H : Heap} {locs : List Loc} (hP : va_P D vwCl (wo_X10_count cI cJ a_m a_mt a_ml a_mr a_mx a_mf a_mg a_mw a_mh v_m_thrown v_m_trace v_m_typed v_m_next v_m_token v_m_place v_m_value v_m_fault v_m_finds v_m_weeks v_m_rows v_m_cardPrice v_m_lotPrice v_m_sure v_m_up v_m_down v_ml) H) (hD : va_D A (wo_X10_count cI cJ a_m a_mt a_ml a_mr a_mx a_mf a_mg a_mw a_mh v_m_thrown v_m_trace v_m_typed v_m_next v_m_token v_m_place v_m_value v_m_fault v_m_finds v_m_weeks v_m_rows v_m_cardPrice v_m_lotPrice v_m_sure v_m_up v_m_down v_ml)) (hS : va_S A s.heap H locs) {ls : Array Slot} (hl : lv_has ls 2 [(0, .ref a_m), (1, .int x1)]) : W p l e (headSpec wsX10_count rm_X10_count).room s m args below meth c H locs 0 0 (MQ below (va_Qi (fun r (_ : Unit) => r = o.1) (pa_QB D A (wo_X10_count cI cJ a_m a_mt a_ml a_mr a_mx a_mf a_mg a_mw a_mh o.2 v_m_trace v_m_typed v_m_next v_m_token v_m_place v_m_value v_m_fault v_m_finds v_m_weeks v_m_rows v_m_cardPrice v_m_lotPrice v_m_sure v_m_up v_m_down v_ml)) A) args s 0 0 A) (F0 m 0 ls []) := by
  obtain ⟨hx, hb, hr, hml, hown, hts, hK, hA, hG, hlk⟩ := id X
  delta f_X10_count at hf
  refine lv_aload_n hx hb dX10_count_0 rfl (lv_at hl 0 rfl) ?_
  refine lv_iconst (v := (0 : Int32)) hx hb dX10_count_1 (by decide) ?_
  refine va_put (D := D) (ci := 9) (v := .int (0 : Int32)) (ty := .int) (C := RX10) (T := TX10) (N := 24) hx hb hts il_X10_count_X10 tyX10 tyX10_ok nmX10 hown hK hP hD hS 0 rfl rfl 0 (by decide) (hts _ fk_X10_count_0) (fun _ h9 => h9) rfl (tyX10_ok 0 (by decide)) rfl rfl (Nat.le_of_ble_eq_true rfl) dX10_count_2 (fun H locs hP hD hS => ?_)
  have hP : va_P D vwCl (wo_X10_count cI cJ a_m a_mt a_ml a_mr a_mx a_mf a_mg a_mw a_mh (0 : Int32) v_m_trace v_m_typed v_m_next v_m_token v_m_place v_m_value v_m_fault v_m_finds v_m_weeks v_m_rows v_m_cardPrice v_m_lotPrice v_m_sure v_m_up v_m_down v_ml) H := hP
  have hD : va_D A (wo_X10_count cI cJ a_m a_mt a_ml a_mr a_mx a_mf a_mg a_mw a_mh (0 : Int32) v_m_trace v_m_typed v_m_next v_m_token v_m_place v_m_value v_m_fault v_m_finds v_m_weeks v_m_rows v_m_cardPrice v_m_lotPrice v_m_sure v_m_up v_m_down v_ml) := hD
  refine lv_iload_n hx hb dX10_count_5 rfl (lv_at hl 1 rfl) ?_
  refine lv_if_ne (tgt := 16) hx hb dX10_count_6 (by decide) (fun c_1 => ?_) (fun c_1 => ?_)
  · have hf := (if_neg c_1).symm.trans hf
    refine lv_iload_n hx hb dX10_count_16 rfl (lv_at hl 1 rfl) ?_
    refine lv_iconst (v := (1 : Int32)) hx hb dX10_count_17 (by decide) ?_
    refine lv_icmp_ne (tgt := 28) hx hb dX10_count_18 (by decide) (fun c_2 => ?_) (fun c_2 => ?_)
    · have hf := (if_neg c_2).symm.trans hf
      refine lv_iload_n hx hb dX10_count_28 rfl (lv_at hl 1 rfl) ?_
      refine lv_iconst (v := (2 : Int32)) hx hb dX10_count_29 (by decide) ?_
      refine lv_icmp_ne (tgt := 40) hx hb dX10_count_30 (by decide) (fun c_3 => ?_) (fun c_3 => ?_)
      · have hf := (if_neg c_3).symm.trans hf
        refine lv_iload_n hx hb dX10_count_40 rfl (lv_at hl 1 rfl) ?_
        refine lv_iconst (v := (3 : Int32)) hx hb dX10_count_41 (by decide) ?_
        refine lv_icmp_ne (tgt := 52) hx hb dX10_count_42 (by decide) (fun c_4 => ?_) (fun c_4 => ?_)
        · have hf := (if_neg c_4).symm.trans hf
          refine lv_iload_n hx hb dX10_count_52 rfl (lv_at hl 1 rfl) ?_
          refine lv_iconst (v := (4 : Int32)) hx hb dX10_count_53 (by decide) ?_
          refine lv_icmp_ne (tgt := 64) hx hb dX10_count_54 (by decide) (fun c_5 => ?_) (fun c_5 => ?_)
          · have hf := (if_neg c_5).symm.trans hf
            refine lv_iconst (v := (-1 : Int32)) hx hb dX10_count_64 (by decide) ?_
            obtain rfl := Option.some.inj hf
            exact pa_ei X hP hD hS dX10_count_65
          · have hf := (if_pos c_5).symm.trans hf
            refine lv_aload_n hx hb dX10_count_57 rfl (lv_at hl 0 rfl) ?_
            refine va_get (D := D) (ci := 9) (v := .int v_m_typed) (C := RX10) (T := TX10) (N := 24) hx hb hts il_X10_count_X10 hown hK hP 0 rfl rfl 6 (by decide) (hts _ fk_X10_count_1) (fun _ h9 => h9) rfl dX10_count_58 ?_
            refine lv_goto (tgt := 65) hx hb dX10_count_61 (by decide) ?_
            obtain rfl := Option.some.inj hf
            exact pa_ei X hP hD hS dX10_count_65
        · have hf := (if_pos c_4).symm.trans hf
          refine lv_aload_n hx hb dX10_count_45 rfl (lv_at hl 0 rfl) ?_
          refine va_get (D := D) (ci := 9) (v := .int v_m_rows) (C := RX10) (T := TX10) (N := 24) hx hb hts il_X10_count_X10 hown hK hP 0 rfl rfl 17 (by decide) (hts _ fk_X10_count_2) (fun _ h9 => h9) rfl dX10_count_46 ?_
          refine lv_goto (tgt := 65) hx hb dX10_count_49 (by decide) ?_
          obtain rfl := Option.some.inj hf
          exact pa_ei X hP hD hS dX10_count_65
      · have hf := (if_pos c_3).symm.trans hf
        refine lv_aload_n hx hb dX10_count_33 rfl (lv_at hl 0 rfl) ?_
        refine va_get (D := D) (ci := 9) (v := .int v_m_weeks) (C := RX10) (T := TX10) (N := 24) hx hb hts il_X10_count_X10 hown hK hP 0 rfl rfl 15 (by decide) (hts _ fk_X10_count_3) (fun _ h9 => h9) rfl dX10_count_34 ?_
        refine lv_goto (tgt := 65) hx hb dX10_count_37 (by decide) ?_
        obtain rfl := Option.some.inj hf
        exact pa_ei X hP hD hS dX10_count_65
    · have hf := (if_pos c_2).symm.trans hf
      refine lv_aload_n hx hb dX10_count_21 rfl (lv_at hl 0 rfl) ?_
      refine va_get (D := D) (ci := 9) (v := .int v_m_finds) (C := RX10) (T := TX10) (N := 24) hx hb hts il_X10_count_X10 hown hK hP 0 rfl rfl 12 (by decide) (hts _ fk_X10_count_4) (fun _ h9 => h9) rfl dX10_count_22 ?_
      refine lv_goto (tgt := 65) hx hb dX10_count_25 (by decide) ?_
      obtain rfl := Option.some.inj hf
      exact pa_ei X hP hD hS dX10_count_65
  · have hf := (if_pos c_1).symm.trans hf
    refine lv_aload_n hx hb dX10_count_9 rfl (lv_at hl 0 rfl) ?_
    obtain ⟨u_6, hg_7, hf⟩ := pa_bd hf
    refine pa_ki (wc := (wo_X10_everybody cI cJ a_m a_mt a_ml a_mr a_mx a_mf a_mg a_mw a_mh (0 : Int32) v_m_trace v_m_typed v_m_next v_m_token v_m_place v_m_value v_m_fault v_m_finds v_m_weeks v_m_rows v_m_cardPrice v_m_lotPrice v_m_sure v_m_up v_m_down v_ml)) (wr := ([] : va_W)) (w1 := (wo_X10_everybody cI cJ a_m a_mt a_ml a_mr a_mx a_mf a_mg a_mw a_mh (0 : Int32) v_m_trace v_m_typed v_m_next v_m_token v_m_place v_m_value v_m_fault v_m_finds v_m_weeks v_m_rows v_m_cardPrice v_m_lotPrice v_m_sure v_m_up v_m_down v_ml)) (w2 := (wo_X10_count cI cJ a_m a_mt a_ml a_mr a_mx a_mf a_mg a_mw a_mh (0 : Int32) v_m_trace v_m_typed v_m_next v_m_token v_m_place v_m_value v_m_fault v_m_finds v_m_weeks v_m_rows v_m_cardPrice v_m_lotPrice v_m_sure v_m_up v_m_down v_ml)) X hP hD hS [0, 1] [] [0, 1] rfl (pa_rV (As := []) (rest := []) (T := TX10) X hP hD hS [0, 1] rfl rfl (c_X10_everybody hg_7 H.size) (cwV 0 hts gX10_count_X10_everybody rfl rfl rfl (by decide +kernel) ⟨Nat.le_of_ble_eq_true rfl, Nat.le_of_ble_eq_true rfl⟩) (q0 := 0) rfl rfl rfl hl.1 rfl (Nat.le_of_ble_eq_true rfl) dX10_count_10 ⟨Nat.zero_le _, Nat.zero_le _⟩) rfl rfl (by decide) rfl rfl (fun H locs hP hD hS => ?_)
    refine lv_goto (tgt := 65) hx hb dX10_count_13 (by decide) ?_
    obtain rfl := Option.some.inj hf
    exact pa_ei X hP hD hS dX10_count_65
set_option maxHeartbeats 4000000 in
set_option maxRecDepth 100000 in
theorem c_X10_count {l : Launch} {D : va_G} {cI cJ : ClassId} {g : pa_GT} {a_m a_mt a_ml a_mr a_mx a_mf a_mg a_mw a_mh : Nat} {x1 : Int32} {v_m_thrown : Int32} {v_m_trace : Int64} {v_m_typed : Int32} {v_m_next : Int32} {v_m_token : Int32} {v_m_place : Int32} {v_m_value : Int32} {v_m_fault : Int32} {v_m_finds : Int32} {v_m_weeks : Int32} {v_m_rows : Int32} {v_m_cardPrice : Int32} {v_m_lotPrice : Int32} {v_m_sure : Int32} {v_m_up : Int64} {v_m_down : Int64} {v_ml : Nat → Int32} {o : Int32 × Int32} (hf : f_X10_count x1 v_m_typed v_m_finds v_m_weeks v_m_rows v_ml = some o) : pa_Mi l yX10_count wsX10_count rm_X10_count D cI cJ g [.ref a_m, .int x1] (wo_X10_count cI cJ a_m a_mt a_ml a_mr a_mx a_mf a_mg a_mw a_mh v_m_thrown v_m_trace v_m_typed v_m_next v_m_token v_m_place v_m_value v_m_fault v_m_finds v_m_weeks v_m_rows v_m_cardPrice v_m_lotPrice v_m_sure v_m_up v_m_down v_ml) (wo_X10_count cI cJ a_m a_mt a_ml a_mr a_mx a_mf a_mg a_mw a_mh o.2 v_m_trace v_m_typed v_m_next v_m_token v_m_place v_m_value v_m_fault v_m_finds v_m_weeks v_m_rows v_m_cardPrice v_m_lotPrice v_m_sure v_m_up v_m_down v_ml) o.1 := by
  intro sz
  refine pa_met (cc := cX10_count) (maxL := 2) (ret := (some .int)) (lv := [(0, .ref a_m), (1, .int x1)]) (by decide) rfl (Nat.le_of_ble_eq_true rfl) rfl ?_
  intro p e s m below meth c X hsz hP hD ls hl
  subst hsz
  exact w_X10_count_b0 X hf hP hD va_S.rf hl
abbrev wo_X10_trace (cI cJ : ClassId) (a_m a_mt a_ml a_mr a_mx a_mf a_mg a_mw a_mh : Nat) (v_m_thrown : Int32) (v_m_trace : Int64) (v_m_typed : Int32) (v_m_next : Int32) (v_m_token : Int32) (v_m_place : Int32) (v_m_value : Int32) (v_m_fault : Int32) (v_m_finds : Int32) (v_m_weeks : Int32) (v_m_rows : Int32) (v_m_cardPrice : Int32) (v_m_lotPrice : Int32) (v_m_sure : Int32) (v_m_up : Int64) (v_m_down : Int64) : va_W := [(a_m, .inr (9, [.int v_m_thrown, .long v_m_trace, .ref a_mt, .ref a_ml, .ref a_mr, .ref a_mx, .int v_m_typed, .int v_m_next, .int v_m_token, .int v_m_place, .int v_m_value, .int v_m_fault, .int v_m_finds, .ref a_mf, .ref a_mg, .int v_m_weeks, .ref a_mw, .int v_m_rows, .ref a_mh, .int v_m_cardPrice, .int v_m_lotPrice, .int v_m_sure, .long v_m_up, .long v_m_down]))]
abbrev rm_X10_trace : Room := { frames := 0, cells := 0, slots := 0, locals := 0 }
theorem il_X10_trace_X10 : ∀ w ∈ wsX100, w ∈ wsX10_trace := by decide +kernel
theorem fk_X10_trace_0 : Cond.fieldLink RX10 45 "PostedAsksModel" "thrown" "I" ∈ wsX10_trace := by decide +kernel
theorem fk_X10_trace_1 : Cond.fieldLink RX10 178 "PostedAsksModel" "trace" "J" ∈ wsX10_trace := by decide +kernel
def f_X10_trace (v_m_trace : Int64) : Option (Int64 × Int32) :=
  some (v_m_trace, (0 : Int32))
set_option maxHeartbeats 4000000 in
set_option maxRecDepth 100000 in
theorem w_X10_trace_b0 {l : Launch} {D : va_G} {cI cJ : ClassId} {g : pa_GT} {a_m a_mt a_ml a_mr a_mx a_mf a_mg a_mw a_mh : Nat} {A : Nat → Prop} {p : Program} {e : Env} {s : State} {m : MethodId} {args : Array Value} {below : List Frame} {meth : Method} {c : Code} {v_m_trace : Int64} {v_m_thrown : Int32} {v_m_typed : Int32} {v_m_next : Int32} {v_m_token : Int32} {v_m_place : Int32} {v_m_value : Int32} {v_m_fault : Int32} {v_m_finds : Int32} {v_m_weeks : Int32} {v_m_rows : Int32} {v_m_cardPrice : Int32} {v_m_lotPrice : Int32} {v_m_sure : Int32} {v_m_up : Int64} {v_m_down : Int64} {o : Int64 × Int32} (X : pa_X cX10_trace 1 (some .long) RX10 wsX10_trace D cI cJ g A p s m args meth c)  (hf : f_X10_trace v_m_trace = some o) {H : Heap} {locs : List Loc} (hP : va_P D vwCl (wo_X10_trace cI cJ a_m a_mt a_ml a_mr a_mx a_mf a_mg a_mw a_mh v_m_thrown v_m_trace v_m_typed v_m_next v_m_token v_m_place v_m_value v_m_fault v_m_finds v_m_weeks v_m_rows v_m_cardPrice v_m_lotPrice v_m_sure v_m_up v_m_down) H) (hD : va_D A (wo_X10_trace cI cJ a_m a_mt a_ml a_mr a_mx a_mf a_mg a_mw a_mh v_m_thrown v_m_trace v_m_typed v_m_next v_m_token v_m_place v_m_value v_m_fault v_m_finds v_m_weeks v_m_rows v_m_cardPrice v_m_lotPrice v_m_sure v_m_up v_m_down)) (hS : va_S A s.heap H locs) {ls : Array Slot} (hl : lv_has ls 1 [(0, .ref a_m)]) : W p l e (headSpec wsX10_trace rm_X10_trace).room s m args below meth c H locs 0 0 (MQ below (va_Ql (fun r (_ : Unit) => r = o.1) (pa_QB D A (wo_X10_trace cI cJ a_m a_mt a_ml a_mr a_mx a_mf a_mg a_mw a_mh o.2 v_m_trace v_m_typed v_m_next v_m_token v_m_place v_m_value v_m_fault v_m_finds v_m_weeks v_m_rows v_m_cardPrice v_m_lotPrice v_m_sure v_m_up v_m_down)) A) args s 0 0 A) (F0 m 0 ls []) := by
  obtain ⟨hx, hb, hr, hml, hown, hts, hK, hA, hG, hlk⟩ := id X
  delta f_X10_trace at hf
  refine lv_aload_n hx hb dX10_trace_0 rfl (lv_at hl 0 rfl) ?_
  refine lv_iconst (v := (0 : Int32)) hx hb dX10_trace_1 (by decide) ?_
  refine va_put (D := D) (ci := 9) (v := .int (0 : Int32)) (ty := .int) (C := RX10) (T := TX10) (N := 24) hx hb hts il_X10_trace_X10 tyX10 tyX10_ok nmX10 hown hK hP hD hS 0 rfl rfl 0 (by decide) (hts _ fk_X10_trace_0) (fun _ h9 => h9) rfl (tyX10_ok 0 (by decide)) rfl rfl (Nat.le_of_ble_eq_true rfl) dX10_trace_2 (fun H locs hP hD hS => ?_)
  have hP : va_P D vwCl (wo_X10_trace cI cJ a_m a_mt a_ml a_mr a_mx a_mf a_mg a_mw a_mh (0 : Int32) v_m_trace v_m_typed v_m_next v_m_token v_m_place v_m_value v_m_fault v_m_finds v_m_weeks v_m_rows v_m_cardPrice v_m_lotPrice v_m_sure v_m_up v_m_down) H := hP
  have hD : va_D A (wo_X10_trace cI cJ a_m a_mt a_ml a_mr a_mx a_mf a_mg a_mw a_mh (0 : Int32) v_m_trace v_m_typed v_m_next v_m_token v_m_place v_m_value v_m_fault v_m_finds v_m_weeks v_m_rows v_m_cardPrice v_m_lotPrice v_m_sure v_m_up v_m_down) := hD
  refine lv_aload_n hx hb dX10_trace_5 rfl (lv_at hl 0 rfl) ?_
  refine va_get (D := D) (ci := 9) (v := .long v_m_trace) (C := RX10) (T := TX10) (N := 24) hx hb hts il_X10_trace_X10 hown hK hP 0 rfl rfl 1 (by decide) (hts _ fk_X10_trace_1) (fun _ h9 => h9) rfl dX10_trace_6 ?_
  obtain rfl := Option.some.inj hf
  exact pa_el X hP hD hS dX10_trace_9
set_option maxHeartbeats 4000000 in
set_option maxRecDepth 100000 in
theorem c_X10_trace {l : Launch} {D : va_G} {cI cJ : ClassId} {g : pa_GT} {a_m a_mt a_ml a_mr a_mx a_mf a_mg a_mw a_mh : Nat}  {v_m_thrown : Int32} {v_m_trace : Int64} {v_m_typed : Int32} {v_m_next : Int32} {v_m_token : Int32} {v_m_place : Int32} {v_m_value : Int32} {v_m_fault : Int32} {v_m_finds : Int32} {v_m_weeks : Int32} {v_m_rows : Int32} {v_m_cardPrice : Int32} {v_m_lotPrice : Int32} {v_m_sure : Int32} {v_m_up : Int64} {v_m_down : Int64} {o : Int64 × Int32} (hf : f_X10_trace v_m_trace = some o) : pa_Ml l yX10_trace wsX10_trace rm_X10_trace D cI cJ g [.ref a_m] (wo_X10_trace cI cJ a_m a_mt a_ml a_mr a_mx a_mf a_mg a_mw a_mh v_m_thrown v_m_trace v_m_typed v_m_next v_m_token v_m_place v_m_value v_m_fault v_m_finds v_m_weeks v_m_rows v_m_cardPrice v_m_lotPrice v_m_sure v_m_up v_m_down) (wo_X10_trace cI cJ a_m a_mt a_ml a_mr a_mx a_mf a_mg a_mw a_mh o.2 v_m_trace v_m_typed v_m_next v_m_token v_m_place v_m_value v_m_fault v_m_finds v_m_weeks v_m_rows v_m_cardPrice v_m_lotPrice v_m_sure v_m_up v_m_down) o.1 := by
  intro sz
  refine pa_met (cc := cX10_trace) (maxL := 1) (ret := (some .long)) (lv := [(0, .ref a_m)]) (by decide) rfl (Nat.le_of_ble_eq_true rfl) rfl ?_
  intro p e s m below meth c X hsz hP hD ls hl
  subst hsz
  exact w_X10_trace_b0 X hf hP hD va_S.rf hl
