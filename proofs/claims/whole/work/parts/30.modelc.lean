abbrev wo_X10_weighed (cI cJ : ClassId) (a_m a_mt a_ml a_mr a_mx a_mf a_mg a_mw a_mh : Nat) (v_m_thrown : Int32) (v_m_trace : Int64) (v_m_typed : Int32) (v_m_next : Int32) (v_m_token : Int32) (v_m_place : Int32) (v_m_value : Int32) (v_m_fault : Int32) (v_m_finds : Int32) (v_m_weeks : Int32) (v_m_rows : Int32) (v_m_cardPrice : Int32) (v_m_lotPrice : Int32) (v_m_sure : Int32) (v_m_up : Int64) (v_m_down : Int64) (v_ml : Nat → Int32) (v_mf : Nat → Int32) (v_mg : Nat → Int32) : va_W := [(a_m, .inr (9, [.int v_m_thrown, .long v_m_trace, .ref a_mt, .ref a_ml, .ref a_mr, .ref a_mx, .int v_m_typed, .int v_m_next, .int v_m_token, .int v_m_place, .int v_m_value, .int v_m_fault, .int v_m_finds, .ref a_mf, .ref a_mg, .int v_m_weeks, .ref a_mw, .int v_m_rows, .ref a_mh, .int v_m_cardPrice, .int v_m_lotPrice, .int v_m_sure, .long v_m_up, .long v_m_down])), (a_ml, .inl (cI, 32, .inl v_ml)), (a_mf, .inl (cI, 50, .inl v_mf)), (a_mg, .inl (cI, 8, .inl v_mg))]
abbrev rm_X10_weighed : Room := { frames := 3, cells := 0, slots := 0, locals := 64 }
theorem il_X10_weighed_X10 : ∀ w ∈ wsX100, w ∈ wsX10_weighed := by decide +kernel
theorem fk_X10_weighed_0 : Cond.fieldLink RX10 45 "PostedAsksModel" "thrown" "I" ∈ wsX10_weighed := by decide +kernel
theorem fk_X10_weighed_1 : Cond.constantLong RX10 74 (-1000000000000000000) ∈ wsX10_weighed := by decide +kernel
def f_X10_weighed_b55 (s1 : Int32) (v_m_thrown : Int32) (v_m_up : Int64) (v_m_down : Int64) (v_mg : Nat → Int32) : Option (Int64 × Int32 × Int64 × Int64 × (Nat → Int32)) :=
  (f_X10_told s1 v_m_up v_m_down).bind fun u_1 =>
  some (u_1, v_m_thrown, v_m_up, v_m_down, v_mg)
def f_X10_weighed (x1 : Int32) (x2 : Int32) (x3 : Int32) (x4 : Int32) (v_m_finds : Int32) (v_m_up : Int64) (v_m_down : Int64) (v_ml : Nat → Int32) (v_mf : Nat → Int32) (v_mg : Nat → Int32) : Option (Int64 × Int32 × Int64 × Int64 × (Nat → Int32)) :=
  (f_X10_isAsked x1 x2 x3).bind fun u_3 =>
  if u_3 = 0 then
    some ((-1000000000000000000 : Int64), (0 : Int32), v_m_up, v_m_down, v_mg)
  else
    (f_X10_in x4 (0 : Int32) (1 : Int32)).bind fun u_6 =>
    if u_6 = 0 then
      some ((-1000000000000000000 : Int64), (0 : Int32), v_m_up, v_m_down, v_mg)
    else
      (f_X10_finding x1 x2 x3 v_m_finds v_ml v_mf v_mg).bind fun u_9 =>
      (f_X10_weighs x1 v_m_up v_m_down v_ml u_9).bind fun u_11 =>
      if u_11.1 = 0 then
        some ((-1000000000000000000 : Int64), (0 : Int32), u_11.2.1, u_11.2.2, u_9)
      else
        if x4 = (1 : Int32) then
          f_X10_weighed_b55 (1 : Int32) (0 : Int32) u_11.2.1 u_11.2.2 u_9
        else
          f_X10_weighed_b55 (0 : Int32) (0 : Int32) u_11.2.1 u_11.2.2 u_9
set_option maxHeartbeats 4000000 in
set_option maxRecDepth 100000 in
theorem w_X10_weighed_b55 {l : Launch} {D : va_G} {cI cJ : ClassId} {g : pa_GT} {a_m a_mt a_ml a_mr a_mx a_mf a_mg a_mw a_mh : Nat} {A : Nat → Prop} {p : Program} {e : Env} {s : State} {m : MethodId} {args : Array Value} {below : List Frame} {meth : Method} {c : Code} {s1 : Int32} {v_m_thrown : Int32} {v_m_up : Int64} {v_m_down : Int64} {v_mg : Nat → Int32} {v_m_trace : Int64} {v_m_typed : Int32} {v_m_next : Int32} {v_m_token : Int32} {v_m_place : Int32} {v_m_value : Int32} {v_m_fault : Int32} {v_m_finds : Int32} {v_m_weeks : Int32} {v_m_rows : Int32} {v_m_cardPrice : Int32} {v_m_lotPrice : Int32} {v_m_sure : Int32} {v_ml : Nat → Int32} {v_mf : Nat → Int32} {o : Int64 × Int32 × Int64 × Int64 × (Nat → Int32)} (X : pa_X cX10_weighed 5 (some .long) RX10 wsX10_weighed D cI cJ g A p s m args meth c)  (hf : f_X10_weighed_b55 s1 v_m_thrown v_m_up v_m_down v_mg = some o) {H : Heap} {locs : List Loc} (hP : va_P D vwCl (wo_X10_weighed cI cJ a_m a_mt a_ml a_mr a_mx a_mf a_mg a_mw a_mh v_m_thrown v_m_trace v_m_typed v_m_next v_m_token v_m_place v_m_value v_m_fault v_m_finds v_m_weeks v_m_rows v_m_cardPrice v_m_lotPrice v_m_sure v_m_up v_m_down v_ml v_mf v_mg) H) (hD : va_D A (wo_X10_weighed cI cJ a_m a_mt a_ml a_mr a_mx a_mf a_mg a_mw a_mh v_m_thrown v_m_trace v_m_typed v_m_next v_m_token v_m_place v_m_value v_m_fault v_m_finds v_m_weeks v_m_rows v_m_cardPrice v_m_lotPrice v_m_sure v_m_up v_m_down v_ml v_mf v_mg)) (hS : va_S A s.heap H locs) {ls : Array Slot} (hl : lv_has ls 5 []) : W p l e (headSpec wsX10_weighed rm_X10_weighed).room s m args below meth c H locs 0 0 (MQ below (va_Ql (fun r (_ : Unit) => r = o.1) (pa_QB D A (wo_X10_weighed cI cJ a_m a_mt a_ml a_mr a_mx a_mf a_mg a_mw a_mh o.2.1 v_m_trace v_m_typed v_m_next v_m_token v_m_place v_m_value v_m_fault v_m_finds v_m_weeks v_m_rows v_m_cardPrice v_m_lotPrice v_m_sure o.2.2.1 o.2.2.2.1 v_ml v_mf o.2.2.2.2)) A) args s 0 0 A) (F0 m 55 ls [.int s1, .ref a_m]) := by
  obtain ⟨hx, hb, hr, hml, hown, hts, hK, hA, hG, hlk⟩ := id X
  delta f_X10_weighed_b55 at hf
  obtain ⟨u_1, hg_2, hf⟩ := pa_bd hf
  refine pa_kl (wc := (wo_X10_told cI cJ a_m a_mt a_ml a_mr a_mx a_mf a_mg a_mw a_mh v_m_thrown v_m_trace v_m_typed v_m_next v_m_token v_m_place v_m_value v_m_fault v_m_finds v_m_weeks v_m_rows v_m_cardPrice v_m_lotPrice v_m_sure v_m_up v_m_down)) (wr := [(a_ml, .inl (cI, 32, .inl v_ml)), (a_mf, .inl (cI, 50, .inl v_mf)), (a_mg, .inl (cI, 8, .inl v_mg))]) (w1 := (wo_X10_told cI cJ a_m a_mt a_ml a_mr a_mx a_mf a_mg a_mw a_mh v_m_thrown v_m_trace v_m_typed v_m_next v_m_token v_m_place v_m_value v_m_fault v_m_finds v_m_weeks v_m_rows v_m_cardPrice v_m_lotPrice v_m_sure v_m_up v_m_down)) (w2 := (wo_X10_weighed cI cJ a_m a_mt a_ml a_mr a_mx a_mf a_mg a_mw a_mh v_m_thrown v_m_trace v_m_typed v_m_next v_m_token v_m_place v_m_value v_m_fault v_m_finds v_m_weeks v_m_rows v_m_cardPrice v_m_lotPrice v_m_sure v_m_up v_m_down v_ml v_mf v_mg)) X hP hD hS [0] [1, 2, 3] [3, 0, 1, 2] rfl (pa_rV (As := [.int s1]) (rest := []) (T := TX10) X hP hD hS [0] rfl rfl (c_X10_told hg_2 H.size) (cwV 1 hts gX10_weighed_X10_told rfl rfl rfl (by decide +kernel) ⟨Nat.le_of_ble_eq_true rfl, Nat.le_of_ble_eq_true rfl⟩) (q0 := 0) rfl rfl rfl hl.1 rfl (Nat.le_of_ble_eq_true rfl) dX10_weighed_55 ⟨Nat.zero_le _, Nat.zero_le _⟩) rfl rfl (by decide) rfl rfl (fun H locs hP hD hS => ?_)
  refine lv_goto (tgt := 64) hx hb dX10_weighed_58 (by decide) ?_
  obtain rfl := Option.some.inj hf
  exact pa_el X hP hD hS dX10_weighed_64
set_option maxHeartbeats 4000000 in
set_option maxRecDepth 100000 in
theorem w_X10_weighed_b0 {l : Launch} {D : va_G} {cI cJ : ClassId} {g : pa_GT} {a_m a_mt a_ml a_mr a_mx a_mf a_mg a_mw a_mh : Nat} {A : Nat → Prop} {p : Program} {e : Env} {s : State} {m : MethodId} {args : Array Value} {below : List Frame} {meth : Method} {c : Code} {x1 : Int32} {x2 : Int32} {x3 : Int32} {x4 : Int32} {v_m_finds : Int32} {v_m_up : Int64} {v_m_down : Int64} {v_ml : Nat → Int32} {v_mf : Nat → Int32} {v_mg : Nat → Int32} {v_m_thrown : Int32} {v_m_trace : Int64} {v_m_typed : Int32} {v_m_next : Int32} {v_m_token : Int32} {v_m_place : Int32} {v_m_value : Int32} {v_m_fault : Int32} {v_m_weeks : Int32} {v_m_rows : Int32} {v_m_cardPrice : Int32} {v_m_lotPrice : Int32} {v_m_sure : Int32} {o : Int64 × Int32 × Int64 × Int64 × (Nat → Int32)} (X : pa_X cX10_weighed 5 (some .long) RX10 wsX10_weighed D cI cJ g A p s m args meth c)  (hf : f_X10_weighed x1 x2 x3 x4 v_m_finds v_m_up v_m_down v_ml v_mf v_mg = some o) {H : Heap} {locs : List Loc} (hP : va_P D vwCl (wo_X10_weighed cI cJ a_m a_mt a_ml a_mr a_mx a_mf a_mg a_mw a_mh v_m_thrown v_m_trace v_m_typed v_m_next v_m_token v_m_place v_m_value v_m_fault v_m_finds v_m_weeks v_m_rows v_m_cardPrice v_m_lotPrice v_m_sure v_m_up v_m_down v_ml v_mf v_mg) H) (hD : va_D A (wo_X10_weighed cI cJ a_m a_mt a_ml a_mr a_mx a_mf a_mg a_mw a_mh v_m_thrown v_m_trace v_m_typed v_m_next v_m_token v_m_place v_m_value v_m_fault v_m_finds v_m_weeks v_m_rows v_m_cardPrice v_m_lotPrice v_m_sure v_m_up v_m_down v_ml v_mf v_mg)) (hS : va_S A s.heap H locs) {ls : Array Slot} (hl : lv_has ls 5 [(0, .ref a_m), (1, .int x1), (2, .int x2), (3, .int x3), (4, .int x4)]) : W p l e (headSpec wsX10_weighed rm_X10_weighed).room s m args below meth c H locs 0 0 (MQ below (va_Ql (fun r (_ : Unit) => r = o.1) (pa_QB D A (wo_X10_weighed cI cJ a_m a_mt a_ml a_mr a_mx a_mf a_mg a_mw a_mh o.2.1 v_m_trace v_m_typed v_m_next v_m_token v_m_place v_m_value v_m_fault v_m_finds v_m_weeks v_m_rows v_m_cardPrice v_m_lotPrice v_m_sure o.2.2.1 o.2.2.2.1 v_ml v_mf o.2.2.2.2)) A) args s 0 0 A) (F0 m 0 ls []) := by
  obtain ⟨hx, hb, hr, hml, hown, hts, hK, hA, hG, hlk⟩ := id X
  delta f_X10_weighed at hf
  refine lv_aload_n hx hb dX10_weighed_0 rfl (lv_at hl 0 rfl) ?_
  refine lv_iconst (v := (0 : Int32)) hx hb dX10_weighed_1 (by decide) ?_
  refine va_put (D := D) (ci := 9) (v := .int (0 : Int32)) (ty := .int) (C := RX10) (T := TX10) (N := 24) hx hb hts il_X10_weighed_X10 tyX10 tyX10_ok nmX10 hown hK hP hD hS 0 rfl rfl 0 (by decide) (hts _ fk_X10_weighed_0) (fun _ h9 => h9) rfl (tyX10_ok 0 (by decide)) rfl rfl (Nat.le_of_ble_eq_true rfl) dX10_weighed_2 (fun H locs hP hD hS => ?_)
  have hP : va_P D vwCl (wo_X10_weighed cI cJ a_m a_mt a_ml a_mr a_mx a_mf a_mg a_mw a_mh (0 : Int32) v_m_trace v_m_typed v_m_next v_m_token v_m_place v_m_value v_m_fault v_m_finds v_m_weeks v_m_rows v_m_cardPrice v_m_lotPrice v_m_sure v_m_up v_m_down v_ml v_mf v_mg) H := hP
  have hD : va_D A (wo_X10_weighed cI cJ a_m a_mt a_ml a_mr a_mx a_mf a_mg a_mw a_mh (0 : Int32) v_m_trace v_m_typed v_m_next v_m_token v_m_place v_m_value v_m_fault v_m_finds v_m_weeks v_m_rows v_m_cardPrice v_m_lotPrice v_m_sure v_m_up v_m_down v_ml v_mf v_mg) := hD
  refine lv_iload_n hx hb dX10_weighed_5 rfl (lv_at hl 1 rfl) ?_
  refine lv_iload_n hx hb dX10_weighed_6 rfl (lv_at hl 2 rfl) ?_
  refine lv_iload_n hx hb dX10_weighed_7 rfl (lv_at hl 3 rfl) ?_
  obtain ⟨u_3, hg_4, hf⟩ := pa_bd hf
  refine pa_ki (wc := ([] : va_W)) (wr := [(a_m, .inr (9, [.int (0 : Int32), .long v_m_trace, .ref a_mt, .ref a_ml, .ref a_mr, .ref a_mx, .int v_m_typed, .int v_m_next, .int v_m_token, .int v_m_place, .int v_m_value, .int v_m_fault, .int v_m_finds, .ref a_mf, .ref a_mg, .int v_m_weeks, .ref a_mw, .int v_m_rows, .ref a_mh, .int v_m_cardPrice, .int v_m_lotPrice, .int v_m_sure, .long v_m_up, .long v_m_down])), (a_ml, .inl (cI, 32, .inl v_ml)), (a_mf, .inl (cI, 50, .inl v_mf)), (a_mg, .inl (cI, 8, .inl v_mg))]) (w1 := ([] : va_W)) (w2 := (wo_X10_weighed cI cJ a_m a_mt a_ml a_mr a_mx a_mf a_mg a_mw a_mh (0 : Int32) v_m_trace v_m_typed v_m_next v_m_token v_m_place v_m_value v_m_fault v_m_finds v_m_weeks v_m_rows v_m_cardPrice v_m_lotPrice v_m_sure v_m_up v_m_down v_ml v_mf v_mg)) X hP hD hS [] [0, 1, 2, 3] [0, 1, 2, 3] rfl (pa_rS (As := [.int x1, .int x2, .int x3]) (rest := []) X hP hD hS [] rfl rfl (c_X10_isAsked hg_4 H.size) (va_cwS 3 hts gX10_weighed_X10_isAsked rfl rfl rfl (by decide +kernel) ⟨Nat.le_of_ble_eq_true rfl, Nat.le_of_ble_eq_true rfl⟩) rfl hl.1 rfl (Nat.le_of_ble_eq_true rfl) dX10_weighed_8 ⟨Nat.zero_le _, Nat.zero_le _⟩) rfl rfl (by decide) rfl rfl (fun H locs hP hD hS => ?_)
  refine lv_if_eq (tgt := 24) hx hb dX10_weighed_11 (by decide) (fun c_5 => ?_) (fun c_5 => ?_)
  · have hf := (if_pos c_5).symm.trans hf
    refine lv_ldc2 (v := (-1000000000000000000 : Int64)) hx hb hown (hts _ fk_X10_weighed_1) dX10_weighed_24 ?_
    obtain rfl := Option.some.inj hf
    exact pa_el X hP hD hS dX10_weighed_27
  · have hf := (if_neg c_5).symm.trans hf
    refine lv_iload hx hb dX10_weighed_14 (lv_at hl 4 rfl) ?_
    refine lv_iconst (v := (0 : Int32)) hx hb dX10_weighed_16 (by decide) ?_
    refine lv_iconst (v := (1 : Int32)) hx hb dX10_weighed_17 (by decide) ?_
    obtain ⟨u_6, hg_7, hf⟩ := pa_bd hf
    refine pa_ki (wc := ([] : va_W)) (wr := [(a_m, .inr (9, [.int (0 : Int32), .long v_m_trace, .ref a_mt, .ref a_ml, .ref a_mr, .ref a_mx, .int v_m_typed, .int v_m_next, .int v_m_token, .int v_m_place, .int v_m_value, .int v_m_fault, .int v_m_finds, .ref a_mf, .ref a_mg, .int v_m_weeks, .ref a_mw, .int v_m_rows, .ref a_mh, .int v_m_cardPrice, .int v_m_lotPrice, .int v_m_sure, .long v_m_up, .long v_m_down])), (a_ml, .inl (cI, 32, .inl v_ml)), (a_mf, .inl (cI, 50, .inl v_mf)), (a_mg, .inl (cI, 8, .inl v_mg))]) (w1 := ([] : va_W)) (w2 := (wo_X10_weighed cI cJ a_m a_mt a_ml a_mr a_mx a_mf a_mg a_mw a_mh (0 : Int32) v_m_trace v_m_typed v_m_next v_m_token v_m_place v_m_value v_m_fault v_m_finds v_m_weeks v_m_rows v_m_cardPrice v_m_lotPrice v_m_sure v_m_up v_m_down v_ml v_mf v_mg)) X hP hD hS [] [0, 1, 2, 3] [0, 1, 2, 3] rfl (pa_rS (As := [.int x4, .int (0 : Int32), .int (1 : Int32)]) (rest := []) X hP hD hS [] rfl rfl (c_X10_in hg_7 H.size) (va_cwS 3 hts gX10_weighed_X10_in rfl rfl rfl (by decide +kernel) ⟨Nat.le_of_ble_eq_true rfl, Nat.le_of_ble_eq_true rfl⟩) rfl hl.1 rfl (Nat.le_of_ble_eq_true rfl) dX10_weighed_18 ⟨Nat.zero_le _, Nat.zero_le _⟩) rfl rfl (by decide) rfl rfl (fun H locs hP hD hS => ?_)
    refine lv_if_ne (tgt := 28) hx hb dX10_weighed_21 (by decide) (fun c_8 => ?_) (fun c_8 => ?_)
    · have hf := (if_neg c_8).symm.trans hf
      refine lv_aload_n hx hb dX10_weighed_28 rfl (lv_at hl 0 rfl) ?_
      refine lv_iload_n hx hb dX10_weighed_29 rfl (lv_at hl 1 rfl) ?_
      refine lv_iload_n hx hb dX10_weighed_30 rfl (lv_at hl 2 rfl) ?_
      refine lv_iload_n hx hb dX10_weighed_31 rfl (lv_at hl 3 rfl) ?_
      obtain ⟨u_9, hg_10, hf⟩ := pa_bd hf
      refine pa_kv (wc := (wo_X10_finding cI cJ a_m a_mt a_ml a_mr a_mx a_mf a_mg a_mw a_mh (0 : Int32) v_m_trace v_m_typed v_m_next v_m_token v_m_place v_m_value v_m_fault v_m_finds v_m_weeks v_m_rows v_m_cardPrice v_m_lotPrice v_m_sure v_m_up v_m_down v_ml v_mf v_mg)) (wr := ([] : va_W)) (w1 := (wo_X10_finding cI cJ a_m a_mt a_ml a_mr a_mx a_mf a_mg a_mw a_mh (0 : Int32) v_m_trace v_m_typed v_m_next v_m_token v_m_place v_m_value v_m_fault v_m_finds v_m_weeks v_m_rows v_m_cardPrice v_m_lotPrice v_m_sure v_m_up v_m_down v_ml v_mf u_9)) (w2 := (wo_X10_weighed cI cJ a_m a_mt a_ml a_mr a_mx a_mf a_mg a_mw a_mh (0 : Int32) v_m_trace v_m_typed v_m_next v_m_token v_m_place v_m_value v_m_fault v_m_finds v_m_weeks v_m_rows v_m_cardPrice v_m_lotPrice v_m_sure v_m_up v_m_down v_ml v_mf u_9)) X hP hD hS [0, 1, 2, 3] [] [0, 1, 2, 3] rfl (pa_rV (As := [.int x1, .int x2, .int x3]) (rest := []) (T := TX10) X hP hD hS [0, 1, 2, 3] rfl rfl (c_X10_finding hg_10 H.size) (cwV 3 hts gX10_weighed_X10_finding rfl rfl rfl (by decide +kernel) ⟨Nat.le_of_ble_eq_true rfl, Nat.le_of_ble_eq_true rfl⟩) (q0 := 0) rfl rfl rfl hl.1 rfl (Nat.le_of_ble_eq_true rfl) dX10_weighed_32 ⟨Nat.zero_le _, Nat.zero_le _⟩) rfl rfl (by decide) rfl rfl (fun H locs hP hD hS => ?_)
      refine lv_aload_n hx hb dX10_weighed_35 rfl (lv_at hl 0 rfl) ?_
      refine lv_iload_n hx hb dX10_weighed_36 rfl (lv_at hl 1 rfl) ?_
      obtain ⟨u_11, hg_12, hf⟩ := pa_bd hf
      refine pa_ki (wc := (wo_X10_weighs cI cJ a_m a_mt a_ml a_mr a_mx a_mf a_mg a_mw a_mh (0 : Int32) v_m_trace v_m_typed v_m_next v_m_token v_m_place v_m_value v_m_fault v_m_finds v_m_weeks v_m_rows v_m_cardPrice v_m_lotPrice v_m_sure v_m_up v_m_down v_ml u_9)) (wr := [(a_mf, .inl (cI, 50, .inl v_mf))]) (w1 := (wo_X10_weighs cI cJ a_m a_mt a_ml a_mr a_mx a_mf a_mg a_mw a_mh (0 : Int32) v_m_trace v_m_typed v_m_next v_m_token v_m_place v_m_value v_m_fault v_m_finds v_m_weeks v_m_rows v_m_cardPrice v_m_lotPrice v_m_sure u_11.2.1 u_11.2.2 v_ml u_9)) (w2 := (wo_X10_weighed cI cJ a_m a_mt a_ml a_mr a_mx a_mf a_mg a_mw a_mh (0 : Int32) v_m_trace v_m_typed v_m_next v_m_token v_m_place v_m_value v_m_fault v_m_finds v_m_weeks v_m_rows v_m_cardPrice v_m_lotPrice v_m_sure u_11.2.1 u_11.2.2 v_ml v_mf u_9)) X hP hD hS [0, 1, 3] [2] [1, 2, 0, 3] rfl (pa_rV (As := [.int x1]) (rest := []) (T := TX10) X hP hD hS [0, 1, 3] rfl rfl (c_X10_weighs hg_12 H.size) (cwV 1 hts gX10_weighed_X10_weighs rfl rfl rfl (by decide +kernel) ⟨Nat.le_of_ble_eq_true rfl, Nat.le_of_ble_eq_true rfl⟩) (q0 := 0) rfl rfl rfl hl.1 rfl (Nat.le_of_ble_eq_true rfl) dX10_weighed_37 ⟨Nat.zero_le _, Nat.zero_le _⟩) rfl rfl (by decide) rfl rfl (fun H locs hP hD hS => ?_)
      refine lv_if_eq (tgt := 61) hx hb dX10_weighed_40 (by decide) (fun c_13 => ?_) (fun c_13 => ?_)
      · have hf := (if_pos c_13).symm.trans hf
        refine lv_ldc2 (v := (-1000000000000000000 : Int64)) hx hb hown (hts _ fk_X10_weighed_1) dX10_weighed_61 ?_
        obtain rfl := Option.some.inj hf
        exact pa_el X hP hD hS dX10_weighed_64
      · have hf := (if_neg c_13).symm.trans hf
        refine lv_aload_n hx hb dX10_weighed_43 rfl (lv_at hl 0 rfl) ?_
        refine lv_iload hx hb dX10_weighed_44 (lv_at hl 4 rfl) ?_
        refine lv_iconst (v := (1 : Int32)) hx hb dX10_weighed_46 (by decide) ?_
        refine lv_icmp_ne (tgt := 54) hx hb dX10_weighed_47 (by decide) (fun c_14 => ?_) (fun c_14 => ?_)
        · have hf := (if_neg c_14).symm.trans hf
          refine lv_iconst (v := (0 : Int32)) hx hb dX10_weighed_54 (by decide) ?_
          exact w_X10_weighed_b55 X  hf hP hD hS (lv_sub hl [] rfl)
        · have hf := (if_pos c_14).symm.trans hf
          refine lv_iconst (v := (1 : Int32)) hx hb dX10_weighed_50 (by decide) ?_
          refine lv_goto (tgt := 55) hx hb dX10_weighed_51 (by decide) ?_
          exact w_X10_weighed_b55 X  hf hP hD hS (lv_sub hl [] rfl)
    · have hf := (if_pos c_8).symm.trans hf
      refine lv_ldc2 (v := (-1000000000000000000 : Int64)) hx hb hown (hts _ fk_X10_weighed_1) dX10_weighed_24 ?_
      obtain rfl := Option.some.inj hf
      exact pa_el X hP hD hS dX10_weighed_27
set_option maxHeartbeats 4000000 in
set_option maxRecDepth 100000 in
theorem c_X10_weighed {l : Launch} {D : va_G} {cI cJ : ClassId} {g : pa_GT} {a_m a_mt a_ml a_mr a_mx a_mf a_mg a_mw a_mh : Nat} {x1 : Int32} {x2 : Int32} {x3 : Int32} {x4 : Int32} {v_m_thrown : Int32} {v_m_trace : Int64} {v_m_typed : Int32} {v_m_next : Int32} {v_m_token : Int32} {v_m_place : Int32} {v_m_value : Int32} {v_m_fault : Int32} {v_m_finds : Int32} {v_m_weeks : Int32} {v_m_rows : Int32} {v_m_cardPrice : Int32} {v_m_lotPrice : Int32} {v_m_sure : Int32} {v_m_up : Int64} {v_m_down : Int64} {v_ml : Nat → Int32} {v_mf : Nat → Int32} {v_mg : Nat → Int32} {o : Int64 × Int32 × Int64 × Int64 × (Nat → Int32)} (hf : f_X10_weighed x1 x2 x3 x4 v_m_finds v_m_up v_m_down v_ml v_mf v_mg = some o) : pa_Ml l yX10_weighed wsX10_weighed rm_X10_weighed D cI cJ g [.ref a_m, .int x1, .int x2, .int x3, .int x4] (wo_X10_weighed cI cJ a_m a_mt a_ml a_mr a_mx a_mf a_mg a_mw a_mh v_m_thrown v_m_trace v_m_typed v_m_next v_m_token v_m_place v_m_value v_m_fault v_m_finds v_m_weeks v_m_rows v_m_cardPrice v_m_lotPrice v_m_sure v_m_up v_m_down v_ml v_mf v_mg) (wo_X10_weighed cI cJ a_m a_mt a_ml a_mr a_mx a_mf a_mg a_mw a_mh o.2.1 v_m_trace v_m_typed v_m_next v_m_token v_m_place v_m_value v_m_fault v_m_finds v_m_weeks v_m_rows v_m_cardPrice v_m_lotPrice v_m_sure o.2.2.1 o.2.2.2.1 v_ml v_mf o.2.2.2.2) o.1 := by
  intro sz
  refine pa_met (cc := cX10_weighed) (maxL := 5) (ret := (some .long)) (lv := [(0, .ref a_m), (1, .int x1), (2, .int x2), (3, .int x3), (4, .int x4)]) (by decide) rfl (Nat.le_of_ble_eq_true rfl) rfl ?_
  intro p e s m below meth c X hsz hP hD ls hl
  subst hsz
  exact w_X10_weighed_b0 X hf hP hD va_S.rf hl
abbrev rm_X10_apart : Room := { frames := 0, cells := 0, slots := 0, locals := 0 }
def f_X10_apart (x0 : Int64) (x2 : Int64) : Option (Int64) :=
  if 0 ≤ (lg_cmp x0 x2) then
    some ((x0 - x2))
  else
    some ((x2 - x0))
set_option maxHeartbeats 4000000 in
set_option maxRecDepth 100000 in
theorem w_X10_apart_b0 {l : Launch} {D : va_G} {cI cJ : ClassId} {g : pa_GT} {A : Nat → Prop} {p : Program} {e : Env} {s : State} {m : MethodId} {args : Array Value} {below : List Frame} {meth : Method} {c : Code} {x0 : Int64} {x2 : Int64}  {o : Int64} (X : pa_X cX10_apart 4 (some .long) RX10 wsX10_apart D cI cJ g A p s m args meth c)  (hf : f_X10_apart x0 x2 = some o) {H : Heap} {locs : List Loc} (hP : va_P D vwCl ([] : va_W) H) (hD : va_D A ([] : va_W)) (hS : va_S A s.heap H locs) {ls : Array Slot} (hl : lv_has ls 4 [(0, .long x0), (2, .long x2)]) : W p l e (headSpec wsX10_apart rm_X10_apart).room s m args below meth c H locs 0 0 (MQ below (va_Ql (fun r (_ : Unit) => r = o) (pa_QB D A ([] : va_W)) A) args s 0 0 A) (F0 m 0 ls []) := by
  obtain ⟨hx, hb, hr, hml, hown, hts, hK, hA, hG, hlk⟩ := id X
  delta f_X10_apart at hf
  refine lv_lload_n hx hb dX10_apart_0 rfl (lv_at hl 0 rfl) ?_
  refine lv_lload_n hx hb dX10_apart_1 rfl (lv_at hl 1 rfl) ?_
  refine W.lcmp hx hb dX10_apart_2 ?_
  refine lv_if_ge (tgt := 12) hx hb dX10_apart_3 (by decide) (fun c_1 => ?_) (fun c_1 => ?_)
  · have hf := (if_pos c_1).symm.trans hf
    refine lv_lload_n hx hb dX10_apart_12 rfl (lv_at hl 0 rfl) ?_
    refine lv_lload_n hx hb dX10_apart_13 rfl (lv_at hl 1 rfl) ?_
    refine lv_lsub hx hb dX10_apart_14 ?_
    obtain rfl := Option.some.inj hf
    exact pa_el X hP hD hS dX10_apart_15
  · have hf := (if_neg c_1).symm.trans hf
    refine lv_lload_n hx hb dX10_apart_6 rfl (lv_at hl 1 rfl) ?_
    refine lv_lload_n hx hb dX10_apart_7 rfl (lv_at hl 0 rfl) ?_
    refine lv_lsub hx hb dX10_apart_8 ?_
    refine lv_goto (tgt := 15) hx hb dX10_apart_9 (by decide) ?_
    obtain rfl := Option.some.inj hf
    exact pa_el X hP hD hS dX10_apart_15
set_option maxHeartbeats 4000000 in
set_option maxRecDepth 100000 in
theorem c_X10_apart {l : Launch} {D : va_G} {cI cJ : ClassId} {g : pa_GT} {x0 : Int64} {x2 : Int64}  {o : Int64} (hf : f_X10_apart x0 x2 = some o) : pa_Ml l yX10_apart wsX10_apart rm_X10_apart D cI cJ g [.long x0, .long x2] ([] : va_W) ([] : va_W) o := by
  intro sz
  refine pa_met (cc := cX10_apart) (maxL := 4) (ret := (some .long)) (lv := [(0, .long x0), (2, .long x2)]) (by decide) rfl (Nat.le_of_ble_eq_true rfl) rfl ?_
  intro p e s m below meth c X hsz hP hD ls hl
  subst hsz
  exact w_X10_apart_b0 X hf hP hD va_S.rf hl
abbrev wo_X10_mends (cI cJ : ClassId) (a_m a_mt a_ml a_mr a_mx a_mf a_mg a_mw a_mh : Nat) (v_m_thrown : Int32) (v_m_trace : Int64) (v_m_typed : Int32) (v_m_next : Int32) (v_m_token : Int32) (v_m_place : Int32) (v_m_value : Int32) (v_m_fault : Int32) (v_m_finds : Int32) (v_m_weeks : Int32) (v_m_rows : Int32) (v_m_cardPrice : Int32) (v_m_lotPrice : Int32) (v_m_sure : Int32) (v_m_up : Int64) (v_m_down : Int64) (v_ml : Nat → Int32) (v_mf : Nat → Int32) (v_mg : Nat → Int32) : va_W := [(a_m, .inr (9, [.int v_m_thrown, .long v_m_trace, .ref a_mt, .ref a_ml, .ref a_mr, .ref a_mx, .int v_m_typed, .int v_m_next, .int v_m_token, .int v_m_place, .int v_m_value, .int v_m_fault, .int v_m_finds, .ref a_mf, .ref a_mg, .int v_m_weeks, .ref a_mw, .int v_m_rows, .ref a_mh, .int v_m_cardPrice, .int v_m_lotPrice, .int v_m_sure, .long v_m_up, .long v_m_down])), (a_ml, .inl (cI, 32, .inl v_ml)), (a_mf, .inl (cI, 50, .inl v_mf)), (a_mg, .inl (cI, 8, .inl v_mg))]
abbrev rm_X10_mends : Room := { frames := 3, cells := 0, slots := 0, locals := 64 }
theorem il_X10_mends_X10 : ∀ w ∈ wsX100, w ∈ wsX10_mends := by decide +kernel
theorem fk_X10_mends_0 : Cond.fieldLink RX10 45 "PostedAsksModel" "thrown" "I" ∈ wsX10_mends := by decide +kernel
theorem fk_X10_mends_1 : Cond.fieldLink RX10 52 "PostedAsksModel" "up" "J" ∈ wsX10_mends := by decide +kernel
theorem fk_X10_mends_2 : Cond.fieldLink RX10 56 "PostedAsksModel" "down" "J" ∈ wsX10_mends := by decide +kernel
def f_X10_mends (x1 : Int32) (x2 : Int32) (x3 : Int32) (v_m_finds : Int32) (v_m_up : Int64) (v_m_down : Int64) (v_ml : Nat → Int32) (v_mf : Nat → Int32) (v_mg : Nat → Int32) : Option (Int32 × Int32 × Int64 × Int64 × (Nat → Int32)) :=
  (f_X10_isAsked x1 x2 x3).bind fun u_1 =>
  if u_1 = 0 then
    some ((-9 : Int32), (0 : Int32), v_m_up, v_m_down, v_mg)
  else
    (f_X10_finding x1 x2 x3 v_m_finds v_ml v_mf v_mg).bind fun u_4 =>
    (f_X10_gotOf (255 : Int32) u_4).bind fun u_6 =>
    if (lg_cmp (Int32.toInt64 u_6) (0 : Int64)) = 0 then
      some ((-9 : Int32), (0 : Int32), v_m_up, v_m_down, u_4)
    else
      (f_X10_weighs x1 v_m_up v_m_down v_ml u_4).bind fun u_9 =>
      if u_9.1 = 0 then
        some ((-9 : Int32), (0 : Int32), u_9.2.1, u_9.2.2, u_4)
      else
        (f_X10_persons x1 (255 : Int32) v_ml).bind fun u_12 =>
        (f_X10_persons x1 (170 : Int32) v_ml).bind fun u_14 =>
        (f_X10_apart (u_9.2.1 * (Int32.toInt64 u_12)) ((Int32.toInt64 u_14) * u_9.2.2)).bind fun u_16 =>
        (f_X10_gotOf (170 : Int32) u_4).bind fun u_18 =>
        (f_X10_apart ((Int32.toInt64 u_18) * (Int32.toInt64 u_12)) ((Int32.toInt64 u_14) * (Int32.toInt64 u_6))).bind fun u_20 =>
        if 0 ≤ (lg_cmp (u_16 * (Int32.toInt64 u_6)) (u_20 * u_9.2.2)) then
          if (lg_cmp (u_16 * (Int32.toInt64 u_6)) (u_20 * u_9.2.2)) ≤ 0 then
            some ((0 : Int32), (0 : Int32), u_9.2.1, u_9.2.2, u_4)
          else
            some ((-1 : Int32), (0 : Int32), u_9.2.1, u_9.2.2, u_4)
        else
          some ((1 : Int32), (0 : Int32), u_9.2.1, u_9.2.2, u_4)
set_option maxHeartbeats 4000000 in
set_option maxRecDepth 100000 in
theorem w_X10_mends_b0 {l : Launch} {D : va_G} {cI cJ : ClassId} {g : pa_GT} {a_m a_mt a_ml a_mr a_mx a_mf a_mg a_mw a_mh : Nat} {A : Nat → Prop} {p : Program} {e : Env} {s : State} {m : MethodId} {args : Array Value} {below : List Frame} {meth : Method} {c : Code} {x1 : Int32} {x2 : Int32} {x3 : Int32} {v_m_finds : Int32} {v_m_up : Int64} {v_m_down : Int64} {v_ml : Nat → Int32} {v_mf : Nat → Int32} {v_mg : Nat → Int32} {v_m_thrown : Int32} {v_m_trace : Int64} {v_m_typed : Int32} {v_m_next : Int32} {v_m_token : Int32} {v_m_place : Int32} {v_m_value : Int32} {v_m_fault : Int32} {v_m_weeks : Int32} {v_m_rows : Int32} {v_m_cardPrice : Int32} {v_m_lotPrice : Int32} {v_m_sure : Int32} {o : Int32 × Int32 × Int64 × Int64 × (Nat → Int32)} (X : pa_X cX10_mends 14 (some .int) RX10 wsX10_mends D cI cJ g A p s m args meth c)  (hf : f_X10_mends x1 x2 x3 v_m_finds v_m_up v_m_down v_ml v_mf v_mg = some o) {H : Heap} {locs : List Loc} (hP : va_P D vwCl (wo_X10_mends cI cJ a_m a_mt a_ml a_mr a_mx a_mf a_mg a_mw a_mh v_m_thrown v_m_trace v_m_typed v_m_next v_m_token v_m_place v_m_value v_m_fault v_m_finds v_m_weeks v_m_rows v_m_cardPrice v_m_lotPrice v_m_sure v_m_up v_m_down v_ml v_mf v_mg) H) (hD : va_D A (wo_X10_mends cI cJ a_m a_mt a_ml a_mr a_mx a_mf a_mg a_mw a_mh v_m_thrown v_m_trace v_m_typed v_m_next v_m_token v_m_place v_m_value v_m_fault v_m_finds v_m_weeks v_m_rows v_m_cardPrice v_m_lotPrice v_m_sure v_m_up v_m_down v_ml v_mf v_mg)) (hS : va_S A s.heap H locs) {ls : Array Slot} (hl : lv_has ls 14 [(0, .ref a_m), (1, .int x1), (2, .int x2), (3, .int x3)]) : W p l e (headSpec wsX10_mends rm_X10_mends).room s m args below meth c H locs 0 0 (MQ below (va_Qi (fun r (_ : Unit) => r = o.1) (pa_QB D A (wo_X10_mends cI cJ a_m a_mt a_ml a_mr a_mx a_mf a_mg a_mw a_mh o.2.1 v_m_trace v_m_typed v_m_next v_m_token v_m_place v_m_value v_m_fault v_m_finds v_m_weeks v_m_rows v_m_cardPrice v_m_lotPrice v_m_sure o.2.2.1 o.2.2.2.1 v_ml v_mf o.2.2.2.2)) A) args s 0 0 A) (F0 m 0 ls []) := by
  obtain ⟨hx, hb, hr, hml, hown, hts, hK, hA, hG, hlk⟩ := id X
  delta f_X10_mends at hf
  refine lv_aload_n hx hb dX10_mends_0 rfl (lv_at hl 0 rfl) ?_
  refine lv_iconst (v := (0 : Int32)) hx hb dX10_mends_1 (by decide) ?_
  refine va_put (D := D) (ci := 9) (v := .int (0 : Int32)) (ty := .int) (C := RX10) (T := TX10) (N := 24) hx hb hts il_X10_mends_X10 tyX10 tyX10_ok nmX10 hown hK hP hD hS 0 rfl rfl 0 (by decide) (hts _ fk_X10_mends_0) (fun _ h9 => h9) rfl (tyX10_ok 0 (by decide)) rfl rfl (Nat.le_of_ble_eq_true rfl) dX10_mends_2 (fun H locs hP hD hS => ?_)
  have hP : va_P D vwCl (wo_X10_mends cI cJ a_m a_mt a_ml a_mr a_mx a_mf a_mg a_mw a_mh (0 : Int32) v_m_trace v_m_typed v_m_next v_m_token v_m_place v_m_value v_m_fault v_m_finds v_m_weeks v_m_rows v_m_cardPrice v_m_lotPrice v_m_sure v_m_up v_m_down v_ml v_mf v_mg) H := hP
  have hD : va_D A (wo_X10_mends cI cJ a_m a_mt a_ml a_mr a_mx a_mf a_mg a_mw a_mh (0 : Int32) v_m_trace v_m_typed v_m_next v_m_token v_m_place v_m_value v_m_fault v_m_finds v_m_weeks v_m_rows v_m_cardPrice v_m_lotPrice v_m_sure v_m_up v_m_down v_ml v_mf v_mg) := hD
  refine lv_iload_n hx hb dX10_mends_5 rfl (lv_at hl 1 rfl) ?_
  refine lv_iload_n hx hb dX10_mends_6 rfl (lv_at hl 2 rfl) ?_
  refine lv_iload_n hx hb dX10_mends_7 rfl (lv_at hl 3 rfl) ?_
  obtain ⟨u_1, hg_2, hf⟩ := pa_bd hf
  refine pa_ki (wc := ([] : va_W)) (wr := [(a_m, .inr (9, [.int (0 : Int32), .long v_m_trace, .ref a_mt, .ref a_ml, .ref a_mr, .ref a_mx, .int v_m_typed, .int v_m_next, .int v_m_token, .int v_m_place, .int v_m_value, .int v_m_fault, .int v_m_finds, .ref a_mf, .ref a_mg, .int v_m_weeks, .ref a_mw, .int v_m_rows, .ref a_mh, .int v_m_cardPrice, .int v_m_lotPrice, .int v_m_sure, .long v_m_up, .long v_m_down])), (a_ml, .inl (cI, 32, .inl v_ml)), (a_mf, .inl (cI, 50, .inl v_mf)), (a_mg, .inl (cI, 8, .inl v_mg))]) (w1 := ([] : va_W)) (w2 := (wo_X10_mends cI cJ a_m a_mt a_ml a_mr a_mx a_mf a_mg a_mw a_mh (0 : Int32) v_m_trace v_m_typed v_m_next v_m_token v_m_place v_m_value v_m_fault v_m_finds v_m_weeks v_m_rows v_m_cardPrice v_m_lotPrice v_m_sure v_m_up v_m_down v_ml v_mf v_mg)) X hP hD hS [] [0, 1, 2, 3] [0, 1, 2, 3] rfl (pa_rS (As := [.int x1, .int x2, .int x3]) (rest := []) X hP hD hS [] rfl rfl (c_X10_isAsked hg_2 H.size) (va_cwS 3 hts gX10_mends_X10_isAsked rfl rfl rfl (by decide +kernel) ⟨Nat.le_of_ble_eq_true rfl, Nat.le_of_ble_eq_true rfl⟩) rfl hl.1 rfl (Nat.le_of_ble_eq_true rfl) dX10_mends_8 ⟨Nat.zero_le _, Nat.zero_le _⟩) rfl rfl (by decide) rfl rfl (fun H locs hP hD hS => ?_)
  refine lv_if_ne (tgt := 17) hx hb dX10_mends_11 (by decide) (fun c_3 => ?_) (fun c_3 => ?_)
  · have hf := (if_neg c_3).symm.trans hf
    refine lv_aload_n hx hb dX10_mends_17 rfl (lv_at hl 0 rfl) ?_
    refine lv_iload_n hx hb dX10_mends_18 rfl (lv_at hl 1 rfl) ?_
    refine lv_iload_n hx hb dX10_mends_19 rfl (lv_at hl 2 rfl) ?_
    refine lv_iload_n hx hb dX10_mends_20 rfl (lv_at hl 3 rfl) ?_
    obtain ⟨u_4, hg_5, hf⟩ := pa_bd hf
    refine pa_kv (wc := (wo_X10_finding cI cJ a_m a_mt a_ml a_mr a_mx a_mf a_mg a_mw a_mh (0 : Int32) v_m_trace v_m_typed v_m_next v_m_token v_m_place v_m_value v_m_fault v_m_finds v_m_weeks v_m_rows v_m_cardPrice v_m_lotPrice v_m_sure v_m_up v_m_down v_ml v_mf v_mg)) (wr := ([] : va_W)) (w1 := (wo_X10_finding cI cJ a_m a_mt a_ml a_mr a_mx a_mf a_mg a_mw a_mh (0 : Int32) v_m_trace v_m_typed v_m_next v_m_token v_m_place v_m_value v_m_fault v_m_finds v_m_weeks v_m_rows v_m_cardPrice v_m_lotPrice v_m_sure v_m_up v_m_down v_ml v_mf u_4)) (w2 := (wo_X10_mends cI cJ a_m a_mt a_ml a_mr a_mx a_mf a_mg a_mw a_mh (0 : Int32) v_m_trace v_m_typed v_m_next v_m_token v_m_place v_m_value v_m_fault v_m_finds v_m_weeks v_m_rows v_m_cardPrice v_m_lotPrice v_m_sure v_m_up v_m_down v_ml v_mf u_4)) X hP hD hS [0, 1, 2, 3] [] [0, 1, 2, 3] rfl (pa_rV (As := [.int x1, .int x2, .int x3]) (rest := []) (T := TX10) X hP hD hS [0, 1, 2, 3] rfl rfl (c_X10_finding hg_5 H.size) (cwV 3 hts gX10_mends_X10_finding rfl rfl rfl (by decide +kernel) ⟨Nat.le_of_ble_eq_true rfl, Nat.le_of_ble_eq_true rfl⟩) (q0 := 0) rfl rfl rfl hl.1 rfl (Nat.le_of_ble_eq_true rfl) dX10_mends_21 ⟨Nat.zero_le _, Nat.zero_le _⟩) rfl rfl (by decide) rfl rfl (fun H locs hP hD hS => ?_)
    refine lv_aload_n hx hb dX10_mends_24 rfl (lv_at hl 0 rfl) ?_
    refine lv_sipush (v := (255 : Int32)) hx hb dX10_mends_25 (by decide) ?_
    obtain ⟨u_6, hg_7, hf⟩ := pa_bd hf
    refine pa_ki (wc := (wo_X10_gotOf cI cJ a_m a_mt a_ml a_mr a_mx a_mf a_mg a_mw a_mh (0 : Int32) v_m_trace v_m_typed v_m_next v_m_token v_m_place v_m_value v_m_fault v_m_finds v_m_weeks v_m_rows v_m_cardPrice v_m_lotPrice v_m_sure v_m_up v_m_down u_4)) (wr := [(a_ml, .inl (cI, 32, .inl v_ml)), (a_mf, .inl (cI, 50, .inl v_mf))]) (w1 := (wo_X10_gotOf cI cJ a_m a_mt a_ml a_mr a_mx a_mf a_mg a_mw a_mh (0 : Int32) v_m_trace v_m_typed v_m_next v_m_token v_m_place v_m_value v_m_fault v_m_finds v_m_weeks v_m_rows v_m_cardPrice v_m_lotPrice v_m_sure v_m_up v_m_down u_4)) (w2 := (wo_X10_mends cI cJ a_m a_mt a_ml a_mr a_mx a_mf a_mg a_mw a_mh (0 : Int32) v_m_trace v_m_typed v_m_next v_m_token v_m_place v_m_value v_m_fault v_m_finds v_m_weeks v_m_rows v_m_cardPrice v_m_lotPrice v_m_sure v_m_up v_m_down v_ml v_mf u_4)) X hP hD hS [0, 3] [1, 2] [2, 0, 1, 3] rfl (pa_rV (As := [.int (255 : Int32)]) (rest := []) (T := TX10) X hP hD hS [0, 3] rfl rfl (c_X10_gotOf hg_7 H.size) (cwV 1 hts gX10_mends_X10_gotOf rfl rfl rfl (by decide +kernel) ⟨Nat.le_of_ble_eq_true rfl, Nat.le_of_ble_eq_true rfl⟩) (q0 := 0) rfl rfl rfl hl.1 rfl (Nat.le_of_ble_eq_true rfl) dX10_mends_28 ⟨Nat.zero_le _, Nat.zero_le _⟩) rfl rfl (by decide) rfl rfl (fun H locs hP hD hS => ?_)
    refine lv_i2l (v := (Int32.toInt64 u_6)) hx hb dX10_mends_31 rfl ?_
    refine lv_lstore (lv' := [(4, .long (Int32.toInt64 u_6)), (0, .ref a_m), (1, .int x1), (2, .int x2), (3, .int x3)]) hx hb dX10_mends_32 hl (by decide) rfl (fun ls hl => ?_)
    refine lv_lload hx hb dX10_mends_34 (lv_at hl 0 rfl) ?_
    refine lv_lconst (v := (0 : Int64)) hx hb dX10_mends_36 (by decide) ?_
    refine W.lcmp hx hb dX10_mends_37 ?_
    refine lv_if_eq (tgt := 49) hx hb dX10_mends_38 (by decide) (fun c_8 => ?_) (fun c_8 => ?_)
    · have hf := (if_pos c_8).symm.trans hf
      refine lv_bipush (v := (-9 : Int32)) hx hb dX10_mends_49 (by decide) ?_
      obtain rfl := Option.some.inj hf
      exact pa_ei X hP hD hS dX10_mends_51
    · have hf := (if_neg c_8).symm.trans hf
      refine lv_aload_n hx hb dX10_mends_41 rfl (lv_at hl 1 rfl) ?_
      refine lv_iload_n hx hb dX10_mends_42 rfl (lv_at hl 2 rfl) ?_
      obtain ⟨u_9, hg_10, hf⟩ := pa_bd hf
      refine pa_ki (wc := (wo_X10_weighs cI cJ a_m a_mt a_ml a_mr a_mx a_mf a_mg a_mw a_mh (0 : Int32) v_m_trace v_m_typed v_m_next v_m_token v_m_place v_m_value v_m_fault v_m_finds v_m_weeks v_m_rows v_m_cardPrice v_m_lotPrice v_m_sure v_m_up v_m_down v_ml u_4)) (wr := [(a_mf, .inl (cI, 50, .inl v_mf))]) (w1 := (wo_X10_weighs cI cJ a_m a_mt a_ml a_mr a_mx a_mf a_mg a_mw a_mh (0 : Int32) v_m_trace v_m_typed v_m_next v_m_token v_m_place v_m_value v_m_fault v_m_finds v_m_weeks v_m_rows v_m_cardPrice v_m_lotPrice v_m_sure u_9.2.1 u_9.2.2 v_ml u_4)) (w2 := (wo_X10_mends cI cJ a_m a_mt a_ml a_mr a_mx a_mf a_mg a_mw a_mh (0 : Int32) v_m_trace v_m_typed v_m_next v_m_token v_m_place v_m_value v_m_fault v_m_finds v_m_weeks v_m_rows v_m_cardPrice v_m_lotPrice v_m_sure u_9.2.1 u_9.2.2 v_ml v_mf u_4)) X hP hD hS [0, 1, 3] [2] [1, 2, 0, 3] rfl (pa_rV (As := [.int x1]) (rest := []) (T := TX10) X hP hD hS [0, 1, 3] rfl rfl (c_X10_weighs hg_10 H.size) (cwV 1 hts gX10_mends_X10_weighs rfl rfl rfl (by decide +kernel) ⟨Nat.le_of_ble_eq_true rfl, Nat.le_of_ble_eq_true rfl⟩) (q0 := 0) rfl rfl rfl hl.1 rfl (Nat.le_of_ble_eq_true rfl) dX10_mends_43 ⟨Nat.zero_le _, Nat.zero_le _⟩) rfl rfl (by decide) rfl rfl (fun H locs hP hD hS => ?_)
      refine lv_if_ne (tgt := 52) hx hb dX10_mends_46 (by decide) (fun c_11 => ?_) (fun c_11 => ?_)
      · have hf := (if_neg c_11).symm.trans hf
        refine lv_aload_n hx hb dX10_mends_52 rfl (lv_at hl 1 rfl) ?_
        refine lv_iload_n hx hb dX10_mends_53 rfl (lv_at hl 2 rfl) ?_
        refine lv_sipush (v := (255 : Int32)) hx hb dX10_mends_54 (by decide) ?_
        obtain ⟨u_12, hg_13, hf⟩ := pa_bd hf
        refine pa_ki (wc := (wo_X10_persons cI cJ a_m a_mt a_ml a_mr a_mx a_mf a_mg a_mw a_mh (0 : Int32) v_m_trace v_m_typed v_m_next v_m_token v_m_place v_m_value v_m_fault v_m_finds v_m_weeks v_m_rows v_m_cardPrice v_m_lotPrice v_m_sure u_9.2.1 u_9.2.2 v_ml)) (wr := [(a_mf, .inl (cI, 50, .inl v_mf)), (a_mg, .inl (cI, 8, .inl u_4))]) (w1 := (wo_X10_persons cI cJ a_m a_mt a_ml a_mr a_mx a_mf a_mg a_mw a_mh (0 : Int32) v_m_trace v_m_typed v_m_next v_m_token v_m_place v_m_value v_m_fault v_m_finds v_m_weeks v_m_rows v_m_cardPrice v_m_lotPrice v_m_sure u_9.2.1 u_9.2.2 v_ml)) (w2 := (wo_X10_mends cI cJ a_m a_mt a_ml a_mr a_mx a_mf a_mg a_mw a_mh (0 : Int32) v_m_trace v_m_typed v_m_next v_m_token v_m_place v_m_value v_m_fault v_m_finds v_m_weeks v_m_rows v_m_cardPrice v_m_lotPrice v_m_sure u_9.2.1 u_9.2.2 v_ml v_mf u_4)) X hP hD hS [0, 1] [2, 3] [2, 3, 0, 1] rfl (pa_rV (As := [.int x1, .int (255 : Int32)]) (rest := []) (T := TX10) X hP hD hS [0, 1] rfl rfl (c_X10_persons hg_13 H.size) (cwV 2 hts gX10_mends_X10_persons rfl rfl rfl (by decide +kernel) ⟨Nat.le_of_ble_eq_true rfl, Nat.le_of_ble_eq_true rfl⟩) (q0 := 0) rfl rfl rfl hl.1 rfl (Nat.le_of_ble_eq_true rfl) dX10_mends_57 ⟨Nat.zero_le _, Nat.zero_le _⟩) rfl rfl (by decide) rfl rfl (fun H locs hP hD hS => ?_)
        refine lv_i2l (v := (Int32.toInt64 u_12)) hx hb dX10_mends_60 rfl ?_
        refine lv_lstore (lv' := [(6, .long (Int32.toInt64 u_12)), (4, .long (Int32.toInt64 u_6)), (0, .ref a_m), (1, .int x1), (2, .int x2), (3, .int x3)]) hx hb dX10_mends_61 hl (by decide) rfl (fun ls hl => ?_)
        refine lv_aload_n hx hb dX10_mends_63 rfl (lv_at hl 2 rfl) ?_
        refine lv_iload_n hx hb dX10_mends_64 rfl (lv_at hl 3 rfl) ?_
        refine lv_sipush (v := (170 : Int32)) hx hb dX10_mends_65 (by decide) ?_
        obtain ⟨u_14, hg_15, hf⟩ := pa_bd hf
        refine pa_ki (wc := (wo_X10_persons cI cJ a_m a_mt a_ml a_mr a_mx a_mf a_mg a_mw a_mh (0 : Int32) v_m_trace v_m_typed v_m_next v_m_token v_m_place v_m_value v_m_fault v_m_finds v_m_weeks v_m_rows v_m_cardPrice v_m_lotPrice v_m_sure u_9.2.1 u_9.2.2 v_ml)) (wr := [(a_mf, .inl (cI, 50, .inl v_mf)), (a_mg, .inl (cI, 8, .inl u_4))]) (w1 := (wo_X10_persons cI cJ a_m a_mt a_ml a_mr a_mx a_mf a_mg a_mw a_mh (0 : Int32) v_m_trace v_m_typed v_m_next v_m_token v_m_place v_m_value v_m_fault v_m_finds v_m_weeks v_m_rows v_m_cardPrice v_m_lotPrice v_m_sure u_9.2.1 u_9.2.2 v_ml)) (w2 := (wo_X10_mends cI cJ a_m a_mt a_ml a_mr a_mx a_mf a_mg a_mw a_mh (0 : Int32) v_m_trace v_m_typed v_m_next v_m_token v_m_place v_m_value v_m_fault v_m_finds v_m_weeks v_m_rows v_m_cardPrice v_m_lotPrice v_m_sure u_9.2.1 u_9.2.2 v_ml v_mf u_4)) X hP hD hS [0, 1] [2, 3] [2, 3, 0, 1] rfl (pa_rV (As := [.int x1, .int (170 : Int32)]) (rest := []) (T := TX10) X hP hD hS [0, 1] rfl rfl (c_X10_persons hg_15 H.size) (cwV 2 hts gX10_mends_X10_persons rfl rfl rfl (by decide +kernel) ⟨Nat.le_of_ble_eq_true rfl, Nat.le_of_ble_eq_true rfl⟩) (q0 := 0) rfl rfl rfl hl.1 rfl (Nat.le_of_ble_eq_true rfl) dX10_mends_68 ⟨Nat.zero_le _, Nat.zero_le _⟩) rfl rfl (by decide) rfl rfl (fun H locs hP hD hS => ?_)
        refine lv_i2l (v := (Int32.toInt64 u_14)) hx hb dX10_mends_71 rfl ?_
        refine lv_lstore (lv' := [(8, .long (Int32.toInt64 u_14)), (6, .long (Int32.toInt64 u_12)), (4, .long (Int32.toInt64 u_6)), (0, .ref a_m), (1, .int x1), (2, .int x2), (3, .int x3)]) hx hb dX10_mends_72 hl (by decide) rfl (fun ls hl => ?_)
        refine lv_aload_n hx hb dX10_mends_74 rfl (lv_at hl 3 rfl) ?_
        refine va_get (D := D) (ci := 9) (v := .long u_9.2.1) (C := RX10) (T := TX10) (N := 24) hx hb hts il_X10_mends_X10 hown hK hP 0 rfl rfl 22 (by decide) (hts _ fk_X10_mends_1) (fun _ h9 => h9) rfl dX10_mends_75 ?_
        refine lv_lload hx hb dX10_mends_78 (lv_at hl 1 rfl) ?_
        refine lv_lmul hx hb dX10_mends_80 ?_
        refine lv_lload hx hb dX10_mends_81 (lv_at hl 0 rfl) ?_
        refine lv_aload_n hx hb dX10_mends_83 rfl (lv_at hl 3 rfl) ?_
        refine va_get (D := D) (ci := 9) (v := .long u_9.2.2) (C := RX10) (T := TX10) (N := 24) hx hb hts il_X10_mends_X10 hown hK hP 0 rfl rfl 23 (by decide) (hts _ fk_X10_mends_2) (fun _ h9 => h9) rfl dX10_mends_84 ?_
        refine lv_lmul hx hb dX10_mends_87 ?_
        obtain ⟨u_16, hg_17, hf⟩ := pa_bd hf
        refine pa_kl (wc := ([] : va_W)) (wr := [(a_m, .inr (9, [.int (0 : Int32), .long v_m_trace, .ref a_mt, .ref a_ml, .ref a_mr, .ref a_mx, .int v_m_typed, .int v_m_next, .int v_m_token, .int v_m_place, .int v_m_value, .int v_m_fault, .int v_m_finds, .ref a_mf, .ref a_mg, .int v_m_weeks, .ref a_mw, .int v_m_rows, .ref a_mh, .int v_m_cardPrice, .int v_m_lotPrice, .int v_m_sure, .long u_9.2.1, .long u_9.2.2])), (a_ml, .inl (cI, 32, .inl v_ml)), (a_mf, .inl (cI, 50, .inl v_mf)), (a_mg, .inl (cI, 8, .inl u_4))]) (w1 := ([] : va_W)) (w2 := (wo_X10_mends cI cJ a_m a_mt a_ml a_mr a_mx a_mf a_mg a_mw a_mh (0 : Int32) v_m_trace v_m_typed v_m_next v_m_token v_m_place v_m_value v_m_fault v_m_finds v_m_weeks v_m_rows v_m_cardPrice v_m_lotPrice v_m_sure u_9.2.1 u_9.2.2 v_ml v_mf u_4)) X hP hD hS [] [0, 1, 2, 3] [0, 1, 2, 3] rfl (pa_rS (As := [.long (u_9.2.1 * (Int32.toInt64 u_12)), .long ((Int32.toInt64 u_14) * u_9.2.2)]) (rest := []) X hP hD hS [] rfl rfl (c_X10_apart hg_17 H.size) (va_cwS 2 hts gX10_mends_X10_apart rfl rfl rfl (by decide +kernel) ⟨Nat.le_of_ble_eq_true rfl, Nat.le_of_ble_eq_true rfl⟩) rfl hl.1 rfl (Nat.le_of_ble_eq_true rfl) dX10_mends_88 ⟨Nat.zero_le _, Nat.zero_le _⟩) rfl rfl (by decide) rfl rfl (fun H locs hP hD hS => ?_)
        refine lv_lload hx hb dX10_mends_91 (lv_at hl 2 rfl) ?_
        refine lv_lmul hx hb dX10_mends_93 ?_
        refine lv_lstore (lv' := [(10, .long (u_16 * (Int32.toInt64 u_6))), (8, .long (Int32.toInt64 u_14)), (6, .long (Int32.toInt64 u_12)), (4, .long (Int32.toInt64 u_6)), (0, .ref a_m), (1, .int x1), (2, .int x2), (3, .int x3)]) hx hb dX10_mends_94 hl (by decide) rfl (fun ls hl => ?_)
        refine lv_aload_n hx hb dX10_mends_96 rfl (lv_at hl 4 rfl) ?_
        refine lv_sipush (v := (170 : Int32)) hx hb dX10_mends_97 (by decide) ?_
        obtain ⟨u_18, hg_19, hf⟩ := pa_bd hf
        refine pa_ki (wc := (wo_X10_gotOf cI cJ a_m a_mt a_ml a_mr a_mx a_mf a_mg a_mw a_mh (0 : Int32) v_m_trace v_m_typed v_m_next v_m_token v_m_place v_m_value v_m_fault v_m_finds v_m_weeks v_m_rows v_m_cardPrice v_m_lotPrice v_m_sure u_9.2.1 u_9.2.2 u_4)) (wr := [(a_ml, .inl (cI, 32, .inl v_ml)), (a_mf, .inl (cI, 50, .inl v_mf))]) (w1 := (wo_X10_gotOf cI cJ a_m a_mt a_ml a_mr a_mx a_mf a_mg a_mw a_mh (0 : Int32) v_m_trace v_m_typed v_m_next v_m_token v_m_place v_m_value v_m_fault v_m_finds v_m_weeks v_m_rows v_m_cardPrice v_m_lotPrice v_m_sure u_9.2.1 u_9.2.2 u_4)) (w2 := (wo_X10_mends cI cJ a_m a_mt a_ml a_mr a_mx a_mf a_mg a_mw a_mh (0 : Int32) v_m_trace v_m_typed v_m_next v_m_token v_m_place v_m_value v_m_fault v_m_finds v_m_weeks v_m_rows v_m_cardPrice v_m_lotPrice v_m_sure u_9.2.1 u_9.2.2 v_ml v_mf u_4)) X hP hD hS [0, 3] [1, 2] [2, 0, 1, 3] rfl (pa_rV (As := [.int (170 : Int32)]) (rest := []) (T := TX10) X hP hD hS [0, 3] rfl rfl (c_X10_gotOf hg_19 H.size) (cwV 1 hts gX10_mends_X10_gotOf rfl rfl rfl (by decide +kernel) ⟨Nat.le_of_ble_eq_true rfl, Nat.le_of_ble_eq_true rfl⟩) (q0 := 0) rfl rfl rfl hl.1 rfl (Nat.le_of_ble_eq_true rfl) dX10_mends_100 ⟨Nat.zero_le _, Nat.zero_le _⟩) rfl rfl (by decide) rfl rfl (fun H locs hP hD hS => ?_)
        refine lv_i2l (v := (Int32.toInt64 u_18)) hx hb dX10_mends_103 rfl ?_
        refine lv_lload hx hb dX10_mends_104 (lv_at hl 2 rfl) ?_
        refine lv_lmul hx hb dX10_mends_106 ?_
        refine lv_lload hx hb dX10_mends_107 (lv_at hl 1 rfl) ?_
        refine lv_lload hx hb dX10_mends_109 (lv_at hl 3 rfl) ?_
        refine lv_lmul hx hb dX10_mends_111 ?_
        obtain ⟨u_20, hg_21, hf⟩ := pa_bd hf
        refine pa_kl (wc := ([] : va_W)) (wr := [(a_m, .inr (9, [.int (0 : Int32), .long v_m_trace, .ref a_mt, .ref a_ml, .ref a_mr, .ref a_mx, .int v_m_typed, .int v_m_next, .int v_m_token, .int v_m_place, .int v_m_value, .int v_m_fault, .int v_m_finds, .ref a_mf, .ref a_mg, .int v_m_weeks, .ref a_mw, .int v_m_rows, .ref a_mh, .int v_m_cardPrice, .int v_m_lotPrice, .int v_m_sure, .long u_9.2.1, .long u_9.2.2])), (a_ml, .inl (cI, 32, .inl v_ml)), (a_mf, .inl (cI, 50, .inl v_mf)), (a_mg, .inl (cI, 8, .inl u_4))]) (w1 := ([] : va_W)) (w2 := (wo_X10_mends cI cJ a_m a_mt a_ml a_mr a_mx a_mf a_mg a_mw a_mh (0 : Int32) v_m_trace v_m_typed v_m_next v_m_token v_m_place v_m_value v_m_fault v_m_finds v_m_weeks v_m_rows v_m_cardPrice v_m_lotPrice v_m_sure u_9.2.1 u_9.2.2 v_ml v_mf u_4)) X hP hD hS [] [0, 1, 2, 3] [0, 1, 2, 3] rfl (pa_rS (As := [.long ((Int32.toInt64 u_18) * (Int32.toInt64 u_12)), .long ((Int32.toInt64 u_14) * (Int32.toInt64 u_6))]) (rest := []) X hP hD hS [] rfl rfl (c_X10_apart hg_21 H.size) (va_cwS 2 hts gX10_mends_X10_apart rfl rfl rfl (by decide +kernel) ⟨Nat.le_of_ble_eq_true rfl, Nat.le_of_ble_eq_true rfl⟩) rfl hl.1 rfl (Nat.le_of_ble_eq_true rfl) dX10_mends_112 ⟨Nat.zero_le _, Nat.zero_le _⟩) rfl rfl (by decide) rfl rfl (fun H locs hP hD hS => ?_)
        refine lv_aload_n hx hb dX10_mends_115 rfl (lv_at hl 4 rfl) ?_
        refine va_get (D := D) (ci := 9) (v := .long u_9.2.2) (C := RX10) (T := TX10) (N := 24) hx hb hts il_X10_mends_X10 hown hK hP 0 rfl rfl 23 (by decide) (hts _ fk_X10_mends_2) (fun _ h9 => h9) rfl dX10_mends_116 ?_
        refine lv_lmul hx hb dX10_mends_119 ?_
        refine lv_lstore (lv' := [(12, .long (u_20 * u_9.2.2)), (10, .long (u_16 * (Int32.toInt64 u_6))), (8, .long (Int32.toInt64 u_14)), (6, .long (Int32.toInt64 u_12)), (4, .long (Int32.toInt64 u_6)), (0, .ref a_m), (1, .int x1), (2, .int x2), (3, .int x3)]) hx hb dX10_mends_120 hl (by decide) rfl (fun ls hl => ?_)
        refine lv_lload hx hb dX10_mends_122 (lv_at hl 1 rfl) ?_
        refine lv_lload hx hb dX10_mends_124 (lv_at hl 0 rfl) ?_
        refine W.lcmp hx hb dX10_mends_126 ?_
        refine lv_if_ge (tgt := 134) hx hb dX10_mends_127 (by decide) (fun c_22 => ?_) (fun c_22 => ?_)
        · have hf := (if_pos c_22).symm.trans hf
          refine lv_lload hx hb dX10_mends_134 (lv_at hl 1 rfl) ?_
          refine lv_lload hx hb dX10_mends_136 (lv_at hl 0 rfl) ?_
          refine W.lcmp hx hb dX10_mends_138 ?_
          refine lv_if_le (tgt := 146) hx hb dX10_mends_139 (by decide) (fun c_23 => ?_) (fun c_23 => ?_)
          · have hf := (if_pos c_23).symm.trans hf
            refine lv_iconst (v := (0 : Int32)) hx hb dX10_mends_146 (by decide) ?_
            obtain rfl := Option.some.inj hf
            exact pa_ei X hP hD hS dX10_mends_147
          · have hf := (if_neg c_23).symm.trans hf
            refine lv_iconst (v := (-1 : Int32)) hx hb dX10_mends_142 (by decide) ?_
            refine lv_goto (tgt := 147) hx hb dX10_mends_143 (by decide) ?_
            obtain rfl := Option.some.inj hf
            exact pa_ei X hP hD hS dX10_mends_147
        · have hf := (if_neg c_22).symm.trans hf
          refine lv_iconst (v := (1 : Int32)) hx hb dX10_mends_130 (by decide) ?_
          refine lv_goto (tgt := 147) hx hb dX10_mends_131 (by decide) ?_
          obtain rfl := Option.some.inj hf
          exact pa_ei X hP hD hS dX10_mends_147
      · have hf := (if_pos c_11).symm.trans hf
        refine lv_bipush (v := (-9 : Int32)) hx hb dX10_mends_49 (by decide) ?_
        obtain rfl := Option.some.inj hf
        exact pa_ei X hP hD hS dX10_mends_51
  · have hf := (if_pos c_3).symm.trans hf
    refine lv_bipush (v := (-9 : Int32)) hx hb dX10_mends_14 (by decide) ?_
    obtain rfl := Option.some.inj hf
    exact pa_ei X hP hD hS dX10_mends_16
set_option maxHeartbeats 4000000 in
set_option maxRecDepth 100000 in
theorem c_X10_mends {l : Launch} {D : va_G} {cI cJ : ClassId} {g : pa_GT} {a_m a_mt a_ml a_mr a_mx a_mf a_mg a_mw a_mh : Nat} {x1 : Int32} {x2 : Int32} {x3 : Int32} {v_m_thrown : Int32} {v_m_trace : Int64} {v_m_typed : Int32} {v_m_next : Int32} {v_m_token : Int32} {v_m_place : Int32} {v_m_value : Int32} {v_m_fault : Int32} {v_m_finds : Int32} {v_m_weeks : Int32} {v_m_rows : Int32} {v_m_cardPrice : Int32} {v_m_lotPrice : Int32} {v_m_sure : Int32} {v_m_up : Int64} {v_m_down : Int64} {v_ml : Nat → Int32} {v_mf : Nat → Int32} {v_mg : Nat → Int32} {o : Int32 × Int32 × Int64 × Int64 × (Nat → Int32)} (hf : f_X10_mends x1 x2 x3 v_m_finds v_m_up v_m_down v_ml v_mf v_mg = some o) : pa_Mi l yX10_mends wsX10_mends rm_X10_mends D cI cJ g [.ref a_m, .int x1, .int x2, .int x3] (wo_X10_mends cI cJ a_m a_mt a_ml a_mr a_mx a_mf a_mg a_mw a_mh v_m_thrown v_m_trace v_m_typed v_m_next v_m_token v_m_place v_m_value v_m_fault v_m_finds v_m_weeks v_m_rows v_m_cardPrice v_m_lotPrice v_m_sure v_m_up v_m_down v_ml v_mf v_mg) (wo_X10_mends cI cJ a_m a_mt a_ml a_mr a_mx a_mf a_mg a_mw a_mh o.2.1 v_m_trace v_m_typed v_m_next v_m_token v_m_place v_m_value v_m_fault v_m_finds v_m_weeks v_m_rows v_m_cardPrice v_m_lotPrice v_m_sure o.2.2.1 o.2.2.2.1 v_ml v_mf o.2.2.2.2) o.1 := by
  intro sz
  refine pa_met (cc := cX10_mends) (maxL := 14) (ret := (some .int)) (lv := [(0, .ref a_m), (1, .int x1), (2, .int x2), (3, .int x3)]) (by decide) rfl (Nat.le_of_ble_eq_true rfl) rfl ?_
  intro p e s m below meth c X hsz hP hD ls hl
  subst hsz
  exact w_X10_mends_b0 X hf hP hD va_S.rf hl
abbrev wo_X10_choose (cI cJ : ClassId) (a_m a_mt a_ml a_mr a_mx a_mf a_mg a_mw a_mh : Nat) (v_m_thrown : Int32) (v_m_trace : Int64) (v_m_typed : Int32) (v_m_next : Int32) (v_m_token : Int32) (v_m_place : Int32) (v_m_value : Int32) (v_m_fault : Int32) (v_m_finds : Int32) (v_m_weeks : Int32) (v_m_rows : Int32) (v_m_cardPrice : Int32) (v_m_lotPrice : Int32) (v_m_sure : Int32) (v_m_up : Int64) (v_m_down : Int64) (v_mt : Nat → Int64) : va_W := [(a_m, .inr (9, [.int v_m_thrown, .long v_m_trace, .ref a_mt, .ref a_ml, .ref a_mr, .ref a_mx, .int v_m_typed, .int v_m_next, .int v_m_token, .int v_m_place, .int v_m_value, .int v_m_fault, .int v_m_finds, .ref a_mf, .ref a_mg, .int v_m_weeks, .ref a_mw, .int v_m_rows, .ref a_mh, .int v_m_cardPrice, .int v_m_lotPrice, .int v_m_sure, .long v_m_up, .long v_m_down])), (a_mt, .inl (cJ, 2601, .inr (.inl v_mt)))]
abbrev rm_X10_choose : Room := { frames := 0, cells := 0, slots := 0, locals := 0 }
theorem il_X10_choose_X10 : ∀ w ∈ wsX100, w ∈ wsX10_choose := by decide +kernel
theorem fk_X10_choose_0 : Cond.fieldLink RX10 7 "PostedAsksModel" "triangle" "[J" ∈ wsX10_choose := by decide +kernel
def f_X10_choose (x1 : Int32) (x2 : Int32) (v_mt : Nat → Int64) : Option (Int64) :=
  if x2 < 0 then
    some ((0 : Int64))
  else
    if x2 ≤ x1 then
      if pa_ib (((51 : Int32) * x1) + x2) 2601 = true then
        some ((v_mt (Int32.toNatClampNeg (((51 : Int32) * x1) + x2))))
      else none
    else
      some ((0 : Int64))
set_option maxHeartbeats 4000000 in
set_option maxRecDepth 100000 in
theorem w_X10_choose_b0 {l : Launch} {D : va_G} {cI cJ : ClassId} {g : pa_GT} {a_m a_mt a_ml a_mr a_mx a_mf a_mg a_mw a_mh : Nat} {A : Nat → Prop} {p : Program} {e : Env} {s : State} {m : MethodId} {args : Array Value} {below : List Frame} {meth : Method} {c : Code} {x1 : Int32} {x2 : Int32} {v_mt : Nat → Int64} {v_m_thrown : Int32} {v_m_trace : Int64} {v_m_typed : Int32} {v_m_next : Int32} {v_m_token : Int32} {v_m_place : Int32} {v_m_value : Int32} {v_m_fault : Int32} {v_m_finds : Int32} {v_m_weeks : Int32} {v_m_rows : Int32} {v_m_cardPrice : Int32} {v_m_lotPrice : Int32} {v_m_sure : Int32} {v_m_up : Int64} {v_m_down : Int64} {o : Int64} (X : pa_X cX10_choose 3 (some .long) RX10 wsX10_choose D cI cJ g A p s m args meth c)  (hf : f_X10_choose x1 x2 v_mt = some o) {H : Heap} {locs : List Loc} (hP : va_P D vwCl (wo_X10_choose cI cJ a_m a_mt a_ml a_mr a_mx a_mf a_mg a_mw a_mh v_m_thrown v_m_trace v_m_typed v_m_next v_m_token v_m_place v_m_value v_m_fault v_m_finds v_m_weeks v_m_rows v_m_cardPrice v_m_lotPrice v_m_sure v_m_up v_m_down v_mt) H) (hD : va_D A (wo_X10_choose cI cJ a_m a_mt a_ml a_mr a_mx a_mf a_mg a_mw a_mh v_m_thrown v_m_trace v_m_typed v_m_next v_m_token v_m_place v_m_value v_m_fault v_m_finds v_m_weeks v_m_rows v_m_cardPrice v_m_lotPrice v_m_sure v_m_up v_m_down v_mt)) (hS : va_S A s.heap H locs) {ls : Array Slot} (hl : lv_has ls 3 [(0, .ref a_m), (1, .int x1), (2, .int x2)]) : W p l e (headSpec wsX10_choose rm_X10_choose).room s m args below meth c H locs 0 0 (MQ below (va_Ql (fun r (_ : Unit) => r = o) (pa_QB D A (wo_X10_choose cI cJ a_m a_mt a_ml a_mr a_mx a_mf a_mg a_mw a_mh v_m_thrown v_m_trace v_m_typed v_m_next v_m_token v_m_place v_m_value v_m_fault v_m_finds v_m_weeks v_m_rows v_m_cardPrice v_m_lotPrice v_m_sure v_m_up v_m_down v_mt)) A) args s 0 0 A) (F0 m 0 ls []) := by
  obtain ⟨hx, hb, hr, hml, hown, hts, hK, hA, hG, hlk⟩ := id X
  delta f_X10_choose at hf
  refine lv_iload_n hx hb dX10_choose_0 rfl (lv_at hl 2 rfl) ?_
  refine lv_if_lt (tgt := 9) hx hb dX10_choose_1 (by decide) (fun c_1 => ?_) (fun c_1 => ?_)
  · have hf := (if_pos c_1).symm.trans hf
    refine lv_lconst (v := (0 : Int64)) hx hb dX10_choose_9 (by decide) ?_
    refine lv_goto (tgt := 24) hx hb dX10_choose_10 (by decide) ?_
    obtain rfl := Option.some.inj hf
    exact pa_el X hP hD hS dX10_choose_24
  · have hf := (if_neg c_1).symm.trans hf
    refine lv_iload_n hx hb dX10_choose_4 rfl (lv_at hl 2 rfl) ?_
    refine lv_iload_n hx hb dX10_choose_5 rfl (lv_at hl 1 rfl) ?_
    refine lv_icmp_le (tgt := 13) hx hb dX10_choose_6 (by decide) (fun c_2 => ?_) (fun c_2 => ?_)
    · have hf := (if_pos c_2).symm.trans hf
      refine lv_aload_n hx hb dX10_choose_13 rfl (lv_at hl 0 rfl) ?_
      refine va_get (D := D) (ci := 9) (v := .ref a_mt) (C := RX10) (T := TX10) (N := 24) hx hb hts il_X10_choose_X10 hown hK hP 0 rfl rfl 2 (by decide) (hts _ fk_X10_choose_0) (fun _ h9 => h9) rfl dX10_choose_14 ?_
      refine lv_bipush (v := (51 : Int32)) hx hb dX10_choose_17 (by decide) ?_
      refine lv_iload_n hx hb dX10_choose_19 rfl (lv_at hl 1 rfl) ?_
      refine lv_imul hx hb dX10_choose_20 ?_
      refine lv_iload_n hx hb dX10_choose_21 rfl (lv_at hl 2 rfl) ?_
      refine lv_iadd hx hb dX10_choose_22 ?_
      obtain ⟨hi_3, hf⟩ := pa_gd hf
      refine va_lald hx hb hK hP 1 1 rfl rfl hi_3 dX10_choose_23 ?_
      obtain rfl := Option.some.inj hf
      exact pa_el X hP hD hS dX10_choose_24
    · have hf := (if_neg c_2).symm.trans hf
      refine lv_lconst (v := (0 : Int64)) hx hb dX10_choose_9 (by decide) ?_
      refine lv_goto (tgt := 24) hx hb dX10_choose_10 (by decide) ?_
      obtain rfl := Option.some.inj hf
      exact pa_el X hP hD hS dX10_choose_24
set_option maxHeartbeats 4000000 in
set_option maxRecDepth 100000 in
theorem c_X10_choose {l : Launch} {D : va_G} {cI cJ : ClassId} {g : pa_GT} {a_m a_mt a_ml a_mr a_mx a_mf a_mg a_mw a_mh : Nat} {x1 : Int32} {x2 : Int32} {v_m_thrown : Int32} {v_m_trace : Int64} {v_m_typed : Int32} {v_m_next : Int32} {v_m_token : Int32} {v_m_place : Int32} {v_m_value : Int32} {v_m_fault : Int32} {v_m_finds : Int32} {v_m_weeks : Int32} {v_m_rows : Int32} {v_m_cardPrice : Int32} {v_m_lotPrice : Int32} {v_m_sure : Int32} {v_m_up : Int64} {v_m_down : Int64} {v_mt : Nat → Int64} {o : Int64} (hf : f_X10_choose x1 x2 v_mt = some o) : pa_Ml l yX10_choose wsX10_choose rm_X10_choose D cI cJ g [.ref a_m, .int x1, .int x2] (wo_X10_choose cI cJ a_m a_mt a_ml a_mr a_mx a_mf a_mg a_mw a_mh v_m_thrown v_m_trace v_m_typed v_m_next v_m_token v_m_place v_m_value v_m_fault v_m_finds v_m_weeks v_m_rows v_m_cardPrice v_m_lotPrice v_m_sure v_m_up v_m_down v_mt) (wo_X10_choose cI cJ a_m a_mt a_ml a_mr a_mx a_mf a_mg a_mw a_mh v_m_thrown v_m_trace v_m_typed v_m_next v_m_token v_m_place v_m_value v_m_fault v_m_finds v_m_weeks v_m_rows v_m_cardPrice v_m_lotPrice v_m_sure v_m_up v_m_down v_mt) o := by
  intro sz
  refine pa_met (cc := cX10_choose) (maxL := 3) (ret := (some .long)) (lv := [(0, .ref a_m), (1, .int x1), (2, .int x2)]) (by decide) rfl (Nat.le_of_ble_eq_true rfl) rfl ?_
  intro p e s m below meth c X hsz hP hD ls hl
  subst hsz
  exact w_X10_choose_b0 X hf hP hD va_S.rf hl
abbrev wo_X10_waysOf (cI cJ : ClassId) (a_m a_mt a_ml a_mr a_mx a_mf a_mg a_mw a_mh : Nat) (v_m_thrown : Int32) (v_m_trace : Int64) (v_m_typed : Int32) (v_m_next : Int32) (v_m_token : Int32) (v_m_place : Int32) (v_m_value : Int32) (v_m_fault : Int32) (v_m_finds : Int32) (v_m_weeks : Int32) (v_m_rows : Int32) (v_m_cardPrice : Int32) (v_m_lotPrice : Int32) (v_m_sure : Int32) (v_m_up : Int64) (v_m_down : Int64) (v_mt : Nat → Int64) : va_W := [(a_m, .inr (9, [.int v_m_thrown, .long v_m_trace, .ref a_mt, .ref a_ml, .ref a_mr, .ref a_mx, .int v_m_typed, .int v_m_next, .int v_m_token, .int v_m_place, .int v_m_value, .int v_m_fault, .int v_m_finds, .ref a_mf, .ref a_mg, .int v_m_weeks, .ref a_mw, .int v_m_rows, .ref a_mh, .int v_m_cardPrice, .int v_m_lotPrice, .int v_m_sure, .long v_m_up, .long v_m_down])), (a_mt, .inl (cJ, 2601, .inr (.inl v_mt)))]
abbrev rm_X10_waysOf : Room := { frames := 1, cells := 0, slots := 0, locals := 22 }
def f_X10_waysOf_b35 (rec6 : Int64 → Int32 → Option (Int64)) (x1 : Int32) (x2 : Int32) (x3 : Int32) (x4 : Int32) (x5 : Int64) (x7 : Int32) (s0 : Int32) (v_mt : Nat → Int64) : Option (Int64) :=
  if ((x4 * x1) * x3) < ((100 : Int32) * s0) then
    rec6 (x5 + (0 : Int64)) (x7 + (1 : Int32))
  else
    (f_X10_choose x2 x7 v_mt).bind fun u_2 =>
    (f_X10_choose (x1 - x2) (x3 - x7) v_mt).bind fun u_4 =>
    rec6 (x5 + (u_2 * u_4)) (x7 + (1 : Int32))
def f_X10_waysOf_L6_body (x1 : Int32) (x2 : Int32) (x3 : Int32) (x4 : Int32) (v_mt : Nat → Int64) (rec6 : Int64 → Int32 → Option (Int64)) (x5 : Int64) (x7 : Int32) : Option (Int64) :=
  if x3 < x7 then
    some (x5)
  else
    if 0 ≤ ((x7 * x1) - (x2 * x3)) then
      f_X10_waysOf_b35 rec6 x1 x2 x3 x4 x5 x7 ((x7 * x1) - (x2 * x3)) v_mt
    else
      f_X10_waysOf_b35 rec6 x1 x2 x3 x4 x5 x7 (-((x7 * x1) - (x2 * x3))) v_mt
def f_X10_waysOf_L6 (x1 : Int32) (x2 : Int32) (x3 : Int32) (x4 : Int32) (v_mt : Nat → Int64) : Nat → Int64 → Int32 → Option (Int64)
  | 0 => fun _ _ => none
  | n + 1 => f_X10_waysOf_L6_body x1 x2 x3 x4 v_mt (f_X10_waysOf_L6 x1 x2 x3 x4 v_mt n)
def f_X10_waysOf (x1 : Int32) (x2 : Int32) (x3 : Int32) (x4 : Int32) (v_mt : Nat → Int64) : Option (Int64) :=
  f_X10_waysOf_L6 x1 x2 x3 x4 v_mt pa_fu (0 : Int64) (0 : Int32)
set_option maxHeartbeats 4000000 in
set_option maxRecDepth 100000 in
theorem w_X10_waysOf_b35 {l : Launch} {D : va_G} {cI cJ : ClassId} {g : pa_GT} {a_m a_mt a_ml a_mr a_mx a_mf a_mg a_mw a_mh : Nat} {A : Nat → Prop} {p : Program} {e : Env} {s : State} {m : MethodId} {args : Array Value} {below : List Frame} {meth : Method} {c : Code} {x1 : Int32} {x2 : Int32} {x3 : Int32} {x4 : Int32} {x5 : Int64} {x7 : Int32} {s0 : Int32} {v_mt : Nat → Int64} {v_m_thrown : Int32} {v_m_trace : Int64} {v_m_typed : Int32} {v_m_next : Int32} {v_m_token : Int32} {v_m_place : Int32} {v_m_value : Int32} {v_m_fault : Int32} {v_m_finds : Int32} {v_m_weeks : Int32} {v_m_rows : Int32} {v_m_cardPrice : Int32} {v_m_lotPrice : Int32} {v_m_sure : Int32} {v_m_up : Int64} {v_m_down : Int64} {o : Int64} (X : pa_X cX10_waysOf 9 (some .long) RX10 wsX10_waysOf D cI cJ g A p s m args meth c) {rec6 : Int64 → Int32 → Option (Int64)} (hrec6 : ∀ (x5 : Int64) (x7 : Int32), rec6 x5 x7 = some o → ∀ (H : Heap) (locs : List Loc) , va_P D vwCl (wo_X10_waysOf cI cJ a_m a_mt a_ml a_mr a_mx a_mf a_mg a_mw a_mh v_m_thrown v_m_trace v_m_typed v_m_next v_m_token v_m_place v_m_value v_m_fault v_m_finds v_m_weeks v_m_rows v_m_cardPrice v_m_lotPrice v_m_sure v_m_up v_m_down v_mt) H → va_D A (wo_X10_waysOf cI cJ a_m a_mt a_ml a_mr a_mx a_mf a_mg a_mw a_mh v_m_thrown v_m_trace v_m_typed v_m_next v_m_token v_m_place v_m_value v_m_fault v_m_finds v_m_weeks v_m_rows v_m_cardPrice v_m_lotPrice v_m_sure v_m_up v_m_down v_mt) → va_S A s.heap H locs → ∀ (ls : Array Slot), lv_has ls 9 [(0, .ref a_m), (1, .int x1), (2, .int x2), (3, .int x3), (4, .int x4), (5, .long x5), (7, .int x7)] → W p l e (headSpec wsX10_waysOf rm_X10_waysOf).room s m args below meth c H locs 0 0 (MQ below (va_Ql (fun r (_ : Unit) => r = o) (pa_QB D A (wo_X10_waysOf cI cJ a_m a_mt a_ml a_mr a_mx a_mf a_mg a_mw a_mh v_m_thrown v_m_trace v_m_typed v_m_next v_m_token v_m_place v_m_value v_m_fault v_m_finds v_m_weeks v_m_rows v_m_cardPrice v_m_lotPrice v_m_sure v_m_up v_m_down v_mt)) A) args s 0 0 A) (F0 m 6 ls [])) (hf : f_X10_waysOf_b35 rec6 x1 x2 x3 x4 x5 x7 s0 v_mt = some o) {H : Heap} {locs : List Loc} (hP : va_P D vwCl (wo_X10_waysOf cI cJ a_m a_mt a_ml a_mr a_mx a_mf a_mg a_mw a_mh v_m_thrown v_m_trace v_m_typed v_m_next v_m_token v_m_place v_m_value v_m_fault v_m_finds v_m_weeks v_m_rows v_m_cardPrice v_m_lotPrice v_m_sure v_m_up v_m_down v_mt) H) (hD : va_D A (wo_X10_waysOf cI cJ a_m a_mt a_ml a_mr a_mx a_mf a_mg a_mw a_mh v_m_thrown v_m_trace v_m_typed v_m_next v_m_token v_m_place v_m_value v_m_fault v_m_finds v_m_weeks v_m_rows v_m_cardPrice v_m_lotPrice v_m_sure v_m_up v_m_down v_mt)) (hS : va_S A s.heap H locs) {ls : Array Slot} (hl : lv_has ls 9 [(0, .ref a_m), (1, .int x1), (2, .int x2), (3, .int x3), (4, .int x4), (5, .long x5), (7, .int x7)]) : W p l e (headSpec wsX10_waysOf rm_X10_waysOf).room s m args below meth c H locs 0 0 (MQ below (va_Ql (fun r (_ : Unit) => r = o) (pa_QB D A (wo_X10_waysOf cI cJ a_m a_mt a_ml a_mr a_mx a_mf a_mg a_mw a_mh v_m_thrown v_m_trace v_m_typed v_m_next v_m_token v_m_place v_m_value v_m_fault v_m_finds v_m_weeks v_m_rows v_m_cardPrice v_m_lotPrice v_m_sure v_m_up v_m_down v_mt)) A) args s 0 0 A) (F0 m 35 ls [.int s0]) := by
  obtain ⟨hx, hb, hr, hml, hown, hts, hK, hA, hG, hlk⟩ := id X
  delta f_X10_waysOf_b35 at hf
  refine lv_istore (lv' := [(8, .int s0), (0, .ref a_m), (1, .int x1), (2, .int x2), (3, .int x3), (4, .int x4), (5, .long x5), (7, .int x7)]) hx hb dX10_waysOf_35 hl (by decide) rfl (fun ls hl => ?_)
  refine lv_lload hx hb dX10_waysOf_37 (lv_at hl 6 rfl) ?_
  refine lv_bipush (v := (100 : Int32)) hx hb dX10_waysOf_39 (by decide) ?_
  refine lv_iload hx hb dX10_waysOf_41 (lv_at hl 0 rfl) ?_
  refine lv_imul hx hb dX10_waysOf_43 ?_
  refine lv_iload hx hb dX10_waysOf_44 (lv_at hl 5 rfl) ?_
  refine lv_iload_n hx hb dX10_waysOf_46 rfl (lv_at hl 2 rfl) ?_
  refine lv_imul hx hb dX10_waysOf_47 ?_
  refine lv_iload_n hx hb dX10_waysOf_48 rfl (lv_at hl 4 rfl) ?_
  refine lv_imul hx hb dX10_waysOf_49 ?_
  refine lv_icmp_gt (tgt := 75) hx hb dX10_waysOf_50 (by decide) (fun c_1 => ?_) (fun c_1 => ?_)
  · have hf := (if_pos c_1).symm.trans hf
    refine lv_lconst (v := (0 : Int64)) hx hb dX10_waysOf_75 (by decide) ?_
    refine lv_ladd hx hb dX10_waysOf_76 ?_
    refine lv_lstore (lv' := [(5, .long (x5 + (0 : Int64))), (8, .int s0), (0, .ref a_m), (1, .int x1), (2, .int x2), (3, .int x3), (4, .int x4), (7, .int x7)]) hx hb dX10_waysOf_77 hl (by decide) rfl (fun ls hl => ?_)
    refine lv_iinc (v := (x7 + (1 : Int32))) (lv' := [(7, .int (x7 + (1 : Int32))), (5, .long (x5 + (0 : Int64))), (8, .int s0), (0, .ref a_m), (1, .int x1), (2, .int x2), (3, .int x3), (4, .int x4)]) hx hb dX10_waysOf_79 hl (k := 7) rfl rfl (by decide) rfl (fun ls hl => ?_)
    refine lv_goto (tgt := 6) hx hb dX10_waysOf_82 (by decide) ?_
    exact hrec6 _ _ hf _ _  hP hD hS _ (lv_sub hl [3, 4, 5, 6, 7, 1, 0] rfl)
  · have hf := (if_neg c_1).symm.trans hf
    refine lv_aload_n hx hb dX10_waysOf_53 rfl (lv_at hl 1 rfl) ?_
    refine lv_iload_n hx hb dX10_waysOf_54 rfl (lv_at hl 3 rfl) ?_
    refine lv_iload hx hb dX10_waysOf_55 (lv_at hl 7 rfl) ?_
    obtain ⟨u_2, hg_3, hf⟩ := pa_bd hf
    refine pa_kl (wc := (wo_X10_choose cI cJ a_m a_mt a_ml a_mr a_mx a_mf a_mg a_mw a_mh v_m_thrown v_m_trace v_m_typed v_m_next v_m_token v_m_place v_m_value v_m_fault v_m_finds v_m_weeks v_m_rows v_m_cardPrice v_m_lotPrice v_m_sure v_m_up v_m_down v_mt)) (wr := ([] : va_W)) (w1 := (wo_X10_choose cI cJ a_m a_mt a_ml a_mr a_mx a_mf a_mg a_mw a_mh v_m_thrown v_m_trace v_m_typed v_m_next v_m_token v_m_place v_m_value v_m_fault v_m_finds v_m_weeks v_m_rows v_m_cardPrice v_m_lotPrice v_m_sure v_m_up v_m_down v_mt)) (w2 := (wo_X10_waysOf cI cJ a_m a_mt a_ml a_mr a_mx a_mf a_mg a_mw a_mh v_m_thrown v_m_trace v_m_typed v_m_next v_m_token v_m_place v_m_value v_m_fault v_m_finds v_m_weeks v_m_rows v_m_cardPrice v_m_lotPrice v_m_sure v_m_up v_m_down v_mt)) X hP hD hS [0, 1] [] [0, 1] rfl (pa_rV (As := [.int x2, .int x7]) (rest := [.long x5]) (T := TX10) X hP hD hS [0, 1] rfl rfl (c_X10_choose hg_3 H.size) (cwV 2 hts gX10_waysOf_X10_choose rfl rfl rfl (by decide +kernel) ⟨Nat.le_of_ble_eq_true rfl, Nat.le_of_ble_eq_true rfl⟩) (q0 := 0) rfl rfl rfl hl.1 rfl (Nat.le_of_ble_eq_true rfl) dX10_waysOf_57 ⟨Nat.zero_le _, Nat.zero_le _⟩) rfl rfl (by decide) rfl rfl (fun H locs hP hD hS => ?_)
    refine lv_aload_n hx hb dX10_waysOf_60 rfl (lv_at hl 1 rfl) ?_
    refine lv_iload_n hx hb dX10_waysOf_61 rfl (lv_at hl 2 rfl) ?_
    refine lv_iload_n hx hb dX10_waysOf_62 rfl (lv_at hl 3 rfl) ?_
    refine lv_isub hx hb dX10_waysOf_63 ?_
    refine lv_iload_n hx hb dX10_waysOf_64 rfl (lv_at hl 4 rfl) ?_
    refine lv_iload hx hb dX10_waysOf_65 (lv_at hl 7 rfl) ?_
    refine lv_isub hx hb dX10_waysOf_67 ?_
    obtain ⟨u_4, hg_5, hf⟩ := pa_bd hf
    refine pa_kl (wc := (wo_X10_choose cI cJ a_m a_mt a_ml a_mr a_mx a_mf a_mg a_mw a_mh v_m_thrown v_m_trace v_m_typed v_m_next v_m_token v_m_place v_m_value v_m_fault v_m_finds v_m_weeks v_m_rows v_m_cardPrice v_m_lotPrice v_m_sure v_m_up v_m_down v_mt)) (wr := ([] : va_W)) (w1 := (wo_X10_choose cI cJ a_m a_mt a_ml a_mr a_mx a_mf a_mg a_mw a_mh v_m_thrown v_m_trace v_m_typed v_m_next v_m_token v_m_place v_m_value v_m_fault v_m_finds v_m_weeks v_m_rows v_m_cardPrice v_m_lotPrice v_m_sure v_m_up v_m_down v_mt)) (w2 := (wo_X10_waysOf cI cJ a_m a_mt a_ml a_mr a_mx a_mf a_mg a_mw a_mh v_m_thrown v_m_trace v_m_typed v_m_next v_m_token v_m_place v_m_value v_m_fault v_m_finds v_m_weeks v_m_rows v_m_cardPrice v_m_lotPrice v_m_sure v_m_up v_m_down v_mt)) X hP hD hS [0, 1] [] [0, 1] rfl (pa_rV (As := [.int (x1 - x2), .int (x3 - x7)]) (rest := [.long u_2, .long x5]) (T := TX10) X hP hD hS [0, 1] rfl rfl (c_X10_choose hg_5 H.size) (cwV 2 hts gX10_waysOf_X10_choose rfl rfl rfl (by decide +kernel) ⟨Nat.le_of_ble_eq_true rfl, Nat.le_of_ble_eq_true rfl⟩) (q0 := 0) rfl rfl rfl hl.1 rfl (Nat.le_of_ble_eq_true rfl) dX10_waysOf_68 ⟨Nat.zero_le _, Nat.zero_le _⟩) rfl rfl (by decide) rfl rfl (fun H locs hP hD hS => ?_)
    refine lv_lmul hx hb dX10_waysOf_71 ?_
    refine lv_goto (tgt := 76) hx hb dX10_waysOf_72 (by decide) ?_
    refine lv_ladd hx hb dX10_waysOf_76 ?_
    refine lv_lstore (lv' := [(5, .long (x5 + (u_2 * u_4))), (8, .int s0), (0, .ref a_m), (1, .int x1), (2, .int x2), (3, .int x3), (4, .int x4), (7, .int x7)]) hx hb dX10_waysOf_77 hl (by decide) rfl (fun ls hl => ?_)
    refine lv_iinc (v := (x7 + (1 : Int32))) (lv' := [(7, .int (x7 + (1 : Int32))), (5, .long (x5 + (u_2 * u_4))), (8, .int s0), (0, .ref a_m), (1, .int x1), (2, .int x2), (3, .int x3), (4, .int x4)]) hx hb dX10_waysOf_79 hl (k := 7) rfl rfl (by decide) rfl (fun ls hl => ?_)
    refine lv_goto (tgt := 6) hx hb dX10_waysOf_82 (by decide) ?_
    exact hrec6 _ _ hf _ _  hP hD hS _ (lv_sub hl [3, 4, 5, 6, 7, 1, 0] rfl)
set_option maxHeartbeats 4000000 in
set_option maxRecDepth 100000 in
theorem w_X10_waysOf_L6 {l : Launch} {D : va_G} {cI cJ : ClassId} {g : pa_GT} {a_m a_mt a_ml a_mr a_mx a_mf a_mg a_mw a_mh : Nat} {A : Nat → Prop} {p : Program} {e : Env} {s : State} {m : MethodId} {args : Array Value} {below : List Frame} {meth : Method} {c : Code} {x1 : Int32} {x2 : Int32} {x3 : Int32} {x4 : Int32} {v_mt : Nat → Int64} {v_m_thrown : Int32} {v_m_trace : Int64} {v_m_typed : Int32} {v_m_next : Int32} {v_m_token : Int32} {v_m_place : Int32} {v_m_value : Int32} {v_m_fault : Int32} {v_m_finds : Int32} {v_m_weeks : Int32} {v_m_rows : Int32} {v_m_cardPrice : Int32} {v_m_lotPrice : Int32} {v_m_sure : Int32} {v_m_up : Int64} {v_m_down : Int64} {o : Int64} (X : pa_X cX10_waysOf 9 (some .long) RX10 wsX10_waysOf D cI cJ g A p s m args meth c)  : ∀ (n : Nat) (x5 : Int64) (x7 : Int32), f_X10_waysOf_L6 x1 x2 x3 x4 v_mt n x5 x7 = some o → ∀ (H : Heap) (locs : List Loc) , va_P D vwCl (wo_X10_waysOf cI cJ a_m a_mt a_ml a_mr a_mx a_mf a_mg a_mw a_mh v_m_thrown v_m_trace v_m_typed v_m_next v_m_token v_m_place v_m_value v_m_fault v_m_finds v_m_weeks v_m_rows v_m_cardPrice v_m_lotPrice v_m_sure v_m_up v_m_down v_mt) H → va_D A (wo_X10_waysOf cI cJ a_m a_mt a_ml a_mr a_mx a_mf a_mg a_mw a_mh v_m_thrown v_m_trace v_m_typed v_m_next v_m_token v_m_place v_m_value v_m_fault v_m_finds v_m_weeks v_m_rows v_m_cardPrice v_m_lotPrice v_m_sure v_m_up v_m_down v_mt) → va_S A s.heap H locs → ∀ (ls : Array Slot), lv_has ls 9 [(0, .ref a_m), (1, .int x1), (2, .int x2), (3, .int x3), (4, .int x4), (5, .long x5), (7, .int x7)] → W p l e (headSpec wsX10_waysOf rm_X10_waysOf).room s m args below meth c H locs 0 0 (MQ below (va_Ql (fun r (_ : Unit) => r = o) (pa_QB D A (wo_X10_waysOf cI cJ a_m a_mt a_ml a_mr a_mx a_mf a_mg a_mw a_mh v_m_thrown v_m_trace v_m_typed v_m_next v_m_token v_m_place v_m_value v_m_fault v_m_finds v_m_weeks v_m_rows v_m_cardPrice v_m_lotPrice v_m_sure v_m_up v_m_down v_mt)) A) args s 0 0 A) (F0 m 6 ls []) := by
  obtain ⟨hx, hb, hr, hml, hown, hts, hK, hA, hG, hlk⟩ := id X
  intro n
  induction n with
  | zero =>
    intro x5 x7 hf
    have hf : (none : Option (Int64)) = some o := hf
    cases hf
  | succ n hrec6 =>
    intro x5 x7 hf H locs  hP hD hS ls hl
    have hf : f_X10_waysOf_L6_body x1 x2 x3 x4 v_mt (f_X10_waysOf_L6 x1 x2 x3 x4 v_mt n) x5 x7 = some o := hf
    delta f_X10_waysOf_L6_body at hf
    generalize hgr : f_X10_waysOf_L6 x1 x2 x3 x4 v_mt n = rec6 at hf hrec6
    refine lv_iload hx hb dX10_waysOf_6 (lv_at hl 6 rfl) ?_
    refine lv_iload_n hx hb dX10_waysOf_8 rfl (lv_at hl 3 rfl) ?_
    refine lv_icmp_gt (tgt := 85) hx hb dX10_waysOf_9 (by decide) (fun c_6 => ?_) (fun c_6 => ?_)
    · have hf := (if_pos c_6).symm.trans hf
      refine lv_lload hx hb dX10_waysOf_85 (lv_at hl 5 rfl) ?_
      obtain rfl := Option.some.inj hf
      exact pa_el X hP hD hS dX10_waysOf_87
    · have hf := (if_neg c_6).symm.trans hf
      refine lv_iload hx hb dX10_waysOf_12 (lv_at hl 6 rfl) ?_
      refine lv_iload_n hx hb dX10_waysOf_14 rfl (lv_at hl 1 rfl) ?_
      refine lv_imul hx hb dX10_waysOf_15 ?_
      refine lv_iload_n hx hb dX10_waysOf_16 rfl (lv_at hl 2 rfl) ?_
      refine lv_iload_n hx hb dX10_waysOf_17 rfl (lv_at hl 3 rfl) ?_
      refine lv_imul hx hb dX10_waysOf_18 ?_
      refine lv_isub hx hb dX10_waysOf_19 ?_
      refine lv_istore (lv' := [(8, .int ((x7 * x1) - (x2 * x3))), (0, .ref a_m), (1, .int x1), (2, .int x2), (3, .int x3), (4, .int x4), (5, .long x5), (7, .int x7)]) hx hb dX10_waysOf_20 hl (by decide) rfl (fun ls hl => ?_)
      refine lv_iload hx hb dX10_waysOf_22 (lv_at hl 0 rfl) ?_
      refine lv_if_ge (tgt := 33) hx hb dX10_waysOf_24 (by decide) (fun c_7 => ?_) (fun c_7 => ?_)
      · have hf := (if_pos c_7).symm.trans hf
        refine lv_iload hx hb dX10_waysOf_33 (lv_at hl 0 rfl) ?_
        exact w_X10_waysOf_b35 X hrec6 hf hP hD hS (lv_sub hl [1, 2, 3, 4, 5, 6, 7] rfl)
      · have hf := (if_neg c_7).symm.trans hf
        refine lv_iload hx hb dX10_waysOf_27 (lv_at hl 0 rfl) ?_
        refine lv_ineg hx hb dX10_waysOf_29 ?_
        refine lv_goto (tgt := 35) hx hb dX10_waysOf_30 (by decide) ?_
        exact w_X10_waysOf_b35 X hrec6 hf hP hD hS (lv_sub hl [1, 2, 3, 4, 5, 6, 7] rfl)
set_option maxHeartbeats 4000000 in
set_option maxRecDepth 100000 in
theorem w_X10_waysOf_b0 {l : Launch} {D : va_G} {cI cJ : ClassId} {g : pa_GT} {a_m a_mt a_ml a_mr a_mx a_mf a_mg a_mw a_mh : Nat} {A : Nat → Prop} {p : Program} {e : Env} {s : State} {m : MethodId} {args : Array Value} {below : List Frame} {meth : Method} {c : Code} {x1 : Int32} {x2 : Int32} {x3 : Int32} {x4 : Int32} {v_mt : Nat → Int64} {v_m_thrown : Int32} {v_m_trace : Int64} {v_m_typed : Int32} {v_m_next : Int32} {v_m_token : Int32} {v_m_place : Int32} {v_m_value : Int32} {v_m_fault : Int32} {v_m_finds : Int32} {v_m_weeks : Int32} {v_m_rows : Int32} {v_m_cardPrice : Int32} {v_m_lotPrice : Int32} {v_m_sure : Int32} {v_m_up : Int64} {v_m_down : Int64} {o : Int64} (X : pa_X cX10_waysOf 9 (some .long) RX10 wsX10_waysOf D cI cJ g A p s m args meth c)  (hf : f_X10_waysOf x1 x2 x3 x4 v_mt = some o) {H : Heap} {locs : List Loc} (hP : va_P D vwCl (wo_X10_waysOf cI cJ a_m a_mt a_ml a_mr a_mx a_mf a_mg a_mw a_mh v_m_thrown v_m_trace v_m_typed v_m_next v_m_token v_m_place v_m_value v_m_fault v_m_finds v_m_weeks v_m_rows v_m_cardPrice v_m_lotPrice v_m_sure v_m_up v_m_down v_mt) H) (hD : va_D A (wo_X10_waysOf cI cJ a_m a_mt a_ml a_mr a_mx a_mf a_mg a_mw a_mh v_m_thrown v_m_trace v_m_typed v_m_next v_m_token v_m_place v_m_value v_m_fault v_m_finds v_m_weeks v_m_rows v_m_cardPrice v_m_lotPrice v_m_sure v_m_up v_m_down v_mt)) (hS : va_S A s.heap H locs) {ls : Array Slot} (hl : lv_has ls 9 [(0, .ref a_m), (1, .int x1), (2, .int x2), (3, .int x3), (4, .int x4)]) : W p l e (headSpec wsX10_waysOf rm_X10_waysOf).room s m args below meth c H locs 0 0 (MQ below (va_Ql (fun r (_ : Unit) => r = o) (pa_QB D A (wo_X10_waysOf cI cJ a_m a_mt a_ml a_mr a_mx a_mf a_mg a_mw a_mh v_m_thrown v_m_trace v_m_typed v_m_next v_m_token v_m_place v_m_value v_m_fault v_m_finds v_m_weeks v_m_rows v_m_cardPrice v_m_lotPrice v_m_sure v_m_up v_m_down v_mt)) A) args s 0 0 A) (F0 m 0 ls []) := by
  obtain ⟨hx, hb, hr, hml, hown, hts, hK, hA, hG, hlk⟩ := id X
  delta f_X10_waysOf at hf
  refine lv_lconst (v := (0 : Int64)) hx hb dX10_waysOf_0 (by decide) ?_
  refine lv_lstore (lv' := [(5, .long (0 : Int64)), (0, .ref a_m), (1, .int x1), (2, .int x2), (3, .int x3), (4, .int x4)]) hx hb dX10_waysOf_1 hl (by decide) rfl (fun ls hl => ?_)
  refine lv_iconst (v := (0 : Int32)) hx hb dX10_waysOf_3 (by decide) ?_
  refine lv_istore (lv' := [(7, .int (0 : Int32)), (5, .long (0 : Int64)), (0, .ref a_m), (1, .int x1), (2, .int x2), (3, .int x3), (4, .int x4)]) hx hb dX10_waysOf_4 hl (by decide) rfl (fun ls hl => ?_)
  exact w_X10_waysOf_L6 X  _ _ _ hf _ _  hP hD hS _ (lv_sub hl [2, 3, 4, 5, 6, 1, 0] rfl)
set_option maxHeartbeats 4000000 in
set_option maxRecDepth 100000 in
theorem c_X10_waysOf {l : Launch} {D : va_G} {cI cJ : ClassId} {g : pa_GT} {a_m a_mt a_ml a_mr a_mx a_mf a_mg a_mw a_mh : Nat} {x1 : Int32} {x2 : Int32} {x3 : Int32} {x4 : Int32} {v_m_thrown : Int32} {v_m_trace : Int64} {v_m_typed : Int32} {v_m_next : Int32} {v_m_token : Int32} {v_m_place : Int32} {v_m_value : Int32} {v_m_fault : Int32} {v_m_finds : Int32} {v_m_weeks : Int32} {v_m_rows : Int32} {v_m_cardPrice : Int32} {v_m_lotPrice : Int32} {v_m_sure : Int32} {v_m_up : Int64} {v_m_down : Int64} {v_mt : Nat → Int64} {o : Int64} (hf : f_X10_waysOf x1 x2 x3 x4 v_mt = some o) : pa_Ml l yX10_waysOf wsX10_waysOf rm_X10_waysOf D cI cJ g [.ref a_m, .int x1, .int x2, .int x3, .int x4] (wo_X10_waysOf cI cJ a_m a_mt a_ml a_mr a_mx a_mf a_mg a_mw a_mh v_m_thrown v_m_trace v_m_typed v_m_next v_m_token v_m_place v_m_value v_m_fault v_m_finds v_m_weeks v_m_rows v_m_cardPrice v_m_lotPrice v_m_sure v_m_up v_m_down v_mt) (wo_X10_waysOf cI cJ a_m a_mt a_ml a_mr a_mx a_mf a_mg a_mw a_mh v_m_thrown v_m_trace v_m_typed v_m_next v_m_token v_m_place v_m_value v_m_fault v_m_finds v_m_weeks v_m_rows v_m_cardPrice v_m_lotPrice v_m_sure v_m_up v_m_down v_mt) o := by
  intro sz
  refine pa_met (cc := cX10_waysOf) (maxL := 9) (ret := (some .long)) (lv := [(0, .ref a_m), (1, .int x1), (2, .int x2), (3, .int x3), (4, .int x4)]) (by decide) rfl (Nat.le_of_ble_eq_true rfl) rfl ?_
  intro p e s m below meth c X hsz hP hD ls hl
  subst hsz
  exact w_X10_waysOf_b0 X hf hP hD va_S.rf hl
abbrev wo_X10_ways (cI cJ : ClassId) (a_m a_mt a_ml a_mr a_mx a_mf a_mg a_mw a_mh : Nat) (v_m_thrown : Int32) (v_m_trace : Int64) (v_m_typed : Int32) (v_m_next : Int32) (v_m_token : Int32) (v_m_place : Int32) (v_m_value : Int32) (v_m_fault : Int32) (v_m_finds : Int32) (v_m_weeks : Int32) (v_m_rows : Int32) (v_m_cardPrice : Int32) (v_m_lotPrice : Int32) (v_m_sure : Int32) (v_m_up : Int64) (v_m_down : Int64) (v_mt : Nat → Int64) : va_W := [(a_m, .inr (9, [.int v_m_thrown, .long v_m_trace, .ref a_mt, .ref a_ml, .ref a_mr, .ref a_mx, .int v_m_typed, .int v_m_next, .int v_m_token, .int v_m_place, .int v_m_value, .int v_m_fault, .int v_m_finds, .ref a_mf, .ref a_mg, .int v_m_weeks, .ref a_mw, .int v_m_rows, .ref a_mh, .int v_m_cardPrice, .int v_m_lotPrice, .int v_m_sure, .long v_m_up, .long v_m_down])), (a_mt, .inl (cJ, 2601, .inr (.inl v_mt)))]
abbrev rm_X10_ways : Room := { frames := 2, cells := 0, slots := 0, locals := 50 }
theorem il_X10_ways_X10 : ∀ w ∈ wsX100, w ∈ wsX10_ways := by decide +kernel
theorem fk_X10_ways_0 : Cond.fieldLink RX10 45 "PostedAsksModel" "thrown" "I" ∈ wsX10_ways := by decide +kernel
theorem fk_X10_ways_1 : Cond.constantLong RX10 74 (-1000000000000000000) ∈ wsX10_ways := by decide +kernel
def f_X10_ways (x1 : Int32) (x2 : Int32) (x3 : Int32) (x4 : Int32) (x5 : Int32) (v_mt : Nat → Int64) : Option (Int64 × Int32) :=
  (f_X10_in x1 (1 : Int32) (50 : Int32)).bind fun u_1 =>
  if u_1 = 0 then
    some ((-1000000000000000000 : Int64), (0 : Int32))
  else
    (f_X10_in x2 (0 : Int32) x1).bind fun u_4 =>
    if u_4 = 0 then
      some ((-1000000000000000000 : Int64), (0 : Int32))
    else
      (f_X10_in x3 (1 : Int32) x1).bind fun u_7 =>
      if u_7 = 0 then
        some ((-1000000000000000000 : Int64), (0 : Int32))
      else
        (f_X10_in x4 (0 : Int32) (100 : Int32)).bind fun u_10 =>
        if u_10 = 0 then
          some ((-1000000000000000000 : Int64), (0 : Int32))
        else
          (f_X10_in x5 (0 : Int32) (1 : Int32)).bind fun u_13 =>
          if u_13 = 0 then
            some ((-1000000000000000000 : Int64), (0 : Int32))
          else
            if x5 = 0 then
              (f_X10_waysOf x1 x2 x3 x4 v_mt).bind fun u_19 =>
              some (u_19, (0 : Int32))
            else
              (f_X10_choose x1 x3 v_mt).bind fun u_17 =>
              some (u_17, (0 : Int32))
set_option maxHeartbeats 4000000 in
set_option maxRecDepth 100000 in
theorem w_X10_ways_b0 {l : Launch} {D : va_G} {cI cJ : ClassId} {g : pa_GT} {a_m a_mt a_ml a_mr a_mx a_mf a_mg a_mw a_mh : Nat} {A : Nat → Prop} {p : Program} {e : Env} {s : State} {m : MethodId} {args : Array Value} {below : List Frame} {meth : Method} {c : Code} {x1 : Int32} {x2 : Int32} {x3 : Int32} {x4 : Int32} {x5 : Int32} {v_mt : Nat → Int64} {v_m_thrown : Int32} {v_m_trace : Int64} {v_m_typed : Int32} {v_m_next : Int32} {v_m_token : Int32} {v_m_place : Int32} {v_m_value : Int32} {v_m_fault : Int32} {v_m_finds : Int32} {v_m_weeks : Int32} {v_m_rows : Int32} {v_m_cardPrice : Int32} {v_m_lotPrice : Int32} {v_m_sure : Int32} {v_m_up : Int64} {v_m_down : Int64} {o : Int64 × Int32} (X : pa_X cX10_ways 6 (some .long) RX10 wsX10_ways D cI cJ g A p s m args meth c)  (hf : f_X10_ways x1 x2 x3 x4 x5 v_mt = some o) {H : Heap} {locs : List Loc} (hP : va_P D vwCl (wo_X10_ways cI cJ a_m a_mt a_ml a_mr a_mx a_mf a_mg a_mw a_mh v_m_thrown v_m_trace v_m_typed v_m_next v_m_token v_m_place v_m_value v_m_fault v_m_finds v_m_weeks v_m_rows v_m_cardPrice v_m_lotPrice v_m_sure v_m_up v_m_down v_mt) H) (hD : va_D A (wo_X10_ways cI cJ a_m a_mt a_ml a_mr a_mx a_mf a_mg a_mw a_mh v_m_thrown v_m_trace v_m_typed v_m_next v_m_token v_m_place v_m_value v_m_fault v_m_finds v_m_weeks v_m_rows v_m_cardPrice v_m_lotPrice v_m_sure v_m_up v_m_down v_mt)) (hS : va_S A s.heap H locs) {ls : Array Slot} (hl : lv_has ls 6 [(0, .ref a_m), (1, .int x1), (2, .int x2), (3, .int x3), (4, .int x4), (5, .int x5)]) : W p l e (headSpec wsX10_ways rm_X10_ways).room s m args below meth c H locs 0 0 (MQ below (va_Ql (fun r (_ : Unit) => r = o.1) (pa_QB D A (wo_X10_ways cI cJ a_m a_mt a_ml a_mr a_mx a_mf a_mg a_mw a_mh o.2 v_m_trace v_m_typed v_m_next v_m_token v_m_place v_m_value v_m_fault v_m_finds v_m_weeks v_m_rows v_m_cardPrice v_m_lotPrice v_m_sure v_m_up v_m_down v_mt)) A) args s 0 0 A) (F0 m 0 ls []) := by
  obtain ⟨hx, hb, hr, hml, hown, hts, hK, hA, hG, hlk⟩ := id X
  delta f_X10_ways at hf
  refine lv_aload_n hx hb dX10_ways_0 rfl (lv_at hl 0 rfl) ?_
  refine lv_iconst (v := (0 : Int32)) hx hb dX10_ways_1 (by decide) ?_
  refine va_put (D := D) (ci := 9) (v := .int (0 : Int32)) (ty := .int) (C := RX10) (T := TX10) (N := 24) hx hb hts il_X10_ways_X10 tyX10 tyX10_ok nmX10 hown hK hP hD hS 0 rfl rfl 0 (by decide) (hts _ fk_X10_ways_0) (fun _ h9 => h9) rfl (tyX10_ok 0 (by decide)) rfl rfl (Nat.le_of_ble_eq_true rfl) dX10_ways_2 (fun H locs hP hD hS => ?_)
  have hP : va_P D vwCl (wo_X10_ways cI cJ a_m a_mt a_ml a_mr a_mx a_mf a_mg a_mw a_mh (0 : Int32) v_m_trace v_m_typed v_m_next v_m_token v_m_place v_m_value v_m_fault v_m_finds v_m_weeks v_m_rows v_m_cardPrice v_m_lotPrice v_m_sure v_m_up v_m_down v_mt) H := hP
  have hD : va_D A (wo_X10_ways cI cJ a_m a_mt a_ml a_mr a_mx a_mf a_mg a_mw a_mh (0 : Int32) v_m_trace v_m_typed v_m_next v_m_token v_m_place v_m_value v_m_fault v_m_finds v_m_weeks v_m_rows v_m_cardPrice v_m_lotPrice v_m_sure v_m_up v_m_down v_mt) := hD
  refine lv_iload_n hx hb dX10_ways_5 rfl (lv_at hl 1 rfl) ?_
  refine lv_iconst (v := (1 : Int32)) hx hb dX10_ways_6 (by decide) ?_
  refine lv_bipush (v := (50 : Int32)) hx hb dX10_ways_7 (by decide) ?_
  obtain ⟨u_1, hg_2, hf⟩ := pa_bd hf
  refine pa_ki (wc := ([] : va_W)) (wr := [(a_m, .inr (9, [.int (0 : Int32), .long v_m_trace, .ref a_mt, .ref a_ml, .ref a_mr, .ref a_mx, .int v_m_typed, .int v_m_next, .int v_m_token, .int v_m_place, .int v_m_value, .int v_m_fault, .int v_m_finds, .ref a_mf, .ref a_mg, .int v_m_weeks, .ref a_mw, .int v_m_rows, .ref a_mh, .int v_m_cardPrice, .int v_m_lotPrice, .int v_m_sure, .long v_m_up, .long v_m_down])), (a_mt, .inl (cJ, 2601, .inr (.inl v_mt)))]) (w1 := ([] : va_W)) (w2 := (wo_X10_ways cI cJ a_m a_mt a_ml a_mr a_mx a_mf a_mg a_mw a_mh (0 : Int32) v_m_trace v_m_typed v_m_next v_m_token v_m_place v_m_value v_m_fault v_m_finds v_m_weeks v_m_rows v_m_cardPrice v_m_lotPrice v_m_sure v_m_up v_m_down v_mt)) X hP hD hS [] [0, 1] [0, 1] rfl (pa_rS (As := [.int x1, .int (1 : Int32), .int (50 : Int32)]) (rest := []) X hP hD hS [] rfl rfl (c_X10_in hg_2 H.size) (va_cwS 3 hts gX10_ways_X10_in rfl rfl rfl (by decide +kernel) ⟨Nat.le_of_ble_eq_true rfl, Nat.le_of_ble_eq_true rfl⟩) rfl hl.1 rfl (Nat.le_of_ble_eq_true rfl) dX10_ways_9 ⟨Nat.zero_le _, Nat.zero_le _⟩) rfl rfl (by decide) rfl rfl (fun H locs hP hD hS => ?_)
  refine lv_if_eq (tgt := 54) hx hb dX10_ways_12 (by decide) (fun c_3 => ?_) (fun c_3 => ?_)
  · have hf := (if_pos c_3).symm.trans hf
    refine lv_ldc2 (v := (-1000000000000000000 : Int64)) hx hb hown (hts _ fk_X10_ways_1) dX10_ways_54 ?_
    obtain rfl := Option.some.inj hf
    exact pa_el X hP hD hS dX10_ways_57
  · have hf := (if_neg c_3).symm.trans hf
    refine lv_iload_n hx hb dX10_ways_15 rfl (lv_at hl 2 rfl) ?_
    refine lv_iconst (v := (0 : Int32)) hx hb dX10_ways_16 (by decide) ?_
    refine lv_iload_n hx hb dX10_ways_17 rfl (lv_at hl 1 rfl) ?_
    obtain ⟨u_4, hg_5, hf⟩ := pa_bd hf
    refine pa_ki (wc := ([] : va_W)) (wr := [(a_m, .inr (9, [.int (0 : Int32), .long v_m_trace, .ref a_mt, .ref a_ml, .ref a_mr, .ref a_mx, .int v_m_typed, .int v_m_next, .int v_m_token, .int v_m_place, .int v_m_value, .int v_m_fault, .int v_m_finds, .ref a_mf, .ref a_mg, .int v_m_weeks, .ref a_mw, .int v_m_rows, .ref a_mh, .int v_m_cardPrice, .int v_m_lotPrice, .int v_m_sure, .long v_m_up, .long v_m_down])), (a_mt, .inl (cJ, 2601, .inr (.inl v_mt)))]) (w1 := ([] : va_W)) (w2 := (wo_X10_ways cI cJ a_m a_mt a_ml a_mr a_mx a_mf a_mg a_mw a_mh (0 : Int32) v_m_trace v_m_typed v_m_next v_m_token v_m_place v_m_value v_m_fault v_m_finds v_m_weeks v_m_rows v_m_cardPrice v_m_lotPrice v_m_sure v_m_up v_m_down v_mt)) X hP hD hS [] [0, 1] [0, 1] rfl (pa_rS (As := [.int x2, .int (0 : Int32), .int x1]) (rest := []) X hP hD hS [] rfl rfl (c_X10_in hg_5 H.size) (va_cwS 3 hts gX10_ways_X10_in rfl rfl rfl (by decide +kernel) ⟨Nat.le_of_ble_eq_true rfl, Nat.le_of_ble_eq_true rfl⟩) rfl hl.1 rfl (Nat.le_of_ble_eq_true rfl) dX10_ways_18 ⟨Nat.zero_le _, Nat.zero_le _⟩) rfl rfl (by decide) rfl rfl (fun H locs hP hD hS => ?_)
    refine lv_if_eq (tgt := 54) hx hb dX10_ways_21 (by decide) (fun c_6 => ?_) (fun c_6 => ?_)
    · have hf := (if_pos c_6).symm.trans hf
      refine lv_ldc2 (v := (-1000000000000000000 : Int64)) hx hb hown (hts _ fk_X10_ways_1) dX10_ways_54 ?_
      obtain rfl := Option.some.inj hf
      exact pa_el X hP hD hS dX10_ways_57
    · have hf := (if_neg c_6).symm.trans hf
      refine lv_iload_n hx hb dX10_ways_24 rfl (lv_at hl 3 rfl) ?_
      refine lv_iconst (v := (1 : Int32)) hx hb dX10_ways_25 (by decide) ?_
      refine lv_iload_n hx hb dX10_ways_26 rfl (lv_at hl 1 rfl) ?_
      obtain ⟨u_7, hg_8, hf⟩ := pa_bd hf
      refine pa_ki (wc := ([] : va_W)) (wr := [(a_m, .inr (9, [.int (0 : Int32), .long v_m_trace, .ref a_mt, .ref a_ml, .ref a_mr, .ref a_mx, .int v_m_typed, .int v_m_next, .int v_m_token, .int v_m_place, .int v_m_value, .int v_m_fault, .int v_m_finds, .ref a_mf, .ref a_mg, .int v_m_weeks, .ref a_mw, .int v_m_rows, .ref a_mh, .int v_m_cardPrice, .int v_m_lotPrice, .int v_m_sure, .long v_m_up, .long v_m_down])), (a_mt, .inl (cJ, 2601, .inr (.inl v_mt)))]) (w1 := ([] : va_W)) (w2 := (wo_X10_ways cI cJ a_m a_mt a_ml a_mr a_mx a_mf a_mg a_mw a_mh (0 : Int32) v_m_trace v_m_typed v_m_next v_m_token v_m_place v_m_value v_m_fault v_m_finds v_m_weeks v_m_rows v_m_cardPrice v_m_lotPrice v_m_sure v_m_up v_m_down v_mt)) X hP hD hS [] [0, 1] [0, 1] rfl (pa_rS (As := [.int x3, .int (1 : Int32), .int x1]) (rest := []) X hP hD hS [] rfl rfl (c_X10_in hg_8 H.size) (va_cwS 3 hts gX10_ways_X10_in rfl rfl rfl (by decide +kernel) ⟨Nat.le_of_ble_eq_true rfl, Nat.le_of_ble_eq_true rfl⟩) rfl hl.1 rfl (Nat.le_of_ble_eq_true rfl) dX10_ways_27 ⟨Nat.zero_le _, Nat.zero_le _⟩) rfl rfl (by decide) rfl rfl (fun H locs hP hD hS => ?_)
      refine lv_if_eq (tgt := 54) hx hb dX10_ways_30 (by decide) (fun c_9 => ?_) (fun c_9 => ?_)
      · have hf := (if_pos c_9).symm.trans hf
        refine lv_ldc2 (v := (-1000000000000000000 : Int64)) hx hb hown (hts _ fk_X10_ways_1) dX10_ways_54 ?_
        obtain rfl := Option.some.inj hf
        exact pa_el X hP hD hS dX10_ways_57
      · have hf := (if_neg c_9).symm.trans hf
        refine lv_iload hx hb dX10_ways_33 (lv_at hl 4 rfl) ?_
        refine lv_iconst (v := (0 : Int32)) hx hb dX10_ways_35 (by decide) ?_
        refine lv_bipush (v := (100 : Int32)) hx hb dX10_ways_36 (by decide) ?_
        obtain ⟨u_10, hg_11, hf⟩ := pa_bd hf
        refine pa_ki (wc := ([] : va_W)) (wr := [(a_m, .inr (9, [.int (0 : Int32), .long v_m_trace, .ref a_mt, .ref a_ml, .ref a_mr, .ref a_mx, .int v_m_typed, .int v_m_next, .int v_m_token, .int v_m_place, .int v_m_value, .int v_m_fault, .int v_m_finds, .ref a_mf, .ref a_mg, .int v_m_weeks, .ref a_mw, .int v_m_rows, .ref a_mh, .int v_m_cardPrice, .int v_m_lotPrice, .int v_m_sure, .long v_m_up, .long v_m_down])), (a_mt, .inl (cJ, 2601, .inr (.inl v_mt)))]) (w1 := ([] : va_W)) (w2 := (wo_X10_ways cI cJ a_m a_mt a_ml a_mr a_mx a_mf a_mg a_mw a_mh (0 : Int32) v_m_trace v_m_typed v_m_next v_m_token v_m_place v_m_value v_m_fault v_m_finds v_m_weeks v_m_rows v_m_cardPrice v_m_lotPrice v_m_sure v_m_up v_m_down v_mt)) X hP hD hS [] [0, 1] [0, 1] rfl (pa_rS (As := [.int x4, .int (0 : Int32), .int (100 : Int32)]) (rest := []) X hP hD hS [] rfl rfl (c_X10_in hg_11 H.size) (va_cwS 3 hts gX10_ways_X10_in rfl rfl rfl (by decide +kernel) ⟨Nat.le_of_ble_eq_true rfl, Nat.le_of_ble_eq_true rfl⟩) rfl hl.1 rfl (Nat.le_of_ble_eq_true rfl) dX10_ways_38 ⟨Nat.zero_le _, Nat.zero_le _⟩) rfl rfl (by decide) rfl rfl (fun H locs hP hD hS => ?_)
        refine lv_if_eq (tgt := 54) hx hb dX10_ways_41 (by decide) (fun c_12 => ?_) (fun c_12 => ?_)
        · have hf := (if_pos c_12).symm.trans hf
          refine lv_ldc2 (v := (-1000000000000000000 : Int64)) hx hb hown (hts _ fk_X10_ways_1) dX10_ways_54 ?_
          obtain rfl := Option.some.inj hf
          exact pa_el X hP hD hS dX10_ways_57
        · have hf := (if_neg c_12).symm.trans hf
          refine lv_iload hx hb dX10_ways_44 (lv_at hl 5 rfl) ?_
          refine lv_iconst (v := (0 : Int32)) hx hb dX10_ways_46 (by decide) ?_
          refine lv_iconst (v := (1 : Int32)) hx hb dX10_ways_47 (by decide) ?_
          obtain ⟨u_13, hg_14, hf⟩ := pa_bd hf
          refine pa_ki (wc := ([] : va_W)) (wr := [(a_m, .inr (9, [.int (0 : Int32), .long v_m_trace, .ref a_mt, .ref a_ml, .ref a_mr, .ref a_mx, .int v_m_typed, .int v_m_next, .int v_m_token, .int v_m_place, .int v_m_value, .int v_m_fault, .int v_m_finds, .ref a_mf, .ref a_mg, .int v_m_weeks, .ref a_mw, .int v_m_rows, .ref a_mh, .int v_m_cardPrice, .int v_m_lotPrice, .int v_m_sure, .long v_m_up, .long v_m_down])), (a_mt, .inl (cJ, 2601, .inr (.inl v_mt)))]) (w1 := ([] : va_W)) (w2 := (wo_X10_ways cI cJ a_m a_mt a_ml a_mr a_mx a_mf a_mg a_mw a_mh (0 : Int32) v_m_trace v_m_typed v_m_next v_m_token v_m_place v_m_value v_m_fault v_m_finds v_m_weeks v_m_rows v_m_cardPrice v_m_lotPrice v_m_sure v_m_up v_m_down v_mt)) X hP hD hS [] [0, 1] [0, 1] rfl (pa_rS (As := [.int x5, .int (0 : Int32), .int (1 : Int32)]) (rest := []) X hP hD hS [] rfl rfl (c_X10_in hg_14 H.size) (va_cwS 3 hts gX10_ways_X10_in rfl rfl rfl (by decide +kernel) ⟨Nat.le_of_ble_eq_true rfl, Nat.le_of_ble_eq_true rfl⟩) rfl hl.1 rfl (Nat.le_of_ble_eq_true rfl) dX10_ways_48 ⟨Nat.zero_le _, Nat.zero_le _⟩) rfl rfl (by decide) rfl rfl (fun H locs hP hD hS => ?_)
          refine lv_if_ne (tgt := 58) hx hb dX10_ways_51 (by decide) (fun c_15 => ?_) (fun c_15 => ?_)
          · have hf := (if_neg c_15).symm.trans hf
            refine lv_iload hx hb dX10_ways_58 (lv_at hl 5 rfl) ?_
            refine lv_if_ne (tgt := 75) hx hb dX10_ways_60 (by decide) (fun c_16 => ?_) (fun c_16 => ?_)
            · have hf := (if_neg c_16).symm.trans hf
              refine lv_aload_n hx hb dX10_ways_75 rfl (lv_at hl 0 rfl) ?_
              refine lv_iload_n hx hb dX10_ways_76 rfl (lv_at hl 1 rfl) ?_
              refine lv_iload_n hx hb dX10_ways_77 rfl (lv_at hl 3 rfl) ?_
              obtain ⟨u_17, hg_18, hf⟩ := pa_bd hf
              refine pa_kl (wc := (wo_X10_choose cI cJ a_m a_mt a_ml a_mr a_mx a_mf a_mg a_mw a_mh (0 : Int32) v_m_trace v_m_typed v_m_next v_m_token v_m_place v_m_value v_m_fault v_m_finds v_m_weeks v_m_rows v_m_cardPrice v_m_lotPrice v_m_sure v_m_up v_m_down v_mt)) (wr := ([] : va_W)) (w1 := (wo_X10_choose cI cJ a_m a_mt a_ml a_mr a_mx a_mf a_mg a_mw a_mh (0 : Int32) v_m_trace v_m_typed v_m_next v_m_token v_m_place v_m_value v_m_fault v_m_finds v_m_weeks v_m_rows v_m_cardPrice v_m_lotPrice v_m_sure v_m_up v_m_down v_mt)) (w2 := (wo_X10_ways cI cJ a_m a_mt a_ml a_mr a_mx a_mf a_mg a_mw a_mh (0 : Int32) v_m_trace v_m_typed v_m_next v_m_token v_m_place v_m_value v_m_fault v_m_finds v_m_weeks v_m_rows v_m_cardPrice v_m_lotPrice v_m_sure v_m_up v_m_down v_mt)) X hP hD hS [0, 1] [] [0, 1] rfl (pa_rV (As := [.int x1, .int x3]) (rest := []) (T := TX10) X hP hD hS [0, 1] rfl rfl (c_X10_choose hg_18 H.size) (cwV 2 hts gX10_ways_X10_choose rfl rfl rfl (by decide +kernel) ⟨Nat.le_of_ble_eq_true rfl, Nat.le_of_ble_eq_true rfl⟩) (q0 := 0) rfl rfl rfl hl.1 rfl (Nat.le_of_ble_eq_true rfl) dX10_ways_78 ⟨Nat.zero_le _, Nat.zero_le _⟩) rfl rfl (by decide) rfl rfl (fun H locs hP hD hS => ?_)
              obtain rfl := Option.some.inj hf
              exact pa_el X hP hD hS dX10_ways_81
            · have hf := (if_pos c_16).symm.trans hf
              refine lv_aload_n hx hb dX10_ways_63 rfl (lv_at hl 0 rfl) ?_
              refine lv_iload_n hx hb dX10_ways_64 rfl (lv_at hl 1 rfl) ?_
              refine lv_iload_n hx hb dX10_ways_65 rfl (lv_at hl 2 rfl) ?_
              refine lv_iload_n hx hb dX10_ways_66 rfl (lv_at hl 3 rfl) ?_
              refine lv_iload hx hb dX10_ways_67 (lv_at hl 4 rfl) ?_
              obtain ⟨u_19, hg_20, hf⟩ := pa_bd hf
              refine pa_kl (wc := (wo_X10_waysOf cI cJ a_m a_mt a_ml a_mr a_mx a_mf a_mg a_mw a_mh (0 : Int32) v_m_trace v_m_typed v_m_next v_m_token v_m_place v_m_value v_m_fault v_m_finds v_m_weeks v_m_rows v_m_cardPrice v_m_lotPrice v_m_sure v_m_up v_m_down v_mt)) (wr := ([] : va_W)) (w1 := (wo_X10_waysOf cI cJ a_m a_mt a_ml a_mr a_mx a_mf a_mg a_mw a_mh (0 : Int32) v_m_trace v_m_typed v_m_next v_m_token v_m_place v_m_value v_m_fault v_m_finds v_m_weeks v_m_rows v_m_cardPrice v_m_lotPrice v_m_sure v_m_up v_m_down v_mt)) (w2 := (wo_X10_ways cI cJ a_m a_mt a_ml a_mr a_mx a_mf a_mg a_mw a_mh (0 : Int32) v_m_trace v_m_typed v_m_next v_m_token v_m_place v_m_value v_m_fault v_m_finds v_m_weeks v_m_rows v_m_cardPrice v_m_lotPrice v_m_sure v_m_up v_m_down v_mt)) X hP hD hS [0, 1] [] [0, 1] rfl (pa_rV (As := [.int x1, .int x2, .int x3, .int x4]) (rest := []) (T := TX10) X hP hD hS [0, 1] rfl rfl (c_X10_waysOf hg_20 H.size) (cwV 4 hts gX10_ways_X10_waysOf rfl rfl rfl (by decide +kernel) ⟨Nat.le_of_ble_eq_true rfl, Nat.le_of_ble_eq_true rfl⟩) (q0 := 0) rfl rfl rfl hl.1 rfl (Nat.le_of_ble_eq_true rfl) dX10_ways_69 ⟨Nat.zero_le _, Nat.zero_le _⟩) rfl rfl (by decide) rfl rfl (fun H locs hP hD hS => ?_)
              refine lv_goto (tgt := 81) hx hb dX10_ways_72 (by decide) ?_
              obtain rfl := Option.some.inj hf
              exact pa_el X hP hD hS dX10_ways_81
          · have hf := (if_pos c_15).symm.trans hf
            refine lv_ldc2 (v := (-1000000000000000000 : Int64)) hx hb hown (hts _ fk_X10_ways_1) dX10_ways_54 ?_
            obtain rfl := Option.some.inj hf
            exact pa_el X hP hD hS dX10_ways_57
set_option maxHeartbeats 4000000 in
set_option maxRecDepth 100000 in
theorem c_X10_ways {l : Launch} {D : va_G} {cI cJ : ClassId} {g : pa_GT} {a_m a_mt a_ml a_mr a_mx a_mf a_mg a_mw a_mh : Nat} {x1 : Int32} {x2 : Int32} {x3 : Int32} {x4 : Int32} {x5 : Int32} {v_m_thrown : Int32} {v_m_trace : Int64} {v_m_typed : Int32} {v_m_next : Int32} {v_m_token : Int32} {v_m_place : Int32} {v_m_value : Int32} {v_m_fault : Int32} {v_m_finds : Int32} {v_m_weeks : Int32} {v_m_rows : Int32} {v_m_cardPrice : Int32} {v_m_lotPrice : Int32} {v_m_sure : Int32} {v_m_up : Int64} {v_m_down : Int64} {v_mt : Nat → Int64} {o : Int64 × Int32} (hf : f_X10_ways x1 x2 x3 x4 x5 v_mt = some o) : pa_Ml l yX10_ways wsX10_ways rm_X10_ways D cI cJ g [.ref a_m, .int x1, .int x2, .int x3, .int x4, .int x5] (wo_X10_ways cI cJ a_m a_mt a_ml a_mr a_mx a_mf a_mg a_mw a_mh v_m_thrown v_m_trace v_m_typed v_m_next v_m_token v_m_place v_m_value v_m_fault v_m_finds v_m_weeks v_m_rows v_m_cardPrice v_m_lotPrice v_m_sure v_m_up v_m_down v_mt) (wo_X10_ways cI cJ a_m a_mt a_ml a_mr a_mx a_mf a_mg a_mw a_mh o.2 v_m_trace v_m_typed v_m_next v_m_token v_m_place v_m_value v_m_fault v_m_finds v_m_weeks v_m_rows v_m_cardPrice v_m_lotPrice v_m_sure v_m_up v_m_down v_mt) o.1 := by
  intro sz
  refine pa_met (cc := cX10_ways) (maxL := 6) (ret := (some .long)) (lv := [(0, .ref a_m), (1, .int x1), (2, .int x2), (3, .int x3), (4, .int x4), (5, .int x5)]) (by decide) rfl (Nat.le_of_ble_eq_true rfl) rfl ?_
  intro p e s m below meth c X hsz hP hD ls hl
  subst hsz
  exact w_X10_ways_b0 X hf hP hD va_S.rf hl
abbrev wo_X10_isSure (cI cJ : ClassId) (a_m a_mt a_ml a_mr a_mx a_mf a_mg a_mw a_mh : Nat) (v_m_thrown : Int32) (v_m_trace : Int64) (v_m_typed : Int32) (v_m_next : Int32) (v_m_token : Int32) (v_m_place : Int32) (v_m_value : Int32) (v_m_fault : Int32) (v_m_finds : Int32) (v_m_weeks : Int32) (v_m_rows : Int32) (v_m_cardPrice : Int32) (v_m_lotPrice : Int32) (v_m_sure : Int32) (v_m_up : Int64) (v_m_down : Int64) (v_mt : Nat → Int64) : va_W := [(a_m, .inr (9, [.int v_m_thrown, .long v_m_trace, .ref a_mt, .ref a_ml, .ref a_mr, .ref a_mx, .int v_m_typed, .int v_m_next, .int v_m_token, .int v_m_place, .int v_m_value, .int v_m_fault, .int v_m_finds, .ref a_mf, .ref a_mg, .int v_m_weeks, .ref a_mw, .int v_m_rows, .ref a_mh, .int v_m_cardPrice, .int v_m_lotPrice, .int v_m_sure, .long v_m_up, .long v_m_down])), (a_mt, .inl (cJ, 2601, .inr (.inl v_mt)))]
abbrev rm_X10_isSure : Room := { frames := 2, cells := 0, slots := 0, locals := 50 }
theorem fk_X10_isSure_0 : Cond.constantLong RX10 152 (100) ∈ wsX10_isSure := by decide +kernel
def f_X10_isSure (x1 : Int32) (x2 : Int32) (x3 : Int32) (x4 : Int32) (x5 : Int32) (v_mt : Nat → Int64) : Option (Int32) :=
  (f_X10_waysOf x1 x2 x3 x4 v_mt).bind fun u_1 =>
  (f_X10_choose x1 x3 v_mt).bind fun u_3 =>
  if (lg_cmp ((100 : Int64) * u_1) ((Int32.toInt64 x5) * u_3)) < 0 then
    some ((0 : Int32))
  else
    some ((1 : Int32))
set_option maxHeartbeats 4000000 in
set_option maxRecDepth 100000 in
theorem w_X10_isSure_b0 {l : Launch} {D : va_G} {cI cJ : ClassId} {g : pa_GT} {a_m a_mt a_ml a_mr a_mx a_mf a_mg a_mw a_mh : Nat} {A : Nat → Prop} {p : Program} {e : Env} {s : State} {m : MethodId} {args : Array Value} {below : List Frame} {meth : Method} {c : Code} {x1 : Int32} {x2 : Int32} {x3 : Int32} {x4 : Int32} {x5 : Int32} {v_mt : Nat → Int64} {v_m_thrown : Int32} {v_m_trace : Int64} {v_m_typed : Int32} {v_m_next : Int32} {v_m_token : Int32} {v_m_place : Int32} {v_m_value : Int32} {v_m_fault : Int32} {v_m_finds : Int32} {v_m_weeks : Int32} {v_m_rows : Int32} {v_m_cardPrice : Int32} {v_m_lotPrice : Int32} {v_m_sure : Int32} {v_m_up : Int64} {v_m_down : Int64} {o : Int32} (X : pa_X cX10_isSure 6 (some .boolean) RX10 wsX10_isSure D cI cJ g A p s m args meth c)  (hf : f_X10_isSure x1 x2 x3 x4 x5 v_mt = some o) {H : Heap} {locs : List Loc} (hP : va_P D vwCl (wo_X10_isSure cI cJ a_m a_mt a_ml a_mr a_mx a_mf a_mg a_mw a_mh v_m_thrown v_m_trace v_m_typed v_m_next v_m_token v_m_place v_m_value v_m_fault v_m_finds v_m_weeks v_m_rows v_m_cardPrice v_m_lotPrice v_m_sure v_m_up v_m_down v_mt) H) (hD : va_D A (wo_X10_isSure cI cJ a_m a_mt a_ml a_mr a_mx a_mf a_mg a_mw a_mh v_m_thrown v_m_trace v_m_typed v_m_next v_m_token v_m_place v_m_value v_m_fault v_m_finds v_m_weeks v_m_rows v_m_cardPrice v_m_lotPrice v_m_sure v_m_up v_m_down v_mt)) (hS : va_S A s.heap H locs) {ls : Array Slot} (hl : lv_has ls 6 [(0, .ref a_m), (1, .int x1), (2, .int x2), (3, .int x3), (4, .int x4), (5, .int x5)]) : W p l e (headSpec wsX10_isSure rm_X10_isSure).room s m args below meth c H locs 0 0 (MQ below (va_Qi (fun r (_ : Unit) => r = o) (pa_QB D A (wo_X10_isSure cI cJ a_m a_mt a_ml a_mr a_mx a_mf a_mg a_mw a_mh v_m_thrown v_m_trace v_m_typed v_m_next v_m_token v_m_place v_m_value v_m_fault v_m_finds v_m_weeks v_m_rows v_m_cardPrice v_m_lotPrice v_m_sure v_m_up v_m_down v_mt)) A) args s 0 0 A) (F0 m 0 ls []) := by
  obtain ⟨hx, hb, hr, hml, hown, hts, hK, hA, hG, hlk⟩ := id X
  delta f_X10_isSure at hf
  refine lv_ldc2 (v := (100 : Int64)) hx hb hown (hts _ fk_X10_isSure_0) dX10_isSure_0 ?_
  refine lv_aload_n hx hb dX10_isSure_3 rfl (lv_at hl 0 rfl) ?_
  refine lv_iload_n hx hb dX10_isSure_4 rfl (lv_at hl 1 rfl) ?_
  refine lv_iload_n hx hb dX10_isSure_5 rfl (lv_at hl 2 rfl) ?_
  refine lv_iload_n hx hb dX10_isSure_6 rfl (lv_at hl 3 rfl) ?_
  refine lv_iload hx hb dX10_isSure_7 (lv_at hl 4 rfl) ?_
  obtain ⟨u_1, hg_2, hf⟩ := pa_bd hf
  refine pa_kl (wc := (wo_X10_waysOf cI cJ a_m a_mt a_ml a_mr a_mx a_mf a_mg a_mw a_mh v_m_thrown v_m_trace v_m_typed v_m_next v_m_token v_m_place v_m_value v_m_fault v_m_finds v_m_weeks v_m_rows v_m_cardPrice v_m_lotPrice v_m_sure v_m_up v_m_down v_mt)) (wr := ([] : va_W)) (w1 := (wo_X10_waysOf cI cJ a_m a_mt a_ml a_mr a_mx a_mf a_mg a_mw a_mh v_m_thrown v_m_trace v_m_typed v_m_next v_m_token v_m_place v_m_value v_m_fault v_m_finds v_m_weeks v_m_rows v_m_cardPrice v_m_lotPrice v_m_sure v_m_up v_m_down v_mt)) (w2 := (wo_X10_isSure cI cJ a_m a_mt a_ml a_mr a_mx a_mf a_mg a_mw a_mh v_m_thrown v_m_trace v_m_typed v_m_next v_m_token v_m_place v_m_value v_m_fault v_m_finds v_m_weeks v_m_rows v_m_cardPrice v_m_lotPrice v_m_sure v_m_up v_m_down v_mt)) X hP hD hS [0, 1] [] [0, 1] rfl (pa_rV (As := [.int x1, .int x2, .int x3, .int x4]) (rest := [.long (100 : Int64)]) (T := TX10) X hP hD hS [0, 1] rfl rfl (c_X10_waysOf hg_2 H.size) (cwV 4 hts gX10_isSure_X10_waysOf rfl rfl rfl (by decide +kernel) ⟨Nat.le_of_ble_eq_true rfl, Nat.le_of_ble_eq_true rfl⟩) (q0 := 0) rfl rfl rfl hl.1 rfl (Nat.le_of_ble_eq_true rfl) dX10_isSure_9 ⟨Nat.zero_le _, Nat.zero_le _⟩) rfl rfl (by decide) rfl rfl (fun H locs hP hD hS => ?_)
  refine lv_lmul hx hb dX10_isSure_12 ?_
  refine lv_iload hx hb dX10_isSure_13 (lv_at hl 5 rfl) ?_
  refine lv_i2l (v := (Int32.toInt64 x5)) hx hb dX10_isSure_15 rfl ?_
  refine lv_aload_n hx hb dX10_isSure_16 rfl (lv_at hl 0 rfl) ?_
  refine lv_iload_n hx hb dX10_isSure_17 rfl (lv_at hl 1 rfl) ?_
  refine lv_iload_n hx hb dX10_isSure_18 rfl (lv_at hl 3 rfl) ?_
  obtain ⟨u_3, hg_4, hf⟩ := pa_bd hf
  refine pa_kl (wc := (wo_X10_choose cI cJ a_m a_mt a_ml a_mr a_mx a_mf a_mg a_mw a_mh v_m_thrown v_m_trace v_m_typed v_m_next v_m_token v_m_place v_m_value v_m_fault v_m_finds v_m_weeks v_m_rows v_m_cardPrice v_m_lotPrice v_m_sure v_m_up v_m_down v_mt)) (wr := ([] : va_W)) (w1 := (wo_X10_choose cI cJ a_m a_mt a_ml a_mr a_mx a_mf a_mg a_mw a_mh v_m_thrown v_m_trace v_m_typed v_m_next v_m_token v_m_place v_m_value v_m_fault v_m_finds v_m_weeks v_m_rows v_m_cardPrice v_m_lotPrice v_m_sure v_m_up v_m_down v_mt)) (w2 := (wo_X10_isSure cI cJ a_m a_mt a_ml a_mr a_mx a_mf a_mg a_mw a_mh v_m_thrown v_m_trace v_m_typed v_m_next v_m_token v_m_place v_m_value v_m_fault v_m_finds v_m_weeks v_m_rows v_m_cardPrice v_m_lotPrice v_m_sure v_m_up v_m_down v_mt)) X hP hD hS [0, 1] [] [0, 1] rfl (pa_rV (As := [.int x1, .int x3]) (rest := [.long (Int32.toInt64 x5), .long ((100 : Int64) * u_1)]) (T := TX10) X hP hD hS [0, 1] rfl rfl (c_X10_choose hg_4 H.size) (cwV 2 hts gX10_isSure_X10_choose rfl rfl rfl (by decide +kernel) ⟨Nat.le_of_ble_eq_true rfl, Nat.le_of_ble_eq_true rfl⟩) (q0 := 0) rfl rfl rfl hl.1 rfl (Nat.le_of_ble_eq_true rfl) dX10_isSure_19 ⟨Nat.zero_le _, Nat.zero_le _⟩) rfl rfl (by decide) rfl rfl (fun H locs hP hD hS => ?_)
  refine lv_lmul hx hb dX10_isSure_22 ?_
  refine W.lcmp hx hb dX10_isSure_23 ?_
  refine lv_if_lt (tgt := 31) hx hb dX10_isSure_24 (by decide) (fun c_5 => ?_) (fun c_5 => ?_)
  · have hf := (if_pos c_5).symm.trans hf
    refine lv_iconst (v := (0 : Int32)) hx hb dX10_isSure_31 (by decide) ?_
    obtain rfl := Option.some.inj hf
    exact pa_ez (v := (0 : Int32)) X hP hD hS rfl dX10_isSure_32
  · have hf := (if_neg c_5).symm.trans hf
    refine lv_iconst (v := (1 : Int32)) hx hb dX10_isSure_27 (by decide) ?_
    refine lv_goto (tgt := 32) hx hb dX10_isSure_28 (by decide) ?_
    obtain rfl := Option.some.inj hf
    exact pa_ez (v := (1 : Int32)) X hP hD hS rfl dX10_isSure_32
set_option maxHeartbeats 4000000 in
set_option maxRecDepth 100000 in
theorem c_X10_isSure {l : Launch} {D : va_G} {cI cJ : ClassId} {g : pa_GT} {a_m a_mt a_ml a_mr a_mx a_mf a_mg a_mw a_mh : Nat} {x1 : Int32} {x2 : Int32} {x3 : Int32} {x4 : Int32} {x5 : Int32} {v_m_thrown : Int32} {v_m_trace : Int64} {v_m_typed : Int32} {v_m_next : Int32} {v_m_token : Int32} {v_m_place : Int32} {v_m_value : Int32} {v_m_fault : Int32} {v_m_finds : Int32} {v_m_weeks : Int32} {v_m_rows : Int32} {v_m_cardPrice : Int32} {v_m_lotPrice : Int32} {v_m_sure : Int32} {v_m_up : Int64} {v_m_down : Int64} {v_mt : Nat → Int64} {o : Int32} (hf : f_X10_isSure x1 x2 x3 x4 x5 v_mt = some o) : pa_Mi l yX10_isSure wsX10_isSure rm_X10_isSure D cI cJ g [.ref a_m, .int x1, .int x2, .int x3, .int x4, .int x5] (wo_X10_isSure cI cJ a_m a_mt a_ml a_mr a_mx a_mf a_mg a_mw a_mh v_m_thrown v_m_trace v_m_typed v_m_next v_m_token v_m_place v_m_value v_m_fault v_m_finds v_m_weeks v_m_rows v_m_cardPrice v_m_lotPrice v_m_sure v_m_up v_m_down v_mt) (wo_X10_isSure cI cJ a_m a_mt a_ml a_mr a_mx a_mf a_mg a_mw a_mh v_m_thrown v_m_trace v_m_typed v_m_next v_m_token v_m_place v_m_value v_m_fault v_m_finds v_m_weeks v_m_rows v_m_cardPrice v_m_lotPrice v_m_sure v_m_up v_m_down v_mt) o := by
  intro sz
  refine pa_met (cc := cX10_isSure) (maxL := 6) (ret := (some .boolean)) (lv := [(0, .ref a_m), (1, .int x1), (2, .int x2), (3, .int x3), (4, .int x4), (5, .int x5)]) (by decide) rfl (Nat.le_of_ble_eq_true rfl) rfl ?_
  intro p e s m below meth c X hsz hP hD ls hl
  subst hsz
  exact w_X10_isSure_b0 X hf hP hD va_S.rf hl
abbrev wo_X10_few (cI cJ : ClassId) (a_m a_mt a_ml a_mr a_mx a_mf a_mg a_mw a_mh : Nat) (v_m_thrown : Int32) (v_m_trace : Int64) (v_m_typed : Int32) (v_m_next : Int32) (v_m_token : Int32) (v_m_place : Int32) (v_m_value : Int32) (v_m_fault : Int32) (v_m_finds : Int32) (v_m_weeks : Int32) (v_m_rows : Int32) (v_m_cardPrice : Int32) (v_m_lotPrice : Int32) (v_m_sure : Int32) (v_m_up : Int64) (v_m_down : Int64) (v_mt : Nat → Int64) : va_W := [(a_m, .inr (9, [.int v_m_thrown, .long v_m_trace, .ref a_mt, .ref a_ml, .ref a_mr, .ref a_mx, .int v_m_typed, .int v_m_next, .int v_m_token, .int v_m_place, .int v_m_value, .int v_m_fault, .int v_m_finds, .ref a_mf, .ref a_mg, .int v_m_weeks, .ref a_mw, .int v_m_rows, .ref a_mh, .int v_m_cardPrice, .int v_m_lotPrice, .int v_m_sure, .long v_m_up, .long v_m_down])), (a_mt, .inl (cJ, 2601, .inr (.inl v_mt)))]
abbrev rm_X10_few : Room := { frames := 3, cells := 0, slots := 0, locals := 75 }
theorem il_X10_few_X10 : ∀ w ∈ wsX100, w ∈ wsX10_few := by decide +kernel
theorem fk_X10_few_0 : Cond.fieldLink RX10 45 "PostedAsksModel" "thrown" "I" ∈ wsX10_few := by decide +kernel
def f_X10_few_L50_body (x1 : Int32) (x2 : Int32) (x3 : Int32) (x4 : Int32) (v_m_thrown : Int32) (v_mt : Nat → Int64) (rec50 : Int32 → Option (Int32 × Int32)) (x5 : Int32) : Option (Int32 × Int32) :=
  if x1 < x5 then
    some ((-9 : Int32), v_m_thrown)
  else
    (f_X10_isSure x1 x2 x5 x3 x4 v_mt).bind fun u_2 =>
    if u_2 = 0 then
      rec50 (x5 + (1 : Int32))
    else
      some (x5, v_m_thrown)
def f_X10_few_L50 (x1 : Int32) (x2 : Int32) (x3 : Int32) (x4 : Int32) (v_m_thrown : Int32) (v_mt : Nat → Int64) : Nat → Int32 → Option (Int32 × Int32)
  | 0 => fun _ => none
  | n + 1 => f_X10_few_L50_body x1 x2 x3 x4 v_m_thrown v_mt (f_X10_few_L50 x1 x2 x3 x4 v_m_thrown v_mt n)
def f_X10_few (x1 : Int32) (x2 : Int32) (x3 : Int32) (x4 : Int32) (v_mt : Nat → Int64) : Option (Int32 × Int32) :=
  (f_X10_in x1 (1 : Int32) (50 : Int32)).bind fun u_5 =>
  if u_5 = 0 then
    some ((-1 : Int32), (0 : Int32))
  else
    (f_X10_in x2 (0 : Int32) x1).bind fun u_8 =>
    if u_8 = 0 then
      some ((-1 : Int32), (0 : Int32))
    else
      (f_X10_in x3 (0 : Int32) (100 : Int32)).bind fun u_11 =>
      if u_11 = 0 then
        some ((-1 : Int32), (0 : Int32))
      else
        (f_X10_in x4 (1 : Int32) (100 : Int32)).bind fun u_14 =>
        if u_14 = 0 then
          some ((-1 : Int32), (0 : Int32))
        else
          f_X10_few_L50 x1 x2 x3 x4 (0 : Int32) v_mt pa_fu (1 : Int32)
set_option maxHeartbeats 4000000 in
set_option maxRecDepth 100000 in
theorem w_X10_few_L50 {l : Launch} {D : va_G} {cI cJ : ClassId} {g : pa_GT} {a_m a_mt a_ml a_mr a_mx a_mf a_mg a_mw a_mh : Nat} {A : Nat → Prop} {p : Program} {e : Env} {s : State} {m : MethodId} {args : Array Value} {below : List Frame} {meth : Method} {c : Code} {x1 : Int32} {x2 : Int32} {x3 : Int32} {x4 : Int32} {v_m_thrown : Int32} {v_mt : Nat → Int64} {v_m_trace : Int64} {v_m_typed : Int32} {v_m_next : Int32} {v_m_token : Int32} {v_m_place : Int32} {v_m_value : Int32} {v_m_fault : Int32} {v_m_finds : Int32} {v_m_weeks : Int32} {v_m_rows : Int32} {v_m_cardPrice : Int32} {v_m_lotPrice : Int32} {v_m_sure : Int32} {v_m_up : Int64} {v_m_down : Int64} {o : Int32 × Int32} (X : pa_X cX10_few 6 (some .int) RX10 wsX10_few D cI cJ g A p s m args meth c)  : ∀ (n : Nat) (x5 : Int32), f_X10_few_L50 x1 x2 x3 x4 v_m_thrown v_mt n x5 = some o → ∀ (H : Heap) (locs : List Loc) , va_P D vwCl (wo_X10_few cI cJ a_m a_mt a_ml a_mr a_mx a_mf a_mg a_mw a_mh v_m_thrown v_m_trace v_m_typed v_m_next v_m_token v_m_place v_m_value v_m_fault v_m_finds v_m_weeks v_m_rows v_m_cardPrice v_m_lotPrice v_m_sure v_m_up v_m_down v_mt) H → va_D A (wo_X10_few cI cJ a_m a_mt a_ml a_mr a_mx a_mf a_mg a_mw a_mh v_m_thrown v_m_trace v_m_typed v_m_next v_m_token v_m_place v_m_value v_m_fault v_m_finds v_m_weeks v_m_rows v_m_cardPrice v_m_lotPrice v_m_sure v_m_up v_m_down v_mt) → va_S A s.heap H locs → ∀ (ls : Array Slot), lv_has ls 6 [(0, .ref a_m), (1, .int x1), (2, .int x2), (3, .int x3), (4, .int x4), (5, .int x5)] → W p l e (headSpec wsX10_few rm_X10_few).room s m args below meth c H locs 0 0 (MQ below (va_Qi (fun r (_ : Unit) => r = o.1) (pa_QB D A (wo_X10_few cI cJ a_m a_mt a_ml a_mr a_mx a_mf a_mg a_mw a_mh o.2 v_m_trace v_m_typed v_m_next v_m_token v_m_place v_m_value v_m_fault v_m_finds v_m_weeks v_m_rows v_m_cardPrice v_m_lotPrice v_m_sure v_m_up v_m_down v_mt)) A) args s 0 0 A) (F0 m 50 ls []) := by
  obtain ⟨hx, hb, hr, hml, hown, hts, hK, hA, hG, hlk⟩ := id X
  intro n
  induction n with
  | zero =>
    intro x5 hf
    have hf : (none : Option (Int32 × Int32)) = some o := hf
    cases hf
  | succ n hrec50 =>
    intro x5 hf H locs  hP hD hS ls hl
    have hf : f_X10_few_L50_body x1 x2 x3 x4 v_m_thrown v_mt (f_X10_few_L50 x1 x2 x3 x4 v_m_thrown v_mt n) x5 = some o := hf
    delta f_X10_few_L50_body at hf
    generalize hgr : f_X10_few_L50 x1 x2 x3 x4 v_m_thrown v_mt n = rec50 at hf hrec50
    refine lv_iload hx hb dX10_few_50 (lv_at hl 5 rfl) ?_
    refine lv_iload_n hx hb dX10_few_52 rfl (lv_at hl 1 rfl) ?_
    refine lv_icmp_gt (tgt := 79) hx hb dX10_few_53 (by decide) (fun c_1 => ?_) (fun c_1 => ?_)
    · have hf := (if_pos c_1).symm.trans hf
      refine lv_bipush (v := (-9 : Int32)) hx hb dX10_few_79 (by decide) ?_
      obtain rfl := Option.some.inj hf
      exact pa_ei X hP hD hS dX10_few_81
    · have hf := (if_neg c_1).symm.trans hf
      refine lv_aload_n hx hb dX10_few_56 rfl (lv_at hl 0 rfl) ?_
      refine lv_iload_n hx hb dX10_few_57 rfl (lv_at hl 1 rfl) ?_
      refine lv_iload_n hx hb dX10_few_58 rfl (lv_at hl 2 rfl) ?_
      refine lv_iload hx hb dX10_few_59 (lv_at hl 5 rfl) ?_
      refine lv_iload_n hx hb dX10_few_61 rfl (lv_at hl 3 rfl) ?_
      refine lv_iload hx hb dX10_few_62 (lv_at hl 4 rfl) ?_
      obtain ⟨u_2, hg_3, hf⟩ := pa_bd hf
      refine pa_ki (wc := (wo_X10_isSure cI cJ a_m a_mt a_ml a_mr a_mx a_mf a_mg a_mw a_mh v_m_thrown v_m_trace v_m_typed v_m_next v_m_token v_m_place v_m_value v_m_fault v_m_finds v_m_weeks v_m_rows v_m_cardPrice v_m_lotPrice v_m_sure v_m_up v_m_down v_mt)) (wr := ([] : va_W)) (w1 := (wo_X10_isSure cI cJ a_m a_mt a_ml a_mr a_mx a_mf a_mg a_mw a_mh v_m_thrown v_m_trace v_m_typed v_m_next v_m_token v_m_place v_m_value v_m_fault v_m_finds v_m_weeks v_m_rows v_m_cardPrice v_m_lotPrice v_m_sure v_m_up v_m_down v_mt)) (w2 := (wo_X10_few cI cJ a_m a_mt a_ml a_mr a_mx a_mf a_mg a_mw a_mh v_m_thrown v_m_trace v_m_typed v_m_next v_m_token v_m_place v_m_value v_m_fault v_m_finds v_m_weeks v_m_rows v_m_cardPrice v_m_lotPrice v_m_sure v_m_up v_m_down v_mt)) X hP hD hS [0, 1] [] [0, 1] rfl (pa_rV (As := [.int x1, .int x2, .int x5, .int x3, .int x4]) (rest := []) (T := TX10) X hP hD hS [0, 1] rfl rfl (c_X10_isSure hg_3 H.size) (cwV 5 hts gX10_few_X10_isSure rfl rfl rfl (by decide +kernel) ⟨Nat.le_of_ble_eq_true rfl, Nat.le_of_ble_eq_true rfl⟩) (q0 := 0) rfl rfl rfl hl.1 rfl (Nat.le_of_ble_eq_true rfl) dX10_few_64 ⟨Nat.zero_le _, Nat.zero_le _⟩) rfl rfl (by decide) rfl rfl (fun H locs hP hD hS => ?_)
      refine lv_if_eq (tgt := 73) hx hb dX10_few_67 (by decide) (fun c_4 => ?_) (fun c_4 => ?_)
      · have hf := (if_pos c_4).symm.trans hf
        refine lv_iinc (v := (x5 + (1 : Int32))) (lv' := [(5, .int (x5 + (1 : Int32))), (0, .ref a_m), (1, .int x1), (2, .int x2), (3, .int x3), (4, .int x4)]) hx hb dX10_few_73 hl (k := 5) rfl rfl (by decide) rfl (fun ls hl => ?_)
        refine lv_goto (tgt := 50) hx hb dX10_few_76 (by decide) ?_
        exact hrec50 _ hf _ _  hP hD hS _ (lv_sub hl [1, 2, 3, 4, 5, 0] rfl)
      · have hf := (if_neg c_4).symm.trans hf
        refine lv_iload hx hb dX10_few_70 (lv_at hl 5 rfl) ?_
        obtain rfl := Option.some.inj hf
        exact pa_ei X hP hD hS dX10_few_72
set_option maxHeartbeats 4000000 in
set_option maxRecDepth 100000 in
theorem w_X10_few_b0 {l : Launch} {D : va_G} {cI cJ : ClassId} {g : pa_GT} {a_m a_mt a_ml a_mr a_mx a_mf a_mg a_mw a_mh : Nat} {A : Nat → Prop} {p : Program} {e : Env} {s : State} {m : MethodId} {args : Array Value} {below : List Frame} {meth : Method} {c : Code} {x1 : Int32} {x2 : Int32} {x3 : Int32} {x4 : Int32} {v_mt : Nat → Int64} {v_m_thrown : Int32} {v_m_trace : Int64} {v_m_typed : Int32} {v_m_next : Int32} {v_m_token : Int32} {v_m_place : Int32} {v_m_value : Int32} {v_m_fault : Int32} {v_m_finds : Int32} {v_m_weeks : Int32} {v_m_rows : Int32} {v_m_cardPrice : Int32} {v_m_lotPrice : Int32} {v_m_sure : Int32} {v_m_up : Int64} {v_m_down : Int64} {o : Int32 × Int32} (X : pa_X cX10_few 6 (some .int) RX10 wsX10_few D cI cJ g A p s m args meth c)  (hf : f_X10_few x1 x2 x3 x4 v_mt = some o) {H : Heap} {locs : List Loc} (hP : va_P D vwCl (wo_X10_few cI cJ a_m a_mt a_ml a_mr a_mx a_mf a_mg a_mw a_mh v_m_thrown v_m_trace v_m_typed v_m_next v_m_token v_m_place v_m_value v_m_fault v_m_finds v_m_weeks v_m_rows v_m_cardPrice v_m_lotPrice v_m_sure v_m_up v_m_down v_mt) H) (hD : va_D A (wo_X10_few cI cJ a_m a_mt a_ml a_mr a_mx a_mf a_mg a_mw a_mh v_m_thrown v_m_trace v_m_typed v_m_next v_m_token v_m_place v_m_value v_m_fault v_m_finds v_m_weeks v_m_rows v_m_cardPrice v_m_lotPrice v_m_sure v_m_up v_m_down v_mt)) (hS : va_S A s.heap H locs) {ls : Array Slot} (hl : lv_has ls 6 [(0, .ref a_m), (1, .int x1), (2, .int x2), (3, .int x3), (4, .int x4)]) : W p l e (headSpec wsX10_few rm_X10_few).room s m args below meth c H locs 0 0 (MQ below (va_Qi (fun r (_ : Unit) => r = o.1) (pa_QB D A (wo_X10_few cI cJ a_m a_mt a_ml a_mr a_mx a_mf a_mg a_mw a_mh o.2 v_m_trace v_m_typed v_m_next v_m_token v_m_place v_m_value v_m_fault v_m_finds v_m_weeks v_m_rows v_m_cardPrice v_m_lotPrice v_m_sure v_m_up v_m_down v_mt)) A) args s 0 0 A) (F0 m 0 ls []) := by
  obtain ⟨hx, hb, hr, hml, hown, hts, hK, hA, hG, hlk⟩ := id X
  delta f_X10_few at hf
  refine lv_aload_n hx hb dX10_few_0 rfl (lv_at hl 0 rfl) ?_
  refine lv_iconst (v := (0 : Int32)) hx hb dX10_few_1 (by decide) ?_
  refine va_put (D := D) (ci := 9) (v := .int (0 : Int32)) (ty := .int) (C := RX10) (T := TX10) (N := 24) hx hb hts il_X10_few_X10 tyX10 tyX10_ok nmX10 hown hK hP hD hS 0 rfl rfl 0 (by decide) (hts _ fk_X10_few_0) (fun _ h9 => h9) rfl (tyX10_ok 0 (by decide)) rfl rfl (Nat.le_of_ble_eq_true rfl) dX10_few_2 (fun H locs hP hD hS => ?_)
  have hP : va_P D vwCl (wo_X10_few cI cJ a_m a_mt a_ml a_mr a_mx a_mf a_mg a_mw a_mh (0 : Int32) v_m_trace v_m_typed v_m_next v_m_token v_m_place v_m_value v_m_fault v_m_finds v_m_weeks v_m_rows v_m_cardPrice v_m_lotPrice v_m_sure v_m_up v_m_down v_mt) H := hP
  have hD : va_D A (wo_X10_few cI cJ a_m a_mt a_ml a_mr a_mx a_mf a_mg a_mw a_mh (0 : Int32) v_m_trace v_m_typed v_m_next v_m_token v_m_place v_m_value v_m_fault v_m_finds v_m_weeks v_m_rows v_m_cardPrice v_m_lotPrice v_m_sure v_m_up v_m_down v_mt) := hD
  refine lv_iload_n hx hb dX10_few_5 rfl (lv_at hl 1 rfl) ?_
  refine lv_iconst (v := (1 : Int32)) hx hb dX10_few_6 (by decide) ?_
  refine lv_bipush (v := (50 : Int32)) hx hb dX10_few_7 (by decide) ?_
  obtain ⟨u_5, hg_6, hf⟩ := pa_bd hf
  refine pa_ki (wc := ([] : va_W)) (wr := [(a_m, .inr (9, [.int (0 : Int32), .long v_m_trace, .ref a_mt, .ref a_ml, .ref a_mr, .ref a_mx, .int v_m_typed, .int v_m_next, .int v_m_token, .int v_m_place, .int v_m_value, .int v_m_fault, .int v_m_finds, .ref a_mf, .ref a_mg, .int v_m_weeks, .ref a_mw, .int v_m_rows, .ref a_mh, .int v_m_cardPrice, .int v_m_lotPrice, .int v_m_sure, .long v_m_up, .long v_m_down])), (a_mt, .inl (cJ, 2601, .inr (.inl v_mt)))]) (w1 := ([] : va_W)) (w2 := (wo_X10_few cI cJ a_m a_mt a_ml a_mr a_mx a_mf a_mg a_mw a_mh (0 : Int32) v_m_trace v_m_typed v_m_next v_m_token v_m_place v_m_value v_m_fault v_m_finds v_m_weeks v_m_rows v_m_cardPrice v_m_lotPrice v_m_sure v_m_up v_m_down v_mt)) X hP hD hS [] [0, 1] [0, 1] rfl (pa_rS (As := [.int x1, .int (1 : Int32), .int (50 : Int32)]) (rest := []) X hP hD hS [] rfl rfl (c_X10_in hg_6 H.size) (va_cwS 3 hts gX10_few_X10_in rfl rfl rfl (by decide +kernel) ⟨Nat.le_of_ble_eq_true rfl, Nat.le_of_ble_eq_true rfl⟩) rfl hl.1 rfl (Nat.le_of_ble_eq_true rfl) dX10_few_9 ⟨Nat.zero_le _, Nat.zero_le _⟩) rfl rfl (by decide) rfl rfl (fun H locs hP hD hS => ?_)
  refine lv_if_eq (tgt := 45) hx hb dX10_few_12 (by decide) (fun c_7 => ?_) (fun c_7 => ?_)
  · have hf := (if_pos c_7).symm.trans hf
    refine lv_iconst (v := (-1 : Int32)) hx hb dX10_few_45 (by decide) ?_
    obtain rfl := Option.some.inj hf
    exact pa_ei X hP hD hS dX10_few_46
  · have hf := (if_neg c_7).symm.trans hf
    refine lv_iload_n hx hb dX10_few_15 rfl (lv_at hl 2 rfl) ?_
    refine lv_iconst (v := (0 : Int32)) hx hb dX10_few_16 (by decide) ?_
    refine lv_iload_n hx hb dX10_few_17 rfl (lv_at hl 1 rfl) ?_
    obtain ⟨u_8, hg_9, hf⟩ := pa_bd hf
    refine pa_ki (wc := ([] : va_W)) (wr := [(a_m, .inr (9, [.int (0 : Int32), .long v_m_trace, .ref a_mt, .ref a_ml, .ref a_mr, .ref a_mx, .int v_m_typed, .int v_m_next, .int v_m_token, .int v_m_place, .int v_m_value, .int v_m_fault, .int v_m_finds, .ref a_mf, .ref a_mg, .int v_m_weeks, .ref a_mw, .int v_m_rows, .ref a_mh, .int v_m_cardPrice, .int v_m_lotPrice, .int v_m_sure, .long v_m_up, .long v_m_down])), (a_mt, .inl (cJ, 2601, .inr (.inl v_mt)))]) (w1 := ([] : va_W)) (w2 := (wo_X10_few cI cJ a_m a_mt a_ml a_mr a_mx a_mf a_mg a_mw a_mh (0 : Int32) v_m_trace v_m_typed v_m_next v_m_token v_m_place v_m_value v_m_fault v_m_finds v_m_weeks v_m_rows v_m_cardPrice v_m_lotPrice v_m_sure v_m_up v_m_down v_mt)) X hP hD hS [] [0, 1] [0, 1] rfl (pa_rS (As := [.int x2, .int (0 : Int32), .int x1]) (rest := []) X hP hD hS [] rfl rfl (c_X10_in hg_9 H.size) (va_cwS 3 hts gX10_few_X10_in rfl rfl rfl (by decide +kernel) ⟨Nat.le_of_ble_eq_true rfl, Nat.le_of_ble_eq_true rfl⟩) rfl hl.1 rfl (Nat.le_of_ble_eq_true rfl) dX10_few_18 ⟨Nat.zero_le _, Nat.zero_le _⟩) rfl rfl (by decide) rfl rfl (fun H locs hP hD hS => ?_)
    refine lv_if_eq (tgt := 45) hx hb dX10_few_21 (by decide) (fun c_10 => ?_) (fun c_10 => ?_)
    · have hf := (if_pos c_10).symm.trans hf
      refine lv_iconst (v := (-1 : Int32)) hx hb dX10_few_45 (by decide) ?_
      obtain rfl := Option.some.inj hf
      exact pa_ei X hP hD hS dX10_few_46
    · have hf := (if_neg c_10).symm.trans hf
      refine lv_iload_n hx hb dX10_few_24 rfl (lv_at hl 3 rfl) ?_
      refine lv_iconst (v := (0 : Int32)) hx hb dX10_few_25 (by decide) ?_
      refine lv_bipush (v := (100 : Int32)) hx hb dX10_few_26 (by decide) ?_
      obtain ⟨u_11, hg_12, hf⟩ := pa_bd hf
      refine pa_ki (wc := ([] : va_W)) (wr := [(a_m, .inr (9, [.int (0 : Int32), .long v_m_trace, .ref a_mt, .ref a_ml, .ref a_mr, .ref a_mx, .int v_m_typed, .int v_m_next, .int v_m_token, .int v_m_place, .int v_m_value, .int v_m_fault, .int v_m_finds, .ref a_mf, .ref a_mg, .int v_m_weeks, .ref a_mw, .int v_m_rows, .ref a_mh, .int v_m_cardPrice, .int v_m_lotPrice, .int v_m_sure, .long v_m_up, .long v_m_down])), (a_mt, .inl (cJ, 2601, .inr (.inl v_mt)))]) (w1 := ([] : va_W)) (w2 := (wo_X10_few cI cJ a_m a_mt a_ml a_mr a_mx a_mf a_mg a_mw a_mh (0 : Int32) v_m_trace v_m_typed v_m_next v_m_token v_m_place v_m_value v_m_fault v_m_finds v_m_weeks v_m_rows v_m_cardPrice v_m_lotPrice v_m_sure v_m_up v_m_down v_mt)) X hP hD hS [] [0, 1] [0, 1] rfl (pa_rS (As := [.int x3, .int (0 : Int32), .int (100 : Int32)]) (rest := []) X hP hD hS [] rfl rfl (c_X10_in hg_12 H.size) (va_cwS 3 hts gX10_few_X10_in rfl rfl rfl (by decide +kernel) ⟨Nat.le_of_ble_eq_true rfl, Nat.le_of_ble_eq_true rfl⟩) rfl hl.1 rfl (Nat.le_of_ble_eq_true rfl) dX10_few_28 ⟨Nat.zero_le _, Nat.zero_le _⟩) rfl rfl (by decide) rfl rfl (fun H locs hP hD hS => ?_)
      refine lv_if_eq (tgt := 45) hx hb dX10_few_31 (by decide) (fun c_13 => ?_) (fun c_13 => ?_)
      · have hf := (if_pos c_13).symm.trans hf
        refine lv_iconst (v := (-1 : Int32)) hx hb dX10_few_45 (by decide) ?_
        obtain rfl := Option.some.inj hf
        exact pa_ei X hP hD hS dX10_few_46
      · have hf := (if_neg c_13).symm.trans hf
        refine lv_iload hx hb dX10_few_34 (lv_at hl 4 rfl) ?_
        refine lv_iconst (v := (1 : Int32)) hx hb dX10_few_36 (by decide) ?_
        refine lv_bipush (v := (100 : Int32)) hx hb dX10_few_37 (by decide) ?_
        obtain ⟨u_14, hg_15, hf⟩ := pa_bd hf
        refine pa_ki (wc := ([] : va_W)) (wr := [(a_m, .inr (9, [.int (0 : Int32), .long v_m_trace, .ref a_mt, .ref a_ml, .ref a_mr, .ref a_mx, .int v_m_typed, .int v_m_next, .int v_m_token, .int v_m_place, .int v_m_value, .int v_m_fault, .int v_m_finds, .ref a_mf, .ref a_mg, .int v_m_weeks, .ref a_mw, .int v_m_rows, .ref a_mh, .int v_m_cardPrice, .int v_m_lotPrice, .int v_m_sure, .long v_m_up, .long v_m_down])), (a_mt, .inl (cJ, 2601, .inr (.inl v_mt)))]) (w1 := ([] : va_W)) (w2 := (wo_X10_few cI cJ a_m a_mt a_ml a_mr a_mx a_mf a_mg a_mw a_mh (0 : Int32) v_m_trace v_m_typed v_m_next v_m_token v_m_place v_m_value v_m_fault v_m_finds v_m_weeks v_m_rows v_m_cardPrice v_m_lotPrice v_m_sure v_m_up v_m_down v_mt)) X hP hD hS [] [0, 1] [0, 1] rfl (pa_rS (As := [.int x4, .int (1 : Int32), .int (100 : Int32)]) (rest := []) X hP hD hS [] rfl rfl (c_X10_in hg_15 H.size) (va_cwS 3 hts gX10_few_X10_in rfl rfl rfl (by decide +kernel) ⟨Nat.le_of_ble_eq_true rfl, Nat.le_of_ble_eq_true rfl⟩) rfl hl.1 rfl (Nat.le_of_ble_eq_true rfl) dX10_few_39 ⟨Nat.zero_le _, Nat.zero_le _⟩) rfl rfl (by decide) rfl rfl (fun H locs hP hD hS => ?_)
        refine lv_if_ne (tgt := 47) hx hb dX10_few_42 (by decide) (fun c_16 => ?_) (fun c_16 => ?_)
        · have hf := (if_neg c_16).symm.trans hf
          refine lv_iconst (v := (1 : Int32)) hx hb dX10_few_47 (by decide) ?_
          refine lv_istore (lv' := [(5, .int (1 : Int32)), (0, .ref a_m), (1, .int x1), (2, .int x2), (3, .int x3), (4, .int x4)]) hx hb dX10_few_48 hl (by decide) rfl (fun ls hl => ?_)
          exact w_X10_few_L50 X  _ _ hf _ _  hP hD hS _ (lv_sub hl [1, 2, 3, 4, 5, 0] rfl)
        · have hf := (if_pos c_16).symm.trans hf
          refine lv_iconst (v := (-1 : Int32)) hx hb dX10_few_45 (by decide) ?_
          obtain rfl := Option.some.inj hf
          exact pa_ei X hP hD hS dX10_few_46
set_option maxHeartbeats 4000000 in
set_option maxRecDepth 100000 in
theorem c_X10_few {l : Launch} {D : va_G} {cI cJ : ClassId} {g : pa_GT} {a_m a_mt a_ml a_mr a_mx a_mf a_mg a_mw a_mh : Nat} {x1 : Int32} {x2 : Int32} {x3 : Int32} {x4 : Int32} {v_m_thrown : Int32} {v_m_trace : Int64} {v_m_typed : Int32} {v_m_next : Int32} {v_m_token : Int32} {v_m_place : Int32} {v_m_value : Int32} {v_m_fault : Int32} {v_m_finds : Int32} {v_m_weeks : Int32} {v_m_rows : Int32} {v_m_cardPrice : Int32} {v_m_lotPrice : Int32} {v_m_sure : Int32} {v_m_up : Int64} {v_m_down : Int64} {v_mt : Nat → Int64} {o : Int32 × Int32} (hf : f_X10_few x1 x2 x3 x4 v_mt = some o) : pa_Mi l yX10_few wsX10_few rm_X10_few D cI cJ g [.ref a_m, .int x1, .int x2, .int x3, .int x4] (wo_X10_few cI cJ a_m a_mt a_ml a_mr a_mx a_mf a_mg a_mw a_mh v_m_thrown v_m_trace v_m_typed v_m_next v_m_token v_m_place v_m_value v_m_fault v_m_finds v_m_weeks v_m_rows v_m_cardPrice v_m_lotPrice v_m_sure v_m_up v_m_down v_mt) (wo_X10_few cI cJ a_m a_mt a_ml a_mr a_mx a_mf a_mg a_mw a_mh o.2 v_m_trace v_m_typed v_m_next v_m_token v_m_place v_m_value v_m_fault v_m_finds v_m_weeks v_m_rows v_m_cardPrice v_m_lotPrice v_m_sure v_m_up v_m_down v_mt) o.1 := by
  intro sz
  refine pa_met (cc := cX10_few) (maxL := 6) (ret := (some .int)) (lv := [(0, .ref a_m), (1, .int x1), (2, .int x2), (3, .int x3), (4, .int x4)]) (by decide) rfl (Nat.le_of_ble_eq_true rfl) rfl ?_
  intro p e s m below meth c X hsz hP hD ls hl
  subst hsz
  exact w_X10_few_b0 X hf hP hD va_S.rf hl
abbrev wo_X10_may (cI cJ : ClassId) (a_m a_mt a_ml a_mr a_mx a_mf a_mg a_mw a_mh : Nat) (v_m_thrown : Int32) (v_m_trace : Int64) (v_m_typed : Int32) (v_m_next : Int32) (v_m_token : Int32) (v_m_place : Int32) (v_m_value : Int32) (v_m_fault : Int32) (v_m_finds : Int32) (v_m_weeks : Int32) (v_m_rows : Int32) (v_m_cardPrice : Int32) (v_m_lotPrice : Int32) (v_m_sure : Int32) (v_m_up : Int64) (v_m_down : Int64) (v_mt : Nat → Int64) : va_W := [(a_m, .inr (9, [.int v_m_thrown, .long v_m_trace, .ref a_mt, .ref a_ml, .ref a_mr, .ref a_mx, .int v_m_typed, .int v_m_next, .int v_m_token, .int v_m_place, .int v_m_value, .int v_m_fault, .int v_m_finds, .ref a_mf, .ref a_mg, .int v_m_weeks, .ref a_mw, .int v_m_rows, .ref a_mh, .int v_m_cardPrice, .int v_m_lotPrice, .int v_m_sure, .long v_m_up, .long v_m_down])), (a_mt, .inl (cJ, 2601, .inr (.inl v_mt)))]
abbrev rm_X10_may : Room := { frames := 1, cells := 0, slots := 0, locals := 22 }
theorem il_X10_may_X10 : ∀ w ∈ wsX100, w ∈ wsX10_may := by decide +kernel
theorem fk_X10_may_0 : Cond.constantLong RX10 158 (10) ∈ wsX10_may := by decide +kernel
theorem fk_X10_may_1 : Cond.fieldLink RX10 45 "PostedAsksModel" "thrown" "I" ∈ wsX10_may := by decide +kernel
def f_X10_may_b193 (rec132 : Int32 → Int32 → Int32 → Option (Int32 × Int32)) (x1 : Int32) (x2 : Int32) (x3 : Int32) (x4 : Int32) (x5 : Int64) (x7 : Int32) (x9 : Int32) (x10 : Int32) (x11 : Int32) (s0 : Int32) (v_m_thrown : Int32) (v_mt : Nat → Int64) : Option (Int32 × Int32) :=
  if x11 = 0 then
    rec132 s0 x9 (x10 + (1 : Int32))
  else
    rec132 s0 x10 (x10 + (1 : Int32))
def f_X10_may_b191 (rec132 : Int32 → Int32 → Int32 → Option (Int32 × Int32)) (x1 : Int32) (x2 : Int32) (x3 : Int32) (x4 : Int32) (x5 : Int64) (x7 : Int32) (x8 : Int32) (x9 : Int32) (x10 : Int32) (x11 : Int32) (v_m_thrown : Int32) (v_mt : Nat → Int64) : Option (Int32 × Int32) :=
  f_X10_may_b193 rec132 x1 x2 x3 x4 x5 x7 x9 x10 x11 x8 v_m_thrown v_mt
def f_X10_may_b172 (rec132 : Int32 → Int32 → Int32 → Option (Int32 × Int32)) (x1 : Int32) (x2 : Int32) (x3 : Int32) (x4 : Int32) (x5 : Int64) (x7 : Int32) (x8 : Int32) (x9 : Int32) (x10 : Int32) (s0 : Int32) (v_m_thrown : Int32) (v_mt : Nat → Int64) : Option (Int32 × Int32) :=
  if s0 = 0 then
    f_X10_may_b191 rec132 x1 x2 x3 x4 x5 x7 x8 x9 x10 s0 v_m_thrown v_mt
  else
    if x8 = (-9 : Int32) then
      f_X10_may_b193 rec132 x1 x2 x3 x4 x5 x7 x9 x10 s0 x10 v_m_thrown v_mt
    else
      f_X10_may_b191 rec132 x1 x2 x3 x4 x5 x7 x8 x9 x10 s0 v_m_thrown v_mt
def f_X10_may_L132_body (x1 : Int32) (x2 : Int32) (x3 : Int32) (x4 : Int32) (x5 : Int64) (x7 : Int32) (v_m_thrown : Int32) (v_mt : Nat → Int64) (rec132 : Int32 → Int32 → Int32 → Option (Int32 × Int32)) (x8 : Int32) (x9 : Int32) (x10 : Int32) : Option (Int32 × Int32) :=
  if x1 < x10 then
    if x4 = 0 then
      some (x7, v_m_thrown)
    else
      if x4 = (1 : Int32) then
        some (x8, v_m_thrown)
      else
        some (x9, v_m_thrown)
  else
    (f_X10_choose x10 x3 v_mt).bind fun u_7 =>
    (f_X10_choose (x1 - x10) (x2 - x3) v_mt).bind fun u_9 =>
    if (lg_cmp (((10 : Int64) * u_7) * u_9) x5) < 0 then
      f_X10_may_b172 rec132 x1 x2 x3 x4 x5 x7 x8 x9 x10 (0 : Int32) v_m_thrown v_mt
    else
      f_X10_may_b172 rec132 x1 x2 x3 x4 x5 x7 x8 x9 x10 (1 : Int32) v_m_thrown v_mt
def f_X10_may_L132 (x1 : Int32) (x2 : Int32) (x3 : Int32) (x4 : Int32) (x5 : Int64) (x7 : Int32) (v_m_thrown : Int32) (v_mt : Nat → Int64) : Nat → Int32 → Int32 → Int32 → Option (Int32 × Int32)
  | 0 => fun _ _ _ => none
  | n + 1 => f_X10_may_L132_body x1 x2 x3 x4 x5 x7 v_m_thrown v_mt (f_X10_may_L132 x1 x2 x3 x4 x5 x7 v_m_thrown v_mt n)
def f_X10_may_b96 (rec54 : Int64 → Int32 → Int32 → Option (Int32 × Int32)) (x1 : Int32) (x2 : Int32) (x3 : Int32) (x4 : Int32) (x5 : Int64) (x8 : Int32) (x9 : Int64) (s0 : Int32) (v_m_thrown : Int32) (v_mt : Nat → Int64) : Option (Int32 × Int32) :=
  if (lg_cmp x9 x5) ≤ 0 then
    rec54 x5 s0 (x8 + (1 : Int32))
  else
    rec54 x9 s0 (x8 + (1 : Int32))
def f_X10_may_L54_body (x1 : Int32) (x2 : Int32) (x3 : Int32) (x4 : Int32) (v_m_thrown : Int32) (v_mt : Nat → Int64) (rec54 : Int64 → Int32 → Int32 → Option (Int32 × Int32)) (x5 : Int64) (x7 : Int32) (x8 : Int32) : Option (Int32 × Int32) :=
  if x1 < x8 then
    f_X10_may_L132 x1 x2 x3 x4 x5 x7 v_m_thrown v_mt pa_fu (-9 : Int32) (-9 : Int32) (0 : Int32)
  else
    (f_X10_choose x8 x3 v_mt).bind fun u_14 =>
    (f_X10_choose (x1 - x8) (x2 - x3) v_mt).bind fun u_16 =>
    if (lg_cmp (u_14 * u_16) x5) ≤ 0 then
      f_X10_may_b96 rec54 x1 x2 x3 x4 x5 x8 (u_14 * u_16) x7 v_m_thrown v_mt
    else
      f_X10_may_b96 rec54 x1 x2 x3 x4 x5 x8 (u_14 * u_16) x8 v_m_thrown v_mt
def f_X10_may_L54 (x1 : Int32) (x2 : Int32) (x3 : Int32) (x4 : Int32) (v_m_thrown : Int32) (v_mt : Nat → Int64) : Nat → Int64 → Int32 → Int32 → Option (Int32 × Int32)
  | 0 => fun _ _ _ => none
  | n + 1 => f_X10_may_L54_body x1 x2 x3 x4 v_m_thrown v_mt (f_X10_may_L54 x1 x2 x3 x4 v_m_thrown v_mt n)
def f_X10_may (x1 : Int32) (x2 : Int32) (x3 : Int32) (x4 : Int32) (v_mt : Nat → Int64) : Option (Int32 × Int32) :=
  (f_X10_in x1 (1 : Int32) (50 : Int32)).bind fun u_19 =>
  if u_19 = 0 then
    some ((-1 : Int32), (0 : Int32))
  else
    (f_X10_in x2 (1 : Int32) x1).bind fun u_22 =>
    if u_22 = 0 then
      some ((-1 : Int32), (0 : Int32))
    else
      (f_X10_in x3 (0 : Int32) x2).bind fun u_25 =>
      if u_25 = 0 then
        some ((-1 : Int32), (0 : Int32))
      else
        (f_X10_in x4 (0 : Int32) (2 : Int32)).bind fun u_28 =>
        if u_28 = 0 then
          some ((-1 : Int32), (0 : Int32))
        else
          f_X10_may_L54 x1 x2 x3 x4 (0 : Int32) v_mt pa_fu (0 : Int64) (0 : Int32) (0 : Int32)
set_option maxHeartbeats 4000000 in
set_option maxRecDepth 100000 in
theorem w_X10_may_b193 {l : Launch} {D : va_G} {cI cJ : ClassId} {g : pa_GT} {a_m a_mt a_ml a_mr a_mx a_mf a_mg a_mw a_mh : Nat} {A : Nat → Prop} {p : Program} {e : Env} {s : State} {m : MethodId} {args : Array Value} {below : List Frame} {meth : Method} {c : Code} {x1 : Int32} {x2 : Int32} {x3 : Int32} {x4 : Int32} {x5 : Int64} {x7 : Int32} {x9 : Int32} {x10 : Int32} {x11 : Int32} {s0 : Int32} {v_m_thrown : Int32} {v_mt : Nat → Int64} {v_m_trace : Int64} {v_m_typed : Int32} {v_m_next : Int32} {v_m_token : Int32} {v_m_place : Int32} {v_m_value : Int32} {v_m_fault : Int32} {v_m_finds : Int32} {v_m_weeks : Int32} {v_m_rows : Int32} {v_m_cardPrice : Int32} {v_m_lotPrice : Int32} {v_m_sure : Int32} {v_m_up : Int64} {v_m_down : Int64} {o : Int32 × Int32} (X : pa_X cX10_may 12 (some .int) RX10 wsX10_may D cI cJ g A p s m args meth c) {rec132 : Int32 → Int32 → Int32 → Option (Int32 × Int32)} (hrec132 : ∀ (x8 : Int32) (x9 : Int32) (x10 : Int32), rec132 x8 x9 x10 = some o → ∀ (H : Heap) (locs : List Loc) , va_P D vwCl (wo_X10_may cI cJ a_m a_mt a_ml a_mr a_mx a_mf a_mg a_mw a_mh v_m_thrown v_m_trace v_m_typed v_m_next v_m_token v_m_place v_m_value v_m_fault v_m_finds v_m_weeks v_m_rows v_m_cardPrice v_m_lotPrice v_m_sure v_m_up v_m_down v_mt) H → va_D A (wo_X10_may cI cJ a_m a_mt a_ml a_mr a_mx a_mf a_mg a_mw a_mh v_m_thrown v_m_trace v_m_typed v_m_next v_m_token v_m_place v_m_value v_m_fault v_m_finds v_m_weeks v_m_rows v_m_cardPrice v_m_lotPrice v_m_sure v_m_up v_m_down v_mt) → va_S A s.heap H locs → ∀ (ls : Array Slot), lv_has ls 12 [(0, .ref a_m), (1, .int x1), (2, .int x2), (3, .int x3), (4, .int x4), (5, .long x5), (7, .int x7), (8, .int x8), (9, .int x9), (10, .int x10)] → W p l e (headSpec wsX10_may rm_X10_may).room s m args below meth c H locs 0 0 (MQ below (va_Qi (fun r (_ : Unit) => r = o.1) (pa_QB D A (wo_X10_may cI cJ a_m a_mt a_ml a_mr a_mx a_mf a_mg a_mw a_mh o.2 v_m_trace v_m_typed v_m_next v_m_token v_m_place v_m_value v_m_fault v_m_finds v_m_weeks v_m_rows v_m_cardPrice v_m_lotPrice v_m_sure v_m_up v_m_down v_mt)) A) args s 0 0 A) (F0 m 132 ls [])) (hf : f_X10_may_b193 rec132 x1 x2 x3 x4 x5 x7 x9 x10 x11 s0 v_m_thrown v_mt = some o) {H : Heap} {locs : List Loc} (hP : va_P D vwCl (wo_X10_may cI cJ a_m a_mt a_ml a_mr a_mx a_mf a_mg a_mw a_mh v_m_thrown v_m_trace v_m_typed v_m_next v_m_token v_m_place v_m_value v_m_fault v_m_finds v_m_weeks v_m_rows v_m_cardPrice v_m_lotPrice v_m_sure v_m_up v_m_down v_mt) H) (hD : va_D A (wo_X10_may cI cJ a_m a_mt a_ml a_mr a_mx a_mf a_mg a_mw a_mh v_m_thrown v_m_trace v_m_typed v_m_next v_m_token v_m_place v_m_value v_m_fault v_m_finds v_m_weeks v_m_rows v_m_cardPrice v_m_lotPrice v_m_sure v_m_up v_m_down v_mt)) (hS : va_S A s.heap H locs) {ls : Array Slot} (hl : lv_has ls 12 [(0, .ref a_m), (1, .int x1), (2, .int x2), (3, .int x3), (4, .int x4), (5, .long x5), (7, .int x7), (9, .int x9), (10, .int x10), (11, .int x11)]) : W p l e (headSpec wsX10_may rm_X10_may).room s m args below meth c H locs 0 0 (MQ below (va_Qi (fun r (_ : Unit) => r = o.1) (pa_QB D A (wo_X10_may cI cJ a_m a_mt a_ml a_mr a_mx a_mf a_mg a_mw a_mh o.2 v_m_trace v_m_typed v_m_next v_m_token v_m_place v_m_value v_m_fault v_m_finds v_m_weeks v_m_rows v_m_cardPrice v_m_lotPrice v_m_sure v_m_up v_m_down v_mt)) A) args s 0 0 A) (F0 m 193 ls [.int s0]) := by
  obtain ⟨hx, hb, hr, hml, hown, hts, hK, hA, hG, hlk⟩ := id X
  delta f_X10_may_b193 at hf
  refine lv_istore (lv' := [(8, .int s0), (0, .ref a_m), (1, .int x1), (2, .int x2), (3, .int x3), (4, .int x4), (5, .long x5), (7, .int x7), (9, .int x9), (10, .int x10), (11, .int x11)]) hx hb dX10_may_193 hl (by decide) rfl (fun ls hl => ?_)
  refine lv_iload hx hb dX10_may_195 (lv_at hl 10 rfl) ?_
  refine lv_if_eq (tgt := 205) hx hb dX10_may_197 (by decide) (fun c_1 => ?_) (fun c_1 => ?_)
  · have hf := (if_pos c_1).symm.trans hf
    refine lv_iload hx hb dX10_may_205 (lv_at hl 8 rfl) ?_
    refine lv_istore (lv' := [(9, .int x9), (8, .int s0), (0, .ref a_m), (1, .int x1), (2, .int x2), (3, .int x3), (4, .int x4), (5, .long x5), (7, .int x7), (10, .int x10), (11, .int x11)]) hx hb dX10_may_207 hl (by decide) rfl (fun ls hl => ?_)
    refine lv_iinc (v := (x10 + (1 : Int32))) (lv' := [(10, .int (x10 + (1 : Int32))), (9, .int x9), (8, .int s0), (0, .ref a_m), (1, .int x1), (2, .int x2), (3, .int x3), (4, .int x4), (5, .long x5), (7, .int x7), (11, .int x11)]) hx hb dX10_may_209 hl (k := 9) rfl rfl (by decide) rfl (fun ls hl => ?_)
    refine lv_goto (tgt := 132) hx hb dX10_may_212 (by decide) ?_
    exact hrec132 _ _ _ hf _ _  hP hD hS _ (lv_sub hl [3, 4, 5, 6, 7, 8, 9, 2, 1, 0] rfl)
  · have hf := (if_neg c_1).symm.trans hf
    refine lv_iload hx hb dX10_may_200 (lv_at hl 9 rfl) ?_
    refine lv_goto (tgt := 207) hx hb dX10_may_202 (by decide) ?_
    refine lv_istore (lv' := [(9, .int x10), (8, .int s0), (0, .ref a_m), (1, .int x1), (2, .int x2), (3, .int x3), (4, .int x4), (5, .long x5), (7, .int x7), (10, .int x10), (11, .int x11)]) hx hb dX10_may_207 hl (by decide) rfl (fun ls hl => ?_)
    refine lv_iinc (v := (x10 + (1 : Int32))) (lv' := [(10, .int (x10 + (1 : Int32))), (9, .int x10), (8, .int s0), (0, .ref a_m), (1, .int x1), (2, .int x2), (3, .int x3), (4, .int x4), (5, .long x5), (7, .int x7), (11, .int x11)]) hx hb dX10_may_209 hl (k := 9) rfl rfl (by decide) rfl (fun ls hl => ?_)
    refine lv_goto (tgt := 132) hx hb dX10_may_212 (by decide) ?_
    exact hrec132 _ _ _ hf _ _  hP hD hS _ (lv_sub hl [3, 4, 5, 6, 7, 8, 9, 2, 1, 0] rfl)
set_option maxHeartbeats 4000000 in
set_option maxRecDepth 100000 in
theorem w_X10_may_b191 {l : Launch} {D : va_G} {cI cJ : ClassId} {g : pa_GT} {a_m a_mt a_ml a_mr a_mx a_mf a_mg a_mw a_mh : Nat} {A : Nat → Prop} {p : Program} {e : Env} {s : State} {m : MethodId} {args : Array Value} {below : List Frame} {meth : Method} {c : Code} {x1 : Int32} {x2 : Int32} {x3 : Int32} {x4 : Int32} {x5 : Int64} {x7 : Int32} {x8 : Int32} {x9 : Int32} {x10 : Int32} {x11 : Int32} {v_m_thrown : Int32} {v_mt : Nat → Int64} {v_m_trace : Int64} {v_m_typed : Int32} {v_m_next : Int32} {v_m_token : Int32} {v_m_place : Int32} {v_m_value : Int32} {v_m_fault : Int32} {v_m_finds : Int32} {v_m_weeks : Int32} {v_m_rows : Int32} {v_m_cardPrice : Int32} {v_m_lotPrice : Int32} {v_m_sure : Int32} {v_m_up : Int64} {v_m_down : Int64} {o : Int32 × Int32} (X : pa_X cX10_may 12 (some .int) RX10 wsX10_may D cI cJ g A p s m args meth c) {rec132 : Int32 → Int32 → Int32 → Option (Int32 × Int32)} (hrec132 : ∀ (x8 : Int32) (x9 : Int32) (x10 : Int32), rec132 x8 x9 x10 = some o → ∀ (H : Heap) (locs : List Loc) , va_P D vwCl (wo_X10_may cI cJ a_m a_mt a_ml a_mr a_mx a_mf a_mg a_mw a_mh v_m_thrown v_m_trace v_m_typed v_m_next v_m_token v_m_place v_m_value v_m_fault v_m_finds v_m_weeks v_m_rows v_m_cardPrice v_m_lotPrice v_m_sure v_m_up v_m_down v_mt) H → va_D A (wo_X10_may cI cJ a_m a_mt a_ml a_mr a_mx a_mf a_mg a_mw a_mh v_m_thrown v_m_trace v_m_typed v_m_next v_m_token v_m_place v_m_value v_m_fault v_m_finds v_m_weeks v_m_rows v_m_cardPrice v_m_lotPrice v_m_sure v_m_up v_m_down v_mt) → va_S A s.heap H locs → ∀ (ls : Array Slot), lv_has ls 12 [(0, .ref a_m), (1, .int x1), (2, .int x2), (3, .int x3), (4, .int x4), (5, .long x5), (7, .int x7), (8, .int x8), (9, .int x9), (10, .int x10)] → W p l e (headSpec wsX10_may rm_X10_may).room s m args below meth c H locs 0 0 (MQ below (va_Qi (fun r (_ : Unit) => r = o.1) (pa_QB D A (wo_X10_may cI cJ a_m a_mt a_ml a_mr a_mx a_mf a_mg a_mw a_mh o.2 v_m_trace v_m_typed v_m_next v_m_token v_m_place v_m_value v_m_fault v_m_finds v_m_weeks v_m_rows v_m_cardPrice v_m_lotPrice v_m_sure v_m_up v_m_down v_mt)) A) args s 0 0 A) (F0 m 132 ls [])) (hf : f_X10_may_b191 rec132 x1 x2 x3 x4 x5 x7 x8 x9 x10 x11 v_m_thrown v_mt = some o) {H : Heap} {locs : List Loc} (hP : va_P D vwCl (wo_X10_may cI cJ a_m a_mt a_ml a_mr a_mx a_mf a_mg a_mw a_mh v_m_thrown v_m_trace v_m_typed v_m_next v_m_token v_m_place v_m_value v_m_fault v_m_finds v_m_weeks v_m_rows v_m_cardPrice v_m_lotPrice v_m_sure v_m_up v_m_down v_mt) H) (hD : va_D A (wo_X10_may cI cJ a_m a_mt a_ml a_mr a_mx a_mf a_mg a_mw a_mh v_m_thrown v_m_trace v_m_typed v_m_next v_m_token v_m_place v_m_value v_m_fault v_m_finds v_m_weeks v_m_rows v_m_cardPrice v_m_lotPrice v_m_sure v_m_up v_m_down v_mt)) (hS : va_S A s.heap H locs) {ls : Array Slot} (hl : lv_has ls 12 [(0, .ref a_m), (1, .int x1), (2, .int x2), (3, .int x3), (4, .int x4), (5, .long x5), (7, .int x7), (8, .int x8), (9, .int x9), (10, .int x10), (11, .int x11)]) : W p l e (headSpec wsX10_may rm_X10_may).room s m args below meth c H locs 0 0 (MQ below (va_Qi (fun r (_ : Unit) => r = o.1) (pa_QB D A (wo_X10_may cI cJ a_m a_mt a_ml a_mr a_mx a_mf a_mg a_mw a_mh o.2 v_m_trace v_m_typed v_m_next v_m_token v_m_place v_m_value v_m_fault v_m_finds v_m_weeks v_m_rows v_m_cardPrice v_m_lotPrice v_m_sure v_m_up v_m_down v_mt)) A) args s 0 0 A) (F0 m 191 ls []) := by
  obtain ⟨hx, hb, hr, hml, hown, hts, hK, hA, hG, hlk⟩ := id X
  delta f_X10_may_b191 at hf
  refine lv_iload hx hb dX10_may_191 (lv_at hl 7 rfl) ?_
  exact w_X10_may_b193 X hrec132 hf hP hD hS (lv_sub hl [0, 1, 2, 3, 4, 5, 6, 8, 9, 10] rfl)
set_option maxHeartbeats 4000000 in
set_option maxRecDepth 100000 in
theorem w_X10_may_b172 {l : Launch} {D : va_G} {cI cJ : ClassId} {g : pa_GT} {a_m a_mt a_ml a_mr a_mx a_mf a_mg a_mw a_mh : Nat} {A : Nat → Prop} {p : Program} {e : Env} {s : State} {m : MethodId} {args : Array Value} {below : List Frame} {meth : Method} {c : Code} {x1 : Int32} {x2 : Int32} {x3 : Int32} {x4 : Int32} {x5 : Int64} {x7 : Int32} {x8 : Int32} {x9 : Int32} {x10 : Int32} {s0 : Int32} {v_m_thrown : Int32} {v_mt : Nat → Int64} {v_m_trace : Int64} {v_m_typed : Int32} {v_m_next : Int32} {v_m_token : Int32} {v_m_place : Int32} {v_m_value : Int32} {v_m_fault : Int32} {v_m_finds : Int32} {v_m_weeks : Int32} {v_m_rows : Int32} {v_m_cardPrice : Int32} {v_m_lotPrice : Int32} {v_m_sure : Int32} {v_m_up : Int64} {v_m_down : Int64} {o : Int32 × Int32} (X : pa_X cX10_may 12 (some .int) RX10 wsX10_may D cI cJ g A p s m args meth c) {rec132 : Int32 → Int32 → Int32 → Option (Int32 × Int32)} (hrec132 : ∀ (x8 : Int32) (x9 : Int32) (x10 : Int32), rec132 x8 x9 x10 = some o → ∀ (H : Heap) (locs : List Loc) , va_P D vwCl (wo_X10_may cI cJ a_m a_mt a_ml a_mr a_mx a_mf a_mg a_mw a_mh v_m_thrown v_m_trace v_m_typed v_m_next v_m_token v_m_place v_m_value v_m_fault v_m_finds v_m_weeks v_m_rows v_m_cardPrice v_m_lotPrice v_m_sure v_m_up v_m_down v_mt) H → va_D A (wo_X10_may cI cJ a_m a_mt a_ml a_mr a_mx a_mf a_mg a_mw a_mh v_m_thrown v_m_trace v_m_typed v_m_next v_m_token v_m_place v_m_value v_m_fault v_m_finds v_m_weeks v_m_rows v_m_cardPrice v_m_lotPrice v_m_sure v_m_up v_m_down v_mt) → va_S A s.heap H locs → ∀ (ls : Array Slot), lv_has ls 12 [(0, .ref a_m), (1, .int x1), (2, .int x2), (3, .int x3), (4, .int x4), (5, .long x5), (7, .int x7), (8, .int x8), (9, .int x9), (10, .int x10)] → W p l e (headSpec wsX10_may rm_X10_may).room s m args below meth c H locs 0 0 (MQ below (va_Qi (fun r (_ : Unit) => r = o.1) (pa_QB D A (wo_X10_may cI cJ a_m a_mt a_ml a_mr a_mx a_mf a_mg a_mw a_mh o.2 v_m_trace v_m_typed v_m_next v_m_token v_m_place v_m_value v_m_fault v_m_finds v_m_weeks v_m_rows v_m_cardPrice v_m_lotPrice v_m_sure v_m_up v_m_down v_mt)) A) args s 0 0 A) (F0 m 132 ls [])) (hf : f_X10_may_b172 rec132 x1 x2 x3 x4 x5 x7 x8 x9 x10 s0 v_m_thrown v_mt = some o) {H : Heap} {locs : List Loc} (hP : va_P D vwCl (wo_X10_may cI cJ a_m a_mt a_ml a_mr a_mx a_mf a_mg a_mw a_mh v_m_thrown v_m_trace v_m_typed v_m_next v_m_token v_m_place v_m_value v_m_fault v_m_finds v_m_weeks v_m_rows v_m_cardPrice v_m_lotPrice v_m_sure v_m_up v_m_down v_mt) H) (hD : va_D A (wo_X10_may cI cJ a_m a_mt a_ml a_mr a_mx a_mf a_mg a_mw a_mh v_m_thrown v_m_trace v_m_typed v_m_next v_m_token v_m_place v_m_value v_m_fault v_m_finds v_m_weeks v_m_rows v_m_cardPrice v_m_lotPrice v_m_sure v_m_up v_m_down v_mt)) (hS : va_S A s.heap H locs) {ls : Array Slot} (hl : lv_has ls 12 [(0, .ref a_m), (1, .int x1), (2, .int x2), (3, .int x3), (4, .int x4), (5, .long x5), (7, .int x7), (8, .int x8), (9, .int x9), (10, .int x10)]) : W p l e (headSpec wsX10_may rm_X10_may).room s m args below meth c H locs 0 0 (MQ below (va_Qi (fun r (_ : Unit) => r = o.1) (pa_QB D A (wo_X10_may cI cJ a_m a_mt a_ml a_mr a_mx a_mf a_mg a_mw a_mh o.2 v_m_trace v_m_typed v_m_next v_m_token v_m_place v_m_value v_m_fault v_m_finds v_m_weeks v_m_rows v_m_cardPrice v_m_lotPrice v_m_sure v_m_up v_m_down v_mt)) A) args s 0 0 A) (F0 m 172 ls [.int s0]) := by
  obtain ⟨hx, hb, hr, hml, hown, hts, hK, hA, hG, hlk⟩ := id X
  delta f_X10_may_b172 at hf
  refine lv_istore (lv' := [(11, .int s0), (0, .ref a_m), (1, .int x1), (2, .int x2), (3, .int x3), (4, .int x4), (5, .long x5), (7, .int x7), (8, .int x8), (9, .int x9), (10, .int x10)]) hx hb dX10_may_172 hl (by decide) rfl (fun ls hl => ?_)
  refine lv_iload hx hb dX10_may_174 (lv_at hl 0 rfl) ?_
  refine lv_if_eq (tgt := 191) hx hb dX10_may_176 (by decide) (fun c_2 => ?_) (fun c_2 => ?_)
  · have hf := (if_pos c_2).symm.trans hf
    exact w_X10_may_b191 X hrec132 hf hP hD hS (lv_sub hl [1, 2, 3, 4, 5, 6, 7, 8, 9, 10, 0] rfl)
  · have hf := (if_neg c_2).symm.trans hf
    refine lv_iload hx hb dX10_may_179 (lv_at hl 8 rfl) ?_
    refine lv_bipush (v := (-9 : Int32)) hx hb dX10_may_181 (by decide) ?_
    refine lv_icmp_ne (tgt := 191) hx hb dX10_may_183 (by decide) (fun c_3 => ?_) (fun c_3 => ?_)
    · have hf := (if_neg c_3).symm.trans hf
      exact w_X10_may_b191 X hrec132 hf hP hD hS (lv_sub hl [1, 2, 3, 4, 5, 6, 7, 8, 9, 10, 0] rfl)
    · have hf := (if_pos c_3).symm.trans hf
      refine lv_iload hx hb dX10_may_186 (lv_at hl 10 rfl) ?_
      refine lv_goto (tgt := 193) hx hb dX10_may_188 (by decide) ?_
      exact w_X10_may_b193 X hrec132 hf hP hD hS (lv_sub hl [1, 2, 3, 4, 5, 6, 7, 9, 10, 0] rfl)
set_option maxHeartbeats 4000000 in
set_option maxRecDepth 100000 in
theorem w_X10_may_L132 {l : Launch} {D : va_G} {cI cJ : ClassId} {g : pa_GT} {a_m a_mt a_ml a_mr a_mx a_mf a_mg a_mw a_mh : Nat} {A : Nat → Prop} {p : Program} {e : Env} {s : State} {m : MethodId} {args : Array Value} {below : List Frame} {meth : Method} {c : Code} {x1 : Int32} {x2 : Int32} {x3 : Int32} {x4 : Int32} {x5 : Int64} {x7 : Int32} {v_m_thrown : Int32} {v_mt : Nat → Int64} {v_m_trace : Int64} {v_m_typed : Int32} {v_m_next : Int32} {v_m_token : Int32} {v_m_place : Int32} {v_m_value : Int32} {v_m_fault : Int32} {v_m_finds : Int32} {v_m_weeks : Int32} {v_m_rows : Int32} {v_m_cardPrice : Int32} {v_m_lotPrice : Int32} {v_m_sure : Int32} {v_m_up : Int64} {v_m_down : Int64} {o : Int32 × Int32} (X : pa_X cX10_may 12 (some .int) RX10 wsX10_may D cI cJ g A p s m args meth c)  : ∀ (n : Nat) (x8 : Int32) (x9 : Int32) (x10 : Int32), f_X10_may_L132 x1 x2 x3 x4 x5 x7 v_m_thrown v_mt n x8 x9 x10 = some o → ∀ (H : Heap) (locs : List Loc) , va_P D vwCl (wo_X10_may cI cJ a_m a_mt a_ml a_mr a_mx a_mf a_mg a_mw a_mh v_m_thrown v_m_trace v_m_typed v_m_next v_m_token v_m_place v_m_value v_m_fault v_m_finds v_m_weeks v_m_rows v_m_cardPrice v_m_lotPrice v_m_sure v_m_up v_m_down v_mt) H → va_D A (wo_X10_may cI cJ a_m a_mt a_ml a_mr a_mx a_mf a_mg a_mw a_mh v_m_thrown v_m_trace v_m_typed v_m_next v_m_token v_m_place v_m_value v_m_fault v_m_finds v_m_weeks v_m_rows v_m_cardPrice v_m_lotPrice v_m_sure v_m_up v_m_down v_mt) → va_S A s.heap H locs → ∀ (ls : Array Slot), lv_has ls 12 [(0, .ref a_m), (1, .int x1), (2, .int x2), (3, .int x3), (4, .int x4), (5, .long x5), (7, .int x7), (8, .int x8), (9, .int x9), (10, .int x10)] → W p l e (headSpec wsX10_may rm_X10_may).room s m args below meth c H locs 0 0 (MQ below (va_Qi (fun r (_ : Unit) => r = o.1) (pa_QB D A (wo_X10_may cI cJ a_m a_mt a_ml a_mr a_mx a_mf a_mg a_mw a_mh o.2 v_m_trace v_m_typed v_m_next v_m_token v_m_place v_m_value v_m_fault v_m_finds v_m_weeks v_m_rows v_m_cardPrice v_m_lotPrice v_m_sure v_m_up v_m_down v_mt)) A) args s 0 0 A) (F0 m 132 ls []) := by
  obtain ⟨hx, hb, hr, hml, hown, hts, hK, hA, hG, hlk⟩ := id X
  intro n
  induction n with
  | zero =>
    intro x8 x9 x10 hf
    have hf : (none : Option (Int32 × Int32)) = some o := hf
    cases hf
  | succ n hrec132 =>
    intro x8 x9 x10 hf H locs  hP hD hS ls hl
    have hf : f_X10_may_L132_body x1 x2 x3 x4 x5 x7 v_m_thrown v_mt (f_X10_may_L132 x1 x2 x3 x4 x5 x7 v_m_thrown v_mt n) x8 x9 x10 = some o := hf
    delta f_X10_may_L132_body at hf
    generalize hgr : f_X10_may_L132 x1 x2 x3 x4 x5 x7 v_m_thrown v_mt n = rec132 at hf hrec132
    refine lv_iload hx hb dX10_may_132 (lv_at hl 9 rfl) ?_
    refine lv_iload_n hx hb dX10_may_134 rfl (lv_at hl 1 rfl) ?_
    refine lv_icmp_gt (tgt := 215) hx hb dX10_may_135 (by decide) (fun c_4 => ?_) (fun c_4 => ?_)
    · have hf := (if_pos c_4).symm.trans hf
      refine lv_iload hx hb dX10_may_215 (lv_at hl 4 rfl) ?_
      refine lv_if_ne (tgt := 225) hx hb dX10_may_217 (by decide) (fun c_5 => ?_) (fun c_5 => ?_)
      · have hf := (if_neg c_5).symm.trans hf
        refine lv_iload hx hb dX10_may_225 (lv_at hl 4 rfl) ?_
        refine lv_iconst (v := (1 : Int32)) hx hb dX10_may_227 (by decide) ?_
        refine lv_icmp_ne (tgt := 236) hx hb dX10_may_228 (by decide) (fun c_6 => ?_) (fun c_6 => ?_)
        · have hf := (if_neg c_6).symm.trans hf
          refine lv_iload hx hb dX10_may_236 (lv_at hl 8 rfl) ?_
          obtain rfl := Option.some.inj hf
          exact pa_ei X hP hD hS dX10_may_238
        · have hf := (if_pos c_6).symm.trans hf
          refine lv_iload hx hb dX10_may_231 (lv_at hl 7 rfl) ?_
          refine lv_goto (tgt := 238) hx hb dX10_may_233 (by decide) ?_
          obtain rfl := Option.some.inj hf
          exact pa_ei X hP hD hS dX10_may_238
      · have hf := (if_pos c_5).symm.trans hf
        refine lv_iload hx hb dX10_may_220 (lv_at hl 6 rfl) ?_
        refine lv_goto (tgt := 238) hx hb dX10_may_222 (by decide) ?_
        obtain rfl := Option.some.inj hf
        exact pa_ei X hP hD hS dX10_may_238
    · have hf := (if_neg c_4).symm.trans hf
      refine lv_ldc2 (v := (10 : Int64)) hx hb hown (hts _ fk_X10_may_0) dX10_may_138 ?_
      refine lv_aload_n hx hb dX10_may_141 rfl (lv_at hl 0 rfl) ?_
      refine lv_iload hx hb dX10_may_142 (lv_at hl 9 rfl) ?_
      refine lv_iload_n hx hb dX10_may_144 rfl (lv_at hl 3 rfl) ?_
      obtain ⟨u_7, hg_8, hf⟩ := pa_bd hf
      refine pa_kl (wc := (wo_X10_choose cI cJ a_m a_mt a_ml a_mr a_mx a_mf a_mg a_mw a_mh v_m_thrown v_m_trace v_m_typed v_m_next v_m_token v_m_place v_m_value v_m_fault v_m_finds v_m_weeks v_m_rows v_m_cardPrice v_m_lotPrice v_m_sure v_m_up v_m_down v_mt)) (wr := ([] : va_W)) (w1 := (wo_X10_choose cI cJ a_m a_mt a_ml a_mr a_mx a_mf a_mg a_mw a_mh v_m_thrown v_m_trace v_m_typed v_m_next v_m_token v_m_place v_m_value v_m_fault v_m_finds v_m_weeks v_m_rows v_m_cardPrice v_m_lotPrice v_m_sure v_m_up v_m_down v_mt)) (w2 := (wo_X10_may cI cJ a_m a_mt a_ml a_mr a_mx a_mf a_mg a_mw a_mh v_m_thrown v_m_trace v_m_typed v_m_next v_m_token v_m_place v_m_value v_m_fault v_m_finds v_m_weeks v_m_rows v_m_cardPrice v_m_lotPrice v_m_sure v_m_up v_m_down v_mt)) X hP hD hS [0, 1] [] [0, 1] rfl (pa_rV (As := [.int x10, .int x3]) (rest := [.long (10 : Int64)]) (T := TX10) X hP hD hS [0, 1] rfl rfl (c_X10_choose hg_8 H.size) (cwV 2 hts gX10_may_X10_choose rfl rfl rfl (by decide +kernel) ⟨Nat.le_of_ble_eq_true rfl, Nat.le_of_ble_eq_true rfl⟩) (q0 := 0) rfl rfl rfl hl.1 rfl (Nat.le_of_ble_eq_true rfl) dX10_may_145 ⟨Nat.zero_le _, Nat.zero_le _⟩) rfl rfl (by decide) rfl rfl (fun H locs hP hD hS => ?_)
      refine lv_lmul hx hb dX10_may_148 ?_
      refine lv_aload_n hx hb dX10_may_149 rfl (lv_at hl 0 rfl) ?_
      refine lv_iload_n hx hb dX10_may_150 rfl (lv_at hl 1 rfl) ?_
      refine lv_iload hx hb dX10_may_151 (lv_at hl 9 rfl) ?_
      refine lv_isub hx hb dX10_may_153 ?_
      refine lv_iload_n hx hb dX10_may_154 rfl (lv_at hl 2 rfl) ?_
      refine lv_iload_n hx hb dX10_may_155 rfl (lv_at hl 3 rfl) ?_
      refine lv_isub hx hb dX10_may_156 ?_
      obtain ⟨u_9, hg_10, hf⟩ := pa_bd hf
      refine pa_kl (wc := (wo_X10_choose cI cJ a_m a_mt a_ml a_mr a_mx a_mf a_mg a_mw a_mh v_m_thrown v_m_trace v_m_typed v_m_next v_m_token v_m_place v_m_value v_m_fault v_m_finds v_m_weeks v_m_rows v_m_cardPrice v_m_lotPrice v_m_sure v_m_up v_m_down v_mt)) (wr := ([] : va_W)) (w1 := (wo_X10_choose cI cJ a_m a_mt a_ml a_mr a_mx a_mf a_mg a_mw a_mh v_m_thrown v_m_trace v_m_typed v_m_next v_m_token v_m_place v_m_value v_m_fault v_m_finds v_m_weeks v_m_rows v_m_cardPrice v_m_lotPrice v_m_sure v_m_up v_m_down v_mt)) (w2 := (wo_X10_may cI cJ a_m a_mt a_ml a_mr a_mx a_mf a_mg a_mw a_mh v_m_thrown v_m_trace v_m_typed v_m_next v_m_token v_m_place v_m_value v_m_fault v_m_finds v_m_weeks v_m_rows v_m_cardPrice v_m_lotPrice v_m_sure v_m_up v_m_down v_mt)) X hP hD hS [0, 1] [] [0, 1] rfl (pa_rV (As := [.int (x1 - x10), .int (x2 - x3)]) (rest := [.long ((10 : Int64) * u_7)]) (T := TX10) X hP hD hS [0, 1] rfl rfl (c_X10_choose hg_10 H.size) (cwV 2 hts gX10_may_X10_choose rfl rfl rfl (by decide +kernel) ⟨Nat.le_of_ble_eq_true rfl, Nat.le_of_ble_eq_true rfl⟩) (q0 := 0) rfl rfl rfl hl.1 rfl (Nat.le_of_ble_eq_true rfl) dX10_may_157 ⟨Nat.zero_le _, Nat.zero_le _⟩) rfl rfl (by decide) rfl rfl (fun H locs hP hD hS => ?_)
      refine lv_lmul hx hb dX10_may_160 ?_
      refine lv_lload hx hb dX10_may_161 (lv_at hl 5 rfl) ?_
      refine W.lcmp hx hb dX10_may_163 ?_
      refine lv_if_lt (tgt := 171) hx hb dX10_may_164 (by decide) (fun c_11 => ?_) (fun c_11 => ?_)
      · have hf := (if_pos c_11).symm.trans hf
        refine lv_iconst (v := (0 : Int32)) hx hb dX10_may_171 (by decide) ?_
        exact w_X10_may_b172 X hrec132 hf hP hD hS (lv_sub hl [0, 1, 2, 3, 4, 5, 6, 7, 8, 9] rfl)
      · have hf := (if_neg c_11).symm.trans hf
        refine lv_iconst (v := (1 : Int32)) hx hb dX10_may_167 (by decide) ?_
        refine lv_goto (tgt := 172) hx hb dX10_may_168 (by decide) ?_
        exact w_X10_may_b172 X hrec132 hf hP hD hS (lv_sub hl [0, 1, 2, 3, 4, 5, 6, 7, 8, 9] rfl)
set_option maxHeartbeats 4000000 in
set_option maxRecDepth 100000 in
theorem w_X10_may_b96 {l : Launch} {D : va_G} {cI cJ : ClassId} {g : pa_GT} {a_m a_mt a_ml a_mr a_mx a_mf a_mg a_mw a_mh : Nat} {A : Nat → Prop} {p : Program} {e : Env} {s : State} {m : MethodId} {args : Array Value} {below : List Frame} {meth : Method} {c : Code} {x1 : Int32} {x2 : Int32} {x3 : Int32} {x4 : Int32} {x5 : Int64} {x8 : Int32} {x9 : Int64} {s0 : Int32} {v_m_thrown : Int32} {v_mt : Nat → Int64} {v_m_trace : Int64} {v_m_typed : Int32} {v_m_next : Int32} {v_m_token : Int32} {v_m_place : Int32} {v_m_value : Int32} {v_m_fault : Int32} {v_m_finds : Int32} {v_m_weeks : Int32} {v_m_rows : Int32} {v_m_cardPrice : Int32} {v_m_lotPrice : Int32} {v_m_sure : Int32} {v_m_up : Int64} {v_m_down : Int64} {o : Int32 × Int32} (X : pa_X cX10_may 12 (some .int) RX10 wsX10_may D cI cJ g A p s m args meth c) {rec54 : Int64 → Int32 → Int32 → Option (Int32 × Int32)} (hrec54 : ∀ (x5 : Int64) (x7 : Int32) (x8 : Int32), rec54 x5 x7 x8 = some o → ∀ (H : Heap) (locs : List Loc) , va_P D vwCl (wo_X10_may cI cJ a_m a_mt a_ml a_mr a_mx a_mf a_mg a_mw a_mh v_m_thrown v_m_trace v_m_typed v_m_next v_m_token v_m_place v_m_value v_m_fault v_m_finds v_m_weeks v_m_rows v_m_cardPrice v_m_lotPrice v_m_sure v_m_up v_m_down v_mt) H → va_D A (wo_X10_may cI cJ a_m a_mt a_ml a_mr a_mx a_mf a_mg a_mw a_mh v_m_thrown v_m_trace v_m_typed v_m_next v_m_token v_m_place v_m_value v_m_fault v_m_finds v_m_weeks v_m_rows v_m_cardPrice v_m_lotPrice v_m_sure v_m_up v_m_down v_mt) → va_S A s.heap H locs → ∀ (ls : Array Slot), lv_has ls 12 [(0, .ref a_m), (1, .int x1), (2, .int x2), (3, .int x3), (4, .int x4), (5, .long x5), (7, .int x7), (8, .int x8)] → W p l e (headSpec wsX10_may rm_X10_may).room s m args below meth c H locs 0 0 (MQ below (va_Qi (fun r (_ : Unit) => r = o.1) (pa_QB D A (wo_X10_may cI cJ a_m a_mt a_ml a_mr a_mx a_mf a_mg a_mw a_mh o.2 v_m_trace v_m_typed v_m_next v_m_token v_m_place v_m_value v_m_fault v_m_finds v_m_weeks v_m_rows v_m_cardPrice v_m_lotPrice v_m_sure v_m_up v_m_down v_mt)) A) args s 0 0 A) (F0 m 54 ls [])) (hf : f_X10_may_b96 rec54 x1 x2 x3 x4 x5 x8 x9 s0 v_m_thrown v_mt = some o) {H : Heap} {locs : List Loc} (hP : va_P D vwCl (wo_X10_may cI cJ a_m a_mt a_ml a_mr a_mx a_mf a_mg a_mw a_mh v_m_thrown v_m_trace v_m_typed v_m_next v_m_token v_m_place v_m_value v_m_fault v_m_finds v_m_weeks v_m_rows v_m_cardPrice v_m_lotPrice v_m_sure v_m_up v_m_down v_mt) H) (hD : va_D A (wo_X10_may cI cJ a_m a_mt a_ml a_mr a_mx a_mf a_mg a_mw a_mh v_m_thrown v_m_trace v_m_typed v_m_next v_m_token v_m_place v_m_value v_m_fault v_m_finds v_m_weeks v_m_rows v_m_cardPrice v_m_lotPrice v_m_sure v_m_up v_m_down v_mt)) (hS : va_S A s.heap H locs) {ls : Array Slot} (hl : lv_has ls 12 [(0, .ref a_m), (1, .int x1), (2, .int x2), (3, .int x3), (4, .int x4), (5, .long x5), (8, .int x8), (9, .long x9)]) : W p l e (headSpec wsX10_may rm_X10_may).room s m args below meth c H locs 0 0 (MQ below (va_Qi (fun r (_ : Unit) => r = o.1) (pa_QB D A (wo_X10_may cI cJ a_m a_mt a_ml a_mr a_mx a_mf a_mg a_mw a_mh o.2 v_m_trace v_m_typed v_m_next v_m_token v_m_place v_m_value v_m_fault v_m_finds v_m_weeks v_m_rows v_m_cardPrice v_m_lotPrice v_m_sure v_m_up v_m_down v_mt)) A) args s 0 0 A) (F0 m 96 ls [.int s0]) := by
  obtain ⟨hx, hb, hr, hml, hown, hts, hK, hA, hG, hlk⟩ := id X
  delta f_X10_may_b96 at hf
  refine lv_istore (lv' := [(7, .int s0), (0, .ref a_m), (1, .int x1), (2, .int x2), (3, .int x3), (4, .int x4), (5, .long x5), (8, .int x8), (9, .long x9)]) hx hb dX10_may_96 hl (by decide) rfl (fun ls hl => ?_)
  refine lv_lload hx hb dX10_may_98 (lv_at hl 8 rfl) ?_
  refine lv_lload hx hb dX10_may_100 (lv_at hl 6 rfl) ?_
  refine W.lcmp hx hb dX10_may_102 ?_
  refine lv_if_le (tgt := 111) hx hb dX10_may_103 (by decide) (fun c_12 => ?_) (fun c_12 => ?_)
  · have hf := (if_pos c_12).symm.trans hf
    refine lv_lload hx hb dX10_may_111 (lv_at hl 6 rfl) ?_
    refine lv_lstore (lv' := [(5, .long x5), (7, .int s0), (0, .ref a_m), (1, .int x1), (2, .int x2), (3, .int x3), (4, .int x4), (8, .int x8), (9, .long x9)]) hx hb dX10_may_113 hl (by decide) rfl (fun ls hl => ?_)
    refine lv_iinc (v := (x8 + (1 : Int32))) (lv' := [(8, .int (x8 + (1 : Int32))), (5, .long x5), (7, .int s0), (0, .ref a_m), (1, .int x1), (2, .int x2), (3, .int x3), (4, .int x4), (9, .long x9)]) hx hb dX10_may_115 hl (k := 7) rfl rfl (by decide) rfl (fun ls hl => ?_)
    refine lv_goto (tgt := 54) hx hb dX10_may_118 (by decide) ?_
    exact hrec54 _ _ _ hf _ _  hP hD hS _ (lv_sub hl [3, 4, 5, 6, 7, 1, 2, 0] rfl)
  · have hf := (if_neg c_12).symm.trans hf
    refine lv_lload hx hb dX10_may_106 (lv_at hl 8 rfl) ?_
    refine lv_goto (tgt := 113) hx hb dX10_may_108 (by decide) ?_
    refine lv_lstore (lv' := [(5, .long x9), (7, .int s0), (0, .ref a_m), (1, .int x1), (2, .int x2), (3, .int x3), (4, .int x4), (8, .int x8), (9, .long x9)]) hx hb dX10_may_113 hl (by decide) rfl (fun ls hl => ?_)
    refine lv_iinc (v := (x8 + (1 : Int32))) (lv' := [(8, .int (x8 + (1 : Int32))), (5, .long x9), (7, .int s0), (0, .ref a_m), (1, .int x1), (2, .int x2), (3, .int x3), (4, .int x4), (9, .long x9)]) hx hb dX10_may_115 hl (k := 7) rfl rfl (by decide) rfl (fun ls hl => ?_)
    refine lv_goto (tgt := 54) hx hb dX10_may_118 (by decide) ?_
    exact hrec54 _ _ _ hf _ _  hP hD hS _ (lv_sub hl [3, 4, 5, 6, 7, 1, 2, 0] rfl)
set_option maxHeartbeats 4000000 in
set_option maxRecDepth 100000 in
theorem w_X10_may_L54 {l : Launch} {D : va_G} {cI cJ : ClassId} {g : pa_GT} {a_m a_mt a_ml a_mr a_mx a_mf a_mg a_mw a_mh : Nat} {A : Nat → Prop} {p : Program} {e : Env} {s : State} {m : MethodId} {args : Array Value} {below : List Frame} {meth : Method} {c : Code} {x1 : Int32} {x2 : Int32} {x3 : Int32} {x4 : Int32} {v_m_thrown : Int32} {v_mt : Nat → Int64} {v_m_trace : Int64} {v_m_typed : Int32} {v_m_next : Int32} {v_m_token : Int32} {v_m_place : Int32} {v_m_value : Int32} {v_m_fault : Int32} {v_m_finds : Int32} {v_m_weeks : Int32} {v_m_rows : Int32} {v_m_cardPrice : Int32} {v_m_lotPrice : Int32} {v_m_sure : Int32} {v_m_up : Int64} {v_m_down : Int64} {o : Int32 × Int32} (X : pa_X cX10_may 12 (some .int) RX10 wsX10_may D cI cJ g A p s m args meth c)  : ∀ (n : Nat) (x5 : Int64) (x7 : Int32) (x8 : Int32), f_X10_may_L54 x1 x2 x3 x4 v_m_thrown v_mt n x5 x7 x8 = some o → ∀ (H : Heap) (locs : List Loc) , va_P D vwCl (wo_X10_may cI cJ a_m a_mt a_ml a_mr a_mx a_mf a_mg a_mw a_mh v_m_thrown v_m_trace v_m_typed v_m_next v_m_token v_m_place v_m_value v_m_fault v_m_finds v_m_weeks v_m_rows v_m_cardPrice v_m_lotPrice v_m_sure v_m_up v_m_down v_mt) H → va_D A (wo_X10_may cI cJ a_m a_mt a_ml a_mr a_mx a_mf a_mg a_mw a_mh v_m_thrown v_m_trace v_m_typed v_m_next v_m_token v_m_place v_m_value v_m_fault v_m_finds v_m_weeks v_m_rows v_m_cardPrice v_m_lotPrice v_m_sure v_m_up v_m_down v_mt) → va_S A s.heap H locs → ∀ (ls : Array Slot), lv_has ls 12 [(0, .ref a_m), (1, .int x1), (2, .int x2), (3, .int x3), (4, .int x4), (5, .long x5), (7, .int x7), (8, .int x8)] → W p l e (headSpec wsX10_may rm_X10_may).room s m args below meth c H locs 0 0 (MQ below (va_Qi (fun r (_ : Unit) => r = o.1) (pa_QB D A (wo_X10_may cI cJ a_m a_mt a_ml a_mr a_mx a_mf a_mg a_mw a_mh o.2 v_m_trace v_m_typed v_m_next v_m_token v_m_place v_m_value v_m_fault v_m_finds v_m_weeks v_m_rows v_m_cardPrice v_m_lotPrice v_m_sure v_m_up v_m_down v_mt)) A) args s 0 0 A) (F0 m 54 ls []) := by
  obtain ⟨hx, hb, hr, hml, hown, hts, hK, hA, hG, hlk⟩ := id X
  intro n
  induction n with
  | zero =>
    intro x5 x7 x8 hf
    have hf : (none : Option (Int32 × Int32)) = some o := hf
    cases hf
  | succ n hrec54 =>
    intro x5 x7 x8 hf H locs  hP hD hS ls hl
    have hf : f_X10_may_L54_body x1 x2 x3 x4 v_m_thrown v_mt (f_X10_may_L54 x1 x2 x3 x4 v_m_thrown v_mt n) x5 x7 x8 = some o := hf
    delta f_X10_may_L54_body at hf
    generalize hgr : f_X10_may_L54 x1 x2 x3 x4 v_m_thrown v_mt n = rec54 at hf hrec54
    refine lv_iload hx hb dX10_may_54 (lv_at hl 7 rfl) ?_
    refine lv_iload_n hx hb dX10_may_56 rfl (lv_at hl 1 rfl) ?_
    refine lv_icmp_gt (tgt := 121) hx hb dX10_may_57 (by decide) (fun c_13 => ?_) (fun c_13 => ?_)
    · have hf := (if_pos c_13).symm.trans hf
      refine lv_bipush (v := (-9 : Int32)) hx hb dX10_may_121 (by decide) ?_
      refine lv_istore (lv' := [(8, .int (-9 : Int32)), (0, .ref a_m), (1, .int x1), (2, .int x2), (3, .int x3), (4, .int x4), (5, .long x5), (7, .int x7)]) hx hb dX10_may_123 hl (by decide) rfl (fun ls hl => ?_)
      refine lv_bipush (v := (-9 : Int32)) hx hb dX10_may_125 (by decide) ?_
      refine lv_istore (lv' := [(9, .int (-9 : Int32)), (8, .int (-9 : Int32)), (0, .ref a_m), (1, .int x1), (2, .int x2), (3, .int x3), (4, .int x4), (5, .long x5), (7, .int x7)]) hx hb dX10_may_127 hl (by decide) rfl (fun ls hl => ?_)
      refine lv_iconst (v := (0 : Int32)) hx hb dX10_may_129 (by decide) ?_
      refine lv_istore (lv' := [(10, .int (0 : Int32)), (9, .int (-9 : Int32)), (8, .int (-9 : Int32)), (0, .ref a_m), (1, .int x1), (2, .int x2), (3, .int x3), (4, .int x4), (5, .long x5), (7, .int x7)]) hx hb dX10_may_130 hl (by decide) rfl (fun ls hl => ?_)
      exact w_X10_may_L132 X  _ _ _ _ hf _ _  hP hD hS _ (lv_sub hl [3, 4, 5, 6, 7, 8, 9, 2, 1, 0] rfl)
    · have hf := (if_neg c_13).symm.trans hf
      refine lv_aload_n hx hb dX10_may_60 rfl (lv_at hl 0 rfl) ?_
      refine lv_iload hx hb dX10_may_61 (lv_at hl 7 rfl) ?_
      refine lv_iload_n hx hb dX10_may_63 rfl (lv_at hl 3 rfl) ?_
      obtain ⟨u_14, hg_15, hf⟩ := pa_bd hf
      refine pa_kl (wc := (wo_X10_choose cI cJ a_m a_mt a_ml a_mr a_mx a_mf a_mg a_mw a_mh v_m_thrown v_m_trace v_m_typed v_m_next v_m_token v_m_place v_m_value v_m_fault v_m_finds v_m_weeks v_m_rows v_m_cardPrice v_m_lotPrice v_m_sure v_m_up v_m_down v_mt)) (wr := ([] : va_W)) (w1 := (wo_X10_choose cI cJ a_m a_mt a_ml a_mr a_mx a_mf a_mg a_mw a_mh v_m_thrown v_m_trace v_m_typed v_m_next v_m_token v_m_place v_m_value v_m_fault v_m_finds v_m_weeks v_m_rows v_m_cardPrice v_m_lotPrice v_m_sure v_m_up v_m_down v_mt)) (w2 := (wo_X10_may cI cJ a_m a_mt a_ml a_mr a_mx a_mf a_mg a_mw a_mh v_m_thrown v_m_trace v_m_typed v_m_next v_m_token v_m_place v_m_value v_m_fault v_m_finds v_m_weeks v_m_rows v_m_cardPrice v_m_lotPrice v_m_sure v_m_up v_m_down v_mt)) X hP hD hS [0, 1] [] [0, 1] rfl (pa_rV (As := [.int x8, .int x3]) (rest := []) (T := TX10) X hP hD hS [0, 1] rfl rfl (c_X10_choose hg_15 H.size) (cwV 2 hts gX10_may_X10_choose rfl rfl rfl (by decide +kernel) ⟨Nat.le_of_ble_eq_true rfl, Nat.le_of_ble_eq_true rfl⟩) (q0 := 0) rfl rfl rfl hl.1 rfl (Nat.le_of_ble_eq_true rfl) dX10_may_64 ⟨Nat.zero_le _, Nat.zero_le _⟩) rfl rfl (by decide) rfl rfl (fun H locs hP hD hS => ?_)
      refine lv_aload_n hx hb dX10_may_67 rfl (lv_at hl 0 rfl) ?_
      refine lv_iload_n hx hb dX10_may_68 rfl (lv_at hl 1 rfl) ?_
      refine lv_iload hx hb dX10_may_69 (lv_at hl 7 rfl) ?_
      refine lv_isub hx hb dX10_may_71 ?_
      refine lv_iload_n hx hb dX10_may_72 rfl (lv_at hl 2 rfl) ?_
      refine lv_iload_n hx hb dX10_may_73 rfl (lv_at hl 3 rfl) ?_
      refine lv_isub hx hb dX10_may_74 ?_
      obtain ⟨u_16, hg_17, hf⟩ := pa_bd hf
      refine pa_kl (wc := (wo_X10_choose cI cJ a_m a_mt a_ml a_mr a_mx a_mf a_mg a_mw a_mh v_m_thrown v_m_trace v_m_typed v_m_next v_m_token v_m_place v_m_value v_m_fault v_m_finds v_m_weeks v_m_rows v_m_cardPrice v_m_lotPrice v_m_sure v_m_up v_m_down v_mt)) (wr := ([] : va_W)) (w1 := (wo_X10_choose cI cJ a_m a_mt a_ml a_mr a_mx a_mf a_mg a_mw a_mh v_m_thrown v_m_trace v_m_typed v_m_next v_m_token v_m_place v_m_value v_m_fault v_m_finds v_m_weeks v_m_rows v_m_cardPrice v_m_lotPrice v_m_sure v_m_up v_m_down v_mt)) (w2 := (wo_X10_may cI cJ a_m a_mt a_ml a_mr a_mx a_mf a_mg a_mw a_mh v_m_thrown v_m_trace v_m_typed v_m_next v_m_token v_m_place v_m_value v_m_fault v_m_finds v_m_weeks v_m_rows v_m_cardPrice v_m_lotPrice v_m_sure v_m_up v_m_down v_mt)) X hP hD hS [0, 1] [] [0, 1] rfl (pa_rV (As := [.int (x1 - x8), .int (x2 - x3)]) (rest := [.long u_14]) (T := TX10) X hP hD hS [0, 1] rfl rfl (c_X10_choose hg_17 H.size) (cwV 2 hts gX10_may_X10_choose rfl rfl rfl (by decide +kernel) ⟨Nat.le_of_ble_eq_true rfl, Nat.le_of_ble_eq_true rfl⟩) (q0 := 0) rfl rfl rfl hl.1 rfl (Nat.le_of_ble_eq_true rfl) dX10_may_75 ⟨Nat.zero_le _, Nat.zero_le _⟩) rfl rfl (by decide) rfl rfl (fun H locs hP hD hS => ?_)
      refine lv_lmul hx hb dX10_may_78 ?_
      refine lv_lstore (lv' := [(9, .long (u_14 * u_16)), (0, .ref a_m), (1, .int x1), (2, .int x2), (3, .int x3), (4, .int x4), (5, .long x5), (7, .int x7), (8, .int x8)]) hx hb dX10_may_79 hl (by decide) rfl (fun ls hl => ?_)
      refine lv_lload hx hb dX10_may_81 (lv_at hl 0 rfl) ?_
      refine lv_lload hx hb dX10_may_83 (lv_at hl 6 rfl) ?_
      refine W.lcmp hx hb dX10_may_85 ?_
      refine lv_if_le (tgt := 94) hx hb dX10_may_86 (by decide) (fun c_18 => ?_) (fun c_18 => ?_)
      · have hf := (if_pos c_18).symm.trans hf
        refine lv_iload hx hb dX10_may_94 (lv_at hl 7 rfl) ?_
        exact w_X10_may_b96 X hrec54 hf hP hD hS (lv_sub hl [1, 2, 3, 4, 5, 6, 8, 0] rfl)
      · have hf := (if_neg c_18).symm.trans hf
        refine lv_iload hx hb dX10_may_89 (lv_at hl 8 rfl) ?_
        refine lv_goto (tgt := 96) hx hb dX10_may_91 (by decide) ?_
        exact w_X10_may_b96 X hrec54 hf hP hD hS (lv_sub hl [1, 2, 3, 4, 5, 6, 8, 0] rfl)
set_option maxHeartbeats 4000000 in
set_option maxRecDepth 100000 in
theorem w_X10_may_b0 {l : Launch} {D : va_G} {cI cJ : ClassId} {g : pa_GT} {a_m a_mt a_ml a_mr a_mx a_mf a_mg a_mw a_mh : Nat} {A : Nat → Prop} {p : Program} {e : Env} {s : State} {m : MethodId} {args : Array Value} {below : List Frame} {meth : Method} {c : Code} {x1 : Int32} {x2 : Int32} {x3 : Int32} {x4 : Int32} {v_mt : Nat → Int64} {v_m_thrown : Int32} {v_m_trace : Int64} {v_m_typed : Int32} {v_m_next : Int32} {v_m_token : Int32} {v_m_place : Int32} {v_m_value : Int32} {v_m_fault : Int32} {v_m_finds : Int32} {v_m_weeks : Int32} {v_m_rows : Int32} {v_m_cardPrice : Int32} {v_m_lotPrice : Int32} {v_m_sure : Int32} {v_m_up : Int64} {v_m_down : Int64} {o : Int32 × Int32} (X : pa_X cX10_may 12 (some .int) RX10 wsX10_may D cI cJ g A p s m args meth c)  (hf : f_X10_may x1 x2 x3 x4 v_mt = some o) {H : Heap} {locs : List Loc} (hP : va_P D vwCl (wo_X10_may cI cJ a_m a_mt a_ml a_mr a_mx a_mf a_mg a_mw a_mh v_m_thrown v_m_trace v_m_typed v_m_next v_m_token v_m_place v_m_value v_m_fault v_m_finds v_m_weeks v_m_rows v_m_cardPrice v_m_lotPrice v_m_sure v_m_up v_m_down v_mt) H) (hD : va_D A (wo_X10_may cI cJ a_m a_mt a_ml a_mr a_mx a_mf a_mg a_mw a_mh v_m_thrown v_m_trace v_m_typed v_m_next v_m_token v_m_place v_m_value v_m_fault v_m_finds v_m_weeks v_m_rows v_m_cardPrice v_m_lotPrice v_m_sure v_m_up v_m_down v_mt)) (hS : va_S A s.heap H locs) {ls : Array Slot} (hl : lv_has ls 12 [(0, .ref a_m), (1, .int x1), (2, .int x2), (3, .int x3), (4, .int x4)]) : W p l e (headSpec wsX10_may rm_X10_may).room s m args below meth c H locs 0 0 (MQ below (va_Qi (fun r (_ : Unit) => r = o.1) (pa_QB D A (wo_X10_may cI cJ a_m a_mt a_ml a_mr a_mx a_mf a_mg a_mw a_mh o.2 v_m_trace v_m_typed v_m_next v_m_token v_m_place v_m_value v_m_fault v_m_finds v_m_weeks v_m_rows v_m_cardPrice v_m_lotPrice v_m_sure v_m_up v_m_down v_mt)) A) args s 0 0 A) (F0 m 0 ls []) := by
  obtain ⟨hx, hb, hr, hml, hown, hts, hK, hA, hG, hlk⟩ := id X
  delta f_X10_may at hf
  refine lv_aload_n hx hb dX10_may_0 rfl (lv_at hl 0 rfl) ?_
  refine lv_iconst (v := (0 : Int32)) hx hb dX10_may_1 (by decide) ?_
  refine va_put (D := D) (ci := 9) (v := .int (0 : Int32)) (ty := .int) (C := RX10) (T := TX10) (N := 24) hx hb hts il_X10_may_X10 tyX10 tyX10_ok nmX10 hown hK hP hD hS 0 rfl rfl 0 (by decide) (hts _ fk_X10_may_1) (fun _ h9 => h9) rfl (tyX10_ok 0 (by decide)) rfl rfl (Nat.le_of_ble_eq_true rfl) dX10_may_2 (fun H locs hP hD hS => ?_)
  have hP : va_P D vwCl (wo_X10_may cI cJ a_m a_mt a_ml a_mr a_mx a_mf a_mg a_mw a_mh (0 : Int32) v_m_trace v_m_typed v_m_next v_m_token v_m_place v_m_value v_m_fault v_m_finds v_m_weeks v_m_rows v_m_cardPrice v_m_lotPrice v_m_sure v_m_up v_m_down v_mt) H := hP
  have hD : va_D A (wo_X10_may cI cJ a_m a_mt a_ml a_mr a_mx a_mf a_mg a_mw a_mh (0 : Int32) v_m_trace v_m_typed v_m_next v_m_token v_m_place v_m_value v_m_fault v_m_finds v_m_weeks v_m_rows v_m_cardPrice v_m_lotPrice v_m_sure v_m_up v_m_down v_mt) := hD
  refine lv_iload_n hx hb dX10_may_5 rfl (lv_at hl 1 rfl) ?_
  refine lv_iconst (v := (1 : Int32)) hx hb dX10_may_6 (by decide) ?_
  refine lv_bipush (v := (50 : Int32)) hx hb dX10_may_7 (by decide) ?_
  obtain ⟨u_19, hg_20, hf⟩ := pa_bd hf
  refine pa_ki (wc := ([] : va_W)) (wr := [(a_m, .inr (9, [.int (0 : Int32), .long v_m_trace, .ref a_mt, .ref a_ml, .ref a_mr, .ref a_mx, .int v_m_typed, .int v_m_next, .int v_m_token, .int v_m_place, .int v_m_value, .int v_m_fault, .int v_m_finds, .ref a_mf, .ref a_mg, .int v_m_weeks, .ref a_mw, .int v_m_rows, .ref a_mh, .int v_m_cardPrice, .int v_m_lotPrice, .int v_m_sure, .long v_m_up, .long v_m_down])), (a_mt, .inl (cJ, 2601, .inr (.inl v_mt)))]) (w1 := ([] : va_W)) (w2 := (wo_X10_may cI cJ a_m a_mt a_ml a_mr a_mx a_mf a_mg a_mw a_mh (0 : Int32) v_m_trace v_m_typed v_m_next v_m_token v_m_place v_m_value v_m_fault v_m_finds v_m_weeks v_m_rows v_m_cardPrice v_m_lotPrice v_m_sure v_m_up v_m_down v_mt)) X hP hD hS [] [0, 1] [0, 1] rfl (pa_rS (As := [.int x1, .int (1 : Int32), .int (50 : Int32)]) (rest := []) X hP hD hS [] rfl rfl (c_X10_in hg_20 H.size) (va_cwS 3 hts gX10_may_X10_in rfl rfl rfl (by decide +kernel) ⟨Nat.le_of_ble_eq_true rfl, Nat.le_of_ble_eq_true rfl⟩) rfl hl.1 rfl (Nat.le_of_ble_eq_true rfl) dX10_may_9 ⟨Nat.zero_le _, Nat.zero_le _⟩) rfl rfl (by decide) rfl rfl (fun H locs hP hD hS => ?_)
  refine lv_if_eq (tgt := 43) hx hb dX10_may_12 (by decide) (fun c_21 => ?_) (fun c_21 => ?_)
  · have hf := (if_pos c_21).symm.trans hf
    refine lv_iconst (v := (-1 : Int32)) hx hb dX10_may_43 (by decide) ?_
    obtain rfl := Option.some.inj hf
    exact pa_ei X hP hD hS dX10_may_44
  · have hf := (if_neg c_21).symm.trans hf
    refine lv_iload_n hx hb dX10_may_15 rfl (lv_at hl 2 rfl) ?_
    refine lv_iconst (v := (1 : Int32)) hx hb dX10_may_16 (by decide) ?_
    refine lv_iload_n hx hb dX10_may_17 rfl (lv_at hl 1 rfl) ?_
    obtain ⟨u_22, hg_23, hf⟩ := pa_bd hf
    refine pa_ki (wc := ([] : va_W)) (wr := [(a_m, .inr (9, [.int (0 : Int32), .long v_m_trace, .ref a_mt, .ref a_ml, .ref a_mr, .ref a_mx, .int v_m_typed, .int v_m_next, .int v_m_token, .int v_m_place, .int v_m_value, .int v_m_fault, .int v_m_finds, .ref a_mf, .ref a_mg, .int v_m_weeks, .ref a_mw, .int v_m_rows, .ref a_mh, .int v_m_cardPrice, .int v_m_lotPrice, .int v_m_sure, .long v_m_up, .long v_m_down])), (a_mt, .inl (cJ, 2601, .inr (.inl v_mt)))]) (w1 := ([] : va_W)) (w2 := (wo_X10_may cI cJ a_m a_mt a_ml a_mr a_mx a_mf a_mg a_mw a_mh (0 : Int32) v_m_trace v_m_typed v_m_next v_m_token v_m_place v_m_value v_m_fault v_m_finds v_m_weeks v_m_rows v_m_cardPrice v_m_lotPrice v_m_sure v_m_up v_m_down v_mt)) X hP hD hS [] [0, 1] [0, 1] rfl (pa_rS (As := [.int x2, .int (1 : Int32), .int x1]) (rest := []) X hP hD hS [] rfl rfl (c_X10_in hg_23 H.size) (va_cwS 3 hts gX10_may_X10_in rfl rfl rfl (by decide +kernel) ⟨Nat.le_of_ble_eq_true rfl, Nat.le_of_ble_eq_true rfl⟩) rfl hl.1 rfl (Nat.le_of_ble_eq_true rfl) dX10_may_18 ⟨Nat.zero_le _, Nat.zero_le _⟩) rfl rfl (by decide) rfl rfl (fun H locs hP hD hS => ?_)
    refine lv_if_eq (tgt := 43) hx hb dX10_may_21 (by decide) (fun c_24 => ?_) (fun c_24 => ?_)
    · have hf := (if_pos c_24).symm.trans hf
      refine lv_iconst (v := (-1 : Int32)) hx hb dX10_may_43 (by decide) ?_
      obtain rfl := Option.some.inj hf
      exact pa_ei X hP hD hS dX10_may_44
    · have hf := (if_neg c_24).symm.trans hf
      refine lv_iload_n hx hb dX10_may_24 rfl (lv_at hl 3 rfl) ?_
      refine lv_iconst (v := (0 : Int32)) hx hb dX10_may_25 (by decide) ?_
      refine lv_iload_n hx hb dX10_may_26 rfl (lv_at hl 2 rfl) ?_
      obtain ⟨u_25, hg_26, hf⟩ := pa_bd hf
      refine pa_ki (wc := ([] : va_W)) (wr := [(a_m, .inr (9, [.int (0 : Int32), .long v_m_trace, .ref a_mt, .ref a_ml, .ref a_mr, .ref a_mx, .int v_m_typed, .int v_m_next, .int v_m_token, .int v_m_place, .int v_m_value, .int v_m_fault, .int v_m_finds, .ref a_mf, .ref a_mg, .int v_m_weeks, .ref a_mw, .int v_m_rows, .ref a_mh, .int v_m_cardPrice, .int v_m_lotPrice, .int v_m_sure, .long v_m_up, .long v_m_down])), (a_mt, .inl (cJ, 2601, .inr (.inl v_mt)))]) (w1 := ([] : va_W)) (w2 := (wo_X10_may cI cJ a_m a_mt a_ml a_mr a_mx a_mf a_mg a_mw a_mh (0 : Int32) v_m_trace v_m_typed v_m_next v_m_token v_m_place v_m_value v_m_fault v_m_finds v_m_weeks v_m_rows v_m_cardPrice v_m_lotPrice v_m_sure v_m_up v_m_down v_mt)) X hP hD hS [] [0, 1] [0, 1] rfl (pa_rS (As := [.int x3, .int (0 : Int32), .int x2]) (rest := []) X hP hD hS [] rfl rfl (c_X10_in hg_26 H.size) (va_cwS 3 hts gX10_may_X10_in rfl rfl rfl (by decide +kernel) ⟨Nat.le_of_ble_eq_true rfl, Nat.le_of_ble_eq_true rfl⟩) rfl hl.1 rfl (Nat.le_of_ble_eq_true rfl) dX10_may_27 ⟨Nat.zero_le _, Nat.zero_le _⟩) rfl rfl (by decide) rfl rfl (fun H locs hP hD hS => ?_)
      refine lv_if_eq (tgt := 43) hx hb dX10_may_30 (by decide) (fun c_27 => ?_) (fun c_27 => ?_)
      · have hf := (if_pos c_27).symm.trans hf
        refine lv_iconst (v := (-1 : Int32)) hx hb dX10_may_43 (by decide) ?_
        obtain rfl := Option.some.inj hf
        exact pa_ei X hP hD hS dX10_may_44
      · have hf := (if_neg c_27).symm.trans hf
        refine lv_iload hx hb dX10_may_33 (lv_at hl 4 rfl) ?_
        refine lv_iconst (v := (0 : Int32)) hx hb dX10_may_35 (by decide) ?_
        refine lv_iconst (v := (2 : Int32)) hx hb dX10_may_36 (by decide) ?_
        obtain ⟨u_28, hg_29, hf⟩ := pa_bd hf
        refine pa_ki (wc := ([] : va_W)) (wr := [(a_m, .inr (9, [.int (0 : Int32), .long v_m_trace, .ref a_mt, .ref a_ml, .ref a_mr, .ref a_mx, .int v_m_typed, .int v_m_next, .int v_m_token, .int v_m_place, .int v_m_value, .int v_m_fault, .int v_m_finds, .ref a_mf, .ref a_mg, .int v_m_weeks, .ref a_mw, .int v_m_rows, .ref a_mh, .int v_m_cardPrice, .int v_m_lotPrice, .int v_m_sure, .long v_m_up, .long v_m_down])), (a_mt, .inl (cJ, 2601, .inr (.inl v_mt)))]) (w1 := ([] : va_W)) (w2 := (wo_X10_may cI cJ a_m a_mt a_ml a_mr a_mx a_mf a_mg a_mw a_mh (0 : Int32) v_m_trace v_m_typed v_m_next v_m_token v_m_place v_m_value v_m_fault v_m_finds v_m_weeks v_m_rows v_m_cardPrice v_m_lotPrice v_m_sure v_m_up v_m_down v_mt)) X hP hD hS [] [0, 1] [0, 1] rfl (pa_rS (As := [.int x4, .int (0 : Int32), .int (2 : Int32)]) (rest := []) X hP hD hS [] rfl rfl (c_X10_in hg_29 H.size) (va_cwS 3 hts gX10_may_X10_in rfl rfl rfl (by decide +kernel) ⟨Nat.le_of_ble_eq_true rfl, Nat.le_of_ble_eq_true rfl⟩) rfl hl.1 rfl (Nat.le_of_ble_eq_true rfl) dX10_may_37 ⟨Nat.zero_le _, Nat.zero_le _⟩) rfl rfl (by decide) rfl rfl (fun H locs hP hD hS => ?_)
        refine lv_if_ne (tgt := 45) hx hb dX10_may_40 (by decide) (fun c_30 => ?_) (fun c_30 => ?_)
        · have hf := (if_neg c_30).symm.trans hf
          refine lv_lconst (v := (0 : Int64)) hx hb dX10_may_45 (by decide) ?_
          refine lv_lstore (lv' := [(5, .long (0 : Int64)), (0, .ref a_m), (1, .int x1), (2, .int x2), (3, .int x3), (4, .int x4)]) hx hb dX10_may_46 hl (by decide) rfl (fun ls hl => ?_)
          refine lv_iconst (v := (0 : Int32)) hx hb dX10_may_48 (by decide) ?_
          refine lv_istore (lv' := [(7, .int (0 : Int32)), (5, .long (0 : Int64)), (0, .ref a_m), (1, .int x1), (2, .int x2), (3, .int x3), (4, .int x4)]) hx hb dX10_may_49 hl (by decide) rfl (fun ls hl => ?_)
          refine lv_iconst (v := (0 : Int32)) hx hb dX10_may_51 (by decide) ?_
          refine lv_istore (lv' := [(8, .int (0 : Int32)), (7, .int (0 : Int32)), (5, .long (0 : Int64)), (0, .ref a_m), (1, .int x1), (2, .int x2), (3, .int x3), (4, .int x4)]) hx hb dX10_may_52 hl (by decide) rfl (fun ls hl => ?_)
          exact w_X10_may_L54 X  _ _ _ _ hf _ _  hP hD hS _ (lv_sub hl [3, 4, 5, 6, 7, 2, 1, 0] rfl)
        · have hf := (if_pos c_30).symm.trans hf
          refine lv_iconst (v := (-1 : Int32)) hx hb dX10_may_43 (by decide) ?_
          obtain rfl := Option.some.inj hf
          exact pa_ei X hP hD hS dX10_may_44
set_option maxHeartbeats 4000000 in
set_option maxRecDepth 100000 in
theorem c_X10_may {l : Launch} {D : va_G} {cI cJ : ClassId} {g : pa_GT} {a_m a_mt a_ml a_mr a_mx a_mf a_mg a_mw a_mh : Nat} {x1 : Int32} {x2 : Int32} {x3 : Int32} {x4 : Int32} {v_m_thrown : Int32} {v_m_trace : Int64} {v_m_typed : Int32} {v_m_next : Int32} {v_m_token : Int32} {v_m_place : Int32} {v_m_value : Int32} {v_m_fault : Int32} {v_m_finds : Int32} {v_m_weeks : Int32} {v_m_rows : Int32} {v_m_cardPrice : Int32} {v_m_lotPrice : Int32} {v_m_sure : Int32} {v_m_up : Int64} {v_m_down : Int64} {v_mt : Nat → Int64} {o : Int32 × Int32} (hf : f_X10_may x1 x2 x3 x4 v_mt = some o) : pa_Mi l yX10_may wsX10_may rm_X10_may D cI cJ g [.ref a_m, .int x1, .int x2, .int x3, .int x4] (wo_X10_may cI cJ a_m a_mt a_ml a_mr a_mx a_mf a_mg a_mw a_mh v_m_thrown v_m_trace v_m_typed v_m_next v_m_token v_m_place v_m_value v_m_fault v_m_finds v_m_weeks v_m_rows v_m_cardPrice v_m_lotPrice v_m_sure v_m_up v_m_down v_mt) (wo_X10_may cI cJ a_m a_mt a_ml a_mr a_mx a_mf a_mg a_mw a_mh o.2 v_m_trace v_m_typed v_m_next v_m_token v_m_place v_m_value v_m_fault v_m_finds v_m_weeks v_m_rows v_m_cardPrice v_m_lotPrice v_m_sure v_m_up v_m_down v_mt) o.1 := by
  intro sz
  refine pa_met (cc := cX10_may) (maxL := 12) (ret := (some .int)) (lv := [(0, .ref a_m), (1, .int x1), (2, .int x2), (3, .int x3), (4, .int x4)]) (by decide) rfl (Nat.le_of_ble_eq_true rfl) rfl ?_
  intro p e s m below meth c X hsz hP hD ls hl
  subst hsz
  exact w_X10_may_b0 X hf hP hD va_S.rf hl
abbrev wo_X10_shadow (cI cJ : ClassId) (a_m a_mt a_ml a_mr a_mx a_mf a_mg a_mw a_mh : Nat) (v_m_thrown : Int32) (v_m_trace : Int64) (v_m_typed : Int32) (v_m_next : Int32) (v_m_token : Int32) (v_m_place : Int32) (v_m_value : Int32) (v_m_fault : Int32) (v_m_finds : Int32) (v_m_weeks : Int32) (v_m_rows : Int32) (v_m_cardPrice : Int32) (v_m_lotPrice : Int32) (v_m_sure : Int32) (v_m_up : Int64) (v_m_down : Int64) (v_mt : Nat → Int64) (v_ml : Nat → Int32) (v_mr : Nat → Int32) : va_W := [(a_m, .inr (9, [.int v_m_thrown, .long v_m_trace, .ref a_mt, .ref a_ml, .ref a_mr, .ref a_mx, .int v_m_typed, .int v_m_next, .int v_m_token, .int v_m_place, .int v_m_value, .int v_m_fault, .int v_m_finds, .ref a_mf, .ref a_mg, .int v_m_weeks, .ref a_mw, .int v_m_rows, .ref a_mh, .int v_m_cardPrice, .int v_m_lotPrice, .int v_m_sure, .long v_m_up, .long v_m_down])), (a_mt, .inl (cJ, 2601, .inr (.inl v_mt))), (a_ml, .inl (cI, 32, .inl v_ml)), (a_mr, .inl (cI, 8, .inl v_mr))]
abbrev rm_X10_shadow : Room := { frames := 2, cells := 0, slots := 0, locals := 50 }
theorem il_X10_shadow_X10 : ∀ w ∈ wsX100, w ∈ wsX10_shadow := by decide +kernel
theorem fk_X10_shadow_0 : Cond.fieldLink RX10 45 "PostedAsksModel" "thrown" "I" ∈ wsX10_shadow := by decide +kernel
theorem fk_X10_shadow_1 : Cond.constantLong RX10 74 (-1000000000000000000) ∈ wsX10_shadow := by decide +kernel
def f_X10_shadow (x1 : Int32) (x2 : Int32) (x3 : Int32) (x4 : Int32) (v_mt : Nat → Int64) (v_ml : Nat → Int32) (v_mr : Nat → Int32) : Option (Int64 × Int32) :=
  (f_X10_isLand x1).bind fun u_1 =>
  if u_1 = 0 then
    some ((-1000000000000000000 : Int64), (0 : Int32))
  else
    (f_X10_in x3 (0 : Int32) (100 : Int32)).bind fun u_4 =>
    if u_4 = 0 then
      some ((-1000000000000000000 : Int64), (0 : Int32))
    else
      (f_X10_in x4 (0 : Int32) (1 : Int32)).bind fun u_7 =>
      if u_7 = 0 then
        some ((-1000000000000000000 : Int64), (0 : Int32))
      else
        (f_X10_back x1 (255 : Int32) v_ml v_mr).bind fun u_10 =>
        (f_X10_in x2 (1 : Int32) u_10).bind fun u_12 =>
        if u_12 = 0 then
          some ((-1000000000000000000 : Int64), (0 : Int32))
        else
          if x4 = 0 then
            (f_X10_back x1 (170 : Int32) v_ml v_mr).bind fun u_18 =>
            (f_X10_waysOf u_10 u_18 x2 x3 v_mt).bind fun u_20 =>
            some (u_20, (0 : Int32))
          else
            (f_X10_choose u_10 x2 v_mt).bind fun u_16 =>
            some (u_16, (0 : Int32))
set_option maxHeartbeats 4000000 in
set_option maxRecDepth 100000 in
theorem w_X10_shadow_b0 {l : Launch} {D : va_G} {cI cJ : ClassId} {g : pa_GT} {a_m a_mt a_ml a_mr a_mx a_mf a_mg a_mw a_mh : Nat} {A : Nat → Prop} {p : Program} {e : Env} {s : State} {m : MethodId} {args : Array Value} {below : List Frame} {meth : Method} {c : Code} {x1 : Int32} {x2 : Int32} {x3 : Int32} {x4 : Int32} {v_mt : Nat → Int64} {v_ml : Nat → Int32} {v_mr : Nat → Int32} {v_m_thrown : Int32} {v_m_trace : Int64} {v_m_typed : Int32} {v_m_next : Int32} {v_m_token : Int32} {v_m_place : Int32} {v_m_value : Int32} {v_m_fault : Int32} {v_m_finds : Int32} {v_m_weeks : Int32} {v_m_rows : Int32} {v_m_cardPrice : Int32} {v_m_lotPrice : Int32} {v_m_sure : Int32} {v_m_up : Int64} {v_m_down : Int64} {o : Int64 × Int32} (X : pa_X cX10_shadow 6 (some .long) RX10 wsX10_shadow D cI cJ g A p s m args meth c)  (hf : f_X10_shadow x1 x2 x3 x4 v_mt v_ml v_mr = some o) {H : Heap} {locs : List Loc} (hP : va_P D vwCl (wo_X10_shadow cI cJ a_m a_mt a_ml a_mr a_mx a_mf a_mg a_mw a_mh v_m_thrown v_m_trace v_m_typed v_m_next v_m_token v_m_place v_m_value v_m_fault v_m_finds v_m_weeks v_m_rows v_m_cardPrice v_m_lotPrice v_m_sure v_m_up v_m_down v_mt v_ml v_mr) H) (hD : va_D A (wo_X10_shadow cI cJ a_m a_mt a_ml a_mr a_mx a_mf a_mg a_mw a_mh v_m_thrown v_m_trace v_m_typed v_m_next v_m_token v_m_place v_m_value v_m_fault v_m_finds v_m_weeks v_m_rows v_m_cardPrice v_m_lotPrice v_m_sure v_m_up v_m_down v_mt v_ml v_mr)) (hS : va_S A s.heap H locs) {ls : Array Slot} (hl : lv_has ls 6 [(0, .ref a_m), (1, .int x1), (2, .int x2), (3, .int x3), (4, .int x4)]) : W p l e (headSpec wsX10_shadow rm_X10_shadow).room s m args below meth c H locs 0 0 (MQ below (va_Ql (fun r (_ : Unit) => r = o.1) (pa_QB D A (wo_X10_shadow cI cJ a_m a_mt a_ml a_mr a_mx a_mf a_mg a_mw a_mh o.2 v_m_trace v_m_typed v_m_next v_m_token v_m_place v_m_value v_m_fault v_m_finds v_m_weeks v_m_rows v_m_cardPrice v_m_lotPrice v_m_sure v_m_up v_m_down v_mt v_ml v_mr)) A) args s 0 0 A) (F0 m 0 ls []) := by
  obtain ⟨hx, hb, hr, hml, hown, hts, hK, hA, hG, hlk⟩ := id X
  delta f_X10_shadow at hf
  refine lv_aload_n hx hb dX10_shadow_0 rfl (lv_at hl 0 rfl) ?_
  refine lv_iconst (v := (0 : Int32)) hx hb dX10_shadow_1 (by decide) ?_
  refine va_put (D := D) (ci := 9) (v := .int (0 : Int32)) (ty := .int) (C := RX10) (T := TX10) (N := 24) hx hb hts il_X10_shadow_X10 tyX10 tyX10_ok nmX10 hown hK hP hD hS 0 rfl rfl 0 (by decide) (hts _ fk_X10_shadow_0) (fun _ h9 => h9) rfl (tyX10_ok 0 (by decide)) rfl rfl (Nat.le_of_ble_eq_true rfl) dX10_shadow_2 (fun H locs hP hD hS => ?_)
  have hP : va_P D vwCl (wo_X10_shadow cI cJ a_m a_mt a_ml a_mr a_mx a_mf a_mg a_mw a_mh (0 : Int32) v_m_trace v_m_typed v_m_next v_m_token v_m_place v_m_value v_m_fault v_m_finds v_m_weeks v_m_rows v_m_cardPrice v_m_lotPrice v_m_sure v_m_up v_m_down v_mt v_ml v_mr) H := hP
  have hD : va_D A (wo_X10_shadow cI cJ a_m a_mt a_ml a_mr a_mx a_mf a_mg a_mw a_mh (0 : Int32) v_m_trace v_m_typed v_m_next v_m_token v_m_place v_m_value v_m_fault v_m_finds v_m_weeks v_m_rows v_m_cardPrice v_m_lotPrice v_m_sure v_m_up v_m_down v_mt v_ml v_mr) := hD
  refine lv_iload_n hx hb dX10_shadow_5 rfl (lv_at hl 1 rfl) ?_
  obtain ⟨u_1, hg_2, hf⟩ := pa_bd hf
  refine pa_ki (wc := ([] : va_W)) (wr := [(a_m, .inr (9, [.int (0 : Int32), .long v_m_trace, .ref a_mt, .ref a_ml, .ref a_mr, .ref a_mx, .int v_m_typed, .int v_m_next, .int v_m_token, .int v_m_place, .int v_m_value, .int v_m_fault, .int v_m_finds, .ref a_mf, .ref a_mg, .int v_m_weeks, .ref a_mw, .int v_m_rows, .ref a_mh, .int v_m_cardPrice, .int v_m_lotPrice, .int v_m_sure, .long v_m_up, .long v_m_down])), (a_mt, .inl (cJ, 2601, .inr (.inl v_mt))), (a_ml, .inl (cI, 32, .inl v_ml)), (a_mr, .inl (cI, 8, .inl v_mr))]) (w1 := ([] : va_W)) (w2 := (wo_X10_shadow cI cJ a_m a_mt a_ml a_mr a_mx a_mf a_mg a_mw a_mh (0 : Int32) v_m_trace v_m_typed v_m_next v_m_token v_m_place v_m_value v_m_fault v_m_finds v_m_weeks v_m_rows v_m_cardPrice v_m_lotPrice v_m_sure v_m_up v_m_down v_mt v_ml v_mr)) X hP hD hS [] [0, 1, 2, 3] [0, 1, 2, 3] rfl (pa_rS (As := [.int x1]) (rest := []) X hP hD hS [] rfl rfl (c_X10_isLand hg_2 H.size) (va_cwS 1 hts gX10_shadow_X10_isLand rfl rfl rfl (by decide +kernel) ⟨Nat.le_of_ble_eq_true rfl, Nat.le_of_ble_eq_true rfl⟩) rfl hl.1 rfl (Nat.le_of_ble_eq_true rfl) dX10_shadow_6 ⟨Nat.zero_le _, Nat.zero_le _⟩) rfl rfl (by decide) rfl rfl (fun H locs hP hD hS => ?_)
  refine lv_if_eq (tgt := 32) hx hb dX10_shadow_9 (by decide) (fun c_3 => ?_) (fun c_3 => ?_)
  · have hf := (if_pos c_3).symm.trans hf
    refine lv_ldc2 (v := (-1000000000000000000 : Int64)) hx hb hown (hts _ fk_X10_shadow_1) dX10_shadow_32 ?_
    obtain rfl := Option.some.inj hf
    exact pa_el X hP hD hS dX10_shadow_35
  · have hf := (if_neg c_3).symm.trans hf
    refine lv_iload_n hx hb dX10_shadow_12 rfl (lv_at hl 3 rfl) ?_
    refine lv_iconst (v := (0 : Int32)) hx hb dX10_shadow_13 (by decide) ?_
    refine lv_bipush (v := (100 : Int32)) hx hb dX10_shadow_14 (by decide) ?_
    obtain ⟨u_4, hg_5, hf⟩ := pa_bd hf
    refine pa_ki (wc := ([] : va_W)) (wr := [(a_m, .inr (9, [.int (0 : Int32), .long v_m_trace, .ref a_mt, .ref a_ml, .ref a_mr, .ref a_mx, .int v_m_typed, .int v_m_next, .int v_m_token, .int v_m_place, .int v_m_value, .int v_m_fault, .int v_m_finds, .ref a_mf, .ref a_mg, .int v_m_weeks, .ref a_mw, .int v_m_rows, .ref a_mh, .int v_m_cardPrice, .int v_m_lotPrice, .int v_m_sure, .long v_m_up, .long v_m_down])), (a_mt, .inl (cJ, 2601, .inr (.inl v_mt))), (a_ml, .inl (cI, 32, .inl v_ml)), (a_mr, .inl (cI, 8, .inl v_mr))]) (w1 := ([] : va_W)) (w2 := (wo_X10_shadow cI cJ a_m a_mt a_ml a_mr a_mx a_mf a_mg a_mw a_mh (0 : Int32) v_m_trace v_m_typed v_m_next v_m_token v_m_place v_m_value v_m_fault v_m_finds v_m_weeks v_m_rows v_m_cardPrice v_m_lotPrice v_m_sure v_m_up v_m_down v_mt v_ml v_mr)) X hP hD hS [] [0, 1, 2, 3] [0, 1, 2, 3] rfl (pa_rS (As := [.int x3, .int (0 : Int32), .int (100 : Int32)]) (rest := []) X hP hD hS [] rfl rfl (c_X10_in hg_5 H.size) (va_cwS 3 hts gX10_shadow_X10_in rfl rfl rfl (by decide +kernel) ⟨Nat.le_of_ble_eq_true rfl, Nat.le_of_ble_eq_true rfl⟩) rfl hl.1 rfl (Nat.le_of_ble_eq_true rfl) dX10_shadow_16 ⟨Nat.zero_le _, Nat.zero_le _⟩) rfl rfl (by decide) rfl rfl (fun H locs hP hD hS => ?_)
    refine lv_if_eq (tgt := 32) hx hb dX10_shadow_19 (by decide) (fun c_6 => ?_) (fun c_6 => ?_)
    · have hf := (if_pos c_6).symm.trans hf
      refine lv_ldc2 (v := (-1000000000000000000 : Int64)) hx hb hown (hts _ fk_X10_shadow_1) dX10_shadow_32 ?_
      obtain rfl := Option.some.inj hf
      exact pa_el X hP hD hS dX10_shadow_35
    · have hf := (if_neg c_6).symm.trans hf
      refine lv_iload hx hb dX10_shadow_22 (lv_at hl 4 rfl) ?_
      refine lv_iconst (v := (0 : Int32)) hx hb dX10_shadow_24 (by decide) ?_
      refine lv_iconst (v := (1 : Int32)) hx hb dX10_shadow_25 (by decide) ?_
      obtain ⟨u_7, hg_8, hf⟩ := pa_bd hf
      refine pa_ki (wc := ([] : va_W)) (wr := [(a_m, .inr (9, [.int (0 : Int32), .long v_m_trace, .ref a_mt, .ref a_ml, .ref a_mr, .ref a_mx, .int v_m_typed, .int v_m_next, .int v_m_token, .int v_m_place, .int v_m_value, .int v_m_fault, .int v_m_finds, .ref a_mf, .ref a_mg, .int v_m_weeks, .ref a_mw, .int v_m_rows, .ref a_mh, .int v_m_cardPrice, .int v_m_lotPrice, .int v_m_sure, .long v_m_up, .long v_m_down])), (a_mt, .inl (cJ, 2601, .inr (.inl v_mt))), (a_ml, .inl (cI, 32, .inl v_ml)), (a_mr, .inl (cI, 8, .inl v_mr))]) (w1 := ([] : va_W)) (w2 := (wo_X10_shadow cI cJ a_m a_mt a_ml a_mr a_mx a_mf a_mg a_mw a_mh (0 : Int32) v_m_trace v_m_typed v_m_next v_m_token v_m_place v_m_value v_m_fault v_m_finds v_m_weeks v_m_rows v_m_cardPrice v_m_lotPrice v_m_sure v_m_up v_m_down v_mt v_ml v_mr)) X hP hD hS [] [0, 1, 2, 3] [0, 1, 2, 3] rfl (pa_rS (As := [.int x4, .int (0 : Int32), .int (1 : Int32)]) (rest := []) X hP hD hS [] rfl rfl (c_X10_in hg_8 H.size) (va_cwS 3 hts gX10_shadow_X10_in rfl rfl rfl (by decide +kernel) ⟨Nat.le_of_ble_eq_true rfl, Nat.le_of_ble_eq_true rfl⟩) rfl hl.1 rfl (Nat.le_of_ble_eq_true rfl) dX10_shadow_26 ⟨Nat.zero_le _, Nat.zero_le _⟩) rfl rfl (by decide) rfl rfl (fun H locs hP hD hS => ?_)
      refine lv_if_ne (tgt := 36) hx hb dX10_shadow_29 (by decide) (fun c_9 => ?_) (fun c_9 => ?_)
      · have hf := (if_neg c_9).symm.trans hf
        refine lv_aload_n hx hb dX10_shadow_36 rfl (lv_at hl 0 rfl) ?_
        refine lv_iload_n hx hb dX10_shadow_37 rfl (lv_at hl 1 rfl) ?_
        refine lv_sipush (v := (255 : Int32)) hx hb dX10_shadow_38 (by decide) ?_
        obtain ⟨u_10, hg_11, hf⟩ := pa_bd hf
        refine pa_ki (wc := (wo_X10_back cI cJ a_m a_mt a_ml a_mr a_mx a_mf a_mg a_mw a_mh (0 : Int32) v_m_trace v_m_typed v_m_next v_m_token v_m_place v_m_value v_m_fault v_m_finds v_m_weeks v_m_rows v_m_cardPrice v_m_lotPrice v_m_sure v_m_up v_m_down v_ml v_mr)) (wr := [(a_mt, .inl (cJ, 2601, .inr (.inl v_mt)))]) (w1 := (wo_X10_back cI cJ a_m a_mt a_ml a_mr a_mx a_mf a_mg a_mw a_mh (0 : Int32) v_m_trace v_m_typed v_m_next v_m_token v_m_place v_m_value v_m_fault v_m_finds v_m_weeks v_m_rows v_m_cardPrice v_m_lotPrice v_m_sure v_m_up v_m_down v_ml v_mr)) (w2 := (wo_X10_shadow cI cJ a_m a_mt a_ml a_mr a_mx a_mf a_mg a_mw a_mh (0 : Int32) v_m_trace v_m_typed v_m_next v_m_token v_m_place v_m_value v_m_fault v_m_finds v_m_weeks v_m_rows v_m_cardPrice v_m_lotPrice v_m_sure v_m_up v_m_down v_mt v_ml v_mr)) X hP hD hS [0, 2, 3] [1] [1, 0, 2, 3] rfl (pa_rV (As := [.int x1, .int (255 : Int32)]) (rest := []) (T := TX10) X hP hD hS [0, 2, 3] rfl rfl (c_X10_back hg_11 H.size) (cwV 2 hts gX10_shadow_X10_back rfl rfl rfl (by decide +kernel) ⟨Nat.le_of_ble_eq_true rfl, Nat.le_of_ble_eq_true rfl⟩) (q0 := 0) rfl rfl rfl hl.1 rfl (Nat.le_of_ble_eq_true rfl) dX10_shadow_41 ⟨Nat.zero_le _, Nat.zero_le _⟩) rfl rfl (by decide) rfl rfl (fun H locs hP hD hS => ?_)
        refine lv_istore (lv' := [(5, .int u_10), (0, .ref a_m), (1, .int x1), (2, .int x2), (3, .int x3), (4, .int x4)]) hx hb dX10_shadow_44 hl (by decide) rfl (fun ls hl => ?_)
        refine lv_iload_n hx hb dX10_shadow_46 rfl (lv_at hl 3 rfl) ?_
        refine lv_iconst (v := (1 : Int32)) hx hb dX10_shadow_47 (by decide) ?_
        refine lv_iload hx hb dX10_shadow_48 (lv_at hl 0 rfl) ?_
        obtain ⟨u_12, hg_13, hf⟩ := pa_bd hf
        refine pa_ki (wc := ([] : va_W)) (wr := [(a_m, .inr (9, [.int (0 : Int32), .long v_m_trace, .ref a_mt, .ref a_ml, .ref a_mr, .ref a_mx, .int v_m_typed, .int v_m_next, .int v_m_token, .int v_m_place, .int v_m_value, .int v_m_fault, .int v_m_finds, .ref a_mf, .ref a_mg, .int v_m_weeks, .ref a_mw, .int v_m_rows, .ref a_mh, .int v_m_cardPrice, .int v_m_lotPrice, .int v_m_sure, .long v_m_up, .long v_m_down])), (a_mt, .inl (cJ, 2601, .inr (.inl v_mt))), (a_ml, .inl (cI, 32, .inl v_ml)), (a_mr, .inl (cI, 8, .inl v_mr))]) (w1 := ([] : va_W)) (w2 := (wo_X10_shadow cI cJ a_m a_mt a_ml a_mr a_mx a_mf a_mg a_mw a_mh (0 : Int32) v_m_trace v_m_typed v_m_next v_m_token v_m_place v_m_value v_m_fault v_m_finds v_m_weeks v_m_rows v_m_cardPrice v_m_lotPrice v_m_sure v_m_up v_m_down v_mt v_ml v_mr)) X hP hD hS [] [0, 1, 2, 3] [0, 1, 2, 3] rfl (pa_rS (As := [.int x2, .int (1 : Int32), .int u_10]) (rest := []) X hP hD hS [] rfl rfl (c_X10_in hg_13 H.size) (va_cwS 3 hts gX10_shadow_X10_in rfl rfl rfl (by decide +kernel) ⟨Nat.le_of_ble_eq_true rfl, Nat.le_of_ble_eq_true rfl⟩) rfl hl.1 rfl (Nat.le_of_ble_eq_true rfl) dX10_shadow_50 ⟨Nat.zero_le _, Nat.zero_le _⟩) rfl rfl (by decide) rfl rfl (fun H locs hP hD hS => ?_)
        refine lv_if_ne (tgt := 60) hx hb dX10_shadow_53 (by decide) (fun c_14 => ?_) (fun c_14 => ?_)
        · have hf := (if_neg c_14).symm.trans hf
          refine lv_iload hx hb dX10_shadow_60 (lv_at hl 5 rfl) ?_
          refine lv_if_ne (tgt := 84) hx hb dX10_shadow_62 (by decide) (fun c_15 => ?_) (fun c_15 => ?_)
          · have hf := (if_neg c_15).symm.trans hf
            refine lv_aload_n hx hb dX10_shadow_84 rfl (lv_at hl 1 rfl) ?_
            refine lv_iload hx hb dX10_shadow_85 (lv_at hl 0 rfl) ?_
            refine lv_iload_n hx hb dX10_shadow_87 rfl (lv_at hl 3 rfl) ?_
            obtain ⟨u_16, hg_17, hf⟩ := pa_bd hf
            refine pa_kl (wc := (wo_X10_choose cI cJ a_m a_mt a_ml a_mr a_mx a_mf a_mg a_mw a_mh (0 : Int32) v_m_trace v_m_typed v_m_next v_m_token v_m_place v_m_value v_m_fault v_m_finds v_m_weeks v_m_rows v_m_cardPrice v_m_lotPrice v_m_sure v_m_up v_m_down v_mt)) (wr := [(a_ml, .inl (cI, 32, .inl v_ml)), (a_mr, .inl (cI, 8, .inl v_mr))]) (w1 := (wo_X10_choose cI cJ a_m a_mt a_ml a_mr a_mx a_mf a_mg a_mw a_mh (0 : Int32) v_m_trace v_m_typed v_m_next v_m_token v_m_place v_m_value v_m_fault v_m_finds v_m_weeks v_m_rows v_m_cardPrice v_m_lotPrice v_m_sure v_m_up v_m_down v_mt)) (w2 := (wo_X10_shadow cI cJ a_m a_mt a_ml a_mr a_mx a_mf a_mg a_mw a_mh (0 : Int32) v_m_trace v_m_typed v_m_next v_m_token v_m_place v_m_value v_m_fault v_m_finds v_m_weeks v_m_rows v_m_cardPrice v_m_lotPrice v_m_sure v_m_up v_m_down v_mt v_ml v_mr)) X hP hD hS [0, 1] [2, 3] [2, 3, 0, 1] rfl (pa_rV (As := [.int u_10, .int x2]) (rest := []) (T := TX10) X hP hD hS [0, 1] rfl rfl (c_X10_choose hg_17 H.size) (cwV 2 hts gX10_shadow_X10_choose rfl rfl rfl (by decide +kernel) ⟨Nat.le_of_ble_eq_true rfl, Nat.le_of_ble_eq_true rfl⟩) (q0 := 0) rfl rfl rfl hl.1 rfl (Nat.le_of_ble_eq_true rfl) dX10_shadow_88 ⟨Nat.zero_le _, Nat.zero_le _⟩) rfl rfl (by decide) rfl rfl (fun H locs hP hD hS => ?_)
            obtain rfl := Option.some.inj hf
            exact pa_el X hP hD hS dX10_shadow_91
          · have hf := (if_pos c_15).symm.trans hf
            refine lv_aload_n hx hb dX10_shadow_65 rfl (lv_at hl 1 rfl) ?_
            refine lv_iload hx hb dX10_shadow_66 (lv_at hl 0 rfl) ?_
            refine lv_aload_n hx hb dX10_shadow_68 rfl (lv_at hl 1 rfl) ?_
            refine lv_iload_n hx hb dX10_shadow_69 rfl (lv_at hl 2 rfl) ?_
            refine lv_sipush (v := (170 : Int32)) hx hb dX10_shadow_70 (by decide) ?_
            obtain ⟨u_18, hg_19, hf⟩ := pa_bd hf
            refine pa_ki (wc := (wo_X10_back cI cJ a_m a_mt a_ml a_mr a_mx a_mf a_mg a_mw a_mh (0 : Int32) v_m_trace v_m_typed v_m_next v_m_token v_m_place v_m_value v_m_fault v_m_finds v_m_weeks v_m_rows v_m_cardPrice v_m_lotPrice v_m_sure v_m_up v_m_down v_ml v_mr)) (wr := [(a_mt, .inl (cJ, 2601, .inr (.inl v_mt)))]) (w1 := (wo_X10_back cI cJ a_m a_mt a_ml a_mr a_mx a_mf a_mg a_mw a_mh (0 : Int32) v_m_trace v_m_typed v_m_next v_m_token v_m_place v_m_value v_m_fault v_m_finds v_m_weeks v_m_rows v_m_cardPrice v_m_lotPrice v_m_sure v_m_up v_m_down v_ml v_mr)) (w2 := (wo_X10_shadow cI cJ a_m a_mt a_ml a_mr a_mx a_mf a_mg a_mw a_mh (0 : Int32) v_m_trace v_m_typed v_m_next v_m_token v_m_place v_m_value v_m_fault v_m_finds v_m_weeks v_m_rows v_m_cardPrice v_m_lotPrice v_m_sure v_m_up v_m_down v_mt v_ml v_mr)) X hP hD hS [0, 2, 3] [1] [1, 0, 2, 3] rfl (pa_rV (As := [.int x1, .int (170 : Int32)]) (rest := [.int u_10, .ref a_m]) (T := TX10) X hP hD hS [0, 2, 3] rfl rfl (c_X10_back hg_19 H.size) (cwV 2 hts gX10_shadow_X10_back rfl rfl rfl (by decide +kernel) ⟨Nat.le_of_ble_eq_true rfl, Nat.le_of_ble_eq_true rfl⟩) (q0 := 0) rfl rfl rfl hl.1 rfl (Nat.le_of_ble_eq_true rfl) dX10_shadow_73 ⟨Nat.zero_le _, Nat.zero_le _⟩) rfl rfl (by decide) rfl rfl (fun H locs hP hD hS => ?_)
            refine lv_iload_n hx hb dX10_shadow_76 rfl (lv_at hl 3 rfl) ?_
            refine lv_iload_n hx hb dX10_shadow_77 rfl (lv_at hl 4 rfl) ?_
            obtain ⟨u_20, hg_21, hf⟩ := pa_bd hf
            refine pa_kl (wc := (wo_X10_waysOf cI cJ a_m a_mt a_ml a_mr a_mx a_mf a_mg a_mw a_mh (0 : Int32) v_m_trace v_m_typed v_m_next v_m_token v_m_place v_m_value v_m_fault v_m_finds v_m_weeks v_m_rows v_m_cardPrice v_m_lotPrice v_m_sure v_m_up v_m_down v_mt)) (wr := [(a_ml, .inl (cI, 32, .inl v_ml)), (a_mr, .inl (cI, 8, .inl v_mr))]) (w1 := (wo_X10_waysOf cI cJ a_m a_mt a_ml a_mr a_mx a_mf a_mg a_mw a_mh (0 : Int32) v_m_trace v_m_typed v_m_next v_m_token v_m_place v_m_value v_m_fault v_m_finds v_m_weeks v_m_rows v_m_cardPrice v_m_lotPrice v_m_sure v_m_up v_m_down v_mt)) (w2 := (wo_X10_shadow cI cJ a_m a_mt a_ml a_mr a_mx a_mf a_mg a_mw a_mh (0 : Int32) v_m_trace v_m_typed v_m_next v_m_token v_m_place v_m_value v_m_fault v_m_finds v_m_weeks v_m_rows v_m_cardPrice v_m_lotPrice v_m_sure v_m_up v_m_down v_mt v_ml v_mr)) X hP hD hS [0, 1] [2, 3] [2, 3, 0, 1] rfl (pa_rV (As := [.int u_10, .int u_18, .int x2, .int x3]) (rest := []) (T := TX10) X hP hD hS [0, 1] rfl rfl (c_X10_waysOf hg_21 H.size) (cwV 4 hts gX10_shadow_X10_waysOf rfl rfl rfl (by decide +kernel) ⟨Nat.le_of_ble_eq_true rfl, Nat.le_of_ble_eq_true rfl⟩) (q0 := 0) rfl rfl rfl hl.1 rfl (Nat.le_of_ble_eq_true rfl) dX10_shadow_78 ⟨Nat.zero_le _, Nat.zero_le _⟩) rfl rfl (by decide) rfl rfl (fun H locs hP hD hS => ?_)
            refine lv_goto (tgt := 91) hx hb dX10_shadow_81 (by decide) ?_
            obtain rfl := Option.some.inj hf
            exact pa_el X hP hD hS dX10_shadow_91
        · have hf := (if_pos c_14).symm.trans hf
          refine lv_ldc2 (v := (-1000000000000000000 : Int64)) hx hb hown (hts _ fk_X10_shadow_1) dX10_shadow_56 ?_
          obtain rfl := Option.some.inj hf
          exact pa_el X hP hD hS dX10_shadow_59
      · have hf := (if_pos c_9).symm.trans hf
        refine lv_ldc2 (v := (-1000000000000000000 : Int64)) hx hb hown (hts _ fk_X10_shadow_1) dX10_shadow_32 ?_
        obtain rfl := Option.some.inj hf
        exact pa_el X hP hD hS dX10_shadow_35
set_option maxHeartbeats 4000000 in
set_option maxRecDepth 100000 in
theorem c_X10_shadow {l : Launch} {D : va_G} {cI cJ : ClassId} {g : pa_GT} {a_m a_mt a_ml a_mr a_mx a_mf a_mg a_mw a_mh : Nat} {x1 : Int32} {x2 : Int32} {x3 : Int32} {x4 : Int32} {v_m_thrown : Int32} {v_m_trace : Int64} {v_m_typed : Int32} {v_m_next : Int32} {v_m_token : Int32} {v_m_place : Int32} {v_m_value : Int32} {v_m_fault : Int32} {v_m_finds : Int32} {v_m_weeks : Int32} {v_m_rows : Int32} {v_m_cardPrice : Int32} {v_m_lotPrice : Int32} {v_m_sure : Int32} {v_m_up : Int64} {v_m_down : Int64} {v_mt : Nat → Int64} {v_ml : Nat → Int32} {v_mr : Nat → Int32} {o : Int64 × Int32} (hf : f_X10_shadow x1 x2 x3 x4 v_mt v_ml v_mr = some o) : pa_Ml l yX10_shadow wsX10_shadow rm_X10_shadow D cI cJ g [.ref a_m, .int x1, .int x2, .int x3, .int x4] (wo_X10_shadow cI cJ a_m a_mt a_ml a_mr a_mx a_mf a_mg a_mw a_mh v_m_thrown v_m_trace v_m_typed v_m_next v_m_token v_m_place v_m_value v_m_fault v_m_finds v_m_weeks v_m_rows v_m_cardPrice v_m_lotPrice v_m_sure v_m_up v_m_down v_mt v_ml v_mr) (wo_X10_shadow cI cJ a_m a_mt a_ml a_mr a_mx a_mf a_mg a_mw a_mh o.2 v_m_trace v_m_typed v_m_next v_m_token v_m_place v_m_value v_m_fault v_m_finds v_m_weeks v_m_rows v_m_cardPrice v_m_lotPrice v_m_sure v_m_up v_m_down v_mt v_ml v_mr) o.1 := by
  intro sz
  refine pa_met (cc := cX10_shadow) (maxL := 6) (ret := (some .long)) (lv := [(0, .ref a_m), (1, .int x1), (2, .int x2), (3, .int x3), (4, .int x4)]) (by decide) rfl (Nat.le_of_ble_eq_true rfl) rfl ?_
  intro p e s m below meth c X hsz hP hD ls hl
  subst hsz
  exact w_X10_shadow_b0 X hf hP hD va_S.rf hl
abbrev wo_X10_week (cI cJ : ClassId) (a_m a_mt a_ml a_mr a_mx a_mf a_mg a_mw a_mh : Nat) (v_m_thrown : Int32) (v_m_trace : Int64) (v_m_typed : Int32) (v_m_next : Int32) (v_m_token : Int32) (v_m_place : Int32) (v_m_value : Int32) (v_m_fault : Int32) (v_m_finds : Int32) (v_m_weeks : Int32) (v_m_rows : Int32) (v_m_cardPrice : Int32) (v_m_lotPrice : Int32) (v_m_sure : Int32) (v_m_up : Int64) (v_m_down : Int64) (v_mw : Nat → Int32) : va_W := [(a_m, .inr (9, [.int v_m_thrown, .long v_m_trace, .ref a_mt, .ref a_ml, .ref a_mr, .ref a_mx, .int v_m_typed, .int v_m_next, .int v_m_token, .int v_m_place, .int v_m_value, .int v_m_fault, .int v_m_finds, .ref a_mf, .ref a_mg, .int v_m_weeks, .ref a_mw, .int v_m_rows, .ref a_mh, .int v_m_cardPrice, .int v_m_lotPrice, .int v_m_sure, .long v_m_up, .long v_m_down])), (a_mw, .inl (cI, 60, .inl v_mw))]
abbrev rm_X10_week : Room := { frames := 1, cells := 0, slots := 0, locals := 22 }
theorem il_X10_week_X10 : ∀ w ∈ wsX100, w ∈ wsX10_week := by decide +kernel
theorem fk_X10_week_0 : Cond.fieldLink RX10 45 "PostedAsksModel" "thrown" "I" ∈ wsX10_week := by decide +kernel
theorem fk_X10_week_1 : Cond.fieldLink RX10 160 "PostedAsksModel" "weeks" "I" ∈ wsX10_week := by decide +kernel
theorem fk_X10_week_2 : Cond.fieldLink RX10 29 "PostedAsksModel" "week" "[I" ∈ wsX10_week := by decide +kernel
def f_X10_week (x1 : Int32) (v_m_weeks : Int32) (v_mw : Nat → Int32) : Option (Int32 × Int32 × Int32 × (Nat → Int32)) :=
  (f_X10_in x1 (0 : Int32) (1000 : Int32)).bind fun u_1 =>
  if u_1 = 0 then
    some ((-1 : Int32), (0 : Int32), v_m_weeks, v_mw)
  else
    if v_m_weeks = (60 : Int32) then
      some ((-3 : Int32), (0 : Int32), v_m_weeks, v_mw)
    else
      if pa_ib v_m_weeks 60 = true then
        some ((v_m_weeks + (1 : Int32)), (0 : Int32), (v_m_weeks + (1 : Int32)), (upd v_mw (Int32.toNatClampNeg v_m_weeks) x1))
      else none
set_option maxHeartbeats 4000000 in
set_option maxRecDepth 100000 in
theorem w_X10_week_b0 {l : Launch} {D : va_G} {cI cJ : ClassId} {g : pa_GT} {a_m a_mt a_ml a_mr a_mx a_mf a_mg a_mw a_mh : Nat} {A : Nat → Prop} {p : Program} {e : Env} {s : State} {m : MethodId} {args : Array Value} {below : List Frame} {meth : Method} {c : Code} {x1 : Int32} {v_m_weeks : Int32} {v_mw : Nat → Int32} {v_m_thrown : Int32} {v_m_trace : Int64} {v_m_typed : Int32} {v_m_next : Int32} {v_m_token : Int32} {v_m_place : Int32} {v_m_value : Int32} {v_m_fault : Int32} {v_m_finds : Int32} {v_m_rows : Int32} {v_m_cardPrice : Int32} {v_m_lotPrice : Int32} {v_m_sure : Int32} {v_m_up : Int64} {v_m_down : Int64} {o : Int32 × Int32 × Int32 × (Nat → Int32)} (X : pa_X cX10_week 2 (some .int) RX10 wsX10_week D cI cJ g A p s m args meth c)  (hf : f_X10_week x1 v_m_weeks v_mw = some o) {H : Heap} {locs : List Loc} (hP : va_P D vwCl (wo_X10_week cI cJ a_m a_mt a_ml a_mr a_mx a_mf a_mg a_mw a_mh v_m_thrown v_m_trace v_m_typed v_m_next v_m_token v_m_place v_m_value v_m_fault v_m_finds v_m_weeks v_m_rows v_m_cardPrice v_m_lotPrice v_m_sure v_m_up v_m_down v_mw) H) (hD : va_D A (wo_X10_week cI cJ a_m a_mt a_ml a_mr a_mx a_mf a_mg a_mw a_mh v_m_thrown v_m_trace v_m_typed v_m_next v_m_token v_m_place v_m_value v_m_fault v_m_finds v_m_weeks v_m_rows v_m_cardPrice v_m_lotPrice v_m_sure v_m_up v_m_down v_mw)) (hS : va_S A s.heap H locs) {ls : Array Slot} (hl : lv_has ls 2 [(0, .ref a_m), (1, .int x1)]) : W p l e (headSpec wsX10_week rm_X10_week).room s m args below meth c H locs 0 0 (MQ below (va_Qi (fun r (_ : Unit) => r = o.1) (pa_QB D A (wo_X10_week cI cJ a_m a_mt a_ml a_mr a_mx a_mf a_mg a_mw a_mh o.2.1 v_m_trace v_m_typed v_m_next v_m_token v_m_place v_m_value v_m_fault v_m_finds o.2.2.1 v_m_rows v_m_cardPrice v_m_lotPrice v_m_sure v_m_up v_m_down o.2.2.2)) A) args s 0 0 A) (F0 m 0 ls []) := by
  obtain ⟨hx, hb, hr, hml, hown, hts, hK, hA, hG, hlk⟩ := id X
  delta f_X10_week at hf
  refine lv_aload_n hx hb dX10_week_0 rfl (lv_at hl 0 rfl) ?_
  refine lv_iconst (v := (0 : Int32)) hx hb dX10_week_1 (by decide) ?_
  refine va_put (D := D) (ci := 9) (v := .int (0 : Int32)) (ty := .int) (C := RX10) (T := TX10) (N := 24) hx hb hts il_X10_week_X10 tyX10 tyX10_ok nmX10 hown hK hP hD hS 0 rfl rfl 0 (by decide) (hts _ fk_X10_week_0) (fun _ h9 => h9) rfl (tyX10_ok 0 (by decide)) rfl rfl (Nat.le_of_ble_eq_true rfl) dX10_week_2 (fun H locs hP hD hS => ?_)
  have hP : va_P D vwCl (wo_X10_week cI cJ a_m a_mt a_ml a_mr a_mx a_mf a_mg a_mw a_mh (0 : Int32) v_m_trace v_m_typed v_m_next v_m_token v_m_place v_m_value v_m_fault v_m_finds v_m_weeks v_m_rows v_m_cardPrice v_m_lotPrice v_m_sure v_m_up v_m_down v_mw) H := hP
  have hD : va_D A (wo_X10_week cI cJ a_m a_mt a_ml a_mr a_mx a_mf a_mg a_mw a_mh (0 : Int32) v_m_trace v_m_typed v_m_next v_m_token v_m_place v_m_value v_m_fault v_m_finds v_m_weeks v_m_rows v_m_cardPrice v_m_lotPrice v_m_sure v_m_up v_m_down v_mw) := hD
  refine lv_iload_n hx hb dX10_week_5 rfl (lv_at hl 1 rfl) ?_
  refine lv_iconst (v := (0 : Int32)) hx hb dX10_week_6 (by decide) ?_
  refine lv_sipush (v := (1000 : Int32)) hx hb dX10_week_7 (by decide) ?_
  obtain ⟨u_1, hg_2, hf⟩ := pa_bd hf
  refine pa_ki (wc := ([] : va_W)) (wr := [(a_m, .inr (9, [.int (0 : Int32), .long v_m_trace, .ref a_mt, .ref a_ml, .ref a_mr, .ref a_mx, .int v_m_typed, .int v_m_next, .int v_m_token, .int v_m_place, .int v_m_value, .int v_m_fault, .int v_m_finds, .ref a_mf, .ref a_mg, .int v_m_weeks, .ref a_mw, .int v_m_rows, .ref a_mh, .int v_m_cardPrice, .int v_m_lotPrice, .int v_m_sure, .long v_m_up, .long v_m_down])), (a_mw, .inl (cI, 60, .inl v_mw))]) (w1 := ([] : va_W)) (w2 := (wo_X10_week cI cJ a_m a_mt a_ml a_mr a_mx a_mf a_mg a_mw a_mh (0 : Int32) v_m_trace v_m_typed v_m_next v_m_token v_m_place v_m_value v_m_fault v_m_finds v_m_weeks v_m_rows v_m_cardPrice v_m_lotPrice v_m_sure v_m_up v_m_down v_mw)) X hP hD hS [] [0, 1] [0, 1] rfl (pa_rS (As := [.int x1, .int (0 : Int32), .int (1000 : Int32)]) (rest := []) X hP hD hS [] rfl rfl (c_X10_in hg_2 H.size) (va_cwS 3 hts gX10_week_X10_in rfl rfl rfl (by decide +kernel) ⟨Nat.le_of_ble_eq_true rfl, Nat.le_of_ble_eq_true rfl⟩) rfl hl.1 rfl (Nat.le_of_ble_eq_true rfl) dX10_week_10 ⟨Nat.zero_le _, Nat.zero_le _⟩) rfl rfl (by decide) rfl rfl (fun H locs hP hD hS => ?_)
  refine lv_if_ne (tgt := 18) hx hb dX10_week_13 (by decide) (fun c_3 => ?_) (fun c_3 => ?_)
  · have hf := (if_neg c_3).symm.trans hf
    refine lv_aload_n hx hb dX10_week_18 rfl (lv_at hl 0 rfl) ?_
    refine va_get (D := D) (ci := 9) (v := .int v_m_weeks) (C := RX10) (T := TX10) (N := 24) hx hb hts il_X10_week_X10 hown hK hP 0 rfl rfl 15 (by decide) (hts _ fk_X10_week_1) (fun _ h9 => h9) rfl dX10_week_19 ?_
    refine lv_bipush (v := (60 : Int32)) hx hb dX10_week_22 (by decide) ?_
    refine lv_icmp_ne (tgt := 30) hx hb dX10_week_24 (by decide) (fun c_4 => ?_) (fun c_4 => ?_)
    · have hf := (if_neg c_4).symm.trans hf
      refine lv_aload_n hx hb dX10_week_30 rfl (lv_at hl 0 rfl) ?_
      refine va_get (D := D) (ci := 9) (v := .ref a_mw) (C := RX10) (T := TX10) (N := 24) hx hb hts il_X10_week_X10 hown hK hP 0 rfl rfl 16 (by decide) (hts _ fk_X10_week_2) (fun _ h9 => h9) rfl dX10_week_31 ?_
      refine lv_aload_n hx hb dX10_week_34 rfl (lv_at hl 0 rfl) ?_
      refine va_get (D := D) (ci := 9) (v := .int v_m_weeks) (C := RX10) (T := TX10) (N := 24) hx hb hts il_X10_week_X10 hown hK hP 0 rfl rfl 15 (by decide) (hts _ fk_X10_week_1) (fun _ h9 => h9) rfl dX10_week_35 ?_
      refine lv_iload_n hx hb dX10_week_38 rfl (lv_at hl 1 rfl) ?_
      obtain ⟨hi_5, hf⟩ := pa_gd hf
      refine va_iast hx hb hK hP hD hS 1 0 rfl rfl hi_5 dX10_week_39 (fun H locs hP hD hS => ?_)
      have hP : va_P D vwCl (wo_X10_week cI cJ a_m a_mt a_ml a_mr a_mx a_mf a_mg a_mw a_mh (0 : Int32) v_m_trace v_m_typed v_m_next v_m_token v_m_place v_m_value v_m_fault v_m_finds v_m_weeks v_m_rows v_m_cardPrice v_m_lotPrice v_m_sure v_m_up v_m_down (upd v_mw (Int32.toNatClampNeg v_m_weeks) x1)) H := hP
      have hD : va_D A (wo_X10_week cI cJ a_m a_mt a_ml a_mr a_mx a_mf a_mg a_mw a_mh (0 : Int32) v_m_trace v_m_typed v_m_next v_m_token v_m_place v_m_value v_m_fault v_m_finds v_m_weeks v_m_rows v_m_cardPrice v_m_lotPrice v_m_sure v_m_up v_m_down (upd v_mw (Int32.toNatClampNeg v_m_weeks) x1)) := hD
      refine lv_aload_n hx hb dX10_week_40 rfl (lv_at hl 0 rfl) ?_
      refine lv_dup hx hb dX10_week_41 rfl ?_
      refine va_get (D := D) (ci := 9) (v := .int v_m_weeks) (C := RX10) (T := TX10) (N := 24) hx hb hts il_X10_week_X10 hown hK hP 0 rfl rfl 15 (by decide) (hts _ fk_X10_week_1) (fun _ h9 => h9) rfl dX10_week_42 ?_
      refine lv_iconst (v := (1 : Int32)) hx hb dX10_week_45 (by decide) ?_
      refine lv_iadd hx hb dX10_week_46 ?_
      refine va_put (D := D) (ci := 9) (v := .int (v_m_weeks + (1 : Int32))) (ty := .int) (C := RX10) (T := TX10) (N := 24) hx hb hts il_X10_week_X10 tyX10 tyX10_ok nmX10 hown hK hP hD hS 0 rfl rfl 15 (by decide) (hts _ fk_X10_week_1) (fun _ h9 => h9) rfl (tyX10_ok 15 (by decide)) rfl rfl (Nat.le_of_ble_eq_true rfl) dX10_week_47 (fun H locs hP hD hS => ?_)
      have hP : va_P D vwCl (wo_X10_week cI cJ a_m a_mt a_ml a_mr a_mx a_mf a_mg a_mw a_mh (0 : Int32) v_m_trace v_m_typed v_m_next v_m_token v_m_place v_m_value v_m_fault v_m_finds (v_m_weeks + (1 : Int32)) v_m_rows v_m_cardPrice v_m_lotPrice v_m_sure v_m_up v_m_down (upd v_mw (Int32.toNatClampNeg v_m_weeks) x1)) H := hP
      have hD : va_D A (wo_X10_week cI cJ a_m a_mt a_ml a_mr a_mx a_mf a_mg a_mw a_mh (0 : Int32) v_m_trace v_m_typed v_m_next v_m_token v_m_place v_m_value v_m_fault v_m_finds (v_m_weeks + (1 : Int32)) v_m_rows v_m_cardPrice v_m_lotPrice v_m_sure v_m_up v_m_down (upd v_mw (Int32.toNatClampNeg v_m_weeks) x1)) := hD
      refine lv_aload_n hx hb dX10_week_50 rfl (lv_at hl 0 rfl) ?_
      refine va_get (D := D) (ci := 9) (v := .int (v_m_weeks + (1 : Int32))) (C := RX10) (T := TX10) (N := 24) hx hb hts il_X10_week_X10 hown hK hP 0 rfl rfl 15 (by decide) (hts _ fk_X10_week_1) (fun _ h9 => h9) rfl dX10_week_51 ?_
      obtain rfl := Option.some.inj hf
      exact pa_ei X hP hD hS dX10_week_54
    · have hf := (if_pos c_4).symm.trans hf
      refine lv_bipush (v := (-3 : Int32)) hx hb dX10_week_27 (by decide) ?_
      obtain rfl := Option.some.inj hf
      exact pa_ei X hP hD hS dX10_week_29
  · have hf := (if_pos c_3).symm.trans hf
    refine lv_iconst (v := (-1 : Int32)) hx hb dX10_week_16 (by decide) ?_
    obtain rfl := Option.some.inj hf
    exact pa_ei X hP hD hS dX10_week_17
set_option maxHeartbeats 4000000 in
set_option maxRecDepth 100000 in
theorem c_X10_week {l : Launch} {D : va_G} {cI cJ : ClassId} {g : pa_GT} {a_m a_mt a_ml a_mr a_mx a_mf a_mg a_mw a_mh : Nat} {x1 : Int32} {v_m_thrown : Int32} {v_m_trace : Int64} {v_m_typed : Int32} {v_m_next : Int32} {v_m_token : Int32} {v_m_place : Int32} {v_m_value : Int32} {v_m_fault : Int32} {v_m_finds : Int32} {v_m_weeks : Int32} {v_m_rows : Int32} {v_m_cardPrice : Int32} {v_m_lotPrice : Int32} {v_m_sure : Int32} {v_m_up : Int64} {v_m_down : Int64} {v_mw : Nat → Int32} {o : Int32 × Int32 × Int32 × (Nat → Int32)} (hf : f_X10_week x1 v_m_weeks v_mw = some o) : pa_Mi l yX10_week wsX10_week rm_X10_week D cI cJ g [.ref a_m, .int x1] (wo_X10_week cI cJ a_m a_mt a_ml a_mr a_mx a_mf a_mg a_mw a_mh v_m_thrown v_m_trace v_m_typed v_m_next v_m_token v_m_place v_m_value v_m_fault v_m_finds v_m_weeks v_m_rows v_m_cardPrice v_m_lotPrice v_m_sure v_m_up v_m_down v_mw) (wo_X10_week cI cJ a_m a_mt a_ml a_mr a_mx a_mf a_mg a_mw a_mh o.2.1 v_m_trace v_m_typed v_m_next v_m_token v_m_place v_m_value v_m_fault v_m_finds o.2.2.1 v_m_rows v_m_cardPrice v_m_lotPrice v_m_sure v_m_up v_m_down o.2.2.2) o.1 := by
  intro sz
  refine pa_met (cc := cX10_week) (maxL := 2) (ret := (some .int)) (lv := [(0, .ref a_m), (1, .int x1)]) (by decide) rfl (Nat.le_of_ble_eq_true rfl) rfl ?_
  intro p e s m below meth c X hsz hP hD ls hl
  subst hsz
  exact w_X10_week_b0 X hf hP hD va_S.rf hl
abbrev wo_X10_moves (cI cJ : ClassId) (a_m a_mt a_ml a_mr a_mx a_mf a_mg a_mw a_mh : Nat) (v_m_thrown : Int32) (v_m_trace : Int64) (v_m_typed : Int32) (v_m_next : Int32) (v_m_token : Int32) (v_m_place : Int32) (v_m_value : Int32) (v_m_fault : Int32) (v_m_finds : Int32) (v_m_weeks : Int32) (v_m_rows : Int32) (v_m_cardPrice : Int32) (v_m_lotPrice : Int32) (v_m_sure : Int32) (v_m_up : Int64) (v_m_down : Int64) (v_mw : Nat → Int32) : va_W := [(a_m, .inr (9, [.int v_m_thrown, .long v_m_trace, .ref a_mt, .ref a_ml, .ref a_mr, .ref a_mx, .int v_m_typed, .int v_m_next, .int v_m_token, .int v_m_place, .int v_m_value, .int v_m_fault, .int v_m_finds, .ref a_mf, .ref a_mg, .int v_m_weeks, .ref a_mw, .int v_m_rows, .ref a_mh, .int v_m_cardPrice, .int v_m_lotPrice, .int v_m_sure, .long v_m_up, .long v_m_down])), (a_mw, .inl (cI, 60, .inl v_mw))]
abbrev rm_X10_moves : Room := { frames := 0, cells := 0, slots := 0, locals := 0 }
theorem il_X10_moves_X10 : ∀ w ∈ wsX100, w ∈ wsX10_moves := by decide +kernel
theorem fk_X10_moves_0 : Cond.fieldLink RX10 160 "PostedAsksModel" "weeks" "I" ∈ wsX10_moves := by decide +kernel
theorem fk_X10_moves_1 : Cond.fieldLink RX10 29 "PostedAsksModel" "week" "[I" ∈ wsX10_moves := by decide +kernel
def f_X10_moves_L18_body (x1 : Int32) (x2 : Int32) (v_m_weeks : Int32) (v_mw : Nat → Int32) (rec18 : Int32 → Int32 → Option (Int32)) (x3 : Int32) (x4 : Int32) : Option (Int32) :=
  if v_m_weeks ≤ x4 then
    some (x3)
  else
    if pa_ib x4 60 = true then
      if pa_ib (x4 - x1) 60 = true then
        if (x2 * ((v_mw (Int32.toNatClampNeg x4)) - (v_mw (Int32.toNatClampNeg (x4 - x1))))) ≤ x3 then
          rec18 x3 (x4 + (1 : Int32))
        else
          rec18 (x2 * ((v_mw (Int32.toNatClampNeg x4)) - (v_mw (Int32.toNatClampNeg (x4 - x1))))) (x4 + (1 : Int32))
      else none
    else none
def f_X10_moves_L18 (x1 : Int32) (x2 : Int32) (v_m_weeks : Int32) (v_mw : Nat → Int32) : Nat → Int32 → Int32 → Option (Int32)
  | 0 => fun _ _ => none
  | n + 1 => f_X10_moves_L18_body x1 x2 v_m_weeks v_mw (f_X10_moves_L18 x1 x2 v_m_weeks v_mw n)
def f_X10_moves (x1 : Int32) (x2 : Int32) (v_m_weeks : Int32) (v_mw : Nat → Int32) : Option (Int32) :=
  if v_m_weeks ≤ x1 then
    f_X10_moves_L18 x1 x2 v_m_weeks v_mw pa_fu (-9 : Int32) x1
  else
    f_X10_moves_L18 x1 x2 v_m_weeks v_mw pa_fu (0 : Int32) x1
set_option maxHeartbeats 4000000 in
set_option maxRecDepth 100000 in
theorem w_X10_moves_L18 {l : Launch} {D : va_G} {cI cJ : ClassId} {g : pa_GT} {a_m a_mt a_ml a_mr a_mx a_mf a_mg a_mw a_mh : Nat} {A : Nat → Prop} {p : Program} {e : Env} {s : State} {m : MethodId} {args : Array Value} {below : List Frame} {meth : Method} {c : Code} {x1 : Int32} {x2 : Int32} {v_m_weeks : Int32} {v_mw : Nat → Int32} {v_m_thrown : Int32} {v_m_trace : Int64} {v_m_typed : Int32} {v_m_next : Int32} {v_m_token : Int32} {v_m_place : Int32} {v_m_value : Int32} {v_m_fault : Int32} {v_m_finds : Int32} {v_m_rows : Int32} {v_m_cardPrice : Int32} {v_m_lotPrice : Int32} {v_m_sure : Int32} {v_m_up : Int64} {v_m_down : Int64} {o : Int32} (X : pa_X cX10_moves 6 (some .int) RX10 wsX10_moves D cI cJ g A p s m args meth c)  : ∀ (n : Nat) (x3 : Int32) (x4 : Int32), f_X10_moves_L18 x1 x2 v_m_weeks v_mw n x3 x4 = some o → ∀ (H : Heap) (locs : List Loc) , va_P D vwCl (wo_X10_moves cI cJ a_m a_mt a_ml a_mr a_mx a_mf a_mg a_mw a_mh v_m_thrown v_m_trace v_m_typed v_m_next v_m_token v_m_place v_m_value v_m_fault v_m_finds v_m_weeks v_m_rows v_m_cardPrice v_m_lotPrice v_m_sure v_m_up v_m_down v_mw) H → va_D A (wo_X10_moves cI cJ a_m a_mt a_ml a_mr a_mx a_mf a_mg a_mw a_mh v_m_thrown v_m_trace v_m_typed v_m_next v_m_token v_m_place v_m_value v_m_fault v_m_finds v_m_weeks v_m_rows v_m_cardPrice v_m_lotPrice v_m_sure v_m_up v_m_down v_mw) → va_S A s.heap H locs → ∀ (ls : Array Slot), lv_has ls 6 [(0, .ref a_m), (1, .int x1), (2, .int x2), (3, .int x3), (4, .int x4)] → W p l e (headSpec wsX10_moves rm_X10_moves).room s m args below meth c H locs 0 0 (MQ below (va_Qi (fun r (_ : Unit) => r = o) (pa_QB D A (wo_X10_moves cI cJ a_m a_mt a_ml a_mr a_mx a_mf a_mg a_mw a_mh v_m_thrown v_m_trace v_m_typed v_m_next v_m_token v_m_place v_m_value v_m_fault v_m_finds v_m_weeks v_m_rows v_m_cardPrice v_m_lotPrice v_m_sure v_m_up v_m_down v_mw)) A) args s 0 0 A) (F0 m 18 ls []) := by
  obtain ⟨hx, hb, hr, hml, hown, hts, hK, hA, hG, hlk⟩ := id X
  intro n
  induction n with
  | zero =>
    intro x3 x4 hf
    have hf : (none : Option (Int32)) = some o := hf
    cases hf
  | succ n hrec18 =>
    intro x3 x4 hf H locs  hP hD hS ls hl
    have hf : f_X10_moves_L18_body x1 x2 v_m_weeks v_mw (f_X10_moves_L18 x1 x2 v_m_weeks v_mw n) x3 x4 = some o := hf
    delta f_X10_moves_L18_body at hf
    generalize hgr : f_X10_moves_L18 x1 x2 v_m_weeks v_mw n = rec18 at hf hrec18
    refine lv_iload hx hb dX10_moves_18 (lv_at hl 4 rfl) ?_
    refine lv_aload_n hx hb dX10_moves_20 rfl (lv_at hl 0 rfl) ?_
    refine va_get (D := D) (ci := 9) (v := .int v_m_weeks) (C := RX10) (T := TX10) (N := 24) hx hb hts il_X10_moves_X10 hown hK hP 0 rfl rfl 15 (by decide) (hts _ fk_X10_moves_0) (fun _ h9 => h9) rfl dX10_moves_21 ?_
    refine lv_icmp_ge (tgt := 67) hx hb dX10_moves_24 (by decide) (fun c_1 => ?_) (fun c_1 => ?_)
    · have hf := (if_pos c_1).symm.trans hf
      refine lv_iload_n hx hb dX10_moves_67 rfl (lv_at hl 3 rfl) ?_
      obtain rfl := Option.some.inj hf
      exact pa_ei X hP hD hS dX10_moves_68
    · have hf := (if_neg c_1).symm.trans hf
      refine lv_iload_n hx hb dX10_moves_27 rfl (lv_at hl 2 rfl) ?_
      refine lv_aload_n hx hb dX10_moves_28 rfl (lv_at hl 0 rfl) ?_
      refine va_get (D := D) (ci := 9) (v := .ref a_mw) (C := RX10) (T := TX10) (N := 24) hx hb hts il_X10_moves_X10 hown hK hP 0 rfl rfl 16 (by decide) (hts _ fk_X10_moves_1) (fun _ h9 => h9) rfl dX10_moves_29 ?_
      refine lv_iload hx hb dX10_moves_32 (lv_at hl 4 rfl) ?_
      obtain ⟨hi_2, hf⟩ := pa_gd hf
      refine va_iald hx hb hK hP 1 0 rfl rfl hi_2 dX10_moves_34 ?_
      refine lv_aload_n hx hb dX10_moves_35 rfl (lv_at hl 0 rfl) ?_
      refine va_get (D := D) (ci := 9) (v := .ref a_mw) (C := RX10) (T := TX10) (N := 24) hx hb hts il_X10_moves_X10 hown hK hP 0 rfl rfl 16 (by decide) (hts _ fk_X10_moves_1) (fun _ h9 => h9) rfl dX10_moves_36 ?_
      refine lv_iload hx hb dX10_moves_39 (lv_at hl 4 rfl) ?_
      refine lv_iload_n hx hb dX10_moves_41 rfl (lv_at hl 1 rfl) ?_
      refine lv_isub hx hb dX10_moves_42 ?_
      obtain ⟨hi_3, hf⟩ := pa_gd hf
      refine va_iald hx hb hK hP 1 0 rfl rfl hi_3 dX10_moves_43 ?_
      refine lv_isub hx hb dX10_moves_44 ?_
      refine lv_imul hx hb dX10_moves_45 ?_
      refine lv_istore (lv' := [(5, .int (x2 * ((v_mw (Int32.toNatClampNeg x4)) - (v_mw (Int32.toNatClampNeg (x4 - x1)))))), (0, .ref a_m), (1, .int x1), (2, .int x2), (3, .int x3), (4, .int x4)]) hx hb dX10_moves_46 hl (by decide) rfl (fun ls hl => ?_)
      refine lv_iload hx hb dX10_moves_48 (lv_at hl 0 rfl) ?_
      refine lv_iload_n hx hb dX10_moves_50 rfl (lv_at hl 4 rfl) ?_
      refine lv_icmp_le (tgt := 59) hx hb dX10_moves_51 (by decide) (fun c_4 => ?_) (fun c_4 => ?_)
      · have hf := (if_pos c_4).symm.trans hf
        refine lv_iload_n hx hb dX10_moves_59 rfl (lv_at hl 4 rfl) ?_
        refine lv_istore_n (lv' := [(3, .int x3), (5, .int (x2 * ((v_mw (Int32.toNatClampNeg x4)) - (v_mw (Int32.toNatClampNeg (x4 - x1)))))), (0, .ref a_m), (1, .int x1), (2, .int x2), (4, .int x4)]) hx hb dX10_moves_60 rfl hl (by decide) rfl (fun ls hl => ?_)
        refine lv_iinc (v := (x4 + (1 : Int32))) (lv' := [(4, .int (x4 + (1 : Int32))), (3, .int x3), (5, .int (x2 * ((v_mw (Int32.toNatClampNeg x4)) - (v_mw (Int32.toNatClampNeg (x4 - x1)))))), (0, .ref a_m), (1, .int x1), (2, .int x2)]) hx hb dX10_moves_61 hl (k := 5) rfl rfl (by decide) rfl (fun ls hl => ?_)
        refine lv_goto (tgt := 18) hx hb dX10_moves_64 (by decide) ?_
        exact hrec18 _ _ hf _ _  hP hD hS _ (lv_sub hl [3, 4, 5, 1, 0] rfl)
      · have hf := (if_neg c_4).symm.trans hf
        refine lv_iload hx hb dX10_moves_54 (lv_at hl 0 rfl) ?_
        refine lv_goto (tgt := 60) hx hb dX10_moves_56 (by decide) ?_
        refine lv_istore_n (lv' := [(3, .int (x2 * ((v_mw (Int32.toNatClampNeg x4)) - (v_mw (Int32.toNatClampNeg (x4 - x1)))))), (5, .int (x2 * ((v_mw (Int32.toNatClampNeg x4)) - (v_mw (Int32.toNatClampNeg (x4 - x1)))))), (0, .ref a_m), (1, .int x1), (2, .int x2), (4, .int x4)]) hx hb dX10_moves_60 rfl hl (by decide) rfl (fun ls hl => ?_)
        refine lv_iinc (v := (x4 + (1 : Int32))) (lv' := [(4, .int (x4 + (1 : Int32))), (3, .int (x2 * ((v_mw (Int32.toNatClampNeg x4)) - (v_mw (Int32.toNatClampNeg (x4 - x1)))))), (5, .int (x2 * ((v_mw (Int32.toNatClampNeg x4)) - (v_mw (Int32.toNatClampNeg (x4 - x1)))))), (0, .ref a_m), (1, .int x1), (2, .int x2)]) hx hb dX10_moves_61 hl (k := 5) rfl rfl (by decide) rfl (fun ls hl => ?_)
        refine lv_goto (tgt := 18) hx hb dX10_moves_64 (by decide) ?_
        exact hrec18 _ _ hf _ _  hP hD hS _ (lv_sub hl [3, 4, 5, 1, 0] rfl)
set_option maxHeartbeats 4000000 in
set_option maxRecDepth 100000 in
theorem w_X10_moves_b0 {l : Launch} {D : va_G} {cI cJ : ClassId} {g : pa_GT} {a_m a_mt a_ml a_mr a_mx a_mf a_mg a_mw a_mh : Nat} {A : Nat → Prop} {p : Program} {e : Env} {s : State} {m : MethodId} {args : Array Value} {below : List Frame} {meth : Method} {c : Code} {x1 : Int32} {x2 : Int32} {v_m_weeks : Int32} {v_mw : Nat → Int32} {v_m_thrown : Int32} {v_m_trace : Int64} {v_m_typed : Int32} {v_m_next : Int32} {v_m_token : Int32} {v_m_place : Int32} {v_m_value : Int32} {v_m_fault : Int32} {v_m_finds : Int32} {v_m_rows : Int32} {v_m_cardPrice : Int32} {v_m_lotPrice : Int32} {v_m_sure : Int32} {v_m_up : Int64} {v_m_down : Int64} {o : Int32} (X : pa_X cX10_moves 6 (some .int) RX10 wsX10_moves D cI cJ g A p s m args meth c)  (hf : f_X10_moves x1 x2 v_m_weeks v_mw = some o) {H : Heap} {locs : List Loc} (hP : va_P D vwCl (wo_X10_moves cI cJ a_m a_mt a_ml a_mr a_mx a_mf a_mg a_mw a_mh v_m_thrown v_m_trace v_m_typed v_m_next v_m_token v_m_place v_m_value v_m_fault v_m_finds v_m_weeks v_m_rows v_m_cardPrice v_m_lotPrice v_m_sure v_m_up v_m_down v_mw) H) (hD : va_D A (wo_X10_moves cI cJ a_m a_mt a_ml a_mr a_mx a_mf a_mg a_mw a_mh v_m_thrown v_m_trace v_m_typed v_m_next v_m_token v_m_place v_m_value v_m_fault v_m_finds v_m_weeks v_m_rows v_m_cardPrice v_m_lotPrice v_m_sure v_m_up v_m_down v_mw)) (hS : va_S A s.heap H locs) {ls : Array Slot} (hl : lv_has ls 6 [(0, .ref a_m), (1, .int x1), (2, .int x2)]) : W p l e (headSpec wsX10_moves rm_X10_moves).room s m args below meth c H locs 0 0 (MQ below (va_Qi (fun r (_ : Unit) => r = o) (pa_QB D A (wo_X10_moves cI cJ a_m a_mt a_ml a_mr a_mx a_mf a_mg a_mw a_mh v_m_thrown v_m_trace v_m_typed v_m_next v_m_token v_m_place v_m_value v_m_fault v_m_finds v_m_weeks v_m_rows v_m_cardPrice v_m_lotPrice v_m_sure v_m_up v_m_down v_mw)) A) args s 0 0 A) (F0 m 0 ls []) := by
  obtain ⟨hx, hb, hr, hml, hown, hts, hK, hA, hG, hlk⟩ := id X
  delta f_X10_moves at hf
  refine lv_iload_n hx hb dX10_moves_0 rfl (lv_at hl 1 rfl) ?_
  refine lv_aload_n hx hb dX10_moves_1 rfl (lv_at hl 0 rfl) ?_
  refine va_get (D := D) (ci := 9) (v := .int v_m_weeks) (C := RX10) (T := TX10) (N := 24) hx hb hts il_X10_moves_X10 hown hK hP 0 rfl rfl 15 (by decide) (hts _ fk_X10_moves_0) (fun _ h9 => h9) rfl dX10_moves_2 ?_
  refine lv_icmp_ge (tgt := 12) hx hb dX10_moves_5 (by decide) (fun c_5 => ?_) (fun c_5 => ?_)
  · have hf := (if_pos c_5).symm.trans hf
    refine lv_bipush (v := (-9 : Int32)) hx hb dX10_moves_12 (by decide) ?_
    refine lv_istore_n (lv' := [(3, .int (-9 : Int32)), (0, .ref a_m), (1, .int x1), (2, .int x2)]) hx hb dX10_moves_14 rfl hl (by decide) rfl (fun ls hl => ?_)
    refine lv_iload_n hx hb dX10_moves_15 rfl (lv_at hl 2 rfl) ?_
    refine lv_istore (lv' := [(4, .int x1), (3, .int (-9 : Int32)), (0, .ref a_m), (1, .int x1), (2, .int x2)]) hx hb dX10_moves_16 hl (by decide) rfl (fun ls hl => ?_)
    exact w_X10_moves_L18 X  _ _ _ hf _ _  hP hD hS _ (lv_sub hl [2, 3, 4, 1, 0] rfl)
  · have hf := (if_neg c_5).symm.trans hf
    refine lv_iconst (v := (0 : Int32)) hx hb dX10_moves_8 (by decide) ?_
    refine lv_goto (tgt := 14) hx hb dX10_moves_9 (by decide) ?_
    refine lv_istore_n (lv' := [(3, .int (0 : Int32)), (0, .ref a_m), (1, .int x1), (2, .int x2)]) hx hb dX10_moves_14 rfl hl (by decide) rfl (fun ls hl => ?_)
    refine lv_iload_n hx hb dX10_moves_15 rfl (lv_at hl 2 rfl) ?_
    refine lv_istore (lv' := [(4, .int x1), (3, .int (0 : Int32)), (0, .ref a_m), (1, .int x1), (2, .int x2)]) hx hb dX10_moves_16 hl (by decide) rfl (fun ls hl => ?_)
    exact w_X10_moves_L18 X  _ _ _ hf _ _  hP hD hS _ (lv_sub hl [2, 3, 4, 1, 0] rfl)
set_option maxHeartbeats 4000000 in
set_option maxRecDepth 100000 in
theorem c_X10_moves {l : Launch} {D : va_G} {cI cJ : ClassId} {g : pa_GT} {a_m a_mt a_ml a_mr a_mx a_mf a_mg a_mw a_mh : Nat} {x1 : Int32} {x2 : Int32} {v_m_thrown : Int32} {v_m_trace : Int64} {v_m_typed : Int32} {v_m_next : Int32} {v_m_token : Int32} {v_m_place : Int32} {v_m_value : Int32} {v_m_fault : Int32} {v_m_finds : Int32} {v_m_weeks : Int32} {v_m_rows : Int32} {v_m_cardPrice : Int32} {v_m_lotPrice : Int32} {v_m_sure : Int32} {v_m_up : Int64} {v_m_down : Int64} {v_mw : Nat → Int32} {o : Int32} (hf : f_X10_moves x1 x2 v_m_weeks v_mw = some o) : pa_Mi l yX10_moves wsX10_moves rm_X10_moves D cI cJ g [.ref a_m, .int x1, .int x2] (wo_X10_moves cI cJ a_m a_mt a_ml a_mr a_mx a_mf a_mg a_mw a_mh v_m_thrown v_m_trace v_m_typed v_m_next v_m_token v_m_place v_m_value v_m_fault v_m_finds v_m_weeks v_m_rows v_m_cardPrice v_m_lotPrice v_m_sure v_m_up v_m_down v_mw) (wo_X10_moves cI cJ a_m a_mt a_ml a_mr a_mx a_mf a_mg a_mw a_mh v_m_thrown v_m_trace v_m_typed v_m_next v_m_token v_m_place v_m_value v_m_fault v_m_finds v_m_weeks v_m_rows v_m_cardPrice v_m_lotPrice v_m_sure v_m_up v_m_down v_mw) o := by
  intro sz
  refine pa_met (cc := cX10_moves) (maxL := 6) (ret := (some .int)) (lv := [(0, .ref a_m), (1, .int x1), (2, .int x2)]) (by decide) rfl (Nat.le_of_ble_eq_true rfl) rfl ?_
  intro p e s m below meth c X hsz hP hD ls hl
  subst hsz
  exact w_X10_moves_b0 X hf hP hD va_S.rf hl
abbrev wo_X10_turn (cI cJ : ClassId) (a_m a_mt a_ml a_mr a_mx a_mf a_mg a_mw a_mh : Nat) (v_m_thrown : Int32) (v_m_trace : Int64) (v_m_typed : Int32) (v_m_next : Int32) (v_m_token : Int32) (v_m_place : Int32) (v_m_value : Int32) (v_m_fault : Int32) (v_m_finds : Int32) (v_m_weeks : Int32) (v_m_rows : Int32) (v_m_cardPrice : Int32) (v_m_lotPrice : Int32) (v_m_sure : Int32) (v_m_up : Int64) (v_m_down : Int64) (v_mw : Nat → Int32) : va_W := [(a_m, .inr (9, [.int v_m_thrown, .long v_m_trace, .ref a_mt, .ref a_ml, .ref a_mr, .ref a_mx, .int v_m_typed, .int v_m_next, .int v_m_token, .int v_m_place, .int v_m_value, .int v_m_fault, .int v_m_finds, .ref a_mf, .ref a_mg, .int v_m_weeks, .ref a_mw, .int v_m_rows, .ref a_mh, .int v_m_cardPrice, .int v_m_lotPrice, .int v_m_sure, .long v_m_up, .long v_m_down])), (a_mw, .inl (cI, 60, .inl v_mw))]
abbrev rm_X10_turn : Room := { frames := 1, cells := 0, slots := 0, locals := 25 }
theorem il_X10_turn_X10 : ∀ w ∈ wsX100, w ∈ wsX10_turn := by decide +kernel
theorem fk_X10_turn_0 : Cond.fieldLink RX10 45 "PostedAsksModel" "thrown" "I" ∈ wsX10_turn := by decide +kernel
def f_X10_turn_b35 (s1 : Int32) (s2 : Int32) (v_m_thrown : Int32) (v_m_weeks : Int32) (v_mw : Nat → Int32) : Option (Int32 × Int32) :=
  (f_X10_moves s1 s2 v_m_weeks v_mw).bind fun u_1 =>
  some (u_1, v_m_thrown)
def f_X10_turn (x1 : Int32) (x2 : Int32) (v_m_weeks : Int32) (v_mw : Nat → Int32) : Option (Int32 × Int32) :=
  (f_X10_in x1 (1 : Int32) (60 : Int32)).bind fun u_3 =>
  if u_3 = 0 then
    some ((-1 : Int32), (0 : Int32))
  else
    (f_X10_in x2 (0 : Int32) (1 : Int32)).bind fun u_6 =>
    if u_6 = 0 then
      some ((-1 : Int32), (0 : Int32))
    else
      if x2 = 0 then
        f_X10_turn_b35 x1 (1 : Int32) (0 : Int32) v_m_weeks v_mw
      else
        f_X10_turn_b35 x1 (-1 : Int32) (0 : Int32) v_m_weeks v_mw
set_option maxHeartbeats 4000000 in
set_option maxRecDepth 100000 in
theorem w_X10_turn_b35 {l : Launch} {D : va_G} {cI cJ : ClassId} {g : pa_GT} {a_m a_mt a_ml a_mr a_mx a_mf a_mg a_mw a_mh : Nat} {A : Nat → Prop} {p : Program} {e : Env} {s : State} {m : MethodId} {args : Array Value} {below : List Frame} {meth : Method} {c : Code} {s1 : Int32} {s2 : Int32} {v_m_thrown : Int32} {v_m_weeks : Int32} {v_mw : Nat → Int32} {v_m_trace : Int64} {v_m_typed : Int32} {v_m_next : Int32} {v_m_token : Int32} {v_m_place : Int32} {v_m_value : Int32} {v_m_fault : Int32} {v_m_finds : Int32} {v_m_rows : Int32} {v_m_cardPrice : Int32} {v_m_lotPrice : Int32} {v_m_sure : Int32} {v_m_up : Int64} {v_m_down : Int64} {o : Int32 × Int32} (X : pa_X cX10_turn 3 (some .int) RX10 wsX10_turn D cI cJ g A p s m args meth c)  (hf : f_X10_turn_b35 s1 s2 v_m_thrown v_m_weeks v_mw = some o) {H : Heap} {locs : List Loc} (hP : va_P D vwCl (wo_X10_turn cI cJ a_m a_mt a_ml a_mr a_mx a_mf a_mg a_mw a_mh v_m_thrown v_m_trace v_m_typed v_m_next v_m_token v_m_place v_m_value v_m_fault v_m_finds v_m_weeks v_m_rows v_m_cardPrice v_m_lotPrice v_m_sure v_m_up v_m_down v_mw) H) (hD : va_D A (wo_X10_turn cI cJ a_m a_mt a_ml a_mr a_mx a_mf a_mg a_mw a_mh v_m_thrown v_m_trace v_m_typed v_m_next v_m_token v_m_place v_m_value v_m_fault v_m_finds v_m_weeks v_m_rows v_m_cardPrice v_m_lotPrice v_m_sure v_m_up v_m_down v_mw)) (hS : va_S A s.heap H locs) {ls : Array Slot} (hl : lv_has ls 3 []) : W p l e (headSpec wsX10_turn rm_X10_turn).room s m args below meth c H locs 0 0 (MQ below (va_Qi (fun r (_ : Unit) => r = o.1) (pa_QB D A (wo_X10_turn cI cJ a_m a_mt a_ml a_mr a_mx a_mf a_mg a_mw a_mh o.2 v_m_trace v_m_typed v_m_next v_m_token v_m_place v_m_value v_m_fault v_m_finds v_m_weeks v_m_rows v_m_cardPrice v_m_lotPrice v_m_sure v_m_up v_m_down v_mw)) A) args s 0 0 A) (F0 m 35 ls [.int s2, .int s1, .ref a_m]) := by
  obtain ⟨hx, hb, hr, hml, hown, hts, hK, hA, hG, hlk⟩ := id X
  delta f_X10_turn_b35 at hf
  obtain ⟨u_1, hg_2, hf⟩ := pa_bd hf
  refine pa_ki (wc := (wo_X10_moves cI cJ a_m a_mt a_ml a_mr a_mx a_mf a_mg a_mw a_mh v_m_thrown v_m_trace v_m_typed v_m_next v_m_token v_m_place v_m_value v_m_fault v_m_finds v_m_weeks v_m_rows v_m_cardPrice v_m_lotPrice v_m_sure v_m_up v_m_down v_mw)) (wr := ([] : va_W)) (w1 := (wo_X10_moves cI cJ a_m a_mt a_ml a_mr a_mx a_mf a_mg a_mw a_mh v_m_thrown v_m_trace v_m_typed v_m_next v_m_token v_m_place v_m_value v_m_fault v_m_finds v_m_weeks v_m_rows v_m_cardPrice v_m_lotPrice v_m_sure v_m_up v_m_down v_mw)) (w2 := (wo_X10_turn cI cJ a_m a_mt a_ml a_mr a_mx a_mf a_mg a_mw a_mh v_m_thrown v_m_trace v_m_typed v_m_next v_m_token v_m_place v_m_value v_m_fault v_m_finds v_m_weeks v_m_rows v_m_cardPrice v_m_lotPrice v_m_sure v_m_up v_m_down v_mw)) X hP hD hS [0, 1] [] [0, 1] rfl (pa_rV (As := [.int s1, .int s2]) (rest := []) (T := TX10) X hP hD hS [0, 1] rfl rfl (c_X10_moves hg_2 H.size) (cwV 2 hts gX10_turn_X10_moves rfl rfl rfl (by decide +kernel) ⟨Nat.le_of_ble_eq_true rfl, Nat.le_of_ble_eq_true rfl⟩) (q0 := 0) rfl rfl rfl hl.1 rfl (Nat.le_of_ble_eq_true rfl) dX10_turn_35 ⟨Nat.zero_le _, Nat.zero_le _⟩) rfl rfl (by decide) rfl rfl (fun H locs hP hD hS => ?_)
  refine lv_goto (tgt := 42) hx hb dX10_turn_38 (by decide) ?_
  obtain rfl := Option.some.inj hf
  exact pa_ei X hP hD hS dX10_turn_42
set_option maxHeartbeats 4000000 in
set_option maxRecDepth 100000 in
theorem w_X10_turn_b0 {l : Launch} {D : va_G} {cI cJ : ClassId} {g : pa_GT} {a_m a_mt a_ml a_mr a_mx a_mf a_mg a_mw a_mh : Nat} {A : Nat → Prop} {p : Program} {e : Env} {s : State} {m : MethodId} {args : Array Value} {below : List Frame} {meth : Method} {c : Code} {x1 : Int32} {x2 : Int32} {v_m_weeks : Int32} {v_mw : Nat → Int32} {v_m_thrown : Int32} {v_m_trace : Int64} {v_m_typed : Int32} {v_m_next : Int32} {v_m_token : Int32} {v_m_place : Int32} {v_m_value : Int32} {v_m_fault : Int32} {v_m_finds : Int32} {v_m_rows : Int32} {v_m_cardPrice : Int32} {v_m_lotPrice : Int32} {v_m_sure : Int32} {v_m_up : Int64} {v_m_down : Int64} {o : Int32 × Int32} (X : pa_X cX10_turn 3 (some .int) RX10 wsX10_turn D cI cJ g A p s m args meth c)  (hf : f_X10_turn x1 x2 v_m_weeks v_mw = some o) {H : Heap} {locs : List Loc} (hP : va_P D vwCl (wo_X10_turn cI cJ a_m a_mt a_ml a_mr a_mx a_mf a_mg a_mw a_mh v_m_thrown v_m_trace v_m_typed v_m_next v_m_token v_m_place v_m_value v_m_fault v_m_finds v_m_weeks v_m_rows v_m_cardPrice v_m_lotPrice v_m_sure v_m_up v_m_down v_mw) H) (hD : va_D A (wo_X10_turn cI cJ a_m a_mt a_ml a_mr a_mx a_mf a_mg a_mw a_mh v_m_thrown v_m_trace v_m_typed v_m_next v_m_token v_m_place v_m_value v_m_fault v_m_finds v_m_weeks v_m_rows v_m_cardPrice v_m_lotPrice v_m_sure v_m_up v_m_down v_mw)) (hS : va_S A s.heap H locs) {ls : Array Slot} (hl : lv_has ls 3 [(0, .ref a_m), (1, .int x1), (2, .int x2)]) : W p l e (headSpec wsX10_turn rm_X10_turn).room s m args below meth c H locs 0 0 (MQ below (va_Qi (fun r (_ : Unit) => r = o.1) (pa_QB D A (wo_X10_turn cI cJ a_m a_mt a_ml a_mr a_mx a_mf a_mg a_mw a_mh o.2 v_m_trace v_m_typed v_m_next v_m_token v_m_place v_m_value v_m_fault v_m_finds v_m_weeks v_m_rows v_m_cardPrice v_m_lotPrice v_m_sure v_m_up v_m_down v_mw)) A) args s 0 0 A) (F0 m 0 ls []) := by
  obtain ⟨hx, hb, hr, hml, hown, hts, hK, hA, hG, hlk⟩ := id X
  delta f_X10_turn at hf
  refine lv_aload_n hx hb dX10_turn_0 rfl (lv_at hl 0 rfl) ?_
  refine lv_iconst (v := (0 : Int32)) hx hb dX10_turn_1 (by decide) ?_
  refine va_put (D := D) (ci := 9) (v := .int (0 : Int32)) (ty := .int) (C := RX10) (T := TX10) (N := 24) hx hb hts il_X10_turn_X10 tyX10 tyX10_ok nmX10 hown hK hP hD hS 0 rfl rfl 0 (by decide) (hts _ fk_X10_turn_0) (fun _ h9 => h9) rfl (tyX10_ok 0 (by decide)) rfl rfl (Nat.le_of_ble_eq_true rfl) dX10_turn_2 (fun H locs hP hD hS => ?_)
  have hP : va_P D vwCl (wo_X10_turn cI cJ a_m a_mt a_ml a_mr a_mx a_mf a_mg a_mw a_mh (0 : Int32) v_m_trace v_m_typed v_m_next v_m_token v_m_place v_m_value v_m_fault v_m_finds v_m_weeks v_m_rows v_m_cardPrice v_m_lotPrice v_m_sure v_m_up v_m_down v_mw) H := hP
  have hD : va_D A (wo_X10_turn cI cJ a_m a_mt a_ml a_mr a_mx a_mf a_mg a_mw a_mh (0 : Int32) v_m_trace v_m_typed v_m_next v_m_token v_m_place v_m_value v_m_fault v_m_finds v_m_weeks v_m_rows v_m_cardPrice v_m_lotPrice v_m_sure v_m_up v_m_down v_mw) := hD
  refine lv_iload_n hx hb dX10_turn_5 rfl (lv_at hl 1 rfl) ?_
  refine lv_iconst (v := (1 : Int32)) hx hb dX10_turn_6 (by decide) ?_
  refine lv_bipush (v := (60 : Int32)) hx hb dX10_turn_7 (by decide) ?_
  obtain ⟨u_3, hg_4, hf⟩ := pa_bd hf
  refine pa_ki (wc := ([] : va_W)) (wr := [(a_m, .inr (9, [.int (0 : Int32), .long v_m_trace, .ref a_mt, .ref a_ml, .ref a_mr, .ref a_mx, .int v_m_typed, .int v_m_next, .int v_m_token, .int v_m_place, .int v_m_value, .int v_m_fault, .int v_m_finds, .ref a_mf, .ref a_mg, .int v_m_weeks, .ref a_mw, .int v_m_rows, .ref a_mh, .int v_m_cardPrice, .int v_m_lotPrice, .int v_m_sure, .long v_m_up, .long v_m_down])), (a_mw, .inl (cI, 60, .inl v_mw))]) (w1 := ([] : va_W)) (w2 := (wo_X10_turn cI cJ a_m a_mt a_ml a_mr a_mx a_mf a_mg a_mw a_mh (0 : Int32) v_m_trace v_m_typed v_m_next v_m_token v_m_place v_m_value v_m_fault v_m_finds v_m_weeks v_m_rows v_m_cardPrice v_m_lotPrice v_m_sure v_m_up v_m_down v_mw)) X hP hD hS [] [0, 1] [0, 1] rfl (pa_rS (As := [.int x1, .int (1 : Int32), .int (60 : Int32)]) (rest := []) X hP hD hS [] rfl rfl (c_X10_in hg_4 H.size) (va_cwS 3 hts gX10_turn_X10_in rfl rfl rfl (by decide +kernel) ⟨Nat.le_of_ble_eq_true rfl, Nat.le_of_ble_eq_true rfl⟩) rfl hl.1 rfl (Nat.le_of_ble_eq_true rfl) dX10_turn_9 ⟨Nat.zero_le _, Nat.zero_le _⟩) rfl rfl (by decide) rfl rfl (fun H locs hP hD hS => ?_)
  refine lv_if_eq (tgt := 41) hx hb dX10_turn_12 (by decide) (fun c_5 => ?_) (fun c_5 => ?_)
  · have hf := (if_pos c_5).symm.trans hf
    refine lv_iconst (v := (-1 : Int32)) hx hb dX10_turn_41 (by decide) ?_
    obtain rfl := Option.some.inj hf
    exact pa_ei X hP hD hS dX10_turn_42
  · have hf := (if_neg c_5).symm.trans hf
    refine lv_iload_n hx hb dX10_turn_15 rfl (lv_at hl 2 rfl) ?_
    refine lv_iconst (v := (0 : Int32)) hx hb dX10_turn_16 (by decide) ?_
    refine lv_iconst (v := (1 : Int32)) hx hb dX10_turn_17 (by decide) ?_
    obtain ⟨u_6, hg_7, hf⟩ := pa_bd hf
    refine pa_ki (wc := ([] : va_W)) (wr := [(a_m, .inr (9, [.int (0 : Int32), .long v_m_trace, .ref a_mt, .ref a_ml, .ref a_mr, .ref a_mx, .int v_m_typed, .int v_m_next, .int v_m_token, .int v_m_place, .int v_m_value, .int v_m_fault, .int v_m_finds, .ref a_mf, .ref a_mg, .int v_m_weeks, .ref a_mw, .int v_m_rows, .ref a_mh, .int v_m_cardPrice, .int v_m_lotPrice, .int v_m_sure, .long v_m_up, .long v_m_down])), (a_mw, .inl (cI, 60, .inl v_mw))]) (w1 := ([] : va_W)) (w2 := (wo_X10_turn cI cJ a_m a_mt a_ml a_mr a_mx a_mf a_mg a_mw a_mh (0 : Int32) v_m_trace v_m_typed v_m_next v_m_token v_m_place v_m_value v_m_fault v_m_finds v_m_weeks v_m_rows v_m_cardPrice v_m_lotPrice v_m_sure v_m_up v_m_down v_mw)) X hP hD hS [] [0, 1] [0, 1] rfl (pa_rS (As := [.int x2, .int (0 : Int32), .int (1 : Int32)]) (rest := []) X hP hD hS [] rfl rfl (c_X10_in hg_7 H.size) (va_cwS 3 hts gX10_turn_X10_in rfl rfl rfl (by decide +kernel) ⟨Nat.le_of_ble_eq_true rfl, Nat.le_of_ble_eq_true rfl⟩) rfl hl.1 rfl (Nat.le_of_ble_eq_true rfl) dX10_turn_18 ⟨Nat.zero_le _, Nat.zero_le _⟩) rfl rfl (by decide) rfl rfl (fun H locs hP hD hS => ?_)
    refine lv_if_eq (tgt := 41) hx hb dX10_turn_21 (by decide) (fun c_8 => ?_) (fun c_8 => ?_)
    · have hf := (if_pos c_8).symm.trans hf
      refine lv_iconst (v := (-1 : Int32)) hx hb dX10_turn_41 (by decide) ?_
      obtain rfl := Option.some.inj hf
      exact pa_ei X hP hD hS dX10_turn_42
    · have hf := (if_neg c_8).symm.trans hf
      refine lv_aload_n hx hb dX10_turn_24 rfl (lv_at hl 0 rfl) ?_
      refine lv_iload_n hx hb dX10_turn_25 rfl (lv_at hl 1 rfl) ?_
      refine lv_iload_n hx hb dX10_turn_26 rfl (lv_at hl 2 rfl) ?_
      refine lv_if_ne (tgt := 34) hx hb dX10_turn_27 (by decide) (fun c_9 => ?_) (fun c_9 => ?_)
      · have hf := (if_neg c_9).symm.trans hf
        refine lv_iconst (v := (-1 : Int32)) hx hb dX10_turn_34 (by decide) ?_
        exact w_X10_turn_b35 X  hf hP hD hS (lv_sub hl [] rfl)
      · have hf := (if_pos c_9).symm.trans hf
        refine lv_iconst (v := (1 : Int32)) hx hb dX10_turn_30 (by decide) ?_
        refine lv_goto (tgt := 35) hx hb dX10_turn_31 (by decide) ?_
        exact w_X10_turn_b35 X  hf hP hD hS (lv_sub hl [] rfl)
set_option maxHeartbeats 4000000 in
set_option maxRecDepth 100000 in
theorem c_X10_turn {l : Launch} {D : va_G} {cI cJ : ClassId} {g : pa_GT} {a_m a_mt a_ml a_mr a_mx a_mf a_mg a_mw a_mh : Nat} {x1 : Int32} {x2 : Int32} {v_m_thrown : Int32} {v_m_trace : Int64} {v_m_typed : Int32} {v_m_next : Int32} {v_m_token : Int32} {v_m_place : Int32} {v_m_value : Int32} {v_m_fault : Int32} {v_m_finds : Int32} {v_m_weeks : Int32} {v_m_rows : Int32} {v_m_cardPrice : Int32} {v_m_lotPrice : Int32} {v_m_sure : Int32} {v_m_up : Int64} {v_m_down : Int64} {v_mw : Nat → Int32} {o : Int32 × Int32} (hf : f_X10_turn x1 x2 v_m_weeks v_mw = some o) : pa_Mi l yX10_turn wsX10_turn rm_X10_turn D cI cJ g [.ref a_m, .int x1, .int x2] (wo_X10_turn cI cJ a_m a_mt a_ml a_mr a_mx a_mf a_mg a_mw a_mh v_m_thrown v_m_trace v_m_typed v_m_next v_m_token v_m_place v_m_value v_m_fault v_m_finds v_m_weeks v_m_rows v_m_cardPrice v_m_lotPrice v_m_sure v_m_up v_m_down v_mw) (wo_X10_turn cI cJ a_m a_mt a_ml a_mr a_mx a_mf a_mg a_mw a_mh o.2 v_m_trace v_m_typed v_m_next v_m_token v_m_place v_m_value v_m_fault v_m_finds v_m_weeks v_m_rows v_m_cardPrice v_m_lotPrice v_m_sure v_m_up v_m_down v_mw) o.1 := by
  intro sz
  refine pa_met (cc := cX10_turn) (maxL := 3) (ret := (some .int)) (lv := [(0, .ref a_m), (1, .int x1), (2, .int x2)]) (by decide) rfl (Nat.le_of_ble_eq_true rfl) rfl ?_
  intro p e s m below meth c X hsz hP hD ls hl
  subst hsz
  exact w_X10_turn_b0 X hf hP hD va_S.rf hl
abbrev wo_X10_stops (cI cJ : ClassId) (a_m a_mt a_ml a_mr a_mx a_mf a_mg a_mw a_mh : Nat) (v_m_thrown : Int32) (v_m_trace : Int64) (v_m_typed : Int32) (v_m_next : Int32) (v_m_token : Int32) (v_m_place : Int32) (v_m_value : Int32) (v_m_fault : Int32) (v_m_finds : Int32) (v_m_weeks : Int32) (v_m_rows : Int32) (v_m_cardPrice : Int32) (v_m_lotPrice : Int32) (v_m_sure : Int32) (v_m_up : Int64) (v_m_down : Int64) (v_mw : Nat → Int32) : va_W := [(a_m, .inr (9, [.int v_m_thrown, .long v_m_trace, .ref a_mt, .ref a_ml, .ref a_mr, .ref a_mx, .int v_m_typed, .int v_m_next, .int v_m_token, .int v_m_place, .int v_m_value, .int v_m_fault, .int v_m_finds, .ref a_mf, .ref a_mg, .int v_m_weeks, .ref a_mw, .int v_m_rows, .ref a_mh, .int v_m_cardPrice, .int v_m_lotPrice, .int v_m_sure, .long v_m_up, .long v_m_down])), (a_mw, .inl (cI, 60, .inl v_mw))]
abbrev rm_X10_stops : Room := { frames := 1, cells := 0, slots := 0, locals := 25 }
theorem il_X10_stops_X10 : ∀ w ∈ wsX100, w ∈ wsX10_stops := by decide +kernel
theorem fk_X10_stops_0 : Cond.fieldLink RX10 29 "PostedAsksModel" "week" "[I" ∈ wsX10_stops := by decide +kernel
theorem fk_X10_stops_1 : Cond.fieldLink RX10 160 "PostedAsksModel" "weeks" "I" ∈ wsX10_stops := by decide +kernel
theorem fk_X10_stops_2 : Cond.fieldLink RX10 45 "PostedAsksModel" "thrown" "I" ∈ wsX10_stops := by decide +kernel
def f_X10_stops_b99 (rec20 : Int32 → Int32 → Option (Int32 × Int32)) (x1 : Int32) (s0 : Int32) (v_m_thrown : Int32) (v_m_weeks : Int32) (v_mw : Nat → Int32) : Option (Int32 × Int32) :=
  if s0 = 0 then
    rec20 (x1 + (0 : Int32)) s0
  else
    rec20 (x1 + (1 : Int32)) s0
def f_X10_stops_b98 (rec20 : Int32 → Int32 → Option (Int32 × Int32)) (x1 : Int32) (v_m_thrown : Int32) (v_m_weeks : Int32) (v_mw : Nat → Int32) : Option (Int32 × Int32) :=
  f_X10_stops_b99 rec20 x1 (0 : Int32) v_m_thrown v_m_weeks v_mw
def f_X10_stops_b94 (rec20 : Int32 → Int32 → Option (Int32 × Int32)) (x1 : Int32) (v_m_thrown : Int32) (v_m_weeks : Int32) (v_mw : Nat → Int32) : Option (Int32 × Int32) :=
  f_X10_stops_b99 rec20 x1 (1 : Int32) v_m_thrown v_m_weeks v_mw
def f_X10_stops_b52 (rec20 : Int32 → Int32 → Option (Int32 × Int32)) (x1 : Int32) (x3 : Int32) (s1 : Int32) (s2 : Int32) (v_m_thrown : Int32) (v_m_weeks : Int32) (v_mw : Nat → Int32) : Option (Int32 × Int32) :=
  (f_X10_moves s1 s2 v_m_weeks v_mw).bind fun u_2 =>
  if u_2 = (-9 : Int32) then
    f_X10_stops_b98 rec20 x1 v_m_thrown v_m_weeks v_mw
  else
    if x3 < (500 : Int32) then
      if (500 : Int32) ≤ (x3 + u_2) then
        f_X10_stops_b98 rec20 x1 v_m_thrown v_m_weeks v_mw
      else
        f_X10_stops_b94 rec20 x1 v_m_thrown v_m_weeks v_mw
    else
      if (x3 - u_2) < (500 : Int32) then
        f_X10_stops_b98 rec20 x1 v_m_thrown v_m_weeks v_mw
      else
        f_X10_stops_b94 rec20 x1 v_m_thrown v_m_weeks v_mw
def f_X10_stops_L20_body (v_m_thrown : Int32) (v_m_weeks : Int32) (v_mw : Nat → Int32) (rec20 : Int32 → Int32 → Option (Int32 × Int32)) (x1 : Int32) (x2 : Int32) : Option (Int32 × Int32) :=
  if x2 = 0 then
    some (x1, v_m_thrown)
  else
    if pa_ib (v_m_weeks - (1 : Int32)) 60 = true then
      if (v_mw (Int32.toNatClampNeg (v_m_weeks - (1 : Int32)))) < (500 : Int32) then
        f_X10_stops_b52 rec20 x1 (v_mw (Int32.toNatClampNeg (v_m_weeks - (1 : Int32)))) (x1 + (1 : Int32)) (1 : Int32) v_m_thrown v_m_weeks v_mw
      else
        f_X10_stops_b52 rec20 x1 (v_mw (Int32.toNatClampNeg (v_m_weeks - (1 : Int32)))) (x1 + (1 : Int32)) (-1 : Int32) v_m_thrown v_m_weeks v_mw
    else none
def f_X10_stops_L20 (v_m_thrown : Int32) (v_m_weeks : Int32) (v_mw : Nat → Int32) : Nat → Int32 → Int32 → Option (Int32 × Int32)
  | 0 => fun _ _ => none
  | n + 1 => f_X10_stops_L20_body v_m_thrown v_m_weeks v_mw (f_X10_stops_L20 v_m_thrown v_m_weeks v_mw n)
def f_X10_stops (v_m_weeks : Int32) (v_mw : Nat → Int32) : Option (Int32 × Int32) :=
  if v_m_weeks ≤ 0 then
    f_X10_stops_L20 (0 : Int32) v_m_weeks v_mw pa_fu (0 : Int32) (0 : Int32)
  else
    f_X10_stops_L20 (0 : Int32) v_m_weeks v_mw pa_fu (0 : Int32) (1 : Int32)
set_option maxHeartbeats 4000000 in
set_option maxRecDepth 100000 in
theorem w_X10_stops_b99 {l : Launch} {D : va_G} {cI cJ : ClassId} {g : pa_GT} {a_m a_mt a_ml a_mr a_mx a_mf a_mg a_mw a_mh : Nat} {A : Nat → Prop} {p : Program} {e : Env} {s : State} {m : MethodId} {args : Array Value} {below : List Frame} {meth : Method} {c : Code} {x1 : Int32} {s0 : Int32} {v_m_thrown : Int32} {v_m_weeks : Int32} {v_mw : Nat → Int32} {v_m_trace : Int64} {v_m_typed : Int32} {v_m_next : Int32} {v_m_token : Int32} {v_m_place : Int32} {v_m_value : Int32} {v_m_fault : Int32} {v_m_finds : Int32} {v_m_rows : Int32} {v_m_cardPrice : Int32} {v_m_lotPrice : Int32} {v_m_sure : Int32} {v_m_up : Int64} {v_m_down : Int64} {o : Int32 × Int32} (X : pa_X cX10_stops 5 (some .int) RX10 wsX10_stops D cI cJ g A p s m args meth c) {rec20 : Int32 → Int32 → Option (Int32 × Int32)} (hrec20 : ∀ (x1 : Int32) (x2 : Int32), rec20 x1 x2 = some o → ∀ (H : Heap) (locs : List Loc) , va_P D vwCl (wo_X10_stops cI cJ a_m a_mt a_ml a_mr a_mx a_mf a_mg a_mw a_mh v_m_thrown v_m_trace v_m_typed v_m_next v_m_token v_m_place v_m_value v_m_fault v_m_finds v_m_weeks v_m_rows v_m_cardPrice v_m_lotPrice v_m_sure v_m_up v_m_down v_mw) H → va_D A (wo_X10_stops cI cJ a_m a_mt a_ml a_mr a_mx a_mf a_mg a_mw a_mh v_m_thrown v_m_trace v_m_typed v_m_next v_m_token v_m_place v_m_value v_m_fault v_m_finds v_m_weeks v_m_rows v_m_cardPrice v_m_lotPrice v_m_sure v_m_up v_m_down v_mw) → va_S A s.heap H locs → ∀ (ls : Array Slot), lv_has ls 5 [(0, .ref a_m), (1, .int x1), (2, .int x2)] → W p l e (headSpec wsX10_stops rm_X10_stops).room s m args below meth c H locs 0 0 (MQ below (va_Qi (fun r (_ : Unit) => r = o.1) (pa_QB D A (wo_X10_stops cI cJ a_m a_mt a_ml a_mr a_mx a_mf a_mg a_mw a_mh o.2 v_m_trace v_m_typed v_m_next v_m_token v_m_place v_m_value v_m_fault v_m_finds v_m_weeks v_m_rows v_m_cardPrice v_m_lotPrice v_m_sure v_m_up v_m_down v_mw)) A) args s 0 0 A) (F0 m 20 ls [])) (hf : f_X10_stops_b99 rec20 x1 s0 v_m_thrown v_m_weeks v_mw = some o) {H : Heap} {locs : List Loc} (hP : va_P D vwCl (wo_X10_stops cI cJ a_m a_mt a_ml a_mr a_mx a_mf a_mg a_mw a_mh v_m_thrown v_m_trace v_m_typed v_m_next v_m_token v_m_place v_m_value v_m_fault v_m_finds v_m_weeks v_m_rows v_m_cardPrice v_m_lotPrice v_m_sure v_m_up v_m_down v_mw) H) (hD : va_D A (wo_X10_stops cI cJ a_m a_mt a_ml a_mr a_mx a_mf a_mg a_mw a_mh v_m_thrown v_m_trace v_m_typed v_m_next v_m_token v_m_place v_m_value v_m_fault v_m_finds v_m_weeks v_m_rows v_m_cardPrice v_m_lotPrice v_m_sure v_m_up v_m_down v_mw)) (hS : va_S A s.heap H locs) {ls : Array Slot} (hl : lv_has ls 5 [(0, .ref a_m), (1, .int x1)]) : W p l e (headSpec wsX10_stops rm_X10_stops).room s m args below meth c H locs 0 0 (MQ below (va_Qi (fun r (_ : Unit) => r = o.1) (pa_QB D A (wo_X10_stops cI cJ a_m a_mt a_ml a_mr a_mx a_mf a_mg a_mw a_mh o.2 v_m_trace v_m_typed v_m_next v_m_token v_m_place v_m_value v_m_fault v_m_finds v_m_weeks v_m_rows v_m_cardPrice v_m_lotPrice v_m_sure v_m_up v_m_down v_mw)) A) args s 0 0 A) (F0 m 99 ls [.int s0]) := by
  obtain ⟨hx, hb, hr, hml, hown, hts, hK, hA, hG, hlk⟩ := id X
  delta f_X10_stops_b99 at hf
  refine lv_istore_n (lv' := [(2, .int s0), (0, .ref a_m), (1, .int x1)]) hx hb dX10_stops_99 rfl hl (by decide) rfl (fun ls hl => ?_)
  refine lv_iload_n hx hb dX10_stops_100 rfl (lv_at hl 2 rfl) ?_
  refine lv_iload_n hx hb dX10_stops_101 rfl (lv_at hl 0 rfl) ?_
  refine lv_if_eq (tgt := 109) hx hb dX10_stops_102 (by decide) (fun c_1 => ?_) (fun c_1 => ?_)
  · have hf := (if_pos c_1).symm.trans hf
    refine lv_iconst (v := (0 : Int32)) hx hb dX10_stops_109 (by decide) ?_
    refine lv_iadd hx hb dX10_stops_110 ?_
    refine lv_istore_n (lv' := [(1, .int (x1 + (0 : Int32))), (2, .int s0), (0, .ref a_m)]) hx hb dX10_stops_111 rfl hl (by decide) rfl (fun ls hl => ?_)
    refine lv_goto (tgt := 20) hx hb dX10_stops_112 (by decide) ?_
    exact hrec20 _ _ hf _ _  hP hD hS _ (lv_sub hl [2, 0, 1] rfl)
  · have hf := (if_neg c_1).symm.trans hf
    refine lv_iconst (v := (1 : Int32)) hx hb dX10_stops_105 (by decide) ?_
    refine lv_goto (tgt := 110) hx hb dX10_stops_106 (by decide) ?_
    refine lv_iadd hx hb dX10_stops_110 ?_
    refine lv_istore_n (lv' := [(1, .int (x1 + (1 : Int32))), (2, .int s0), (0, .ref a_m)]) hx hb dX10_stops_111 rfl hl (by decide) rfl (fun ls hl => ?_)
    refine lv_goto (tgt := 20) hx hb dX10_stops_112 (by decide) ?_
    exact hrec20 _ _ hf _ _  hP hD hS _ (lv_sub hl [2, 0, 1] rfl)
set_option maxHeartbeats 4000000 in
set_option maxRecDepth 100000 in
theorem w_X10_stops_b98 {l : Launch} {D : va_G} {cI cJ : ClassId} {g : pa_GT} {a_m a_mt a_ml a_mr a_mx a_mf a_mg a_mw a_mh : Nat} {A : Nat → Prop} {p : Program} {e : Env} {s : State} {m : MethodId} {args : Array Value} {below : List Frame} {meth : Method} {c : Code} {x1 : Int32} {v_m_thrown : Int32} {v_m_weeks : Int32} {v_mw : Nat → Int32} {v_m_trace : Int64} {v_m_typed : Int32} {v_m_next : Int32} {v_m_token : Int32} {v_m_place : Int32} {v_m_value : Int32} {v_m_fault : Int32} {v_m_finds : Int32} {v_m_rows : Int32} {v_m_cardPrice : Int32} {v_m_lotPrice : Int32} {v_m_sure : Int32} {v_m_up : Int64} {v_m_down : Int64} {o : Int32 × Int32} (X : pa_X cX10_stops 5 (some .int) RX10 wsX10_stops D cI cJ g A p s m args meth c) {rec20 : Int32 → Int32 → Option (Int32 × Int32)} (hrec20 : ∀ (x1 : Int32) (x2 : Int32), rec20 x1 x2 = some o → ∀ (H : Heap) (locs : List Loc) , va_P D vwCl (wo_X10_stops cI cJ a_m a_mt a_ml a_mr a_mx a_mf a_mg a_mw a_mh v_m_thrown v_m_trace v_m_typed v_m_next v_m_token v_m_place v_m_value v_m_fault v_m_finds v_m_weeks v_m_rows v_m_cardPrice v_m_lotPrice v_m_sure v_m_up v_m_down v_mw) H → va_D A (wo_X10_stops cI cJ a_m a_mt a_ml a_mr a_mx a_mf a_mg a_mw a_mh v_m_thrown v_m_trace v_m_typed v_m_next v_m_token v_m_place v_m_value v_m_fault v_m_finds v_m_weeks v_m_rows v_m_cardPrice v_m_lotPrice v_m_sure v_m_up v_m_down v_mw) → va_S A s.heap H locs → ∀ (ls : Array Slot), lv_has ls 5 [(0, .ref a_m), (1, .int x1), (2, .int x2)] → W p l e (headSpec wsX10_stops rm_X10_stops).room s m args below meth c H locs 0 0 (MQ below (va_Qi (fun r (_ : Unit) => r = o.1) (pa_QB D A (wo_X10_stops cI cJ a_m a_mt a_ml a_mr a_mx a_mf a_mg a_mw a_mh o.2 v_m_trace v_m_typed v_m_next v_m_token v_m_place v_m_value v_m_fault v_m_finds v_m_weeks v_m_rows v_m_cardPrice v_m_lotPrice v_m_sure v_m_up v_m_down v_mw)) A) args s 0 0 A) (F0 m 20 ls [])) (hf : f_X10_stops_b98 rec20 x1 v_m_thrown v_m_weeks v_mw = some o) {H : Heap} {locs : List Loc} (hP : va_P D vwCl (wo_X10_stops cI cJ a_m a_mt a_ml a_mr a_mx a_mf a_mg a_mw a_mh v_m_thrown v_m_trace v_m_typed v_m_next v_m_token v_m_place v_m_value v_m_fault v_m_finds v_m_weeks v_m_rows v_m_cardPrice v_m_lotPrice v_m_sure v_m_up v_m_down v_mw) H) (hD : va_D A (wo_X10_stops cI cJ a_m a_mt a_ml a_mr a_mx a_mf a_mg a_mw a_mh v_m_thrown v_m_trace v_m_typed v_m_next v_m_token v_m_place v_m_value v_m_fault v_m_finds v_m_weeks v_m_rows v_m_cardPrice v_m_lotPrice v_m_sure v_m_up v_m_down v_mw)) (hS : va_S A s.heap H locs) {ls : Array Slot} (hl : lv_has ls 5 [(0, .ref a_m), (1, .int x1)]) : W p l e (headSpec wsX10_stops rm_X10_stops).room s m args below meth c H locs 0 0 (MQ below (va_Qi (fun r (_ : Unit) => r = o.1) (pa_QB D A (wo_X10_stops cI cJ a_m a_mt a_ml a_mr a_mx a_mf a_mg a_mw a_mh o.2 v_m_trace v_m_typed v_m_next v_m_token v_m_place v_m_value v_m_fault v_m_finds v_m_weeks v_m_rows v_m_cardPrice v_m_lotPrice v_m_sure v_m_up v_m_down v_mw)) A) args s 0 0 A) (F0 m 98 ls []) := by
  obtain ⟨hx, hb, hr, hml, hown, hts, hK, hA, hG, hlk⟩ := id X
  delta f_X10_stops_b98 at hf
  refine lv_iconst (v := (0 : Int32)) hx hb dX10_stops_98 (by decide) ?_
  exact w_X10_stops_b99 X hrec20 hf hP hD hS (lv_sub hl [0, 1] rfl)
set_option maxHeartbeats 4000000 in
set_option maxRecDepth 100000 in
theorem w_X10_stops_b94 {l : Launch} {D : va_G} {cI cJ : ClassId} {g : pa_GT} {a_m a_mt a_ml a_mr a_mx a_mf a_mg a_mw a_mh : Nat} {A : Nat → Prop} {p : Program} {e : Env} {s : State} {m : MethodId} {args : Array Value} {below : List Frame} {meth : Method} {c : Code} {x1 : Int32} {v_m_thrown : Int32} {v_m_weeks : Int32} {v_mw : Nat → Int32} {v_m_trace : Int64} {v_m_typed : Int32} {v_m_next : Int32} {v_m_token : Int32} {v_m_place : Int32} {v_m_value : Int32} {v_m_fault : Int32} {v_m_finds : Int32} {v_m_rows : Int32} {v_m_cardPrice : Int32} {v_m_lotPrice : Int32} {v_m_sure : Int32} {v_m_up : Int64} {v_m_down : Int64} {o : Int32 × Int32} (X : pa_X cX10_stops 5 (some .int) RX10 wsX10_stops D cI cJ g A p s m args meth c) {rec20 : Int32 → Int32 → Option (Int32 × Int32)} (hrec20 : ∀ (x1 : Int32) (x2 : Int32), rec20 x1 x2 = some o → ∀ (H : Heap) (locs : List Loc) , va_P D vwCl (wo_X10_stops cI cJ a_m a_mt a_ml a_mr a_mx a_mf a_mg a_mw a_mh v_m_thrown v_m_trace v_m_typed v_m_next v_m_token v_m_place v_m_value v_m_fault v_m_finds v_m_weeks v_m_rows v_m_cardPrice v_m_lotPrice v_m_sure v_m_up v_m_down v_mw) H → va_D A (wo_X10_stops cI cJ a_m a_mt a_ml a_mr a_mx a_mf a_mg a_mw a_mh v_m_thrown v_m_trace v_m_typed v_m_next v_m_token v_m_place v_m_value v_m_fault v_m_finds v_m_weeks v_m_rows v_m_cardPrice v_m_lotPrice v_m_sure v_m_up v_m_down v_mw) → va_S A s.heap H locs → ∀ (ls : Array Slot), lv_has ls 5 [(0, .ref a_m), (1, .int x1), (2, .int x2)] → W p l e (headSpec wsX10_stops rm_X10_stops).room s m args below meth c H locs 0 0 (MQ below (va_Qi (fun r (_ : Unit) => r = o.1) (pa_QB D A (wo_X10_stops cI cJ a_m a_mt a_ml a_mr a_mx a_mf a_mg a_mw a_mh o.2 v_m_trace v_m_typed v_m_next v_m_token v_m_place v_m_value v_m_fault v_m_finds v_m_weeks v_m_rows v_m_cardPrice v_m_lotPrice v_m_sure v_m_up v_m_down v_mw)) A) args s 0 0 A) (F0 m 20 ls [])) (hf : f_X10_stops_b94 rec20 x1 v_m_thrown v_m_weeks v_mw = some o) {H : Heap} {locs : List Loc} (hP : va_P D vwCl (wo_X10_stops cI cJ a_m a_mt a_ml a_mr a_mx a_mf a_mg a_mw a_mh v_m_thrown v_m_trace v_m_typed v_m_next v_m_token v_m_place v_m_value v_m_fault v_m_finds v_m_weeks v_m_rows v_m_cardPrice v_m_lotPrice v_m_sure v_m_up v_m_down v_mw) H) (hD : va_D A (wo_X10_stops cI cJ a_m a_mt a_ml a_mr a_mx a_mf a_mg a_mw a_mh v_m_thrown v_m_trace v_m_typed v_m_next v_m_token v_m_place v_m_value v_m_fault v_m_finds v_m_weeks v_m_rows v_m_cardPrice v_m_lotPrice v_m_sure v_m_up v_m_down v_mw)) (hS : va_S A s.heap H locs) {ls : Array Slot} (hl : lv_has ls 5 [(0, .ref a_m), (1, .int x1)]) : W p l e (headSpec wsX10_stops rm_X10_stops).room s m args below meth c H locs 0 0 (MQ below (va_Qi (fun r (_ : Unit) => r = o.1) (pa_QB D A (wo_X10_stops cI cJ a_m a_mt a_ml a_mr a_mx a_mf a_mg a_mw a_mh o.2 v_m_trace v_m_typed v_m_next v_m_token v_m_place v_m_value v_m_fault v_m_finds v_m_weeks v_m_rows v_m_cardPrice v_m_lotPrice v_m_sure v_m_up v_m_down v_mw)) A) args s 0 0 A) (F0 m 94 ls []) := by
  obtain ⟨hx, hb, hr, hml, hown, hts, hK, hA, hG, hlk⟩ := id X
  delta f_X10_stops_b94 at hf
  refine lv_iconst (v := (1 : Int32)) hx hb dX10_stops_94 (by decide) ?_
  refine lv_goto (tgt := 99) hx hb dX10_stops_95 (by decide) ?_
  exact w_X10_stops_b99 X hrec20 hf hP hD hS (lv_sub hl [0, 1] rfl)
set_option maxHeartbeats 4000000 in
set_option maxRecDepth 100000 in
theorem w_X10_stops_b52 {l : Launch} {D : va_G} {cI cJ : ClassId} {g : pa_GT} {a_m a_mt a_ml a_mr a_mx a_mf a_mg a_mw a_mh : Nat} {A : Nat → Prop} {p : Program} {e : Env} {s : State} {m : MethodId} {args : Array Value} {below : List Frame} {meth : Method} {c : Code} {x1 : Int32} {x3 : Int32} {s1 : Int32} {s2 : Int32} {v_m_thrown : Int32} {v_m_weeks : Int32} {v_mw : Nat → Int32} {v_m_trace : Int64} {v_m_typed : Int32} {v_m_next : Int32} {v_m_token : Int32} {v_m_place : Int32} {v_m_value : Int32} {v_m_fault : Int32} {v_m_finds : Int32} {v_m_rows : Int32} {v_m_cardPrice : Int32} {v_m_lotPrice : Int32} {v_m_sure : Int32} {v_m_up : Int64} {v_m_down : Int64} {o : Int32 × Int32} (X : pa_X cX10_stops 5 (some .int) RX10 wsX10_stops D cI cJ g A p s m args meth c) {rec20 : Int32 → Int32 → Option (Int32 × Int32)} (hrec20 : ∀ (x1 : Int32) (x2 : Int32), rec20 x1 x2 = some o → ∀ (H : Heap) (locs : List Loc) , va_P D vwCl (wo_X10_stops cI cJ a_m a_mt a_ml a_mr a_mx a_mf a_mg a_mw a_mh v_m_thrown v_m_trace v_m_typed v_m_next v_m_token v_m_place v_m_value v_m_fault v_m_finds v_m_weeks v_m_rows v_m_cardPrice v_m_lotPrice v_m_sure v_m_up v_m_down v_mw) H → va_D A (wo_X10_stops cI cJ a_m a_mt a_ml a_mr a_mx a_mf a_mg a_mw a_mh v_m_thrown v_m_trace v_m_typed v_m_next v_m_token v_m_place v_m_value v_m_fault v_m_finds v_m_weeks v_m_rows v_m_cardPrice v_m_lotPrice v_m_sure v_m_up v_m_down v_mw) → va_S A s.heap H locs → ∀ (ls : Array Slot), lv_has ls 5 [(0, .ref a_m), (1, .int x1), (2, .int x2)] → W p l e (headSpec wsX10_stops rm_X10_stops).room s m args below meth c H locs 0 0 (MQ below (va_Qi (fun r (_ : Unit) => r = o.1) (pa_QB D A (wo_X10_stops cI cJ a_m a_mt a_ml a_mr a_mx a_mf a_mg a_mw a_mh o.2 v_m_trace v_m_typed v_m_next v_m_token v_m_place v_m_value v_m_fault v_m_finds v_m_weeks v_m_rows v_m_cardPrice v_m_lotPrice v_m_sure v_m_up v_m_down v_mw)) A) args s 0 0 A) (F0 m 20 ls [])) (hf : f_X10_stops_b52 rec20 x1 x3 s1 s2 v_m_thrown v_m_weeks v_mw = some o) {H : Heap} {locs : List Loc} (hP : va_P D vwCl (wo_X10_stops cI cJ a_m a_mt a_ml a_mr a_mx a_mf a_mg a_mw a_mh v_m_thrown v_m_trace v_m_typed v_m_next v_m_token v_m_place v_m_value v_m_fault v_m_finds v_m_weeks v_m_rows v_m_cardPrice v_m_lotPrice v_m_sure v_m_up v_m_down v_mw) H) (hD : va_D A (wo_X10_stops cI cJ a_m a_mt a_ml a_mr a_mx a_mf a_mg a_mw a_mh v_m_thrown v_m_trace v_m_typed v_m_next v_m_token v_m_place v_m_value v_m_fault v_m_finds v_m_weeks v_m_rows v_m_cardPrice v_m_lotPrice v_m_sure v_m_up v_m_down v_mw)) (hS : va_S A s.heap H locs) {ls : Array Slot} (hl : lv_has ls 5 [(0, .ref a_m), (1, .int x1), (3, .int x3)]) : W p l e (headSpec wsX10_stops rm_X10_stops).room s m args below meth c H locs 0 0 (MQ below (va_Qi (fun r (_ : Unit) => r = o.1) (pa_QB D A (wo_X10_stops cI cJ a_m a_mt a_ml a_mr a_mx a_mf a_mg a_mw a_mh o.2 v_m_trace v_m_typed v_m_next v_m_token v_m_place v_m_value v_m_fault v_m_finds v_m_weeks v_m_rows v_m_cardPrice v_m_lotPrice v_m_sure v_m_up v_m_down v_mw)) A) args s 0 0 A) (F0 m 52 ls [.int s2, .int s1, .ref a_m]) := by
  obtain ⟨hx, hb, hr, hml, hown, hts, hK, hA, hG, hlk⟩ := id X
  delta f_X10_stops_b52 at hf
  obtain ⟨u_2, hg_3, hf⟩ := pa_bd hf
  refine pa_ki (wc := (wo_X10_moves cI cJ a_m a_mt a_ml a_mr a_mx a_mf a_mg a_mw a_mh v_m_thrown v_m_trace v_m_typed v_m_next v_m_token v_m_place v_m_value v_m_fault v_m_finds v_m_weeks v_m_rows v_m_cardPrice v_m_lotPrice v_m_sure v_m_up v_m_down v_mw)) (wr := ([] : va_W)) (w1 := (wo_X10_moves cI cJ a_m a_mt a_ml a_mr a_mx a_mf a_mg a_mw a_mh v_m_thrown v_m_trace v_m_typed v_m_next v_m_token v_m_place v_m_value v_m_fault v_m_finds v_m_weeks v_m_rows v_m_cardPrice v_m_lotPrice v_m_sure v_m_up v_m_down v_mw)) (w2 := (wo_X10_stops cI cJ a_m a_mt a_ml a_mr a_mx a_mf a_mg a_mw a_mh v_m_thrown v_m_trace v_m_typed v_m_next v_m_token v_m_place v_m_value v_m_fault v_m_finds v_m_weeks v_m_rows v_m_cardPrice v_m_lotPrice v_m_sure v_m_up v_m_down v_mw)) X hP hD hS [0, 1] [] [0, 1] rfl (pa_rV (As := [.int s1, .int s2]) (rest := []) (T := TX10) X hP hD hS [0, 1] rfl rfl (c_X10_moves hg_3 H.size) (cwV 2 hts gX10_stops_X10_moves rfl rfl rfl (by decide +kernel) ⟨Nat.le_of_ble_eq_true rfl, Nat.le_of_ble_eq_true rfl⟩) (q0 := 0) rfl rfl rfl hl.1 rfl (Nat.le_of_ble_eq_true rfl) dX10_stops_52 ⟨Nat.zero_le _, Nat.zero_le _⟩) rfl rfl (by decide) rfl rfl (fun H locs hP hD hS => ?_)
  refine lv_istore (lv' := [(4, .int u_2), (0, .ref a_m), (1, .int x1), (3, .int x3)]) hx hb dX10_stops_55 hl (by decide) rfl (fun ls hl => ?_)
  refine lv_iload hx hb dX10_stops_57 (lv_at hl 0 rfl) ?_
  refine lv_bipush (v := (-9 : Int32)) hx hb dX10_stops_59 (by decide) ?_
  refine lv_icmp_eq (tgt := 98) hx hb dX10_stops_61 (by decide) (fun c_4 => ?_) (fun c_4 => ?_)
  · have hf := (if_pos c_4).symm.trans hf
    exact w_X10_stops_b98 X hrec20 hf hP hD hS (lv_sub hl [1, 2] rfl)
  · have hf := (if_neg c_4).symm.trans hf
    refine lv_iload_n hx hb dX10_stops_64 rfl (lv_at hl 3 rfl) ?_
    refine lv_sipush (v := (500 : Int32)) hx hb dX10_stops_65 (by decide) ?_
    refine lv_icmp_lt (tgt := 84) hx hb dX10_stops_68 (by decide) (fun c_5 => ?_) (fun c_5 => ?_)
    · have hf := (if_pos c_5).symm.trans hf
      refine lv_iload_n hx hb dX10_stops_84 rfl (lv_at hl 3 rfl) ?_
      refine lv_iload hx hb dX10_stops_85 (lv_at hl 0 rfl) ?_
      refine lv_iadd hx hb dX10_stops_87 ?_
      refine lv_sipush (v := (500 : Int32)) hx hb dX10_stops_88 (by decide) ?_
      refine lv_icmp_ge (tgt := 98) hx hb dX10_stops_91 (by decide) (fun c_6 => ?_) (fun c_6 => ?_)
      · have hf := (if_pos c_6).symm.trans hf
        exact w_X10_stops_b98 X hrec20 hf hP hD hS (lv_sub hl [1, 2] rfl)
      · have hf := (if_neg c_6).symm.trans hf
        exact w_X10_stops_b94 X hrec20 hf hP hD hS (lv_sub hl [1, 2] rfl)
    · have hf := (if_neg c_5).symm.trans hf
      refine lv_iload_n hx hb dX10_stops_71 rfl (lv_at hl 3 rfl) ?_
      refine lv_iload hx hb dX10_stops_72 (lv_at hl 0 rfl) ?_
      refine lv_isub hx hb dX10_stops_74 ?_
      refine lv_sipush (v := (500 : Int32)) hx hb dX10_stops_75 (by decide) ?_
      refine lv_icmp_lt (tgt := 98) hx hb dX10_stops_78 (by decide) (fun c_7 => ?_) (fun c_7 => ?_)
      · have hf := (if_pos c_7).symm.trans hf
        exact w_X10_stops_b98 X hrec20 hf hP hD hS (lv_sub hl [1, 2] rfl)
      · have hf := (if_neg c_7).symm.trans hf
        refine lv_goto (tgt := 94) hx hb dX10_stops_81 (by decide) ?_
        exact w_X10_stops_b94 X hrec20 hf hP hD hS (lv_sub hl [1, 2] rfl)
set_option maxHeartbeats 4000000 in
set_option maxRecDepth 100000 in
theorem w_X10_stops_L20 {l : Launch} {D : va_G} {cI cJ : ClassId} {g : pa_GT} {a_m a_mt a_ml a_mr a_mx a_mf a_mg a_mw a_mh : Nat} {A : Nat → Prop} {p : Program} {e : Env} {s : State} {m : MethodId} {args : Array Value} {below : List Frame} {meth : Method} {c : Code} {v_m_thrown : Int32} {v_m_weeks : Int32} {v_mw : Nat → Int32} {v_m_trace : Int64} {v_m_typed : Int32} {v_m_next : Int32} {v_m_token : Int32} {v_m_place : Int32} {v_m_value : Int32} {v_m_fault : Int32} {v_m_finds : Int32} {v_m_rows : Int32} {v_m_cardPrice : Int32} {v_m_lotPrice : Int32} {v_m_sure : Int32} {v_m_up : Int64} {v_m_down : Int64} {o : Int32 × Int32} (X : pa_X cX10_stops 5 (some .int) RX10 wsX10_stops D cI cJ g A p s m args meth c)  : ∀ (n : Nat) (x1 : Int32) (x2 : Int32), f_X10_stops_L20 v_m_thrown v_m_weeks v_mw n x1 x2 = some o → ∀ (H : Heap) (locs : List Loc) , va_P D vwCl (wo_X10_stops cI cJ a_m a_mt a_ml a_mr a_mx a_mf a_mg a_mw a_mh v_m_thrown v_m_trace v_m_typed v_m_next v_m_token v_m_place v_m_value v_m_fault v_m_finds v_m_weeks v_m_rows v_m_cardPrice v_m_lotPrice v_m_sure v_m_up v_m_down v_mw) H → va_D A (wo_X10_stops cI cJ a_m a_mt a_ml a_mr a_mx a_mf a_mg a_mw a_mh v_m_thrown v_m_trace v_m_typed v_m_next v_m_token v_m_place v_m_value v_m_fault v_m_finds v_m_weeks v_m_rows v_m_cardPrice v_m_lotPrice v_m_sure v_m_up v_m_down v_mw) → va_S A s.heap H locs → ∀ (ls : Array Slot), lv_has ls 5 [(0, .ref a_m), (1, .int x1), (2, .int x2)] → W p l e (headSpec wsX10_stops rm_X10_stops).room s m args below meth c H locs 0 0 (MQ below (va_Qi (fun r (_ : Unit) => r = o.1) (pa_QB D A (wo_X10_stops cI cJ a_m a_mt a_ml a_mr a_mx a_mf a_mg a_mw a_mh o.2 v_m_trace v_m_typed v_m_next v_m_token v_m_place v_m_value v_m_fault v_m_finds v_m_weeks v_m_rows v_m_cardPrice v_m_lotPrice v_m_sure v_m_up v_m_down v_mw)) A) args s 0 0 A) (F0 m 20 ls []) := by
  obtain ⟨hx, hb, hr, hml, hown, hts, hK, hA, hG, hlk⟩ := id X
  intro n
  induction n with
  | zero =>
    intro x1 x2 hf
    have hf : (none : Option (Int32 × Int32)) = some o := hf
    cases hf
  | succ n hrec20 =>
    intro x1 x2 hf H locs  hP hD hS ls hl
    have hf : f_X10_stops_L20_body v_m_thrown v_m_weeks v_mw (f_X10_stops_L20 v_m_thrown v_m_weeks v_mw n) x1 x2 = some o := hf
    delta f_X10_stops_L20_body at hf
    generalize hgr : f_X10_stops_L20 v_m_thrown v_m_weeks v_mw n = rec20 at hf hrec20
    refine lv_iload_n hx hb dX10_stops_20 rfl (lv_at hl 2 rfl) ?_
    refine lv_if_eq (tgt := 115) hx hb dX10_stops_21 (by decide) (fun c_8 => ?_) (fun c_8 => ?_)
    · have hf := (if_pos c_8).symm.trans hf
      refine lv_iload_n hx hb dX10_stops_115 rfl (lv_at hl 1 rfl) ?_
      obtain rfl := Option.some.inj hf
      exact pa_ei X hP hD hS dX10_stops_116
    · have hf := (if_neg c_8).symm.trans hf
      refine lv_aload_n hx hb dX10_stops_24 rfl (lv_at hl 0 rfl) ?_
      refine va_get (D := D) (ci := 9) (v := .ref a_mw) (C := RX10) (T := TX10) (N := 24) hx hb hts il_X10_stops_X10 hown hK hP 0 rfl rfl 16 (by decide) (hts _ fk_X10_stops_0) (fun _ h9 => h9) rfl dX10_stops_25 ?_
      refine lv_aload_n hx hb dX10_stops_28 rfl (lv_at hl 0 rfl) ?_
      refine va_get (D := D) (ci := 9) (v := .int v_m_weeks) (C := RX10) (T := TX10) (N := 24) hx hb hts il_X10_stops_X10 hown hK hP 0 rfl rfl 15 (by decide) (hts _ fk_X10_stops_1) (fun _ h9 => h9) rfl dX10_stops_29 ?_
      refine lv_iconst (v := (1 : Int32)) hx hb dX10_stops_32 (by decide) ?_
      refine lv_isub hx hb dX10_stops_33 ?_
      obtain ⟨hi_9, hf⟩ := pa_gd hf
      refine va_iald hx hb hK hP 1 0 rfl rfl hi_9 dX10_stops_34 ?_
      refine lv_istore_n (lv' := [(3, .int (v_mw (Int32.toNatClampNeg (v_m_weeks - (1 : Int32))))), (0, .ref a_m), (1, .int x1), (2, .int x2)]) hx hb dX10_stops_35 rfl hl (by decide) rfl (fun ls hl => ?_)
      refine lv_aload_n hx hb dX10_stops_36 rfl (lv_at hl 1 rfl) ?_
      refine lv_iload_n hx hb dX10_stops_37 rfl (lv_at hl 2 rfl) ?_
      refine lv_iconst (v := (1 : Int32)) hx hb dX10_stops_38 (by decide) ?_
      refine lv_iadd hx hb dX10_stops_39 ?_
      refine lv_iload_n hx hb dX10_stops_40 rfl (lv_at hl 0 rfl) ?_
      refine lv_sipush (v := (500 : Int32)) hx hb dX10_stops_41 (by decide) ?_
      refine lv_icmp_lt (tgt := 51) hx hb dX10_stops_44 (by decide) (fun c_10 => ?_) (fun c_10 => ?_)
      · have hf := (if_pos c_10).symm.trans hf
        refine lv_iconst (v := (1 : Int32)) hx hb dX10_stops_51 (by decide) ?_
        exact w_X10_stops_b52 X hrec20 hf hP hD hS (lv_sub hl [1, 2, 0] rfl)
      · have hf := (if_neg c_10).symm.trans hf
        refine lv_iconst (v := (-1 : Int32)) hx hb dX10_stops_47 (by decide) ?_
        refine lv_goto (tgt := 52) hx hb dX10_stops_48 (by decide) ?_
        exact w_X10_stops_b52 X hrec20 hf hP hD hS (lv_sub hl [1, 2, 0] rfl)
set_option maxHeartbeats 4000000 in
set_option maxRecDepth 100000 in
theorem w_X10_stops_b0 {l : Launch} {D : va_G} {cI cJ : ClassId} {g : pa_GT} {a_m a_mt a_ml a_mr a_mx a_mf a_mg a_mw a_mh : Nat} {A : Nat → Prop} {p : Program} {e : Env} {s : State} {m : MethodId} {args : Array Value} {below : List Frame} {meth : Method} {c : Code} {v_m_weeks : Int32} {v_mw : Nat → Int32} {v_m_thrown : Int32} {v_m_trace : Int64} {v_m_typed : Int32} {v_m_next : Int32} {v_m_token : Int32} {v_m_place : Int32} {v_m_value : Int32} {v_m_fault : Int32} {v_m_finds : Int32} {v_m_rows : Int32} {v_m_cardPrice : Int32} {v_m_lotPrice : Int32} {v_m_sure : Int32} {v_m_up : Int64} {v_m_down : Int64} {o : Int32 × Int32} (X : pa_X cX10_stops 5 (some .int) RX10 wsX10_stops D cI cJ g A p s m args meth c)  (hf : f_X10_stops v_m_weeks v_mw = some o) {H : Heap} {locs : List Loc} (hP : va_P D vwCl (wo_X10_stops cI cJ a_m a_mt a_ml a_mr a_mx a_mf a_mg a_mw a_mh v_m_thrown v_m_trace v_m_typed v_m_next v_m_token v_m_place v_m_value v_m_fault v_m_finds v_m_weeks v_m_rows v_m_cardPrice v_m_lotPrice v_m_sure v_m_up v_m_down v_mw) H) (hD : va_D A (wo_X10_stops cI cJ a_m a_mt a_ml a_mr a_mx a_mf a_mg a_mw a_mh v_m_thrown v_m_trace v_m_typed v_m_next v_m_token v_m_place v_m_value v_m_fault v_m_finds v_m_weeks v_m_rows v_m_cardPrice v_m_lotPrice v_m_sure v_m_up v_m_down v_mw)) (hS : va_S A s.heap H locs) {ls : Array Slot} (hl : lv_has ls 5 [(0, .ref a_m)]) : W p l e (headSpec wsX10_stops rm_X10_stops).room s m args below meth c H locs 0 0 (MQ below (va_Qi (fun r (_ : Unit) => r = o.1) (pa_QB D A (wo_X10_stops cI cJ a_m a_mt a_ml a_mr a_mx a_mf a_mg a_mw a_mh o.2 v_m_trace v_m_typed v_m_next v_m_token v_m_place v_m_value v_m_fault v_m_finds v_m_weeks v_m_rows v_m_cardPrice v_m_lotPrice v_m_sure v_m_up v_m_down v_mw)) A) args s 0 0 A) (F0 m 0 ls []) := by
  obtain ⟨hx, hb, hr, hml, hown, hts, hK, hA, hG, hlk⟩ := id X
  delta f_X10_stops at hf
  refine lv_aload_n hx hb dX10_stops_0 rfl (lv_at hl 0 rfl) ?_
  refine lv_iconst (v := (0 : Int32)) hx hb dX10_stops_1 (by decide) ?_
  refine va_put (D := D) (ci := 9) (v := .int (0 : Int32)) (ty := .int) (C := RX10) (T := TX10) (N := 24) hx hb hts il_X10_stops_X10 tyX10 tyX10_ok nmX10 hown hK hP hD hS 0 rfl rfl 0 (by decide) (hts _ fk_X10_stops_2) (fun _ h9 => h9) rfl (tyX10_ok 0 (by decide)) rfl rfl (Nat.le_of_ble_eq_true rfl) dX10_stops_2 (fun H locs hP hD hS => ?_)
  have hP : va_P D vwCl (wo_X10_stops cI cJ a_m a_mt a_ml a_mr a_mx a_mf a_mg a_mw a_mh (0 : Int32) v_m_trace v_m_typed v_m_next v_m_token v_m_place v_m_value v_m_fault v_m_finds v_m_weeks v_m_rows v_m_cardPrice v_m_lotPrice v_m_sure v_m_up v_m_down v_mw) H := hP
  have hD : va_D A (wo_X10_stops cI cJ a_m a_mt a_ml a_mr a_mx a_mf a_mg a_mw a_mh (0 : Int32) v_m_trace v_m_typed v_m_next v_m_token v_m_place v_m_value v_m_fault v_m_finds v_m_weeks v_m_rows v_m_cardPrice v_m_lotPrice v_m_sure v_m_up v_m_down v_mw) := hD
  refine lv_iconst (v := (0 : Int32)) hx hb dX10_stops_5 (by decide) ?_
  refine lv_istore_n (lv' := [(1, .int (0 : Int32)), (0, .ref a_m)]) hx hb dX10_stops_6 rfl hl (by decide) rfl (fun ls hl => ?_)
  refine lv_aload_n hx hb dX10_stops_7 rfl (lv_at hl 1 rfl) ?_
  refine va_get (D := D) (ci := 9) (v := .int v_m_weeks) (C := RX10) (T := TX10) (N := 24) hx hb hts il_X10_stops_X10 hown hK hP 0 rfl rfl 15 (by decide) (hts _ fk_X10_stops_1) (fun _ h9 => h9) rfl dX10_stops_8 ?_
  refine lv_if_le (tgt := 18) hx hb dX10_stops_11 (by decide) (fun c_11 => ?_) (fun c_11 => ?_)
  · have hf := (if_pos c_11).symm.trans hf
    refine lv_iconst (v := (0 : Int32)) hx hb dX10_stops_18 (by decide) ?_
    refine lv_istore_n (lv' := [(2, .int (0 : Int32)), (1, .int (0 : Int32)), (0, .ref a_m)]) hx hb dX10_stops_19 rfl hl (by decide) rfl (fun ls hl => ?_)
    exact w_X10_stops_L20 X  _ _ _ hf _ _  hP hD hS _ (lv_sub hl [2, 1, 0] rfl)
  · have hf := (if_neg c_11).symm.trans hf
    refine lv_iconst (v := (1 : Int32)) hx hb dX10_stops_14 (by decide) ?_
    refine lv_goto (tgt := 19) hx hb dX10_stops_15 (by decide) ?_
    refine lv_istore_n (lv' := [(2, .int (1 : Int32)), (1, .int (0 : Int32)), (0, .ref a_m)]) hx hb dX10_stops_19 rfl hl (by decide) rfl (fun ls hl => ?_)
    exact w_X10_stops_L20 X  _ _ _ hf _ _  hP hD hS _ (lv_sub hl [2, 1, 0] rfl)
set_option maxHeartbeats 4000000 in
set_option maxRecDepth 100000 in
theorem c_X10_stops {l : Launch} {D : va_G} {cI cJ : ClassId} {g : pa_GT} {a_m a_mt a_ml a_mr a_mx a_mf a_mg a_mw a_mh : Nat}  {v_m_thrown : Int32} {v_m_trace : Int64} {v_m_typed : Int32} {v_m_next : Int32} {v_m_token : Int32} {v_m_place : Int32} {v_m_value : Int32} {v_m_fault : Int32} {v_m_finds : Int32} {v_m_weeks : Int32} {v_m_rows : Int32} {v_m_cardPrice : Int32} {v_m_lotPrice : Int32} {v_m_sure : Int32} {v_m_up : Int64} {v_m_down : Int64} {v_mw : Nat → Int32} {o : Int32 × Int32} (hf : f_X10_stops v_m_weeks v_mw = some o) : pa_Mi l yX10_stops wsX10_stops rm_X10_stops D cI cJ g [.ref a_m] (wo_X10_stops cI cJ a_m a_mt a_ml a_mr a_mx a_mf a_mg a_mw a_mh v_m_thrown v_m_trace v_m_typed v_m_next v_m_token v_m_place v_m_value v_m_fault v_m_finds v_m_weeks v_m_rows v_m_cardPrice v_m_lotPrice v_m_sure v_m_up v_m_down v_mw) (wo_X10_stops cI cJ a_m a_mt a_ml a_mr a_mx a_mf a_mg a_mw a_mh o.2 v_m_trace v_m_typed v_m_next v_m_token v_m_place v_m_value v_m_fault v_m_finds v_m_weeks v_m_rows v_m_cardPrice v_m_lotPrice v_m_sure v_m_up v_m_down v_mw) o.1 := by
  intro sz
  refine pa_met (cc := cX10_stops) (maxL := 5) (ret := (some .int)) (lv := [(0, .ref a_m)]) (by decide) rfl (Nat.le_of_ble_eq_true rfl) rfl ?_
  intro p e s m below meth c X hsz hP hD ls hl
  subst hsz
  exact w_X10_stops_b0 X hf hP hD va_S.rf hl
