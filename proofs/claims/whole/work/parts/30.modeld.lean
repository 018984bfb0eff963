abbrev wo_X10_house (cI cJ : ClassId) (a_m a_mt a_ml a_mr a_mx a_mf a_mg a_mw a_mh : Nat) (v_m_thrown : Int32) (v_m_trace : Int64) (v_m_typed : Int32) (v_m_next : Int32) (v_m_token : Int32) (v_m_place : Int32) (v_m_value : Int32) (v_m_fault : Int32) (v_m_finds : Int32) (v_m_weeks : Int32) (v_m_rows : Int32) (v_m_cardPrice : Int32) (v_m_lotPrice : Int32) (v_m_sure : Int32) (v_m_up : Int64) (v_m_down : Int64) (v_mh : Nat → Int32) : va_W := [(a_m, .inr (9, [.int v_m_thrown, .long v_m_trace, .ref a_mt, .ref a_ml, .ref a_mr, .ref a_mx, .int v_m_typed, .int v_m_next, .int v_m_token, .int v_m_place, .int v_m_value, .int v_m_fault, .int v_m_finds, .ref a_mf, .ref a_mg, .int v_m_weeks, .ref a_mw, .int v_m_rows, .ref a_mh, .int v_m_cardPrice, .int v_m_lotPrice, .int v_m_sure, .long v_m_up, .long v_m_down])), (a_mh, .inl (cI, 72, .inl v_mh))]
abbrev rm_X10_house : Room := { frames := 1, cells := 0, slots := 0, locals := 22 }
theorem il_X10_house_X10 : ∀ w ∈ wsX100, w ∈ wsX10_house := by decide +kernel
theorem fk_X10_house_0 : Cond.fieldLink RX10 45 "PostedAsksModel" "thrown" "I" ∈ wsX10_house := by decide +kernel
theorem fk_X10_house_1 : Cond.fieldLink RX10 166 "PostedAsksModel" "rows" "I" ∈ wsX10_house := by decide +kernel
theorem fk_X10_house_2 : Cond.fieldLink RX10 32 "PostedAsksModel" "house" "[I" ∈ wsX10_house := by decide +kernel
def f_X10_house (x1 : Int32) (x2 : Int32) (x3 : Int32) (v_m_rows : Int32) (v_mh : Nat → Int32) : Option (Int32 × Int32 × Int32 × (Nat → Int32)) :=
  (f_X10_in x1 (0 : Int32) (1000 : Int32)).bind fun u_1 =>
  if u_1 = 0 then
    some ((-1 : Int32), (0 : Int32), v_m_rows, v_mh)
  else
    (f_X10_in x2 (0 : Int32) (1000 : Int32)).bind fun u_4 =>
    if u_4 = 0 then
      some ((-1 : Int32), (0 : Int32), v_m_rows, v_mh)
    else
      (f_X10_in x3 (0 : Int32) (1000 : Int32)).bind fun u_7 =>
      if u_7 = 0 then
        some ((-1 : Int32), (0 : Int32), v_m_rows, v_mh)
      else
        if v_m_rows = (24 : Int32) then
          some ((-3 : Int32), (0 : Int32), v_m_rows, v_mh)
        else
          if pa_ib ((3 : Int32) * v_m_rows) 72 = true then
            if pa_ib (((3 : Int32) * v_m_rows) + (1 : Int32)) 72 = true then
              if pa_ib (((3 : Int32) * v_m_rows) + (2 : Int32)) 72 = true then
                some ((v_m_rows + (1 : Int32)), (0 : Int32), (v_m_rows + (1 : Int32)), (upd (upd (upd v_mh (Int32.toNatClampNeg ((3 : Int32) * v_m_rows)) x1) (Int32.toNatClampNeg (((3 : Int32) * v_m_rows) + (1 : Int32))) x2) (Int32.toNatClampNeg (((3 : Int32) * v_m_rows) + (2 : Int32))) x3))
              else none
            else none
          else none
set_option maxHeartbeats 4000000 in
set_option maxRecDepth 100000 in
theorem w_X10_house_b0 {l : Launch} {D : va_G} {cI cJ : ClassId} {g : pa_GT} {a_m a_mt a_ml a_mr a_mx a_mf a_mg a_mw a_mh : Nat} {A : Nat → Prop} {p : Program} {e : Env} {s : State} {m : MethodId} {args : Array Value} {below : List Frame} {meth : Method} {c : Code} {x1 : Int32} {x2 : Int32} {x3 : Int32} {v_m_rows : Int32} {v_mh : Nat → Int32} {v_m_thrown : Int32} {v_m_trace : Int64} {v_m_typed : Int32} {v_m_next : Int32} {v_m_token : Int32} {v_m_place : Int32} {v_m_value : Int32} {v_m_fault : Int32} {v_m_finds : Int32} {v_m_weeks : Int32} {v_m_cardPrice : Int32} {v_m_lotPrice : Int32} {v_m_sure : Int32} {v_m_up : Int64} {v_m_down : Int64} {o : Int32 × Int32 × Int32 × (Nat → Int32)} (X : pa_X cX10_house 4 (some .int) RX10 wsX10_house D cI cJ g A p s m args meth c)  (hf : f_X10_house x1 x2 x3 v_m_rows v_mh = some o) {H : Heap} {locs : List Loc} (hP : va_P D vwCl (wo_X10_house cI cJ a_m a_mt a_ml a_mr a_mx a_mf a_mg a_mw a_mh v_m_thrown v_m_trace v_m_typed v_m_next v_m_token v_m_place v_m_value v_m_fault v_m_finds v_m_weeks v_m_rows v_m_cardPrice v_m_lotPrice v_m_sure v_m_up v_m_down v_mh) H) (hD : va_D A (wo_X10_house cI cJ a_m a_mt a_ml a_mr a_mx a_mf a_mg a_mw a_mh v_m_thrown v_m_trace v_m_typed v_m_next v_m_token v_m_place v_m_value v_m_fault v_m_finds v_m_weeks v_m_rows v_m_cardPrice v_m_lotPrice v_m_sure v_m_up v_m_down v_mh)) (hS : va_S A s.heap H locs) {ls : Array Slot} (hl : lv_has ls 4 [(0, .ref a_m), (1, .int x1), (2, .int x2), (3, .int x3)]) : W p l e (headSpec wsX10_house rm_X10_house).room s m args below meth c H locs 0 0 (MQ below (va_Qi (fun r (_ : Unit) => r = o.1) (pa_QB D A (wo_X10_house cI cJ a_m a_mt a_ml a_mr a_mx a_mf a_mg a_mw a_mh o.2.1 v_m_trace v_m_typed v_m_next v_m_token v_m_place v_m_value v_m_fault v_m_finds v_m_weeks o.2.2.1 v_m_cardPrice v_m_lotPrice v_m_sure v_m_up v_m_down o.2.2.2)) A) args s 0 0 A) (F0 m 0 ls []) := by
  obtain ⟨hx, hb, hr, hml, hown, hts, hK, hA, hG, hlk⟩ := id X
  delta f_X10_house at hf
  refine lv_aload_n hx hb dX10_house_0 rfl (lv_at hl 0 rfl) ?_
  refine lv_iconst (v := (0 : Int32)) hx hb dX10_house_1 (by decide) ?_
  refine va_put (D := D) (ci := 9) (v := .int (0 : Int32)) (ty := .int) (C := RX10) (T := TX10) (N := 24) hx hb hts il_X10_house_X10 tyX10 tyX10_ok nmX10 hown hK hP hD hS 0 rfl rfl 0 (by decide) (hts _ fk_X10_house_0) (fun _ h9 => h9) rfl (tyX10_ok 0 (by decide)) rfl rfl (Nat.le_of_ble_eq_true rfl) dX10_house_2 (fun H locs hP hD hS => ?_)
  have hP : va_P D vwCl (wo_X10_house cI cJ a_m a_mt a_ml a_mr a_mx a_mf a_mg a_mw a_mh (0 : Int32) v_m_trace v_m_typed v_m_next v_m_token v_m_place v_m_value v_m_fault v_m_finds v_m_weeks v_m_rows v_m_cardPrice v_m_lotPrice v_m_sure v_m_up v_m_down v_mh) H := hP
  have hD : va_D A (wo_X10_house cI cJ a_m a_mt a_ml a_mr a_mx a_mf a_mg a_mw a_mh (0 : Int32) v_m_trace v_m_typed v_m_next v_m_token v_m_place v_m_value v_m_fault v_m_finds v_m_weeks v_m_rows v_m_cardPrice v_m_lotPrice v_m_sure v_m_up v_m_down v_mh) := hD
  refine lv_iload_n hx hb dX10_house_5 rfl (lv_at hl 1 rfl) ?_
  refine lv_iconst (v := (0 : Int32)) hx hb dX10_house_6 (by decide) ?_
  refine lv_sipush (v := (1000 : Int32)) hx hb dX10_house_7 (by decide) ?_
  obtain ⟨u_1, hg_2, hf⟩ := pa_bd hf
  refine pa_ki (wc := ([] : va_W)) (wr := [(a_m, .inr (9, [.int (0 : Int32), .long v_m_trace, .ref a_mt, .ref a_ml, .ref a_mr, .ref a_mx, .int v_m_typed, .int v_m_next, .int v_m_token, .int v_m_place, .int v_m_value, .int v_m_fault, .int v_m_finds, .ref a_mf, .ref a_mg, .int v_m_weeks, .ref a_mw, .int v_m_rows, .ref a_mh, .int v_m_cardPrice, .int v_m_lotPrice, .int v_m_sure, .long v_m_up, .long v_m_down])), (a_mh, .inl (cI, 72, .inl v_mh))]) (w1 := ([] : va_W)) (w2 := (wo_X10_house cI cJ a_m a_mt a_ml a_mr a_mx a_mf a_mg a_mw a_mh (0 : Int32) v_m_trace v_m_typed v_m_next v_m_token v_m_place v_m_value v_m_fault v_m_finds v_m_weeks v_m_rows v_m_cardPrice v_m_lotPrice v_m_sure v_m_up v_m_down v_mh)) X hP hD hS [] [0, 1] [0, 1] rfl (pa_rS (As := [.int x1, .int (0 : Int32), .int (1000 : Int32)]) (rest := []) X hP hD hS [] rfl rfl (c_X10_in hg_2 H.size) (va_cwS 3 hts gX10_house_X10_in rfl rfl rfl (by decide +kernel) ⟨Nat.le_of_ble_eq_true rfl, Nat.le_of_ble_eq_true rfl⟩) rfl hl.1 rfl (Nat.le_of_ble_eq_true rfl) dX10_house_10 ⟨Nat.zero_le _, Nat.zero_le _⟩) rfl rfl (by decide) rfl rfl (fun H locs hP hD hS => ?_)
  refine lv_if_eq (tgt := 38) hx hb dX10_house_13 (by decide) (fun c_3 => ?_) (fun c_3 => ?_)
  · have hf := (if_pos c_3).symm.trans hf
    refine lv_iconst (v := (-1 : Int32)) hx hb dX10_house_38 (by decide) ?_
    obtain rfl := Option.some.inj hf
    exact pa_ei X hP hD hS dX10_house_39
  · have hf := (if_neg c_3).symm.trans hf
    refine lv_iload_n hx hb dX10_house_16 rfl (lv_at hl 2 rfl) ?_
    refine lv_iconst (v := (0 : Int32)) hx hb dX10_house_17 (by decide) ?_
    refine lv_sipush (v := (1000 : Int32)) hx hb dX10_house_18 (by decide) ?_
    obtain ⟨u_4, hg_5, hf⟩ := pa_bd hf
    refine pa_ki (wc := ([] : va_W)) (wr := [(a_m, .inr (9, [.int (0 : Int32), .long v_m_trace, .ref a_mt, .ref a_ml, .ref a_mr, .ref a_mx, .int v_m_typed, .int v_m_next, .int v_m_token, .int v_m_place, .int v_m_value, .int v_m_fault, .int v_m_finds, .ref a_mf, .ref a_mg, .int v_m_weeks, .ref a_mw, .int v_m_rows, .ref a_mh, .int v_m_cardPrice, .int v_m_lotPrice, .int v_m_sure, .long v_m_up, .long v_m_down])), (a_mh, .inl (cI, 72, .inl v_mh))]) (w1 := ([] : va_W)) (w2 := (wo_X10_house cI cJ a_m a_mt a_ml a_mr a_mx a_mf a_mg a_mw a_mh (0 : Int32) v_m_trace v_m_typed v_m_next v_m_token v_m_place v_m_value v_m_fault v_m_finds v_m_weeks v_m_rows v_m_cardPrice v_m_lotPrice v_m_sure v_m_up v_m_down v_mh)) X hP hD hS [] [0, 1] [0, 1] rfl (pa_rS (As := [.int x2, .int (0 : Int32), .int (1000 : Int32)]) (rest := []) X hP hD hS [] rfl rfl (c_X10_in hg_5 H.size) (va_cwS 3 hts gX10_house_X10_in rfl rfl rfl (by decide +kernel) ⟨Nat.le_of_ble_eq_true rfl, Nat.le_of_ble_eq_true rfl⟩) rfl hl.1 rfl (Nat.le_of_ble_eq_true rfl) dX10_house_21 ⟨Nat.zero_le _, Nat.zero_le _⟩) rfl rfl (by decide) rfl rfl (fun H locs hP hD hS => ?_)
    refine lv_if_eq (tgt := 38) hx hb dX10_house_24 (by decide) (fun c_6 => ?_) (fun c_6 => ?_)
    · have hf := (if_pos c_6).symm.trans hf
      refine lv_iconst (v := (-1 : Int32)) hx hb dX10_house_38 (by decide) ?_
      obtain rfl := Option.some.inj hf
      exact pa_ei X hP hD hS dX10_house_39
    · have hf := (if_neg c_6).symm.trans hf
      refine lv_iload_n hx hb dX10_house_27 rfl (lv_at hl 3 rfl) ?_
      refine lv_iconst (v := (0 : Int32)) hx hb dX10_house_28 (by decide) ?_
      refine lv_sipush (v := (1000 : Int32)) hx hb dX10_house_29 (by decide) ?_
      obtain ⟨u_7, hg_8, hf⟩ := pa_bd hf
      refine pa_ki (wc := ([] : va_W)) (wr := [(a_m, .inr (9, [.int (0 : Int32), .long v_m_trace, .ref a_mt, .ref a_ml, .ref a_mr, .ref a_mx, .int v_m_typed, .int v_m_next, .int v_m_token, .int v_m_place, .int v_m_value, .int v_m_fault, .int v_m_finds, .ref a_mf, .ref a_mg, .int v_m_weeks, .ref a_mw, .int v_m_rows, .ref a_mh, .int v_m_cardPrice, .int v_m_lotPrice, .int v_m_sure, .long v_m_up, .long v_m_down])), (a_mh, .inl (cI, 72, .inl v_mh))]) (w1 := ([] : va_W)) (w2 := (wo_X10_house cI cJ a_m a_mt a_ml a_mr a_mx a_mf a_mg a_mw a_mh (0 : Int32) v_m_trace v_m_typed v_m_next v_m_token v_m_place v_m_value v_m_fault v_m_finds v_m_weeks v_m_rows v_m_cardPrice v_m_lotPrice v_m_sure v_m_up v_m_down v_mh)) X hP hD hS [] [0, 1] [0, 1] rfl (pa_rS (As := [.int x3, .int (0 : Int32), .int (1000 : Int32)]) (rest := []) X hP hD hS [] rfl rfl (c_X10_in hg_8 H.size) (va_cwS 3 hts gX10_house_X10_in rfl rfl rfl (by decide +kernel) ⟨Nat.le_of_ble_eq_true rfl, Nat.le_of_ble_eq_true rfl⟩) rfl hl.1 rfl (Nat.le_of_ble_eq_true rfl) dX10_house_32 ⟨Nat.zero_le _, Nat.zero_le _⟩) rfl rfl (by decide) rfl rfl (fun H locs hP hD hS => ?_)
      refine lv_if_ne (tgt := 40) hx hb dX10_house_35 (by decide) (fun c_9 => ?_) (fun c_9 => ?_)
      · have hf := (if_neg c_9).symm.trans hf
        refine lv_aload_n hx hb dX10_house_40 rfl (lv_at hl 0 rfl) ?_
        refine va_get (D := D) (ci := 9) (v := .int v_m_rows) (C := RX10) (T := TX10) (N := 24) hx hb hts il_X10_house_X10 hown hK hP 0 rfl rfl 17 (by decide) (hts _ fk_X10_house_1) (fun _ h9 => h9) rfl dX10_house_41 ?_
        refine lv_bipush (v := (24 : Int32)) hx hb dX10_house_44 (by decide) ?_
        refine lv_icmp_ne (tgt := 52) hx hb dX10_house_46 (by decide) (fun c_10 => ?_) (fun c_10 => ?_)
        · have hf := (if_neg c_10).symm.trans hf
          refine lv_aload_n hx hb dX10_house_52 rfl (lv_at hl 0 rfl) ?_
          refine va_get (D := D) (ci := 9) (v := .ref a_mh) (C := RX10) (T := TX10) (N := 24) hx hb hts il_X10_house_X10 hown hK hP 0 rfl rfl 18 (by decide) (hts _ fk_X10_house_2) (fun _ h9 => h9) rfl dX10_house_53 ?_
          refine lv_iconst (v := (3 : Int32)) hx hb dX10_house_56 (by decide) ?_
          refine lv_aload_n hx hb dX10_house_57 rfl (lv_at hl 0 rfl) ?_
          refine va_get (D := D) (ci := 9) (v := .int v_m_rows) (C := RX10) (T := TX10) (N := 24) hx hb hts il_X10_house_X10 hown hK hP 0 rfl rfl 17 (by decide) (hts _ fk_X10_house_1) (fun _ h9 => h9) rfl dX10_house_58 ?_
          refine lv_imul hx hb dX10_house_61 ?_
          refine lv_iload_n hx hb dX10_house_62 rfl (lv_at hl 1 rfl) ?_
          obtain ⟨hi_11, hf⟩ := pa_gd hf
          refine va_iast hx hb hK hP hD hS 1 0 rfl rfl hi_11 dX10_house_63 (fun H locs hP hD hS => ?_)
          have hP : va_P D vwCl (wo_X10_house cI cJ a_m a_mt a_ml a_mr a_mx a_mf a_mg a_mw a_mh (0 : Int32) v_m_trace v_m_typed v_m_next v_m_token v_m_place v_m_value v_m_fault v_m_finds v_m_weeks v_m_rows v_m_cardPrice v_m_lotPrice v_m_sure v_m_up v_m_down (upd v_mh (Int32.toNatClampNeg ((3 : Int32) * v_m_rows)) x1)) H := hP
          have hD : va_D A (wo_X10_house cI cJ a_m a_mt a_ml a_mr a_mx a_mf a_mg a_mw a_mh (0 : Int32) v_m_trace v_m_typed v_m_next v_m_token v_m_place v_m_value v_m_fault v_m_finds v_m_weeks v_m_rows v_m_cardPrice v_m_lotPrice v_m_sure v_m_up v_m_down (upd v_mh (Int32.toNatClampNeg ((3 : Int32) * v_m_rows)) x1)) := hD
          refine lv_aload_n hx hb dX10_house_64 rfl (lv_at hl 0 rfl) ?_
          refine va_get (D := D) (ci := 9) (v := .ref a_mh) (C := RX10) (T := TX10) (N := 24) hx hb hts il_X10_house_X10 hown hK hP 0 rfl rfl 18 (by decide) (hts _ fk_X10_house_2) (fun _ h9 => h9) rfl dX10_house_65 ?_
          refine lv_iconst (v := (3 : Int32)) hx hb dX10_house_68 (by decide) ?_
          refine lv_aload_n hx hb dX10_house_69 rfl (lv_at hl 0 rfl) ?_
          refine va_get (D := D) (ci := 9) (v := .int v_m_rows) (C := RX10) (T := TX10) (N := 24) hx hb hts il_X10_house_X10 hown hK hP 0 rfl rfl 17 (by decide) (hts _ fk_X10_house_1) (fun _ h9 => h9) rfl dX10_house_70 ?_
          refine lv_imul hx hb dX10_house_73 ?_
          refine lv_iconst (v := (1 : Int32)) hx hb dX10_house_74 (by decide) ?_
          refine lv_iadd hx hb dX10_house_75 ?_
          refine lv_iload_n hx hb dX10_house_76 rfl (lv_at hl 2 rfl) ?_
          obtain ⟨hi_12, hf⟩ := pa_gd hf
          refine va_iast hx hb hK hP hD hS 1 0 rfl rfl hi_12 dX10_house_77 (fun H locs hP hD hS => ?_)
          have hP : va_P D vwCl (wo_X10_house cI cJ a_m a_mt a_ml a_mr a_mx a_mf a_mg a_mw a_mh (0 : Int32) v_m_trace v_m_typed v_m_next v_m_token v_m_place v_m_value v_m_fault v_m_finds v_m_weeks v_m_rows v_m_cardPrice v_m_lotPrice v_m_sure v_m_up v_m_down (upd (upd v_mh (Int32.toNatClampNeg ((3 : Int32) * v_m_rows)) x1) (Int32.toNatClampNeg (((3 : Int32) * v_m_rows) + (1 : Int32))) x2)) H := hP
          have hD : va_D A (wo_X10_house cI cJ a_m a_mt a_ml a_mr a_mx a_mf a_mg a_mw a_mh (0 : Int32) v_m_trace v_m_typed v_m_next v_m_token v_m_place v_m_value v_m_fault v_m_finds v_m_weeks v_m_rows v_m_cardPrice v_m_lotPrice v_m_sure v_m_up v_m_down (upd (upd v_mh (Int32.toNatClampNeg ((3 : Int32) * v_m_rows)) x1) (Int32.toNatClampNeg (((3 : Int32) * v_m_rows) + (1 : Int32))) x2)) := hD
          refine lv_aload_n hx hb dX10_house_78 rfl (lv_at hl 0 rfl) ?_
          refine va_get (D := D) (ci := 9) (v := .ref a_mh) (C := RX10) (T := TX10) (N := 24) hx hb hts il_X10_house_X10 hown hK hP 0 rfl rfl 18 (by decide) (hts _ fk_X10_house_2) (fun _ h9 => h9) rfl dX10_house_79 ?_
          refine lv_iconst (v := (3 : Int32)) hx hb dX10_house_82 (by decide) ?_
          refine lv_aload_n hx hb dX10_house_83 rfl (lv_at hl 0 rfl) ?_
          refine va_get (D := D) (ci := 9) (v := .int v_m_rows) (C := RX10) (T := TX10) (N := 24) hx hb hts il_X10_house_X10 hown hK hP 0 rfl rfl 17 (by decide) (hts _ fk_X10_house_1) (fun _ h9 => h9) rfl dX10_house_84 ?_
          refine lv_imul hx hb dX10_house_87 ?_
          refine lv_iconst (v := (2 : Int32)) hx hb dX10_house_88 (by decide) ?_
          refine lv_iadd hx hb dX10_house_89 ?_
          refine lv_iload_n hx hb dX10_house_90 rfl (lv_at hl 3 rfl) ?_
          obtain ⟨hi_13, hf⟩ := pa_gd hf
          refine va_iast hx hb hK hP hD hS 1 0 rfl rfl hi_13 dX10_house_91 (fun H locs hP hD hS => ?_)
          have hP : va_P D vwCl (wo_X10_house cI cJ a_m a_mt a_ml a_mr a_mx a_mf a_mg a_mw a_mh (0 : Int32) v_m_trace v_m_typed v_m_next v_m_token v_m_place v_m_value v_m_fault v_m_finds v_m_weeks v_m_rows v_m_cardPrice v_m_lotPrice v_m_sure v_m_up v_m_down (upd (upd (upd v_mh (Int32.toNatClampNeg ((3 : Int32) * v_m_rows)) x1) (Int32.toNatClampNeg (((3 : Int32) * v_m_rows) + (1 : Int32))) x2) (Int32.toNatClampNeg (((3 : Int32) * v_m_rows) + (2 : Int32))) x3)) H := hP
          have hD : va_D A (wo_X10_house cI cJ a_m a_mt a_ml a_mr a_mx a_mf a_mg a_mw a_mh (0 : Int32) v_m_trace v_m_typed v_m_next v_m_token v_m_place v_m_value v_m_fault v_m_finds v_m_weeks v_m_rows v_m_cardPrice v_m_lotPrice v_m_sure v_m_up v_m_down (upd (upd (upd v_mh (Int32.toNatClampNeg ((3 : Int32) * v_m_rows)) x1) (Int32.toNatClampNeg (((3 : Int32) * v_m_rows) + (1 : Int32))) x2) (Int32.toNatClampNeg (((3 : Int32) * v_m_rows) + (2 : Int32))) x3)) := hD
          refine lv_aload_n hx hb dX10_house_92 rfl (lv_at hl 0 rfl) ?_
          refine lv_dup hx hb dX10_house_93 rfl ?_
          refine va_get (D := D) (ci := 9) (v := .int v_m_rows) (C := RX10) (T := TX10) (N := 24) hx hb hts il_X10_house_X10 hown hK hP 0 rfl rfl 17 (by decide) (hts _ fk_X10_house_1) (fun _ h9 => h9) rfl dX10_house_94 ?_
          refine lv_iconst (v := (1 : Int32)) hx hb dX10_house_97 (by decide) ?_
          refine lv_iadd hx hb dX10_house_98 ?_
          refine va_put (D := D) (ci := 9) (v := .int (v_m_rows + (1 : Int32))) (ty := .int) (C := RX10) (T := TX10) (N := 24) hx hb hts il_X10_house_X10 tyX10 tyX10_ok nmX10 hown hK hP hD hS 0 rfl rfl 17 (by decide) (hts _ fk_X10_house_1) (fun _ h9 => h9) rfl (tyX10_ok 17 (by decide)) rfl rfl (Nat.le_of_ble_eq_true rfl) dX10_house_99 (fun H locs hP hD hS => ?_)
          have hP : va_P D vwCl (wo_X10_house cI cJ a_m a_mt a_ml a_mr a_mx a_mf a_mg a_mw a_mh (0 : Int32) v_m_trace v_m_typed v_m_next v_m_token v_m_place v_m_value v_m_fault v_m_finds v_m_weeks (v_m_rows + (1 : Int32)) v_m_cardPrice v_m_lotPrice v_m_sure v_m_up v_m_down (upd (upd (upd v_mh (Int32.toNatClampNeg ((3 : Int32) * v_m_rows)) x1) (Int32.toNatClampNeg (((3 : Int32) * v_m_rows) + (1 : Int32))) x2) (Int32.toNatClampNeg (((3 : Int32) * v_m_rows) + (2 : Int32))) x3)) H := hP
          have hD : va_D A (wo_X10_house cI cJ a_m a_mt a_ml a_mr a_mx a_mf a_mg a_mw a_mh (0 : Int32) v_m_trace v_m_typed v_m_next v_m_token v_m_place v_m_value v_m_fault v_m_finds v_m_weeks (v_m_rows + (1 : Int32)) v_m_cardPrice v_m_lotPrice v_m_sure v_m_up v_m_down (upd (upd (upd v_mh (Int32.toNatClampNeg ((3 : Int32) * v_m_rows)) x1) (Int32.toNatClampNeg (((3 : Int32) * v_m_rows) + (1 : Int32))) x2) (Int32.toNatClampNeg (((3 : Int32) * v_m_rows) + (2 : Int32))) x3)) := hD
          refine lv_aload_n hx hb dX10_house_102 rfl (lv_at hl 0 rfl) ?_
          refine va_get (D := D) (ci := 9) (v := .int (v_m_rows + (1 : Int32))) (C := RX10) (T := TX10) (N := 24) hx hb hts il_X10_house_X10 hown hK hP 0 rfl rfl 17 (by decide) (hts _ fk_X10_house_1) (fun _ h9 => h9) rfl dX10_house_103 ?_
          obtain rfl := Option.some.inj hf
          exact pa_ei X hP hD hS dX10_house_106
        · have hf := (if_pos c_10).symm.trans hf
          refine lv_bipush (v := (-3 : Int32)) hx hb dX10_house_49 (by decide) ?_
          obtain rfl := Option.some.inj hf
          exact pa_ei X hP hD hS dX10_house_51
      · have hf := (if_pos c_9).symm.trans hf
        refine lv_iconst (v := (-1 : Int32)) hx hb dX10_house_38 (by decide) ?_
        obtain rfl := Option.some.inj hf
        exact pa_ei X hP hD hS dX10_house_39
set_option maxHeartbeats 4000000 in
set_option maxRecDepth 100000 in
theorem c_X10_house {l : Launch} {D : va_G} {cI cJ : ClassId} {g : pa_GT} {a_m a_mt a_ml a_mr a_mx a_mf a_mg a_mw a_mh : Nat} {x1 : Int32} {x2 : Int32} {x3 : Int32} {v_m_thrown : Int32} {v_m_trace : Int64} {v_m_typed : Int32} {v_m_next : Int32} {v_m_token : Int32} {v_m_place : Int32} {v_m_value : Int32} {v_m_fault : Int32} {v_m_finds : Int32} {v_m_weeks : Int32} {v_m_rows : Int32} {v_m_cardPrice : Int32} {v_m_lotPrice : Int32} {v_m_sure : Int32} {v_m_up : Int64} {v_m_down : Int64} {v_mh : Nat → Int32} {o : Int32 × Int32 × Int32 × (Nat → Int32)} (hf : f_X10_house x1 x2 x3 v_m_rows v_mh = some o) : pa_Mi l yX10_house wsX10_house rm_X10_house D cI cJ g [.ref a_m, .int x1, .int x2, .int x3] (wo_X10_house cI cJ a_m a_mt a_ml a_mr a_mx a_mf a_mg a_mw a_mh v_m_thrown v_m_trace v_m_typed v_m_next v_m_token v_m_place v_m_value v_m_fault v_m_finds v_m_weeks v_m_rows v_m_cardPrice v_m_lotPrice v_m_sure v_m_up v_m_down v_mh) (wo_X10_house cI cJ a_m a_mt a_ml a_mr a_mx a_mf a_mg a_mw a_mh o.2.1 v_m_trace v_m_typed v_m_next v_m_token v_m_place v_m_value v_m_fault v_m_finds v_m_weeks o.2.2.1 v_m_cardPrice v_m_lotPrice v_m_sure v_m_up v_m_down o.2.2.2) o.1 := by
  intro sz
  refine pa_met (cc := cX10_house) (maxL := 4) (ret := (some .int)) (lv := [(0, .ref a_m), (1, .int x1), (2, .int x2), (3, .int x3)]) (by decide) rfl (Nat.le_of_ble_eq_true rfl) rfl ?_
  intro p e s m below meth c X hsz hP hD ls hl
  subst hsz
  exact w_X10_house_b0 X hf hP hD va_S.rf hl
abbrev wo_X10_heldBy (cI cJ : ClassId) (a_m a_mt a_ml a_mr a_mx a_mf a_mg a_mw a_mh : Nat) (v_m_thrown : Int32) (v_m_trace : Int64) (v_m_typed : Int32) (v_m_next : Int32) (v_m_token : Int32) (v_m_place : Int32) (v_m_value : Int32) (v_m_fault : Int32) (v_m_finds : Int32) (v_m_weeks : Int32) (v_m_rows : Int32) (v_m_cardPrice : Int32) (v_m_lotPrice : Int32) (v_m_sure : Int32) (v_m_up : Int64) (v_m_down : Int64) (v_mh : Nat → Int32) : va_W := [(a_m, .inr (9, [.int v_m_thrown, .long v_m_trace, .ref a_mt, .ref a_ml, .ref a_mr, .ref a_mx, .int v_m_typed, .int v_m_next, .int v_m_token, .int v_m_place, .int v_m_value, .int v_m_fault, .int v_m_finds, .ref a_mf, .ref a_mg, .int v_m_weeks, .ref a_mw, .int v_m_rows, .ref a_mh, .int v_m_cardPrice, .int v_m_lotPrice, .int v_m_sure, .long v_m_up, .long v_m_down])), (a_mh, .inl (cI, 72, .inl v_mh))]
abbrev rm_X10_heldBy : Room := { frames := 0, cells := 0, slots := 0, locals := 0 }
theorem il_X10_heldBy_X10 : ∀ w ∈ wsX100, w ∈ wsX10_heldBy := by decide +kernel
theorem fk_X10_heldBy_0 : Cond.fieldLink RX10 32 "PostedAsksModel" "house" "[I" ∈ wsX10_heldBy := by decide +kernel
theorem fk_X10_heldBy_1 : Cond.fieldLink RX10 166 "PostedAsksModel" "rows" "I" ∈ wsX10_heldBy := by decide +kernel
def f_X10_heldBy_b47 (rec4 : Int32 → Int32 → Option (Int32)) (x1 : Int32) (x3 : Int32) (s0 : Int32) (s1 : Int32) (v_m_rows : Int32) (v_mh : Nat → Int32) : Option (Int32) :=
  if pa_ib (((3 : Int32) * x3) + (1 : Int32)) 72 = true then
    if ((v_mh (Int32.toNatClampNeg (((3 : Int32) * x3) + (1 : Int32)))) + x1) < s1 then
      rec4 (s0 + (0 : Int32)) (x3 + (1 : Int32))
    else
      rec4 (s0 + (1 : Int32)) (x3 + (1 : Int32))
  else none
def f_X10_heldBy_L4_body (x1 : Int32) (v_m_rows : Int32) (v_mh : Nat → Int32) (rec4 : Int32 → Int32 → Option (Int32)) (x2 : Int32) (x3 : Int32) : Option (Int32) :=
  if v_m_rows ≤ x3 then
    some (x2)
  else
    if pa_ib ((3 : Int32) * x3) 72 = true then
      if pa_ib (((3 : Int32) * x3) + (2 : Int32)) 72 = true then
        if 0 ≤ ((v_mh (Int32.toNatClampNeg ((3 : Int32) * x3))) - (v_mh (Int32.toNatClampNeg (((3 : Int32) * x3) + (2 : Int32))))) then
          f_X10_heldBy_b47 rec4 x1 x3 x2 ((v_mh (Int32.toNatClampNeg ((3 : Int32) * x3))) - (v_mh (Int32.toNatClampNeg (((3 : Int32) * x3) + (2 : Int32))))) v_m_rows v_mh
        else
          f_X10_heldBy_b47 rec4 x1 x3 x2 (-((v_mh (Int32.toNatClampNeg ((3 : Int32) * x3))) - (v_mh (Int32.toNatClampNeg (((3 : Int32) * x3) + (2 : Int32)))))) v_m_rows v_mh
      else none
    else none
def f_X10_heldBy_L4 (x1 : Int32) (v_m_rows : Int32) (v_mh : Nat → Int32) : Nat → Int32 → Int32 → Option (Int32)
  | 0 => fun _ _ => none
  | n + 1 => f_X10_heldBy_L4_body x1 v_m_rows v_mh (f_X10_heldBy_L4 x1 v_m_rows v_mh n)
def f_X10_heldBy (x1 : Int32) (v_m_rows : Int32) (v_mh : Nat → Int32) : Option (Int32) :=
  f_X10_heldBy_L4 x1 v_m_rows v_mh pa_fu (0 : Int32) (0 : Int32)
set_option maxHeartbeats 4000000 in
set_option maxRecDepth 100000 in
theorem w_X10_heldBy_b47 {l : Launch} {D : va_G} {cI cJ : ClassId} {g : pa_GT} {a_m a_mt a_ml a_mr a_mx a_mf a_mg a_mw a_mh : Nat} {A : Nat → Prop} {p : Program} {e : Env} {s : State} {m : MethodId} {args : Array Value} {below : List Frame} {meth : Method} {c : Code} {x1 : Int32} {x3 : Int32} {s0 : Int32} {s1 : Int32} {v_m_rows : Int32} {v_mh : Nat → Int32} {v_m_thrown : Int32} {v_m_trace : Int64} {v_m_typed : Int32} {v_m_next : Int32} {v_m_token : Int32} {v_m_place : Int32} {v_m_value : Int32} {v_m_fault : Int32} {v_m_finds : Int32} {v_m_weeks : Int32} {v_m_cardPrice : Int32} {v_m_lotPrice : Int32} {v_m_sure : Int32} {v_m_up : Int64} {v_m_down : Int64} {o : Int32} (X : pa_X cX10_heldBy 5 (some .int) RX10 wsX10_heldBy D cI cJ g A p s m args meth c) {rec4 : Int32 → Int32 → Option (Int32)} (hrec4 : ∀ (x2 : Int32) (x3 : Int32), rec4 x2 x3 = some o → ∀ (H : Heap) (locs : List Loc) , va_P D vwCl (wo_X10_heldBy cI cJ a_m a_mt a_ml a_mr a_mx a_mf a_mg a_mw a_mh v_m_thrown v_m_trace v_m_typed v_m_next v_m_token v_m_place v_m_value v_m_fault v_m_finds v_m_weeks v_m_rows v_m_cardPrice v_m_lotPrice v_m_sure v_m_up v_m_down v_mh) H → va_D A (wo_X10_heldBy cI cJ a_m a_mt a_ml a_mr a_mx a_mf a_mg a_mw a_mh v_m_thrown v_m_trace v_m_typed v_m_next v_m_token v_m_place v_m_value v_m_fault v_m_finds v_m_weeks v_m_rows v_m_cardPrice v_m_lotPrice v_m_sure v_m_up v_m_down v_mh) → va_S A s.heap H locs → ∀ (ls : Array Slot), lv_has ls 5 [(0, .ref a_m), (1, .int x1), (2, .int x2), (3, .int x3)] → W p l e (headSpec wsX10_heldBy rm_X10_heldBy).room s m args below meth c H locs 0 0 (MQ below (va_Qi (fun r (_ : Unit) => r = o) (pa_QB D A (wo_X10_heldBy cI cJ a_m a_mt a_ml a_mr a_mx a_mf a_mg a_mw a_mh v_m_thrown v_m_trace v_m_typed v_m_next v_m_token v_m_place v_m_value v_m_fault v_m_finds v_m_weeks v_m_rows v_m_cardPrice v_m_lotPrice v_m_sure v_m_up v_m_down v_mh)) A) args s 0 0 A) (F0 m 4 ls [])) (hf : f_X10_heldBy_b47 rec4 x1 x3 s0 s1 v_m_rows v_mh = some o) {H : Heap} {locs : List Loc} (hP : va_P D vwCl (wo_X10_heldBy cI cJ a_m a_mt a_ml a_mr a_mx a_mf a_mg a_mw a_mh v_m_thrown v_m_trace v_m_typed v_m_next v_m_token v_m_place v_m_value v_m_fault v_m_finds v_m_weeks v_m_rows v_m_cardPrice v_m_lotPrice v_m_sure v_m_up v_m_down v_mh) H) (hD : va_D A (wo_X10_heldBy cI cJ a_m a_mt a_ml a_mr a_mx a_mf a_mg a_mw a_mh v_m_thrown v_m_trace v_m_typed v_m_next v_m_token v_m_place v_m_value v_m_fault v_m_finds v_m_weeks v_m_rows v_m_cardPrice v_m_lotPrice v_m_sure v_m_up v_m_down v_mh)) (hS : va_S A s.heap H locs) {ls : Array Slot} (hl : lv_has ls 5 [(0, .ref a_m), (1, .int x1), (3, .int x3)]) : W p l e (headSpec wsX10_heldBy rm_X10_heldBy).room s m args below meth c H locs 0 0 (MQ below (va_Qi (fun r (_ : Unit) => r = o) (pa_QB D A (wo_X10_heldBy cI cJ a_m a_mt a_ml a_mr a_mx a_mf a_mg a_mw a_mh v_m_thrown v_m_trace v_m_typed v_m_next v_m_token v_m_place v_m_value v_m_fault v_m_finds v_m_weeks v_m_rows v_m_cardPrice v_m_lotPrice v_m_sure v_m_up v_m_down v_mh)) A) args s 0 0 A) (F0 m 47 ls [.int s1, .int s0]) := by
  obtain ⟨hx, hb, hr, hml, hown, hts, hK, hA, hG, hlk⟩ := id X
  delta f_X10_heldBy_b47 at hf
  refine lv_aload_n hx hb dX10_heldBy_47 rfl (lv_at hl 0 rfl) ?_
  refine va_get (D := D) (ci := 9) (v := .ref a_mh) (C := RX10) (T := TX10) (N := 24) hx hb hts il_X10_heldBy_X10 hown hK hP 0 rfl rfl 18 (by decide) (hts _ fk_X10_heldBy_0) (fun _ h9 => h9) rfl dX10_heldBy_48 ?_
  refine lv_iconst (v := (3 : Int32)) hx hb dX10_heldBy_51 (by decide) ?_
  refine lv_iload_n hx hb dX10_heldBy_52 rfl (lv_at hl 2 rfl) ?_
  refine lv_imul hx hb dX10_heldBy_53 ?_
  refine lv_iconst (v := (1 : Int32)) hx hb dX10_heldBy_54 (by decide) ?_
  refine lv_iadd hx hb dX10_heldBy_55 ?_
  obtain ⟨hi_1, hf⟩ := pa_gd hf
  refine va_iald hx hb hK hP 1 0 rfl rfl hi_1 dX10_heldBy_56 ?_
  refine lv_iload_n hx hb dX10_heldBy_57 rfl (lv_at hl 1 rfl) ?_
  refine lv_iadd hx hb dX10_heldBy_58 ?_
  refine lv_icmp_gt (tgt := 66) hx hb dX10_heldBy_59 (by decide) (fun c_2 => ?_) (fun c_2 => ?_)
  · have hf := (if_pos c_2).symm.trans hf
    refine lv_iconst (v := (0 : Int32)) hx hb dX10_heldBy_66 (by decide) ?_
    refine lv_iadd hx hb dX10_heldBy_67 ?_
    refine lv_istore_n (lv' := [(2, .int (s0 + (0 : Int32))), (0, .ref a_m), (1, .int x1), (3, .int x3)]) hx hb dX10_heldBy_68 rfl hl (by decide) rfl (fun ls hl => ?_)
    refine lv_iinc (v := (x3 + (1 : Int32))) (lv' := [(3, .int (x3 + (1 : Int32))), (2, .int (s0 + (0 : Int32))), (0, .ref a_m), (1, .int x1)]) hx hb dX10_heldBy_69 hl (k := 3) rfl rfl (by decide) rfl (fun ls hl => ?_)
    refine lv_goto (tgt := 4) hx hb dX10_heldBy_72 (by decide) ?_
    exact hrec4 _ _ hf _ _  hP hD hS _ (lv_sub hl [2, 3, 1, 0] rfl)
  · have hf := (if_neg c_2).symm.trans hf
    refine lv_iconst (v := (1 : Int32)) hx hb dX10_heldBy_62 (by decide) ?_
    refine lv_goto (tgt := 67) hx hb dX10_heldBy_63 (by decide) ?_
    refine lv_iadd hx hb dX10_heldBy_67 ?_
    refine lv_istore_n (lv' := [(2, .int (s0 + (1 : Int32))), (0, .ref a_m), (1, .int x1), (3, .int x3)]) hx hb dX10_heldBy_68 rfl hl (by decide) rfl (fun ls hl => ?_)
    refine lv_iinc (v := (x3 + (1 : Int32))) (lv' := [(3, .int (x3 + (1 : Int32))), (2, .int (s0 + (1 : Int32))), (0, .ref a_m), (1, .int x1)]) hx hb dX10_heldBy_69 hl (k := 3) rfl rfl (by decide) rfl (fun ls hl => ?_)
    refine lv_goto (tgt := 4) hx hb dX10_heldBy_72 (by decide) ?_
    exact hrec4 _ _ hf _ _  hP hD hS _ (lv_sub hl [2, 3, 1, 0] rfl)
set_option maxHeartbeats 4000000 in
set_option maxRecDepth 100000 in
theorem w_X10_heldBy_L4 {l : Launch} {D : va_G} {cI cJ : ClassId} {g : pa_GT} {a_m a_mt a_ml a_mr a_mx a_mf a_mg a_mw a_mh : Nat} {A : Nat → Prop} {p : Program} {e : Env} {s : State} {m : MethodId} {args : Array Value} {below : List Frame} {meth : Method} {c : Code} {x1 : Int32} {v_m_rows : Int32} {v_mh : Nat → Int32} {v_m_thrown : Int32} {v_m_trace : Int64} {v_m_typed : Int32} {v_m_next : Int32} {v_m_token : Int32} {v_m_place : Int32} {v_m_value : Int32} {v_m_fault : Int32} {v_m_finds : Int32} {v_m_weeks : Int32} {v_m_cardPrice : Int32} {v_m_lotPrice : Int32} {v_m_sure : Int32} {v_m_up : Int64} {v_m_down : Int64} {o : Int32} (X : pa_X cX10_heldBy 5 (some .int) RX10 wsX10_heldBy D cI cJ g A p s m args meth c)  : ∀ (n : Nat) (x2 : Int32) (x3 : Int32), f_X10_heldBy_L4 x1 v_m_rows v_mh n x2 x3 = some o → ∀ (H : Heap) (locs : List Loc) , va_P D vwCl (wo_X10_heldBy cI cJ a_m a_mt a_ml a_mr a_mx a_mf a_mg a_mw a_mh v_m_thrown v_m_trace v_m_typed v_m_next v_m_token v_m_place v_m_value v_m_fault v_m_finds v_m_weeks v_m_rows v_m_cardPrice v_m_lotPrice v_m_sure v_m_up v_m_down v_mh) H → va_D A (wo_X10_heldBy cI cJ a_m a_mt a_ml a_mr a_mx a_mf a_mg a_mw a_mh v_m_thrown v_m_trace v_m_typed v_m_next v_m_token v_m_place v_m_value v_m_fault v_m_finds v_m_weeks v_m_rows v_m_cardPrice v_m_lotPrice v_m_sure v_m_up v_m_down v_mh) → va_S A s.heap H locs → ∀ (ls : Array Slot), lv_has ls 5 [(0, .ref a_m), (1, .int x1), (2, .int x2), (3, .int x3)] → W p l e (headSpec wsX10_heldBy rm_X10_heldBy).room s m args below meth c H locs 0 0 (MQ below (va_Qi (fun r (_ : Unit) => r = o) (pa_QB D A (wo_X10_heldBy cI cJ a_m a_mt a_ml a_mr a_mx a_mf a_mg a_mw a_mh v_m_thrown v_m_trace v_m_typed v_m_next v_m_token v_m_place v_m_value v_m_fault v_m_finds v_m_weeks v_m_rows v_m_cardPrice v_m_lotPrice v_m_sure v_m_up v_m_down v_mh)) A) args s 0 0 A) (F0 m 4 ls []) := by
  obtain ⟨hx, hb, hr, hml, hown, hts, hK, hA, hG, hlk⟩ := id X
  intro n
  induction n with
  | zero =>
    intro x2 x3 hf
    have hf : (none : Option (Int32)) = some o := hf
    cases hf
  | succ n hrec4 =>
    intro x2 x3 hf H locs  hP hD hS ls hl
    have hf : f_X10_heldBy_L4_body x1 v_m_rows v_mh (f_X10_heldBy_L4 x1 v_m_rows v_mh n) x2 x3 = some o := hf
    delta f_X10_heldBy_L4_body at hf
    generalize hgr : f_X10_heldBy_L4 x1 v_m_rows v_mh n = rec4 at hf hrec4
    refine lv_iload_n hx hb dX10_heldBy_4 rfl (lv_at hl 3 rfl) ?_
    refine lv_aload_n hx hb dX10_heldBy_5 rfl (lv_at hl 0 rfl) ?_
    refine va_get (D := D) (ci := 9) (v := .int v_m_rows) (C := RX10) (T := TX10) (N := 24) hx hb hts il_X10_heldBy_X10 hown hK hP 0 rfl rfl 17 (by decide) (hts _ fk_X10_heldBy_1) (fun _ h9 => h9) rfl dX10_heldBy_6 ?_
    refine lv_icmp_ge (tgt := 75) hx hb dX10_heldBy_9 (by decide) (fun c_3 => ?_) (fun c_3 => ?_)
    · have hf := (if_pos c_3).symm.trans hf
      refine lv_iload_n hx hb dX10_heldBy_75 rfl (lv_at hl 2 rfl) ?_
      obtain rfl := Option.some.inj hf
      exact pa_ei X hP hD hS dX10_heldBy_76
    · have hf := (if_neg c_3).symm.trans hf
      refine lv_aload_n hx hb dX10_heldBy_12 rfl (lv_at hl 0 rfl) ?_
      refine va_get (D := D) (ci := 9) (v := .ref a_mh) (C := RX10) (T := TX10) (N := 24) hx hb hts il_X10_heldBy_X10 hown hK hP 0 rfl rfl 18 (by decide) (hts _ fk_X10_heldBy_0) (fun _ h9 => h9) rfl dX10_heldBy_13 ?_
      refine lv_iconst (v := (3 : Int32)) hx hb dX10_heldBy_16 (by decide) ?_
      refine lv_iload_n hx hb dX10_heldBy_17 rfl (lv_at hl 3 rfl) ?_
      refine lv_imul hx hb dX10_heldBy_18 ?_
      obtain ⟨hi_4, hf⟩ := pa_gd hf
      refine va_iald hx hb hK hP 1 0 rfl rfl hi_4 dX10_heldBy_19 ?_
      refine lv_aload_n hx hb dX10_heldBy_20 rfl (lv_at hl 0 rfl) ?_
      refine va_get (D := D) (ci := 9) (v := .ref a_mh) (C := RX10) (T := TX10) (N := 24) hx hb hts il_X10_heldBy_X10 hown hK hP 0 rfl rfl 18 (by decide) (hts _ fk_X10_heldBy_0) (fun _ h9 => h9) rfl dX10_heldBy_21 ?_
      refine lv_iconst (v := (3 : Int32)) hx hb dX10_heldBy_24 (by decide) ?_
      refine lv_iload_n hx hb dX10_heldBy_25 rfl (lv_at hl 3 rfl) ?_
      refine lv_imul hx hb dX10_heldBy_26 ?_
      refine lv_iconst (v := (2 : Int32)) hx hb dX10_heldBy_27 (by decide) ?_
      refine lv_iadd hx hb dX10_heldBy_28 ?_
      obtain ⟨hi_5, hf⟩ := pa_gd hf
      refine va_iald hx hb hK hP 1 0 rfl rfl hi_5 dX10_heldBy_29 ?_
      refine lv_isub hx hb dX10_heldBy_30 ?_
      refine lv_istore (lv' := [(4, .int ((v_mh (Int32.toNatClampNeg ((3 : Int32) * x3))) - (v_mh (Int32.toNatClampNeg (((3 : Int32) * x3) + (2 : Int32)))))), (0, .ref a_m), (1, .int x1), (2, .int x2), (3, .int x3)]) hx hb dX10_heldBy_31 hl (by decide) rfl (fun ls hl => ?_)
      refine lv_iload_n hx hb dX10_heldBy_33 rfl (lv_at hl 3 rfl) ?_
      refine lv_iload hx hb dX10_heldBy_34 (lv_at hl 0 rfl) ?_
      refine lv_if_ge (tgt := 45) hx hb dX10_heldBy_36 (by decide) (fun c_6 => ?_) (fun c_6 => ?_)
      · have hf := (if_pos c_6).symm.trans hf
        refine lv_iload hx hb dX10_heldBy_45 (lv_at hl 0 rfl) ?_
        exact w_X10_heldBy_b47 X hrec4 hf hP hD hS (lv_sub hl [1, 2, 4] rfl)
      · have hf := (if_neg c_6).symm.trans hf
        refine lv_iload hx hb dX10_heldBy_39 (lv_at hl 0 rfl) ?_
        refine lv_ineg hx hb dX10_heldBy_41 ?_
        refine lv_goto (tgt := 47) hx hb dX10_heldBy_42 (by decide) ?_
        exact w_X10_heldBy_b47 X hrec4 hf hP hD hS (lv_sub hl [1, 2, 4] rfl)
set_option maxHeartbeats 4000000 in
set_option maxRecDepth 100000 in
theorem w_X10_heldBy_b0 {l : Launch} {D : va_G} {cI cJ : ClassId} {g : pa_GT} {a_m a_mt a_ml a_mr a_mx a_mf a_mg a_mw a_mh : Nat} {A : Nat → Prop} {p : Program} {e : Env} {s : State} {m : MethodId} {args : Array Value} {below : List Frame} {meth : Method} {c : Code} {x1 : Int32} {v_m_rows : Int32} {v_mh : Nat → Int32} {v_m_thrown : Int32} {v_m_trace : Int64} {v_m_typed : Int32} {v_m_next : Int32} {v_m_token : Int32} {v_m_place : Int32} {v_m_value : Int32} {v_m_fault : Int32} {v_m_finds : Int32} {v_m_weeks : Int32} {v_m_cardPrice : Int32} {v_m_lotPrice : Int32} {v_m_sure : Int32} {v_m_up : Int64} {v_m_down : Int64} {o : Int32} (X : pa_X cX10_heldBy 5 (some .int) RX10 wsX10_heldBy D cI cJ g A p s m args meth c)  (hf : f_X10_heldBy x1 v_m_rows v_mh = some o) {H : Heap} {locs : List Loc} (hP : va_P D vwCl (wo_X10_heldBy cI cJ a_m a_mt a_ml a_mr a_mx a_mf a_mg a_mw a_mh v_m_thrown v_m_trace v_m_typed v_m_next v_m_token v_m_place v_m_value v_m_fault v_m_finds v_m_weeks v_m_rows v_m_cardPrice v_m_lotPrice v_m_sure v_m_up v_m_down v_mh) H) (hD : va_D A (wo_X10_heldBy cI cJ a_m a_mt a_ml a_mr a_mx a_mf a_mg a_mw a_mh v_m_thrown v_m_trace v_m_typed v_m_next v_m_token v_m_place v_m_value v_m_fault v_m_finds v_m_weeks v_m_rows v_m_cardPrice v_m_lotPrice v_m_sure v_m_up v_m_down v_mh)) (hS : va_S A s.heap H locs) {ls : Array Slot} (hl : lv_has ls 5 [(0, .ref a_m), (1, .int x1)]) : W p l e (headSpec wsX10_heldBy rm_X10_heldBy).room s m args below meth c H locs 0 0 (MQ below (va_Qi (fun r (_ : Unit) => r = o) (pa_QB D A (wo_X10_heldBy cI cJ a_m a_mt a_ml a_mr a_mx a_mf a_mg a_mw a_mh v_m_thrown v_m_trace v_m_typed v_m_next v_m_token v_m_place v_m_value v_m_fault v_m_finds v_m_weeks v_m_rows v_m_cardPrice v_m_lotPrice v_m_sure v_m_up v_m_down v_mh)) A) args s 0 0 A) (F0 m 0 ls []) := by
  obtain ⟨hx, hb, hr, hml, hown, hts, hK, hA, hG, hlk⟩ := id X
  delta f_X10_heldBy at hf
  refine lv_iconst (v := (0 : Int32)) hx hb dX10_heldBy_0 (by decide) ?_
  refine lv_istore_n (lv' := [(2, .int (0 : Int32)), (0, .ref a_m), (1, .int x1)]) hx hb dX10_heldBy_1 rfl hl (by decide) rfl (fun ls hl => ?_)
  refine lv_iconst (v := (0 : Int32)) hx hb dX10_heldBy_2 (by decide) ?_
  refine lv_istore_n (lv' := [(3, .int (0 : Int32)), (2, .int (0 : Int32)), (0, .ref a_m), (1, .int x1)]) hx hb dX10_heldBy_3 rfl hl (by decide) rfl (fun ls hl => ?_)
  exact w_X10_heldBy_L4 X  _ _ _ hf _ _  hP hD hS _ (lv_sub hl [2, 3, 1, 0] rfl)
set_option maxHeartbeats 4000000 in
set_option maxRecDepth 100000 in
theorem c_X10_heldBy {l : Launch} {D : va_G} {cI cJ : ClassId} {g : pa_GT} {a_m a_mt a_ml a_mr a_mx a_mf a_mg a_mw a_mh : Nat} {x1 : Int32} {v_m_thrown : Int32} {v_m_trace : Int64} {v_m_typed : Int32} {v_m_next : Int32} {v_m_token : Int32} {v_m_place : Int32} {v_m_value : Int32} {v_m_fault : Int32} {v_m_finds : Int32} {v_m_weeks : Int32} {v_m_rows : Int32} {v_m_cardPrice : Int32} {v_m_lotPrice : Int32} {v_m_sure : Int32} {v_m_up : Int64} {v_m_down : Int64} {v_mh : Nat → Int32} {o : Int32} (hf : f_X10_heldBy x1 v_m_rows v_mh = some o) : pa_Mi l yX10_heldBy wsX10_heldBy rm_X10_heldBy D cI cJ g [.ref a_m, .int x1] (wo_X10_heldBy cI cJ a_m a_mt a_ml a_mr a_mx a_mf a_mg a_mw a_mh v_m_thrown v_m_trace v_m_typed v_m_next v_m_token v_m_place v_m_value v_m_fault v_m_finds v_m_weeks v_m_rows v_m_cardPrice v_m_lotPrice v_m_sure v_m_up v_m_down v_mh) (wo_X10_heldBy cI cJ a_m a_mt a_ml a_mr a_mx a_mf a_mg a_mw a_mh v_m_thrown v_m_trace v_m_typed v_m_next v_m_token v_m_place v_m_value v_m_fault v_m_finds v_m_weeks v_m_rows v_m_cardPrice v_m_lotPrice v_m_sure v_m_up v_m_down v_mh) o := by
  intro sz
  refine pa_met (cc := cX10_heldBy) (maxL := 5) (ret := (some .int)) (lv := [(0, .ref a_m), (1, .int x1)]) (by decide) rfl (Nat.le_of_ble_eq_true rfl) rfl ?_
  intro p e s m below meth c X hsz hP hD ls hl
  subst hsz
  exact w_X10_heldBy_b0 X hf hP hD va_S.rf hl
abbrev wo_X10_held (cI cJ : ClassId) (a_m a_mt a_ml a_mr a_mx a_mf a_mg a_mw a_mh : Nat) (v_m_thrown : Int32) (v_m_trace : Int64) (v_m_typed : Int32) (v_m_next : Int32) (v_m_token : Int32) (v_m_place : Int32) (v_m_value : Int32) (v_m_fault : Int32) (v_m_finds : Int32) (v_m_weeks : Int32) (v_m_rows : Int32) (v_m_cardPrice : Int32) (v_m_lotPrice : Int32) (v_m_sure : Int32) (v_m_up : Int64) (v_m_down : Int64) (v_mh : Nat → Int32) : va_W := [(a_m, .inr (9, [.int v_m_thrown, .long v_m_trace, .ref a_mt, .ref a_ml, .ref a_mr, .ref a_mx, .int v_m_typed, .int v_m_next, .int v_m_token, .int v_m_place, .int v_m_value, .int v_m_fault, .int v_m_finds, .ref a_mf, .ref a_mg, .int v_m_weeks, .ref a_mw, .int v_m_rows, .ref a_mh, .int v_m_cardPrice, .int v_m_lotPrice, .int v_m_sure, .long v_m_up, .long v_m_down])), (a_mh, .inl (cI, 72, .inl v_mh))]
abbrev rm_X10_held : Room := { frames := 1, cells := 0, slots := 0, locals := 24 }
theorem il_X10_held_X10 : ∀ w ∈ wsX100, w ∈ wsX10_held := by decide +kernel
theorem fk_X10_held_0 : Cond.fieldLink RX10 45 "PostedAsksModel" "thrown" "I" ∈ wsX10_held := by decide +kernel
def f_X10_held (x1 : Int32) (v_m_rows : Int32) (v_mh : Nat → Int32) : Option (Int32 × Int32) :=
  (f_X10_in x1 (0 : Int32) (1000 : Int32)).bind fun u_1 =>
  if u_1 = 0 then
    some ((-1 : Int32), (0 : Int32))
  else
    (f_X10_heldBy x1 v_m_rows v_mh).bind fun u_4 =>
    some (u_4, (0 : Int32))
set_option maxHeartbeats 4000000 in
set_option maxRecDepth 100000 in
theorem w_X10_held_b0 {l : Launch} {D : va_G} {cI cJ : ClassId} {g : pa_GT} {a_m a_mt a_ml a_mr a_mx a_mf a_mg a_mw a_mh : Nat} {A : Nat → Prop} {p : Program} {e : Env} {s : State} {m : MethodId} {args : Array Value} {below : List Frame} {meth : Method} {c : Code} {x1 : Int32} {v_m_rows : Int32} {v_mh : Nat → Int32} {v_m_thrown : Int32} {v_m_trace : Int64} {v_m_typed : Int32} {v_m_next : Int32} {v_m_token : Int32} {v_m_place : Int32} {v_m_value : Int32} {v_m_fault : Int32} {v_m_finds : Int32} {v_m_weeks : Int32} {v_m_cardPrice : Int32} {v_m_lotPrice : Int32} {v_m_sure : Int32} {v_m_up : Int64} {v_m_down : Int64} {o : Int32 × Int32} (X : pa_X cX10_held 2 (some .int) RX10 wsX10_held D cI cJ g A p s m args meth c)  (hf : f_X10_held x1 v_m_rows v_mh = some o) {H : Heap} {locs : List Loc} (hP : va_P D vwCl (wo_X10_held cI cJ a_m a_mt a_ml a_mr a_mx a_mf a_mg a_mw a_mh v_m_thrown v_m_trace v_m_typed v_m_next v_m_token v_m_place v_m_value v_m_fault v_m_finds v_m_weeks v_m_rows v_m_cardPrice v_m_lotPrice v_m_sure v_m_up v_m_down v_mh) H) (hD : va_D A (wo_X10_held cI cJ a_m a_mt a_ml a_mr a_mx a_mf a_mg a_mw a_mh v_m_thrown v_m_trace v_m_typed v_m_next v_m_token v_m_place v_m_value v_m_fault v_m_finds v_m_weeks v_m_rows v_m_cardPrice v_m_lotPrice v_m_sure v_m_up v_m_down v_mh)) (hS : va_S A s.heap H locs) {ls : Array Slot} (hl : lv_has ls 2 [(0, .ref a_m), (1, .int x1)]) : W p l e (headSpec wsX10_held rm_X10_held).room s m args below meth c H locs 0 0 (MQ below (va_Qi (fun r (_ : Unit) => r = o.1) (pa_QB D A (wo_X10_held cI cJ a_m a_mt a_ml a_mr a_mx a_mf a_mg a_mw a_mh o.2 v_m_trace v_m_typed v_m_next v_m_token v_m_place v_m_value v_m_fault v_m_finds v_m_weeks v_m_rows v_m_cardPrice v_m_lotPrice v_m_sure v_m_up v_m_down v_mh)) A) args s 0 0 A) (F0 m 0 ls []) := by
  obtain ⟨hx, hb, hr, hml, hown, hts, hK, hA, hG, hlk⟩ := id X
  delta f_X10_held at hf
  refine lv_aload_n hx hb dX10_held_0 rfl (lv_at hl 0 rfl) ?_
  refine lv_iconst (v := (0 : Int32)) hx hb dX10_held_1 (by decide) ?_
  refine va_put (D := D) (ci := 9) (v := .int (0 : Int32)) (ty := .int) (C := RX10) (T := TX10) (N := 24) hx hb hts il_X10_held_X10 tyX10 tyX10_ok nmX10 hown hK hP hD hS 0 rfl rfl 0 (by decide) (hts _ fk_X10_held_0) (fun _ h9 => h9) rfl (tyX10_ok 0 (by decide)) rfl rfl (Nat.le_of_ble_eq_true rfl) dX10_held_2 (fun H locs hP hD hS => ?_)
  have hP : va_P D vwCl (wo_X10_held cI cJ a_m a_mt a_ml a_mr a_mx a_mf a_mg a_mw a_mh (0 : Int32) v_m_trace v_m_typed v_m_next v_m_token v_m_place v_m_value v_m_fault v_m_finds v_m_weeks v_m_rows v_m_cardPrice v_m_lotPrice v_m_sure v_m_up v_m_down v_mh) H := hP
  have hD : va_D A (wo_X10_held cI cJ a_m a_mt a_ml a_mr a_mx a_mf a_mg a_mw a_mh (0 : Int32) v_m_trace v_m_typed v_m_next v_m_token v_m_place v_m_value v_m_fault v_m_finds v_m_weeks v_m_rows v_m_cardPrice v_m_lotPrice v_m_sure v_m_up v_m_down v_mh) := hD
  refine lv_iload_n hx hb dX10_held_5 rfl (lv_at hl 1 rfl) ?_
  refine lv_iconst (v := (0 : Int32)) hx hb dX10_held_6 (by decide) ?_
  refine lv_sipush (v := (1000 : Int32)) hx hb dX10_held_7 (by decide) ?_
  obtain ⟨u_1, hg_2, hf⟩ := pa_bd hf
  refine pa_ki (wc := ([] : va_W)) (wr := [(a_m, .inr (9, [.int (0 : Int32), .long v_m_trace, .ref a_mt, .ref a_ml, .ref a_mr, .ref a_mx, .int v_m_typed, .int v_m_next, .int v_m_token, .int v_m_place, .int v_m_value, .int v_m_fault, .int v_m_finds, .ref a_mf, .ref a_mg, .int v_m_weeks, .ref a_mw, .int v_m_rows, .ref a_mh, .int v_m_cardPrice, .int v_m_lotPrice, .int v_m_sure, .long v_m_up, .long v_m_down])), (a_mh, .inl (cI, 72, .inl v_mh))]) (w1 := ([] : va_W)) (w2 := (wo_X10_held cI cJ a_m a_mt a_ml a_mr a_mx a_mf a_mg a_mw a_mh (0 : Int32) v_m_trace v_m_typed v_m_next v_m_token v_m_place v_m_value v_m_fault v_m_finds v_m_weeks v_m_rows v_m_cardPrice v_m_lotPrice v_m_sure v_m_up v_m_down v_mh)) X hP hD hS [] [0, 1] [0, 1] rfl (pa_rS (As := [.int x1, .int (0 : Int32), .int (1000 : Int32)]) (rest := []) X hP hD hS [] rfl rfl (c_X10_in hg_2 H.size) (va_cwS 3 hts gX10_held_X10_in rfl rfl rfl (by decide +kernel) ⟨Nat.le_of_ble_eq_true rfl, Nat.le_of_ble_eq_true rfl⟩) rfl hl.1 rfl (Nat.le_of_ble_eq_true rfl) dX10_held_10 ⟨Nat.zero_le _, Nat.zero_le _⟩) rfl rfl (by decide) rfl rfl (fun H locs hP hD hS => ?_)
  refine lv_if_eq (tgt := 24) hx hb dX10_held_13 (by decide) (fun c_3 => ?_) (fun c_3 => ?_)
  · have hf := (if_pos c_3).symm.trans hf
    refine lv_iconst (v := (-1 : Int32)) hx hb dX10_held_24 (by decide) ?_
    obtain rfl := Option.some.inj hf
    exact pa_ei X hP hD hS dX10_held_25
  · have hf := (if_neg c_3).symm.trans hf
    refine lv_aload_n hx hb dX10_held_16 rfl (lv_at hl 0 rfl) ?_
    refine lv_iload_n hx hb dX10_held_17 rfl (lv_at hl 1 rfl) ?_
    obtain ⟨u_4, hg_5, hf⟩ := pa_bd hf
    refine pa_ki (wc := (wo_X10_heldBy cI cJ a_m a_mt a_ml a_mr a_mx a_mf a_mg a_mw a_mh (0 : Int32) v_m_trace v_m_typed v_m_next v_m_token v_m_place v_m_value v_m_fault v_m_finds v_m_weeks v_m_rows v_m_cardPrice v_m_lotPrice v_m_sure v_m_up v_m_down v_mh)) (wr := ([] : va_W)) (w1 := (wo_X10_heldBy cI cJ a_m a_mt a_ml a_mr a_mx a_mf a_mg a_mw a_mh (0 : Int32) v_m_trace v_m_typed v_m_next v_m_token v_m_place v_m_value v_m_fault v_m_finds v_m_weeks v_m_rows v_m_cardPrice v_m_lotPrice v_m_sure v_m_up v_m_down v_mh)) (w2 := (wo_X10_held cI cJ a_m a_mt a_ml a_mr a_mx a_mf a_mg a_mw a_mh (0 : Int32) v_m_trace v_m_typed v_m_next v_m_token v_m_place v_m_value v_m_fault v_m_finds v_m_weeks v_m_rows v_m_cardPrice v_m_lotPrice v_m_sure v_m_up v_m_down v_mh)) X hP hD hS [0, 1] [] [0, 1] rfl (pa_rV (As := [.int x1]) (rest := []) (T := TX10) X hP hD hS [0, 1] rfl rfl (c_X10_heldBy hg_5 H.size) (cwV 1 hts gX10_held_X10_heldBy rfl rfl rfl (by decide +kernel) ⟨Nat.le_of_ble_eq_true rfl, Nat.le_of_ble_eq_true rfl⟩) (q0 := 0) rfl rfl rfl hl.1 rfl (Nat.le_of_ble_eq_true rfl) dX10_held_18 ⟨Nat.zero_le _, Nat.zero_le _⟩) rfl rfl (by decide) rfl rfl (fun H locs hP hD hS => ?_)
    refine lv_goto (tgt := 25) hx hb dX10_held_21 (by decide) ?_
    obtain rfl := Option.some.inj hf
    exact pa_ei X hP hD hS dX10_held_25
set_option maxHeartbeats 4000000 in
set_option maxRecDepth 100000 in
theorem c_X10_held {l : Launch} {D : va_G} {cI cJ : ClassId} {g : pa_GT} {a_m a_mt a_ml a_mr a_mx a_mf a_mg a_mw a_mh : Nat} {x1 : Int32} {v_m_thrown : Int32} {v_m_trace : Int64} {v_m_typed : Int32} {v_m_next : Int32} {v_m_token : Int32} {v_m_place : Int32} {v_m_value : Int32} {v_m_fault : Int32} {v_m_finds : Int32} {v_m_weeks : Int32} {v_m_rows : Int32} {v_m_cardPrice : Int32} {v_m_lotPrice : Int32} {v_m_sure : Int32} {v_m_up : Int64} {v_m_down : Int64} {v_mh : Nat → Int32} {o : Int32 × Int32} (hf : f_X10_held x1 v_m_rows v_mh = some o) : pa_Mi l yX10_held wsX10_held rm_X10_held D cI cJ g [.ref a_m, .int x1] (wo_X10_held cI cJ a_m a_mt a_ml a_mr a_mx a_mf a_mg a_mw a_mh v_m_thrown v_m_trace v_m_typed v_m_next v_m_token v_m_place v_m_value v_m_fault v_m_finds v_m_weeks v_m_rows v_m_cardPrice v_m_lotPrice v_m_sure v_m_up v_m_down v_mh) (wo_X10_held cI cJ a_m a_mt a_ml a_mr a_mx a_mf a_mg a_mw a_mh o.2 v_m_trace v_m_typed v_m_next v_m_token v_m_place v_m_value v_m_fault v_m_finds v_m_weeks v_m_rows v_m_cardPrice v_m_lotPrice v_m_sure v_m_up v_m_down v_mh) o.1 := by
  intro sz
  refine pa_met (cc := cX10_held) (maxL := 2) (ret := (some .int)) (lv := [(0, .ref a_m), (1, .int x1)]) (by decide) rfl (Nat.le_of_ble_eq_true rfl) rfl ?_
  intro p e s m below meth c X hsz hP hD ls hl
  subst hsz
  exact w_X10_held_b0 X hf hP hD va_S.rf hl
abbrev wo_X10_wider (cI cJ : ClassId) (a_m a_mt a_ml a_mr a_mx a_mf a_mg a_mw a_mh : Nat) (v_m_thrown : Int32) (v_m_trace : Int64) (v_m_typed : Int32) (v_m_next : Int32) (v_m_token : Int32) (v_m_place : Int32) (v_m_value : Int32) (v_m_fault : Int32) (v_m_finds : Int32) (v_m_weeks : Int32) (v_m_rows : Int32) (v_m_cardPrice : Int32) (v_m_lotPrice : Int32) (v_m_sure : Int32) (v_m_up : Int64) (v_m_down : Int64) (v_mh : Nat → Int32) : va_W := [(a_m, .inr (9, [.int v_m_thrown, .long v_m_trace, .ref a_mt, .ref a_ml, .ref a_mr, .ref a_mx, .int v_m_typed, .int v_m_next, .int v_m_token, .int v_m_place, .int v_m_value, .int v_m_fault, .int v_m_finds, .ref a_mf, .ref a_mg, .int v_m_weeks, .ref a_mw, .int v_m_rows, .ref a_mh, .int v_m_cardPrice, .int v_m_lotPrice, .int v_m_sure, .long v_m_up, .long v_m_down])), (a_mh, .inl (cI, 72, .inl v_mh))]
abbrev rm_X10_wider : Room := { frames := 1, cells := 0, slots := 0, locals := 24 }
theorem il_X10_wider_X10 : ∀ w ∈ wsX100, w ∈ wsX10_wider := by decide +kernel
theorem fk_X10_wider_0 : Cond.fieldLink RX10 45 "PostedAsksModel" "thrown" "I" ∈ wsX10_wider := by decide +kernel
theorem fk_X10_wider_1 : Cond.fieldLink RX10 166 "PostedAsksModel" "rows" "I" ∈ wsX10_wider := by decide +kernel
def f_X10_wider_L30_body (x1 : Int32) (v_m_thrown : Int32) (v_m_rows : Int32) (v_mh : Nat → Int32) (rec30 : Int32 → Option (Int32 × Int32)) (x2 : Int32) : Option (Int32 × Int32) :=
  (f_X10_heldBy x2 v_m_rows v_mh).bind fun u_1 =>
  if x1 ≤ u_1 then
    some (x2, v_m_thrown)
  else
    rec30 (x2 + (1 : Int32))
def f_X10_wider_L30 (x1 : Int32) (v_m_thrown : Int32) (v_m_rows : Int32) (v_mh : Nat → Int32) : Nat → Int32 → Option (Int32 × Int32)
  | 0 => fun _ => none
  | n + 1 => f_X10_wider_L30_body x1 v_m_thrown v_m_rows v_mh (f_X10_wider_L30 x1 v_m_thrown v_m_rows v_mh n)
def f_X10_wider (x1 : Int32) (v_m_rows : Int32) (v_mh : Nat → Int32) : Option (Int32 × Int32) :=
  (f_X10_in x1 (0 : Int32) (24 : Int32)).bind fun u_4 =>
  if u_4 = 0 then
    some ((-1 : Int32), (0 : Int32))
  else
    if x1 ≤ v_m_rows then
      f_X10_wider_L30 x1 (0 : Int32) v_m_rows v_mh pa_fu (0 : Int32)
    else
      some ((-9 : Int32), (0 : Int32))
set_option maxHeartbeats 4000000 in
set_option maxRecDepth 100000 in
theorem w_X10_wider_L30 {l : Launch} {D : va_G} {cI cJ : ClassId} {g : pa_GT} {a_m a_mt a_ml a_mr a_mx a_mf a_mg a_mw a_mh : Nat} {A : Nat → Prop} {p : Program} {e : Env} {s : State} {m : MethodId} {args : Array Value} {below : List Frame} {meth : Method} {c : Code} {x1 : Int32} {v_m_thrown : Int32} {v_m_rows : Int32} {v_mh : Nat → Int32} {v_m_trace : Int64} {v_m_typed : Int32} {v_m_next : Int32} {v_m_token : Int32} {v_m_place : Int32} {v_m_value : Int32} {v_m_fault : Int32} {v_m_finds : Int32} {v_m_weeks : Int32} {v_m_cardPrice : Int32} {v_m_lotPrice : Int32} {v_m_sure : Int32} {v_m_up : Int64} {v_m_down : Int64} {o : Int32 × Int32} (X : pa_X cX10_wider 3 (some .int) RX10 wsX10_wider D cI cJ g A p s m args meth c)  : ∀ (n : Nat) (x2 : Int32), f_X10_wider_L30 x1 v_m_thrown v_m_rows v_mh n x2 = some o → ∀ (H : Heap) (locs : List Loc) , va_P D vwCl (wo_X10_wider cI cJ a_m a_mt a_ml a_mr a_mx a_mf a_mg a_mw a_mh v_m_thrown v_m_trace v_m_typed v_m_next v_m_token v_m_place v_m_value v_m_fault v_m_finds v_m_weeks v_m_rows v_m_cardPrice v_m_lotPrice v_m_sure v_m_up v_m_down v_mh) H → va_D A (wo_X10_wider cI cJ a_m a_mt a_ml a_mr a_mx a_mf a_mg a_mw a_mh v_m_thrown v_m_trace v_m_typed v_m_next v_m_token v_m_place v_m_value v_m_fault v_m_finds v_m_weeks v_m_rows v_m_cardPrice v_m_lotPrice v_m_sure v_m_up v_m_down v_mh) → va_S A s.heap H locs → ∀ (ls : Array Slot), lv_has ls 3 [(0, .ref a_m), (1, .int x1), (2, .int x2)] → W p l e (headSpec wsX10_wider rm_X10_wider).room s m args below meth c H locs 0 0 (MQ below (va_Qi (fun r (_ : Unit) => r = o.1) (pa_QB D A (wo_X10_wider cI cJ a_m a_mt a_ml a_mr a_mx a_mf a_mg a_mw a_mh o.2 v_m_trace v_m_typed v_m_next v_m_token v_m_place v_m_value v_m_fault v_m_finds v_m_weeks v_m_rows v_m_cardPrice v_m_lotPrice v_m_sure v_m_up v_m_down v_mh)) A) args s 0 0 A) (F0 m 30 ls []) := by
  obtain ⟨hx, hb, hr, hml, hown, hts, hK, hA, hG, hlk⟩ := id X
  intro n
  induction n with
  | zero =>
    intro x2 hf
    have hf : (none : Option (Int32 × Int32)) = some o := hf
    cases hf
  | succ n hrec30 =>
    intro x2 hf H locs  hP hD hS ls hl
    have hf : f_X10_wider_L30_body x1 v_m_thrown v_m_rows v_mh (f_X10_wider_L30 x1 v_m_thrown v_m_rows v_mh n) x2 = some o := hf
    delta f_X10_wider_L30_body at hf
    generalize hgr : f_X10_wider_L30 x1 v_m_thrown v_m_rows v_mh n = rec30 at hf hrec30
    refine lv_aload_n hx hb dX10_wider_30 rfl (lv_at hl 0 rfl) ?_
    refine lv_iload_n hx hb dX10_wider_31 rfl (lv_at hl 2 rfl) ?_
    obtain ⟨u_1, hg_2, hf⟩ := pa_bd hf
    refine pa_ki (wc := (wo_X10_heldBy cI cJ a_m a_mt a_ml a_mr a_mx a_mf a_mg a_mw a_mh v_m_thrown v_m_trace v_m_typed v_m_next v_m_token v_m_place v_m_value v_m_fault v_m_finds v_m_weeks v_m_rows v_m_cardPrice v_m_lotPrice v_m_sure v_m_up v_m_down v_mh)) (wr := ([] : va_W)) (w1 := (wo_X10_heldBy cI cJ a_m a_mt a_ml a_mr a_mx a_mf a_mg a_mw a_mh v_m_thrown v_m_trace v_m_typed v_m_next v_m_token v_m_place v_m_value v_m_fault v_m_finds v_m_weeks v_m_rows v_m_cardPrice v_m_lotPrice v_m_sure v_m_up v_m_down v_mh)) (w2 := (wo_X10_wider cI cJ a_m a_mt a_ml a_mr a_mx a_mf a_mg a_mw a_mh v_m_thrown v_m_trace v_m_typed v_m_next v_m_token v_m_place v_m_value v_m_fault v_m_finds v_m_weeks v_m_rows v_m_cardPrice v_m_lotPrice v_m_sure v_m_up v_m_down v_mh)) X hP hD hS [0, 1] [] [0, 1] rfl (pa_rV (As := [.int x2]) (rest := []) (T := TX10) X hP hD hS [0, 1] rfl rfl (c_X10_heldBy hg_2 H.size) (cwV 1 hts gX10_wider_X10_heldBy rfl rfl rfl (by decide +kernel) ⟨Nat.le_of_ble_eq_true rfl, Nat.le_of_ble_eq_true rfl⟩) (q0 := 0) rfl rfl rfl hl.1 rfl (Nat.le_of_ble_eq_true rfl) dX10_wider_32 ⟨Nat.zero_le _, Nat.zero_le _⟩) rfl rfl (by decide) rfl rfl (fun H locs hP hD hS => ?_)
    refine lv_iload_n hx hb dX10_wider_35 rfl (lv_at hl 1 rfl) ?_
    refine lv_icmp_ge (tgt := 45) hx hb dX10_wider_36 (by decide) (fun c_3 => ?_) (fun c_3 => ?_)
    · have hf := (if_pos c_3).symm.trans hf
      refine lv_iload_n hx hb dX10_wider_45 rfl (lv_at hl 2 rfl) ?_
      obtain rfl := Option.some.inj hf
      exact pa_ei X hP hD hS dX10_wider_46
    · have hf := (if_neg c_3).symm.trans hf
      refine lv_iinc (v := (x2 + (1 : Int32))) (lv' := [(2, .int (x2 + (1 : Int32))), (0, .ref a_m), (1, .int x1)]) hx hb dX10_wider_39 hl (k := 2) rfl rfl (by decide) rfl (fun ls hl => ?_)
      refine lv_goto (tgt := 30) hx hb dX10_wider_42 (by decide) ?_
      exact hrec30 _ hf _ _  hP hD hS _ (lv_sub hl [1, 2, 0] rfl)
set_option maxHeartbeats 4000000 in
set_option maxRecDepth 100000 in
theorem w_X10_wider_b0 {l : Launch} {D : va_G} {cI cJ : ClassId} {g : pa_GT} {a_m a_mt a_ml a_mr a_mx a_mf a_mg a_mw a_mh : Nat} {A : Nat → Prop} {p : Program} {e : Env} {s : State} {m : MethodId} {args : Array Value} {below : List Frame} {meth : Method} {c : Code} {x1 : Int32} {v_m_rows : Int32} {v_mh : Nat → Int32} {v_m_thrown : Int32} {v_m_trace : Int64} {v_m_typed : Int32} {v_m_next : Int32} {v_m_token : Int32} {v_m_place : Int32} {v_m_value : Int32} {v_m_fault : Int32} {v_m_finds : Int32} {v_m_weeks : Int32} {v_m_cardPrice : Int32} {v_m_lotPrice : Int32} {v_m_sure : Int32} {v_m_up : Int64} {v_m_down : Int64} {o : Int32 × Int32} (X : pa_X cX10_wider 3 (some .int) RX10 wsX10_wider D cI cJ g A p s m args meth c)  (hf : f_X10_wider x1 v_m_rows v_mh = some o) {H : Heap} {locs : List Loc} (hP : va_P D vwCl (wo_X10_wider cI cJ a_m a_mt a_ml a_mr a_mx a_mf a_mg a_mw a_mh v_m_thrown v_m_trace v_m_typed v_m_next v_m_token v_m_place v_m_value v_m_fault v_m_finds v_m_weeks v_m_rows v_m_cardPrice v_m_lotPrice v_m_sure v_m_up v_m_down v_mh) H) (hD : va_D A (wo_X10_wider cI cJ a_m a_mt a_ml a_mr a_mx a_mf a_mg a_mw a_mh v_m_thrown v_m_trace v_m_typed v_m_next v_m_token v_m_place v_m_value v_m_fault v_m_finds v_m_weeks v_m_rows v_m_cardPrice v_m_lotPrice v_m_sure v_m_up v_m_down v_mh)) (hS : va_S A s.heap H locs) {ls : Array Slot} (hl : lv_has ls 3 [(0, .ref a_m), (1, .int x1)]) : W p l e (headSpec wsX10_wider rm_X10_wider).room s m args below meth c H locs 0 0 (MQ below (va_Qi (fun r (_ : Unit) => r = o.1) (pa_QB D A (wo_X10_wider cI cJ a_m a_mt a_ml a_mr a_mx a_mf a_mg a_mw a_mh o.2 v_m_trace v_m_typed v_m_next v_m_token v_m_place v_m_value v_m_fault v_m_finds v_m_weeks v_m_rows v_m_cardPrice v_m_lotPrice v_m_sure v_m_up v_m_down v_mh)) A) args s 0 0 A) (F0 m 0 ls []) := by
  obtain ⟨hx, hb, hr, hml, hown, hts, hK, hA, hG, hlk⟩ := id X
  delta f_X10_wider at hf
  refine lv_aload_n hx hb dX10_wider_0 rfl (lv_at hl 0 rfl) ?_
  refine lv_iconst (v := (0 : Int32)) hx hb dX10_wider_1 (by decide) ?_
  refine va_put (D := D) (ci := 9) (v := .int (0 : Int32)) (ty := .int) (C := RX10) (T := TX10) (N := 24) hx hb hts il_X10_wider_X10 tyX10 tyX10_ok nmX10 hown hK hP hD hS 0 rfl rfl 0 (by decide) (hts _ fk_X10_wider_0) (fun _ h9 => h9) rfl (tyX10_ok 0 (by decide)) rfl rfl (Nat.le_of_ble_eq_true rfl) dX10_wider_2 (fun H locs hP hD hS => ?_)
  have hP : va_P D vwCl (wo_X10_wider cI cJ a_m a_mt a_ml a_mr a_mx a_mf a_mg a_mw a_mh (0 : Int32) v_m_trace v_m_typed v_m_next v_m_token v_m_place v_m_value v_m_fault v_m_finds v_m_weeks v_m_rows v_m_cardPrice v_m_lotPrice v_m_sure v_m_up v_m_down v_mh) H := hP
  have hD : va_D A (wo_X10_wider cI cJ a_m a_mt a_ml a_mr a_mx a_mf a_mg a_mw a_mh (0 : Int32) v_m_trace v_m_typed v_m_next v_m_token v_m_place v_m_value v_m_fault v_m_finds v_m_weeks v_m_rows v_m_cardPrice v_m_lotPrice v_m_sure v_m_up v_m_down v_mh) := hD
  refine lv_iload_n hx hb dX10_wider_5 rfl (lv_at hl 1 rfl) ?_
  refine lv_iconst (v := (0 : Int32)) hx hb dX10_wider_6 (by decide) ?_
  refine lv_bipush (v := (24 : Int32)) hx hb dX10_wider_7 (by decide) ?_
  obtain ⟨u_4, hg_5, hf⟩ := pa_bd hf
  refine pa_ki (wc := ([] : va_W)) (wr := [(a_m, .inr (9, [.int (0 : Int32), .long v_m_trace, .ref a_mt, .ref a_ml, .ref a_mr, .ref a_mx, .int v_m_typed, .int v_m_next, .int v_m_token, .int v_m_place, .int v_m_value, .int v_m_fault, .int v_m_finds, .ref a_mf, .ref a_mg, .int v_m_weeks, .ref a_mw, .int v_m_rows, .ref a_mh, .int v_m_cardPrice, .int v_m_lotPrice, .int v_m_sure, .long v_m_up, .long v_m_down])), (a_mh, .inl (cI, 72, .inl v_mh))]) (w1 := ([] : va_W)) (w2 := (wo_X10_wider cI cJ a_m a_mt a_ml a_mr a_mx a_mf a_mg a_mw a_mh (0 : Int32) v_m_trace v_m_typed v_m_next v_m_token v_m_place v_m_value v_m_fault v_m_finds v_m_weeks v_m_rows v_m_cardPrice v_m_lotPrice v_m_sure v_m_up v_m_down v_mh)) X hP hD hS [] [0, 1] [0, 1] rfl (pa_rS (As := [.int x1, .int (0 : Int32), .int (24 : Int32)]) (rest := []) X hP hD hS [] rfl rfl (c_X10_in hg_5 H.size) (va_cwS 3 hts gX10_wider_X10_in rfl rfl rfl (by decide +kernel) ⟨Nat.le_of_ble_eq_true rfl, Nat.le_of_ble_eq_true rfl⟩) rfl hl.1 rfl (Nat.le_of_ble_eq_true rfl) dX10_wider_9 ⟨Nat.zero_le _, Nat.zero_le _⟩) rfl rfl (by decide) rfl rfl (fun H locs hP hD hS => ?_)
  refine lv_if_ne (tgt := 17) hx hb dX10_wider_12 (by decide) (fun c_6 => ?_) (fun c_6 => ?_)
  · have hf := (if_neg c_6).symm.trans hf
    refine lv_iload_n hx hb dX10_wider_17 rfl (lv_at hl 1 rfl) ?_
    refine lv_aload_n hx hb dX10_wider_18 rfl (lv_at hl 0 rfl) ?_
    refine va_get (D := D) (ci := 9) (v := .int v_m_rows) (C := RX10) (T := TX10) (N := 24) hx hb hts il_X10_wider_X10 hown hK hP 0 rfl rfl 17 (by decide) (hts _ fk_X10_wider_1) (fun _ h9 => h9) rfl dX10_wider_19 ?_
    refine lv_icmp_le (tgt := 28) hx hb dX10_wider_22 (by decide) (fun c_7 => ?_) (fun c_7 => ?_)
    · have hf := (if_pos c_7).symm.trans hf
      refine lv_iconst (v := (0 : Int32)) hx hb dX10_wider_28 (by decide) ?_
      refine lv_istore_n (lv' := [(2, .int (0 : Int32)), (0, .ref a_m), (1, .int x1)]) hx hb dX10_wider_29 rfl hl (by decide) rfl (fun ls hl => ?_)
      exact w_X10_wider_L30 X  _ _ hf _ _  hP hD hS _ (lv_sub hl [1, 2, 0] rfl)
    · have hf := (if_neg c_7).symm.trans hf
      refine lv_bipush (v := (-9 : Int32)) hx hb dX10_wider_25 (by decide) ?_
      obtain rfl := Option.some.inj hf
      exact pa_ei X hP hD hS dX10_wider_27
  · have hf := (if_pos c_6).symm.trans hf
    refine lv_iconst (v := (-1 : Int32)) hx hb dX10_wider_15 (by decide) ?_
    obtain rfl := Option.some.inj hf
    exact pa_ei X hP hD hS dX10_wider_16
set_option maxHeartbeats 4000000 in
set_option maxRecDepth 100000 in
theorem c_X10_wider {l : Launch} {D : va_G} {cI cJ : ClassId} {g : pa_GT} {a_m a_mt a_ml a_mr a_mx a_mf a_mg a_mw a_mh : Nat} {x1 : Int32} {v_m_thrown : Int32} {v_m_trace : Int64} {v_m_typed : Int32} {v_m_next : Int32} {v_m_token : Int32} {v_m_place : Int32} {v_m_value : Int32} {v_m_fault : Int32} {v_m_finds : Int32} {v_m_weeks : Int32} {v_m_rows : Int32} {v_m_cardPrice : Int32} {v_m_lotPrice : Int32} {v_m_sure : Int32} {v_m_up : Int64} {v_m_down : Int64} {v_mh : Nat → Int32} {o : Int32 × Int32} (hf : f_X10_wider x1 v_m_rows v_mh = some o) : pa_Mi l yX10_wider wsX10_wider rm_X10_wider D cI cJ g [.ref a_m, .int x1] (wo_X10_wider cI cJ a_m a_mt a_ml a_mr a_mx a_mf a_mg a_mw a_mh v_m_thrown v_m_trace v_m_typed v_m_next v_m_token v_m_place v_m_value v_m_fault v_m_finds v_m_weeks v_m_rows v_m_cardPrice v_m_lotPrice v_m_sure v_m_up v_m_down v_mh) (wo_X10_wider cI cJ a_m a_mt a_ml a_mr a_mx a_mf a_mg a_mw a_mh o.2 v_m_trace v_m_typed v_m_next v_m_token v_m_place v_m_value v_m_fault v_m_finds v_m_weeks v_m_rows v_m_cardPrice v_m_lotPrice v_m_sure v_m_up v_m_down v_mh) o.1 := by
  intro sz
  refine pa_met (cc := cX10_wider) (maxL := 3) (ret := (some .int)) (lv := [(0, .ref a_m), (1, .int x1)]) (by decide) rfl (Nat.le_of_ble_eq_true rfl) rfl ?_
  intro p e s m below meth c X hsz hP hD ls hl
  subst hsz
  exact w_X10_wider_b0 X hf hP hD va_S.rf hl
abbrev wo_X10_price (cI cJ : ClassId) (a_m a_mt a_ml a_mr a_mx a_mf a_mg a_mw a_mh : Nat) (v_m_thrown : Int32) (v_m_trace : Int64) (v_m_typed : Int32) (v_m_next : Int32) (v_m_token : Int32) (v_m_place : Int32) (v_m_value : Int32) (v_m_fault : Int32) (v_m_finds : Int32) (v_m_weeks : Int32) (v_m_rows : Int32) (v_m_cardPrice : Int32) (v_m_lotPrice : Int32) (v_m_sure : Int32) (v_m_up : Int64) (v_m_down : Int64) : va_W := [(a_m, .inr (9, [.int v_m_thrown, .long v_m_trace, .ref a_mt, .ref a_ml, .ref a_mr, .ref a_mx, .int v_m_typed, .int v_m_next, .int v_m_token, .int v_m_place, .int v_m_value, .int v_m_fault, .int v_m_finds, .ref a_mf, .ref a_mg, .int v_m_weeks, .ref a_mw, .int v_m_rows, .ref a_mh, .int v_m_cardPrice, .int v_m_lotPrice, .int v_m_sure, .long v_m_up, .long v_m_down]))]
abbrev rm_X10_price : Room := { frames := 1, cells := 0, slots := 0, locals := 22 }
theorem il_X10_price_X10 : ∀ w ∈ wsX100, w ∈ wsX10_price := by decide +kernel
theorem fk_X10_price_0 : Cond.fieldLink RX10 39 "PostedAsksModel" "lotPrice" "I" ∈ wsX10_price := by decide +kernel
theorem fk_X10_price_1 : Cond.fieldLink RX10 42 "PostedAsksModel" "sure" "I" ∈ wsX10_price := by decide +kernel
theorem fk_X10_price_2 : Cond.fieldLink RX10 35 "PostedAsksModel" "cardPrice" "I" ∈ wsX10_price := by decide +kernel
theorem fk_X10_price_3 : Cond.fieldLink RX10 45 "PostedAsksModel" "thrown" "I" ∈ wsX10_price := by decide +kernel
def f_X10_price_b103 (x1 : Int32) (x2 : Int32) (x3 : Int32) (s1 : Int32) (v_m_thrown : Int32) (v_m_cardPrice : Int32) (v_m_sure : Int32) : Option (Int32 × Int32 × Int32 × Int32 × Int32) :=
  if x1 = (2 : Int32) then
    some (x3, v_m_thrown, v_m_cardPrice, s1, x2)
  else
    some (x3, v_m_thrown, v_m_cardPrice, s1, v_m_sure)
def f_X10_price_b86 (x1 : Int32) (x2 : Int32) (x3 : Int32) (s1 : Int32) (v_m_thrown : Int32) (v_m_lotPrice : Int32) (v_m_sure : Int32) : Option (Int32 × Int32 × Int32 × Int32 × Int32) :=
  if x1 = (1 : Int32) then
    f_X10_price_b103 x1 x2 x3 x2 v_m_thrown s1 v_m_sure
  else
    f_X10_price_b103 x1 x2 x3 v_m_lotPrice v_m_thrown s1 v_m_sure
def f_X10_price_b72 (x1 : Int32) (x2 : Int32) (s0 : Int32) (v_m_thrown : Int32) (v_m_cardPrice : Int32) (v_m_lotPrice : Int32) (v_m_sure : Int32) : Option (Int32 × Int32 × Int32 × Int32 × Int32) :=
  if x1 = 0 then
    f_X10_price_b86 x1 x2 s0 x2 v_m_thrown v_m_lotPrice v_m_sure
  else
    f_X10_price_b86 x1 x2 s0 v_m_cardPrice v_m_thrown v_m_lotPrice v_m_sure
def f_X10_price_b37 (x1 : Int32) (x2 : Int32) (s0 : Int32) (s1 : Int32) (s2 : Int32) (v_m_thrown : Int32) (v_m_cardPrice : Int32) (v_m_lotPrice : Int32) (v_m_sure : Int32) : Option (Int32 × Int32 × Int32 × Int32 × Int32) :=
  (f_X10_in s0 s1 s2).bind fun u_4 =>
  if u_4 = 0 then
    some ((-1 : Int32), v_m_thrown, v_m_cardPrice, v_m_lotPrice, v_m_sure)
  else
    if x1 = 0 then
      f_X10_price_b72 x1 x2 v_m_cardPrice v_m_thrown v_m_cardPrice v_m_lotPrice v_m_sure
    else
      if x1 = (1 : Int32) then
        f_X10_price_b72 x1 x2 v_m_lotPrice v_m_thrown v_m_cardPrice v_m_lotPrice v_m_sure
      else
        f_X10_price_b72 x1 x2 v_m_sure v_m_thrown v_m_cardPrice v_m_lotPrice v_m_sure
def f_X10_price_b25 (x1 : Int32) (x2 : Int32) (s0 : Int32) (s1 : Int32) (v_m_thrown : Int32) (v_m_cardPrice : Int32) (v_m_lotPrice : Int32) (v_m_sure : Int32) : Option (Int32 × Int32 × Int32 × Int32 × Int32) :=
  if x1 = (2 : Int32) then
    f_X10_price_b37 x1 x2 s0 s1 (100 : Int32) v_m_thrown v_m_cardPrice v_m_lotPrice v_m_sure
  else
    f_X10_price_b37 x1 x2 s0 s1 (99 : Int32) v_m_thrown v_m_cardPrice v_m_lotPrice v_m_sure
def f_X10_price (x1 : Int32) (x2 : Int32) (v_m_cardPrice : Int32) (v_m_lotPrice : Int32) (v_m_sure : Int32) : Option (Int32 × Int32 × Int32 × Int32 × Int32) :=
  (f_X10_in x1 (0 : Int32) (2 : Int32)).bind fun u_10 =>
  if u_10 = 0 then
    some ((-1 : Int32), (0 : Int32), v_m_cardPrice, v_m_lotPrice, v_m_sure)
  else
    if x1 = (2 : Int32) then
      f_X10_price_b25 x1 x2 x2 (1 : Int32) (0 : Int32) v_m_cardPrice v_m_lotPrice v_m_sure
    else
      f_X10_price_b25 x1 x2 x2 (0 : Int32) (0 : Int32) v_m_cardPrice v_m_lotPrice v_m_sure
set_option maxHeartbeats 4000000 in
set_option maxRecDepth 100000 in
theorem w_X10_price_b103 {l : Launch} {D : va_G} {cI cJ : ClassId} {g : pa_GT} {a_m a_mt a_ml a_mr a_mx a_mf a_mg a_mw a_mh : Nat} {A : Nat → Prop} {p : Program} {e : Env} {s : State} {m : MethodId} {args : Array Value} {below : List Frame} {meth : Method} {c : Code} {x1 : Int32} {x2 : Int32} {x3 : Int32} {s1 : Int32} {v_m_thrown : Int32} {v_m_cardPrice : Int32} {v_m_sure : Int32} {v_m_trace : Int64} {v_m_typed : Int32} {v_m_next : Int32} {v_m_token : Int32} {v_m_place : Int32} {v_m_value : Int32} {v_m_fault : Int32} {v_m_finds : Int32} {v_m_weeks : Int32} {v_m_rows : Int32} {v_m_lotPrice : Int32} {v_m_up : Int64} {v_m_down : Int64} {o : Int32 × Int32 × Int32 × Int32 × Int32} (X : pa_X cX10_price 4 (some .int) RX10 wsX10_price D cI cJ g A p s m args meth c)  (hf : f_X10_price_b103 x1 x2 x3 s1 v_m_thrown v_m_cardPrice v_m_sure = some o) {H : Heap} {locs : List Loc} (hP : va_P D vwCl (wo_X10_price cI cJ a_m a_mt a_ml a_mr a_mx a_mf a_mg a_mw a_mh v_m_thrown v_m_trace v_m_typed v_m_next v_m_token v_m_place v_m_value v_m_fault v_m_finds v_m_weeks v_m_rows v_m_cardPrice v_m_lotPrice v_m_sure v_m_up v_m_down) H) (hD : va_D A (wo_X10_price cI cJ a_m a_mt a_ml a_mr a_mx a_mf a_mg a_mw a_mh v_m_thrown v_m_trace v_m_typed v_m_next v_m_token v_m_place v_m_value v_m_fault v_m_finds v_m_weeks v_m_rows v_m_cardPrice v_m_lotPrice v_m_sure v_m_up v_m_down)) (hS : va_S A s.heap H locs) {ls : Array Slot} (hl : lv_has ls 4 [(0, .ref a_m), (1, .int x1), (2, .int x2), (3, .int x3)]) : W p l e (headSpec wsX10_price rm_X10_price).room s m args below meth c H locs 0 0 (MQ below (va_Qi (fun r (_ : Unit) => r = o.1) (pa_QB D A (wo_X10_price cI cJ a_m a_mt a_ml a_mr a_mx a_mf a_mg a_mw a_mh o.2.1 v_m_trace v_m_typed v_m_next v_m_token v_m_place v_m_value v_m_fault v_m_finds v_m_weeks v_m_rows o.2.2.1 o.2.2.2.1 o.2.2.2.2 v_m_up v_m_down)) A) args s 0 0 A) (F0 m 103 ls [.int s1, .ref a_m]) := by
  obtain ⟨hx, hb, hr, hml, hown, hts, hK, hA, hG, hlk⟩ := id X
  delta f_X10_price_b103 at hf
  refine va_put (D := D) (ci := 9) (v := .int s1) (ty := .int) (C := RX10) (T := TX10) (N := 24) hx hb hts il_X10_price_X10 tyX10 tyX10_ok nmX10 hown hK hP hD hS 0 rfl rfl 20 (by decide) (hts _ fk_X10_price_0) (fun _ h9 => h9) rfl (tyX10_ok 20 (by decide)) rfl rfl (Nat.le_of_ble_eq_true rfl) dX10_price_103 (fun H locs hP hD hS => ?_)
  have hP : va_P D vwCl (wo_X10_price cI cJ a_m a_mt a_ml a_mr a_mx a_mf a_mg a_mw a_mh v_m_thrown v_m_trace v_m_typed v_m_next v_m_token v_m_place v_m_value v_m_fault v_m_finds v_m_weeks v_m_rows v_m_cardPrice s1 v_m_sure v_m_up v_m_down) H := hP
  have hD : va_D A (wo_X10_price cI cJ a_m a_mt a_ml a_mr a_mx a_mf a_mg a_mw a_mh v_m_thrown v_m_trace v_m_typed v_m_next v_m_token v_m_place v_m_value v_m_fault v_m_finds v_m_weeks v_m_rows v_m_cardPrice s1 v_m_sure v_m_up v_m_down) := hD
  refine lv_aload_n hx hb dX10_price_106 rfl (lv_at hl 0 rfl) ?_
  refine lv_iload_n hx hb dX10_price_107 rfl (lv_at hl 1 rfl) ?_
  refine lv_iconst (v := (2 : Int32)) hx hb dX10_price_108 (by decide) ?_
  refine lv_icmp_ne (tgt := 116) hx hb dX10_price_109 (by decide) (fun c_1 => ?_) (fun c_1 => ?_)
  · have hf := (if_neg c_1).symm.trans hf
    refine lv_aload_n hx hb dX10_price_116 rfl (lv_at hl 0 rfl) ?_
    refine va_get (D := D) (ci := 9) (v := .int v_m_sure) (C := RX10) (T := TX10) (N := 24) hx hb hts il_X10_price_X10 hown hK hP 0 rfl rfl 21 (by decide) (hts _ fk_X10_price_1) (fun _ h9 => h9) rfl dX10_price_117 ?_
    refine va_put (D := D) (ci := 9) (v := .int v_m_sure) (ty := .int) (C := RX10) (T := TX10) (N := 24) hx hb hts il_X10_price_X10 tyX10 tyX10_ok nmX10 hown hK hP hD hS 0 rfl rfl 21 (by decide) (hts _ fk_X10_price_1) (fun _ h9 => h9) rfl (tyX10_ok 21 (by decide)) rfl rfl (Nat.le_of_ble_eq_true rfl) dX10_price_120 (fun H locs hP hD hS => ?_)
    have hP : va_P D vwCl (wo_X10_price cI cJ a_m a_mt a_ml a_mr a_mx a_mf a_mg a_mw a_mh v_m_thrown v_m_trace v_m_typed v_m_next v_m_token v_m_place v_m_value v_m_fault v_m_finds v_m_weeks v_m_rows v_m_cardPrice s1 v_m_sure v_m_up v_m_down) H := hP
    have hD : va_D A (wo_X10_price cI cJ a_m a_mt a_ml a_mr a_mx a_mf a_mg a_mw a_mh v_m_thrown v_m_trace v_m_typed v_m_next v_m_token v_m_place v_m_value v_m_fault v_m_finds v_m_weeks v_m_rows v_m_cardPrice s1 v_m_sure v_m_up v_m_down) := hD
    refine lv_iload_n hx hb dX10_price_123 rfl (lv_at hl 3 rfl) ?_
    obtain rfl := Option.some.inj hf
    exact pa_ei X hP hD hS dX10_price_124
  · have hf := (if_pos c_1).symm.trans hf
    refine lv_iload_n hx hb dX10_price_112 rfl (lv_at hl 2 rfl) ?_
    refine lv_goto (tgt := 120) hx hb dX10_price_113 (by decide) ?_
    refine va_put (D := D) (ci := 9) (v := .int x2) (ty := .int) (C := RX10) (T := TX10) (N := 24) hx hb hts il_X10_price_X10 tyX10 tyX10_ok nmX10 hown hK hP hD hS 0 rfl rfl 21 (by decide) (hts _ fk_X10_price_1) (fun _ h9 => h9) rfl (tyX10_ok 21 (by decide)) rfl rfl (Nat.le_of_ble_eq_true rfl) dX10_price_120 (fun H locs hP hD hS => ?_)
    have hP : va_P D vwCl (wo_X10_price cI cJ a_m a_mt a_ml a_mr a_mx a_mf a_mg a_mw a_mh v_m_thrown v_m_trace v_m_typed v_m_next v_m_token v_m_place v_m_value v_m_fault v_m_finds v_m_weeks v_m_rows v_m_cardPrice s1 x2 v_m_up v_m_down) H := hP
    have hD : va_D A (wo_X10_price cI cJ a_m a_mt a_ml a_mr a_mx a_mf a_mg a_mw a_mh v_m_thrown v_m_trace v_m_typed v_m_next v_m_token v_m_place v_m_value v_m_fault v_m_finds v_m_weeks v_m_rows v_m_cardPrice s1 x2 v_m_up v_m_down) := hD
    refine lv_iload_n hx hb dX10_price_123 rfl (lv_at hl 3 rfl) ?_
    obtain rfl := Option.some.inj hf
    exact pa_ei X hP hD hS dX10_price_124
set_option maxHeartbeats 4000000 in
set_option maxRecDepth 100000 in
theorem w_X10_price_b86 {l : Launch} {D : va_G} {cI cJ : ClassId} {g : pa_GT} {a_m a_mt a_ml a_mr a_mx a_mf a_mg a_mw a_mh : Nat} {A : Nat → Prop} {p : Program} {e : Env} {s : State} {m : MethodId} {args : Array Value} {below : List Frame} {meth : Method} {c : Code} {x1 : Int32} {x2 : Int32} {x3 : Int32} {s1 : Int32} {v_m_thrown : Int32} {v_m_lotPrice : Int32} {v_m_sure : Int32} {v_m_trace : Int64} {v_m_typed : Int32} {v_m_next : Int32} {v_m_token : Int32} {v_m_place : Int32} {v_m_value : Int32} {v_m_fault : Int32} {v_m_finds : Int32} {v_m_weeks : Int32} {v_m_rows : Int32} {v_m_cardPrice : Int32} {v_m_up : Int64} {v_m_down : Int64} {o : Int32 × Int32 × Int32 × Int32 × Int32} (X : pa_X cX10_price 4 (some .int) RX10 wsX10_price D cI cJ g A p s m args meth c)  (hf : f_X10_price_b86 x1 x2 x3 s1 v_m_thrown v_m_lotPrice v_m_sure = some o) {H : Heap} {locs : List Loc} (hP : va_P D vwCl (wo_X10_price cI cJ a_m a_mt a_ml a_mr a_mx a_mf a_mg a_mw a_mh v_m_thrown v_m_trace v_m_typed v_m_next v_m_token v_m_place v_m_value v_m_fault v_m_finds v_m_weeks v_m_rows v_m_cardPrice v_m_lotPrice v_m_sure v_m_up v_m_down) H) (hD : va_D A (wo_X10_price cI cJ a_m a_mt a_ml a_mr a_mx a_mf a_mg a_mw a_mh v_m_thrown v_m_trace v_m_typed v_m_next v_m_token v_m_place v_m_value v_m_fault v_m_finds v_m_weeks v_m_rows v_m_cardPrice v_m_lotPrice v_m_sure v_m_up v_m_down)) (hS : va_S A s.heap H locs) {ls : Array Slot} (hl : lv_has ls 4 [(0, .ref a_m), (1, .int x1), (2, .int x2), (3, .int x3)]) : W p l e (headSpec wsX10_price rm_X10_price).room s m args below meth c H locs 0 0 (MQ below (va_Qi (fun r (_ : Unit) => r = o.1) (pa_QB D A (wo_X10_price cI cJ a_m a_mt a_ml a_mr a_mx a_mf a_mg a_mw a_mh o.2.1 v_m_trace v_m_typed v_m_next v_m_token v_m_place v_m_value v_m_fault v_m_finds v_m_weeks v_m_rows o.2.2.1 o.2.2.2.1 o.2.2.2.2 v_m_up v_m_down)) A) args s 0 0 A) (F0 m 86 ls [.int s1, .ref a_m]) := by
  obtain ⟨hx, hb, hr, hml, hown, hts, hK, hA, hG, hlk⟩ := id X
  delta f_X10_price_b86 at hf
  refine va_put (D := D) (ci := 9) (v := .int s1) (ty := .int) (C := RX10) (T := TX10) (N := 24) hx hb hts il_X10_price_X10 tyX10 tyX10_ok nmX10 hown hK hP hD hS 0 rfl rfl 19 (by decide) (hts _ fk_X10_price_2) (fun _ h9 => h9) rfl (tyX10_ok 19 (by decide)) rfl rfl (Nat.le_of_ble_eq_true rfl) dX10_price_86 (fun H locs hP hD hS => ?_)
  have hP : va_P D vwCl (wo_X10_price cI cJ a_m a_mt a_ml a_mr a_mx a_mf a_mg a_mw a_mh v_m_thrown v_m_trace v_m_typed v_m_next v_m_token v_m_place v_m_value v_m_fault v_m_finds v_m_weeks v_m_rows s1 v_m_lotPrice v_m_sure v_m_up v_m_down) H := hP
  have hD : va_D A (wo_X10_price cI cJ a_m a_mt a_ml a_mr a_mx a_mf a_mg a_mw a_mh v_m_thrown v_m_trace v_m_typed v_m_next v_m_token v_m_place v_m_value v_m_fault v_m_finds v_m_weeks v_m_rows s1 v_m_lotPrice v_m_sure v_m_up v_m_down) := hD
  refine lv_aload_n hx hb dX10_price_89 rfl (lv_at hl 0 rfl) ?_
  refine lv_iload_n hx hb dX10_price_90 rfl (lv_at hl 1 rfl) ?_
  refine lv_iconst (v := (1 : Int32)) hx hb dX10_price_91 (by decide) ?_
  refine lv_icmp_ne (tgt := 99) hx hb dX10_price_92 (by decide) (fun c_2 => ?_) (fun c_2 => ?_)
  · have hf := (if_neg c_2).symm.trans hf
    refine lv_aload_n hx hb dX10_price_99 rfl (lv_at hl 0 rfl) ?_
    refine va_get (D := D) (ci := 9) (v := .int v_m_lotPrice) (C := RX10) (T := TX10) (N := 24) hx hb hts il_X10_price_X10 hown hK hP 0 rfl rfl 20 (by decide) (hts _ fk_X10_price_0) (fun _ h9 => h9) rfl dX10_price_100 ?_
    exact w_X10_price_b103 X  hf hP hD hS (lv_sub hl [0, 1, 2, 3] rfl)
  · have hf := (if_pos c_2).symm.trans hf
    refine lv_iload_n hx hb dX10_price_95 rfl (lv_at hl 2 rfl) ?_
    refine lv_goto (tgt := 103) hx hb dX10_price_96 (by decide) ?_
    exact w_X10_price_b103 X  hf hP hD hS (lv_sub hl [0, 1, 2, 3] rfl)
set_option maxHeartbeats 4000000 in
set_option maxRecDepth 100000 in
theorem w_X10_price_b72 {l : Launch} {D : va_G} {cI cJ : ClassId} {g : pa_GT} {a_m a_mt a_ml a_mr a_mx a_mf a_mg a_mw a_mh : Nat} {A : Nat → Prop} {p : Program} {e : Env} {s : State} {m : MethodId} {args : Array Value} {below : List Frame} {meth : Method} {c : Code} {x1 : Int32} {x2 : Int32} {s0 : Int32} {v_m_thrown : Int32} {v_m_cardPrice : Int32} {v_m_lotPrice : Int32} {v_m_sure : Int32} {v_m_trace : Int64} {v_m_typed : Int32} {v_m_next : Int32} {v_m_token : Int32} {v_m_place : Int32} {v_m_value : Int32} {v_m_fault : Int32} {v_m_finds : Int32} {v_m_weeks : Int32} {v_m_rows : Int32} {v_m_up : Int64} {v_m_down : Int64} {o : Int32 × Int32 × Int32 × Int32 × Int32} (X : pa_X cX10_price 4 (some .int) RX10 wsX10_price D cI cJ g A p s m args meth c)  (hf : f_X10_price_b72 x1 x2 s0 v_m_thrown v_m_cardPrice v_m_lotPrice v_m_sure = some o) {H : Heap} {locs : List Loc} (hP : va_P D vwCl (wo_X10_price cI cJ a_m a_mt a_ml a_mr a_mx a_mf a_mg a_mw a_mh v_m_thrown v_m_trace v_m_typed v_m_next v_m_token v_m_place v_m_value v_m_fault v_m_finds v_m_weeks v_m_rows v_m_cardPrice v_m_lotPrice v_m_sure v_m_up v_m_down) H) (hD : va_D A (wo_X10_price cI cJ a_m a_mt a_ml a_mr a_mx a_mf a_mg a_mw a_mh v_m_thrown v_m_trace v_m_typed v_m_next v_m_token v_m_place v_m_value v_m_fault v_m_finds v_m_weeks v_m_rows v_m_cardPrice v_m_lotPrice v_m_sure v_m_up v_m_down)) (hS : va_S A s.heap H locs) {ls : Array Slot} (hl : lv_has ls 4 [(0, .ref a_m), (1, .int x1), (2, .int x2)]) : W p l e (headSpec wsX10_price rm_X10_price).room s m args below meth c H locs 0 0 (MQ below (va_Qi (fun r (_ : Unit) => r = o.1) (pa_QB D A (wo_X10_price cI cJ a_m a_mt a_ml a_mr a_mx a_mf a_mg a_mw a_mh o.2.1 v_m_trace v_m_typed v_m_next v_m_token v_m_place v_m_value v_m_fault v_m_finds v_m_weeks v_m_rows o.2.2.1 o.2.2.2.1 o.2.2.2.2 v_m_up v_m_down)) A) args s 0 0 A) (F0 m 72 ls [.int s0]) := by
  obtain ⟨hx, hb, hr, hml, hown, hts, hK, hA, hG, hlk⟩ := id X
  delta f_X10_price_b72 at hf
  refine lv_istore_n (lv' := [(3, .int s0), (0, .ref a_m), (1, .int x1), (2, .int x2)]) hx hb dX10_price_72 rfl hl (by decide) rfl (fun ls hl => ?_)
  refine lv_aload_n hx hb dX10_price_73 rfl (lv_at hl 1 rfl) ?_
  refine lv_iload_n hx hb dX10_price_74 rfl (lv_at hl 2 rfl) ?_
  refine lv_if_ne (tgt := 82) hx hb dX10_price_75 (by decide) (fun c_3 => ?_) (fun c_3 => ?_)
  · have hf := (if_neg c_3).symm.trans hf
    refine lv_aload_n hx hb dX10_price_82 rfl (lv_at hl 1 rfl) ?_
    refine va_get (D := D) (ci := 9) (v := .int v_m_cardPrice) (C := RX10) (T := TX10) (N := 24) hx hb hts il_X10_price_X10 hown hK hP 0 rfl rfl 19 (by decide) (hts _ fk_X10_price_2) (fun _ h9 => h9) rfl dX10_price_83 ?_
    exact w_X10_price_b86 X  hf hP hD hS (lv_sub hl [1, 2, 3, 0] rfl)
  · have hf := (if_pos c_3).symm.trans hf
    refine lv_iload_n hx hb dX10_price_78 rfl (lv_at hl 3 rfl) ?_
    refine lv_goto (tgt := 86) hx hb dX10_price_79 (by decide) ?_
    exact w_X10_price_b86 X  hf hP hD hS (lv_sub hl [1, 2, 3, 0] rfl)
set_option maxHeartbeats 4000000 in
set_option maxRecDepth 100000 in
theorem w_X10_price_b37 {l : Launch} {D : va_G} {cI cJ : ClassId} {g : pa_GT} {a_m a_mt a_ml a_mr a_mx a_mf a_mg a_mw a_mh : Nat} {A : Nat → Prop} {p : Program} {e : Env} {s : State} {m : MethodId} {args : Array Value} {below : List Frame} {meth : Method} {c : Code} {x1 : Int32} {x2 : Int32} {s0 : Int32} {s1 : Int32} {s2 : Int32} {v_m_thrown : Int32} {v_m_cardPrice : Int32} {v_m_lotPrice : Int32} {v_m_sure : Int32} {v_m_trace : Int64} {v_m_typed : Int32} {v_m_next : Int32} {v_m_token : Int32} {v_m_place : Int32} {v_m_value : Int32} {v_m_fault : Int32} {v_m_finds : Int32} {v_m_weeks : Int32} {v_m_rows : Int32} {v_m_up : Int64} {v_m_down : Int64} {o : Int32 × Int32 × Int32 × Int32 × Int32} (X : pa_X cX10_price 4 (some .int) RX10 wsX10_price D cI cJ g A p s m args meth c)  (hf : f_X10_price_b37 x1 x2 s0 s1 s2 v_m_thrown v_m_cardPrice v_m_lotPrice v_m_sure = some o) {H : Heap} {locs : List Loc} (hP : va_P D vwCl (wo_X10_price cI cJ a_m a_mt a_ml a_mr a_mx a_mf a_mg a_mw a_mh v_m_thrown v_m_trace v_m_typed v_m_next v_m_token v_m_place v_m_value v_m_fault v_m_finds v_m_weeks v_m_rows v_m_cardPrice v_m_lotPrice v_m_sure v_m_up v_m_down) H) (hD : va_D A (wo_X10_price cI cJ a_m a_mt a_ml a_mr a_mx a_mf a_mg a_mw a_mh v_m_thrown v_m_trace v_m_typed v_m_next v_m_token v_m_place v_m_value v_m_fault v_m_finds v_m_weeks v_m_rows v_m_cardPrice v_m_lotPrice v_m_sure v_m_up v_m_down)) (hS : va_S A s.heap H locs) {ls : Array Slot} (hl : lv_has ls 4 [(0, .ref a_m), (1, .int x1), (2, .int x2)]) : W p l e (headSpec wsX10_price rm_X10_price).room s m args below meth c H locs 0 0 (MQ below (va_Qi (fun r (_ : Unit) => r = o.1) (pa_QB D A (wo_X10_price cI cJ a_m a_mt a_ml a_mr a_mx a_mf a_mg a_mw a_mh o.2.1 v_m_trace v_m_typed v_m_next v_m_token v_m_place v_m_value v_m_fault v_m_finds v_m_weeks v_m_rows o.2.2.1 o.2.2.2.1 o.2.2.2.2 v_m_up v_m_down)) A) args s 0 0 A) (F0 m 37 ls [.int s2, .int s1, .int s0]) := by
  obtain ⟨hx, hb, hr, hml, hown, hts, hK, hA, hG, hlk⟩ := id X
  delta f_X10_price_b37 at hf
  obtain ⟨u_4, hg_5, hf⟩ := pa_bd hf
  refine pa_ki (wc := ([] : va_W)) (wr := [(a_m, .inr (9, [.int v_m_thrown, .long v_m_trace, .ref a_mt, .ref a_ml, .ref a_mr, .ref a_mx, .int v_m_typed, .int v_m_next, .int v_m_token, .int v_m_place, .int v_m_value, .int v_m_fault, .int v_m_finds, .ref a_mf, .ref a_mg, .int v_m_weeks, .ref a_mw, .int v_m_rows, .ref a_mh, .int v_m_cardPrice, .int v_m_lotPrice, .int v_m_sure, .long v_m_up, .long v_m_down]))]) (w1 := ([] : va_W)) (w2 := (wo_X10_price cI cJ a_m a_mt a_ml a_mr a_mx a_mf a_mg a_mw a_mh v_m_thrown v_m_trace v_m_typed v_m_next v_m_token v_m_place v_m_value v_m_fault v_m_finds v_m_weeks v_m_rows v_m_cardPrice v_m_lotPrice v_m_sure v_m_up v_m_down)) X hP hD hS [] [0] [0] rfl (pa_rS (As := [.int s0, .int s1, .int s2]) (rest := []) X hP hD hS [] rfl rfl (c_X10_in hg_5 H.size) (va_cwS 3 hts gX10_price_X10_in rfl rfl rfl (by decide +kernel) ⟨Nat.le_of_ble_eq_true rfl, Nat.le_of_ble_eq_true rfl⟩) rfl hl.1 rfl (Nat.le_of_ble_eq_true rfl) dX10_price_37 ⟨Nat.zero_le _, Nat.zero_le _⟩) rfl rfl (by decide) rfl rfl (fun H locs hP hD hS => ?_)
  refine lv_if_ne (tgt := 45) hx hb dX10_price_40 (by decide) (fun c_6 => ?_) (fun c_6 => ?_)
  · have hf := (if_neg c_6).symm.trans hf
    refine lv_iload_n hx hb dX10_price_45 rfl (lv_at hl 1 rfl) ?_
    refine lv_if_ne (tgt := 56) hx hb dX10_price_46 (by decide) (fun c_7 => ?_) (fun c_7 => ?_)
    · have hf := (if_neg c_7).symm.trans hf
      refine lv_iload_n hx hb dX10_price_56 rfl (lv_at hl 1 rfl) ?_
      refine lv_iconst (v := (1 : Int32)) hx hb dX10_price_57 (by decide) ?_
      refine lv_icmp_ne (tgt := 68) hx hb dX10_price_58 (by decide) (fun c_8 => ?_) (fun c_8 => ?_)
      · have hf := (if_neg c_8).symm.trans hf
        refine lv_aload_n hx hb dX10_price_68 rfl (lv_at hl 0 rfl) ?_
        refine va_get (D := D) (ci := 9) (v := .int v_m_sure) (C := RX10) (T := TX10) (N := 24) hx hb hts il_X10_price_X10 hown hK hP 0 rfl rfl 21 (by decide) (hts _ fk_X10_price_1) (fun _ h9 => h9) rfl dX10_price_69 ?_
        exact w_X10_price_b72 X  hf hP hD hS (lv_sub hl [0, 1, 2] rfl)
      · have hf := (if_pos c_8).symm.trans hf
        refine lv_aload_n hx hb dX10_price_61 rfl (lv_at hl 0 rfl) ?_
        refine va_get (D := D) (ci := 9) (v := .int v_m_lotPrice) (C := RX10) (T := TX10) (N := 24) hx hb hts il_X10_price_X10 hown hK hP 0 rfl rfl 20 (by decide) (hts _ fk_X10_price_0) (fun _ h9 => h9) rfl dX10_price_62 ?_
        refine lv_goto (tgt := 72) hx hb dX10_price_65 (by decide) ?_
        exact w_X10_price_b72 X  hf hP hD hS (lv_sub hl [0, 1, 2] rfl)
    · have hf := (if_pos c_7).symm.trans hf
      refine lv_aload_n hx hb dX10_price_49 rfl (lv_at hl 0 rfl) ?_
      refine va_get (D := D) (ci := 9) (v := .int v_m_cardPrice) (C := RX10) (T := TX10) (N := 24) hx hb hts il_X10_price_X10 hown hK hP 0 rfl rfl 19 (by decide) (hts _ fk_X10_price_2) (fun _ h9 => h9) rfl dX10_price_50 ?_
      refine lv_goto (tgt := 72) hx hb dX10_price_53 (by decide) ?_
      exact w_X10_price_b72 X  hf hP hD hS (lv_sub hl [0, 1, 2] rfl)
  · have hf := (if_pos c_6).symm.trans hf
    refine lv_iconst (v := (-1 : Int32)) hx hb dX10_price_43 (by decide) ?_
    obtain rfl := Option.some.inj hf
    exact pa_ei X hP hD hS dX10_price_44
set_option maxHeartbeats 4000000 in
set_option maxRecDepth 100000 in
theorem w_X10_price_b25 {l : Launch} {D : va_G} {cI cJ : ClassId} {g : pa_GT} {a_m a_mt a_ml a_mr a_mx a_mf a_mg a_mw a_mh : Nat} {A : Nat → Prop} {p : Program} {e : Env} {s : State} {m : MethodId} {args : Array Value} {below : List Frame} {meth : Method} {c : Code} {x1 : Int32} {x2 : Int32} {s0 : Int32} {s1 : Int32} {v_m_thrown : Int32} {v_m_cardPrice : Int32} {v_m_lotPrice : Int32} {v_m_sure : Int32} {v_m_trace : Int64} {v_m_typed : Int32} {v_m_next : Int32} {v_m_token : Int32} {v_m_place : Int32} {v_m_value : Int32} {v_m_fault : Int32} {v_m_finds : Int32} {v_m_weeks : Int32} {v_m_rows : Int32} {v_m_up : Int64} {v_m_down : Int64} {o : Int32 × Int32 × Int32 × Int32 × Int32} (X : pa_X cX10_price 4 (some .int) RX10 wsX10_price D cI cJ g A p s m args meth c)  (hf : f_X10_price_b25 x1 x2 s0 s1 v_m_thrown v_m_cardPrice v_m_lotPrice v_m_sure = some o) {H : Heap} {locs : List Loc} (hP : va_P D vwCl (wo_X10_price cI cJ a_m a_mt a_ml a_mr a_mx a_mf a_mg a_mw a_mh v_m_thrown v_m_trace v_m_typed v_m_next v_m_token v_m_place v_m_value v_m_fault v_m_finds v_m_weeks v_m_rows v_m_cardPrice v_m_lotPrice v_m_sure v_m_up v_m_down) H) (hD : va_D A (wo_X10_price cI cJ a_m a_mt a_ml a_mr a_mx a_mf a_mg a_mw a_mh v_m_thrown v_m_trace v_m_typed v_m_next v_m_token v_m_place v_m_value v_m_fault v_m_finds v_m_weeks v_m_rows v_m_cardPrice v_m_lotPrice v_m_sure v_m_up v_m_down)) (hS : va_S A s.heap H locs) {ls : Array Slot} (hl : lv_has ls 4 [(0, .ref a_m), (1, .int x1), (2, .int x2)]) : W p l e (headSpec wsX10_price rm_X10_price).room s m args below meth c H locs 0 0 (MQ below (va_Qi (fun r (_ : Unit) => r = o.1) (pa_QB D A (wo_X10_price cI cJ a_m a_mt a_ml a_mr a_mx a_mf a_mg a_mw a_mh o.2.1 v_m_trace v_m_typed v_m_next v_m_token v_m_place v_m_value v_m_fault v_m_finds v_m_weeks v_m_rows o.2.2.1 o.2.2.2.1 o.2.2.2.2 v_m_up v_m_down)) A) args s 0 0 A) (F0 m 25 ls [.int s1, .int s0]) := by
  obtain ⟨hx, hb, hr, hml, hown, hts, hK, hA, hG, hlk⟩ := id X
  delta f_X10_price_b25 at hf
  refine lv_iload_n hx hb dX10_price_25 rfl (lv_at hl 1 rfl) ?_
  refine lv_iconst (v := (2 : Int32)) hx hb dX10_price_26 (by decide) ?_
  refine lv_icmp_ne (tgt := 35) hx hb dX10_price_27 (by decide) (fun c_9 => ?_) (fun c_9 => ?_)
  · have hf := (if_neg c_9).symm.trans hf
    refine lv_bipush (v := (99 : Int32)) hx hb dX10_price_35 (by decide) ?_
    exact w_X10_price_b37 X  hf hP hD hS (lv_sub hl [0, 1, 2] rfl)
  · have hf := (if_pos c_9).symm.trans hf
    refine lv_bipush (v := (100 : Int32)) hx hb dX10_price_30 (by decide) ?_
    refine lv_goto (tgt := 37) hx hb dX10_price_32 (by decide) ?_
    exact w_X10_price_b37 X  hf hP hD hS (lv_sub hl [0, 1, 2] rfl)
set_option maxHeartbeats 4000000 in
set_option maxRecDepth 100000 in
theorem w_X10_price_b0 {l : Launch} {D : va_G} {cI cJ : ClassId} {g : pa_GT} {a_m a_mt a_ml a_mr a_mx a_mf a_mg a_mw a_mh : Nat} {A : Nat → Prop} {p : Program} {e : Env} {s : State} {m : MethodId} {args : Array Value} {below : List Frame} {meth : Method} {c : Code} {x1 : Int32} {x2 : Int32} {v_m_cardPrice : Int32} {v_m_lotPrice : Int32} {v_m_sure : Int32} {v_m_thrown : Int32} {v_m_trace : Int64} {v_m_typed : Int32} {v_m_next : Int32} {v_m_token : Int32} {v_m_place : Int32} {v_m_value : Int32} {v_m_fault : Int32} {v_m_finds : Int32} {v_m_weeks : Int32} {v_m_rows : Int32} {v_m_up : Int64} {v_m_down : Int64} {o : Int32 × Int32 × Int32 × Int32 × Int32} (X : pa_X cX10_price 4 (some .int) RX10 wsX10_price D cI cJ g A p s m args meth c)  (hf : f_X10_price x1 x2 v_m_cardPrice v_m_lotPrice v_m_sure = some o) {H : Heap} {locs : List Loc} (hP : va_P D vwCl (wo_X10_price cI cJ a_m a_mt a_ml a_mr a_mx a_mf a_mg a_mw a_mh v_m_thrown v_m_trace v_m_typed v_m_next v_m_token v_m_place v_m_value v_m_fault v_m_finds v_m_weeks v_m_rows v_m_cardPrice v_m_lotPrice v_m_sure v_m_up v_m_down) H) (hD : va_D A (wo_X10_price cI cJ a_m a_mt a_ml a_mr a_mx a_mf a_mg a_mw a_mh v_m_thrown v_m_trace v_m_typed v_m_next v_m_token v_m_place v_m_value v_m_fault v_m_finds v_m_weeks v_m_rows v_m_cardPrice v_m_lotPrice v_m_sure v_m_up v_m_down)) (hS : va_S A s.heap H locs) {ls : Array Slot} (hl : lv_has ls 4 [(0, .ref a_m), (1, .int x1), (2, .int x2)]) : W p l e (headSpec wsX10_price rm_X10_price).room s m args below meth c H locs 0 0 (MQ below (va_Qi (fun r (_ : Unit) => r = o.1) (pa_QB D A (wo_X10_price cI cJ a_m a_mt a_ml a_mr a_mx a_mf a_mg a_mw a_mh o.2.1 v_m_trace v_m_typed v_m_next v_m_token v_m_place v_m_value v_m_fault v_m_finds v_m_weeks v_m_rows o.2.2.1 o.2.2.2.1 o.2.2.2.2 v_m_up v_m_down)) A) args s 0 0 A) (F0 m 0 ls []) := by
  obtain ⟨hx, hb, hr, hml, hown, hts, hK, hA, hG, hlk⟩ := id X
  delta f_X10_price at hf
  refine lv_aload_n hx hb dX10_price_0 rfl (lv_at hl 0 rfl) ?_
  refine lv_iconst (v := (0 : Int32)) hx hb dX10_price_1 (by decide) ?_
  refine va_put (D := D) (ci := 9) (v := .int (0 : Int32)) (ty := .int) (C := RX10) (T := TX10) (N := 24) hx hb hts il_X10_price_X10 tyX10 tyX10_ok nmX10 hown hK hP hD hS 0 rfl rfl 0 (by decide) (hts _ fk_X10_price_3) (fun _ h9 => h9) rfl (tyX10_ok 0 (by decide)) rfl rfl (Nat.le_of_ble_eq_true rfl) dX10_price_2 (fun H locs hP hD hS => ?_)
  have hP : va_P D vwCl (wo_X10_price cI cJ a_m a_mt a_ml a_mr a_mx a_mf a_mg a_mw a_mh (0 : Int32) v_m_trace v_m_typed v_m_next v_m_token v_m_place v_m_value v_m_fault v_m_finds v_m_weeks v_m_rows v_m_cardPrice v_m_lotPrice v_m_sure v_m_up v_m_down) H := hP
  have hD : va_D A (wo_X10_price cI cJ a_m a_mt a_ml a_mr a_mx a_mf a_mg a_mw a_mh (0 : Int32) v_m_trace v_m_typed v_m_next v_m_token v_m_place v_m_value v_m_fault v_m_finds v_m_weeks v_m_rows v_m_cardPrice v_m_lotPrice v_m_sure v_m_up v_m_down) := hD
  refine lv_iload_n hx hb dX10_price_5 rfl (lv_at hl 1 rfl) ?_
  refine lv_iconst (v := (0 : Int32)) hx hb dX10_price_6 (by decide) ?_
  refine lv_iconst (v := (2 : Int32)) hx hb dX10_price_7 (by decide) ?_
  obtain ⟨u_10, hg_11, hf⟩ := pa_bd hf
  refine pa_ki (wc := ([] : va_W)) (wr := [(a_m, .inr (9, [.int (0 : Int32), .long v_m_trace, .ref a_mt, .ref a_ml, .ref a_mr, .ref a_mx, .int v_m_typed, .int v_m_next, .int v_m_token, .int v_m_place, .int v_m_value, .int v_m_fault, .int v_m_finds, .ref a_mf, .ref a_mg, .int v_m_weeks, .ref a_mw, .int v_m_rows, .ref a_mh, .int v_m_cardPrice, .int v_m_lotPrice, .int v_m_sure, .long v_m_up, .long v_m_down]))]) (w1 := ([] : va_W)) (w2 := (wo_X10_price cI cJ a_m a_mt a_ml a_mr a_mx a_mf a_mg a_mw a_mh (0 : Int32) v_m_trace v_m_typed v_m_next v_m_token v_m_place v_m_value v_m_fault v_m_finds v_m_weeks v_m_rows v_m_cardPrice v_m_lotPrice v_m_sure v_m_up v_m_down)) X hP hD hS [] [0] [0] rfl (pa_rS (As := [.int x1, .int (0 : Int32), .int (2 : Int32)]) (rest := []) X hP hD hS [] rfl rfl (c_X10_in hg_11 H.size) (va_cwS 3 hts gX10_price_X10_in rfl rfl rfl (by decide +kernel) ⟨Nat.le_of_ble_eq_true rfl, Nat.le_of_ble_eq_true rfl⟩) rfl hl.1 rfl (Nat.le_of_ble_eq_true rfl) dX10_price_8 ⟨Nat.zero_le _, Nat.zero_le _⟩) rfl rfl (by decide) rfl rfl (fun H locs hP hD hS => ?_)
  refine lv_if_eq (tgt := 43) hx hb dX10_price_11 (by decide) (fun c_12 => ?_) (fun c_12 => ?_)
  · have hf := (if_pos c_12).symm.trans hf
    refine lv_iconst (v := (-1 : Int32)) hx hb dX10_price_43 (by decide) ?_
    obtain rfl := Option.some.inj hf
    exact pa_ei X hP hD hS dX10_price_44
  · have hf := (if_neg c_12).symm.trans hf
    refine lv_iload_n hx hb dX10_price_14 rfl (lv_at hl 2 rfl) ?_
    refine lv_iload_n hx hb dX10_price_15 rfl (lv_at hl 1 rfl) ?_
    refine lv_iconst (v := (2 : Int32)) hx hb dX10_price_16 (by decide) ?_
    refine lv_icmp_ne (tgt := 24) hx hb dX10_price_17 (by decide) (fun c_13 => ?_) (fun c_13 => ?_)
    · have hf := (if_neg c_13).symm.trans hf
      refine lv_iconst (v := (0 : Int32)) hx hb dX10_price_24 (by decide) ?_
      exact w_X10_price_b25 X  hf hP hD hS (lv_sub hl [0, 1, 2] rfl)
    · have hf := (if_pos c_13).symm.trans hf
      refine lv_iconst (v := (1 : Int32)) hx hb dX10_price_20 (by decide) ?_
      refine lv_goto (tgt := 25) hx hb dX10_price_21 (by decide) ?_
      exact w_X10_price_b25 X  hf hP hD hS (lv_sub hl [0, 1, 2] rfl)
set_option maxHeartbeats 4000000 in
set_option maxRecDepth 100000 in
theorem c_X10_price {l : Launch} {D : va_G} {cI cJ : ClassId} {g : pa_GT} {a_m a_mt a_ml a_mr a_mx a_mf a_mg a_mw a_mh : Nat} {x1 : Int32} {x2 : Int32} {v_m_thrown : Int32} {v_m_trace : Int64} {v_m_typed : Int32} {v_m_next : Int32} {v_m_token : Int32} {v_m_place : Int32} {v_m_value : Int32} {v_m_fault : Int32} {v_m_finds : Int32} {v_m_weeks : Int32} {v_m_rows : Int32} {v_m_cardPrice : Int32} {v_m_lotPrice : Int32} {v_m_sure : Int32} {v_m_up : Int64} {v_m_down : Int64} {o : Int32 × Int32 × Int32 × Int32 × Int32} (hf : f_X10_price x1 x2 v_m_cardPrice v_m_lotPrice v_m_sure = some o) : pa_Mi l yX10_price wsX10_price rm_X10_price D cI cJ g [.ref a_m, .int x1, .int x2] (wo_X10_price cI cJ a_m a_mt a_ml a_mr a_mx a_mf a_mg a_mw a_mh v_m_thrown v_m_trace v_m_typed v_m_next v_m_token v_m_place v_m_value v_m_fault v_m_finds v_m_weeks v_m_rows v_m_cardPrice v_m_lotPrice v_m_sure v_m_up v_m_down) (wo_X10_price cI cJ a_m a_mt a_ml a_mr a_mx a_mf a_mg a_mw a_mh o.2.1 v_m_trace v_m_typed v_m_next v_m_token v_m_place v_m_value v_m_fault v_m_finds v_m_weeks v_m_rows o.2.2.1 o.2.2.2.1 o.2.2.2.2 v_m_up v_m_down) o.1 := by
  intro sz
  refine pa_met (cc := cX10_price) (maxL := 4) (ret := (some .int)) (lv := [(0, .ref a_m), (1, .int x1), (2, .int x2)]) (by decide) rfl (Nat.le_of_ble_eq_true rfl) rfl ?_
  intro p e s m below meth c X hsz hP hD ls hl
  subst hsz
  exact w_X10_price_b0 X hf hP hD va_S.rf hl
abbrev wo_X10_errorOf (cI cJ : ClassId) (a_m a_mt a_ml a_mr a_mx a_mf a_mg a_mw a_mh : Nat) (v_m_thrown : Int32) (v_m_trace : Int64) (v_m_typed : Int32) (v_m_next : Int32) (v_m_token : Int32) (v_m_place : Int32) (v_m_value : Int32) (v_m_fault : Int32) (v_m_finds : Int32) (v_m_weeks : Int32) (v_m_rows : Int32) (v_m_cardPrice : Int32) (v_m_lotPrice : Int32) (v_m_sure : Int32) (v_m_up : Int64) (v_m_down : Int64) (v_mt : Nat → Int64) (v_ml : Nat → Int32) (v_mr : Nat → Int32) : va_W := [(a_m, .inr (9, [.int v_m_thrown, .long v_m_trace, .ref a_mt, .ref a_ml, .ref a_mr, .ref a_mx, .int v_m_typed, .int v_m_next, .int v_m_token, .int v_m_place, .int v_m_value, .int v_m_fault, .int v_m_finds, .ref a_mf, .ref a_mg, .int v_m_weeks, .ref a_mw, .int v_m_rows, .ref a_mh, .int v_m_cardPrice, .int v_m_lotPrice, .int v_m_sure, .long v_m_up, .long v_m_down])), (a_mt, .inl (cJ, 2601, .inr (.inl v_mt))), (a_ml, .inl (cI, 32, .inl v_ml)), (a_mr, .inl (cI, 8, .inl v_mr))]
abbrev rm_X10_errorOf : Room := { frames := 3, cells := 0, slots := 0, locals := 75 }
theorem il_X10_errorOf_X10 : ∀ w ∈ wsX100, w ∈ wsX10_errorOf := by decide +kernel
theorem fk_X10_errorOf_0 : Cond.fieldLink RX10 42 "PostedAsksModel" "sure" "I" ∈ wsX10_errorOf := by decide +kernel
theorem fk_X10_errorOf_1 : Cond.fieldLink RX10 52 "PostedAsksModel" "up" "J" ∈ wsX10_errorOf := by decide +kernel
theorem fk_X10_errorOf_2 : Cond.constantLong RX10 152 (100) ∈ wsX10_errorOf := by decide +kernel
theorem fk_X10_errorOf_3 : Cond.fieldLink RX10 56 "PostedAsksModel" "down" "J" ∈ wsX10_errorOf := by decide +kernel
def f_X10_errorOf_L70_body (x1 : Int32) (x2 : Int32) (x3 : Int32) (v_m_sure : Int32) (v_m_up : Int64) (v_m_down : Int64) (v_mt : Nat → Int64) (v_ml : Nat → Int32) (rec70 : Int32 → Option (Int32 × Int64 × Int64)) (x4 : Int32) : Option (Int32 × Int64 × Int64) :=
  (f_X10_persons x1 (170 : Int32) v_ml).bind fun u_1 =>
  (f_X10_isSure x3 u_1 x2 x4 v_m_sure v_mt).bind fun u_3 =>
  if u_3 = 0 then
    rec70 (x4 + (1 : Int32))
  else
    some (x4, v_m_up, v_m_down)
def f_X10_errorOf_L70 (x1 : Int32) (x2 : Int32) (x3 : Int32) (v_m_sure : Int32) (v_m_up : Int64) (v_m_down : Int64) (v_mt : Nat → Int64) (v_ml : Nat → Int32) : Nat → Int32 → Option (Int32 × Int64 × Int64)
  | 0 => fun _ => none
  | n + 1 => f_X10_errorOf_L70_body x1 x2 x3 v_m_sure v_m_up v_m_down v_mt v_ml (f_X10_errorOf_L70 x1 x2 x3 v_m_sure v_m_up v_m_down v_mt v_ml n)
def f_X10_errorOf (x1 : Int32) (x2 : Int32) (v_m_sure : Int32) (v_m_up : Int64) (v_m_down : Int64) (v_mt : Nat → Int64) (v_ml : Nat → Int32) (v_mr : Nat → Int32) : Option (Int32 × Int64 × Int64) :=
  (f_X10_persons x1 (255 : Int32) v_ml).bind fun u_6 =>
  if x2 = 0 then
    (f_X10_leans x1 v_ml v_mr).bind fun u_9 =>
    if u_9.1 = 0 then
      some ((101 : Int32), u_9.2.1, u_9.2.2)
    else
      if 0 ≤ (lg_cmp u_9.2.1 (0 : Int64)) then
        if u_9.2.2 = 0 then none else
        some ((Int64.toInt32 (((((100 : Int64) * u_9.2.1) + u_9.2.2) - (1 : Int64)) / u_9.2.2)), u_9.2.1, u_9.2.2)
      else
        if u_9.2.2 = 0 then none else
        some ((Int64.toInt32 (((((100 : Int64) * (-u_9.2.1)) + u_9.2.2) - (1 : Int64)) / u_9.2.2)), u_9.2.1, u_9.2.2)
  else
    f_X10_errorOf_L70 x1 x2 u_6 v_m_sure v_m_up v_m_down v_mt v_ml pa_fu (0 : Int32)
set_option maxHeartbeats 4000000 in
set_option maxRecDepth 100000 in
theorem w_X10_errorOf_L70 {l : Launch} {D : va_G} {cI cJ : ClassId} {g : pa_GT} {a_m a_mt a_ml a_mr a_mx a_mf a_mg a_mw a_mh : Nat} {A : Nat → Prop} {p : Program} {e : Env} {s : State} {m : MethodId} {args : Array Value} {below : List Frame} {meth : Method} {c : Code} {x1 : Int32} {x2 : Int32} {x3 : Int32} {v_m_sure : Int32} {v_m_up : Int64} {v_m_down : Int64} {v_mt : Nat → Int64} {v_ml : Nat → Int32} {v_m_thrown : Int32} {v_m_trace : Int64} {v_m_typed : Int32} {v_m_next : Int32} {v_m_token : Int32} {v_m_place : Int32} {v_m_value : Int32} {v_m_fault : Int32} {v_m_finds : Int32} {v_m_weeks : Int32} {v_m_rows : Int32} {v_m_cardPrice : Int32} {v_m_lotPrice : Int32} {v_mr : Nat → Int32} {o : Int32 × Int64 × Int64} (X : pa_X cX10_errorOf 7 (some .int) RX10 wsX10_errorOf D cI cJ g A p s m args meth c)  : ∀ (n : Nat) (x4 : Int32), f_X10_errorOf_L70 x1 x2 x3 v_m_sure v_m_up v_m_down v_mt v_ml n x4 = some o → ∀ (H : Heap) (locs : List Loc) , va_P D vwCl (wo_X10_errorOf cI cJ a_m a_mt a_ml a_mr a_mx a_mf a_mg a_mw a_mh v_m_thrown v_m_trace v_m_typed v_m_next v_m_token v_m_place v_m_value v_m_fault v_m_finds v_m_weeks v_m_rows v_m_cardPrice v_m_lotPrice v_m_sure v_m_up v_m_down v_mt v_ml v_mr) H → va_D A (wo_X10_errorOf cI cJ a_m a_mt a_ml a_mr a_mx a_mf a_mg a_mw a_mh v_m_thrown v_m_trace v_m_typed v_m_next v_m_token v_m_place v_m_value v_m_fault v_m_finds v_m_weeks v_m_rows v_m_cardPrice v_m_lotPrice v_m_sure v_m_up v_m_down v_mt v_ml v_mr) → va_S A s.heap H locs → ∀ (ls : Array Slot), lv_has ls 7 [(0, .ref a_m), (1, .int x1), (2, .int x2), (3, .int x3), (4, .int x4)] → W p l e (headSpec wsX10_errorOf rm_X10_errorOf).room s m args below meth c H locs 0 0 (MQ below (va_Qi (fun r (_ : Unit) => r = o.1) (pa_QB D A (wo_X10_errorOf cI cJ a_m a_mt a_ml a_mr a_mx a_mf a_mg a_mw a_mh v_m_thrown v_m_trace v_m_typed v_m_next v_m_token v_m_place v_m_value v_m_fault v_m_finds v_m_weeks v_m_rows v_m_cardPrice v_m_lotPrice v_m_sure o.2.1 o.2.2 v_mt v_ml v_mr)) A) args s 0 0 A) (F0 m 70 ls []) := by
  obtain ⟨hx, hb, hr, hml, hown, hts, hK, hA, hG, hlk⟩ := id X
  intro n
  induction n with
  | zero =>
    intro x4 hf
    have hf : (none : Option (Int32 × Int64 × Int64)) = some o := hf
    cases hf
  | succ n hrec70 =>
    intro x4 hf H locs  hP hD hS ls hl
    have hf : f_X10_errorOf_L70_body x1 x2 x3 v_m_sure v_m_up v_m_down v_mt v_ml (f_X10_errorOf_L70 x1 x2 x3 v_m_sure v_m_up v_m_down v_mt v_ml n) x4 = some o := hf
    delta f_X10_errorOf_L70_body at hf
    generalize hgr : f_X10_errorOf_L70 x1 x2 x3 v_m_sure v_m_up v_m_down v_mt v_ml n = rec70 at hf hrec70
    refine lv_aload_n hx hb dX10_errorOf_70 rfl (lv_at hl 0 rfl) ?_
    refine lv_iload_n hx hb dX10_errorOf_71 rfl (lv_at hl 3 rfl) ?_
    refine lv_aload_n hx hb dX10_errorOf_72 rfl (lv_at hl 0 rfl) ?_
    refine lv_iload_n hx hb dX10_errorOf_73 rfl (lv_at hl 1 rfl) ?_
    refine lv_sipush (v := (170 : Int32)) hx hb dX10_errorOf_74 (by decide) ?_
    obtain ⟨u_1, hg_2, hf⟩ := pa_bd hf
    refine pa_ki (wc := (wo_X10_persons cI cJ a_m a_mt a_ml a_mr a_mx a_mf a_mg a_mw a_mh v_m_thrown v_m_trace v_m_typed v_m_next v_m_token v_m_place v_m_value v_m_fault v_m_finds v_m_weeks v_m_rows v_m_cardPrice v_m_lotPrice v_m_sure v_m_up v_m_down v_ml)) (wr := [(a_mt, .inl (cJ, 2601, .inr (.inl v_mt))), (a_mr, .inl (cI, 8, .inl v_mr))]) (w1 := (wo_X10_persons cI cJ a_m a_mt a_ml a_mr a_mx a_mf a_mg a_mw a_mh v_m_thrown v_m_trace v_m_typed v_m_next v_m_token v_m_place v_m_value v_m_fault v_m_finds v_m_weeks v_m_rows v_m_cardPrice v_m_lotPrice v_m_sure v_m_up v_m_down v_ml)) (w2 := (wo_X10_errorOf cI cJ a_m a_mt a_ml a_mr a_mx a_mf a_mg a_mw a_mh v_m_thrown v_m_trace v_m_typed v_m_next v_m_token v_m_place v_m_value v_m_fault v_m_finds v_m_weeks v_m_rows v_m_cardPrice v_m_lotPrice v_m_sure v_m_up v_m_down v_mt v_ml v_mr)) X hP hD hS [0, 2] [1, 3] [2, 0, 3, 1] rfl (pa_rV (As := [.int x1, .int (170 : Int32)]) (rest := [.int x3, .ref a_m]) (T := TX10) X hP hD hS [0, 2] rfl rfl (c_X10_persons hg_2 H.size) (cwV 2 hts gX10_errorOf_X10_persons rfl rfl rfl (by decide +kernel) ⟨Nat.le_of_ble_eq_true rfl, Nat.le_of_ble_eq_true rfl⟩) (q0 := 0) rfl rfl rfl hl.1 rfl (Nat.le_of_ble_eq_true rfl) dX10_errorOf_77 ⟨Nat.zero_le _, Nat.zero_le _⟩) rfl rfl (by decide) rfl rfl (fun H locs hP hD hS => ?_)
    refine lv_iload_n hx hb dX10_errorOf_80 rfl (lv_at hl 2 rfl) ?_
    refine lv_iload hx hb dX10_errorOf_81 (lv_at hl 4 rfl) ?_
    refine lv_aload_n hx hb dX10_errorOf_83 rfl (lv_at hl 0 rfl) ?_
    refine va_get (D := D) (ci := 9) (v := .int v_m_sure) (C := RX10) (T := TX10) (N := 24) hx hb hts il_X10_errorOf_X10 hown hK hP 0 rfl rfl 21 (by decide) (hts _ fk_X10_errorOf_0) (fun _ h9 => h9) rfl dX10_errorOf_84 ?_
    obtain ⟨u_3, hg_4, hf⟩ := pa_bd hf
    refine pa_ki (wc := (wo_X10_isSure cI cJ a_m a_mt a_ml a_mr a_mx a_mf a_mg a_mw a_mh v_m_thrown v_m_trace v_m_typed v_m_next v_m_token v_m_place v_m_value v_m_fault v_m_finds v_m_weeks v_m_rows v_m_cardPrice v_m_lotPrice v_m_sure v_m_up v_m_down v_mt)) (wr := [(a_ml, .inl (cI, 32, .inl v_ml)), (a_mr, .inl (cI, 8, .inl v_mr))]) (w1 := (wo_X10_isSure cI cJ a_m a_mt a_ml a_mr a_mx a_mf a_mg a_mw a_mh v_m_thrown v_m_trace v_m_typed v_m_next v_m_token v_m_place v_m_value v_m_fault v_m_finds v_m_weeks v_m_rows v_m_cardPrice v_m_lotPrice v_m_sure v_m_up v_m_down v_mt)) (w2 := (wo_X10_errorOf cI cJ a_m a_mt a_ml a_mr a_mx a_mf a_mg a_mw a_mh v_m_thrown v_m_trace v_m_typed v_m_next v_m_token v_m_place v_m_value v_m_fault v_m_finds v_m_weeks v_m_rows v_m_cardPrice v_m_lotPrice v_m_sure v_m_up v_m_down v_mt v_ml v_mr)) X hP hD hS [0, 1] [2, 3] [2, 3, 0, 1] rfl (pa_rV (As := [.int x3, .int u_1, .int x2, .int x4, .int v_m_sure]) (rest := []) (T := TX10) X hP hD hS [0, 1] rfl rfl (c_X10_isSure hg_4 H.size) (cwV 5 hts gX10_errorOf_X10_isSure rfl rfl rfl (by decide +kernel) ⟨Nat.le_of_ble_eq_true rfl, Nat.le_of_ble_eq_true rfl⟩) (q0 := 0) rfl rfl rfl hl.1 rfl (Nat.le_of_ble_eq_true rfl) dX10_errorOf_87 ⟨Nat.zero_le _, Nat.zero_le _⟩) rfl rfl (by decide) rfl rfl (fun H locs hP hD hS => ?_)
    refine lv_if_ne (tgt := 99) hx hb dX10_errorOf_90 (by decide) (fun c_5 => ?_) (fun c_5 => ?_)
    · have hf := (if_neg c_5).symm.trans hf
      refine lv_iload hx hb dX10_errorOf_99 (lv_at hl 4 rfl) ?_
      obtain rfl := Option.some.inj hf
      exact pa_ei X hP hD hS dX10_errorOf_101
    · have hf := (if_pos c_5).symm.trans hf
      refine lv_iinc (v := (x4 + (1 : Int32))) (lv' := [(4, .int (x4 + (1 : Int32))), (0, .ref a_m), (1, .int x1), (2, .int x2), (3, .int x3)]) hx hb dX10_errorOf_93 hl (k := 4) rfl rfl (by decide) rfl (fun ls hl => ?_)
      refine lv_goto (tgt := 70) hx hb dX10_errorOf_96 (by decide) ?_
      exact hrec70 _ hf _ _  hP hD hS _ (lv_sub hl [1, 2, 3, 4, 0] rfl)
set_option maxHeartbeats 4000000 in
set_option maxRecDepth 100000 in
theorem w_X10_errorOf_b0 {l : Launch} {D : va_G} {cI cJ : ClassId} {g : pa_GT} {a_m a_mt a_ml a_mr a_mx a_mf a_mg a_mw a_mh : Nat} {A : Nat → Prop} {p : Program} {e : Env} {s : State} {m : MethodId} {args : Array Value} {below : List Frame} {meth : Method} {c : Code} {x1 : Int32} {x2 : Int32} {v_m_sure : Int32} {v_m_up : Int64} {v_m_down : Int64} {v_mt : Nat → Int64} {v_ml : Nat → Int32} {v_mr : Nat → Int32} {v_m_thrown : Int32} {v_m_trace : Int64} {v_m_typed : Int32} {v_m_next : Int32} {v_m_token : Int32} {v_m_place : Int32} {v_m_value : Int32} {v_m_fault : Int32} {v_m_finds : Int32} {v_m_weeks : Int32} {v_m_rows : Int32} {v_m_cardPrice : Int32} {v_m_lotPrice : Int32} {o : Int32 × Int64 × Int64} (X : pa_X cX10_errorOf 7 (some .int) RX10 wsX10_errorOf D cI cJ g A p s m args meth c)  (hf : f_X10_errorOf x1 x2 v_m_sure v_m_up v_m_down v_mt v_ml v_mr = some o) {H : Heap} {locs : List Loc} (hP : va_P D vwCl (wo_X10_errorOf cI cJ a_m a_mt a_ml a_mr a_mx a_mf a_mg a_mw a_mh v_m_thrown v_m_trace v_m_typed v_m_next v_m_token v_m_place v_m_value v_m_fault v_m_finds v_m_weeks v_m_rows v_m_cardPrice v_m_lotPrice v_m_sure v_m_up v_m_down v_mt v_ml v_mr) H) (hD : va_D A (wo_X10_errorOf cI cJ a_m a_mt a_ml a_mr a_mx a_mf a_mg a_mw a_mh v_m_thrown v_m_trace v_m_typed v_m_next v_m_token v_m_place v_m_value v_m_fault v_m_finds v_m_weeks v_m_rows v_m_cardPrice v_m_lotPrice v_m_sure v_m_up v_m_down v_mt v_ml v_mr)) (hS : va_S A s.heap H locs) {ls : Array Slot} (hl : lv_has ls 7 [(0, .ref a_m), (1, .int x1), (2, .int x2)]) : W p l e (headSpec wsX10_errorOf rm_X10_errorOf).room s m args below meth c H locs 0 0 (MQ below (va_Qi (fun r (_ : Unit) => r = o.1) (pa_QB D A (wo_X10_errorOf cI cJ a_m a_mt a_ml a_mr a_mx a_mf a_mg a_mw a_mh v_m_thrown v_m_trace v_m_typed v_m_next v_m_token v_m_place v_m_value v_m_fault v_m_finds v_m_weeks v_m_rows v_m_cardPrice v_m_lotPrice v_m_sure o.2.1 o.2.2 v_mt v_ml v_mr)) A) args s 0 0 A) (F0 m 0 ls []) := by
  obtain ⟨hx, hb, hr, hml, hown, hts, hK, hA, hG, hlk⟩ := id X
  delta f_X10_errorOf at hf
  refine lv_aload_n hx hb dX10_errorOf_0 rfl (lv_at hl 0 rfl) ?_
  refine lv_iload_n hx hb dX10_errorOf_1 rfl (lv_at hl 1 rfl) ?_
  refine lv_sipush (v := (255 : Int32)) hx hb dX10_errorOf_2 (by decide) ?_
  obtain ⟨u_6, hg_7, hf⟩ := pa_bd hf
  refine pa_ki (wc := (wo_X10_persons cI cJ a_m a_mt a_ml a_mr a_mx a_mf a_mg a_mw a_mh v_m_thrown v_m_trace v_m_typed v_m_next v_m_token v_m_place v_m_value v_m_fault v_m_finds v_m_weeks v_m_rows v_m_cardPrice v_m_lotPrice v_m_sure v_m_up v_m_down v_ml)) (wr := [(a_mt, .inl (cJ, 2601, .inr (.inl v_mt))), (a_mr, .inl (cI, 8, .inl v_mr))]) (w1 := (wo_X10_persons cI cJ a_m a_mt a_ml a_mr a_mx a_mf a_mg a_mw a_mh v_m_thrown v_m_trace v_m_typed v_m_next v_m_token v_m_place v_m_value v_m_fault v_m_finds v_m_weeks v_m_rows v_m_cardPrice v_m_lotPrice v_m_sure v_m_up v_m_down v_ml)) (w2 := (wo_X10_errorOf cI cJ a_m a_mt a_ml a_mr a_mx a_mf a_mg a_mw a_mh v_m_thrown v_m_trace v_m_typed v_m_next v_m_token v_m_place v_m_value v_m_fault v_m_finds v_m_weeks v_m_rows v_m_cardPrice v_m_lotPrice v_m_sure v_m_up v_m_down v_mt v_ml v_mr)) X hP hD hS [0, 2] [1, 3] [2, 0, 3, 1] rfl (pa_rV (As := [.int x1, .int (255 : Int32)]) (rest := []) (T := TX10) X hP hD hS [0, 2] rfl rfl (c_X10_persons hg_7 H.size) (cwV 2 hts gX10_errorOf_X10_persons rfl rfl rfl (by decide +kernel) ⟨Nat.le_of_ble_eq_true rfl, Nat.le_of_ble_eq_true rfl⟩) (q0 := 0) rfl rfl rfl hl.1 rfl (Nat.le_of_ble_eq_true rfl) dX10_errorOf_5 ⟨Nat.zero_le _, Nat.zero_le _⟩) rfl rfl (by decide) rfl rfl (fun H locs hP hD hS => ?_)
  refine lv_istore_n (lv' := [(3, .int u_6), (0, .ref a_m), (1, .int x1), (2, .int x2)]) hx hb dX10_errorOf_8 rfl hl (by decide) rfl (fun ls hl => ?_)
  refine lv_iconst (v := (0 : Int32)) hx hb dX10_errorOf_9 (by decide) ?_
  refine lv_istore (lv' := [(4, .int (0 : Int32)), (3, .int u_6), (0, .ref a_m), (1, .int x1), (2, .int x2)]) hx hb dX10_errorOf_10 hl (by decide) rfl (fun ls hl => ?_)
  refine lv_iload_n hx hb dX10_errorOf_12 rfl (lv_at hl 4 rfl) ?_
  refine lv_if_ne (tgt := 70) hx hb dX10_errorOf_13 (by decide) (fun c_8 => ?_) (fun c_8 => ?_)
  · have hf := (if_neg c_8).symm.trans hf
    exact w_X10_errorOf_L70 X  _ _ hf _ _  hP hD hS _ (lv_sub hl [2, 3, 4, 1, 0] rfl)
  · have hf := (if_pos c_8).symm.trans hf
    refine lv_aload_n hx hb dX10_errorOf_16 rfl (lv_at hl 2 rfl) ?_
    refine lv_iload_n hx hb dX10_errorOf_17 rfl (lv_at hl 3 rfl) ?_
    obtain ⟨u_9, hg_10, hf⟩ := pa_bd hf
    refine pa_ki (wc := (wo_X10_leans cI cJ a_m a_mt a_ml a_mr a_mx a_mf a_mg a_mw a_mh v_m_thrown v_m_trace v_m_typed v_m_next v_m_token v_m_place v_m_value v_m_fault v_m_finds v_m_weeks v_m_rows v_m_cardPrice v_m_lotPrice v_m_sure v_m_up v_m_down v_ml v_mr)) (wr := [(a_mt, .inl (cJ, 2601, .inr (.inl v_mt)))]) (w1 := (wo_X10_leans cI cJ a_m a_mt a_ml a_mr a_mx a_mf a_mg a_mw a_mh v_m_thrown v_m_trace v_m_typed v_m_next v_m_token v_m_place v_m_value v_m_fault v_m_finds v_m_weeks v_m_rows v_m_cardPrice v_m_lotPrice v_m_sure u_9.2.1 u_9.2.2 v_ml v_mr)) (w2 := (wo_X10_errorOf cI cJ a_m a_mt a_ml a_mr a_mx a_mf a_mg a_mw a_mh v_m_thrown v_m_trace v_m_typed v_m_next v_m_token v_m_place v_m_value v_m_fault v_m_finds v_m_weeks v_m_rows v_m_cardPrice v_m_lotPrice v_m_sure u_9.2.1 u_9.2.2 v_mt v_ml v_mr)) X hP hD hS [0, 2, 3] [1] [1, 0, 2, 3] rfl (pa_rV (As := [.int x1]) (rest := []) (T := TX10) X hP hD hS [0, 2, 3] rfl rfl (c_X10_leans hg_10 H.size) (cwV 1 hts gX10_errorOf_X10_leans rfl rfl rfl (by decide +kernel) ⟨Nat.le_of_ble_eq_true rfl, Nat.le_of_ble_eq_true rfl⟩) (q0 := 0) rfl rfl rfl hl.1 rfl (Nat.le_of_ble_eq_true rfl) dX10_errorOf_18 ⟨Nat.zero_le _, Nat.zero_le _⟩) rfl rfl (by decide) rfl rfl (fun H locs hP hD hS => ?_)
    refine lv_if_ne (tgt := 27) hx hb dX10_errorOf_21 (by decide) (fun c_11 => ?_) (fun c_11 => ?_)
    · have hf := (if_neg c_11).symm.trans hf
      refine lv_aload_n hx hb dX10_errorOf_27 rfl (lv_at hl 2 rfl) ?_
      refine va_get (D := D) (ci := 9) (v := .long u_9.2.1) (C := RX10) (T := TX10) (N := 24) hx hb hts il_X10_errorOf_X10 hown hK hP 0 rfl rfl 22 (by decide) (hts _ fk_X10_errorOf_1) (fun _ h9 => h9) rfl dX10_errorOf_28 ?_
      refine lv_lconst (v := (0 : Int64)) hx hb dX10_errorOf_31 (by decide) ?_
      refine W.lcmp hx hb dX10_errorOf_32 ?_
      refine lv_if_ge (tgt := 44) hx hb dX10_errorOf_33 (by decide) (fun c_12 => ?_) (fun c_12 => ?_)
      · have hf := (if_pos c_12).symm.trans hf
        refine lv_aload_n hx hb dX10_errorOf_44 rfl (lv_at hl 2 rfl) ?_
        refine va_get (D := D) (ci := 9) (v := .long u_9.2.1) (C := RX10) (T := TX10) (N := 24) hx hb hts il_X10_errorOf_X10 hown hK hP 0 rfl rfl 22 (by decide) (hts _ fk_X10_errorOf_1) (fun _ h9 => h9) rfl dX10_errorOf_45 ?_
        refine lv_lstore (lv' := [(5, .long u_9.2.1), (4, .int (0 : Int32)), (3, .int u_6), (0, .ref a_m), (1, .int x1), (2, .int x2)]) hx hb dX10_errorOf_48 hl (by decide) rfl (fun ls hl => ?_)
        refine lv_ldc2 (v := (100 : Int64)) hx hb hown (hts _ fk_X10_errorOf_2) dX10_errorOf_50 ?_
        refine lv_lload hx hb dX10_errorOf_53 (lv_at hl 0 rfl) ?_
        refine lv_lmul hx hb dX10_errorOf_55 ?_
        refine lv_aload_n hx hb dX10_errorOf_56 rfl (lv_at hl 3 rfl) ?_
        refine va_get (D := D) (ci := 9) (v := .long u_9.2.2) (C := RX10) (T := TX10) (N := 24) hx hb hts il_X10_errorOf_X10 hown hK hP 0 rfl rfl 23 (by decide) (hts _ fk_X10_errorOf_3) (fun _ h9 => h9) rfl dX10_errorOf_57 ?_
        refine lv_ladd hx hb dX10_errorOf_60 ?_
        refine lv_lconst (v := (1 : Int64)) hx hb dX10_errorOf_61 (by decide) ?_
        refine lv_lsub hx hb dX10_errorOf_62 ?_
        refine lv_aload_n hx hb dX10_errorOf_63 rfl (lv_at hl 3 rfl) ?_
        refine va_get (D := D) (ci := 9) (v := .long u_9.2.2) (C := RX10) (T := TX10) (N := 24) hx hb hts il_X10_errorOf_X10 hown hK hP 0 rfl rfl 23 (by decide) (hts _ fk_X10_errorOf_3) (fun _ h9 => h9) rfl dX10_errorOf_64 ?_
        obtain ⟨hz_13, hf⟩ := pa_dzl hf
        refine lv_ldiv hx hb dX10_errorOf_67 hz_13 ?_
        refine lv_l2i (v := (Int64.toInt32 (((((100 : Int64) * u_9.2.1) + u_9.2.2) - (1 : Int64)) / u_9.2.2))) hx hb dX10_errorOf_68 rfl ?_
        obtain rfl := Option.some.inj hf
        exact pa_ei X hP hD hS dX10_errorOf_69
      · have hf := (if_neg c_12).symm.trans hf
        refine lv_aload_n hx hb dX10_errorOf_36 rfl (lv_at hl 2 rfl) ?_
        refine va_get (D := D) (ci := 9) (v := .long u_9.2.1) (C := RX10) (T := TX10) (N := 24) hx hb hts il_X10_errorOf_X10 hown hK hP 0 rfl rfl 22 (by decide) (hts _ fk_X10_errorOf_1) (fun _ h9 => h9) rfl dX10_errorOf_37 ?_
        refine lv_lneg hx hb dX10_errorOf_40 ?_
        refine lv_goto (tgt := 48) hx hb dX10_errorOf_41 (by decide) ?_
        refine lv_lstore (lv' := [(5, .long (-u_9.2.1)), (4, .int (0 : Int32)), (3, .int u_6), (0, .ref a_m), (1, .int x1), (2, .int x2)]) hx hb dX10_errorOf_48 hl (by decide) rfl (fun ls hl => ?_)
        refine lv_ldc2 (v := (100 : Int64)) hx hb hown (hts _ fk_X10_errorOf_2) dX10_errorOf_50 ?_
        refine lv_lload hx hb dX10_errorOf_53 (lv_at hl 0 rfl) ?_
        refine lv_lmul hx hb dX10_errorOf_55 ?_
        refine lv_aload_n hx hb dX10_errorOf_56 rfl (lv_at hl 3 rfl) ?_
        refine va_get (D := D) (ci := 9) (v := .long u_9.2.2) (C := RX10) (T := TX10) (N := 24) hx hb hts il_X10_errorOf_X10 hown hK hP 0 rfl rfl 23 (by decide) (hts _ fk_X10_errorOf_3) (fun _ h9 => h9) rfl dX10_errorOf_57 ?_
        refine lv_ladd hx hb dX10_errorOf_60 ?_
        refine lv_lconst (v := (1 : Int64)) hx hb dX10_errorOf_61 (by decide) ?_
        refine lv_lsub hx hb dX10_errorOf_62 ?_
        refine lv_aload_n hx hb dX10_errorOf_63 rfl (lv_at hl 3 rfl) ?_
        refine va_get (D := D) (ci := 9) (v := .long u_9.2.2) (C := RX10) (T := TX10) (N := 24) hx hb hts il_X10_errorOf_X10 hown hK hP 0 rfl rfl 23 (by decide) (hts _ fk_X10_errorOf_3) (fun _ h9 => h9) rfl dX10_errorOf_64 ?_
        obtain ⟨hz_14, hf⟩ := pa_dzl hf
        refine lv_ldiv hx hb dX10_errorOf_67 hz_14 ?_
        refine lv_l2i (v := (Int64.toInt32 (((((100 : Int64) * (-u_9.2.1)) + u_9.2.2) - (1 : Int64)) / u_9.2.2))) hx hb dX10_errorOf_68 rfl ?_
        obtain rfl := Option.some.inj hf
        exact pa_ei X hP hD hS dX10_errorOf_69
    · have hf := (if_pos c_11).symm.trans hf
      refine lv_bipush (v := (101 : Int32)) hx hb dX10_errorOf_24 (by decide) ?_
      obtain rfl := Option.some.inj hf
      exact pa_ei X hP hD hS dX10_errorOf_26
set_option maxHeartbeats 4000000 in
set_option maxRecDepth 100000 in
theorem c_X10_errorOf {l : Launch} {D : va_G} {cI cJ : ClassId} {g : pa_GT} {a_m a_mt a_ml a_mr a_mx a_mf a_mg a_mw a_mh : Nat} {x1 : Int32} {x2 : Int32} {v_m_thrown : Int32} {v_m_trace : Int64} {v_m_typed : Int32} {v_m_next : Int32} {v_m_token : Int32} {v_m_place : Int32} {v_m_value : Int32} {v_m_fault : Int32} {v_m_finds : Int32} {v_m_weeks : Int32} {v_m_rows : Int32} {v_m_cardPrice : Int32} {v_m_lotPrice : Int32} {v_m_sure : Int32} {v_m_up : Int64} {v_m_down : Int64} {v_mt : Nat → Int64} {v_ml : Nat → Int32} {v_mr : Nat → Int32} {o : Int32 × Int64 × Int64} (hf : f_X10_errorOf x1 x2 v_m_sure v_m_up v_m_down v_mt v_ml v_mr = some o) : pa_Mi l yX10_errorOf wsX10_errorOf rm_X10_errorOf D cI cJ g [.ref a_m, .int x1, .int x2] (wo_X10_errorOf cI cJ a_m a_mt a_ml a_mr a_mx a_mf a_mg a_mw a_mh v_m_thrown v_m_trace v_m_typed v_m_next v_m_token v_m_place v_m_value v_m_fault v_m_finds v_m_weeks v_m_rows v_m_cardPrice v_m_lotPrice v_m_sure v_m_up v_m_down v_mt v_ml v_mr) (wo_X10_errorOf cI cJ a_m a_mt a_ml a_mr a_mx a_mf a_mg a_mw a_mh v_m_thrown v_m_trace v_m_typed v_m_next v_m_token v_m_place v_m_value v_m_fault v_m_finds v_m_weeks v_m_rows v_m_cardPrice v_m_lotPrice v_m_sure o.2.1 o.2.2 v_mt v_ml v_mr) o.1 := by
  intro sz
  refine pa_met (cc := cX10_errorOf) (maxL := 7) (ret := (some .int)) (lv := [(0, .ref a_m), (1, .int x1), (2, .int x2)]) (by decide) rfl (Nat.le_of_ble_eq_true rfl) rfl ?_
  intro p e s m below meth c X hsz hP hD ls hl
  subst hsz
  exact w_X10_errorOf_b0 X hf hP hD va_S.rf hl
abbrev wo_X10_error (cI cJ : ClassId) (a_m a_mt a_ml a_mr a_mx a_mf a_mg a_mw a_mh : Nat) (v_m_thrown : Int32) (v_m_trace : Int64) (v_m_typed : Int32) (v_m_next : Int32) (v_m_token : Int32) (v_m_place : Int32) (v_m_value : Int32) (v_m_fault : Int32) (v_m_finds : Int32) (v_m_weeks : Int32) (v_m_rows : Int32) (v_m_cardPrice : Int32) (v_m_lotPrice : Int32) (v_m_sure : Int32) (v_m_up : Int64) (v_m_down : Int64) (v_mt : Nat → Int64) (v_ml : Nat → Int32) (v_mr : Nat → Int32) : va_W := [(a_m, .inr (9, [.int v_m_thrown, .long v_m_trace, .ref a_mt, .ref a_ml, .ref a_mr, .ref a_mx, .int v_m_typed, .int v_m_next, .int v_m_token, .int v_m_place, .int v_m_value, .int v_m_fault, .int v_m_finds, .ref a_mf, .ref a_mg, .int v_m_weeks, .ref a_mw, .int v_m_rows, .ref a_mh, .int v_m_cardPrice, .int v_m_lotPrice, .int v_m_sure, .long v_m_up, .long v_m_down])), (a_mt, .inl (cJ, 2601, .inr (.inl v_mt))), (a_ml, .inl (cI, 32, .inl v_ml)), (a_mr, .inl (cI, 8, .inl v_mr))]
abbrev rm_X10_error : Room := { frames := 4, cells := 0, slots := 0, locals := 101 }
theorem il_X10_error_X10 : ∀ w ∈ wsX100, w ∈ wsX10_error := by decide +kernel
theorem fk_X10_error_0 : Cond.fieldLink RX10 45 "PostedAsksModel" "thrown" "I" ∈ wsX10_error := by decide +kernel
def f_X10_error (x1 : Int32) (x2 : Int32) (v_m_sure : Int32) (v_m_up : Int64) (v_m_down : Int64) (v_mt : Nat → Int64) (v_ml : Nat → Int32) (v_mr : Nat → Int32) : Option (Int32 × Int32 × Int64 × Int64) :=
  (f_X10_isLand x1).bind fun u_1 =>
  if u_1 = 0 then
    some ((-1 : Int32), (0 : Int32), v_m_up, v_m_down)
  else
    (f_X10_persons x1 (255 : Int32) v_ml).bind fun u_4 =>
    (f_X10_in x2 (0 : Int32) u_4).bind fun u_6 =>
    if u_6 = 0 then
      some ((-1 : Int32), (0 : Int32), v_m_up, v_m_down)
    else
      (f_X10_persons x1 (255 : Int32) v_ml).bind fun u_9 =>
      if u_9 = 0 then
        some ((-2 : Int32), (0 : Int32), v_m_up, v_m_down)
      else
        (f_X10_errorOf x1 x2 v_m_sure v_m_up v_m_down v_mt v_ml v_mr).bind fun u_12 =>
        some (u_12.1, (0 : Int32), u_12.2.1, u_12.2.2)
set_option maxHeartbeats 4000000 in
set_option maxRecDepth 100000 in
theorem w_X10_error_b0 {l : Launch} {D : va_G} {cI cJ : ClassId} {g : pa_GT} {a_m a_mt a_ml a_mr a_mx a_mf a_mg a_mw a_mh : Nat} {A : Nat → Prop} {p : Program} {e : Env} {s : State} {m : MethodId} {args : Array Value} {below : List Frame} {meth : Method} {c : Code} {x1 : Int32} {x2 : Int32} {v_m_sure : Int32} {v_m_up : Int64} {v_m_down : Int64} {v_mt : Nat → Int64} {v_ml : Nat → Int32} {v_mr : Nat → Int32} {v_m_thrown : Int32} {v_m_trace : Int64} {v_m_typed : Int32} {v_m_next : Int32} {v_m_token : Int32} {v_m_place : Int32} {v_m_value : Int32} {v_m_fault : Int32} {v_m_finds : Int32} {v_m_weeks : Int32} {v_m_rows : Int32} {v_m_cardPrice : Int32} {v_m_lotPrice : Int32} {o : Int32 × Int32 × Int64 × Int64} (X : pa_X cX10_error 3 (some .int) RX10 wsX10_error D cI cJ g A p s m args meth c)  (hf : f_X10_error x1 x2 v_m_sure v_m_up v_m_down v_mt v_ml v_mr = some o) {H : Heap} {locs : List Loc} (hP : va_P D vwCl (wo_X10_error cI cJ a_m a_mt a_ml a_mr a_mx a_mf a_mg a_mw a_mh v_m_thrown v_m_trace v_m_typed v_m_next v_m_token v_m_place v_m_value v_m_fault v_m_finds v_m_weeks v_m_rows v_m_cardPrice v_m_lotPrice v_m_sure v_m_up v_m_down v_mt v_ml v_mr) H) (hD : va_D A (wo_X10_error cI cJ a_m a_mt a_ml a_mr a_mx a_mf a_mg a_mw a_mh v_m_thrown v_m_trace v_m_typed v_m_next v_m_token v_m_place v_m_value v_m_fault v_m_finds v_m_weeks v_m_rows v_m_cardPrice v_m_lotPrice v_m_sure v_m_up v_m_down v_mt v_ml v_mr)) (hS : va_S A s.heap H locs) {ls : Array Slot} (hl : lv_has ls 3 [(0, .ref a_m), (1, .int x1), (2, .int x2)]) : W p l e (headSpec wsX10_error rm_X10_error).room s m args below meth c H locs 0 0 (MQ below (va_Qi (fun r (_ : Unit) => r = o.1) (pa_QB D A (wo_X10_error cI cJ a_m a_mt a_ml a_mr a_mx a_mf a_mg a_mw a_mh o.2.1 v_m_trace v_m_typed v_m_next v_m_token v_m_place v_m_value v_m_fault v_m_finds v_m_weeks v_m_rows v_m_cardPrice v_m_lotPrice v_m_sure o.2.2.1 o.2.2.2 v_mt v_ml v_mr)) A) args s 0 0 A) (F0 m 0 ls []) := by
  obtain ⟨hx, hb, hr, hml, hown, hts, hK, hA, hG, hlk⟩ := id X
  delta f_X10_error at hf
  refine lv_aload_n hx hb dX10_error_0 rfl (lv_at hl 0 rfl) ?_
  refine lv_iconst (v := (0 : Int32)) hx hb dX10_error_1 (by decide) ?_
  refine va_put (D := D) (ci := 9) (v := .int (0 : Int32)) (ty := .int) (C := RX10) (T := TX10) (N := 24) hx hb hts il_X10_error_X10 tyX10 tyX10_ok nmX10 hown hK hP hD hS 0 rfl rfl 0 (by decide) (hts _ fk_X10_error_0) (fun _ h9 => h9) rfl (tyX10_ok 0 (by decide)) rfl rfl (Nat.le_of_ble_eq_true rfl) dX10_error_2 (fun H locs hP hD hS => ?_)
  have hP : va_P D vwCl (wo_X10_error cI cJ a_m a_mt a_ml a_mr a_mx a_mf a_mg a_mw a_mh (0 : Int32) v_m_trace v_m_typed v_m_next v_m_token v_m_place v_m_value v_m_fault v_m_finds v_m_weeks v_m_rows v_m_cardPrice v_m_lotPrice v_m_sure v_m_up v_m_down v_mt v_ml v_mr) H := hP
  have hD : va_D A (wo_X10_error cI cJ a_m a_mt a_ml a_mr a_mx a_mf a_mg a_mw a_mh (0 : Int32) v_m_trace v_m_typed v_m_next v_m_token v_m_place v_m_value v_m_fault v_m_finds v_m_weeks v_m_rows v_m_cardPrice v_m_lotPrice v_m_sure v_m_up v_m_down v_mt v_ml v_mr) := hD
  refine lv_iload_n hx hb dX10_error_5 rfl (lv_at hl 1 rfl) ?_
  obtain ⟨u_1, hg_2, hf⟩ := pa_bd hf
  refine pa_ki (wc := ([] : va_W)) (wr := [(a_m, .inr (9, [.int (0 : Int32), .long v_m_trace, .ref a_mt, .ref a_ml, .ref a_mr, .ref a_mx, .int v_m_typed, .int v_m_next, .int v_m_token, .int v_m_place, .int v_m_value, .int v_m_fault, .int v_m_finds, .ref a_mf, .ref a_mg, .int v_m_weeks, .ref a_mw, .int v_m_rows, .ref a_mh, .int v_m_cardPrice, .int v_m_lotPrice, .int v_m_sure, .long v_m_up, .long v_m_down])), (a_mt, .inl (cJ, 2601, .inr (.inl v_mt))), (a_ml, .inl (cI, 32, .inl v_ml)), (a_mr, .inl (cI, 8, .inl v_mr))]) (w1 := ([] : va_W)) (w2 := (wo_X10_error cI cJ a_m a_mt a_ml a_mr a_mx a_mf a_mg a_mw a_mh (0 : Int32) v_m_trace v_m_typed v_m_next v_m_token v_m_place v_m_value v_m_fault v_m_finds v_m_weeks v_m_rows v_m_cardPrice v_m_lotPrice v_m_sure v_m_up v_m_down v_mt v_ml v_mr)) X hP hD hS [] [0, 1, 2, 3] [0, 1, 2, 3] rfl (pa_rS (As := [.int x1]) (rest := []) X hP hD hS [] rfl rfl (c_X10_isLand hg_2 H.size) (va_cwS 1 hts gX10_error_X10_isLand rfl rfl rfl (by decide +kernel) ⟨Nat.le_of_ble_eq_true rfl, Nat.le_of_ble_eq_true rfl⟩) rfl hl.1 rfl (Nat.le_of_ble_eq_true rfl) dX10_error_6 ⟨Nat.zero_le _, Nat.zero_le _⟩) rfl rfl (by decide) rfl rfl (fun H locs hP hD hS => ?_)
  refine lv_if_eq (tgt := 28) hx hb dX10_error_9 (by decide) (fun c_3 => ?_) (fun c_3 => ?_)
  · have hf := (if_pos c_3).symm.trans hf
    refine lv_iconst (v := (-1 : Int32)) hx hb dX10_error_28 (by decide) ?_
    obtain rfl := Option.some.inj hf
    exact pa_ei X hP hD hS dX10_error_29
  · have hf := (if_neg c_3).symm.trans hf
    refine lv_iload_n hx hb dX10_error_12 rfl (lv_at hl 2 rfl) ?_
    refine lv_iconst (v := (0 : Int32)) hx hb dX10_error_13 (by decide) ?_
    refine lv_aload_n hx hb dX10_error_14 rfl (lv_at hl 0 rfl) ?_
    refine lv_iload_n hx hb dX10_error_15 rfl (lv_at hl 1 rfl) ?_
    refine lv_sipush (v := (255 : Int32)) hx hb dX10_error_16 (by decide) ?_
    obtain ⟨u_4, hg_5, hf⟩ := pa_bd hf
    refine pa_ki (wc := (wo_X10_persons cI cJ a_m a_mt a_ml a_mr a_mx a_mf a_mg a_mw a_mh (0 : Int32) v_m_trace v_m_typed v_m_next v_m_token v_m_place v_m_value v_m_fault v_m_finds v_m_weeks v_m_rows v_m_cardPrice v_m_lotPrice v_m_sure v_m_up v_m_down v_ml)) (wr := [(a_mt, .inl (cJ, 2601, .inr (.inl v_mt))), (a_mr, .inl (cI, 8, .inl v_mr))]) (w1 := (wo_X10_persons cI cJ a_m a_mt a_ml a_mr a_mx a_mf a_mg a_mw a_mh (0 : Int32) v_m_trace v_m_typed v_m_next v_m_token v_m_place v_m_value v_m_fault v_m_finds v_m_weeks v_m_rows v_m_cardPrice v_m_lotPrice v_m_sure v_m_up v_m_down v_ml)) (w2 := (wo_X10_error cI cJ a_m a_mt a_ml a_mr a_mx a_mf a_mg a_mw a_mh (0 : Int32) v_m_trace v_m_typed v_m_next v_m_token v_m_place v_m_value v_m_fault v_m_finds v_m_weeks v_m_rows v_m_cardPrice v_m_lotPrice v_m_sure v_m_up v_m_down v_mt v_ml v_mr)) X hP hD hS [0, 2] [1, 3] [2, 0, 3, 1] rfl (pa_rV (As := [.int x1, .int (255 : Int32)]) (rest := [.int (0 : Int32), .int x2]) (T := TX10) X hP hD hS [0, 2] rfl rfl (c_X10_persons hg_5 H.size) (cwV 2 hts gX10_error_X10_persons rfl rfl rfl (by decide +kernel) ⟨Nat.le_of_ble_eq_true rfl, Nat.le_of_ble_eq_true rfl⟩) (q0 := 0) rfl rfl rfl hl.1 rfl (Nat.le_of_ble_eq_true rfl) dX10_error_19 ⟨Nat.zero_le _, Nat.zero_le _⟩) rfl rfl (by decide) rfl rfl (fun H locs hP hD hS => ?_)
    obtain ⟨u_6, hg_7, hf⟩ := pa_bd hf
    refine pa_ki (wc := ([] : va_W)) (wr := [(a_m, .inr (9, [.int (0 : Int32), .long v_m_trace, .ref a_mt, .ref a_ml, .ref a_mr, .ref a_mx, .int v_m_typed, .int v_m_next, .int v_m_token, .int v_m_place, .int v_m_value, .int v_m_fault, .int v_m_finds, .ref a_mf, .ref a_mg, .int v_m_weeks, .ref a_mw, .int v_m_rows, .ref a_mh, .int v_m_cardPrice, .int v_m_lotPrice, .int v_m_sure, .long v_m_up, .long v_m_down])), (a_mt, .inl (cJ, 2601, .inr (.inl v_mt))), (a_ml, .inl (cI, 32, .inl v_ml)), (a_mr, .inl (cI, 8, .inl v_mr))]) (w1 := ([] : va_W)) (w2 := (wo_X10_error cI cJ a_m a_mt a_ml a_mr a_mx a_mf a_mg a_mw a_mh (0 : Int32) v_m_trace v_m_typed v_m_next v_m_token v_m_place v_m_value v_m_fault v_m_finds v_m_weeks v_m_rows v_m_cardPrice v_m_lotPrice v_m_sure v_m_up v_m_down v_mt v_ml v_mr)) X hP hD hS [] [0, 1, 2, 3] [0, 1, 2, 3] rfl (pa_rS (As := [.int x2, .int (0 : Int32), .int u_4]) (rest := []) X hP hD hS [] rfl rfl (c_X10_in hg_7 H.size) (va_cwS 3 hts gX10_error_X10_in rfl rfl rfl (by decide +kernel) ⟨Nat.le_of_ble_eq_true rfl, Nat.le_of_ble_eq_true rfl⟩) rfl hl.1 rfl (Nat.le_of_ble_eq_true rfl) dX10_error_22 ⟨Nat.zero_le _, Nat.zero_le _⟩) rfl rfl (by decide) rfl rfl (fun H locs hP hD hS => ?_)
    refine lv_if_ne (tgt := 30) hx hb dX10_error_25 (by decide) (fun c_8 => ?_) (fun c_8 => ?_)
    · have hf := (if_neg c_8).symm.trans hf
      refine lv_aload_n hx hb dX10_error_30 rfl (lv_at hl 0 rfl) ?_
      refine lv_iload_n hx hb dX10_error_31 rfl (lv_at hl 1 rfl) ?_
      refine lv_sipush (v := (255 : Int32)) hx hb dX10_error_32 (by decide) ?_
      obtain ⟨u_9, hg_10, hf⟩ := pa_bd hf
      refine pa_ki (wc := (wo_X10_persons cI cJ a_m a_mt a_ml a_mr a_mx a_mf a_mg a_mw a_mh (0 : Int32) v_m_trace v_m_typed v_m_next v_m_token v_m_place v_m_value v_m_fault v_m_finds v_m_weeks v_m_rows v_m_cardPrice v_m_lotPrice v_m_sure v_m_up v_m_down v_ml)) (wr := [(a_mt, .inl (cJ, 2601, .inr (.inl v_mt))), (a_mr, .inl (cI, 8, .inl v_mr))]) (w1 := (wo_X10_persons cI cJ a_m a_mt a_ml a_mr a_mx a_mf a_mg a_mw a_mh (0 : Int32) v_m_trace v_m_typed v_m_next v_m_token v_m_place v_m_value v_m_fault v_m_finds v_m_weeks v_m_rows v_m_cardPrice v_m_lotPrice v_m_sure v_m_up v_m_down v_ml)) (w2 := (wo_X10_error cI cJ a_m a_mt a_ml a_mr a_mx a_mf a_mg a_mw a_mh (0 : Int32) v_m_trace v_m_typed v_m_next v_m_token v_m_place v_m_value v_m_fault v_m_finds v_m_weeks v_m_rows v_m_cardPrice v_m_lotPrice v_m_sure v_m_up v_m_down v_mt v_ml v_mr)) X hP hD hS [0, 2] [1, 3] [2, 0, 3, 1] rfl (pa_rV (As := [.int x1, .int (255 : Int32)]) (rest := []) (T := TX10) X hP hD hS [0, 2] rfl rfl (c_X10_persons hg_10 H.size) (cwV 2 hts gX10_error_X10_persons rfl rfl rfl (by decide +kernel) ⟨Nat.le_of_ble_eq_true rfl, Nat.le_of_ble_eq_true rfl⟩) (q0 := 0) rfl rfl rfl hl.1 rfl (Nat.le_of_ble_eq_true rfl) dX10_error_35 ⟨Nat.zero_le _, Nat.zero_le _⟩) rfl rfl (by decide) rfl rfl (fun H locs hP hD hS => ?_)
      refine lv_if_ne (tgt := 46) hx hb dX10_error_38 (by decide) (fun c_11 => ?_) (fun c_11 => ?_)
      · have hf := (if_neg c_11).symm.trans hf
        refine lv_aload_n hx hb dX10_error_46 rfl (lv_at hl 0 rfl) ?_
        refine lv_iload_n hx hb dX10_error_47 rfl (lv_at hl 1 rfl) ?_
        refine lv_iload_n hx hb dX10_error_48 rfl (lv_at hl 2 rfl) ?_
        obtain ⟨u_12, hg_13, hf⟩ := pa_bd hf
        refine pa_ki (wc := (wo_X10_errorOf cI cJ a_m a_mt a_ml a_mr a_mx a_mf a_mg a_mw a_mh (0 : Int32) v_m_trace v_m_typed v_m_next v_m_token v_m_place v_m_value v_m_fault v_m_finds v_m_weeks v_m_rows v_m_cardPrice v_m_lotPrice v_m_sure v_m_up v_m_down v_mt v_ml v_mr)) (wr := ([] : va_W)) (w1 := (wo_X10_errorOf cI cJ a_m a_mt a_ml a_mr a_mx a_mf a_mg a_mw a_mh (0 : Int32) v_m_trace v_m_typed v_m_next v_m_token v_m_place v_m_value v_m_fault v_m_finds v_m_weeks v_m_rows v_m_cardPrice v_m_lotPrice v_m_sure u_12.2.1 u_12.2.2 v_mt v_ml v_mr)) (w2 := (wo_X10_error cI cJ a_m a_mt a_ml a_mr a_mx a_mf a_mg a_mw a_mh (0 : Int32) v_m_trace v_m_typed v_m_next v_m_token v_m_place v_m_value v_m_fault v_m_finds v_m_weeks v_m_rows v_m_cardPrice v_m_lotPrice v_m_sure u_12.2.1 u_12.2.2 v_mt v_ml v_mr)) X hP hD hS [0, 1, 2, 3] [] [0, 1, 2, 3] rfl (pa_rV (As := [.int x1, .int x2]) (rest := []) (T := TX10) X hP hD hS [0, 1, 2, 3] rfl rfl (c_X10_errorOf hg_13 H.size) (cwV 2 hts gX10_error_X10_errorOf rfl rfl rfl (by decide +kernel) ⟨Nat.le_of_ble_eq_true rfl, Nat.le_of_ble_eq_true rfl⟩) (q0 := 0) rfl rfl rfl hl.1 rfl (Nat.le_of_ble_eq_true rfl) dX10_error_49 ⟨Nat.zero_le _, Nat.zero_le _⟩) rfl rfl (by decide) rfl rfl (fun H locs hP hD hS => ?_)
        obtain rfl := Option.some.inj hf
        exact pa_ei X hP hD hS dX10_error_52
      · have hf := (if_pos c_11).symm.trans hf
        refine lv_bipush (v := (-2 : Int32)) hx hb dX10_error_41 (by decide) ?_
        refine lv_goto (tgt := 52) hx hb dX10_error_43 (by decide) ?_
        obtain rfl := Option.some.inj hf
        exact pa_ei X hP hD hS dX10_error_52
    · have hf := (if_pos c_8).symm.trans hf
      refine lv_iconst (v := (-1 : Int32)) hx hb dX10_error_28 (by decide) ?_
      obtain rfl := Option.some.inj hf
      exact pa_ei X hP hD hS dX10_error_29
set_option maxHeartbeats 4000000 in
set_option maxRecDepth 100000 in
theorem c_X10_error {l : Launch} {D : va_G} {cI cJ : ClassId} {g : pa_GT} {a_m a_mt a_ml a_mr a_mx a_mf a_mg a_mw a_mh : Nat} {x1 : Int32} {x2 : Int32} {v_m_thrown : Int32} {v_m_trace : Int64} {v_m_typed : Int32} {v_m_next : Int32} {v_m_token : Int32} {v_m_place : Int32} {v_m_value : Int32} {v_m_fault : Int32} {v_m_finds : Int32} {v_m_weeks : Int32} {v_m_rows : Int32} {v_m_cardPrice : Int32} {v_m_lotPrice : Int32} {v_m_sure : Int32} {v_m_up : Int64} {v_m_down : Int64} {v_mt : Nat → Int64} {v_ml : Nat → Int32} {v_mr : Nat → Int32} {o : Int32 × Int32 × Int64 × Int64} (hf : f_X10_error x1 x2 v_m_sure v_m_up v_m_down v_mt v_ml v_mr = some o) : pa_Mi l yX10_error wsX10_error rm_X10_error D cI cJ g [.ref a_m, .int x1, .int x2] (wo_X10_error cI cJ a_m a_mt a_ml a_mr a_mx a_mf a_mg a_mw a_mh v_m_thrown v_m_trace v_m_typed v_m_next v_m_token v_m_place v_m_value v_m_fault v_m_finds v_m_weeks v_m_rows v_m_cardPrice v_m_lotPrice v_m_sure v_m_up v_m_down v_mt v_ml v_mr) (wo_X10_error cI cJ a_m a_mt a_ml a_mr a_mx a_mf a_mg a_mw a_mh o.2.1 v_m_trace v_m_typed v_m_next v_m_token v_m_place v_m_value v_m_fault v_m_finds v_m_weeks v_m_rows v_m_cardPrice v_m_lotPrice v_m_sure o.2.2.1 o.2.2.2 v_mt v_ml v_mr) o.1 := by
  intro sz
  refine pa_met (cc := cX10_error) (maxL := 3) (ret := (some .int)) (lv := [(0, .ref a_m), (1, .int x1), (2, .int x2)]) (by decide) rfl (Nat.le_of_ble_eq_true rfl) rfl ?_
  intro p e s m below meth c X hsz hP hD ls hl
  subst hsz
  exact w_X10_error_b0 X hf hP hD va_S.rf hl
abbrev wo_X10_worst (cI cJ : ClassId) (a_m a_mt a_ml a_mr a_mx a_mf a_mg a_mw a_mh : Nat) (v_m_thrown : Int32) (v_m_trace : Int64) (v_m_typed : Int32) (v_m_next : Int32) (v_m_token : Int32) (v_m_place : Int32) (v_m_value : Int32) (v_m_fault : Int32) (v_m_finds : Int32) (v_m_weeks : Int32) (v_m_rows : Int32) (v_m_cardPrice : Int32) (v_m_lotPrice : Int32) (v_m_sure : Int32) (v_m_up : Int64) (v_m_down : Int64) (v_mt : Nat → Int64) (v_ml : Nat → Int32) (v_mr : Nat → Int32) : va_W := [(a_m, .inr (9, [.int v_m_thrown, .long v_m_trace, .ref a_mt, .ref a_ml, .ref a_mr, .ref a_mx, .int v_m_typed, .int v_m_next, .int v_m_token, .int v_m_place, .int v_m_value, .int v_m_fault, .int v_m_finds, .ref a_mf, .ref a_mg, .int v_m_weeks, .ref a_mw, .int v_m_rows, .ref a_mh, .int v_m_cardPrice, .int v_m_lotPrice, .int v_m_sure, .long v_m_up, .long v_m_down])), (a_mt, .inl (cJ, 2601, .inr (.inl v_mt))), (a_ml, .inl (cI, 32, .inl v_ml)), (a_mr, .inl (cI, 8, .inl v_mr))]
abbrev rm_X10_worst : Room := { frames := 4, cells := 0, slots := 0, locals := 101 }
def f_X10_worst_b30 (rec4 : Int32 → Int32 → Int64 → Int64 → Option (Int32 × Int64 × Int64)) (x1 : Int32) (x2 : Int32) (x3 : Int32) (s0 : Int32) (v_m_sure : Int32) (v_m_up : Int64) (v_m_down : Int64) (v_mt : Nat → Int64) (v_ml : Nat → Int32) (v_mr : Nat → Int32) : Option (Int32 × Int64 × Int64) :=
  if s0 ≤ x2 then
    rec4 x2 (x3 + (1 : Int32)) v_m_up v_m_down
  else
    rec4 s0 (x3 + (1 : Int32)) v_m_up v_m_down
def f_X10_worst_L4_body (x1 : Int32) (v_m_sure : Int32) (v_mt : Nat → Int64) (v_ml : Nat → Int32) (v_mr : Nat → Int32) (rec4 : Int32 → Int32 → Int64 → Int64 → Option (Int32 × Int64 × Int64)) (x2 : Int32) (x3 : Int32) (v_m_up : Int64) (v_m_down : Int64) : Option (Int32 × Int64 × Int64) :=
  if (4 : Int32) ≤ x3 then
    some (x2, v_m_up, v_m_down)
  else
    (f_X10_persons x3 (255 : Int32) v_ml).bind fun u_3 =>
    if u_3 ≤ 0 then
      f_X10_worst_b30 rec4 x1 x2 x3 (0 : Int32) v_m_sure v_m_up v_m_down v_mt v_ml v_mr
    else
      (f_X10_errorOf x3 x1 v_m_sure v_m_up v_m_down v_mt v_ml v_mr).bind fun u_6 =>
      f_X10_worst_b30 rec4 x1 x2 x3 u_6.1 v_m_sure u_6.2.1 u_6.2.2 v_mt v_ml v_mr
def f_X10_worst_L4 (x1 : Int32) (v_m_sure : Int32) (v_mt : Nat → Int64) (v_ml : Nat → Int32) (v_mr : Nat → Int32) : Nat → Int32 → Int32 → Int64 → Int64 → Option (Int32 × Int64 × Int64)
  | 0 => fun _ _ _ _ => none
  | n + 1 => f_X10_worst_L4_body x1 v_m_sure v_mt v_ml v_mr (f_X10_worst_L4 x1 v_m_sure v_mt v_ml v_mr n)
def f_X10_worst (x1 : Int32) (v_m_sure : Int32) (v_m_up : Int64) (v_m_down : Int64) (v_mt : Nat → Int64) (v_ml : Nat → Int32) (v_mr : Nat → Int32) : Option (Int32 × Int64 × Int64) :=
  f_X10_worst_L4 x1 v_m_sure v_mt v_ml v_mr pa_fu (0 : Int32) (0 : Int32) v_m_up v_m_down
set_option maxHeartbeats 4000000 in
set_option maxRecDepth 100000 in
theorem w_X10_worst_b30 {l : Launch} {D : va_G} {cI cJ : ClassId} {g : pa_GT} {a_m a_mt a_ml a_mr a_mx a_mf a_mg a_mw a_mh : Nat} {A : Nat → Prop} {p : Program} {e : Env} {s : State} {m : MethodId} {args : Array Value} {below : List Frame} {meth : Method} {c : Code} {x1 : Int32} {x2 : Int32} {x3 : Int32} {s0 : Int32} {v_m_sure : Int32} {v_m_up : Int64} {v_m_down : Int64} {v_mt : Nat → Int64} {v_ml : Nat → Int32} {v_mr : Nat → Int32} {v_m_thrown : Int32} {v_m_trace : Int64} {v_m_typed : Int32} {v_m_next : Int32} {v_m_token : Int32} {v_m_place : Int32} {v_m_value : Int32} {v_m_fault : Int32} {v_m_finds : Int32} {v_m_weeks : Int32} {v_m_rows : Int32} {v_m_cardPrice : Int32} {v_m_lotPrice : Int32} {o : Int32 × Int64 × Int64} (X : pa_X cX10_worst 5 (some .int) RX10 wsX10_worst D cI cJ g A p s m args meth c) {rec4 : Int32 → Int32 → Int64 → Int64 → Option (Int32 × Int64 × Int64)} (hrec4 : ∀ (x2 : Int32) (x3 : Int32) (v_m_up : Int64) (v_m_down : Int64), rec4 x2 x3 v_m_up v_m_down = some o → ∀ (H : Heap) (locs : List Loc) , va_P D vwCl (wo_X10_worst cI cJ a_m a_mt a_ml a_mr a_mx a_mf a_mg a_mw a_mh v_m_thrown v_m_trace v_m_typed v_m_next v_m_token v_m_place v_m_value v_m_fault v_m_finds v_m_weeks v_m_rows v_m_cardPrice v_m_lotPrice v_m_sure v_m_up v_m_down v_mt v_ml v_mr) H → va_D A (wo_X10_worst cI cJ a_m a_mt a_ml a_mr a_mx a_mf a_mg a_mw a_mh v_m_thrown v_m_trace v_m_typed v_m_next v_m_token v_m_place v_m_value v_m_fault v_m_finds v_m_weeks v_m_rows v_m_cardPrice v_m_lotPrice v_m_sure v_m_up v_m_down v_mt v_ml v_mr) → va_S A s.heap H locs → ∀ (ls : Array Slot), lv_has ls 5 [(0, .ref a_m), (1, .int x1), (2, .int x2), (3, .int x3)] → W p l e (headSpec wsX10_worst rm_X10_worst).room s m args below meth c H locs 0 0 (MQ below (va_Qi (fun r (_ : Unit) => r = o.1) (pa_QB D A (wo_X10_worst cI cJ a_m a_mt a_ml a_mr a_mx a_mf a_mg a_mw a_mh v_m_thrown v_m_trace v_m_typed v_m_next v_m_token v_m_place v_m_value v_m_fault v_m_finds v_m_weeks v_m_rows v_m_cardPrice v_m_lotPrice v_m_sure o.2.1 o.2.2 v_mt v_ml v_mr)) A) args s 0 0 A) (F0 m 4 ls [])) (hf : f_X10_worst_b30 rec4 x1 x2 x3 s0 v_m_sure v_m_up v_m_down v_mt v_ml v_mr = some o) {H : Heap} {locs : List Loc} (hP : va_P D vwCl (wo_X10_worst cI cJ a_m a_mt a_ml a_mr a_mx a_mf a_mg a_mw a_mh v_m_thrown v_m_trace v_m_typed v_m_next v_m_token v_m_place v_m_value v_m_fault v_m_finds v_m_weeks v_m_rows v_m_cardPrice v_m_lotPrice v_m_sure v_m_up v_m_down v_mt v_ml v_mr) H) (hD : va_D A (wo_X10_worst cI cJ a_m a_mt a_ml a_mr a_mx a_mf a_mg a_mw a_mh v_m_thrown v_m_trace v_m_typed v_m_next v_m_token v_m_place v_m_value v_m_fault v_m_finds v_m_weeks v_m_rows v_m_cardPrice v_m_lotPrice v_m_sure v_m_up v_m_down v_mt v_ml v_mr)) (hS : va_S A s.heap H locs) {ls : Array Slot} (hl : lv_has ls 5 [(0, .ref a_m), (1, .int x1), (2, .int x2), (3, .int x3)]) : W p l e (headSpec wsX10_worst rm_X10_worst).room s m args below meth c H locs 0 0 (MQ below (va_Qi (fun r (_ : Unit) => r = o.1) (pa_QB D A (wo_X10_worst cI cJ a_m a_mt a_ml a_mr a_mx a_mf a_mg a_mw a_mh v_m_thrown v_m_trace v_m_typed v_m_next v_m_token v_m_place v_m_value v_m_fault v_m_finds v_m_weeks v_m_rows v_m_cardPrice v_m_lotPrice v_m_sure o.2.1 o.2.2 v_mt v_ml v_mr)) A) args s 0 0 A) (F0 m 30 ls [.int s0]) := by
  obtain ⟨hx, hb, hr, hml, hown, hts, hK, hA, hG, hlk⟩ := id X
  delta f_X10_worst_b30 at hf
  refine lv_istore (lv' := [(4, .int s0), (0, .ref a_m), (1, .int x1), (2, .int x2), (3, .int x3)]) hx hb dX10_worst_30 hl (by decide) rfl (fun ls hl => ?_)
  refine lv_iload hx hb dX10_worst_32 (lv_at hl 0 rfl) ?_
  refine lv_iload_n hx hb dX10_worst_34 rfl (lv_at hl 3 rfl) ?_
  refine lv_icmp_le (tgt := 43) hx hb dX10_worst_35 (by decide) (fun c_1 => ?_) (fun c_1 => ?_)
  · have hf := (if_pos c_1).symm.trans hf
    refine lv_iload_n hx hb dX10_worst_43 rfl (lv_at hl 3 rfl) ?_
    refine lv_istore_n (lv' := [(2, .int x2), (4, .int s0), (0, .ref a_m), (1, .int x1), (3, .int x3)]) hx hb dX10_worst_44 rfl hl (by decide) rfl (fun ls hl => ?_)
    refine lv_iinc (v := (x3 + (1 : Int32))) (lv' := [(3, .int (x3 + (1 : Int32))), (2, .int x2), (4, .int s0), (0, .ref a_m), (1, .int x1)]) hx hb dX10_worst_45 hl (k := 4) rfl rfl (by decide) rfl (fun ls hl => ?_)
    refine lv_goto (tgt := 4) hx hb dX10_worst_48 (by decide) ?_
    exact hrec4 _ _ _ _ hf _ _  hP hD hS _ (lv_sub hl [3, 4, 1, 0] rfl)
  · have hf := (if_neg c_1).symm.trans hf
    refine lv_iload hx hb dX10_worst_38 (lv_at hl 0 rfl) ?_
    refine lv_goto (tgt := 44) hx hb dX10_worst_40 (by decide) ?_
    refine lv_istore_n (lv' := [(2, .int s0), (4, .int s0), (0, .ref a_m), (1, .int x1), (3, .int x3)]) hx hb dX10_worst_44 rfl hl (by decide) rfl (fun ls hl => ?_)
    refine lv_iinc (v := (x3 + (1 : Int32))) (lv' := [(3, .int (x3 + (1 : Int32))), (2, .int s0), (4, .int s0), (0, .ref a_m), (1, .int x1)]) hx hb dX10_worst_45 hl (k := 4) rfl rfl (by decide) rfl (fun ls hl => ?_)
    refine lv_goto (tgt := 4) hx hb dX10_worst_48 (by decide) ?_
    exact hrec4 _ _ _ _ hf _ _  hP hD hS _ (lv_sub hl [3, 4, 1, 0] rfl)
set_option maxHeartbeats 4000000 in
set_option maxRecDepth 100000 in
theorem w_X10_worst_L4 {l : Launch} {D : va_G} {cI cJ : ClassId} {g : pa_GT} {a_m a_mt a_ml a_mr a_mx a_mf a_mg a_mw a_mh : Nat} {A : Nat → Prop} {p : Program} {e : Env} {s : State} {m : MethodId} {args : Array Value} {below : List Frame} {meth : Method} {c : Code} {x1 : Int32} {v_m_sure : Int32} {v_mt : Nat → Int64} {v_ml : Nat → Int32} {v_mr : Nat → Int32} {v_m_thrown : Int32} {v_m_trace : Int64} {v_m_typed : Int32} {v_m_next : Int32} {v_m_token : Int32} {v_m_place : Int32} {v_m_value : Int32} {v_m_fault : Int32} {v_m_finds : Int32} {v_m_weeks : Int32} {v_m_rows : Int32} {v_m_cardPrice : Int32} {v_m_lotPrice : Int32} {o : Int32 × Int64 × Int64} (X : pa_X cX10_worst 5 (some .int) RX10 wsX10_worst D cI cJ g A p s m args meth c)  : ∀ (n : Nat) (x2 : Int32) (x3 : Int32) (v_m_up : Int64) (v_m_down : Int64), f_X10_worst_L4 x1 v_m_sure v_mt v_ml v_mr n x2 x3 v_m_up v_m_down = some o → ∀ (H : Heap) (locs : List Loc) , va_P D vwCl (wo_X10_worst cI cJ a_m a_mt a_ml a_mr a_mx a_mf a_mg a_mw a_mh v_m_thrown v_m_trace v_m_typed v_m_next v_m_token v_m_place v_m_value v_m_fault v_m_finds v_m_weeks v_m_rows v_m_cardPrice v_m_lotPrice v_m_sure v_m_up v_m_down v_mt v_ml v_mr) H → va_D A (wo_X10_worst cI cJ a_m a_mt a_ml a_mr a_mx a_mf a_mg a_mw a_mh v_m_thrown v_m_trace v_m_typed v_m_next v_m_token v_m_place v_m_value v_m_fault v_m_finds v_m_weeks v_m_rows v_m_cardPrice v_m_lotPrice v_m_sure v_m_up v_m_down v_mt v_ml v_mr) → va_S A s.heap H locs → ∀ (ls : Array Slot), lv_has ls 5 [(0, .ref a_m), (1, .int x1), (2, .int x2), (3, .int x3)] → W p l e (headSpec wsX10_worst rm_X10_worst).room s m args below meth c H locs 0 0 (MQ below (va_Qi (fun r (_ : Unit) => r = o.1) (pa_QB D A (wo_X10_worst cI cJ a_m a_mt a_ml a_mr a_mx a_mf a_mg a_mw a_mh v_m_thrown v_m_trace v_m_typed v_m_next v_m_token v_m_place v_m_value v_m_fault v_m_finds v_m_weeks v_m_rows v_m_cardPrice v_m_lotPrice v_m_sure o.2.1 o.2.2 v_mt v_ml v_mr)) A) args s 0 0 A) (F0 m 4 ls []) := by
  obtain ⟨hx, hb, hr, hml, hown, hts, hK, hA, hG, hlk⟩ := id X
  intro n
  induction n with
  | zero =>
    intro x2 x3 v_m_up v_m_down hf
    have hf : (none : Option (Int32 × Int64 × Int64)) = some o := hf
    cases hf
  | succ n hrec4 =>
    intro x2 x3 v_m_up v_m_down hf H locs  hP hD hS ls hl
    have hf : f_X10_worst_L4_body x1 v_m_sure v_mt v_ml v_mr (f_X10_worst_L4 x1 v_m_sure v_mt v_ml v_mr n) x2 x3 v_m_up v_m_down = some o := hf
    delta f_X10_worst_L4_body at hf
    generalize hgr : f_X10_worst_L4 x1 v_m_sure v_mt v_ml v_mr n = rec4 at hf hrec4
    refine lv_iload_n hx hb dX10_worst_4 rfl (lv_at hl 3 rfl) ?_
    refine lv_iconst (v := (4 : Int32)) hx hb dX10_worst_5 (by decide) ?_
    refine lv_icmp_ge (tgt := 51) hx hb dX10_worst_6 (by decide) (fun c_2 => ?_) (fun c_2 => ?_)
    · have hf := (if_pos c_2).symm.trans hf
      refine lv_iload_n hx hb dX10_worst_51 rfl (lv_at hl 2 rfl) ?_
      obtain rfl := Option.some.inj hf
      exact pa_ei X hP hD hS dX10_worst_52
    · have hf := (if_neg c_2).symm.trans hf
      refine lv_aload_n hx hb dX10_worst_9 rfl (lv_at hl 0 rfl) ?_
      refine lv_iload_n hx hb dX10_worst_10 rfl (lv_at hl 3 rfl) ?_
      refine lv_sipush (v := (255 : Int32)) hx hb dX10_worst_11 (by decide) ?_
      obtain ⟨u_3, hg_4, hf⟩ := pa_bd hf
      refine pa_ki (wc := (wo_X10_persons cI cJ a_m a_mt a_ml a_mr a_mx a_mf a_mg a_mw a_mh v_m_thrown v_m_trace v_m_typed v_m_next v_m_token v_m_place v_m_value v_m_fault v_m_finds v_m_weeks v_m_rows v_m_cardPrice v_m_lotPrice v_m_sure v_m_up v_m_down v_ml)) (wr := [(a_mt, .inl (cJ, 2601, .inr (.inl v_mt))), (a_mr, .inl (cI, 8, .inl v_mr))]) (w1 := (wo_X10_persons cI cJ a_m a_mt a_ml a_mr a_mx a_mf a_mg a_mw a_mh v_m_thrown v_m_trace v_m_typed v_m_next v_m_token v_m_place v_m_value v_m_fault v_m_finds v_m_weeks v_m_rows v_m_cardPrice v_m_lotPrice v_m_sure v_m_up v_m_down v_ml)) (w2 := (wo_X10_worst cI cJ a_m a_mt a_ml a_mr a_mx a_mf a_mg a_mw a_mh v_m_thrown v_m_trace v_m_typed v_m_next v_m_token v_m_place v_m_value v_m_fault v_m_finds v_m_weeks v_m_rows v_m_cardPrice v_m_lotPrice v_m_sure v_m_up v_m_down v_mt v_ml v_mr)) X hP hD hS [0, 2] [1, 3] [2, 0, 3, 1] rfl (pa_rV (As := [.int x3, .int (255 : Int32)]) (rest := []) (T := TX10) X hP hD hS [0, 2] rfl rfl (c_X10_persons hg_4 H.size) (cwV 2 hts gX10_worst_X10_persons rfl rfl rfl (by decide +kernel) ⟨Nat.le_of_ble_eq_true rfl, Nat.le_of_ble_eq_true rfl⟩) (q0 := 0) rfl rfl rfl hl.1 rfl (Nat.le_of_ble_eq_true rfl) dX10_worst_14 ⟨Nat.zero_le _, Nat.zero_le _⟩) rfl rfl (by decide) rfl rfl (fun H locs hP hD hS => ?_)
      refine lv_if_le (tgt := 29) hx hb dX10_worst_17 (by decide) (fun c_5 => ?_) (fun c_5 => ?_)
      · have hf := (if_pos c_5).symm.trans hf
        refine lv_iconst (v := (0 : Int32)) hx hb dX10_worst_29 (by decide) ?_
        exact w_X10_worst_b30 X hrec4 hf hP hD hS (lv_sub hl [0, 1, 2, 3] rfl)
      · have hf := (if_neg c_5).symm.trans hf
        refine lv_aload_n hx hb dX10_worst_20 rfl (lv_at hl 0 rfl) ?_
        refine lv_iload_n hx hb dX10_worst_21 rfl (lv_at hl 3 rfl) ?_
        refine lv_iload_n hx hb dX10_worst_22 rfl (lv_at hl 1 rfl) ?_
        obtain ⟨u_6, hg_7, hf⟩ := pa_bd hf
        refine pa_ki (wc := (wo_X10_errorOf cI cJ a_m a_mt a_ml a_mr a_mx a_mf a_mg a_mw a_mh v_m_thrown v_m_trace v_m_typed v_m_next v_m_token v_m_place v_m_value v_m_fault v_m_finds v_m_weeks v_m_rows v_m_cardPrice v_m_lotPrice v_m_sure v_m_up v_m_down v_mt v_ml v_mr)) (wr := ([] : va_W)) (w1 := (wo_X10_errorOf cI cJ a_m a_mt a_ml a_mr a_mx a_mf a_mg a_mw a_mh v_m_thrown v_m_trace v_m_typed v_m_next v_m_token v_m_place v_m_value v_m_fault v_m_finds v_m_weeks v_m_rows v_m_cardPrice v_m_lotPrice v_m_sure u_6.2.1 u_6.2.2 v_mt v_ml v_mr)) (w2 := (wo_X10_worst cI cJ a_m a_mt a_ml a_mr a_mx a_mf a_mg a_mw a_mh v_m_thrown v_m_trace v_m_typed v_m_next v_m_token v_m_place v_m_value v_m_fault v_m_finds v_m_weeks v_m_rows v_m_cardPrice v_m_lotPrice v_m_sure u_6.2.1 u_6.2.2 v_mt v_ml v_mr)) X hP hD hS [0, 1, 2, 3] [] [0, 1, 2, 3] rfl (pa_rV (As := [.int x3, .int x1]) (rest := []) (T := TX10) X hP hD hS [0, 1, 2, 3] rfl rfl (c_X10_errorOf hg_7 H.size) (cwV 2 hts gX10_worst_X10_errorOf rfl rfl rfl (by decide +kernel) ⟨Nat.le_of_ble_eq_true rfl, Nat.le_of_ble_eq_true rfl⟩) (q0 := 0) rfl rfl rfl hl.1 rfl (Nat.le_of_ble_eq_true rfl) dX10_worst_23 ⟨Nat.zero_le _, Nat.zero_le _⟩) rfl rfl (by decide) rfl rfl (fun H locs hP hD hS => ?_)
        refine lv_goto (tgt := 30) hx hb dX10_worst_26 (by decide) ?_
        exact w_X10_worst_b30 X hrec4 hf hP hD hS (lv_sub hl [0, 1, 2, 3] rfl)
set_option maxHeartbeats 4000000 in
set_option maxRecDepth 100000 in
theorem w_X10_worst_b0 {l : Launch} {D : va_G} {cI cJ : ClassId} {g : pa_GT} {a_m a_mt a_ml a_mr a_mx a_mf a_mg a_mw a_mh : Nat} {A : Nat → Prop} {p : Program} {e : Env} {s : State} {m : MethodId} {args : Array Value} {below : List Frame} {meth : Method} {c : Code} {x1 : Int32} {v_m_sure : Int32} {v_m_up : Int64} {v_m_down : Int64} {v_mt : Nat → Int64} {v_ml : Nat → Int32} {v_mr : Nat → Int32} {v_m_thrown : Int32} {v_m_trace : Int64} {v_m_typed : Int32} {v_m_next : Int32} {v_m_token : Int32} {v_m_place : Int32} {v_m_value : Int32} {v_m_fault : Int32} {v_m_finds : Int32} {v_m_weeks : Int32} {v_m_rows : Int32} {v_m_cardPrice : Int32} {v_m_lotPrice : Int32} {o : Int32 × Int64 × Int64} (X : pa_X cX10_worst 5 (some .int) RX10 wsX10_worst D cI cJ g A p s m args meth c)  (hf : f_X10_worst x1 v_m_sure v_m_up v_m_down v_mt v_ml v_mr = some o) {H : Heap} {locs : List Loc} (hP : va_P D vwCl (wo_X10_worst cI cJ a_m a_mt a_ml a_mr a_mx a_mf a_mg a_mw a_mh v_m_thrown v_m_trace v_m_typed v_m_next v_m_token v_m_place v_m_value v_m_fault v_m_finds v_m_weeks v_m_rows v_m_cardPrice v_m_lotPrice v_m_sure v_m_up v_m_down v_mt v_ml v_mr) H) (hD : va_D A (wo_X10_worst cI cJ a_m a_mt a_ml a_mr a_mx a_mf a_mg a_mw a_mh v_m_thrown v_m_trace v_m_typed v_m_next v_m_token v_m_place v_m_value v_m_fault v_m_finds v_m_weeks v_m_rows v_m_cardPrice v_m_lotPrice v_m_sure v_m_up v_m_down v_mt v_ml v_mr)) (hS : va_S A s.heap H locs) {ls : Array Slot} (hl : lv_has ls 5 [(0, .ref a_m), (1, .int x1)]) : W p l e (headSpec wsX10_worst rm_X10_worst).room s m args below meth c H locs 0 0 (MQ below (va_Qi (fun r (_ : Unit) => r = o.1) (pa_QB D A (wo_X10_worst cI cJ a_m a_mt a_ml a_mr a_mx a_mf a_mg a_mw a_mh v_m_thrown v_m_trace v_m_typed v_m_next v_m_token v_m_place v_m_value v_m_fault v_m_finds v_m_weeks v_m_rows v_m_cardPrice v_m_lotPrice v_m_sure o.2.1 o.2.2 v_mt v_ml v_mr)) A) args s 0 0 A) (F0 m 0 ls []) := by
  obtain ⟨hx, hb, hr, hml, hown, hts, hK, hA, hG, hlk⟩ := id X
  delta f_X10_worst at hf
  refine lv_iconst (v := (0 : Int32)) hx hb dX10_worst_0 (by decide) ?_
  refine lv_istore_n (lv' := [(2, .int (0 : Int32)), (0, .ref a_m), (1, .int x1)]) hx hb dX10_worst_1 rfl hl (by decide) rfl (fun ls hl => ?_)
  refine lv_iconst (v := (0 : Int32)) hx hb dX10_worst_2 (by decide) ?_
  refine lv_istore_n (lv' := [(3, .int (0 : Int32)), (2, .int (0 : Int32)), (0, .ref a_m), (1, .int x1)]) hx hb dX10_worst_3 rfl hl (by decide) rfl (fun ls hl => ?_)
  exact w_X10_worst_L4 X  _ _ _ _ _ hf _ _  hP hD hS _ (lv_sub hl [2, 3, 1, 0] rfl)
set_option maxHeartbeats 4000000 in
set_option maxRecDepth 100000 in
theorem c_X10_worst {l : Launch} {D : va_G} {cI cJ : ClassId} {g : pa_GT} {a_m a_mt a_ml a_mr a_mx a_mf a_mg a_mw a_mh : Nat} {x1 : Int32} {v_m_thrown : Int32} {v_m_trace : Int64} {v_m_typed : Int32} {v_m_next : Int32} {v_m_token : Int32} {v_m_place : Int32} {v_m_value : Int32} {v_m_fault : Int32} {v_m_finds : Int32} {v_m_weeks : Int32} {v_m_rows : Int32} {v_m_cardPrice : Int32} {v_m_lotPrice : Int32} {v_m_sure : Int32} {v_m_up : Int64} {v_m_down : Int64} {v_mt : Nat → Int64} {v_ml : Nat → Int32} {v_mr : Nat → Int32} {o : Int32 × Int64 × Int64} (hf : f_X10_worst x1 v_m_sure v_m_up v_m_down v_mt v_ml v_mr = some o) : pa_Mi l yX10_worst wsX10_worst rm_X10_worst D cI cJ g [.ref a_m, .int x1] (wo_X10_worst cI cJ a_m a_mt a_ml a_mr a_mx a_mf a_mg a_mw a_mh v_m_thrown v_m_trace v_m_typed v_m_next v_m_token v_m_place v_m_value v_m_fault v_m_finds v_m_weeks v_m_rows v_m_cardPrice v_m_lotPrice v_m_sure v_m_up v_m_down v_mt v_ml v_mr) (wo_X10_worst cI cJ a_m a_mt a_ml a_mr a_mx a_mf a_mg a_mw a_mh v_m_thrown v_m_trace v_m_typed v_m_next v_m_token v_m_place v_m_value v_m_fault v_m_finds v_m_weeks v_m_rows v_m_cardPrice v_m_lotPrice v_m_sure o.2.1 o.2.2 v_mt v_ml v_mr) o.1 := by
  intro sz
  refine pa_met (cc := cX10_worst) (maxL := 5) (ret := (some .int)) (lv := [(0, .ref a_m), (1, .int x1)]) (by decide) rfl (Nat.le_of_ble_eq_true rfl) rfl ?_
  intro p e s m below meth c X hsz hP hD ls hl
  subst hsz
  exact w_X10_worst_b0 X hf hP hD va_S.rf hl
abbrev wo_X10_best (cI cJ : ClassId) (a_m a_mt a_ml a_mr a_mx a_mf a_mg a_mw a_mh : Nat) (v_m_thrown : Int32) (v_m_trace : Int64) (v_m_typed : Int32) (v_m_next : Int32) (v_m_token : Int32) (v_m_place : Int32) (v_m_value : Int32) (v_m_fault : Int32) (v_m_finds : Int32) (v_m_weeks : Int32) (v_m_rows : Int32) (v_m_cardPrice : Int32) (v_m_lotPrice : Int32) (v_m_sure : Int32) (v_m_up : Int64) (v_m_down : Int64) (v_mt : Nat → Int64) (v_ml : Nat → Int32) (v_mr : Nat → Int32) : va_W := [(a_m, .inr (9, [.int v_m_thrown, .long v_m_trace, .ref a_mt, .ref a_ml, .ref a_mr, .ref a_mx, .int v_m_typed, .int v_m_next, .int v_m_token, .int v_m_place, .int v_m_value, .int v_m_fault, .int v_m_finds, .ref a_mf, .ref a_mg, .int v_m_weeks, .ref a_mw, .int v_m_rows, .ref a_mh, .int v_m_cardPrice, .int v_m_lotPrice, .int v_m_sure, .long v_m_up, .long v_m_down])), (a_mt, .inl (cJ, 2601, .inr (.inl v_mt))), (a_ml, .inl (cI, 32, .inl v_ml)), (a_mr, .inl (cI, 8, .inl v_mr))]
abbrev rm_X10_best : Room := { frames := 5, cells := 0, slots := 0, locals := 125 }
theorem il_X10_best_X10 : ∀ w ∈ wsX100, w ∈ wsX10_best := by decide +kernel
theorem fk_X10_best_0 : Cond.fieldLink RX10 39 "PostedAsksModel" "lotPrice" "I" ∈ wsX10_best := by decide +kernel
theorem fk_X10_best_1 : Cond.fieldLink RX10 35 "PostedAsksModel" "cardPrice" "I" ∈ wsX10_best := by decide +kernel
theorem fk_X10_best_2 : Cond.fieldLink RX10 45 "PostedAsksModel" "thrown" "I" ∈ wsX10_best := by decide +kernel
def f_X10_best_b151 (rec123 : Int32 → Int32 → Int32 → Int64 → Int64 → Option (Int32 × Int32 × Int64 × Int64)) (x1 : Int32) (x2 : Int32) (x3 : Int32) (x4 : Int32) (x5 : Int32) (x6 : Int32) (x7 : Int32) (s0 : Int32) (v_m_thrown : Int32) (v_m_cardPrice : Int32) (v_m_lotPrice : Int32) (v_m_sure : Int32) (v_m_up : Int64) (v_m_down : Int64) (v_mt : Nat → Int64) (v_ml : Nat → Int32) (v_mr : Nat → Int32) : Option (Int32 × Int32 × Int64 × Int64) :=
  if x1 < s0 then
    rec123 x5 x6 (x7 + (1 : Int32)) v_m_up v_m_down
  else
    (f_X10_worst x7 v_m_sure v_m_up v_m_down v_mt v_ml v_mr).bind fun u_2 =>
    if x5 = (-9 : Int32) then
      rec123 x7 u_2.1 (x7 + (1 : Int32)) u_2.2.1 u_2.2.2
    else
      if x6 ≤ u_2.1 then
        rec123 x5 x6 (x7 + (1 : Int32)) u_2.2.1 u_2.2.2
      else
        rec123 x7 u_2.1 (x7 + (1 : Int32)) u_2.2.1 u_2.2.2
def f_X10_best_L123_body (x1 : Int32) (x2 : Int32) (x3 : Int32) (x4 : Int32) (v_m_thrown : Int32) (v_m_cardPrice : Int32) (v_m_lotPrice : Int32) (v_m_sure : Int32) (v_mt : Nat → Int64) (v_ml : Nat → Int32) (v_mr : Nat → Int32) (rec123 : Int32 → Int32 → Int32 → Int64 → Int64 → Option (Int32 × Int32 × Int64 × Int64)) (x5 : Int32) (x6 : Int32) (x7 : Int32) (v_m_up : Int64) (v_m_down : Int64) : Option (Int32 × Int32 × Int64 × Int64) :=
  if x3 < x7 then
    if x5 = (-9 : Int32) then
      some (x5, v_m_thrown, v_m_up, v_m_down)
    else
      if x2 = 0 then
        some (x5, v_m_thrown, v_m_up, v_m_down)
      else
        some (x6, v_m_thrown, v_m_up, v_m_down)
  else
    if x7 = 0 then
      f_X10_best_b151 rec123 x1 x2 x3 x4 x5 x6 x7 (x4 * v_m_cardPrice) v_m_thrown v_m_cardPrice v_m_lotPrice v_m_sure v_m_up v_m_down v_mt v_ml v_mr
    else
      f_X10_best_b151 rec123 x1 x2 x3 x4 x5 x6 x7 (x7 * v_m_lotPrice) v_m_thrown v_m_cardPrice v_m_lotPrice v_m_sure v_m_up v_m_down v_mt v_ml v_mr
def f_X10_best_L123 (x1 : Int32) (x2 : Int32) (x3 : Int32) (x4 : Int32) (v_m_thrown : Int32) (v_m_cardPrice : Int32) (v_m_lotPrice : Int32) (v_m_sure : Int32) (v_mt : Nat → Int64) (v_ml : Nat → Int32) (v_mr : Nat → Int32) : Nat → Int32 → Int32 → Int32 → Int64 → Int64 → Option (Int32 × Int32 × Int64 × Int64)
  | 0 => fun _ _ _ _ _ => none
  | n + 1 => f_X10_best_L123_body x1 x2 x3 x4 v_m_thrown v_m_cardPrice v_m_lotPrice v_m_sure v_mt v_ml v_mr (f_X10_best_L123 x1 x2 x3 x4 v_m_thrown v_m_cardPrice v_m_lotPrice v_m_sure v_mt v_ml v_mr n)
def f_X10_best_b81 (rec36 : Int32 → Int32 → Int32 → Option (Int32 × Int32 × Int64 × Int64)) (x1 : Int32) (x2 : Int32) (x4 : Int32) (x5 : Int32) (x7 : Int32) (s0 : Int32) (v_m_thrown : Int32) (v_m_cardPrice : Int32) (v_m_lotPrice : Int32) (v_m_sure : Int32) (v_m_up : Int64) (v_m_down : Int64) (v_mt : Nat → Int64) (v_ml : Nat → Int32) (v_mr : Nat → Int32) : Option (Int32 × Int32 × Int64 × Int64) :=
  if x7 ≤ x4 then
    rec36 s0 x4 (x5 + (1 : Int32))
  else
    rec36 s0 x7 (x5 + (1 : Int32))
def f_X10_best_b80 (rec36 : Int32 → Int32 → Int32 → Option (Int32 × Int32 × Int64 × Int64)) (x1 : Int32) (x2 : Int32) (x3 : Int32) (x4 : Int32) (x5 : Int32) (x7 : Int32) (v_m_thrown : Int32) (v_m_cardPrice : Int32) (v_m_lotPrice : Int32) (v_m_sure : Int32) (v_m_up : Int64) (v_m_down : Int64) (v_mt : Nat → Int64) (v_ml : Nat → Int32) (v_mr : Nat → Int32) : Option (Int32 × Int32 × Int64 × Int64) :=
  f_X10_best_b81 rec36 x1 x2 x4 x5 x7 x3 v_m_thrown v_m_cardPrice v_m_lotPrice v_m_sure v_m_up v_m_down v_mt v_ml v_mr
def f_X10_best_L36_body (x1 : Int32) (x2 : Int32) (v_m_thrown : Int32) (v_m_cardPrice : Int32) (v_m_lotPrice : Int32) (v_m_sure : Int32) (v_m_up : Int64) (v_m_down : Int64) (v_mt : Nat → Int64) (v_ml : Nat → Int32) (v_mr : Nat → Int32) (rec36 : Int32 → Int32 → Int32 → Option (Int32 × Int32 × Int64 × Int64)) (x3 : Int32) (x4 : Int32) (x5 : Int32) : Option (Int32 × Int32 × Int64 × Int64) :=
  if (4 : Int32) ≤ x5 then
    if x3 = (51 : Int32) then
      some ((-2 : Int32), v_m_thrown, v_m_up, v_m_down)
    else
      f_X10_best_L123 x1 x2 x3 x4 v_m_thrown v_m_cardPrice v_m_lotPrice v_m_sure v_mt v_ml v_mr pa_fu (-9 : Int32) (0 : Int32) (0 : Int32) v_m_up v_m_down
  else
    (f_X10_persons x5 (255 : Int32) v_ml).bind fun u_13 =>
    (f_X10_persons x5 (240 : Int32) v_ml).bind fun u_15 =>
    if u_13 ≤ 0 then
      f_X10_best_b80 rec36 x1 x2 x3 x4 x5 u_15 v_m_thrown v_m_cardPrice v_m_lotPrice v_m_sure v_m_up v_m_down v_mt v_ml v_mr
    else
      if x3 ≤ u_13 then
        f_X10_best_b80 rec36 x1 x2 x3 x4 x5 u_15 v_m_thrown v_m_cardPrice v_m_lotPrice v_m_sure v_m_up v_m_down v_mt v_ml v_mr
      else
        f_X10_best_b81 rec36 x1 x2 x4 x5 u_15 u_13 v_m_thrown v_m_cardPrice v_m_lotPrice v_m_sure v_m_up v_m_down v_mt v_ml v_mr
def f_X10_best_L36 (x1 : Int32) (x2 : Int32) (v_m_thrown : Int32) (v_m_cardPrice : Int32) (v_m_lotPrice : Int32) (v_m_sure : Int32) (v_m_up : Int64) (v_m_down : Int64) (v_mt : Nat → Int64) (v_ml : Nat → Int32) (v_mr : Nat → Int32) : Nat → Int32 → Int32 → Int32 → Option (Int32 × Int32 × Int64 × Int64)
  | 0 => fun _ _ _ => none
  | n + 1 => f_X10_best_L36_body x1 x2 v_m_thrown v_m_cardPrice v_m_lotPrice v_m_sure v_m_up v_m_down v_mt v_ml v_mr (f_X10_best_L36 x1 x2 v_m_thrown v_m_cardPrice v_m_lotPrice v_m_sure v_m_up v_m_down v_mt v_ml v_mr n)
def f_X10_best (x1 : Int32) (x2 : Int32) (v_m_cardPrice : Int32) (v_m_lotPrice : Int32) (v_m_sure : Int32) (v_m_up : Int64) (v_m_down : Int64) (v_mt : Nat → Int64) (v_ml : Nat → Int32) (v_mr : Nat → Int32) : Option (Int32 × Int32 × Int64 × Int64) :=
  (f_X10_in x1 (0 : Int32) (9999 : Int32)).bind fun u_19 =>
  if u_19 = 0 then
    some ((-1 : Int32), (0 : Int32), v_m_up, v_m_down)
  else
    (f_X10_in x2 (0 : Int32) (1 : Int32)).bind fun u_22 =>
    if u_22 = 0 then
      some ((-1 : Int32), (0 : Int32), v_m_up, v_m_down)
    else
      f_X10_best_L36 x1 x2 (0 : Int32) v_m_cardPrice v_m_lotPrice v_m_sure v_m_up v_m_down v_mt v_ml v_mr pa_fu (51 : Int32) (0 : Int32) (0 : Int32)
set_option maxHeartbeats 4000000 in
set_option maxRecDepth 100000 in
theorem w_X10_best_b151 {l : Launch} {D : va_G} {cI cJ : ClassId} {g : pa_GT} {a_m a_mt a_ml a_mr a_mx a_mf a_mg a_mw a_mh : Nat} {A : Nat → Prop} {p : Program} {e : Env} {s : State} {m : MethodId} {args : Array Value} {below : List Frame} {meth : Method} {c : Code} {x1 : Int32} {x2 : Int32} {x3 : Int32} {x4 : Int32} {x5 : Int32} {x6 : Int32} {x7 : Int32} {s0 : Int32} {v_m_thrown : Int32} {v_m_cardPrice : Int32} {v_m_lotPrice : Int32} {v_m_sure : Int32} {v_m_up : Int64} {v_m_down : Int64} {v_mt : Nat → Int64} {v_ml : Nat → Int32} {v_mr : Nat → Int32} {v_m_trace : Int64} {v_m_typed : Int32} {v_m_next : Int32} {v_m_token : Int32} {v_m_place : Int32} {v_m_value : Int32} {v_m_fault : Int32} {v_m_finds : Int32} {v_m_weeks : Int32} {v_m_rows : Int32} {o : Int32 × Int32 × Int64 × Int64} (X : pa_X cX10_best 10 (some .int) RX10 wsX10_best D cI cJ g A p s m args meth c) {rec123 : Int32 → Int32 → Int32 → Int64 → Int64 → Option (Int32 × Int32 × Int64 × Int64)} (hrec123 : ∀ (x5 : Int32) (x6 : Int32) (x7 : Int32) (v_m_up : Int64) (v_m_down : Int64), rec123 x5 x6 x7 v_m_up v_m_down = some o → ∀ (H : Heap) (locs : List Loc) , va_P D vwCl (wo_X10_best cI cJ a_m a_mt a_ml a_mr a_mx a_mf a_mg a_mw a_mh v_m_thrown v_m_trace v_m_typed v_m_next v_m_token v_m_place v_m_value v_m_fault v_m_finds v_m_weeks v_m_rows v_m_cardPrice v_m_lotPrice v_m_sure v_m_up v_m_down v_mt v_ml v_mr) H → va_D A (wo_X10_best cI cJ a_m a_mt a_ml a_mr a_mx a_mf a_mg a_mw a_mh v_m_thrown v_m_trace v_m_typed v_m_next v_m_token v_m_place v_m_value v_m_fault v_m_finds v_m_weeks v_m_rows v_m_cardPrice v_m_lotPrice v_m_sure v_m_up v_m_down v_mt v_ml v_mr) → va_S A s.heap H locs → ∀ (ls : Array Slot), lv_has ls 10 [(0, .ref a_m), (1, .int x1), (2, .int x2), (3, .int x3), (4, .int x4), (5, .int x5), (6, .int x6), (7, .int x7)] → W p l e (headSpec wsX10_best rm_X10_best).room s m args below meth c H locs 0 0 (MQ below (va_Qi (fun r (_ : Unit) => r = o.1) (pa_QB D A (wo_X10_best cI cJ a_m a_mt a_ml a_mr a_mx a_mf a_mg a_mw a_mh o.2.1 v_m_trace v_m_typed v_m_next v_m_token v_m_place v_m_value v_m_fault v_m_finds v_m_weeks v_m_rows v_m_cardPrice v_m_lotPrice v_m_sure o.2.2.1 o.2.2.2 v_mt v_ml v_mr)) A) args s 0 0 A) (F0 m 123 ls [])) (hf : f_X10_best_b151 rec123 x1 x2 x3 x4 x5 x6 x7 s0 v_m_thrown v_m_cardPrice v_m_lotPrice v_m_sure v_m_up v_m_down v_mt v_ml v_mr = some o) {H : Heap} {locs : List Loc} (hP : va_P D vwCl (wo_X10_best cI cJ a_m a_mt a_ml a_mr a_mx a_mf a_mg a_mw a_mh v_m_thrown v_m_trace v_m_typed v_m_next v_m_token v_m_place v_m_value v_m_fault v_m_finds v_m_weeks v_m_rows v_m_cardPrice v_m_lotPrice v_m_sure v_m_up v_m_down v_mt v_ml v_mr) H) (hD : va_D A (wo_X10_best cI cJ a_m a_mt a_ml a_mr a_mx a_mf a_mg a_mw a_mh v_m_thrown v_m_trace v_m_typed v_m_next v_m_token v_m_place v_m_value v_m_fault v_m_finds v_m_weeks v_m_rows v_m_cardPrice v_m_lotPrice v_m_sure v_m_up v_m_down v_mt v_ml v_mr)) (hS : va_S A s.heap H locs) {ls : Array Slot} (hl : lv_has ls 10 [(0, .ref a_m), (1, .int x1), (2, .int x2), (3, .int x3), (4, .int x4), (5, .int x5), (6, .int x6), (7, .int x7)]) : W p l e (headSpec wsX10_best rm_X10_best).room s m args below meth c H locs 0 0 (MQ below (va_Qi (fun r (_ : Unit) => r = o.1) (pa_QB D A (wo_X10_best cI cJ a_m a_mt a_ml a_mr a_mx a_mf a_mg a_mw a_mh o.2.1 v_m_trace v_m_typed v_m_next v_m_token v_m_place v_m_value v_m_fault v_m_finds v_m_weeks v_m_rows v_m_cardPrice v_m_lotPrice v_m_sure o.2.2.1 o.2.2.2 v_mt v_ml v_mr)) A) args s 0 0 A) (F0 m 151 ls [.int s0]) := by
  obtain ⟨hx, hb, hr, hml, hown, hts, hK, hA, hG, hlk⟩ := id X
  delta f_X10_best_b151 at hf
  refine lv_istore (lv' := [(8, .int s0), (0, .ref a_m), (1, .int x1), (2, .int x2), (3, .int x3), (4, .int x4), (5, .int x5), (6, .int x6), (7, .int x7)]) hx hb dX10_best_151 hl (by decide) rfl (fun ls hl => ?_)
  refine lv_iload hx hb dX10_best_153 (lv_at hl 0 rfl) ?_
  refine lv_iload_n hx hb dX10_best_155 rfl (lv_at hl 2 rfl) ?_
  refine lv_icmp_gt (tgt := 189) hx hb dX10_best_156 (by decide) (fun c_1 => ?_) (fun c_1 => ?_)
  · have hf := (if_pos c_1).symm.trans hf
    refine lv_iinc (v := (x7 + (1 : Int32))) (lv' := [(7, .int (x7 + (1 : Int32))), (8, .int s0), (0, .ref a_m), (1, .int x1), (2, .int x2), (3, .int x3), (4, .int x4), (5, .int x5), (6, .int x6)]) hx hb dX10_best_189 hl (k := 8) rfl rfl (by decide) rfl (fun ls hl => ?_)
    refine lv_goto (tgt := 123) hx hb dX10_best_192 (by decide) ?_
    exact hrec123 _ _ _ _ _ hf _ _  hP hD hS _ (lv_sub hl [2, 3, 4, 5, 6, 7, 8, 0] rfl)
  · have hf := (if_neg c_1).symm.trans hf
    refine lv_aload_n hx hb dX10_best_159 rfl (lv_at hl 1 rfl) ?_
    refine lv_iload hx hb dX10_best_160 (lv_at hl 8 rfl) ?_
    obtain ⟨u_2, hg_3, hf⟩ := pa_bd hf
    refine pa_ki (wc := (wo_X10_worst cI cJ a_m a_mt a_ml a_mr a_mx a_mf a_mg a_mw a_mh v_m_thrown v_m_trace v_m_typed v_m_next v_m_token v_m_place v_m_value v_m_fault v_m_finds v_m_weeks v_m_rows v_m_cardPrice v_m_lotPrice v_m_sure v_m_up v_m_down v_mt v_ml v_mr)) (wr := ([] : va_W)) (w1 := (wo_X10_worst cI cJ a_m a_mt a_ml a_mr a_mx a_mf a_mg a_mw a_mh v_m_thrown v_m_trace v_m_typed v_m_next v_m_token v_m_place v_m_value v_m_fault v_m_finds v_m_weeks v_m_rows v_m_cardPrice v_m_lotPrice v_m_sure u_2.2.1 u_2.2.2 v_mt v_ml v_mr)) (w2 := (wo_X10_best cI cJ a_m a_mt a_ml a_mr a_mx a_mf a_mg a_mw a_mh v_m_thrown v_m_trace v_m_typed v_m_next v_m_token v_m_place v_m_value v_m_fault v_m_finds v_m_weeks v_m_rows v_m_cardPrice v_m_lotPrice v_m_sure u_2.2.1 u_2.2.2 v_mt v_ml v_mr)) X hP hD hS [0, 1, 2, 3] [] [0, 1, 2, 3] rfl (pa_rV (As := [.int x7]) (rest := []) (T := TX10) X hP hD hS [0, 1, 2, 3] rfl rfl (c_X10_worst hg_3 H.size) (cwV 1 hts gX10_best_X10_worst rfl rfl rfl (by decide +kernel) ⟨Nat.le_of_ble_eq_true rfl, Nat.le_of_ble_eq_true rfl⟩) (q0 := 0) rfl rfl rfl hl.1 rfl (Nat.le_of_ble_eq_true rfl) dX10_best_162 ⟨Nat.zero_le _, Nat.zero_le _⟩) rfl rfl (by decide) rfl rfl (fun H locs hP hD hS => ?_)
    refine lv_istore (lv' := [(9, .int u_2.1), (8, .int s0), (0, .ref a_m), (1, .int x1), (2, .int x2), (3, .int x3), (4, .int x4), (5, .int x5), (6, .int x6), (7, .int x7)]) hx hb dX10_best_165 hl (by decide) rfl (fun ls hl => ?_)
    refine lv_iload hx hb dX10_best_167 (lv_at hl 7 rfl) ?_
    refine lv_bipush (v := (-9 : Int32)) hx hb dX10_best_169 (by decide) ?_
    refine lv_icmp_eq (tgt := 181) hx hb dX10_best_171 (by decide) (fun c_4 => ?_) (fun c_4 => ?_)
    · have hf := (if_pos c_4).symm.trans hf
      refine lv_iload hx hb dX10_best_181 (lv_at hl 9 rfl) ?_
      refine lv_istore (lv' := [(5, .int x7), (9, .int u_2.1), (8, .int s0), (0, .ref a_m), (1, .int x1), (2, .int x2), (3, .int x3), (4, .int x4), (6, .int x6), (7, .int x7)]) hx hb dX10_best_183 hl (by decide) rfl (fun ls hl => ?_)
      refine lv_iload hx hb dX10_best_185 (lv_at hl 1 rfl) ?_
      refine lv_istore (lv' := [(6, .int u_2.1), (5, .int x7), (9, .int u_2.1), (8, .int s0), (0, .ref a_m), (1, .int x1), (2, .int x2), (3, .int x3), (4, .int x4), (7, .int x7)]) hx hb dX10_best_187 hl (by decide) rfl (fun ls hl => ?_)
      refine lv_iinc (v := (x7 + (1 : Int32))) (lv' := [(7, .int (x7 + (1 : Int32))), (6, .int u_2.1), (5, .int x7), (9, .int u_2.1), (8, .int s0), (0, .ref a_m), (1, .int x1), (2, .int x2), (3, .int x3), (4, .int x4)]) hx hb dX10_best_189 hl (k := 9) rfl rfl (by decide) rfl (fun ls hl => ?_)
      refine lv_goto (tgt := 123) hx hb dX10_best_192 (by decide) ?_
      exact hrec123 _ _ _ _ _ hf _ _  hP hD hS _ (lv_sub hl [5, 6, 7, 8, 9, 2, 1, 0] rfl)
    · have hf := (if_neg c_4).symm.trans hf
      refine lv_iload hx hb dX10_best_174 (lv_at hl 0 rfl) ?_
      refine lv_iload hx hb dX10_best_176 (lv_at hl 8 rfl) ?_
      refine lv_icmp_ge (tgt := 189) hx hb dX10_best_178 (by decide) (fun c_5 => ?_) (fun c_5 => ?_)
      · have hf := (if_pos c_5).symm.trans hf
        refine lv_iinc (v := (x7 + (1 : Int32))) (lv' := [(7, .int (x7 + (1 : Int32))), (9, .int u_2.1), (8, .int s0), (0, .ref a_m), (1, .int x1), (2, .int x2), (3, .int x3), (4, .int x4), (5, .int x5), (6, .int x6)]) hx hb dX10_best_189 hl (k := 9) rfl rfl (by decide) rfl (fun ls hl => ?_)
        refine lv_goto (tgt := 123) hx hb dX10_best_192 (by decide) ?_
        exact hrec123 _ _ _ _ _ hf _ _  hP hD hS _ (lv_sub hl [3, 4, 5, 6, 7, 8, 9, 0] rfl)
      · have hf := (if_neg c_5).symm.trans hf
        refine lv_iload hx hb dX10_best_181 (lv_at hl 9 rfl) ?_
        refine lv_istore (lv' := [(5, .int x7), (9, .int u_2.1), (8, .int s0), (0, .ref a_m), (1, .int x1), (2, .int x2), (3, .int x3), (4, .int x4), (6, .int x6), (7, .int x7)]) hx hb dX10_best_183 hl (by decide) rfl (fun ls hl => ?_)
        refine lv_iload hx hb dX10_best_185 (lv_at hl 1 rfl) ?_
        refine lv_istore (lv' := [(6, .int u_2.1), (5, .int x7), (9, .int u_2.1), (8, .int s0), (0, .ref a_m), (1, .int x1), (2, .int x2), (3, .int x3), (4, .int x4), (7, .int x7)]) hx hb dX10_best_187 hl (by decide) rfl (fun ls hl => ?_)
        refine lv_iinc (v := (x7 + (1 : Int32))) (lv' := [(7, .int (x7 + (1 : Int32))), (6, .int u_2.1), (5, .int x7), (9, .int u_2.1), (8, .int s0), (0, .ref a_m), (1, .int x1), (2, .int x2), (3, .int x3), (4, .int x4)]) hx hb dX10_best_189 hl (k := 9) rfl rfl (by decide) rfl (fun ls hl => ?_)
        refine lv_goto (tgt := 123) hx hb dX10_best_192 (by decide) ?_
        exact hrec123 _ _ _ _ _ hf _ _  hP hD hS _ (lv_sub hl [5, 6, 7, 8, 9, 2, 1, 0] rfl)
set_option maxHeartbeats 4000000 in
set_option maxRecDepth 100000 in
theorem w_X10_best_L123 {l : Launch} {D : va_G} {cI cJ : ClassId} {g : pa_GT} {a_m a_mt a_ml a_mr a_mx a_mf a_mg a_mw a_mh : Nat} {A : Nat → Prop} {p : Program} {e : Env} {s : State} {m : MethodId} {args : Array Value} {below : List Frame} {meth : Method} {c : Code} {x1 : Int32} {x2 : Int32} {x3 : Int32} {x4 : Int32} {v_m_thrown : Int32} {v_m_cardPrice : Int32} {v_m_lotPrice : Int32} {v_m_sure : Int32} {v_mt : Nat → Int64} {v_ml : Nat → Int32} {v_mr : Nat → Int32} {v_m_trace : Int64} {v_m_typed : Int32} {v_m_next : Int32} {v_m_token : Int32} {v_m_place : Int32} {v_m_value : Int32} {v_m_fault : Int32} {v_m_finds : Int32} {v_m_weeks : Int32} {v_m_rows : Int32} {o : Int32 × Int32 × Int64 × Int64} (X : pa_X cX10_best 10 (some .int) RX10 wsX10_best D cI cJ g A p s m args meth c)  : ∀ (n : Nat) (x5 : Int32) (x6 : Int32) (x7 : Int32) (v_m_up : Int64) (v_m_down : Int64), f_X10_best_L123 x1 x2 x3 x4 v_m_thrown v_m_cardPrice v_m_lotPrice v_m_sure v_mt v_ml v_mr n x5 x6 x7 v_m_up v_m_down = some o → ∀ (H : Heap) (locs : List Loc) , va_P D vwCl (wo_X10_best cI cJ a_m a_mt a_ml a_mr a_mx a_mf a_mg a_mw a_mh v_m_thrown v_m_trace v_m_typed v_m_next v_m_token v_m_place v_m_value v_m_fault v_m_finds v_m_weeks v_m_rows v_m_cardPrice v_m_lotPrice v_m_sure v_m_up v_m_down v_mt v_ml v_mr) H → va_D A (wo_X10_best cI cJ a_m a_mt a_ml a_mr a_mx a_mf a_mg a_mw a_mh v_m_thrown v_m_trace v_m_typed v_m_next v_m_token v_m_place v_m_value v_m_fault v_m_finds v_m_weeks v_m_rows v_m_cardPrice v_m_lotPrice v_m_sure v_m_up v_m_down v_mt v_ml v_mr) → va_S A s.heap H locs → ∀ (ls : Array Slot), lv_has ls 10 [(0, .ref a_m), (1, .int x1), (2, .int x2), (3, .int x3), (4, .int x4), (5, .int x5), (6, .int x6), (7, .int x7)] → W p l e (headSpec wsX10_best rm_X10_best).room s m args below meth c H locs 0 0 (MQ below (va_Qi (fun r (_ : Unit) => r = o.1) (pa_QB D A (wo_X10_best cI cJ a_m a_mt a_ml a_mr a_mx a_mf a_mg a_mw a_mh o.2.1 v_m_trace v_m_typed v_m_next v_m_token v_m_place v_m_value v_m_fault v_m_finds v_m_weeks v_m_rows v_m_cardPrice v_m_lotPrice v_m_sure o.2.2.1 o.2.2.2 v_mt v_ml v_mr)) A) args s 0 0 A) (F0 m 123 ls []) := by
  obtain ⟨hx, hb, hr, hml, hown, hts, hK, hA, hG, hlk⟩ := id X
  intro n
  induction n with
  | zero =>
    intro x5 x6 x7 v_m_up v_m_down hf
    have hf : (none : Option (Int32 × Int32 × Int64 × Int64)) = some o := hf
    cases hf
  | succ n hrec123 =>
    intro x5 x6 x7 v_m_up v_m_down hf H locs  hP hD hS ls hl
    have hf : f_X10_best_L123_body x1 x2 x3 x4 v_m_thrown v_m_cardPrice v_m_lotPrice v_m_sure v_mt v_ml v_mr (f_X10_best_L123 x1 x2 x3 x4 v_m_thrown v_m_cardPrice v_m_lotPrice v_m_sure v_mt v_ml v_mr n) x5 x6 x7 v_m_up v_m_down = some o := hf
    delta f_X10_best_L123_body at hf
    generalize hgr : f_X10_best_L123 x1 x2 x3 x4 v_m_thrown v_m_cardPrice v_m_lotPrice v_m_sure v_mt v_ml v_mr n = rec123 at hf hrec123
    refine lv_iload hx hb dX10_best_123 (lv_at hl 7 rfl) ?_
    refine lv_iload_n hx hb dX10_best_125 rfl (lv_at hl 3 rfl) ?_
    refine lv_icmp_gt (tgt := 195) hx hb dX10_best_126 (by decide) (fun c_6 => ?_) (fun c_6 => ?_)
    · have hf := (if_pos c_6).symm.trans hf
      refine lv_iload hx hb dX10_best_195 (lv_at hl 5 rfl) ?_
      refine lv_bipush (v := (-9 : Int32)) hx hb dX10_best_197 (by decide) ?_
      refine lv_icmp_eq (tgt := 206) hx hb dX10_best_199 (by decide) (fun c_7 => ?_) (fun c_7 => ?_)
      · have hf := (if_pos c_7).symm.trans hf
        refine lv_iload hx hb dX10_best_206 (lv_at hl 5 rfl) ?_
        refine lv_goto (tgt := 213) hx hb dX10_best_208 (by decide) ?_
        obtain rfl := Option.some.inj hf
        exact pa_ei X hP hD hS dX10_best_213
      · have hf := (if_neg c_7).symm.trans hf
        refine lv_iload_n hx hb dX10_best_202 rfl (lv_at hl 2 rfl) ?_
        refine lv_if_ne (tgt := 211) hx hb dX10_best_203 (by decide) (fun c_8 => ?_) (fun c_8 => ?_)
        · have hf := (if_neg c_8).symm.trans hf
          refine lv_iload hx hb dX10_best_211 (lv_at hl 6 rfl) ?_
          obtain rfl := Option.some.inj hf
          exact pa_ei X hP hD hS dX10_best_213
        · have hf := (if_pos c_8).symm.trans hf
          refine lv_iload hx hb dX10_best_206 (lv_at hl 5 rfl) ?_
          refine lv_goto (tgt := 213) hx hb dX10_best_208 (by decide) ?_
          obtain rfl := Option.some.inj hf
          exact pa_ei X hP hD hS dX10_best_213
    · have hf := (if_neg c_6).symm.trans hf
      refine lv_iload hx hb dX10_best_129 (lv_at hl 7 rfl) ?_
      refine lv_if_ne (tgt := 144) hx hb dX10_best_131 (by decide) (fun c_9 => ?_) (fun c_9 => ?_)
      · have hf := (if_neg c_9).symm.trans hf
        refine lv_iload hx hb dX10_best_144 (lv_at hl 7 rfl) ?_
        refine lv_aload_n hx hb dX10_best_146 rfl (lv_at hl 0 rfl) ?_
        refine va_get (D := D) (ci := 9) (v := .int v_m_lotPrice) (C := RX10) (T := TX10) (N := 24) hx hb hts il_X10_best_X10 hown hK hP 0 rfl rfl 20 (by decide) (hts _ fk_X10_best_0) (fun _ h9 => h9) rfl dX10_best_147 ?_
        refine lv_imul hx hb dX10_best_150 ?_
        exact w_X10_best_b151 X hrec123 hf hP hD hS (lv_sub hl [0, 1, 2, 3, 4, 5, 6, 7] rfl)
      · have hf := (if_pos c_9).symm.trans hf
        refine lv_iload hx hb dX10_best_134 (lv_at hl 4 rfl) ?_
        refine lv_aload_n hx hb dX10_best_136 rfl (lv_at hl 0 rfl) ?_
        refine va_get (D := D) (ci := 9) (v := .int v_m_cardPrice) (C := RX10) (T := TX10) (N := 24) hx hb hts il_X10_best_X10 hown hK hP 0 rfl rfl 19 (by decide) (hts _ fk_X10_best_1) (fun _ h9 => h9) rfl dX10_best_137 ?_
        refine lv_imul hx hb dX10_best_140 ?_
        refine lv_goto (tgt := 151) hx hb dX10_best_141 (by decide) ?_
        exact w_X10_best_b151 X hrec123 hf hP hD hS (lv_sub hl [0, 1, 2, 3, 4, 5, 6, 7] rfl)
set_option maxHeartbeats 4000000 in
set_option maxRecDepth 100000 in
theorem w_X10_best_b81 {l : Launch} {D : va_G} {cI cJ : ClassId} {g : pa_GT} {a_m a_mt a_ml a_mr a_mx a_mf a_mg a_mw a_mh : Nat} {A : Nat → Prop} {p : Program} {e : Env} {s : State} {m : MethodId} {args : Array Value} {below : List Frame} {meth : Method} {c : Code} {x1 : Int32} {x2 : Int32} {x4 : Int32} {x5 : Int32} {x7 : Int32} {s0 : Int32} {v_m_thrown : Int32} {v_m_cardPrice : Int32} {v_m_lotPrice : Int32} {v_m_sure : Int32} {v_m_up : Int64} {v_m_down : Int64} {v_mt : Nat → Int64} {v_ml : Nat → Int32} {v_mr : Nat → Int32} {v_m_trace : Int64} {v_m_typed : Int32} {v_m_next : Int32} {v_m_token : Int32} {v_m_place : Int32} {v_m_value : Int32} {v_m_fault : Int32} {v_m_finds : Int32} {v_m_weeks : Int32} {v_m_rows : Int32} {o : Int32 × Int32 × Int64 × Int64} (X : pa_X cX10_best 10 (some .int) RX10 wsX10_best D cI cJ g A p s m args meth c) {rec36 : Int32 → Int32 → Int32 → Option (Int32 × Int32 × Int64 × Int64)} (hrec36 : ∀ (x3 : Int32) (x4 : Int32) (x5 : Int32), rec36 x3 x4 x5 = some o → ∀ (H : Heap) (locs : List Loc) , va_P D vwCl (wo_X10_best cI cJ a_m a_mt a_ml a_mr a_mx a_mf a_mg a_mw a_mh v_m_thrown v_m_trace v_m_typed v_m_next v_m_token v_m_place v_m_value v_m_fault v_m_finds v_m_weeks v_m_rows v_m_cardPrice v_m_lotPrice v_m_sure v_m_up v_m_down v_mt v_ml v_mr) H → va_D A (wo_X10_best cI cJ a_m a_mt a_ml a_mr a_mx a_mf a_mg a_mw a_mh v_m_thrown v_m_trace v_m_typed v_m_next v_m_token v_m_place v_m_value v_m_fault v_m_finds v_m_weeks v_m_rows v_m_cardPrice v_m_lotPrice v_m_sure v_m_up v_m_down v_mt v_ml v_mr) → va_S A s.heap H locs → ∀ (ls : Array Slot), lv_has ls 10 [(0, .ref a_m), (1, .int x1), (2, .int x2), (3, .int x3), (4, .int x4), (5, .int x5)] → W p l e (headSpec wsX10_best rm_X10_best).room s m args below meth c H locs 0 0 (MQ below (va_Qi (fun r (_ : Unit) => r = o.1) (pa_QB D A (wo_X10_best cI cJ a_m a_mt a_ml a_mr a_mx a_mf a_mg a_mw a_mh o.2.1 v_m_trace v_m_typed v_m_next v_m_token v_m_place v_m_value v_m_fault v_m_finds v_m_weeks v_m_rows v_m_cardPrice v_m_lotPrice v_m_sure o.2.2.1 o.2.2.2 v_mt v_ml v_mr)) A) args s 0 0 A) (F0 m 36 ls [])) (hf : f_X10_best_b81 rec36 x1 x2 x4 x5 x7 s0 v_m_thrown v_m_cardPrice v_m_lotPrice v_m_sure v_m_up v_m_down v_mt v_ml v_mr = some o) {H : Heap} {locs : List Loc} (hP : va_P D vwCl (wo_X10_best cI cJ a_m a_mt a_ml a_mr a_mx a_mf a_mg a_mw a_mh v_m_thrown v_m_trace v_m_typed v_m_next v_m_token v_m_place v_m_value v_m_fault v_m_finds v_m_weeks v_m_rows v_m_cardPrice v_m_lotPrice v_m_sure v_m_up v_m_down v_mt v_ml v_mr) H) (hD : va_D A (wo_X10_best cI cJ a_m a_mt a_ml a_mr a_mx a_mf a_mg a_mw a_mh v_m_thrown v_m_trace v_m_typed v_m_next v_m_token v_m_place v_m_value v_m_fault v_m_finds v_m_weeks v_m_rows v_m_cardPrice v_m_lotPrice v_m_sure v_m_up v_m_down v_mt v_ml v_mr)) (hS : va_S A s.heap H locs) {ls : Array Slot} (hl : lv_has ls 10 [(0, .ref a_m), (1, .int x1), (2, .int x2), (4, .int x4), (5, .int x5), (7, .int x7)]) : W p l e (headSpec wsX10_best rm_X10_best).room s m args below meth c H locs 0 0 (MQ below (va_Qi (fun r (_ : Unit) => r = o.1) (pa_QB D A (wo_X10_best cI cJ a_m a_mt a_ml a_mr a_mx a_mf a_mg a_mw a_mh o.2.1 v_m_trace v_m_typed v_m_next v_m_token v_m_place v_m_value v_m_fault v_m_finds v_m_weeks v_m_rows v_m_cardPrice v_m_lotPrice v_m_sure o.2.2.1 o.2.2.2 v_mt v_ml v_mr)) A) args s 0 0 A) (F0 m 81 ls [.int s0]) := by
  obtain ⟨hx, hb, hr, hml, hown, hts, hK, hA, hG, hlk⟩ := id X
  delta f_X10_best_b81 at hf
  refine lv_istore_n (lv' := [(3, .int s0), (0, .ref a_m), (1, .int x1), (2, .int x2), (4, .int x4), (5, .int x5), (7, .int x7)]) hx hb dX10_best_81 rfl hl (by decide) rfl (fun ls hl => ?_)
  refine lv_iload hx hb dX10_best_82 (lv_at hl 6 rfl) ?_
  refine lv_iload hx hb dX10_best_84 (lv_at hl 4 rfl) ?_
  refine lv_icmp_le (tgt := 94) hx hb dX10_best_86 (by decide) (fun c_10 => ?_) (fun c_10 => ?_)
  · have hf := (if_pos c_10).symm.trans hf
    refine lv_iload hx hb dX10_best_94 (lv_at hl 4 rfl) ?_
    refine lv_istore (lv' := [(4, .int x4), (3, .int s0), (0, .ref a_m), (1, .int x1), (2, .int x2), (5, .int x5), (7, .int x7)]) hx hb dX10_best_96 hl (by decide) rfl (fun ls hl => ?_)
    refine lv_iinc (v := (x5 + (1 : Int32))) (lv' := [(5, .int (x5 + (1 : Int32))), (4, .int x4), (3, .int s0), (0, .ref a_m), (1, .int x1), (2, .int x2), (7, .int x7)]) hx hb dX10_best_98 hl (k := 5) rfl rfl (by decide) rfl (fun ls hl => ?_)
    refine lv_goto (tgt := 36) hx hb dX10_best_101 (by decide) ?_
    exact hrec36 _ _ _ hf _ _  hP hD hS _ (lv_sub hl [3, 4, 5, 2, 1, 0] rfl)
  · have hf := (if_neg c_10).symm.trans hf
    refine lv_iload hx hb dX10_best_89 (lv_at hl 6 rfl) ?_
    refine lv_goto (tgt := 96) hx hb dX10_best_91 (by decide) ?_
    refine lv_istore (lv' := [(4, .int x7), (3, .int s0), (0, .ref a_m), (1, .int x1), (2, .int x2), (5, .int x5), (7, .int x7)]) hx hb dX10_best_96 hl (by decide) rfl (fun ls hl => ?_)
    refine lv_iinc (v := (x5 + (1 : Int32))) (lv' := [(5, .int (x5 + (1 : Int32))), (4, .int x7), (3, .int s0), (0, .ref a_m), (1, .int x1), (2, .int x2), (7, .int x7)]) hx hb dX10_best_98 hl (k := 5) rfl rfl (by decide) rfl (fun ls hl => ?_)
    refine lv_goto (tgt := 36) hx hb dX10_best_101 (by decide) ?_
    exact hrec36 _ _ _ hf _ _  hP hD hS _ (lv_sub hl [3, 4, 5, 2, 1, 0] rfl)
set_option maxHeartbeats 4000000 in
set_option maxRecDepth 100000 in
theorem w_X10_best_b80 {l : Launch} {D : va_G} {cI cJ : ClassId} {g : pa_GT} {a_m a_mt a_ml a_mr a_mx a_mf a_mg a_mw a_mh : Nat} {A : Nat → Prop} {p : Program} {e : Env} {s : State} {m : MethodId} {args : Array Value} {below : List Frame} {meth : Method} {c : Code} {x1 : Int32} {x2 : Int32} {x3 : Int32} {x4 : Int32} {x5 : Int32} {x7 : Int32} {v_m_thrown : Int32} {v_m_cardPrice : Int32} {v_m_lotPrice : Int32} {v_m_sure : Int32} {v_m_up : Int64} {v_m_down : Int64} {v_mt : Nat → Int64} {v_ml : Nat → Int32} {v_mr : Nat → Int32} {v_m_trace : Int64} {v_m_typed : Int32} {v_m_next : Int32} {v_m_token : Int32} {v_m_place : Int32} {v_m_value : Int32} {v_m_fault : Int32} {v_m_finds : Int32} {v_m_weeks : Int32} {v_m_rows : Int32} {o : Int32 × Int32 × Int64 × Int64} (X : pa_X cX10_best 10 (some .int) RX10 wsX10_best D cI cJ g A p s m args meth c) {rec36 : Int32 → Int32 → Int32 → Option (Int32 × Int32 × Int64 × Int64)} (hrec36 : ∀ (x3 : Int32) (x4 : Int32) (x5 : Int32), rec36 x3 x4 x5 = some o → ∀ (H : Heap) (locs : List Loc) , va_P D vwCl (wo_X10_best cI cJ a_m a_mt a_ml a_mr a_mx a_mf a_mg a_mw a_mh v_m_thrown v_m_trace v_m_typed v_m_next v_m_token v_m_place v_m_value v_m_fault v_m_finds v_m_weeks v_m_rows v_m_cardPrice v_m_lotPrice v_m_sure v_m_up v_m_down v_mt v_ml v_mr) H → va_D A (wo_X10_best cI cJ a_m a_mt a_ml a_mr a_mx a_mf a_mg a_mw a_mh v_m_thrown v_m_trace v_m_typed v_m_next v_m_token v_m_place v_m_value v_m_fault v_m_finds v_m_weeks v_m_rows v_m_cardPrice v_m_lotPrice v_m_sure v_m_up v_m_down v_mt v_ml v_mr) → va_S A s.heap H locs → ∀ (ls : Array Slot), lv_has ls 10 [(0, .ref a_m), (1, .int x1), (2, .int x2), (3, .int x3), (4, .int x4), (5, .int x5)] → W p l e (headSpec wsX10_best rm_X10_best).room s m args below meth c H locs 0 0 (MQ below (va_Qi (fun r (_ : Unit) => r = o.1) (pa_QB D A (wo_X10_best cI cJ a_m a_mt a_ml a_mr a_mx a_mf a_mg a_mw a_mh o.2.1 v_m_trace v_m_typed v_m_next v_m_token v_m_place v_m_value v_m_fault v_m_finds v_m_weeks v_m_rows v_m_cardPrice v_m_lotPrice v_m_sure o.2.2.1 o.2.2.2 v_mt v_ml v_mr)) A) args s 0 0 A) (F0 m 36 ls [])) (hf : f_X10_best_b80 rec36 x1 x2 x3 x4 x5 x7 v_m_thrown v_m_cardPrice v_m_lotPrice v_m_sure v_m_up v_m_down v_mt v_ml v_mr = some o) {H : Heap} {locs : List Loc} (hP : va_P D vwCl (wo_X10_best cI cJ a_m a_mt a_ml a_mr a_mx a_mf a_mg a_mw a_mh v_m_thrown v_m_trace v_m_typed v_m_next v_m_token v_m_place v_m_value v_m_fault v_m_finds v_m_weeks v_m_rows v_m_cardPrice v_m_lotPrice v_m_sure v_m_up v_m_down v_mt v_ml v_mr) H) (hD : va_D A (wo_X10_best cI cJ a_m a_mt a_ml a_mr a_mx a_mf a_mg a_mw a_mh v_m_thrown v_m_trace v_m_typed v_m_next v_m_token v_m_place v_m_value v_m_fault v_m_finds v_m_weeks v_m_rows v_m_cardPrice v_m_lotPrice v_m_sure v_m_up v_m_down v_mt v_ml v_mr)) (hS : va_S A s.heap H locs) {ls : Array Slot} (hl : lv_has ls 10 [(0, .ref a_m), (1, .int x1), (2, .int x2), (3, .int x3), (4, .int x4), (5, .int x5), (7, .int x7)]) : W p l e (headSpec wsX10_best rm_X10_best).room s m args below meth c H locs 0 0 (MQ below (va_Qi (fun r (_ : Unit) => r = o.1) (pa_QB D A (wo_X10_best cI cJ a_m a_mt a_ml a_mr a_mx a_mf a_mg a_mw a_mh o.2.1 v_m_trace v_m_typed v_m_next v_m_token v_m_place v_m_value v_m_fault v_m_finds v_m_weeks v_m_rows v_m_cardPrice v_m_lotPrice v_m_sure o.2.2.1 o.2.2.2 v_mt v_ml v_mr)) A) args s 0 0 A) (F0 m 80 ls []) := by
  obtain ⟨hx, hb, hr, hml, hown, hts, hK, hA, hG, hlk⟩ := id X
  delta f_X10_best_b80 at hf
  refine lv_iload_n hx hb dX10_best_80 rfl (lv_at hl 3 rfl) ?_
  exact w_X10_best_b81 X hrec36 hf hP hD hS (lv_sub hl [0, 1, 2, 4, 5, 6] rfl)
set_option maxHeartbeats 4000000 in
set_option maxRecDepth 100000 in
theorem w_X10_best_L36 {l : Launch} {D : va_G} {cI cJ : ClassId} {g : pa_GT} {a_m a_mt a_ml a_mr a_mx a_mf a_mg a_mw a_mh : Nat} {A : Nat → Prop} {p : Program} {e : Env} {s : State} {m : MethodId} {args : Array Value} {below : List Frame} {meth : Method} {c : Code} {x1 : Int32} {x2 : Int32} {v_m_thrown : Int32} {v_m_cardPrice : Int32} {v_m_lotPrice : Int32} {v_m_sure : Int32} {v_m_up : Int64} {v_m_down : Int64} {v_mt : Nat → Int64} {v_ml : Nat → Int32} {v_mr : Nat → Int32} {v_m_trace : Int64} {v_m_typed : Int32} {v_m_next : Int32} {v_m_token : Int32} {v_m_place : Int32} {v_m_value : Int32} {v_m_fault : Int32} {v_m_finds : Int32} {v_m_weeks : Int32} {v_m_rows : Int32} {o : Int32 × Int32 × Int64 × Int64} (X : pa_X cX10_best 10 (some .int) RX10 wsX10_best D cI cJ g A p s m args meth c)  : ∀ (n : Nat) (x3 : Int32) (x4 : Int32) (x5 : Int32), f_X10_best_L36 x1 x2 v_m_thrown v_m_cardPrice v_m_lotPrice v_m_sure v_m_up v_m_down v_mt v_ml v_mr n x3 x4 x5 = some o → ∀ (H : Heap) (locs : List Loc) , va_P D vwCl (wo_X10_best cI cJ a_m a_mt a_ml a_mr a_mx a_mf a_mg a_mw a_mh v_m_thrown v_m_trace v_m_typed v_m_next v_m_token v_m_place v_m_value v_m_fault v_m_finds v_m_weeks v_m_rows v_m_cardPrice v_m_lotPrice v_m_sure v_m_up v_m_down v_mt v_ml v_mr) H → va_D A (wo_X10_best cI cJ a_m a_mt a_ml a_mr a_mx a_mf a_mg a_mw a_mh v_m_thrown v_m_trace v_m_typed v_m_next v_m_token v_m_place v_m_value v_m_fault v_m_finds v_m_weeks v_m_rows v_m_cardPrice v_m_lotPrice v_m_sure v_m_up v_m_down v_mt v_ml v_mr) → va_S A s.heap H locs → ∀ (ls : Array Slot), lv_has ls 10 [(0, .ref a_m), (1, .int x1), (2, .int x2), (3, .int x3), (4, .int x4), (5, .int x5)] → W p l e (headSpec wsX10_best rm_X10_best).room s m args below meth c H locs 0 0 (MQ below (va_Qi (fun r (_ : Unit) => r = o.1) (pa_QB D A (wo_X10_best cI cJ a_m a_mt a_ml a_mr a_mx a_mf a_mg a_mw a_mh o.2.1 v_m_trace v_m_typed v_m_next v_m_token v_m_place v_m_value v_m_fault v_m_finds v_m_weeks v_m_rows v_m_cardPrice v_m_lotPrice v_m_sure o.2.2.1 o.2.2.2 v_mt v_ml v_mr)) A) args s 0 0 A) (F0 m 36 ls []) := by
  obtain ⟨hx, hb, hr, hml, hown, hts, hK, hA, hG, hlk⟩ := id X
  intro n
  induction n with
  | zero =>
    intro x3 x4 x5 hf
    have hf : (none : Option (Int32 × Int32 × Int64 × Int64)) = some o := hf
    cases hf
  | succ n hrec36 =>
    intro x3 x4 x5 hf H locs  hP hD hS ls hl
    have hf : f_X10_best_L36_body x1 x2 v_m_thrown v_m_cardPrice v_m_lotPrice v_m_sure v_m_up v_m_down v_mt v_ml v_mr (f_X10_best_L36 x1 x2 v_m_thrown v_m_cardPrice v_m_lotPrice v_m_sure v_m_up v_m_down v_mt v_ml v_mr n) x3 x4 x5 = some o := hf
    delta f_X10_best_L36_body at hf
    generalize hgr : f_X10_best_L36 x1 x2 v_m_thrown v_m_cardPrice v_m_lotPrice v_m_sure v_m_up v_m_down v_mt v_ml v_mr n = rec36 at hf hrec36
    refine lv_iload hx hb dX10_best_36 (lv_at hl 5 rfl) ?_
    refine lv_iconst (v := (4 : Int32)) hx hb dX10_best_38 (by decide) ?_
    refine lv_icmp_ge (tgt := 104) hx hb dX10_best_39 (by decide) (fun c_11 => ?_) (fun c_11 => ?_)
    · have hf := (if_pos c_11).symm.trans hf
      refine lv_iload_n hx hb dX10_best_104 rfl (lv_at hl 3 rfl) ?_
      refine lv_bipush (v := (51 : Int32)) hx hb dX10_best_105 (by decide) ?_
      refine lv_icmp_ne (tgt := 113) hx hb dX10_best_107 (by decide) (fun c_12 => ?_) (fun c_12 => ?_)
      · have hf := (if_neg c_12).symm.trans hf
        refine lv_bipush (v := (-9 : Int32)) hx hb dX10_best_113 (by decide) ?_
        refine lv_istore (lv' := [(5, .int (-9 : Int32)), (0, .ref a_m), (1, .int x1), (2, .int x2), (3, .int x3), (4, .int x4)]) hx hb dX10_best_115 hl (by decide) rfl (fun ls hl => ?_)
        refine lv_iconst (v := (0 : Int32)) hx hb dX10_best_117 (by decide) ?_
        refine lv_istore (lv' := [(6, .int (0 : Int32)), (5, .int (-9 : Int32)), (0, .ref a_m), (1, .int x1), (2, .int x2), (3, .int x3), (4, .int x4)]) hx hb dX10_best_118 hl (by decide) rfl (fun ls hl => ?_)
        refine lv_iconst (v := (0 : Int32)) hx hb dX10_best_120 (by decide) ?_
        refine lv_istore (lv' := [(7, .int (0 : Int32)), (6, .int (0 : Int32)), (5, .int (-9 : Int32)), (0, .ref a_m), (1, .int x1), (2, .int x2), (3, .int x3), (4, .int x4)]) hx hb dX10_best_121 hl (by decide) rfl (fun ls hl => ?_)
        exact w_X10_best_L123 X  _ _ _ _ _ _ hf _ _  hP hD hS _ (lv_sub hl [3, 4, 5, 6, 7, 2, 1, 0] rfl)
      · have hf := (if_pos c_12).symm.trans hf
        refine lv_bipush (v := (-2 : Int32)) hx hb dX10_best_110 (by decide) ?_
        obtain rfl := Option.some.inj hf
        exact pa_ei X hP hD hS dX10_best_112
    · have hf := (if_neg c_11).symm.trans hf
      refine lv_aload_n hx hb dX10_best_42 rfl (lv_at hl 0 rfl) ?_
      refine lv_iload hx hb dX10_best_43 (lv_at hl 5 rfl) ?_
      refine lv_sipush (v := (255 : Int32)) hx hb dX10_best_45 (by decide) ?_
      obtain ⟨u_13, hg_14, hf⟩ := pa_bd hf
      refine pa_ki (wc := (wo_X10_persons cI cJ a_m a_mt a_ml a_mr a_mx a_mf a_mg a_mw a_mh v_m_thrown v_m_trace v_m_typed v_m_next v_m_token v_m_place v_m_value v_m_fault v_m_finds v_m_weeks v_m_rows v_m_cardPrice v_m_lotPrice v_m_sure v_m_up v_m_down v_ml)) (wr := [(a_mt, .inl (cJ, 2601, .inr (.inl v_mt))), (a_mr, .inl (cI, 8, .inl v_mr))]) (w1 := (wo_X10_persons cI cJ a_m a_mt a_ml a_mr a_mx a_mf a_mg a_mw a_mh v_m_thrown v_m_trace v_m_typed v_m_next v_m_token v_m_place v_m_value v_m_fault v_m_finds v_m_weeks v_m_rows v_m_cardPrice v_m_lotPrice v_m_sure v_m_up v_m_down v_ml)) (w2 := (wo_X10_best cI cJ a_m a_mt a_ml a_mr a_mx a_mf a_mg a_mw a_mh v_m_thrown v_m_trace v_m_typed v_m_next v_m_token v_m_place v_m_value v_m_fault v_m_finds v_m_weeks v_m_rows v_m_cardPrice v_m_lotPrice v_m_sure v_m_up v_m_down v_mt v_ml v_mr)) X hP hD hS [0, 2] [1, 3] [2, 0, 3, 1] rfl (pa_rV (As := [.int x5, .int (255 : Int32)]) (rest := []) (T := TX10) X hP hD hS [0, 2] rfl rfl (c_X10_persons hg_14 H.size) (cwV 2 hts gX10_best_X10_persons rfl rfl rfl (by decide +kernel) ⟨Nat.le_of_ble_eq_true rfl, Nat.le_of_ble_eq_true rfl⟩) (q0 := 0) rfl rfl rfl hl.1 rfl (Nat.le_of_ble_eq_true rfl) dX10_best_48 ⟨Nat.zero_le _, Nat.zero_le _⟩) rfl rfl (by decide) rfl rfl (fun H locs hP hD hS => ?_)
      refine lv_istore (lv' := [(6, .int u_13), (0, .ref a_m), (1, .int x1), (2, .int x2), (3, .int x3), (4, .int x4), (5, .int x5)]) hx hb dX10_best_51 hl (by decide) rfl (fun ls hl => ?_)
      refine lv_aload_n hx hb dX10_best_53 rfl (lv_at hl 1 rfl) ?_
      refine lv_iload hx hb dX10_best_54 (lv_at hl 6 rfl) ?_
      refine lv_sipush (v := (240 : Int32)) hx hb dX10_best_56 (by decide) ?_
      obtain ⟨u_15, hg_16, hf⟩ := pa_bd hf
      refine pa_ki (wc := (wo_X10_persons cI cJ a_m a_mt a_ml a_mr a_mx a_mf a_mg a_mw a_mh v_m_thrown v_m_trace v_m_typed v_m_next v_m_token v_m_place v_m_value v_m_fault v_m_finds v_m_weeks v_m_rows v_m_cardPrice v_m_lotPrice v_m_sure v_m_up v_m_down v_ml)) (wr := [(a_mt, .inl (cJ, 2601, .inr (.inl v_mt))), (a_mr, .inl (cI, 8, .inl v_mr))]) (w1 := (wo_X10_persons cI cJ a_m a_mt a_ml a_mr a_mx a_mf a_mg a_mw a_mh v_m_thrown v_m_trace v_m_typed v_m_next v_m_token v_m_place v_m_value v_m_fault v_m_finds v_m_weeks v_m_rows v_m_cardPrice v_m_lotPrice v_m_sure v_m_up v_m_down v_ml)) (w2 := (wo_X10_best cI cJ a_m a_mt a_ml a_mr a_mx a_mf a_mg a_mw a_mh v_m_thrown v_m_trace v_m_typed v_m_next v_m_token v_m_place v_m_value v_m_fault v_m_finds v_m_weeks v_m_rows v_m_cardPrice v_m_lotPrice v_m_sure v_m_up v_m_down v_mt v_ml v_mr)) X hP hD hS [0, 2] [1, 3] [2, 0, 3, 1] rfl (pa_rV (As := [.int x5, .int (240 : Int32)]) (rest := []) (T := TX10) X hP hD hS [0, 2] rfl rfl (c_X10_persons hg_16 H.size) (cwV 2 hts gX10_best_X10_persons rfl rfl rfl (by decide +kernel) ⟨Nat.le_of_ble_eq_true rfl, Nat.le_of_ble_eq_true rfl⟩) (q0 := 0) rfl rfl rfl hl.1 rfl (Nat.le_of_ble_eq_true rfl) dX10_best_59 ⟨Nat.zero_le _, Nat.zero_le _⟩) rfl rfl (by decide) rfl rfl (fun H locs hP hD hS => ?_)
      refine lv_istore (lv' := [(7, .int u_15), (6, .int u_13), (0, .ref a_m), (1, .int x1), (2, .int x2), (3, .int x3), (4, .int x4), (5, .int x5)]) hx hb dX10_best_62 hl (by decide) rfl (fun ls hl => ?_)
      refine lv_iload hx hb dX10_best_64 (lv_at hl 1 rfl) ?_
      refine lv_if_le (tgt := 80) hx hb dX10_best_66 (by decide) (fun c_17 => ?_) (fun c_17 => ?_)
      · have hf := (if_pos c_17).symm.trans hf
        exact w_X10_best_b80 X hrec36 hf hP hD hS (lv_sub hl [2, 3, 4, 5, 6, 7, 0] rfl)
      · have hf := (if_neg c_17).symm.trans hf
        refine lv_iload hx hb dX10_best_69 (lv_at hl 1 rfl) ?_
        refine lv_iload_n hx hb dX10_best_71 rfl (lv_at hl 5 rfl) ?_
        refine lv_icmp_ge (tgt := 80) hx hb dX10_best_72 (by decide) (fun c_18 => ?_) (fun c_18 => ?_)
        · have hf := (if_pos c_18).symm.trans hf
          exact w_X10_best_b80 X hrec36 hf hP hD hS (lv_sub hl [2, 3, 4, 5, 6, 7, 0] rfl)
        · have hf := (if_neg c_18).symm.trans hf
          refine lv_iload hx hb dX10_best_75 (lv_at hl 1 rfl) ?_
          refine lv_goto (tgt := 81) hx hb dX10_best_77 (by decide) ?_
          exact w_X10_best_b81 X hrec36 hf hP hD hS (lv_sub hl [2, 3, 4, 6, 7, 0] rfl)
set_option maxHeartbeats 4000000 in
set_option maxRecDepth 100000 in
theorem w_X10_best_b0 {l : Launch} {D : va_G} {cI cJ : ClassId} {g : pa_GT} {a_m a_mt a_ml a_mr a_mx a_mf a_mg a_mw a_mh : Nat} {A : Nat → Prop} {p : Program} {e : Env} {s : State} {m : MethodId} {args : Array Value} {below : List Frame} {meth : Method} {c : Code} {x1 : Int32} {x2 : Int32} {v_m_cardPrice : Int32} {v_m_lotPrice : Int32} {v_m_sure : Int32} {v_m_up : Int64} {v_m_down : Int64} {v_mt : Nat → Int64} {v_ml : Nat → Int32} {v_mr : Nat → Int32} {v_m_thrown : Int32} {v_m_trace : Int64} {v_m_typed : Int32} {v_m_next : Int32} {v_m_token : Int32} {v_m_place : Int32} {v_m_value : Int32} {v_m_fault : Int32} {v_m_finds : Int32} {v_m_weeks : Int32} {v_m_rows : Int32} {o : Int32 × Int32 × Int64 × Int64} (X : pa_X cX10_best 10 (some .int) RX10 wsX10_best D cI cJ g A p s m args meth c)  (hf : f_X10_best x1 x2 v_m_cardPrice v_m_lotPrice v_m_sure v_m_up v_m_down v_mt v_ml v_mr = some o) {H : Heap} {locs : List Loc} (hP : va_P D vwCl (wo_X10_best cI cJ a_m a_mt a_ml a_mr a_mx a_mf a_mg a_mw a_mh v_m_thrown v_m_trace v_m_typed v_m_next v_m_token v_m_place v_m_value v_m_fault v_m_finds v_m_weeks v_m_rows v_m_cardPrice v_m_lotPrice v_m_sure v_m_up v_m_down v_mt v_ml v_mr) H) (hD : va_D A (wo_X10_best cI cJ a_m a_mt a_ml a_mr a_mx a_mf a_mg a_mw a_mh v_m_thrown v_m_trace v_m_typed v_m_next v_m_token v_m_place v_m_value v_m_fault v_m_finds v_m_weeks v_m_rows v_m_cardPrice v_m_lotPrice v_m_sure v_m_up v_m_down v_mt v_ml v_mr)) (hS : va_S A s.heap H locs) {ls : Array Slot} (hl : lv_has ls 10 [(0, .ref a_m), (1, .int x1), (2, .int x2)]) : W p l e (headSpec wsX10_best rm_X10_best).room s m args below meth c H locs 0 0 (MQ below (va_Qi (fun r (_ : Unit) => r = o.1) (pa_QB D A (wo_X10_best cI cJ a_m a_mt a_ml a_mr a_mx a_mf a_mg a_mw a_mh o.2.1 v_m_trace v_m_typed v_m_next v_m_token v_m_place v_m_value v_m_fault v_m_finds v_m_weeks v_m_rows v_m_cardPrice v_m_lotPrice v_m_sure o.2.2.1 o.2.2.2 v_mt v_ml v_mr)) A) args s 0 0 A) (F0 m 0 ls []) := by
  obtain ⟨hx, hb, hr, hml, hown, hts, hK, hA, hG, hlk⟩ := id X
  delta f_X10_best at hf
  refine lv_aload_n hx hb dX10_best_0 rfl (lv_at hl 0 rfl) ?_
  refine lv_iconst (v := (0 : Int32)) hx hb dX10_best_1 (by decide) ?_
  refine va_put (D := D) (ci := 9) (v := .int (0 : Int32)) (ty := .int) (C := RX10) (T := TX10) (N := 24) hx hb hts il_X10_best_X10 tyX10 tyX10_ok nmX10 hown hK hP hD hS 0 rfl rfl 0 (by decide) (hts _ fk_X10_best_2) (fun _ h9 => h9) rfl (tyX10_ok 0 (by decide)) rfl rfl (Nat.le_of_ble_eq_true rfl) dX10_best_2 (fun H locs hP hD hS => ?_)
  have hP : va_P D vwCl (wo_X10_best cI cJ a_m a_mt a_ml a_mr a_mx a_mf a_mg a_mw a_mh (0 : Int32) v_m_trace v_m_typed v_m_next v_m_token v_m_place v_m_value v_m_fault v_m_finds v_m_weeks v_m_rows v_m_cardPrice v_m_lotPrice v_m_sure v_m_up v_m_down v_mt v_ml v_mr) H := hP
  have hD : va_D A (wo_X10_best cI cJ a_m a_mt a_ml a_mr a_mx a_mf a_mg a_mw a_mh (0 : Int32) v_m_trace v_m_typed v_m_next v_m_token v_m_place v_m_value v_m_fault v_m_finds v_m_weeks v_m_rows v_m_cardPrice v_m_lotPrice v_m_sure v_m_up v_m_down v_mt v_ml v_mr) := hD
  refine lv_iload_n hx hb dX10_best_5 rfl (lv_at hl 1 rfl) ?_
  refine lv_iconst (v := (0 : Int32)) hx hb dX10_best_6 (by decide) ?_
  refine lv_sipush (v := (9999 : Int32)) hx hb dX10_best_7 (by decide) ?_
  obtain ⟨u_19, hg_20, hf⟩ := pa_bd hf
  refine pa_ki (wc := ([] : va_W)) (wr := [(a_m, .inr (9, [.int (0 : Int32), .long v_m_trace, .ref a_mt, .ref a_ml, .ref a_mr, .ref a_mx, .int v_m_typed, .int v_m_next, .int v_m_token, .int v_m_place, .int v_m_value, .int v_m_fault, .int v_m_finds, .ref a_mf, .ref a_mg, .int v_m_weeks, .ref a_mw, .int v_m_rows, .ref a_mh, .int v_m_cardPrice, .int v_m_lotPrice, .int v_m_sure, .long v_m_up, .long v_m_down])), (a_mt, .inl (cJ, 2601, .inr (.inl v_mt))), (a_ml, .inl (cI, 32, .inl v_ml)), (a_mr, .inl (cI, 8, .inl v_mr))]) (w1 := ([] : va_W)) (w2 := (wo_X10_best cI cJ a_m a_mt a_ml a_mr a_mx a_mf a_mg a_mw a_mh (0 : Int32) v_m_trace v_m_typed v_m_next v_m_token v_m_place v_m_value v_m_fault v_m_finds v_m_weeks v_m_rows v_m_cardPrice v_m_lotPrice v_m_sure v_m_up v_m_down v_mt v_ml v_mr)) X hP hD hS [] [0, 1, 2, 3] [0, 1, 2, 3] rfl (pa_rS (As := [.int x1, .int (0 : Int32), .int (9999 : Int32)]) (rest := []) X hP hD hS [] rfl rfl (c_X10_in hg_20 H.size) (va_cwS 3 hts gX10_best_X10_in rfl rfl rfl (by decide +kernel) ⟨Nat.le_of_ble_eq_true rfl, Nat.le_of_ble_eq_true rfl⟩) rfl hl.1 rfl (Nat.le_of_ble_eq_true rfl) dX10_best_10 ⟨Nat.zero_le _, Nat.zero_le _⟩) rfl rfl (by decide) rfl rfl (fun H locs hP hD hS => ?_)
  refine lv_if_eq (tgt := 25) hx hb dX10_best_13 (by decide) (fun c_21 => ?_) (fun c_21 => ?_)
  · have hf := (if_pos c_21).symm.trans hf
    refine lv_iconst (v := (-1 : Int32)) hx hb dX10_best_25 (by decide) ?_
    obtain rfl := Option.some.inj hf
    exact pa_ei X hP hD hS dX10_best_26
  · have hf := (if_neg c_21).symm.trans hf
    refine lv_iload_n hx hb dX10_best_16 rfl (lv_at hl 2 rfl) ?_
    refine lv_iconst (v := (0 : Int32)) hx hb dX10_best_17 (by decide) ?_
    refine lv_iconst (v := (1 : Int32)) hx hb dX10_best_18 (by decide) ?_
    obtain ⟨u_22, hg_23, hf⟩ := pa_bd hf
    refine pa_ki (wc := ([] : va_W)) (wr := [(a_m, .inr (9, [.int (0 : Int32), .long v_m_trace, .ref a_mt, .ref a_ml, .ref a_mr, .ref a_mx, .int v_m_typed, .int v_m_next, .int v_m_token, .int v_m_place, .int v_m_value, .int v_m_fault, .int v_m_finds, .ref a_mf, .ref a_mg, .int v_m_weeks, .ref a_mw, .int v_m_rows, .ref a_mh, .int v_m_cardPrice, .int v_m_lotPrice, .int v_m_sure, .long v_m_up, .long v_m_down])), (a_mt, .inl (cJ, 2601, .inr (.inl v_mt))), (a_ml, .inl (cI, 32, .inl v_ml)), (a_mr, .inl (cI, 8, .inl v_mr))]) (w1 := ([] : va_W)) (w2 := (wo_X10_best cI cJ a_m a_mt a_ml a_mr a_mx a_mf a_mg a_mw a_mh (0 : Int32) v_m_trace v_m_typed v_m_next v_m_token v_m_place v_m_value v_m_fault v_m_finds v_m_weeks v_m_rows v_m_cardPrice v_m_lotPrice v_m_sure v_m_up v_m_down v_mt v_ml v_mr)) X hP hD hS [] [0, 1, 2, 3] [0, 1, 2, 3] rfl (pa_rS (As := [.int x2, .int (0 : Int32), .int (1 : Int32)]) (rest := []) X hP hD hS [] rfl rfl (c_X10_in hg_23 H.size) (va_cwS 3 hts gX10_best_X10_in rfl rfl rfl (by decide +kernel) ⟨Nat.le_of_ble_eq_true rfl, Nat.le_of_ble_eq_true rfl⟩) rfl hl.1 rfl (Nat.le_of_ble_eq_true rfl) dX10_best_19 ⟨Nat.zero_le _, Nat.zero_le _⟩) rfl rfl (by decide) rfl rfl (fun H locs hP hD hS => ?_)
    refine lv_if_ne (tgt := 27) hx hb dX10_best_22 (by decide) (fun c_24 => ?_) (fun c_24 => ?_)
    · have hf := (if_neg c_24).symm.trans hf
      refine lv_bipush (v := (51 : Int32)) hx hb dX10_best_27 (by decide) ?_
      refine lv_istore_n (lv' := [(3, .int (51 : Int32)), (0, .ref a_m), (1, .int x1), (2, .int x2)]) hx hb dX10_best_29 rfl hl (by decide) rfl (fun ls hl => ?_)
      refine lv_iconst (v := (0 : Int32)) hx hb dX10_best_30 (by decide) ?_
      refine lv_istore (lv' := [(4, .int (0 : Int32)), (3, .int (51 : Int32)), (0, .ref a_m), (1, .int x1), (2, .int x2)]) hx hb dX10_best_31 hl (by decide) rfl (fun ls hl => ?_)
      refine lv_iconst (v := (0 : Int32)) hx hb dX10_best_33 (by decide) ?_
      refine lv_istore (lv' := [(5, .int (0 : Int32)), (4, .int (0 : Int32)), (3, .int (51 : Int32)), (0, .ref a_m), (1, .int x1), (2, .int x2)]) hx hb dX10_best_34 hl (by decide) rfl (fun ls hl => ?_)
      exact w_X10_best_L36 X  _ _ _ _ hf _ _  hP hD hS _ (lv_sub hl [3, 4, 5, 2, 1, 0] rfl)
    · have hf := (if_pos c_24).symm.trans hf
      refine lv_iconst (v := (-1 : Int32)) hx hb dX10_best_25 (by decide) ?_
      obtain rfl := Option.some.inj hf
      exact pa_ei X hP hD hS dX10_best_26
set_option maxHeartbeats 4000000 in
set_option maxRecDepth 100000 in
theorem c_X10_best {l : Launch} {D : va_G} {cI cJ : ClassId} {g : pa_GT} {a_m a_mt a_ml a_mr a_mx a_mf a_mg a_mw a_mh : Nat} {x1 : Int32} {x2 : Int32} {v_m_thrown : Int32} {v_m_trace : Int64} {v_m_typed : Int32} {v_m_next : Int32} {v_m_token : Int32} {v_m_place : Int32} {v_m_value : Int32} {v_m_fault : Int32} {v_m_finds : Int32} {v_m_weeks : Int32} {v_m_rows : Int32} {v_m_cardPrice : Int32} {v_m_lotPrice : Int32} {v_m_sure : Int32} {v_m_up : Int64} {v_m_down : Int64} {v_mt : Nat → Int64} {v_ml : Nat → Int32} {v_mr : Nat → Int32} {o : Int32 × Int32 × Int64 × Int64} (hf : f_X10_best x1 x2 v_m_cardPrice v_m_lotPrice v_m_sure v_m_up v_m_down v_mt v_ml v_mr = some o) : pa_Mi l yX10_best wsX10_best rm_X10_best D cI cJ g [.ref a_m, .int x1, .int x2] (wo_X10_best cI cJ a_m a_mt a_ml a_mr a_mx a_mf a_mg a_mw a_mh v_m_thrown v_m_trace v_m_typed v_m_next v_m_token v_m_place v_m_value v_m_fault v_m_finds v_m_weeks v_m_rows v_m_cardPrice v_m_lotPrice v_m_sure v_m_up v_m_down v_mt v_ml v_mr) (wo_X10_best cI cJ a_m a_mt a_ml a_mr a_mx a_mf a_mg a_mw a_mh o.2.1 v_m_trace v_m_typed v_m_next v_m_token v_m_place v_m_value v_m_fault v_m_finds v_m_weeks v_m_rows v_m_cardPrice v_m_lotPrice v_m_sure o.2.2.1 o.2.2.2 v_mt v_ml v_mr) o.1 := by
  intro sz
  refine pa_met (cc := cX10_best) (maxL := 10) (ret := (some .int)) (lv := [(0, .ref a_m), (1, .int x1), (2, .int x2)]) (by decide) rfl (Nat.le_of_ble_eq_true rfl) rfl ?_
  intro p e s m below meth c X hsz hP hD ls hl
  subst hsz
  exact w_X10_best_b0 X hf hP hD va_S.rf hl
abbrev wo_X10_cost (cI cJ : ClassId) (a_m a_mt a_ml a_mr a_mx a_mf a_mg a_mw a_mh : Nat) (v_m_thrown : Int32) (v_m_trace : Int64) (v_m_typed : Int32) (v_m_next : Int32) (v_m_token : Int32) (v_m_place : Int32) (v_m_value : Int32) (v_m_fault : Int32) (v_m_finds : Int32) (v_m_weeks : Int32) (v_m_rows : Int32) (v_m_cardPrice : Int32) (v_m_lotPrice : Int32) (v_m_sure : Int32) (v_m_up : Int64) (v_m_down : Int64) (v_ml : Nat → Int32) : va_W := [(a_m, .inr (9, [.int v_m_thrown, .long v_m_trace, .ref a_mt, .ref a_ml, .ref a_mr, .ref a_mx, .int v_m_typed, .int v_m_next, .int v_m_token, .int v_m_place, .int v_m_value, .int v_m_fault, .int v_m_finds, .ref a_mf, .ref a_mg, .int v_m_weeks, .ref a_mw, .int v_m_rows, .ref a_mh, .int v_m_cardPrice, .int v_m_lotPrice, .int v_m_sure, .long v_m_up, .long v_m_down])), (a_ml, .inl (cI, 32, .inl v_ml))]
abbrev rm_X10_cost : Room := { frames := 2, cells := 0, slots := 0, locals := 42 }
theorem il_X10_cost_X10 : ∀ w ∈ wsX100, w ∈ wsX10_cost := by decide +kernel
theorem fk_X10_cost_0 : Cond.fieldLink RX10 178 "PostedAsksModel" "trace" "J" ∈ wsX10_cost := by decide +kernel
theorem fk_X10_cost_1 : Cond.fieldLink RX10 160 "PostedAsksModel" "weeks" "I" ∈ wsX10_cost := by decide +kernel
theorem fk_X10_cost_2 : Cond.fieldLink RX10 125 "PostedAsksModel" "finds" "I" ∈ wsX10_cost := by decide +kernel
theorem fk_X10_cost_3 : Cond.fieldLink RX10 45 "PostedAsksModel" "thrown" "I" ∈ wsX10_cost := by decide +kernel
theorem fk_X10_cost_4 : Cond.fieldLink RX10 35 "PostedAsksModel" "cardPrice" "I" ∈ wsX10_cost := by decide +kernel
theorem fk_X10_cost_5 : Cond.fieldLink RX10 39 "PostedAsksModel" "lotPrice" "I" ∈ wsX10_cost := by decide +kernel
theorem fk_X10_cost_6 : Cond.constantLong RX10 191 (1000011) ∈ wsX10_cost := by decide +kernel
theorem fk_X10_cost_7 : Cond.constantLong RX10 189 (100001) ∈ wsX10_cost := by decide +kernel
theorem fk_X10_cost_8 : Cond.constantLong RX10 187 (11001) ∈ wsX10_cost := by decide +kernel
theorem fk_X10_cost_9 : Cond.constantLong RX10 185 (1001) ∈ wsX10_cost := by decide +kernel
theorem fk_X10_cost_10 : Cond.constantLong RX10 183 (101) ∈ wsX10_cost := by decide +kernel
theorem fk_X10_cost_11 : Cond.constantLong RX10 181 (11) ∈ wsX10_cost := by decide +kernel
def f_X10_cost_b128 (x1 : Int32) (x3 : Int32) (x4 : Int32) (s1 : Int64) (s2 : Int64) (v_m_thrown : Int32) (v_m_finds : Int32) (v_m_weeks : Int32) : Option (Int32 × Int32 × Int64) :=
  if x1 = 0 then
    some ((2 : Int32), v_m_thrown, (s1 + s2))
  else
    if x1 = (1 : Int32) then
      some (x3, v_m_thrown, (s1 + s2))
    else
      if x1 = (2 : Int32) then
        some (((2 : Int32) + v_m_finds), v_m_thrown, (s1 + s2))
      else
        if x1 = (3 : Int32) then
          some (x4, v_m_thrown, (s1 + s2))
        else
          if x1 = (4 : Int32) then
            some ((((3 : Int32) * x4) / (2 : Int32)), v_m_thrown, (s1 + s2))
          else
            if x1 = (5 : Int32) then
              some (((2 : Int32) + v_m_weeks), v_m_thrown, (s1 + s2))
            else
              some (((x3 + (9 : Int32)) / (10 : Int32)), v_m_thrown, (s1 + s2))
def f_X10_cost (x1 : Int32) (x2 : Int32) (v_m_trace : Int64) (v_m_finds : Int32) (v_m_weeks : Int32) (v_m_cardPrice : Int32) (v_m_lotPrice : Int32) (v_ml : Nat → Int32) : Option (Int32 × Int32 × Int64) :=
  (f_X10_in x1 (0 : Int32) (6 : Int32)).bind fun u_7 =>
  if u_7 = 0 then
    some ((-1 : Int32), (0 : Int32), v_m_trace)
  else
    (f_X10_isLand x2).bind fun u_10 =>
    if u_10 = 0 then
      some ((-1 : Int32), (0 : Int32), v_m_trace)
    else
      (f_X10_persons x2 (240 : Int32) v_ml).bind fun u_13 =>
      (f_X10_persons x2 (255 : Int32) v_ml).bind fun u_15 =>
      if x1 = 0 then
        f_X10_cost_b128 x1 ((2 : Int32) + (v_m_cardPrice * u_13)) ((2 : Int32) + (v_m_lotPrice * u_15)) v_m_trace (1 : Int64) (0 : Int32) v_m_finds v_m_weeks
      else
        if x1 = (1 : Int32) then
          f_X10_cost_b128 x1 ((2 : Int32) + (v_m_cardPrice * u_13)) ((2 : Int32) + (v_m_lotPrice * u_15)) v_m_trace (11 : Int64) (0 : Int32) v_m_finds v_m_weeks
        else
          if x1 = (2 : Int32) then
            f_X10_cost_b128 x1 ((2 : Int32) + (v_m_cardPrice * u_13)) ((2 : Int32) + (v_m_lotPrice * u_15)) v_m_trace (101 : Int64) (0 : Int32) v_m_finds v_m_weeks
          else
            if x1 = (3 : Int32) then
              f_X10_cost_b128 x1 ((2 : Int32) + (v_m_cardPrice * u_13)) ((2 : Int32) + (v_m_lotPrice * u_15)) v_m_trace (1001 : Int64) (0 : Int32) v_m_finds v_m_weeks
            else
              if x1 = (4 : Int32) then
                f_X10_cost_b128 x1 ((2 : Int32) + (v_m_cardPrice * u_13)) ((2 : Int32) + (v_m_lotPrice * u_15)) v_m_trace (11001 : Int64) (0 : Int32) v_m_finds v_m_weeks
              else
                if x1 = (5 : Int32) then
                  f_X10_cost_b128 x1 ((2 : Int32) + (v_m_cardPrice * u_13)) ((2 : Int32) + (v_m_lotPrice * u_15)) v_m_trace (100001 : Int64) (0 : Int32) v_m_finds v_m_weeks
                else
                  f_X10_cost_b128 x1 ((2 : Int32) + (v_m_cardPrice * u_13)) ((2 : Int32) + (v_m_lotPrice * u_15)) v_m_trace (1000011 : Int64) (0 : Int32) v_m_finds v_m_weeks
set_option maxHeartbeats 4000000 in
set_option maxRecDepth 100000 in
theorem w_X10_cost_b128 {l : Launch} {D : va_G} {cI cJ : ClassId} {g : pa_GT} {a_m a_mt a_ml a_mr a_mx a_mf a_mg a_mw a_mh : Nat} {A : Nat → Prop} {p : Program} {e : Env} {s : State} {m : MethodId} {args : Array Value} {below : List Frame} {meth : Method} {c : Code} {x1 : Int32} {x3 : Int32} {x4 : Int32} {s1 : Int64} {s2 : Int64} {v_m_thrown : Int32} {v_m_finds : Int32} {v_m_weeks : Int32} {v_m_trace : Int64} {v_m_typed : Int32} {v_m_next : Int32} {v_m_token : Int32} {v_m_place : Int32} {v_m_value : Int32} {v_m_fault : Int32} {v_m_rows : Int32} {v_m_cardPrice : Int32} {v_m_lotPrice : Int32} {v_m_sure : Int32} {v_m_up : Int64} {v_m_down : Int64} {v_ml : Nat → Int32} {o : Int32 × Int32 × Int64} (X : pa_X cX10_cost 5 (some .int) RX10 wsX10_cost D cI cJ g A p s m args meth c)  (hf : f_X10_cost_b128 x1 x3 x4 s1 s2 v_m_thrown v_m_finds v_m_weeks = some o) {H : Heap} {locs : List Loc} (hP : va_P D vwCl (wo_X10_cost cI cJ a_m a_mt a_ml a_mr a_mx a_mf a_mg a_mw a_mh v_m_thrown v_m_trace v_m_typed v_m_next v_m_token v_m_place v_m_value v_m_fault v_m_finds v_m_weeks v_m_rows v_m_cardPrice v_m_lotPrice v_m_sure v_m_up v_m_down v_ml) H) (hD : va_D A (wo_X10_cost cI cJ a_m a_mt a_ml a_mr a_mx a_mf a_mg a_mw a_mh v_m_thrown v_m_trace v_m_typed v_m_next v_m_token v_m_place v_m_value v_m_fault v_m_finds v_m_weeks v_m_rows v_m_cardPrice v_m_lotPrice v_m_sure v_m_up v_m_down v_ml)) (hS : va_S A s.heap H locs) {ls : Array Slot} (hl : lv_has ls 5 [(0, .ref a_m), (1, .int x1), (3, .int x3), (4, .int x4)]) : W p l e (headSpec wsX10_cost rm_X10_cost).room s m args below meth c H locs 0 0 (MQ below (va_Qi (fun r (_ : Unit) => r = o.1) (pa_QB D A (wo_X10_cost cI cJ a_m a_mt a_ml a_mr a_mx a_mf a_mg a_mw a_mh o.2.1 o.2.2 v_m_typed v_m_next v_m_token v_m_place v_m_value v_m_fault v_m_finds v_m_weeks v_m_rows v_m_cardPrice v_m_lotPrice v_m_sure v_m_up v_m_down v_ml)) A) args s 0 0 A) (F0 m 128 ls [.long s2, .long s1, .ref a_m]) := by
  obtain ⟨hx, hb, hr, hml, hown, hts, hK, hA, hG, hlk⟩ := id X
  delta f_X10_cost_b128 at hf
  refine lv_ladd hx hb dX10_cost_128 ?_
  refine va_put (D := D) (ci := 9) (v := .long (s1 + s2)) (ty := .long) (C := RX10) (T := TX10) (N := 24) hx hb hts il_X10_cost_X10 tyX10 tyX10_ok nmX10 hown hK hP hD hS 0 rfl rfl 1 (by decide) (hts _ fk_X10_cost_0) (fun _ h9 => h9) rfl (tyX10_ok 1 (by decide)) rfl rfl (Nat.le_of_ble_eq_true rfl) dX10_cost_129 (fun H locs hP hD hS => ?_)
  have hP : va_P D vwCl (wo_X10_cost cI cJ a_m a_mt a_ml a_mr a_mx a_mf a_mg a_mw a_mh v_m_thrown (s1 + s2) v_m_typed v_m_next v_m_token v_m_place v_m_value v_m_fault v_m_finds v_m_weeks v_m_rows v_m_cardPrice v_m_lotPrice v_m_sure v_m_up v_m_down v_ml) H := hP
  have hD : va_D A (wo_X10_cost cI cJ a_m a_mt a_ml a_mr a_mx a_mf a_mg a_mw a_mh v_m_thrown (s1 + s2) v_m_typed v_m_next v_m_token v_m_place v_m_value v_m_fault v_m_finds v_m_weeks v_m_rows v_m_cardPrice v_m_lotPrice v_m_sure v_m_up v_m_down v_ml) := hD
  refine lv_iload_n hx hb dX10_cost_132 rfl (lv_at hl 1 rfl) ?_
  refine lv_if_ne (tgt := 140) hx hb dX10_cost_133 (by decide) (fun c_1 => ?_) (fun c_1 => ?_)
  · have hf := (if_neg c_1).symm.trans hf
    refine lv_iload_n hx hb dX10_cost_140 rfl (lv_at hl 1 rfl) ?_
    refine lv_iconst (v := (1 : Int32)) hx hb dX10_cost_141 (by decide) ?_
    refine lv_icmp_ne (tgt := 149) hx hb dX10_cost_142 (by decide) (fun c_2 => ?_) (fun c_2 => ?_)
    · have hf := (if_neg c_2).symm.trans hf
      refine lv_iload_n hx hb dX10_cost_149 rfl (lv_at hl 1 rfl) ?_
      refine lv_iconst (v := (2 : Int32)) hx hb dX10_cost_150 (by decide) ?_
      refine lv_icmp_ne (tgt := 163) hx hb dX10_cost_151 (by decide) (fun c_3 => ?_) (fun c_3 => ?_)
      · have hf := (if_neg c_3).symm.trans hf
        refine lv_iload_n hx hb dX10_cost_163 rfl (lv_at hl 1 rfl) ?_
        refine lv_iconst (v := (3 : Int32)) hx hb dX10_cost_164 (by decide) ?_
        refine lv_icmp_ne (tgt := 173) hx hb dX10_cost_165 (by decide) (fun c_4 => ?_) (fun c_4 => ?_)
        · have hf := (if_neg c_4).symm.trans hf
          refine lv_iload_n hx hb dX10_cost_173 rfl (lv_at hl 1 rfl) ?_
          refine lv_iconst (v := (4 : Int32)) hx hb dX10_cost_174 (by decide) ?_
          refine lv_icmp_ne (tgt := 187) hx hb dX10_cost_175 (by decide) (fun c_5 => ?_) (fun c_5 => ?_)
          · have hf := (if_neg c_5).symm.trans hf
            refine lv_iload_n hx hb dX10_cost_187 rfl (lv_at hl 1 rfl) ?_
            refine lv_iconst (v := (5 : Int32)) hx hb dX10_cost_188 (by decide) ?_
            refine lv_icmp_ne (tgt := 201) hx hb dX10_cost_189 (by decide) (fun c_6 => ?_) (fun c_6 => ?_)
            · have hf := (if_neg c_6).symm.trans hf
              refine lv_iload_n hx hb dX10_cost_201 rfl (lv_at hl 2 rfl) ?_
              refine lv_bipush (v := (9 : Int32)) hx hb dX10_cost_202 (by decide) ?_
              refine lv_iadd hx hb dX10_cost_204 ?_
              refine lv_bipush (v := (10 : Int32)) hx hb dX10_cost_205 (by decide) ?_
              refine lv_idiv hx hb dX10_cost_207 (by decide) ?_
              obtain rfl := Option.some.inj hf
              exact pa_ei X hP hD hS dX10_cost_208
            · have hf := (if_pos c_6).symm.trans hf
              refine lv_iconst (v := (2 : Int32)) hx hb dX10_cost_192 (by decide) ?_
              refine lv_aload_n hx hb dX10_cost_193 rfl (lv_at hl 0 rfl) ?_
              refine va_get (D := D) (ci := 9) (v := .int v_m_weeks) (C := RX10) (T := TX10) (N := 24) hx hb hts il_X10_cost_X10 hown hK hP 0 rfl rfl 15 (by decide) (hts _ fk_X10_cost_1) (fun _ h9 => h9) rfl dX10_cost_194 ?_
              refine lv_iadd hx hb dX10_cost_197 ?_
              refine lv_goto (tgt := 208) hx hb dX10_cost_198 (by decide) ?_
              obtain rfl := Option.some.inj hf
              exact pa_ei X hP hD hS dX10_cost_208
          · have hf := (if_pos c_5).symm.trans hf
            refine lv_iconst (v := (3 : Int32)) hx hb dX10_cost_178 (by decide) ?_
            refine lv_iload hx hb dX10_cost_179 (lv_at hl 3 rfl) ?_
            refine lv_imul hx hb dX10_cost_181 ?_
            refine lv_iconst (v := (2 : Int32)) hx hb dX10_cost_182 (by decide) ?_
            refine lv_idiv hx hb dX10_cost_183 (by decide) ?_
            refine lv_goto (tgt := 208) hx hb dX10_cost_184 (by decide) ?_
            obtain rfl := Option.some.inj hf
            exact pa_ei X hP hD hS dX10_cost_208
        · have hf := (if_pos c_4).symm.trans hf
          refine lv_iload hx hb dX10_cost_168 (lv_at hl 3 rfl) ?_
          refine lv_goto (tgt := 208) hx hb dX10_cost_170 (by decide) ?_
          obtain rfl := Option.some.inj hf
          exact pa_ei X hP hD hS dX10_cost_208
      · have hf := (if_pos c_3).symm.trans hf
        refine lv_iconst (v := (2 : Int32)) hx hb dX10_cost_154 (by decide) ?_
        refine lv_aload_n hx hb dX10_cost_155 rfl (lv_at hl 0 rfl) ?_
        refine va_get (D := D) (ci := 9) (v := .int v_m_finds) (C := RX10) (T := TX10) (N := 24) hx hb hts il_X10_cost_X10 hown hK hP 0 rfl rfl 12 (by decide) (hts _ fk_X10_cost_2) (fun _ h9 => h9) rfl dX10_cost_156 ?_
        refine lv_iadd hx hb dX10_cost_159 ?_
        refine lv_goto (tgt := 208) hx hb dX10_cost_160 (by decide) ?_
        obtain rfl := Option.some.inj hf
        exact pa_ei X hP hD hS dX10_cost_208
    · have hf := (if_pos c_2).symm.trans hf
      refine lv_iload_n hx hb dX10_cost_145 rfl (lv_at hl 2 rfl) ?_
      refine lv_goto (tgt := 208) hx hb dX10_cost_146 (by decide) ?_
      obtain rfl := Option.some.inj hf
      exact pa_ei X hP hD hS dX10_cost_208
  · have hf := (if_pos c_1).symm.trans hf
    refine lv_iconst (v := (2 : Int32)) hx hb dX10_cost_136 (by decide) ?_
    refine lv_goto (tgt := 208) hx hb dX10_cost_137 (by decide) ?_
    obtain rfl := Option.some.inj hf
    exact pa_ei X hP hD hS dX10_cost_208
set_option maxHeartbeats 4000000 in
set_option maxRecDepth 100000 in
theorem w_X10_cost_b0 {l : Launch} {D : va_G} {cI cJ : ClassId} {g : pa_GT} {a_m a_mt a_ml a_mr a_mx a_mf a_mg a_mw a_mh : Nat} {A : Nat → Prop} {p : Program} {e : Env} {s : State} {m : MethodId} {args : Array Value} {below : List Frame} {meth : Method} {c : Code} {x1 : Int32} {x2 : Int32} {v_m_trace : Int64} {v_m_finds : Int32} {v_m_weeks : Int32} {v_m_cardPrice : Int32} {v_m_lotPrice : Int32} {v_ml : Nat → Int32} {v_m_thrown : Int32} {v_m_typed : Int32} {v_m_next : Int32} {v_m_token : Int32} {v_m_place : Int32} {v_m_value : Int32} {v_m_fault : Int32} {v_m_rows : Int32} {v_m_sure : Int32} {v_m_up : Int64} {v_m_down : Int64} {o : Int32 × Int32 × Int64} (X : pa_X cX10_cost 5 (some .int) RX10 wsX10_cost D cI cJ g A p s m args meth c)  (hf : f_X10_cost x1 x2 v_m_trace v_m_finds v_m_weeks v_m_cardPrice v_m_lotPrice v_ml = some o) {H : Heap} {locs : List Loc} (hP : va_P D vwCl (wo_X10_cost cI cJ a_m a_mt a_ml a_mr a_mx a_mf a_mg a_mw a_mh v_m_thrown v_m_trace v_m_typed v_m_next v_m_token v_m_place v_m_value v_m_fault v_m_finds v_m_weeks v_m_rows v_m_cardPrice v_m_lotPrice v_m_sure v_m_up v_m_down v_ml) H) (hD : va_D A (wo_X10_cost cI cJ a_m a_mt a_ml a_mr a_mx a_mf a_mg a_mw a_mh v_m_thrown v_m_trace v_m_typed v_m_next v_m_token v_m_place v_m_value v_m_fault v_m_finds v_m_weeks v_m_rows v_m_cardPrice v_m_lotPrice v_m_sure v_m_up v_m_down v_ml)) (hS : va_S A s.heap H locs) {ls : Array Slot} (hl : lv_has ls 5 [(0, .ref a_m), (1, .int x1), (2, .int x2)]) : W p l e (headSpec wsX10_cost rm_X10_cost).room s m args below meth c H locs 0 0 (MQ below (va_Qi (fun r (_ : Unit) => r = o.1) (pa_QB D A (wo_X10_cost cI cJ a_m a_mt a_ml a_mr a_mx a_mf a_mg a_mw a_mh o.2.1 o.2.2 v_m_typed v_m_next v_m_token v_m_place v_m_value v_m_fault v_m_finds v_m_weeks v_m_rows v_m_cardPrice v_m_lotPrice v_m_sure v_m_up v_m_down v_ml)) A) args s 0 0 A) (F0 m 0 ls []) := by
  obtain ⟨hx, hb, hr, hml, hown, hts, hK, hA, hG, hlk⟩ := id X
  delta f_X10_cost at hf
  refine lv_aload_n hx hb dX10_cost_0 rfl (lv_at hl 0 rfl) ?_
  refine lv_iconst (v := (0 : Int32)) hx hb dX10_cost_1 (by decide) ?_
  refine va_put (D := D) (ci := 9) (v := .int (0 : Int32)) (ty := .int) (C := RX10) (T := TX10) (N := 24) hx hb hts il_X10_cost_X10 tyX10 tyX10_ok nmX10 hown hK hP hD hS 0 rfl rfl 0 (by decide) (hts _ fk_X10_cost_3) (fun _ h9 => h9) rfl (tyX10_ok 0 (by decide)) rfl rfl (Nat.le_of_ble_eq_true rfl) dX10_cost_2 (fun H locs hP hD hS => ?_)
  have hP : va_P D vwCl (wo_X10_cost cI cJ a_m a_mt a_ml a_mr a_mx a_mf a_mg a_mw a_mh (0 : Int32) v_m_trace v_m_typed v_m_next v_m_token v_m_place v_m_value v_m_fault v_m_finds v_m_weeks v_m_rows v_m_cardPrice v_m_lotPrice v_m_sure v_m_up v_m_down v_ml) H := hP
  have hD : va_D A (wo_X10_cost cI cJ a_m a_mt a_ml a_mr a_mx a_mf a_mg a_mw a_mh (0 : Int32) v_m_trace v_m_typed v_m_next v_m_token v_m_place v_m_value v_m_fault v_m_finds v_m_weeks v_m_rows v_m_cardPrice v_m_lotPrice v_m_sure v_m_up v_m_down v_ml) := hD
  refine lv_iload_n hx hb dX10_cost_5 rfl (lv_at hl 1 rfl) ?_
  refine lv_iconst (v := (0 : Int32)) hx hb dX10_cost_6 (by decide) ?_
  refine lv_bipush (v := (6 : Int32)) hx hb dX10_cost_7 (by decide) ?_
  obtain ⟨u_7, hg_8, hf⟩ := pa_bd hf
  refine pa_ki (wc := ([] : va_W)) (wr := [(a_m, .inr (9, [.int (0 : Int32), .long v_m_trace, .ref a_mt, .ref a_ml, .ref a_mr, .ref a_mx, .int v_m_typed, .int v_m_next, .int v_m_token, .int v_m_place, .int v_m_value, .int v_m_fault, .int v_m_finds, .ref a_mf, .ref a_mg, .int v_m_weeks, .ref a_mw, .int v_m_rows, .ref a_mh, .int v_m_cardPrice, .int v_m_lotPrice, .int v_m_sure, .long v_m_up, .long v_m_down])), (a_ml, .inl (cI, 32, .inl v_ml))]) (w1 := ([] : va_W)) (w2 := (wo_X10_cost cI cJ a_m a_mt a_ml a_mr a_mx a_mf a_mg a_mw a_mh (0 : Int32) v_m_trace v_m_typed v_m_next v_m_token v_m_place v_m_value v_m_fault v_m_finds v_m_weeks v_m_rows v_m_cardPrice v_m_lotPrice v_m_sure v_m_up v_m_down v_ml)) X hP hD hS [] [0, 1] [0, 1] rfl (pa_rS (As := [.int x1, .int (0 : Int32), .int (6 : Int32)]) (rest := []) X hP hD hS [] rfl rfl (c_X10_in hg_8 H.size) (va_cwS 3 hts gX10_cost_X10_in rfl rfl rfl (by decide +kernel) ⟨Nat.le_of_ble_eq_true rfl, Nat.le_of_ble_eq_true rfl⟩) rfl hl.1 rfl (Nat.le_of_ble_eq_true rfl) dX10_cost_9 ⟨Nat.zero_le _, Nat.zero_le _⟩) rfl rfl (by decide) rfl rfl (fun H locs hP hD hS => ?_)
  refine lv_if_eq (tgt := 22) hx hb dX10_cost_12 (by decide) (fun c_9 => ?_) (fun c_9 => ?_)
  · have hf := (if_pos c_9).symm.trans hf
    refine lv_iconst (v := (-1 : Int32)) hx hb dX10_cost_22 (by decide) ?_
    obtain rfl := Option.some.inj hf
    exact pa_ei X hP hD hS dX10_cost_23
  · have hf := (if_neg c_9).symm.trans hf
    refine lv_iload_n hx hb dX10_cost_15 rfl (lv_at hl 2 rfl) ?_
    obtain ⟨u_10, hg_11, hf⟩ := pa_bd hf
    refine pa_ki (wc := ([] : va_W)) (wr := [(a_m, .inr (9, [.int (0 : Int32), .long v_m_trace, .ref a_mt, .ref a_ml, .ref a_mr, .ref a_mx, .int v_m_typed, .int v_m_next, .int v_m_token, .int v_m_place, .int v_m_value, .int v_m_fault, .int v_m_finds, .ref a_mf, .ref a_mg, .int v_m_weeks, .ref a_mw, .int v_m_rows, .ref a_mh, .int v_m_cardPrice, .int v_m_lotPrice, .int v_m_sure, .long v_m_up, .long v_m_down])), (a_ml, .inl (cI, 32, .inl v_ml))]) (w1 := ([] : va_W)) (w2 := (wo_X10_cost cI cJ a_m a_mt a_ml a_mr a_mx a_mf a_mg a_mw a_mh (0 : Int32) v_m_trace v_m_typed v_m_next v_m_token v_m_place v_m_value v_m_fault v_m_finds v_m_weeks v_m_rows v_m_cardPrice v_m_lotPrice v_m_sure v_m_up v_m_down v_ml)) X hP hD hS [] [0, 1] [0, 1] rfl (pa_rS (As := [.int x2]) (rest := []) X hP hD hS [] rfl rfl (c_X10_isLand hg_11 H.size) (va_cwS 1 hts gX10_cost_X10_isLand rfl rfl rfl (by decide +kernel) ⟨Nat.le_of_ble_eq_true rfl, Nat.le_of_ble_eq_true rfl⟩) rfl hl.1 rfl (Nat.le_of_ble_eq_true rfl) dX10_cost_16 ⟨Nat.zero_le _, Nat.zero_le _⟩) rfl rfl (by decide) rfl rfl (fun H locs hP hD hS => ?_)
    refine lv_if_ne (tgt := 24) hx hb dX10_cost_19 (by decide) (fun c_12 => ?_) (fun c_12 => ?_)
    · have hf := (if_neg c_12).symm.trans hf
      refine lv_iconst (v := (2 : Int32)) hx hb dX10_cost_24 (by decide) ?_
      refine lv_aload_n hx hb dX10_cost_25 rfl (lv_at hl 0 rfl) ?_
      refine va_get (D := D) (ci := 9) (v := .int v_m_cardPrice) (C := RX10) (T := TX10) (N := 24) hx hb hts il_X10_cost_X10 hown hK hP 0 rfl rfl 19 (by decide) (hts _ fk_X10_cost_4) (fun _ h9 => h9) rfl dX10_cost_26 ?_
      refine lv_aload_n hx hb dX10_cost_29 rfl (lv_at hl 0 rfl) ?_
      refine lv_iload_n hx hb dX10_cost_30 rfl (lv_at hl 2 rfl) ?_
      refine lv_sipush (v := (240 : Int32)) hx hb dX10_cost_31 (by decide) ?_
      obtain ⟨u_13, hg_14, hf⟩ := pa_bd hf
      refine pa_ki (wc := (wo_X10_persons cI cJ a_m a_mt a_ml a_mr a_mx a_mf a_mg a_mw a_mh (0 : Int32) v_m_trace v_m_typed v_m_next v_m_token v_m_place v_m_value v_m_fault v_m_finds v_m_weeks v_m_rows v_m_cardPrice v_m_lotPrice v_m_sure v_m_up v_m_down v_ml)) (wr := ([] : va_W)) (w1 := (wo_X10_persons cI cJ a_m a_mt a_ml a_mr a_mx a_mf a_mg a_mw a_mh (0 : Int32) v_m_trace v_m_typed v_m_next v_m_token v_m_place v_m_value v_m_fault v_m_finds v_m_weeks v_m_rows v_m_cardPrice v_m_lotPrice v_m_sure v_m_up v_m_down v_ml)) (w2 := (wo_X10_cost cI cJ a_m a_mt a_ml a_mr a_mx a_mf a_mg a_mw a_mh (0 : Int32) v_m_trace v_m_typed v_m_next v_m_token v_m_place v_m_value v_m_fault v_m_finds v_m_weeks v_m_rows v_m_cardPrice v_m_lotPrice v_m_sure v_m_up v_m_down v_ml)) X hP hD hS [0, 1] [] [0, 1] rfl (pa_rV (As := [.int x2, .int (240 : Int32)]) (rest := [.int v_m_cardPrice, .int (2 : Int32)]) (T := TX10) X hP hD hS [0, 1] rfl rfl (c_X10_persons hg_14 H.size) (cwV 2 hts gX10_cost_X10_persons rfl rfl rfl (by decide +kernel) ⟨Nat.le_of_ble_eq_true rfl, Nat.le_of_ble_eq_true rfl⟩) (q0 := 0) rfl rfl rfl hl.1 rfl (Nat.le_of_ble_eq_true rfl) dX10_cost_34 ⟨Nat.zero_le _, Nat.zero_le _⟩) rfl rfl (by decide) rfl rfl (fun H locs hP hD hS => ?_)
      refine lv_imul hx hb dX10_cost_37 ?_
      refine lv_iadd hx hb dX10_cost_38 ?_
      refine lv_istore_n (lv' := [(3, .int ((2 : Int32) + (v_m_cardPrice * u_13))), (0, .ref a_m), (1, .int x1), (2, .int x2)]) hx hb dX10_cost_39 rfl hl (by decide) rfl (fun ls hl => ?_)
      refine lv_iconst (v := (2 : Int32)) hx hb dX10_cost_40 (by decide) ?_
      refine lv_aload_n hx hb dX10_cost_41 rfl (lv_at hl 1 rfl) ?_
      refine va_get (D := D) (ci := 9) (v := .int v_m_lotPrice) (C := RX10) (T := TX10) (N := 24) hx hb hts il_X10_cost_X10 hown hK hP 0 rfl rfl 20 (by decide) (hts _ fk_X10_cost_5) (fun _ h9 => h9) rfl dX10_cost_42 ?_
      refine lv_aload_n hx hb dX10_cost_45 rfl (lv_at hl 1 rfl) ?_
      refine lv_iload_n hx hb dX10_cost_46 rfl (lv_at hl 3 rfl) ?_
      refine lv_sipush (v := (255 : Int32)) hx hb dX10_cost_47 (by decide) ?_
      obtain ⟨u_15, hg_16, hf⟩ := pa_bd hf
      refine pa_ki (wc := (wo_X10_persons cI cJ a_m a_mt a_ml a_mr a_mx a_mf a_mg a_mw a_mh (0 : Int32) v_m_trace v_m_typed v_m_next v_m_token v_m_place v_m_value v_m_fault v_m_finds v_m_weeks v_m_rows v_m_cardPrice v_m_lotPrice v_m_sure v_m_up v_m_down v_ml)) (wr := ([] : va_W)) (w1 := (wo_X10_persons cI cJ a_m a_mt a_ml a_mr a_mx a_mf a_mg a_mw a_mh (0 : Int32) v_m_trace v_m_typed v_m_next v_m_token v_m_place v_m_value v_m_fault v_m_finds v_m_weeks v_m_rows v_m_cardPrice v_m_lotPrice v_m_sure v_m_up v_m_down v_ml)) (w2 := (wo_X10_cost cI cJ a_m a_mt a_ml a_mr a_mx a_mf a_mg a_mw a_mh (0 : Int32) v_m_trace v_m_typed v_m_next v_m_token v_m_place v_m_value v_m_fault v_m_finds v_m_weeks v_m_rows v_m_cardPrice v_m_lotPrice v_m_sure v_m_up v_m_down v_ml)) X hP hD hS [0, 1] [] [0, 1] rfl (pa_rV (As := [.int x2, .int (255 : Int32)]) (rest := [.int v_m_lotPrice, .int (2 : Int32)]) (T := TX10) X hP hD hS [0, 1] rfl rfl (c_X10_persons hg_16 H.size) (cwV 2 hts gX10_cost_X10_persons rfl rfl rfl (by decide +kernel) ⟨Nat.le_of_ble_eq_true rfl, Nat.le_of_ble_eq_true rfl⟩) (q0 := 0) rfl rfl rfl hl.1 rfl (Nat.le_of_ble_eq_true rfl) dX10_cost_50 ⟨Nat.zero_le _, Nat.zero_le _⟩) rfl rfl (by decide) rfl rfl (fun H locs hP hD hS => ?_)
      refine lv_imul hx hb dX10_cost_53 ?_
      refine lv_iadd hx hb dX10_cost_54 ?_
      refine lv_istore (lv' := [(4, .int ((2 : Int32) + (v_m_lotPrice * u_15))), (3, .int ((2 : Int32) + (v_m_cardPrice * u_13))), (0, .ref a_m), (1, .int x1), (2, .int x2)]) hx hb dX10_cost_55 hl (by decide) rfl (fun ls hl => ?_)
      refine lv_aload_n hx hb dX10_cost_57 rfl (lv_at hl 2 rfl) ?_
      refine lv_dup hx hb dX10_cost_58 rfl ?_
      refine va_get (D := D) (ci := 9) (v := .long v_m_trace) (C := RX10) (T := TX10) (N := 24) hx hb hts il_X10_cost_X10 hown hK hP 0 rfl rfl 1 (by decide) (hts _ fk_X10_cost_0) (fun _ h9 => h9) rfl dX10_cost_59 ?_
      refine lv_iload_n hx hb dX10_cost_62 rfl (lv_at hl 3 rfl) ?_
      refine lv_if_ne (tgt := 70) hx hb dX10_cost_63 (by decide) (fun c_17 => ?_) (fun c_17 => ?_)
      · have hf := (if_neg c_17).symm.trans hf
        refine lv_iload_n hx hb dX10_cost_70 rfl (lv_at hl 3 rfl) ?_
        refine lv_iconst (v := (1 : Int32)) hx hb dX10_cost_71 (by decide) ?_
        refine lv_icmp_ne (tgt := 81) hx hb dX10_cost_72 (by decide) (fun c_18 => ?_) (fun c_18 => ?_)
        · have hf := (if_neg c_18).symm.trans hf
          refine lv_iload_n hx hb dX10_cost_81 rfl (lv_at hl 3 rfl) ?_
          refine lv_iconst (v := (2 : Int32)) hx hb dX10_cost_82 (by decide) ?_
          refine lv_icmp_ne (tgt := 92) hx hb dX10_cost_83 (by decide) (fun c_19 => ?_) (fun c_19 => ?_)
          · have hf := (if_neg c_19).symm.trans hf
            refine lv_iload_n hx hb dX10_cost_92 rfl (lv_at hl 3 rfl) ?_
            refine lv_iconst (v := (3 : Int32)) hx hb dX10_cost_93 (by decide) ?_
            refine lv_icmp_ne (tgt := 103) hx hb dX10_cost_94 (by decide) (fun c_20 => ?_) (fun c_20 => ?_)
            · have hf := (if_neg c_20).symm.trans hf
              refine lv_iload_n hx hb dX10_cost_103 rfl (lv_at hl 3 rfl) ?_
              refine lv_iconst (v := (4 : Int32)) hx hb dX10_cost_104 (by decide) ?_
              refine lv_icmp_ne (tgt := 114) hx hb dX10_cost_105 (by decide) (fun c_21 => ?_) (fun c_21 => ?_)
              · have hf := (if_neg c_21).symm.trans hf
                refine lv_iload_n hx hb dX10_cost_114 rfl (lv_at hl 3 rfl) ?_
                refine lv_iconst (v := (5 : Int32)) hx hb dX10_cost_115 (by decide) ?_
                refine lv_icmp_ne (tgt := 125) hx hb dX10_cost_116 (by decide) (fun c_22 => ?_) (fun c_22 => ?_)
                · have hf := (if_neg c_22).symm.trans hf
                  refine lv_ldc2 (v := (1000011 : Int64)) hx hb hown (hts _ fk_X10_cost_6) dX10_cost_125 ?_
                  exact w_X10_cost_b128 X  hf hP hD hS (lv_sub hl [2, 3, 1, 0] rfl)
                · have hf := (if_pos c_22).symm.trans hf
                  refine lv_ldc2 (v := (100001 : Int64)) hx hb hown (hts _ fk_X10_cost_7) dX10_cost_119 ?_
                  refine lv_goto (tgt := 128) hx hb dX10_cost_122 (by decide) ?_
                  exact w_X10_cost_b128 X  hf hP hD hS (lv_sub hl [2, 3, 1, 0] rfl)
              · have hf := (if_pos c_21).symm.trans hf
                refine lv_ldc2 (v := (11001 : Int64)) hx hb hown (hts _ fk_X10_cost_8) dX10_cost_108 ?_
                refine lv_goto (tgt := 128) hx hb dX10_cost_111 (by decide) ?_
                exact w_X10_cost_b128 X  hf hP hD hS (lv_sub hl [2, 3, 1, 0] rfl)
            · have hf := (if_pos c_20).symm.trans hf
              refine lv_ldc2 (v := (1001 : Int64)) hx hb hown (hts _ fk_X10_cost_9) dX10_cost_97 ?_
              refine lv_goto (tgt := 128) hx hb dX10_cost_100 (by decide) ?_
              exact w_X10_cost_b128 X  hf hP hD hS (lv_sub hl [2, 3, 1, 0] rfl)
          · have hf := (if_pos c_19).symm.trans hf
            refine lv_ldc2 (v := (101 : Int64)) hx hb hown (hts _ fk_X10_cost_10) dX10_cost_86 ?_
            refine lv_goto (tgt := 128) hx hb dX10_cost_89 (by decide) ?_
            exact w_X10_cost_b128 X  hf hP hD hS (lv_sub hl [2, 3, 1, 0] rfl)
        · have hf := (if_pos c_18).symm.trans hf
          refine lv_ldc2 (v := (11 : Int64)) hx hb hown (hts _ fk_X10_cost_11) dX10_cost_75 ?_
          refine lv_goto (tgt := 128) hx hb dX10_cost_78 (by decide) ?_
          exact w_X10_cost_b128 X  hf hP hD hS (lv_sub hl [2, 3, 1, 0] rfl)
      · have hf := (if_pos c_17).symm.trans hf
        refine lv_lconst (v := (1 : Int64)) hx hb dX10_cost_66 (by decide) ?_
        refine lv_goto (tgt := 128) hx hb dX10_cost_67 (by decide) ?_
        exact w_X10_cost_b128 X  hf hP hD hS (lv_sub hl [2, 3, 1, 0] rfl)
    · have hf := (if_pos c_12).symm.trans hf
      refine lv_iconst (v := (-1 : Int32)) hx hb dX10_cost_22 (by decide) ?_
      obtain rfl := Option.some.inj hf
      exact pa_ei X hP hD hS dX10_cost_23
set_option maxHeartbeats 4000000 in
set_option maxRecDepth 100000 in
theorem c_X10_cost {l : Launch} {D : va_G} {cI cJ : ClassId} {g : pa_GT} {a_m a_mt a_ml a_mr a_mx a_mf a_mg a_mw a_mh : Nat} {x1 : Int32} {x2 : Int32} {v_m_thrown : Int32} {v_m_trace : Int64} {v_m_typed : Int32} {v_m_next : Int32} {v_m_token : Int32} {v_m_place : Int32} {v_m_value : Int32} {v_m_fault : Int32} {v_m_finds : Int32} {v_m_weeks : Int32} {v_m_rows : Int32} {v_m_cardPrice : Int32} {v_m_lotPrice : Int32} {v_m_sure : Int32} {v_m_up : Int64} {v_m_down : Int64} {v_ml : Nat → Int32} {o : Int32 × Int32 × Int64} (hf : f_X10_cost x1 x2 v_m_trace v_m_finds v_m_weeks v_m_cardPrice v_m_lotPrice v_ml = some o) : pa_Mi l yX10_cost wsX10_cost rm_X10_cost D cI cJ g [.ref a_m, .int x1, .int x2] (wo_X10_cost cI cJ a_m a_mt a_ml a_mr a_mx a_mf a_mg a_mw a_mh v_m_thrown v_m_trace v_m_typed v_m_next v_m_token v_m_place v_m_value v_m_fault v_m_finds v_m_weeks v_m_rows v_m_cardPrice v_m_lotPrice v_m_sure v_m_up v_m_down v_ml) (wo_X10_cost cI cJ a_m a_mt a_ml a_mr a_mx a_mf a_mg a_mw a_mh o.2.1 o.2.2 v_m_typed v_m_next v_m_token v_m_place v_m_value v_m_fault v_m_finds v_m_weeks v_m_rows v_m_cardPrice v_m_lotPrice v_m_sure v_m_up v_m_down v_ml) o.1 := by
  intro sz
  refine pa_met (cc := cX10_cost) (maxL := 5) (ret := (some .int)) (lv := [(0, .ref a_m), (1, .int x1), (2, .int x2)]) (by decide) rfl (Nat.le_of_ble_eq_true rfl) rfl ?_
  intro p e s m below meth c X hsz hP hD ls hl
  subst hsz
  exact w_X10_cost_b0 X hf hP hD va_S.rf hl
abbrev wo_X10_everybody (cI cJ : ClassId) (a_m a_mt a_ml a_mr a_mx a_mf a_mg a_mw a_mh : Nat) (v_m_thrown : Int32) (v_m_trace : Int64) (v_m_typed : Int32) (v_m_next : Int32) (v_m_token : Int32) (v_m_place : Int32) (v_m_value : Int32) (v_m_fault : Int32) (v_m_finds : Int32) (v_m_weeks : Int32) (v_m_rows : Int32) (v_m_cardPrice : Int32) (v_m_lotPrice : Int32) (v_m_sure : Int32) (v_m_up : Int64) (v_m_down : Int64) (v_ml : Nat → Int32) : va_W := [(a_m, .inr (9, [.int v_m_thrown, .long v_m_trace, .ref a_mt, .ref a_ml, .ref a_mr, .ref a_mx, .int v_m_typed, .int v_m_next, .int v_m_token, .int v_m_place, .int v_m_value, .int v_m_fault, .int v_m_finds, .ref a_mf, .ref a_mg, .int v_m_weeks, .ref a_mw, .int v_m_rows, .ref a_mh, .int v_m_cardPrice, .int v_m_lotPrice, .int v_m_sure, .long v_m_up, .long v_m_down])), (a_ml, .inl (cI, 32, .inl v_ml))]
abbrev rm_X10_everybody : Room := { frames := 1, cells := 0, slots := 0, locals := 24 }
def f_X10_everybody_L4_body (v_ml : Nat → Int32) (rec4 : Int32 → Int32 → Option (Int32)) (x1 : Int32) (x2 : Int32) : Option (Int32) :=
  if (4 : Int32) ≤ x2 then
    some (x1)
  else
    (f_X10_persons x2 (255 : Int32) v_ml).bind fun u_2 =>
    rec4 (x1 + u_2) (x2 + (1 : Int32))
def f_X10_everybody_L4 (v_ml : Nat → Int32) : Nat → Int32 → Int32 → Option (Int32)
  | 0 => fun _ _ => none
  | n + 1 => f_X10_everybody_L4_body v_ml (f_X10_everybody_L4 v_ml n)
def f_X10_everybody (v_ml : Nat → Int32) : Option (Int32) :=
  f_X10_everybody_L4 v_ml pa_fu (0 : Int32) (0 : Int32)
set_option maxHeartbeats 4000000 in
set_option maxRecDepth 100000 in
theorem w_X10_everybody_L4 {l : Launch} {D : va_G} {cI cJ : ClassId} {g : pa_GT} {a_m a_mt a_ml a_mr a_mx a_mf a_mg a_mw a_mh : Nat} {A : Nat → Prop} {p : Program} {e : Env} {s : State} {m : MethodId} {args : Array Value} {below : List Frame} {meth : Method} {c : Code} {v_ml : Nat → Int32} {v_m_thrown : Int32} {v_m_trace : Int64} {v_m_typed : Int32} {v_m_next : Int32} {v_m_token : Int32} {v_m_place : Int32} {v_m_value : Int32} {v_m_fault : Int32} {v_m_finds : Int32} {v_m_weeks : Int32} {v_m_rows : Int32} {v_m_cardPrice : Int32} {v_m_lotPrice : Int32} {v_m_sure : Int32} {v_m_up : Int64} {v_m_down : Int64} {o : Int32} (X : pa_X cX10_everybody 3 (some .int) RX10 wsX10_everybody D cI cJ g A p s m args meth c)  : ∀ (n : Nat) (x1 : Int32) (x2 : Int32), f_X10_everybody_L4 v_ml n x1 x2 = some o → ∀ (H : Heap) (locs : List Loc) , va_P D vwCl (wo_X10_everybody cI cJ a_m a_mt a_ml a_mr a_mx a_mf a_mg a_mw a_mh v_m_thrown v_m_trace v_m_typed v_m_next v_m_token v_m_place v_m_value v_m_fault v_m_finds v_m_weeks v_m_rows v_m_cardPrice v_m_lotPrice v_m_sure v_m_up v_m_down v_ml) H → va_D A (wo_X10_everybody cI cJ a_m a_mt a_ml a_mr a_mx a_mf a_mg a_mw a_mh v_m_thrown v_m_trace v_m_typed v_m_next v_m_token v_m_place v_m_value v_m_fault v_m_finds v_m_weeks v_m_rows v_m_cardPrice v_m_lotPrice v_m_sure v_m_up v_m_down v_ml) → va_S A s.heap H locs → ∀ (ls : Array Slot), lv_has ls 3 [(0, .ref a_m), (1, .int x1), (2, .int x2)] → W p l e (headSpec wsX10_everybody rm_X10_everybody).room s m args below meth c H locs 0 0 (MQ below (va_Qi (fun r (_ : Unit) => r = o) (pa_QB D A (wo_X10_everybody cI cJ a_m a_mt a_ml a_mr a_mx a_mf a_mg a_mw a_mh v_m_thrown v_m_trace v_m_typed v_m_next v_m_token v_m_place v_m_value v_m_fault v_m_finds v_m_weeks v_m_rows v_m_cardPrice v_m_lotPrice v_m_sure v_m_up v_m_down v_ml)) A) args s 0 0 A) (F0 m 4 ls []) := by
  obtain ⟨hx, hb, hr, hml, hown, hts, hK, hA, hG, hlk⟩ := id X
  intro n
  induction n with
  | zero =>
    intro x1 x2 hf
    have hf : (none : Option (Int32)) = some o := hf
    cases hf
  | succ n hrec4 =>
    intro x1 x2 hf H locs  hP hD hS ls hl
    have hf : f_X10_everybody_L4_body v_ml (f_X10_everybody_L4 v_ml n) x1 x2 = some o := hf
    delta f_X10_everybody_L4_body at hf
    generalize hgr : f_X10_everybody_L4 v_ml n = rec4 at hf hrec4
    refine lv_iload_n hx hb dX10_everybody_4 rfl (lv_at hl 2 rfl) ?_
    refine lv_iconst (v := (4 : Int32)) hx hb dX10_everybody_5 (by decide) ?_
    refine lv_icmp_ge (tgt := 26) hx hb dX10_everybody_6 (by decide) (fun c_1 => ?_) (fun c_1 => ?_)
    · have hf := (if_pos c_1).symm.trans hf
      refine lv_iload_n hx hb dX10_everybody_26 rfl (lv_at hl 1 rfl) ?_
      obtain rfl := Option.some.inj hf
      exact pa_ei X hP hD hS dX10_everybody_27
    · have hf := (if_neg c_1).symm.trans hf
      refine lv_iload_n hx hb dX10_everybody_9 rfl (lv_at hl 1 rfl) ?_
      refine lv_aload_n hx hb dX10_everybody_10 rfl (lv_at hl 0 rfl) ?_
      refine lv_iload_n hx hb dX10_everybody_11 rfl (lv_at hl 2 rfl) ?_
      refine lv_sipush (v := (255 : Int32)) hx hb dX10_everybody_12 (by decide) ?_
      obtain ⟨u_2, hg_3, hf⟩ := pa_bd hf
      refine pa_ki (wc := (wo_X10_persons cI cJ a_m a_mt a_ml a_mr a_mx a_mf a_mg a_mw a_mh v_m_thrown v_m_trace v_m_typed v_m_next v_m_token v_m_place v_m_value v_m_fault v_m_finds v_m_weeks v_m_rows v_m_cardPrice v_m_lotPrice v_m_sure v_m_up v_m_down v_ml)) (wr := ([] : va_W)) (w1 := (wo_X10_persons cI cJ a_m a_mt a_ml a_mr a_mx a_mf a_mg a_mw a_mh v_m_thrown v_m_trace v_m_typed v_m_next v_m_token v_m_place v_m_value v_m_fault v_m_finds v_m_weeks v_m_rows v_m_cardPrice v_m_lotPrice v_m_sure v_m_up v_m_down v_ml)) (w2 := (wo_X10_everybody cI cJ a_m a_mt a_ml a_mr a_mx a_mf a_mg a_mw a_mh v_m_thrown v_m_trace v_m_typed v_m_next v_m_token v_m_place v_m_value v_m_fault v_m_finds v_m_weeks v_m_rows v_m_cardPrice v_m_lotPrice v_m_sure v_m_up v_m_down v_ml)) X hP hD hS [0, 1] [] [0, 1] rfl (pa_rV (As := [.int x2, .int (255 : Int32)]) (rest := [.int x1]) (T := TX10) X hP hD hS [0, 1] rfl rfl (c_X10_persons hg_3 H.size) (cwV 2 hts gX10_everybody_X10_persons rfl rfl rfl (by decide +kernel) ⟨Nat.le_of_ble_eq_true rfl, Nat.le_of_ble_eq_true rfl⟩) (q0 := 0) rfl rfl rfl hl.1 rfl (Nat.le_of_ble_eq_true rfl) dX10_everybody_15 ⟨Nat.zero_le _, Nat.zero_le _⟩) rfl rfl (by decide) rfl rfl (fun H locs hP hD hS => ?_)
      refine lv_iadd hx hb dX10_everybody_18 ?_
      refine lv_istore_n (lv' := [(1, .int (x1 + u_2)), (0, .ref a_m), (2, .int x2)]) hx hb dX10_everybody_19 rfl hl (by decide) rfl (fun ls hl => ?_)
      refine lv_iinc (v := (x2 + (1 : Int32))) (lv' := [(2, .int (x2 + (1 : Int32))), (1, .int (x1 + u_2)), (0, .ref a_m)]) hx hb dX10_everybody_20 hl (k := 2) rfl rfl (by decide) rfl (fun ls hl => ?_)
      refine lv_goto (tgt := 4) hx hb dX10_everybody_23 (by decide) ?_
      exact hrec4 _ _ hf _ _  hP hD hS _ (lv_sub hl [2, 1, 0] rfl)
set_option maxHeartbeats 4000000 in
set_option maxRecDepth 100000 in
theorem w_X10_everybody_b0 {l : Launch} {D : va_G} {cI cJ : ClassId} {g : pa_GT} {a_m a_mt a_ml a_mr a_mx a_mf a_mg a_mw a_mh : Nat} {A : Nat → Prop} {p : Program} {e : Env} {s : State} {m : MethodId} {args : Array Value} {below : List Frame} {meth : Method} {c : Code} {v_ml : Nat → Int32} {v_m_thrown : Int32} {v_m_trace : Int64} {v_m_typed : Int32} {v_m_next : Int32} {v_m_token : Int32} {v_m_place : Int32} {v_m_value : Int32} {v_m_fault : Int32} {v_m_finds : Int32} {v_m_weeks : Int32} {v_m_rows : Int32} {v_m_cardPrice : Int32} {v_m_lotPrice : Int32} {v_m_sure : Int32} {v_m_up : Int64} {v_m_down : Int64} {o : Int32} (X : pa_X cX10_everybody 3 (some .int) RX10 wsX10_everybody D cI cJ g A p s m args meth c)  (hf : f_X10_everybody v_ml = some o) {H : Heap} {locs : List Loc} (hP : va_P D vwCl (wo_X10_everybody cI cJ a_m a_mt a_ml a_mr a_mx a_mf a_mg a_mw a_mh v_m_thrown v_m_trace v_m_typed v_m_next v_m_token v_m_place v_m_value v_m_fault v_m_finds v_m_weeks v_m_rows v_m_cardPrice v_m_lotPrice v_m_sure v_m_up v_m_down v_ml) H) (hD : va_D A (wo_X10_everybody cI cJ a_m a_mt a_ml a_mr a_mx a_mf a_mg a_mw a_mh v_m_thrown v_m_trace v_m_typed v_m_next v_m_token v_m_place v_m_value v_m_fault v_m_finds v_m_weeks v_m_rows v_m_cardPrice v_m_lotPrice v_m_sure v_m_up v_m_down v_ml)) (hS : va_S A s.heap H locs) {ls : Array Slot} (hl : lv_has ls 3 [(0, .ref a_m)]) : W p l e (headSpec wsX10_everybody rm_X10_everybody).room s m args below meth c H locs 0 0 (MQ below (va_Qi (fun r (_ : Unit) => r = o) (pa_QB D A (wo_X10_everybody cI cJ a_m a_mt a_ml a_mr a_mx a_mf a_mg a_mw a_mh v_m_thrown v_m_trace v_m_typed v_m_next v_m_token v_m_place v_m_value v_m_fault v_m_finds v_m_weeks v_m_rows v_m_cardPrice v_m_lotPrice v_m_sure v_m_up v_m_down v_ml)) A) args s 0 0 A) (F0 m 0 ls []) := by
  obtain ⟨hx, hb, hr, hml, hown, hts, hK, hA, hG, hlk⟩ := id X
  delta f_X10_everybody at hf
  refine lv_iconst (v := (0 : Int32)) hx hb dX10_everybody_0 (by decide) ?_
  refine lv_istore_n (lv' := [(1, .int (0 : Int32)), (0, .ref a_m)]) hx hb dX10_everybody_1 rfl hl (by decide) rfl (fun ls hl => ?_)
  refine lv_iconst (v := (0 : Int32)) hx hb dX10_everybody_2 (by decide) ?_
  refine lv_istore_n (lv' := [(2, .int (0 : Int32)), (1, .int (0 : Int32)), (0, .ref a_m)]) hx hb dX10_everybody_3 rfl hl (by decide) rfl (fun ls hl => ?_)
  exact w_X10_everybody_L4 X  _ _ _ hf _ _  hP hD hS _ (lv_sub hl [2, 1, 0] rfl)
set_option maxHeartbeats 4000000 in
set_option maxRecDepth 100000 in
theorem c_X10_everybody {l : Launch} {D : va_G} {cI cJ : ClassId} {g : pa_GT} {a_m a_mt a_ml a_mr a_mx a_mf a_mg a_mw a_mh : Nat}  {v_m_thrown : Int32} {v_m_trace : Int64} {v_m_typed : Int32} {v_m_next : Int32} {v_m_token : Int32} {v_m_place : Int32} {v_m_value : Int32} {v_m_fault : Int32} {v_m_finds : Int32} {v_m_weeks : Int32} {v_m_rows : Int32} {v_m_cardPrice : Int32} {v_m_lotPrice : Int32} {v_m_sure : Int32} {v_m_up : Int64} {v_m_down : Int64} {v_ml : Nat → Int32} {o : Int32} (hf : f_X10_everybody v_ml = some o) : pa_Mi l yX10_everybody wsX10_everybody rm_X10_everybody D cI cJ g [.ref a_m] (wo_X10_everybody cI cJ a_m a_mt a_ml a_mr a_mx a_mf a_mg a_mw a_mh v_m_thrown v_m_trace v_m_typed v_m_next v_m_token v_m_place v_m_value v_m_fault v_m_finds v_m_weeks v_m_rows v_m_cardPrice v_m_lotPrice v_m_sure v_m_up v_m_down v_ml) (wo_X10_everybody cI cJ a_m a_mt a_ml a_mr a_mx a_mf a_mg a_mw a_mh v_m_thrown v_m_trace v_m_typed v_m_next v_m_token v_m_place v_m_value v_m_fault v_m_finds v_m_weeks v_m_rows v_m_cardPrice v_m_lotPrice v_m_sure v_m_up v_m_down v_ml) o := by
  intro sz
  refine pa_met (cc := cX10_everybody) (maxL := 3) (ret := (some .int)) (lv := [(0, .ref a_m)]) (by decide) rfl (Nat.le_of_ble_eq_true rfl) rfl ?_
  intro p e s m below meth c X hsz hP hD ls hl
  subst hsz
  exact w_X10_everybody_b0 X hf hP hD va_S.rf hl
abbrev wo_X10_begin (cI cJ : ClassId) (a_m a_mt a_ml a_mr a_mx a_mf a_mg a_mw a_mh : Nat) (v_m_thrown : Int32) (v_m_trace : Int64) (v_m_typed : Int32) (v_m_next : Int32) (v_m_token : Int32) (v_m_place : Int32) (v_m_value : Int32) (v_m_fault : Int32) (v_m_finds : Int32) (v_m_weeks : Int32) (v_m_rows : Int32) (v_m_cardPrice : Int32) (v_m_lotPrice : Int32) (v_m_sure : Int32) (v_m_up : Int64) (v_m_down : Int64) (v_ml : Nat → Int32) : va_W := [(a_m, .inr (9, [.int v_m_thrown, .long v_m_trace, .ref a_mt, .ref a_ml, .ref a_mr, .ref a_mx, .int v_m_typed, .int v_m_next, .int v_m_token, .int v_m_place, .int v_m_value, .int v_m_fault, .int v_m_finds, .ref a_mf, .ref a_mg, .int v_m_weeks, .ref a_mw, .int v_m_rows, .ref a_mh, .int v_m_cardPrice, .int v_m_lotPrice, .int v_m_sure, .long v_m_up, .long v_m_down])), (a_ml, .inl (cI, 32, .inl v_ml))]
abbrev rm_X10_begin : Room := { frames := 2, cells := 0, slots := 0, locals := 46 }
theorem il_X10_begin_X10 : ∀ w ∈ wsX100, w ∈ wsX10_begin := by decide +kernel
theorem fk_X10_begin_0 : Cond.fieldLink RX10 160 "PostedAsksModel" "weeks" "I" ∈ wsX10_begin := by decide +kernel
theorem fk_X10_begin_1 : Cond.fieldLink RX10 166 "PostedAsksModel" "rows" "I" ∈ wsX10_begin := by decide +kernel
theorem fk_X10_begin_2 : Cond.fieldLink RX10 13 "PostedAsksModel" "lands" "[I" ∈ wsX10_begin := by decide +kernel
theorem fk_X10_begin_3 : Cond.fieldLink RX10 45 "PostedAsksModel" "thrown" "I" ∈ wsX10_begin := by decide +kernel
def f_X10_begin_L12_body (x1 : Int32) (v_m_thrown : Int32) (rec12 : Int32 → (Nat → Int32) → Option (Int32 × Int32 × Int32 × Int32 × (Nat → Int32))) (x2 : Int32) (v_ml : Nat → Int32) : Option (Int32 × Int32 × Int32 × Int32 × (Nat → Int32)) :=
  if (32 : Int32) ≤ x2 then
    some (x1, v_m_thrown, (0 : Int32), (0 : Int32), v_ml)
  else
    if pa_ib x2 32 = true then
      rec12 (x2 + (1 : Int32)) (upd v_ml (Int32.toNatClampNeg x2) (0 : Int32))
    else none
def f_X10_begin_L12 (x1 : Int32) (v_m_thrown : Int32) : Nat → Int32 → (Nat → Int32) → Option (Int32 × Int32 × Int32 × Int32 × (Nat → Int32))
  | 0 => fun _ _ => none
  | n + 1 => f_X10_begin_L12_body x1 v_m_thrown (f_X10_begin_L12 x1 v_m_thrown n)
def f_X10_begin (v_ml : Nat → Int32) : Option (Int32 × Int32 × Int32 × Int32 × (Nat → Int32)) :=
  (f_X10_everybody v_ml).bind fun u_3 =>
  f_X10_begin_L12 u_3 (0 : Int32) pa_fu (0 : Int32) v_ml
set_option maxHeartbeats 4000000 in
set_option maxRecDepth 100000 in
theorem w_X10_begin_L12 {l : Launch} {D : va_G} {cI cJ : ClassId} {g : pa_GT} {a_m a_mt a_ml a_mr a_mx a_mf a_mg a_mw a_mh : Nat} {A : Nat → Prop} {p : Program} {e : Env} {s : State} {m : MethodId} {args : Array Value} {below : List Frame} {meth : Method} {c : Code} {x1 : Int32} {v_m_thrown : Int32} {v_m_trace : Int64} {v_m_typed : Int32} {v_m_next : Int32} {v_m_token : Int32} {v_m_place : Int32} {v_m_value : Int32} {v_m_fault : Int32} {v_m_finds : Int32} {v_m_cardPrice : Int32} {v_m_lotPrice : Int32} {v_m_sure : Int32} {v_m_up : Int64} {v_m_down : Int64} {o : Int32 × Int32 × Int32 × Int32 × (Nat → Int32)} (X : pa_X cX10_begin 3 (some .int) RX10 wsX10_begin D cI cJ g A p s m args meth c)  : ∀ (n : Nat) (x2 : Int32) (v_ml : Nat → Int32), f_X10_begin_L12 x1 v_m_thrown n x2 v_ml = some o → ∀ (H : Heap) (locs : List Loc) (v_m_weeks : Int32) (v_m_rows : Int32), va_P D vwCl (wo_X10_begin cI cJ a_m a_mt a_ml a_mr a_mx a_mf a_mg a_mw a_mh v_m_thrown v_m_trace v_m_typed v_m_next v_m_token v_m_place v_m_value v_m_fault v_m_finds v_m_weeks v_m_rows v_m_cardPrice v_m_lotPrice v_m_sure v_m_up v_m_down v_ml) H → va_D A (wo_X10_begin cI cJ a_m a_mt a_ml a_mr a_mx a_mf a_mg a_mw a_mh v_m_thrown v_m_trace v_m_typed v_m_next v_m_token v_m_place v_m_value v_m_fault v_m_finds v_m_weeks v_m_rows v_m_cardPrice v_m_lotPrice v_m_sure v_m_up v_m_down v_ml) → va_S A s.heap H locs → ∀ (ls : Array Slot), lv_has ls 3 [(0, .ref a_m), (1, .int x1), (2, .int x2)] → W p l e (headSpec wsX10_begin rm_X10_begin).room s m args below meth c H locs 0 0 (MQ below (va_Qi (fun r (_ : Unit) => r = o.1) (pa_QB D A (wo_X10_begin cI cJ a_m a_mt a_ml a_mr a_mx a_mf a_mg a_mw a_mh o.2.1 v_m_trace v_m_typed v_m_next v_m_token v_m_place v_m_value v_m_fault v_m_finds o.2.2.1 o.2.2.2.1 v_m_cardPrice v_m_lotPrice v_m_sure v_m_up v_m_down o.2.2.2.2)) A) args s 0 0 A) (F0 m 12 ls []) := by
  obtain ⟨hx, hb, hr, hml, hown, hts, hK, hA, hG, hlk⟩ := id X
  intro n
  induction n with
  | zero =>
    intro x2 v_ml hf
    have hf : (none : Option (Int32 × Int32 × Int32 × Int32 × (Nat → Int32))) = some o := hf
    cases hf
  | succ n hrec12 =>
    intro x2 v_ml hf H locs v_m_weeks v_m_rows hP hD hS ls hl
    have hf : f_X10_begin_L12_body x1 v_m_thrown (f_X10_begin_L12 x1 v_m_thrown n) x2 v_ml = some o := hf
    delta f_X10_begin_L12_body at hf
    generalize hgr : f_X10_begin_L12 x1 v_m_thrown n = rec12 at hf hrec12
    refine lv_iload_n hx hb dX10_begin_12 rfl (lv_at hl 2 rfl) ?_
    refine lv_bipush (v := (32 : Int32)) hx hb dX10_begin_13 (by decide) ?_
    refine lv_icmp_ge (tgt := 31) hx hb dX10_begin_15 (by decide) (fun c_1 => ?_) (fun c_1 => ?_)
    · have hf := (if_pos c_1).symm.trans hf
      refine lv_aload_n hx hb dX10_begin_31 rfl (lv_at hl 0 rfl) ?_
      refine lv_iconst (v := (0 : Int32)) hx hb dX10_begin_32 (by decide) ?_
      refine va_put (D := D) (ci := 9) (v := .int (0 : Int32)) (ty := .int) (C := RX10) (T := TX10) (N := 24) hx hb hts il_X10_begin_X10 tyX10 tyX10_ok nmX10 hown hK hP hD hS 0 rfl rfl 15 (by decide) (hts _ fk_X10_begin_0) (fun _ h9 => h9) rfl (tyX10_ok 15 (by decide)) rfl rfl (Nat.le_of_ble_eq_true rfl) dX10_begin_33 (fun H locs hP hD hS => ?_)
      have hP : va_P D vwCl (wo_X10_begin cI cJ a_m a_mt a_ml a_mr a_mx a_mf a_mg a_mw a_mh v_m_thrown v_m_trace v_m_typed v_m_next v_m_token v_m_place v_m_value v_m_fault v_m_finds (0 : Int32) v_m_rows v_m_cardPrice v_m_lotPrice v_m_sure v_m_up v_m_down v_ml) H := hP
      have hD : va_D A (wo_X10_begin cI cJ a_m a_mt a_ml a_mr a_mx a_mf a_mg a_mw a_mh v_m_thrown v_m_trace v_m_typed v_m_next v_m_token v_m_place v_m_value v_m_fault v_m_finds (0 : Int32) v_m_rows v_m_cardPrice v_m_lotPrice v_m_sure v_m_up v_m_down v_ml) := hD
      refine lv_aload_n hx hb dX10_begin_36 rfl (lv_at hl 0 rfl) ?_
      refine lv_iconst (v := (0 : Int32)) hx hb dX10_begin_37 (by decide) ?_
      refine va_put (D := D) (ci := 9) (v := .int (0 : Int32)) (ty := .int) (C := RX10) (T := TX10) (N := 24) hx hb hts il_X10_begin_X10 tyX10 tyX10_ok nmX10 hown hK hP hD hS 0 rfl rfl 17 (by decide) (hts _ fk_X10_begin_1) (fun _ h9 => h9) rfl (tyX10_ok 17 (by decide)) rfl rfl (Nat.le_of_ble_eq_true rfl) dX10_begin_38 (fun H locs hP hD hS => ?_)
      have hP : va_P D vwCl (wo_X10_begin cI cJ a_m a_mt a_ml a_mr a_mx a_mf a_mg a_mw a_mh v_m_thrown v_m_trace v_m_typed v_m_next v_m_token v_m_place v_m_value v_m_fault v_m_finds (0 : Int32) (0 : Int32) v_m_cardPrice v_m_lotPrice v_m_sure v_m_up v_m_down v_ml) H := hP
      have hD : va_D A (wo_X10_begin cI cJ a_m a_mt a_ml a_mr a_mx a_mf a_mg a_mw a_mh v_m_thrown v_m_trace v_m_typed v_m_next v_m_token v_m_place v_m_value v_m_fault v_m_finds (0 : Int32) (0 : Int32) v_m_cardPrice v_m_lotPrice v_m_sure v_m_up v_m_down v_ml) := hD
      refine lv_iload_n hx hb dX10_begin_41 rfl (lv_at hl 1 rfl) ?_
      obtain rfl := Option.some.inj hf
      exact pa_ei X hP hD hS dX10_begin_42
    · have hf := (if_neg c_1).symm.trans hf
      refine lv_aload_n hx hb dX10_begin_18 rfl (lv_at hl 0 rfl) ?_
      refine va_get (D := D) (ci := 9) (v := .ref a_ml) (C := RX10) (T := TX10) (N := 24) hx hb hts il_X10_begin_X10 hown hK hP 0 rfl rfl 3 (by decide) (hts _ fk_X10_begin_2) (fun _ h9 => h9) rfl dX10_begin_19 ?_
      refine lv_iload_n hx hb dX10_begin_22 rfl (lv_at hl 2 rfl) ?_
      refine lv_iconst (v := (0 : Int32)) hx hb dX10_begin_23 (by decide) ?_
      obtain ⟨hi_2, hf⟩ := pa_gd hf
      refine va_iast hx hb hK hP hD hS 1 0 rfl rfl hi_2 dX10_begin_24 (fun H locs hP hD hS => ?_)
      have hP : va_P D vwCl (wo_X10_begin cI cJ a_m a_mt a_ml a_mr a_mx a_mf a_mg a_mw a_mh v_m_thrown v_m_trace v_m_typed v_m_next v_m_token v_m_place v_m_value v_m_fault v_m_finds v_m_weeks v_m_rows v_m_cardPrice v_m_lotPrice v_m_sure v_m_up v_m_down (upd v_ml (Int32.toNatClampNeg x2) (0 : Int32))) H := hP
      have hD : va_D A (wo_X10_begin cI cJ a_m a_mt a_ml a_mr a_mx a_mf a_mg a_mw a_mh v_m_thrown v_m_trace v_m_typed v_m_next v_m_token v_m_place v_m_value v_m_fault v_m_finds v_m_weeks v_m_rows v_m_cardPrice v_m_lotPrice v_m_sure v_m_up v_m_down (upd v_ml (Int32.toNatClampNeg x2) (0 : Int32))) := hD
      refine lv_iinc (v := (x2 + (1 : Int32))) (lv' := [(2, .int (x2 + (1 : Int32))), (0, .ref a_m), (1, .int x1)]) hx hb dX10_begin_25 hl (k := 2) rfl rfl (by decide) rfl (fun ls hl => ?_)
      refine lv_goto (tgt := 12) hx hb dX10_begin_28 (by decide) ?_
      exact hrec12 _ _ hf _ _ _ _ hP hD hS _ (lv_sub hl [1, 2, 0] rfl)
set_option maxHeartbeats 4000000 in
set_option maxRecDepth 100000 in
theorem w_X10_begin_b0 {l : Launch} {D : va_G} {cI cJ : ClassId} {g : pa_GT} {a_m a_mt a_ml a_mr a_mx a_mf a_mg a_mw a_mh : Nat} {A : Nat → Prop} {p : Program} {e : Env} {s : State} {m : MethodId} {args : Array Value} {below : List Frame} {meth : Method} {c : Code} {v_ml : Nat → Int32} {v_m_thrown : Int32} {v_m_trace : Int64} {v_m_typed : Int32} {v_m_next : Int32} {v_m_token : Int32} {v_m_place : Int32} {v_m_value : Int32} {v_m_fault : Int32} {v_m_finds : Int32} {v_m_weeks : Int32} {v_m_rows : Int32} {v_m_cardPrice : Int32} {v_m_lotPrice : Int32} {v_m_sure : Int32} {v_m_up : Int64} {v_m_down : Int64} {o : Int32 × Int32 × Int32 × Int32 × (Nat → Int32)} (X : pa_X cX10_begin 3 (some .int) RX10 wsX10_begin D cI cJ g A p s m args meth c)  (hf : f_X10_begin v_ml = some o) {H : Heap} {locs : List Loc} (hP : va_P D vwCl (wo_X10_begin cI cJ a_m a_mt a_ml a_mr a_mx a_mf a_mg a_mw a_mh v_m_thrown v_m_trace v_m_typed v_m_next v_m_token v_m_place v_m_value v_m_fault v_m_finds v_m_weeks v_m_rows v_m_cardPrice v_m_lotPrice v_m_sure v_m_up v_m_down v_ml) H) (hD : va_D A (wo_X10_begin cI cJ a_m a_mt a_ml a_mr a_mx a_mf a_mg a_mw a_mh v_m_thrown v_m_trace v_m_typed v_m_next v_m_token v_m_place v_m_value v_m_fault v_m_finds v_m_weeks v_m_rows v_m_cardPrice v_m_lotPrice v_m_sure v_m_up v_m_down v_ml)) (hS : va_S A s.heap H locs) {ls : Array Slot} (hl : lv_has ls 3 [(0, .ref a_m)]) : W p l e (headSpec wsX10_begin rm_X10_begin).room s m args below meth c H locs 0 0 (MQ below (va_Qi (fun r (_ : Unit) => r = o.1) (pa_QB D A (wo_X10_begin cI cJ a_m a_mt a_ml a_mr a_mx a_mf a_mg a_mw a_mh o.2.1 v_m_trace v_m_typed v_m_next v_m_token v_m_place v_m_value v_m_fault v_m_finds o.2.2.1 o.2.2.2.1 v_m_cardPrice v_m_lotPrice v_m_sure v_m_up v_m_down o.2.2.2.2)) A) args s 0 0 A) (F0 m 0 ls []) := by
  obtain ⟨hx, hb, hr, hml, hown, hts, hK, hA, hG, hlk⟩ := id X
  delta f_X10_begin at hf
  refine lv_aload_n hx hb dX10_begin_0 rfl (lv_at hl 0 rfl) ?_
  refine lv_iconst (v := (0 : Int32)) hx hb dX10_begin_1 (by decide) ?_
  refine va_put (D := D) (ci := 9) (v := .int (0 : Int32)) (ty := .int) (C := RX10) (T := TX10) (N := 24) hx hb hts il_X10_begin_X10 tyX10 tyX10_ok nmX10 hown hK hP hD hS 0 rfl rfl 0 (by decide) (hts _ fk_X10_begin_3) (fun _ h9 => h9) rfl (tyX10_ok 0 (by decide)) rfl rfl (Nat.le_of_ble_eq_true rfl) dX10_begin_2 (fun H locs hP hD hS => ?_)
  have hP : va_P D vwCl (wo_X10_begin cI cJ a_m a_mt a_ml a_mr a_mx a_mf a_mg a_mw a_mh (0 : Int32) v_m_trace v_m_typed v_m_next v_m_token v_m_place v_m_value v_m_fault v_m_finds v_m_weeks v_m_rows v_m_cardPrice v_m_lotPrice v_m_sure v_m_up v_m_down v_ml) H := hP
  have hD : va_D A (wo_X10_begin cI cJ a_m a_mt a_ml a_mr a_mx a_mf a_mg a_mw a_mh (0 : Int32) v_m_trace v_m_typed v_m_next v_m_token v_m_place v_m_value v_m_fault v_m_finds v_m_weeks v_m_rows v_m_cardPrice v_m_lotPrice v_m_sure v_m_up v_m_down v_ml) := hD
  refine lv_aload_n hx hb dX10_begin_5 rfl (lv_at hl 0 rfl) ?_
  obtain ⟨u_3, hg_4, hf⟩ := pa_bd hf
  refine pa_ki (wc := (wo_X10_everybody cI cJ a_m a_mt a_ml a_mr a_mx a_mf a_mg a_mw a_mh (0 : Int32) v_m_trace v_m_typed v_m_next v_m_token v_m_place v_m_value v_m_fault v_m_finds v_m_weeks v_m_rows v_m_cardPrice v_m_lotPrice v_m_sure v_m_up v_m_down v_ml)) (wr := ([] : va_W)) (w1 := (wo_X10_everybody cI cJ a_m a_mt a_ml a_mr a_mx a_mf a_mg a_mw a_mh (0 : Int32) v_m_trace v_m_typed v_m_next v_m_token v_m_place v_m_value v_m_fault v_m_finds v_m_weeks v_m_rows v_m_cardPrice v_m_lotPrice v_m_sure v_m_up v_m_down v_ml)) (w2 := (wo_X10_begin cI cJ a_m a_mt a_ml a_mr a_mx a_mf a_mg a_mw a_mh (0 : Int32) v_m_trace v_m_typed v_m_next v_m_token v_m_place v_m_value v_m_fault v_m_finds v_m_weeks v_m_rows v_m_cardPrice v_m_lotPrice v_m_sure v_m_up v_m_down v_ml)) X hP hD hS [0, 1] [] [0, 1] rfl (pa_rV (As := []) (rest := []) (T := TX10) X hP hD hS [0, 1] rfl rfl (c_X10_everybody hg_4 H.size) (cwV 0 hts gX10_begin_X10_everybody rfl rfl rfl (by decide +kernel) ⟨Nat.le_of_ble_eq_true rfl, Nat.le_of_ble_eq_true rfl⟩) (q0 := 0) rfl rfl rfl hl.1 rfl (Nat.le_of_ble_eq_true rfl) dX10_begin_6 ⟨Nat.zero_le _, Nat.zero_le _⟩) rfl rfl (by decide) rfl rfl (fun H locs hP hD hS => ?_)
  refine lv_istore_n (lv' := [(1, .int u_3), (0, .ref a_m)]) hx hb dX10_begin_9 rfl hl (by decide) rfl (fun ls hl => ?_)
  refine lv_iconst (v := (0 : Int32)) hx hb dX10_begin_10 (by decide) ?_
  refine lv_istore_n (lv' := [(2, .int (0 : Int32)), (1, .int u_3), (0, .ref a_m)]) hx hb dX10_begin_11 rfl hl (by decide) rfl (fun ls hl => ?_)
  exact w_X10_begin_L12 X  _ _ _ hf _ _ _ _ hP hD hS _ (lv_sub hl [2, 1, 0] rfl)
set_option maxHeartbeats 4000000 in
set_option maxRecDepth 100000 in
theorem c_X10_begin {l : Launch} {D : va_G} {cI cJ : ClassId} {g : pa_GT} {a_m a_mt a_ml a_mr a_mx a_mf a_mg a_mw a_mh : Nat}  {v_m_thrown : Int32} {v_m_trace : Int64} {v_m_typed : Int32} {v_m_next : Int32} {v_m_token : Int32} {v_m_place : Int32} {v_m_value : Int32} {v_m_fault : Int32} {v_m_finds : Int32} {v_m_weeks : Int32} {v_m_rows : Int32} {v_m_cardPrice : Int32} {v_m_lotPrice : Int32} {v_m_sure : Int32} {v_m_up : Int64} {v_m_down : Int64} {v_ml : Nat → Int32} {o : Int32 × Int32 × Int32 × Int32 × (Nat → Int32)} (hf : f_X10_begin v_ml = some o) : pa_Mi l yX10_begin wsX10_begin rm_X10_begin D cI cJ g [.ref a_m] (wo_X10_begin cI cJ a_m a_mt a_ml a_mr a_mx a_mf a_mg a_mw a_mh v_m_thrown v_m_trace v_m_typed v_m_next v_m_token v_m_place v_m_value v_m_fault v_m_finds v_m_weeks v_m_rows v_m_cardPrice v_m_lotPrice v_m_sure v_m_up v_m_down v_ml) (wo_X10_begin cI cJ a_m a_mt a_ml a_mr a_mx a_mf a_mg a_mw a_mh o.2.1 v_m_trace v_m_typed v_m_next v_m_token v_m_place v_m_value v_m_fault v_m_finds o.2.2.1 o.2.2.2.1 v_m_cardPrice v_m_lotPrice v_m_sure v_m_up v_m_down o.2.2.2.2) o.1 := by
  intro sz
  refine pa_met (cc := cX10_begin) (maxL := 3) (ret := (some .int)) (lv := [(0, .ref a_m)]) (by decide) rfl (Nat.le_of_ble_eq_true rfl) rfl ?_
  intro p e s m below meth c X hsz hP hD ls hl
  subst hsz
  exact w_X10_begin_b0 X hf hP hD va_S.rf hl
