abbrev rm_X10_in : Room := { frames := 0, cells := 0, slots := 0, locals := 0 }
def f_X10_in (x0 : Int32) (x1 : Int32) (x2 : Int32) : Option (Int32) :=
  if x0 < x1 then
    some ((0 : Int32))
  else
    if x2 < x0 then
      some ((0 : Int32))
    else
      some ((1 : Int32))
set_option maxHeartbeats 4000000 in
set_option maxRecDepth 100000 in
theorem w_X10_in_b0 {l : Launch} {D : va_G} {cI cJ : ClassId} {g : pa_GT} {A : Nat → Prop} {p : Program} {e : Env} {s : State} {m : MethodId} {args : Array Value} {below : List Frame} {meth : Method} {c : Code} {x0 : Int32} {x1 : Int32} {x2 : Int32}  {o : Int32} (X : pa_X cX10_in 3 (some .boolean) RX10 wsX10_in D cI cJ g A p s m args meth c)  (hf : f_X10_in x0 x1 x2 = some o) {H : Heap} {locs : List Loc} (hP : va_P D vwCl ([] : va_W) H) (hD : va_D A ([] : va_W)) (hS : va_S A s.heap H locs) {ls : Array Slot} (hl : lv_has ls 3 [(0, .int x0), (1, .int x1), (2, .int x2)]) : W p l e (headSpec wsX10_in rm_X10_in).room s m args below meth c H locs 0 0 (MQ below (va_Qi (fun r (_ : Unit) => r = o) (pa_QB D A ([] : va_W)) A) args s 0 0 A) (F0 m 0 ls []) := by
  obtain ⟨hx, hb, hr, hml, hown, hts, hK, hA, hG, hlk⟩ := id X
  delta f_X10_in at hf
  refine lv_iload_n hx hb dX10_in_0 rfl (lv_at hl 0 rfl) ?_
  refine lv_iload_n hx hb dX10_in_1 rfl (lv_at hl 1 rfl) ?_
  refine lv_icmp_lt (tgt := 14) hx hb dX10_in_2 (by decide) (fun c_1 => ?_) (fun c_1 => ?_)
  · have hf := (if_pos c_1).symm.trans hf
    refine lv_iconst (v := (0 : Int32)) hx hb dX10_in_14 (by decide) ?_
    obtain rfl := Option.some.inj hf
    exact pa_ez (v := (0 : Int32)) X hP hD hS rfl dX10_in_15
  · have hf := (if_neg c_1).symm.trans hf
    refine lv_iload_n hx hb dX10_in_5 rfl (lv_at hl 0 rfl) ?_
    refine lv_iload_n hx hb dX10_in_6 rfl (lv_at hl 2 rfl) ?_
    refine lv_icmp_gt (tgt := 14) hx hb dX10_in_7 (by decide) (fun c_2 => ?_) (fun c_2 => ?_)
    · have hf := (if_pos c_2).symm.trans hf
      refine lv_iconst (v := (0 : Int32)) hx hb dX10_in_14 (by decide) ?_
      obtain rfl := Option.some.inj hf
      exact pa_ez (v := (0 : Int32)) X hP hD hS rfl dX10_in_15
    · have hf := (if_neg c_2).symm.trans hf
      refine lv_iconst (v := (1 : Int32)) hx hb dX10_in_10 (by decide) ?_
      refine lv_goto (tgt := 15) hx hb dX10_in_11 (by decide) ?_
      obtain rfl := Option.some.inj hf
      exact pa_ez (v := (1 : Int32)) X hP hD hS rfl dX10_in_15
set_option maxHeartbeats 4000000 in
set_option maxRecDepth 100000 in
theorem c_X10_in {l : Launch} {D : va_G} {cI cJ : ClassId} {g : pa_GT} {x0 : Int32} {x1 : Int32} {x2 : Int32}  {o : Int32} (hf : f_X10_in x0 x1 x2 = some o) : pa_Mi l yX10_in wsX10_in rm_X10_in D cI cJ g [.int x0, .int x1, .int x2] ([] : va_W) ([] : va_W) o := by
  intro sz
  refine pa_met (cc := cX10_in) (maxL := 3) (ret := (some .boolean)) (lv := [(0, .int x0), (1, .int x1), (2, .int x2)]) (by decide) rfl (Nat.le_of_ble_eq_true rfl) rfl ?_
  intro p e s m below meth c X hsz hP hD ls hl
  subst hsz
  exact w_X10_in_b0 X hf hP hD va_S.rf hl
abbrev rm_X10_isLand : Room := { frames := 1, cells := 0, slots := 0, locals := 22 }
def f_X10_isLand (x0 : Int32) : Option (Int32) :=
  (f_X10_in x0 (0 : Int32) (3 : Int32)).bind fun u_1 =>
  if u_1 = 0 ∨ u_1 = 1 then some (u_1) else none
set_option maxHeartbeats 4000000 in
set_option maxRecDepth 100000 in
theorem w_X10_isLand_b0 {l : Launch} {D : va_G} {cI cJ : ClassId} {g : pa_GT} {A : Nat → Prop} {p : Program} {e : Env} {s : State} {m : MethodId} {args : Array Value} {below : List Frame} {meth : Method} {c : Code} {x0 : Int32}  {o : Int32} (X : pa_X cX10_isLand 1 (some .boolean) RX10 wsX10_isLand D cI cJ g A p s m args meth c)  (hf : f_X10_isLand x0 = some o) {H : Heap} {locs : List Loc} (hP : va_P D vwCl ([] : va_W) H) (hD : va_D A ([] : va_W)) (hS : va_S A s.heap H locs) {ls : Array Slot} (hl : lv_has ls 1 [(0, .int x0)]) : W p l e (headSpec wsX10_isLand rm_X10_isLand).room s m args below meth c H locs 0 0 (MQ below (va_Qi (fun r (_ : Unit) => r = o) (pa_QB D A ([] : va_W)) A) args s 0 0 A) (F0 m 0 ls []) := by
  obtain ⟨hx, hb, hr, hml, hown, hts, hK, hA, hG, hlk⟩ := id X
  delta f_X10_isLand at hf
  refine lv_iload_n hx hb dX10_isLand_0 rfl (lv_at hl 0 rfl) ?_
  refine lv_iconst (v := (0 : Int32)) hx hb dX10_isLand_1 (by decide) ?_
  refine lv_iconst (v := (3 : Int32)) hx hb dX10_isLand_2 (by decide) ?_
  obtain ⟨u_1, hg_2, hf⟩ := pa_bd hf
  refine pa_ki (wc := ([] : va_W)) (wr := ([] : va_W)) (w1 := ([] : va_W)) (w2 := ([] : va_W)) X hP hD hS [] [] [] rfl (pa_rS (As := [.int x0, .int (0 : Int32), .int (3 : Int32)]) (rest := []) X hP hD hS [] rfl rfl (c_X10_in hg_2 H.size) (va_cwS 3 hts gX10_isLand_X10_in rfl rfl rfl (by decide +kernel) ⟨Nat.le_of_ble_eq_true rfl, Nat.le_of_ble_eq_true rfl⟩) rfl hl.1 rfl (Nat.le_of_ble_eq_true rfl) dX10_isLand_3 ⟨Nat.zero_le _, Nat.zero_le _⟩) rfl rfl (by decide) rfl rfl (fun H locs hP hD hS => ?_)
  obtain ⟨hb_3, hf⟩ := pa_bo hf
  obtain rfl := Option.some.inj hf
  exact pa_ez (v := u_1) X hP hD hS hb_3 dX10_isLand_6
set_option maxHeartbeats 4000000 in
set_option maxRecDepth 100000 in
theorem c_X10_isLand {l : Launch} {D : va_G} {cI cJ : ClassId} {g : pa_GT} {x0 : Int32}  {o : Int32} (hf : f_X10_isLand x0 = some o) : pa_Mi l yX10_isLand wsX10_isLand rm_X10_isLand D cI cJ g [.int x0] ([] : va_W) ([] : va_W) o := by
  intro sz
  refine pa_met (cc := cX10_isLand) (maxL := 1) (ret := (some .boolean)) (lv := [(0, .int x0)]) (by decide) rfl (Nat.le_of_ble_eq_true rfl) rfl ?_
  intro p e s m below meth c X hsz hP hD ls hl
  subst hsz
  exact w_X10_isLand_b0 X hf hP hD va_S.rf hl
abbrev wo_X10_persons (cI cJ : ClassId) (a_m a_mt a_ml a_mr a_mx a_mf a_mg a_mw a_mh : Nat) (v_m_thrown : Int32) (v_m_trace : Int64) (v_m_typed : Int32) (v_m_next : Int32) (v_m_token : Int32) (v_m_place : Int32) (v_m_value : Int32) (v_m_fault : Int32) (v_m_finds : Int32) (v_m_weeks : Int32) (v_m_rows : Int32) (v_m_cardPrice : Int32) (v_m_lotPrice : Int32) (v_m_sure : Int32) (v_m_up : Int64) (v_m_down : Int64) (v_ml : Nat → Int32) : va_W := [(a_m, .inr (9, [.int v_m_thrown, .long v_m_trace, .ref a_mt, .ref a_ml, .ref a_mr, .ref a_mx, .int v_m_typed, .int v_m_next, .int v_m_token, .int v_m_place, .int v_m_value, .int v_m_fault, .int v_m_finds, .ref a_mf, .ref a_mg, .int v_m_weeks, .ref a_mw, .int v_m_rows, .ref a_mh, .int v_m_cardPrice, .int v_m_lotPrice, .int v_m_sure, .long v_m_up, .long v_m_down])), (a_ml, .inl (cI, 32, .inl v_ml))]
abbrev rm_X10_persons : Room := { frames := 0, cells := 0, slots := 0, locals := 0 }
theorem il_X10_persons_X10 : ∀ w ∈ wsX100, w ∈ wsX10_persons := by decide +kernel
theorem fk_X10_persons_0 : Cond.fieldLink RX10 13 "PostedAsksModel" "lands" "[I" ∈ wsX10_persons := by decide +kernel
def f_X10_persons_L5_body (x1 : Int32) (x2 : Int32) (v_ml : Nat → Int32) (rec5 : Int32 → Int32 → Option (Int32)) (x3 : Int32) (x4 : Int32) : Option (Int32) :=
  if (8 : Int32) ≤ x4 then
    some (x3)
  else
    if ((x2 >>> (x4 &&& 31)) &&& (1 : Int32)) = (1 : Int32) then
      if pa_ib (((8 : Int32) * x1) + x4) 32 = true then
        rec5 (x3 + (v_ml (Int32.toNatClampNeg (((8 : Int32) * x1) + x4)))) (x4 + (1 : Int32))
      else none
    else
      rec5 (x3 + (0 : Int32)) (x4 + (1 : Int32))
def f_X10_persons_L5 (x1 : Int32) (x2 : Int32) (v_ml : Nat → Int32) : Nat → Int32 → Int32 → Option (Int32)
  | 0 => fun _ _ => none
  | n + 1 => f_X10_persons_L5_body x1 x2 v_ml (f_X10_persons_L5 x1 x2 v_ml n)
def f_X10_persons (x1 : Int32) (x2 : Int32) (v_ml : Nat → Int32) : Option (Int32) :=
  f_X10_persons_L5 x1 x2 v_ml pa_fu (0 : Int32) (0 : Int32)
set_option maxHeartbeats 4000000 in
set_option maxRecDepth 100000 in
theorem w_X10_persons_L5 {l : Launch} {D : va_G} {cI cJ : ClassId} {g : pa_GT} {a_m a_mt a_ml a_mr a_mx a_mf a_mg a_mw a_mh : Nat} {A : Nat → Prop} {p : Program} {e : Env} {s : State} {m : MethodId} {args : Array Value} {below : List Frame} {meth : Method} {c : Code} {x1 : Int32} {x2 : Int32} {v_ml : Nat → Int32} {v_m_thrown : Int32} {v_m_trace : Int64} {v_m_typed : Int32} {v_m_next : Int32} {v_m_token : Int32} {v_m_place : Int32} {v_m_value : Int32} {v_m_fault : Int32} {v_m_finds : Int32} {v_m_weeks : Int32} {v_m_rows : Int32} {v_m_cardPrice : Int32} {v_m_lotPrice : Int32} {v_m_sure : Int32} {v_m_up : Int64} {v_m_down : Int64} {o : Int32} (X : pa_X cX10_persons 5 (some .int) RX10 wsX10_persons D cI cJ g A p s m args meth c)  : ∀ (n : Nat) (x3 : Int32) (x4 : Int32), f_X10_persons_L5 x1 x2 v_ml n x3 x4 = some o → ∀ (H : Heap) (locs : List Loc) , va_P D vwCl (wo_X10_persons cI cJ a_m a_mt a_ml a_mr a_mx a_mf a_mg a_mw a_mh v_m_thrown v_m_trace v_m_typed v_m_next v_m_token v_m_place v_m_value v_m_fault v_m_finds v_m_weeks v_m_rows v_m_cardPrice v_m_lotPrice v_m_sure v_m_up v_m_down v_ml) H → va_D A (wo_X10_persons cI cJ a_m a_mt a_ml a_mr a_mx a_mf a_mg a_mw a_mh v_m_thrown v_m_trace v_m_typed v_m_next v_m_token v_m_place v_m_value v_m_fault v_m_finds v_m_weeks v_m_rows v_m_cardPrice v_m_lotPrice v_m_sure v_m_up v_m_down v_ml) → va_S A s.heap H locs → ∀ (ls : Array Slot), lv_has ls 5 [(0, .ref a_m), (1, .int x1), (2, .int x2), (3, .int x3), (4, .int x4)] → W p l e (headSpec wsX10_persons rm_X10_persons).room s m args below meth c H locs 0 0 (MQ below (va_Qi (fun r (_ : Unit) => r = o) (pa_QB D A (wo_X10_persons cI cJ a_m a_mt a_ml a_mr a_mx a_mf a_mg a_mw a_mh v_m_thrown v_m_trace v_m_typed v_m_next v_m_token v_m_place v_m_value v_m_fault v_m_finds v_m_weeks v_m_rows v_m_cardPrice v_m_lotPrice v_m_sure v_m_up v_m_down v_ml)) A) args s 0 0 A) (F0 m 5 ls []) := by
  obtain ⟨hx, hb, hr, hml, hown, hts, hK, hA, hG, hlk⟩ := id X
  intro n
  induction n with
  | zero =>
    intro x3 x4 hf
    have hf : (none : Option (Int32)) = some o := hf
    cases hf
  | succ n hrec5 =>
    intro x3 x4 hf H locs  hP hD hS ls hl
    have hf : f_X10_persons_L5_body x1 x2 v_ml (f_X10_persons_L5 x1 x2 v_ml n) x3 x4 = some o := hf
    delta f_X10_persons_L5_body at hf
    generalize hgr : f_X10_persons_L5 x1 x2 v_ml n = rec5 at hf hrec5
    refine lv_iload hx hb dX10_persons_5 (lv_at hl 4 rfl) ?_
    refine lv_bipush (v := (8 : Int32)) hx hb dX10_persons_7 (by decide) ?_
    refine lv_icmp_ge (tgt := 47) hx hb dX10_persons_9 (by decide) (fun c_1 => ?_) (fun c_1 => ?_)
    · have hf := (if_pos c_1).symm.trans hf
      refine lv_iload_n hx hb dX10_persons_47 rfl (lv_at hl 3 rfl) ?_
      obtain rfl := Option.some.inj hf
      exact pa_ei X hP hD hS dX10_persons_48
    · have hf := (if_neg c_1).symm.trans hf
      refine lv_iload_n hx hb dX10_persons_12 rfl (lv_at hl 3 rfl) ?_
      refine lv_iload_n hx hb dX10_persons_13 rfl (lv_at hl 2 rfl) ?_
      refine lv_iload hx hb dX10_persons_14 (lv_at hl 4 rfl) ?_
      refine lv_ishr hx hb dX10_persons_16 ?_
      refine lv_iconst (v := (1 : Int32)) hx hb dX10_persons_17 (by decide) ?_
      refine lv_iand hx hb dX10_persons_18 ?_
      refine lv_iconst (v := (1 : Int32)) hx hb dX10_persons_19 (by decide) ?_
      refine lv_icmp_ne (tgt := 38) hx hb dX10_persons_20 (by decide) (fun c_2 => ?_) (fun c_2 => ?_)
      · have hf := (if_neg c_2).symm.trans hf
        refine lv_iconst (v := (0 : Int32)) hx hb dX10_persons_38 (by decide) ?_
        refine lv_iadd hx hb dX10_persons_39 ?_
        refine lv_istore_n (lv' := [(3, .int (x3 + (0 : Int32))), (0, .ref a_m), (1, .int x1), (2, .int x2), (4, .int x4)]) hx hb dX10_persons_40 rfl hl (by decide) rfl (fun ls hl => ?_)
        refine lv_iinc (v := (x4 + (1 : Int32))) (lv' := [(4, .int (x4 + (1 : Int32))), (3, .int (x3 + (0 : Int32))), (0, .ref a_m), (1, .int x1), (2, .int x2)]) hx hb dX10_persons_41 hl (k := 4) rfl rfl (by decide) rfl (fun ls hl => ?_)
        refine lv_goto (tgt := 5) hx hb dX10_persons_44 (by decide) ?_
        exact hrec5 _ _ hf _ _  hP hD hS _ (lv_sub hl [2, 3, 4, 1, 0] rfl)
      · have hf := (if_pos c_2).symm.trans hf
        refine lv_aload_n hx hb dX10_persons_23 rfl (lv_at hl 0 rfl) ?_
        refine va_get (D := D) (ci := 9) (v := .ref a_ml) (C := RX10) (T := TX10) (N := 24) hx hb hts il_X10_persons_X10 hown hK hP 0 rfl rfl 3 (by decide) (hts _ fk_X10_persons_0) (fun _ h9 => h9) rfl dX10_persons_24 ?_
        refine lv_bipush (v := (8 : Int32)) hx hb dX10_persons_27 (by decide) ?_
        refine lv_iload_n hx hb dX10_persons_29 rfl (lv_at hl 1 rfl) ?_
        refine lv_imul hx hb dX10_persons_30 ?_
        refine lv_iload hx hb dX10_persons_31 (lv_at hl 4 rfl) ?_
        refine lv_iadd hx hb dX10_persons_33 ?_
        obtain ⟨hi_3, hf⟩ := pa_gd hf
        refine va_iald hx hb hK hP 1 0 rfl rfl hi_3 dX10_persons_34 ?_
        refine lv_goto (tgt := 39) hx hb dX10_persons_35 (by decide) ?_
        refine lv_iadd hx hb dX10_persons_39 ?_
        refine lv_istore_n (lv' := [(3, .int (x3 + (v_ml (Int32.toNatClampNeg (((8 : Int32) * x1) + x4))))), (0, .ref a_m), (1, .int x1), (2, .int x2), (4, .int x4)]) hx hb dX10_persons_40 rfl hl (by decide) rfl (fun ls hl => ?_)
        refine lv_iinc (v := (x4 + (1 : Int32))) (lv' := [(4, .int (x4 + (1 : Int32))), (3, .int (x3 + (v_ml (Int32.toNatClampNeg (((8 : Int32) * x1) + x4))))), (0, .ref a_m), (1, .int x1), (2, .int x2)]) hx hb dX10_persons_41 hl (k := 4) rfl rfl (by decide) rfl (fun ls hl => ?_)
        refine lv_goto (tgt := 5) hx hb dX10_persons_44 (by decide) ?_
        exact hrec5 _ _ hf _ _  hP hD hS _ (lv_sub hl [2, 3, 4, 1, 0] rfl)
set_option maxHeartbeats 4000000 in
set_option maxRecDepth 100000 in
theorem w_X10_persons_b0 {l : Launch} {D : va_G} {cI cJ : ClassId} {g : pa_GT} {a_m a_mt a_ml a_mr a_mx a_mf a_mg a_mw a_mh : Nat} {A : Nat → Prop} {p : Program} {e : Env} {s : State} {m : MethodId} {args : Array Value} {below : List Frame} {meth : Method} {c : Code} {x1 : Int32} {x2 : Int32} {v_ml : Nat → Int32} {v_m_thrown : Int32} {v_m_trace : Int64} {v_m_typed : Int32} {v_m_next : Int32} {v_m_token : Int32} {v_m_place : Int32} {v_m_value : Int32} {v_m_fault : Int32} {v_m_finds : Int32} {v_m_weeks : Int32} {v_m_rows : Int32} {v_m_cardPrice : Int32} {v_m_lotPrice : Int32} {v_m_sure : Int32} {v_m_up : Int64} {v_m_down : Int64} {o : Int32} (X : pa_X cX10_persons 5 (some .int) RX10 wsX10_persons D cI cJ g A p s m args meth c)  (hf : f_X10_persons x1 x2 v_ml = some o) {H : Heap} {locs : List Loc} (hP : va_P D vwCl (wo_X10_persons cI cJ a_m a_mt a_ml a_mr a_mx a_mf a_mg a_mw a_mh v_m_thrown v_m_trace v_m_typed v_m_next v_m_token v_m_place v_m_value v_m_fault v_m_finds v_m_weeks v_m_rows v_m_cardPrice v_m_lotPrice v_m_sure v_m_up v_m_down v_ml) H) (hD : va_D A (wo_X10_persons cI cJ a_m a_mt a_ml a_mr a_mx a_mf a_mg a_mw a_mh v_m_thrown v_m_trace v_m_typed v_m_next v_m_token v_m_place v_m_value v_m_fault v_m_finds v_m_weeks v_m_rows v_m_cardPrice v_m_lotPrice v_m_sure v_m_up v_m_down v_ml)) (hS : va_S A s.heap H locs) {ls : Array Slot} (hl : lv_has ls 5 [(0, .ref a_m), (1, .int x1), (2, .int x2)]) : W p l e (headSpec wsX10_persons rm_X10_persons).room s m args below meth c H locs 0 0 (MQ below (va_Qi (fun r (_ : Unit) => r = o) (pa_QB D A (wo_X10_persons cI cJ a_m a_mt a_ml a_mr a_mx a_mf a_mg a_mw a_mh v_m_thrown v_m_trace v_m_typed v_m_next v_m_token v_m_place v_m_value v_m_fault v_m_finds v_m_weeks v_m_rows v_m_cardPrice v_m_lotPrice v_m_sure v_m_up v_m_down v_ml)) A) args s 0 0 A) (F0 m 0 ls []) := by
  obtain ⟨hx, hb, hr, hml, hown, hts, hK, hA, hG, hlk⟩ := id X
  delta f_X10_persons at hf
  refine lv_iconst (v := (0 : Int32)) hx hb dX10_persons_0 (by decide) ?_
  refine lv_istore_n (lv' := [(3, .int (0 : Int32)), (0, .ref a_m), (1, .int x1), (2, .int x2)]) hx hb dX10_persons_1 rfl hl (by decide) rfl (fun ls hl => ?_)
  refine lv_iconst (v := (0 : Int32)) hx hb dX10_persons_2 (by decide) ?_
  refine lv_istore (lv' := [(4, .int (0 : Int32)), (3, .int (0 : Int32)), (0, .ref a_m), (1, .int x1), (2, .int x2)]) hx hb dX10_persons_3 hl (by decide) rfl (fun ls hl => ?_)
  exact w_X10_persons_L5 X  _ _ _ hf _ _  hP hD hS _ (lv_sub hl [2, 3, 4, 1, 0] rfl)
set_option maxHeartbeats 4000000 in
set_option maxRecDepth 100000 in
theorem c_X10_persons {l : Launch} {D : va_G} {cI cJ : ClassId} {g : pa_GT} {a_m a_mt a_ml a_mr a_mx a_mf a_mg a_mw a_mh : Nat} {x1 : Int32} {x2 : Int32} {v_m_thrown : Int32} {v_m_trace : Int64} {v_m_typed : Int32} {v_m_next : Int32} {v_m_token : Int32} {v_m_place : Int32} {v_m_value : Int32} {v_m_fault : Int32} {v_m_finds : Int32} {v_m_weeks : Int32} {v_m_rows : Int32} {v_m_cardPrice : Int32} {v_m_lotPrice : Int32} {v_m_sure : Int32} {v_m_up : Int64} {v_m_down : Int64} {v_ml : Nat → Int32} {o : Int32} (hf : f_X10_persons x1 x2 v_ml = some o) : pa_Mi l yX10_persons wsX10_persons rm_X10_persons D cI cJ g [.ref a_m, .int x1, .int x2] (wo_X10_persons cI cJ a_m a_mt a_ml a_mr a_mx a_mf a_mg a_mw a_mh v_m_thrown v_m_trace v_m_typed v_m_next v_m_token v_m_place v_m_value v_m_fault v_m_finds v_m_weeks v_m_rows v_m_cardPrice v_m_lotPrice v_m_sure v_m_up v_m_down v_ml) (wo_X10_persons cI cJ a_m a_mt a_ml a_mr a_mx a_mf a_mg a_mw a_mh v_m_thrown v_m_trace v_m_typed v_m_next v_m_token v_m_place v_m_value v_m_fault v_m_finds v_m_weeks v_m_rows v_m_cardPrice v_m_lotPrice v_m_sure v_m_up v_m_down v_ml) o := by
  intro sz
  refine pa_met (cc := cX10_persons) (maxL := 5) (ret := (some .int)) (lv := [(0, .ref a_m), (1, .int x1), (2, .int x2)]) (by decide) rfl (Nat.le_of_ble_eq_true rfl) rfl ?_
  intro p e s m below meth c X hsz hP hD ls hl
  subst hsz
  exact w_X10_persons_b0 X hf hP hD va_S.rf hl
abbrev rm_X10_gcd : Room := { frames := 0, cells := 0, slots := 0, locals := 0 }
def f_X10_gcd_L17_body  (rec17 : Int64 → Int64 → Option (Int64)) (x4 : Int64) (x6 : Int64) : Option (Int64) :=
  if (lg_cmp x6 (0 : Int64)) = 0 then
    some (x4)
  else
    if x6 = 0 then none else
    rec17 x6 (x4 - x4 / x6 * x6)
def f_X10_gcd_L17  : Nat → Int64 → Int64 → Option (Int64)
  | 0 => fun _ _ => none
  | n + 1 => f_X10_gcd_L17_body  (f_X10_gcd_L17  n)
def f_X10_gcd (x0 : Int64) (x2 : Int64) : Option (Int64) :=
  if 0 ≤ (lg_cmp x0 (0 : Int64)) then
    f_X10_gcd_L17 pa_fu x0 x2
  else
    f_X10_gcd_L17 pa_fu (-x0) x2
set_option maxHeartbeats 4000000 in
set_option maxRecDepth 100000 in
theorem w_X10_gcd_L17 {l : Launch} {D : va_G} {cI cJ : ClassId} {g : pa_GT} {A : Nat → Prop} {p : Program} {e : Env} {s : State} {m : MethodId} {args : Array Value} {below : List Frame} {meth : Method} {c : Code}   {o : Int64} (X : pa_X cX10_gcd 10 (some .long) RX10 wsX10_gcd D cI cJ g A p s m args meth c)  : ∀ (n : Nat) (x4 : Int64) (x6 : Int64), f_X10_gcd_L17  n x4 x6 = some o → ∀ (H : Heap) (locs : List Loc) , va_P D vwCl ([] : va_W) H → va_D A ([] : va_W) → va_S A s.heap H locs → ∀ (ls : Array Slot), lv_has ls 10 [(4, .long x4), (6, .long x6)] → W p l e (headSpec wsX10_gcd rm_X10_gcd).room s m args below meth c H locs 0 0 (MQ below (va_Ql (fun r (_ : Unit) => r = o) (pa_QB D A ([] : va_W)) A) args s 0 0 A) (F0 m 17 ls []) := by
  obtain ⟨hx, hb, hr, hml, hown, hts, hK, hA, hG, hlk⟩ := id X
  intro n
  induction n with
  | zero =>
    intro x4 x6 hf
    have hf : (none : Option (Int64)) = some o := hf
    cases hf
  | succ n hrec17 =>
    intro x4 x6 hf H locs  hP hD hS ls hl
    have hf : f_X10_gcd_L17_body  (f_X10_gcd_L17  n) x4 x6 = some o := hf
    delta f_X10_gcd_L17_body at hf
    generalize hgr : f_X10_gcd_L17  n = rec17 at hf hrec17
    refine lv_lload hx hb dX10_gcd_17 (lv_at hl 1 rfl) ?_
    refine lv_lconst (v := (0 : Int64)) hx hb dX10_gcd_19 (by decide) ?_
    refine W.lcmp hx hb dX10_gcd_20 ?_
    refine lv_if_eq (tgt := 42) hx hb dX10_gcd_21 (by decide) (fun c_1 => ?_) (fun c_1 => ?_)
    · have hf := (if_pos c_1).symm.trans hf
      refine lv_lload hx hb dX10_gcd_42 (lv_at hl 0 rfl) ?_
      obtain rfl := Option.some.inj hf
      exact pa_el X hP hD hS dX10_gcd_44
    · have hf := (if_neg c_1).symm.trans hf
      refine lv_lload hx hb dX10_gcd_24 (lv_at hl 0 rfl) ?_
      refine lv_lload hx hb dX10_gcd_26 (lv_at hl 1 rfl) ?_
      obtain ⟨hz_2, hf⟩ := pa_dzl hf
      refine lv_lrem hx hb dX10_gcd_28 hz_2 ?_
      refine lv_lstore (lv' := [(8, .long (x4 - x4 / x6 * x6)), (4, .long x4), (6, .long x6)]) hx hb dX10_gcd_29 hl (by decide) rfl (fun ls hl => ?_)
      refine lv_lload hx hb dX10_gcd_31 (lv_at hl 2 rfl) ?_
      refine lv_lstore (lv' := [(4, .long x6), (8, .long (x4 - x4 / x6 * x6)), (6, .long x6)]) hx hb dX10_gcd_33 hl (by decide) rfl (fun ls hl => ?_)
      refine lv_lload hx hb dX10_gcd_35 (lv_at hl 1 rfl) ?_
      refine lv_lstore (lv' := [(6, .long (x4 - x4 / x6 * x6)), (4, .long x6), (8, .long (x4 - x4 / x6 * x6))]) hx hb dX10_gcd_37 hl (by decide) rfl (fun ls hl => ?_)
      refine lv_goto (tgt := 17) hx hb dX10_gcd_39 (by decide) ?_
      exact hrec17 _ _ hf _ _  hP hD hS _ (lv_sub hl [1, 0] rfl)
set_option maxHeartbeats 4000000 in
set_option maxRecDepth 100000 in
theorem w_X10_gcd_b0 {l : Launch} {D : va_G} {cI cJ : ClassId} {g : pa_GT} {A : Nat → Prop} {p : Program} {e : Env} {s : State} {m : MethodId} {args : Array Value} {below : List Frame} {meth : Method} {c : Code} {x0 : Int64} {x2 : Int64}  {o : Int64} (X : pa_X cX10_gcd 10 (some .long) RX10 wsX10_gcd D cI cJ g A p s m args meth c)  (hf : f_X10_gcd x0 x2 = some o) {H : Heap} {locs : List Loc} (hP : va_P D vwCl ([] : va_W) H) (hD : va_D A ([] : va_W)) (hS : va_S A s.heap H locs) {ls : Array Slot} (hl : lv_has ls 10 [(0, .long x0), (2, .long x2)]) : W p l e (headSpec wsX10_gcd rm_X10_gcd).room s m args below meth c H locs 0 0 (MQ below (va_Ql (fun r (_ : Unit) => r = o) (pa_QB D A ([] : va_W)) A) args s 0 0 A) (F0 m 0 ls []) := by
  obtain ⟨hx, hb, hr, hml, hown, hts, hK, hA, hG, hlk⟩ := id X
  delta f_X10_gcd at hf
  refine lv_lload_n hx hb dX10_gcd_0 rfl (lv_at hl 0 rfl) ?_
  refine lv_lconst (v := (0 : Int64)) hx hb dX10_gcd_1 (by decide) ?_
  refine W.lcmp hx hb dX10_gcd_2 ?_
  refine lv_if_ge (tgt := 11) hx hb dX10_gcd_3 (by decide) (fun c_3 => ?_) (fun c_3 => ?_)
  · have hf := (if_pos c_3).symm.trans hf
    refine lv_lload_n hx hb dX10_gcd_11 rfl (lv_at hl 0 rfl) ?_
    refine lv_lstore (lv' := [(4, .long x0), (0, .long x0), (2, .long x2)]) hx hb dX10_gcd_12 hl (by decide) rfl (fun ls hl => ?_)
    refine lv_lload_n hx hb dX10_gcd_14 rfl (lv_at hl 2 rfl) ?_
    refine lv_lstore (lv' := [(6, .long x2), (4, .long x0), (0, .long x0), (2, .long x2)]) hx hb dX10_gcd_15 hl (by decide) rfl (fun ls hl => ?_)
    exact w_X10_gcd_L17 X  _ _ _ hf _ _  hP hD hS _ (lv_sub hl [1, 0] rfl)
  · have hf := (if_neg c_3).symm.trans hf
    refine lv_lload_n hx hb dX10_gcd_6 rfl (lv_at hl 0 rfl) ?_
    refine lv_lneg hx hb dX10_gcd_7 ?_
    refine lv_goto (tgt := 12) hx hb dX10_gcd_8 (by decide) ?_
    refine lv_lstore (lv' := [(4, .long (-x0)), (0, .long x0), (2, .long x2)]) hx hb dX10_gcd_12 hl (by decide) rfl (fun ls hl => ?_)
    refine lv_lload_n hx hb dX10_gcd_14 rfl (lv_at hl 2 rfl) ?_
    refine lv_lstore (lv' := [(6, .long x2), (4, .long (-x0)), (0, .long x0), (2, .long x2)]) hx hb dX10_gcd_15 hl (by decide) rfl (fun ls hl => ?_)
    exact w_X10_gcd_L17 X  _ _ _ hf _ _  hP hD hS _ (lv_sub hl [1, 0] rfl)
set_option maxHeartbeats 4000000 in
set_option maxRecDepth 100000 in
theorem c_X10_gcd {l : Launch} {D : va_G} {cI cJ : ClassId} {g : pa_GT} {x0 : Int64} {x2 : Int64}  {o : Int64} (hf : f_X10_gcd x0 x2 = some o) : pa_Ml l yX10_gcd wsX10_gcd rm_X10_gcd D cI cJ g [.long x0, .long x2] ([] : va_W) ([] : va_W) o := by
  intro sz
  refine pa_met (cc := cX10_gcd) (maxL := 10) (ret := (some .long)) (lv := [(0, .long x0), (2, .long x2)]) (by decide) rfl (Nat.le_of_ble_eq_true rfl) rfl ?_
  intro p e s m below meth c X hsz hP hD ls hl
  subst hsz
  exact w_X10_gcd_b0 X hf hP hD va_S.rf hl
abbrev wo_X10_told (cI cJ : ClassId) (a_m a_mt a_ml a_mr a_mx a_mf a_mg a_mw a_mh : Nat) (v_m_thrown : Int32) (v_m_trace : Int64) (v_m_typed : Int32) (v_m_next : Int32) (v_m_token : Int32) (v_m_place : Int32) (v_m_value : Int32) (v_m_fault : Int32) (v_m_finds : Int32) (v_m_weeks : Int32) (v_m_rows : Int32) (v_m_cardPrice : Int32) (v_m_lotPrice : Int32) (v_m_sure : Int32) (v_m_up : Int64) (v_m_down : Int64) : va_W := [(a_m, .inr (9, [.int v_m_thrown, .long v_m_trace, .ref a_mt, .ref a_ml, .ref a_mr, .ref a_mx, .int v_m_typed, .int v_m_next, .int v_m_token, .int v_m_place, .int v_m_value, .int v_m_fault, .int v_m_finds, .ref a_mf, .ref a_mg, .int v_m_weeks, .ref a_mw, .int v_m_rows, .ref a_mh, .int v_m_cardPrice, .int v_m_lotPrice, .int v_m_sure, .long v_m_up, .long v_m_down]))]
abbrev rm_X10_told : Room := { frames := 1, cells := 0, slots := 0, locals := 29 }
theorem il_X10_told_X10 : ∀ w ∈ wsX100, w ∈ wsX10_told := by decide +kernel
theorem fk_X10_told_0 : Cond.fieldLink RX10 52 "PostedAsksModel" "up" "J" ∈ wsX10_told := by decide +kernel
theorem fk_X10_told_1 : Cond.fieldLink RX10 56 "PostedAsksModel" "down" "J" ∈ wsX10_told := by decide +kernel
def f_X10_told (x1 : Int32) (v_m_up : Int64) (v_m_down : Int64) : Option (Int64) :=
  (f_X10_gcd v_m_up v_m_down).bind fun u_1 =>
  if x1 = 0 then
    if u_1 = 0 then none else
    some ((v_m_up / u_1))
  else
    if u_1 = 0 then none else
    some ((v_m_down / u_1))
set_option maxHeartbeats 4000000 in
set_option maxRecDepth 100000 in
theorem w_X10_told_b0 {l : Launch} {D : va_G} {cI cJ : ClassId} {g : pa_GT} {a_m a_mt a_ml a_mr a_mx a_mf a_mg a_mw a_mh : Nat} {A : Nat → Prop} {p : Program} {e : Env} {s : State} {m : MethodId} {args : Array Value} {below : List Frame} {meth : Method} {c : Code} {x1 : Int32} {v_m_up : Int64} {v_m_down : Int64} {v_m_thrown : Int32} {v_m_trace : Int64} {v_m_typed : Int32} {v_m_next : Int32} {v_m_token : Int32} {v_m_place : Int32} {v_m_value : Int32} {v_m_fault : Int32} {v_m_finds : Int32} {v_m_weeks : Int32} {v_m_rows : Int32} {v_m_cardPrice : Int32} {v_m_lotPrice : Int32} {v_m_sure : Int32} {o : Int64} (X : pa_X cX10_told 4 (some .long) RX10 wsX10_told D cI cJ g A p s m args meth c)  (hf : f_X10_told x1 v_m_up v_m_down = some o) {H : Heap} {locs : List Loc} (hP : va_P D vwCl (wo_X10_told cI cJ a_m a_mt a_ml a_mr a_mx a_mf a_mg a_mw a_mh v_m_thrown v_m_trace v_m_typed v_m_next v_m_token v_m_place v_m_value v_m_fault v_m_finds v_m_weeks v_m_rows v_m_cardPrice v_m_lotPrice v_m_sure v_m_up v_m_down) H) (hD : va_D A (wo_X10_told cI cJ a_m a_mt a_ml a_mr a_mx a_mf a_mg a_mw a_mh v_m_thrown v_m_trace v_m_typed v_m_next v_m_token v_m_place v_m_value v_m_fault v_m_finds v_m_weeks v_m_rows v_m_cardPrice v_m_lotPrice v_m_sure v_m_up v_m_down)) (hS : va_S A s.heap H locs) {ls : Array Slot} (hl : lv_has ls 4 [(0, .ref a_m), (1, .int x1)]) : W p l e (headSpec wsX10_told rm_X10_told).room s m args below meth c H locs 0 0 (MQ below (va_Ql (fun r (_ : Unit) => r = o) (pa_QB D A (wo_X10_told cI cJ a_m a_mt a_ml a_mr a_mx a_mf a_mg a_mw a_mh v_m_thrown v_m_trace v_m_typed v_m_next v_m_token v_m_place v_m_value v_m_fault v_m_finds v_m_weeks v_m_rows v_m_cardPrice v_m_lotPrice v_m_sure v_m_up v_m_down)) A) args s 0 0 A) (F0 m 0 ls []) := by
  obtain ⟨hx, hb, hr, hml, hown, hts, hK, hA, hG, hlk⟩ := id X
  delta f_X10_told at hf
  refine lv_aload_n hx hb dX10_told_0 rfl (lv_at hl 0 rfl) ?_
  refine va_get (D := D) (ci := 9) (v := .long v_m_up) (C := RX10) (T := TX10) (N := 24) hx hb hts il_X10_told_X10 hown hK hP 0 rfl rfl 22 (by decide) (hts _ fk_X10_told_0) (fun _ h9 => h9) rfl dX10_told_1 ?_
  refine lv_aload_n hx hb dX10_told_4 rfl (lv_at hl 0 rfl) ?_
  refine va_get (D := D) (ci := 9) (v := .long v_m_down) (C := RX10) (T := TX10) (N := 24) hx hb hts il_X10_told_X10 hown hK hP 0 rfl rfl 23 (by decide) (hts _ fk_X10_told_1) (fun _ h9 => h9) rfl dX10_told_5 ?_
  obtain ⟨u_1, hg_2, hf⟩ := pa_bd hf
  refine pa_kl (wc := ([] : va_W)) (wr := [(a_m, .inr (9, [.int v_m_thrown, .long v_m_trace, .ref a_mt, .ref a_ml, .ref a_mr, .ref a_mx, .int v_m_typed, .int v_m_next, .int v_m_token, .int v_m_place, .int v_m_value, .int v_m_fault, .int v_m_finds, .ref a_mf, .ref a_mg, .int v_m_weeks, .ref a_mw, .int v_m_rows, .ref a_mh, .int v_m_cardPrice, .int v_m_lotPrice, .int v_m_sure, .long v_m_up, .long v_m_down]))]) (w1 := ([] : va_W)) (w2 := (wo_X10_told cI cJ a_m a_mt a_ml a_mr a_mx a_mf a_mg a_mw a_mh v_m_thrown v_m_trace v_m_typed v_m_next v_m_token v_m_place v_m_value v_m_fault v_m_finds v_m_weeks v_m_rows v_m_cardPrice v_m_lotPrice v_m_sure v_m_up v_m_down)) X hP hD hS [] [0] [0] rfl (pa_rS (As := [.long v_m_up, .long v_m_down]) (rest := []) X hP hD hS [] rfl rfl (c_X10_gcd hg_2 H.size) (va_cwS 2 hts gX10_told_X10_gcd rfl rfl rfl (by decide +kernel) ⟨Nat.le_of_ble_eq_true rfl, Nat.le_of_ble_eq_true rfl⟩) rfl hl.1 rfl (Nat.le_of_ble_eq_true rfl) dX10_told_8 ⟨Nat.zero_le _, Nat.zero_le _⟩) rfl rfl (by decide) rfl rfl (fun H locs hP hD hS => ?_)
  refine lv_lstore_n (lv' := [(2, .long u_1), (0, .ref a_m), (1, .int x1)]) hx hb dX10_told_11 rfl hl (by decide) rfl (fun ls hl => ?_)
  refine lv_iload_n hx hb dX10_told_12 rfl (lv_at hl 2 rfl) ?_
  refine lv_if_eq (tgt := 25) hx hb dX10_told_13 (by decide) (fun c_3 => ?_) (fun c_3 => ?_)
  · have hf := (if_pos c_3).symm.trans hf
    refine lv_aload_n hx hb dX10_told_25 rfl (lv_at hl 1 rfl) ?_
    refine va_get (D := D) (ci := 9) (v := .long v_m_up) (C := RX10) (T := TX10) (N := 24) hx hb hts il_X10_told_X10 hown hK hP 0 rfl rfl 22 (by decide) (hts _ fk_X10_told_0) (fun _ h9 => h9) rfl dX10_told_26 ?_
    refine lv_lload_n hx hb dX10_told_29 rfl (lv_at hl 0 rfl) ?_
    obtain ⟨hz_4, hf⟩ := pa_dzl hf
    refine lv_ldiv hx hb dX10_told_30 hz_4 ?_
    obtain rfl := Option.some.inj hf
    exact pa_el X hP hD hS dX10_told_31
  · have hf := (if_neg c_3).symm.trans hf
    refine lv_aload_n hx hb dX10_told_16 rfl (lv_at hl 1 rfl) ?_
    refine va_get (D := D) (ci := 9) (v := .long v_m_down) (C := RX10) (T := TX10) (N := 24) hx hb hts il_X10_told_X10 hown hK hP 0 rfl rfl 23 (by decide) (hts _ fk_X10_told_1) (fun _ h9 => h9) rfl dX10_told_17 ?_
    refine lv_lload_n hx hb dX10_told_20 rfl (lv_at hl 0 rfl) ?_
    obtain ⟨hz_5, hf⟩ := pa_dzl hf
    refine lv_ldiv hx hb dX10_told_21 hz_5 ?_
    refine lv_goto (tgt := 31) hx hb dX10_told_22 (by decide) ?_
    obtain rfl := Option.some.inj hf
    exact pa_el X hP hD hS dX10_told_31
set_option maxHeartbeats 4000000 in
set_option maxRecDepth 100000 in
theorem c_X10_told {l : Launch} {D : va_G} {cI cJ : ClassId} {g : pa_GT} {a_m a_mt a_ml a_mr a_mx a_mf a_mg a_mw a_mh : Nat} {x1 : Int32} {v_m_thrown : Int32} {v_m_trace : Int64} {v_m_typed : Int32} {v_m_next : Int32} {v_m_token : Int32} {v_m_place : Int32} {v_m_value : Int32} {v_m_fault : Int32} {v_m_finds : Int32} {v_m_weeks : Int32} {v_m_rows : Int32} {v_m_cardPrice : Int32} {v_m_lotPrice : Int32} {v_m_sure : Int32} {v_m_up : Int64} {v_m_down : Int64} {o : Int64} (hf : f_X10_told x1 v_m_up v_m_down = some o) : pa_Ml l yX10_told wsX10_told rm_X10_told D cI cJ g [.ref a_m, .int x1] (wo_X10_told cI cJ a_m a_mt a_ml a_mr a_mx a_mf a_mg a_mw a_mh v_m_thrown v_m_trace v_m_typed v_m_next v_m_token v_m_place v_m_value v_m_fault v_m_finds v_m_weeks v_m_rows v_m_cardPrice v_m_lotPrice v_m_sure v_m_up v_m_down) (wo_X10_told cI cJ a_m a_mt a_ml a_mr a_mx a_mf a_mg a_mw a_mh v_m_thrown v_m_trace v_m_typed v_m_next v_m_token v_m_place v_m_value v_m_fault v_m_finds v_m_weeks v_m_rows v_m_cardPrice v_m_lotPrice v_m_sure v_m_up v_m_down) o := by
  intro sz
  refine pa_met (cc := cX10_told) (maxL := 4) (ret := (some .long)) (lv := [(0, .ref a_m), (1, .int x1)]) (by decide) rfl (Nat.le_of_ble_eq_true rfl) rfl ?_
  intro p e s m below meth c X hsz hP hD ls hl
  subst hsz
  exact w_X10_told_b0 X hf hP hD va_S.rf hl
abbrev wo_X10_land (cI cJ : ClassId) (a_m a_mt a_ml a_mr a_mx a_mf a_mg a_mw a_mh : Nat) (v_m_thrown : Int32) (v_m_trace : Int64) (v_m_typed : Int32) (v_m_next : Int32) (v_m_token : Int32) (v_m_place : Int32) (v_m_value : Int32) (v_m_fault : Int32) (v_m_finds : Int32) (v_m_weeks : Int32) (v_m_rows : Int32) (v_m_cardPrice : Int32) (v_m_lotPrice : Int32) (v_m_sure : Int32) (v_m_up : Int64) (v_m_down : Int64) (v_ml : Nat → Int32) : va_W := [(a_m, .inr (9, [.int v_m_thrown, .long v_m_trace, .ref a_mt, .ref a_ml, .ref a_mr, .ref a_mx, .int v_m_typed, .int v_m_next, .int v_m_token, .int v_m_place, .int v_m_value, .int v_m_fault, .int v_m_finds, .ref a_mf, .ref a_mg, .int v_m_weeks, .ref a_mw, .int v_m_rows, .ref a_mh, .int v_m_cardPrice, .int v_m_lotPrice, .int v_m_sure, .long v_m_up, .long v_m_down])), (a_ml, .inl (cI, 32, .inl v_ml))]
abbrev rm_X10_land : Room := { frames := 2, cells := 0, slots := 0, locals := 42 }
theorem il_X10_land_X10 : ∀ w ∈ wsX100, w ∈ wsX10_land := by decide +kernel
theorem fk_X10_land_0 : Cond.fieldLink RX10 45 "PostedAsksModel" "thrown" "I" ∈ wsX10_land := by decide +kernel
theorem fk_X10_land_1 : Cond.fieldLink RX10 13 "PostedAsksModel" "lands" "[I" ∈ wsX10_land := by decide +kernel
def f_X10_land (x1 : Int32) (x2 : Int32) (x3 : Int32) (v_ml : Nat → Int32) : Option (Int32 × Int32 × (Nat → Int32)) :=
  (f_X10_isLand x1).bind fun u_1 =>
  if u_1 = 0 then
    some ((-1 : Int32), (0 : Int32), v_ml)
  else
    (f_X10_in x2 (0 : Int32) (7 : Int32)).bind fun u_4 =>
    if u_4 = 0 then
      some ((-1 : Int32), (0 : Int32), v_ml)
    else
      (f_X10_in x3 (0 : Int32) (50 : Int32)).bind fun u_7 =>
      if u_7 = 0 then
        some ((-1 : Int32), (0 : Int32), v_ml)
      else
        if pa_ib (((8 : Int32) * x1) + x2) 32 = true then
          (f_X10_persons x1 (255 : Int32) v_ml).bind fun u_11 =>
          if ((u_11 - (v_ml (Int32.toNatClampNeg (((8 : Int32) * x1) + x2)))) + x3) ≤ (50 : Int32) then
            some ((v_ml (Int32.toNatClampNeg (((8 : Int32) * x1) + x2))), (0 : Int32), (upd v_ml (Int32.toNatClampNeg (((8 : Int32) * x1) + x2)) x3))
          else
            some ((-3 : Int32), (0 : Int32), v_ml)
        else none
set_option maxHeartbeats 4000000 in
set_option maxRecDepth 100000 in
theorem w_X10_land_b0 {l : Launch} {D : va_G} {cI cJ : ClassId} {g : pa_GT} {a_m a_mt a_ml a_mr a_mx a_mf a_mg a_mw a_mh : Nat} {A : Nat → Prop} {p : Program} {e : Env} {s : State} {m : MethodId} {args : Array Value} {below : List Frame} {meth : Method} {c : Code} {x1 : Int32} {x2 : Int32} {x3 : Int32} {v_ml : Nat → Int32} {v_m_thrown : Int32} {v_m_trace : Int64} {v_m_typed : Int32} {v_m_next : Int32} {v_m_token : Int32} {v_m_place : Int32} {v_m_value : Int32} {v_m_fault : Int32} {v_m_finds : Int32} {v_m_weeks : Int32} {v_m_rows : Int32} {v_m_cardPrice : Int32} {v_m_lotPrice : Int32} {v_m_sure : Int32} {v_m_up : Int64} {v_m_down : Int64} {o : Int32 × Int32 × (Nat → Int32)} (X : pa_X cX10_land 5 (some .int) RX10 wsX10_land D cI cJ g A p s m args meth c)  (hf : f_X10_land x1 x2 x3 v_ml = some o) {H : Heap} {locs : List Loc} (hP : va_P D vwCl (wo_X10_land cI cJ a_m a_mt a_ml a_mr a_mx a_mf a_mg a_mw a_mh v_m_thrown v_m_trace v_m_typed v_m_next v_m_token v_m_place v_m_value v_m_fault v_m_finds v_m_weeks v_m_rows v_m_cardPrice v_m_lotPrice v_m_sure v_m_up v_m_down v_ml) H) (hD : va_D A (wo_X10_land cI cJ a_m a_mt a_ml a_mr a_mx a_mf a_mg a_mw a_mh v_m_thrown v_m_trace v_m_typed v_m_next v_m_token v_m_place v_m_value v_m_fault v_m_finds v_m_weeks v_m_rows v_m_cardPrice v_m_lotPrice v_m_sure v_m_up v_m_down v_ml)) (hS : va_S A s.heap H locs) {ls : Array Slot} (hl : lv_has ls 5 [(0, .ref a_m), (1, .int x1), (2, .int x2), (3, .int x3)]) : W p l e (headSpec wsX10_land rm_X10_land).room s m args below meth c H locs 0 0 (MQ below (va_Qi (fun r (_ : Unit) => r = o.1) (pa_QB D A (wo_X10_land cI cJ a_m a_mt a_ml a_mr a_mx a_mf a_mg a_mw a_mh o.2.1 v_m_trace v_m_typed v_m_next v_m_token v_m_place v_m_value v_m_fault v_m_finds v_m_weeks v_m_rows v_m_cardPrice v_m_lotPrice v_m_sure v_m_up v_m_down o.2.2)) A) args s 0 0 A) (F0 m 0 ls []) := by
  obtain ⟨hx, hb, hr, hml, hown, hts, hK, hA, hG, hlk⟩ := id X
  delta f_X10_land at hf
  refine lv_aload_n hx hb dX10_land_0 rfl (lv_at hl 0 rfl) ?_
  refine lv_iconst (v := (0 : Int32)) hx hb dX10_land_1 (by decide) ?_
  refine va_put (D := D) (ci := 9) (v := .int (0 : Int32)) (ty := .int) (C := RX10) (T := TX10) (N := 24) hx hb hts il_X10_land_X10 tyX10 tyX10_ok nmX10 hown hK hP hD hS 0 rfl rfl 0 (by decide) (hts _ fk_X10_land_0) (fun _ h9 => h9) rfl (tyX10_ok 0 (by decide)) rfl rfl (Nat.le_of_ble_eq_true rfl) dX10_land_2 (fun H locs hP hD hS => ?_)
  have hP : va_P D vwCl (wo_X10_land cI cJ a_m a_mt a_ml a_mr a_mx a_mf a_mg a_mw a_mh (0 : Int32) v_m_trace v_m_typed v_m_next v_m_token v_m_place v_m_value v_m_fault v_m_finds v_m_weeks v_m_rows v_m_cardPrice v_m_lotPrice v_m_sure v_m_up v_m_down v_ml) H := hP
  have hD : va_D A (wo_X10_land cI cJ a_m a_mt a_ml a_mr a_mx a_mf a_mg a_mw a_mh (0 : Int32) v_m_trace v_m_typed v_m_next v_m_token v_m_place v_m_value v_m_fault v_m_finds v_m_weeks v_m_rows v_m_cardPrice v_m_lotPrice v_m_sure v_m_up v_m_down v_ml) := hD
  refine lv_iload_n hx hb dX10_land_5 rfl (lv_at hl 1 rfl) ?_
  obtain ⟨u_1, hg_2, hf⟩ := pa_bd hf
  refine pa_ki (wc := ([] : va_W)) (wr := [(a_m, .inr (9, [.int (0 : Int32), .long v_m_trace, .ref a_mt, .ref a_ml, .ref a_mr, .ref a_mx, .int v_m_typed, .int v_m_next, .int v_m_token, .int v_m_place, .int v_m_value, .int v_m_fault, .int v_m_finds, .ref a_mf, .ref a_mg, .int v_m_weeks, .ref a_mw, .int v_m_rows, .ref a_mh, .int v_m_cardPrice, .int v_m_lotPrice, .int v_m_sure, .long v_m_up, .long v_m_down])), (a_ml, .inl (cI, 32, .inl v_ml))]) (w1 := ([] : va_W)) (w2 := (wo_X10_land cI cJ a_m a_mt a_ml a_mr a_mx a_mf a_mg a_mw a_mh (0 : Int32) v_m_trace v_m_typed v_m_next v_m_token v_m_place v_m_value v_m_fault v_m_finds v_m_weeks v_m_rows v_m_cardPrice v_m_lotPrice v_m_sure v_m_up v_m_down v_ml)) X hP hD hS [] [0, 1] [0, 1] rfl (pa_rS (As := [.int x1]) (rest := []) X hP hD hS [] rfl rfl (c_X10_isLand hg_2 H.size) (va_cwS 1 hts gX10_land_X10_isLand rfl rfl rfl (by decide +kernel) ⟨Nat.le_of_ble_eq_true rfl, Nat.le_of_ble_eq_true rfl⟩) rfl hl.1 rfl (Nat.le_of_ble_eq_true rfl) dX10_land_6 ⟨Nat.zero_le _, Nat.zero_le _⟩) rfl rfl (by decide) rfl rfl (fun H locs hP hD hS => ?_)
  refine lv_if_eq (tgt := 32) hx hb dX10_land_9 (by decide) (fun c_3 => ?_) (fun c_3 => ?_)
  · have hf := (if_pos c_3).symm.trans hf
    refine lv_iconst (v := (-1 : Int32)) hx hb dX10_land_32 (by decide) ?_
    obtain rfl := Option.some.inj hf
    exact pa_ei X hP hD hS dX10_land_33
  · have hf := (if_neg c_3).symm.trans hf
    refine lv_iload_n hx hb dX10_land_12 rfl (lv_at hl 2 rfl) ?_
    refine lv_iconst (v := (0 : Int32)) hx hb dX10_land_13 (by decide) ?_
    refine lv_bipush (v := (7 : Int32)) hx hb dX10_land_14 (by decide) ?_
    obtain ⟨u_4, hg_5, hf⟩ := pa_bd hf
    refine pa_ki (wc := ([] : va_W)) (wr := [(a_m, .inr (9, [.int (0 : Int32), .long v_m_trace, .ref a_mt, .ref a_ml, .ref a_mr, .ref a_mx, .int v_m_typed, .int v_m_next, .int v_m_token, .int v_m_place, .int v_m_value, .int v_m_fault, .int v_m_finds, .ref a_mf, .ref a_mg, .int v_m_weeks, .ref a_mw, .int v_m_rows, .ref a_mh, .int v_m_cardPrice, .int v_m_lotPrice, .int v_m_sure, .long v_m_up, .long v_m_down])), (a_ml, .inl (cI, 32, .inl v_ml))]) (w1 := ([] : va_W)) (w2 := (wo_X10_land cI cJ a_m a_mt a_ml a_mr a_mx a_mf a_mg a_mw a_mh (0 : Int32) v_m_trace v_m_typed v_m_next v_m_token v_m_place v_m_value v_m_fault v_m_finds v_m_weeks v_m_rows v_m_cardPrice v_m_lotPrice v_m_sure v_m_up v_m_down v_ml)) X hP hD hS [] [0, 1] [0, 1] rfl (pa_rS (As := [.int x2, .int (0 : Int32), .int (7 : Int32)]) (rest := []) X hP hD hS [] rfl rfl (c_X10_in hg_5 H.size) (va_cwS 3 hts gX10_land_X10_in rfl rfl rfl (by decide +kernel) ⟨Nat.le_of_ble_eq_true rfl, Nat.le_of_ble_eq_true rfl⟩) rfl hl.1 rfl (Nat.le_of_ble_eq_true rfl) dX10_land_16 ⟨Nat.zero_le _, Nat.zero_le _⟩) rfl rfl (by decide) rfl rfl (fun H locs hP hD hS => ?_)
    refine lv_if_eq (tgt := 32) hx hb dX10_land_19 (by decide) (fun c_6 => ?_) (fun c_6 => ?_)
    · have hf := (if_pos c_6).symm.trans hf
      refine lv_iconst (v := (-1 : Int32)) hx hb dX10_land_32 (by decide) ?_
      obtain rfl := Option.some.inj hf
      exact pa_ei X hP hD hS dX10_land_33
    · have hf := (if_neg c_6).symm.trans hf
      refine lv_iload_n hx hb dX10_land_22 rfl (lv_at hl 3 rfl) ?_
      refine lv_iconst (v := (0 : Int32)) hx hb dX10_land_23 (by decide) ?_
      refine lv_bipush (v := (50 : Int32)) hx hb dX10_land_24 (by decide) ?_
      obtain ⟨u_7, hg_8, hf⟩ := pa_bd hf
      refine pa_ki (wc := ([] : va_W)) (wr := [(a_m, .inr (9, [.int (0 : Int32), .long v_m_trace, .ref a_mt, .ref a_ml, .ref a_mr, .ref a_mx, .int v_m_typed, .int v_m_next, .int v_m_token, .int v_m_place, .int v_m_value, .int v_m_fault, .int v_m_finds, .ref a_mf, .ref a_mg, .int v_m_weeks, .ref a_mw, .int v_m_rows, .ref a_mh, .int v_m_cardPrice, .int v_m_lotPrice, .int v_m_sure, .long v_m_up, .long v_m_down])), (a_ml, .inl (cI, 32, .inl v_ml))]) (w1 := ([] : va_W)) (w2 := (wo_X10_land cI cJ a_m a_mt a_ml a_mr a_mx a_mf a_mg a_mw a_mh (0 : Int32) v_m_trace v_m_typed v_m_next v_m_token v_m_place v_m_value v_m_fault v_m_finds v_m_weeks v_m_rows v_m_cardPrice v_m_lotPrice v_m_sure v_m_up v_m_down v_ml)) X hP hD hS [] [0, 1] [0, 1] rfl (pa_rS (As := [.int x3, .int (0 : Int32), .int (50 : Int32)]) (rest := []) X hP hD hS [] rfl rfl (c_X10_in hg_8 H.size) (va_cwS 3 hts gX10_land_X10_in rfl rfl rfl (by decide +kernel) ⟨Nat.le_of_ble_eq_true rfl, Nat.le_of_ble_eq_true rfl⟩) rfl hl.1 rfl (Nat.le_of_ble_eq_true rfl) dX10_land_26 ⟨Nat.zero_le _, Nat.zero_le _⟩) rfl rfl (by decide) rfl rfl (fun H locs hP hD hS => ?_)
      refine lv_if_ne (tgt := 34) hx hb dX10_land_29 (by decide) (fun c_9 => ?_) (fun c_9 => ?_)
      · have hf := (if_neg c_9).symm.trans hf
        refine lv_aload_n hx hb dX10_land_34 rfl (lv_at hl 0 rfl) ?_
        refine va_get (D := D) (ci := 9) (v := .ref a_ml) (C := RX10) (T := TX10) (N := 24) hx hb hts il_X10_land_X10 hown hK hP 0 rfl rfl 3 (by decide) (hts _ fk_X10_land_1) (fun _ h9 => h9) rfl dX10_land_35 ?_
        refine lv_bipush (v := (8 : Int32)) hx hb dX10_land_38 (by decide) ?_
        refine lv_iload_n hx hb dX10_land_40 rfl (lv_at hl 1 rfl) ?_
        refine lv_imul hx hb dX10_land_41 ?_
        refine lv_iload_n hx hb dX10_land_42 rfl (lv_at hl 2 rfl) ?_
        refine lv_iadd hx hb dX10_land_43 ?_
        obtain ⟨hi_10, hf⟩ := pa_gd hf
        refine va_iald hx hb hK hP 1 0 rfl rfl hi_10 dX10_land_44 ?_
        refine lv_istore (lv' := [(4, .int (v_ml (Int32.toNatClampNeg (((8 : Int32) * x1) + x2)))), (0, .ref a_m), (1, .int x1), (2, .int x2), (3, .int x3)]) hx hb dX10_land_45 hl (by decide) rfl (fun ls hl => ?_)
        refine lv_aload_n hx hb dX10_land_47 rfl (lv_at hl 1 rfl) ?_
        refine lv_iload_n hx hb dX10_land_48 rfl (lv_at hl 2 rfl) ?_
        refine lv_sipush (v := (255 : Int32)) hx hb dX10_land_49 (by decide) ?_
        obtain ⟨u_11, hg_12, hf⟩ := pa_bd hf
        refine pa_ki (wc := (wo_X10_persons cI cJ a_m a_mt a_ml a_mr a_mx a_mf a_mg a_mw a_mh (0 : Int32) v_m_trace v_m_typed v_m_next v_m_token v_m_place v_m_value v_m_fault v_m_finds v_m_weeks v_m_rows v_m_cardPrice v_m_lotPrice v_m_sure v_m_up v_m_down v_ml)) (wr := ([] : va_W)) (w1 := (wo_X10_persons cI cJ a_m a_mt a_ml a_mr a_mx a_mf a_mg a_mw a_mh (0 : Int32) v_m_trace v_m_typed v_m_next v_m_token v_m_place v_m_value v_m_fault v_m_finds v_m_weeks v_m_rows v_m_cardPrice v_m_lotPrice v_m_sure v_m_up v_m_down v_ml)) (w2 := (wo_X10_land cI cJ a_m a_mt a_ml a_mr a_mx a_mf a_mg a_mw a_mh (0 : Int32) v_m_trace v_m_typed v_m_next v_m_token v_m_place v_m_value v_m_fault v_m_finds v_m_weeks v_m_rows v_m_cardPrice v_m_lotPrice v_m_sure v_m_up v_m_down v_ml)) X hP hD hS [0, 1] [] [0, 1] rfl (pa_rV (As := [.int x1, .int (255 : Int32)]) (rest := []) (T := TX10) X hP hD hS [0, 1] rfl rfl (c_X10_persons hg_12 H.size) (cwV 2 hts gX10_land_X10_persons rfl rfl rfl (by decide +kernel) ⟨Nat.le_of_ble_eq_true rfl, Nat.le_of_ble_eq_true rfl⟩) (q0 := 0) rfl rfl rfl hl.1 rfl (Nat.le_of_ble_eq_true rfl) dX10_land_52 ⟨Nat.zero_le _, Nat.zero_le _⟩) rfl rfl (by decide) rfl rfl (fun H locs hP hD hS => ?_)
        refine lv_iload hx hb dX10_land_55 (lv_at hl 0 rfl) ?_
        refine lv_isub hx hb dX10_land_57 ?_
        refine lv_iload_n hx hb dX10_land_58 rfl (lv_at hl 4 rfl) ?_
        refine lv_iadd hx hb dX10_land_59 ?_
        refine lv_bipush (v := (50 : Int32)) hx hb dX10_land_60 (by decide) ?_
        refine lv_icmp_le (tgt := 68) hx hb dX10_land_62 (by decide) (fun c_13 => ?_) (fun c_13 => ?_)
        · have hf := (if_pos c_13).symm.trans hf
          refine lv_aload_n hx hb dX10_land_68 rfl (lv_at hl 1 rfl) ?_
          refine va_get (D := D) (ci := 9) (v := .ref a_ml) (C := RX10) (T := TX10) (N := 24) hx hb hts il_X10_land_X10 hown hK hP 0 rfl rfl 3 (by decide) (hts _ fk_X10_land_1) (fun _ h9 => h9) rfl dX10_land_69 ?_
          refine lv_bipush (v := (8 : Int32)) hx hb dX10_land_72 (by decide) ?_
          refine lv_iload_n hx hb dX10_land_74 rfl (lv_at hl 2 rfl) ?_
          refine lv_imul hx hb dX10_land_75 ?_
          refine lv_iload_n hx hb dX10_land_76 rfl (lv_at hl 3 rfl) ?_
          refine lv_iadd hx hb dX10_land_77 ?_
          refine lv_iload_n hx hb dX10_land_78 rfl (lv_at hl 4 rfl) ?_
          refine va_iast hx hb hK hP hD hS 1 0 rfl rfl hi_10 dX10_land_79 (fun H locs hP hD hS => ?_)
          have hP : va_P D vwCl (wo_X10_land cI cJ a_m a_mt a_ml a_mr a_mx a_mf a_mg a_mw a_mh (0 : Int32) v_m_trace v_m_typed v_m_next v_m_token v_m_place v_m_value v_m_fault v_m_finds v_m_weeks v_m_rows v_m_cardPrice v_m_lotPrice v_m_sure v_m_up v_m_down (upd v_ml (Int32.toNatClampNeg (((8 : Int32) * x1) + x2)) x3)) H := hP
          have hD : va_D A (wo_X10_land cI cJ a_m a_mt a_ml a_mr a_mx a_mf a_mg a_mw a_mh (0 : Int32) v_m_trace v_m_typed v_m_next v_m_token v_m_place v_m_value v_m_fault v_m_finds v_m_weeks v_m_rows v_m_cardPrice v_m_lotPrice v_m_sure v_m_up v_m_down (upd v_ml (Int32.toNatClampNeg (((8 : Int32) * x1) + x2)) x3)) := hD
          refine lv_iload hx hb dX10_land_80 (lv_at hl 0 rfl) ?_
          obtain rfl := Option.some.inj hf
          exact pa_ei X hP hD hS dX10_land_82
        · have hf := (if_neg c_13).symm.trans hf
          refine lv_bipush (v := (-3 : Int32)) hx hb dX10_land_65 (by decide) ?_
          obtain rfl := Option.some.inj hf
          exact pa_ei X hP hD hS dX10_land_67
      · have hf := (if_pos c_9).symm.trans hf
        refine lv_iconst (v := (-1 : Int32)) hx hb dX10_land_32 (by decide) ?_
        obtain rfl := Option.some.inj hf
        exact pa_ei X hP hD hS dX10_land_33
set_option maxHeartbeats 4000000 in
set_option maxRecDepth 100000 in
theorem c_X10_land {l : Launch} {D : va_G} {cI cJ : ClassId} {g : pa_GT} {a_m a_mt a_ml a_mr a_mx a_mf a_mg a_mw a_mh : Nat} {x1 : Int32} {x2 : Int32} {x3 : Int32} {v_m_thrown : Int32} {v_m_trace : Int64} {v_m_typed : Int32} {v_m_next : Int32} {v_m_token : Int32} {v_m_place : Int32} {v_m_value : Int32} {v_m_fault : Int32} {v_m_finds : Int32} {v_m_weeks : Int32} {v_m_rows : Int32} {v_m_cardPrice : Int32} {v_m_lotPrice : Int32} {v_m_sure : Int32} {v_m_up : Int64} {v_m_down : Int64} {v_ml : Nat → Int32} {o : Int32 × Int32 × (Nat → Int32)} (hf : f_X10_land x1 x2 x3 v_ml = some o) : pa_Mi l yX10_land wsX10_land rm_X10_land D cI cJ g [.ref a_m, .int x1, .int x2, .int x3] (wo_X10_land cI cJ a_m a_mt a_ml a_mr a_mx a_mf a_mg a_mw a_mh v_m_thrown v_m_trace v_m_typed v_m_next v_m_token v_m_place v_m_value v_m_fault v_m_finds v_m_weeks v_m_rows v_m_cardPrice v_m_lotPrice v_m_sure v_m_up v_m_down v_ml) (wo_X10_land cI cJ a_m a_mt a_ml a_mr a_mx a_mf a_mg a_mw a_mh o.2.1 v_m_trace v_m_typed v_m_next v_m_token v_m_place v_m_value v_m_fault v_m_finds v_m_weeks v_m_rows v_m_cardPrice v_m_lotPrice v_m_sure v_m_up v_m_down o.2.2) o.1 := by
  intro sz
  refine pa_met (cc := cX10_land) (maxL := 5) (ret := (some .int)) (lv := [(0, .ref a_m), (1, .int x1), (2, .int x2), (3, .int x3)]) (by decide) rfl (Nat.le_of_ble_eq_true rfl) rfl ?_
  intro p e s m below meth c X hsz hP hD ls hl
  subst hsz
  exact w_X10_land_b0 X hf hP hD va_S.rf hl
abbrev wo_X10_rate (cI cJ : ClassId) (a_m a_mt a_ml a_mr a_mx a_mf a_mg a_mw a_mh : Nat) (v_m_thrown : Int32) (v_m_trace : Int64) (v_m_typed : Int32) (v_m_next : Int32) (v_m_token : Int32) (v_m_place : Int32) (v_m_value : Int32) (v_m_fault : Int32) (v_m_finds : Int32) (v_m_weeks : Int32) (v_m_rows : Int32) (v_m_cardPrice : Int32) (v_m_lotPrice : Int32) (v_m_sure : Int32) (v_m_up : Int64) (v_m_down : Int64) (v_mr : Nat → Int32) : va_W := [(a_m, .inr (9, [.int v_m_thrown, .long v_m_trace, .ref a_mt, .ref a_ml, .ref a_mr, .ref a_mx, .int v_m_typed, .int v_m_next, .int v_m_token, .int v_m_place, .int v_m_value, .int v_m_fault, .int v_m_finds, .ref a_mf, .ref a_mg, .int v_m_weeks, .ref a_mw, .int v_m_rows, .ref a_mh, .int v_m_cardPrice, .int v_m_lotPrice, .int v_m_sure, .long v_m_up, .long v_m_down])), (a_mr, .inl (cI, 8, .inl v_mr))]
abbrev rm_X10_rate : Room := { frames := 1, cells := 0, slots := 0, locals := 22 }
theorem il_X10_rate_X10 : ∀ w ∈ wsX100, w ∈ wsX10_rate := by decide +kernel
theorem fk_X10_rate_0 : Cond.fieldLink RX10 45 "PostedAsksModel" "thrown" "I" ∈ wsX10_rate := by decide +kernel
theorem fk_X10_rate_1 : Cond.fieldLink RX10 17 "PostedAsksModel" "rates" "[I" ∈ wsX10_rate := by decide +kernel
def f_X10_rate (x1 : Int32) (x2 : Int32) (v_mr : Nat → Int32) : Option (Int32 × Int32 × (Nat → Int32)) :=
  (f_X10_in x1 (0 : Int32) (7 : Int32)).bind fun u_1 =>
  if u_1 = 0 then
    some ((-1 : Int32), (0 : Int32), v_mr)
  else
    (f_X10_in x2 (0 : Int32) (100 : Int32)).bind fun u_4 =>
    if u_4 = 0 then
      some ((-1 : Int32), (0 : Int32), v_mr)
    else
      if pa_ib x1 8 = true then
        some ((v_mr (Int32.toNatClampNeg x1)), (0 : Int32), (upd v_mr (Int32.toNatClampNeg x1) x2))
      else none
set_option maxHeartbeats 4000000 in
set_option maxRecDepth 100000 in
theorem w_X10_rate_b0 {l : Launch} {D : va_G} {cI cJ : ClassId} {g : pa_GT} {a_m a_mt a_ml a_mr a_mx a_mf a_mg a_mw a_mh : Nat} {A : Nat → Prop} {p : Program} {e : Env} {s : State} {m : MethodId} {args : Array Value} {below : List Frame} {meth : Method} {c : Code} {x1 : Int32} {x2 : Int32} {v_mr : Nat → Int32} {v_m_thrown : Int32} {v_m_trace : Int64} {v_m_typed : Int32} {v_m_next : Int32} {v_m_token : Int32} {v_m_place : Int32} {v_m_value : Int32} {v_m_fault : Int32} {v_m_finds : Int32} {v_m_weeks : Int32} {v_m_rows : Int32} {v_m_cardPrice : Int32} {v_m_lotPrice : Int32} {v_m_sure : Int32} {v_m_up : Int64} {v_m_down : Int64} {o : Int32 × Int32 × (Nat → Int32)} (X : pa_X cX10_rate 4 (some .int) RX10 wsX10_rate D cI cJ g A p s m args meth c)  (hf : f_X10_rate x1 x2 v_mr = some o) {H : Heap} {locs : List Loc} (hP : va_P D vwCl (wo_X10_rate cI cJ a_m a_mt a_ml a_mr a_mx a_mf a_mg a_mw a_mh v_m_thrown v_m_trace v_m_typed v_m_next v_m_token v_m_place v_m_value v_m_fault v_m_finds v_m_weeks v_m_rows v_m_cardPrice v_m_lotPrice v_m_sure v_m_up v_m_down v_mr) H) (hD : va_D A (wo_X10_rate cI cJ a_m a_mt a_ml a_mr a_mx a_mf a_mg a_mw a_mh v_m_thrown v_m_trace v_m_typed v_m_next v_m_token v_m_place v_m_value v_m_fault v_m_finds v_m_weeks v_m_rows v_m_cardPrice v_m_lotPrice v_m_sure v_m_up v_m_down v_mr)) (hS : va_S A s.heap H locs) {ls : Array Slot} (hl : lv_has ls 4 [(0, .ref a_m), (1, .int x1), (2, .int x2)]) : W p l e (headSpec wsX10_rate rm_X10_rate).room s m args below meth c H locs 0 0 (MQ below (va_Qi (fun r (_ : Unit) => r = o.1) (pa_QB D A (wo_X10_rate cI cJ a_m a_mt a_ml a_mr a_mx a_mf a_mg a_mw a_mh o.2.1 v_m_trace v_m_typed v_m_next v_m_token v_m_place v_m_value v_m_fault v_m_finds v_m_weeks v_m_rows v_m_cardPrice v_m_lotPrice v_m_sure v_m_up v_m_down o.2.2)) A) args s 0 0 A) (F0 m 0 ls []) := by
  obtain ⟨hx, hb, hr, hml, hown, hts, hK, hA, hG, hlk⟩ := id X
  delta f_X10_rate at hf
  refine lv_aload_n hx hb dX10_rate_0 rfl (lv_at hl 0 rfl) ?_
  refine lv_iconst (v := (0 : Int32)) hx hb dX10_rate_1 (by decide) ?_
  refine va_put (D := D) (ci := 9) (v := .int (0 : Int32)) (ty := .int) (C := RX10) (T := TX10) (N := 24) hx hb hts il_X10_rate_X10 tyX10 tyX10_ok nmX10 hown hK hP hD hS 0 rfl rfl 0 (by decide) (hts _ fk_X10_rate_0) (fun _ h9 => h9) rfl (tyX10_ok 0 (by decide)) rfl rfl (Nat.le_of_ble_eq_true rfl) dX10_rate_2 (fun H locs hP hD hS => ?_)
  have hP : va_P D vwCl (wo_X10_rate cI cJ a_m a_mt a_ml a_mr a_mx a_mf a_mg a_mw a_mh (0 : Int32) v_m_trace v_m_typed v_m_next v_m_token v_m_place v_m_value v_m_fault v_m_finds v_m_weeks v_m_rows v_m_cardPrice v_m_lotPrice v_m_sure v_m_up v_m_down v_mr) H := hP
  have hD : va_D A (wo_X10_rate cI cJ a_m a_mt a_ml a_mr a_mx a_mf a_mg a_mw a_mh (0 : Int32) v_m_trace v_m_typed v_m_next v_m_token v_m_place v_m_value v_m_fault v_m_finds v_m_weeks v_m_rows v_m_cardPrice v_m_lotPrice v_m_sure v_m_up v_m_down v_mr) := hD
  refine lv_iload_n hx hb dX10_rate_5 rfl (lv_at hl 1 rfl) ?_
  refine lv_iconst (v := (0 : Int32)) hx hb dX10_rate_6 (by decide) ?_
  refine lv_bipush (v := (7 : Int32)) hx hb dX10_rate_7 (by decide) ?_
  obtain ⟨u_1, hg_2, hf⟩ := pa_bd hf
  refine pa_ki (wc := ([] : va_W)) (wr := [(a_m, .inr (9, [.int (0 : Int32), .long v_m_trace, .ref a_mt, .ref a_ml, .ref a_mr, .ref a_mx, .int v_m_typed, .int v_m_next, .int v_m_token, .int v_m_place, .int v_m_value, .int v_m_fault, .int v_m_finds, .ref a_mf, .ref a_mg, .int v_m_weeks, .ref a_mw, .int v_m_rows, .ref a_mh, .int v_m_cardPrice, .int v_m_lotPrice, .int v_m_sure, .long v_m_up, .long v_m_down])), (a_mr, .inl (cI, 8, .inl v_mr))]) (w1 := ([] : va_W)) (w2 := (wo_X10_rate cI cJ a_m a_mt a_ml a_mr a_mx a_mf a_mg a_mw a_mh (0 : Int32) v_m_trace v_m_typed v_m_next v_m_token v_m_place v_m_value v_m_fault v_m_finds v_m_weeks v_m_rows v_m_cardPrice v_m_lotPrice v_m_sure v_m_up v_m_down v_mr)) X hP hD hS [] [0, 1] [0, 1] rfl (pa_rS (As := [.int x1, .int (0 : Int32), .int (7 : Int32)]) (rest := []) X hP hD hS [] rfl rfl (c_X10_in hg_2 H.size) (va_cwS 3 hts gX10_rate_X10_in rfl rfl rfl (by decide +kernel) ⟨Nat.le_of_ble_eq_true rfl, Nat.le_of_ble_eq_true rfl⟩) rfl hl.1 rfl (Nat.le_of_ble_eq_true rfl) dX10_rate_9 ⟨Nat.zero_le _, Nat.zero_le _⟩) rfl rfl (by decide) rfl rfl (fun H locs hP hD hS => ?_)
  refine lv_if_eq (tgt := 25) hx hb dX10_rate_12 (by decide) (fun c_3 => ?_) (fun c_3 => ?_)
  · have hf := (if_pos c_3).symm.trans hf
    refine lv_iconst (v := (-1 : Int32)) hx hb dX10_rate_25 (by decide) ?_
    obtain rfl := Option.some.inj hf
    exact pa_ei X hP hD hS dX10_rate_26
  · have hf := (if_neg c_3).symm.trans hf
    refine lv_iload_n hx hb dX10_rate_15 rfl (lv_at hl 2 rfl) ?_
    refine lv_iconst (v := (0 : Int32)) hx hb dX10_rate_16 (by decide) ?_
    refine lv_bipush (v := (100 : Int32)) hx hb dX10_rate_17 (by decide) ?_
    obtain ⟨u_4, hg_5, hf⟩ := pa_bd hf
    refine pa_ki (wc := ([] : va_W)) (wr := [(a_m, .inr (9, [.int (0 : Int32), .long v_m_trace, .ref a_mt, .ref a_ml, .ref a_mr, .ref a_mx, .int v_m_typed, .int v_m_next, .int v_m_token, .int v_m_place, .int v_m_value, .int v_m_fault, .int v_m_finds, .ref a_mf, .ref a_mg, .int v_m_weeks, .ref a_mw, .int v_m_rows, .ref a_mh, .int v_m_cardPrice, .int v_m_lotPrice, .int v_m_sure, .long v_m_up, .long v_m_down])), (a_mr, .inl (cI, 8, .inl v_mr))]) (w1 := ([] : va_W)) (w2 := (wo_X10_rate cI cJ a_m a_mt a_ml a_mr a_mx a_mf a_mg a_mw a_mh (0 : Int32) v_m_trace v_m_typed v_m_next v_m_token v_m_place v_m_value v_m_fault v_m_finds v_m_weeks v_m_rows v_m_cardPrice v_m_lotPrice v_m_sure v_m_up v_m_down v_mr)) X hP hD hS [] [0, 1] [0, 1] rfl (pa_rS (As := [.int x2, .int (0 : Int32), .int (100 : Int32)]) (rest := []) X hP hD hS [] rfl rfl (c_X10_in hg_5 H.size) (va_cwS 3 hts gX10_rate_X10_in rfl rfl rfl (by decide +kernel) ⟨Nat.le_of_ble_eq_true rfl, Nat.le_of_ble_eq_true rfl⟩) rfl hl.1 rfl (Nat.le_of_ble_eq_true rfl) dX10_rate_19 ⟨Nat.zero_le _, Nat.zero_le _⟩) rfl rfl (by decide) rfl rfl (fun H locs hP hD hS => ?_)
    refine lv_if_ne (tgt := 27) hx hb dX10_rate_22 (by decide) (fun c_6 => ?_) (fun c_6 => ?_)
    · have hf := (if_neg c_6).symm.trans hf
      refine lv_aload_n hx hb dX10_rate_27 rfl (lv_at hl 0 rfl) ?_
      refine va_get (D := D) (ci := 9) (v := .ref a_mr) (C := RX10) (T := TX10) (N := 24) hx hb hts il_X10_rate_X10 hown hK hP 0 rfl rfl 4 (by decide) (hts _ fk_X10_rate_1) (fun _ h9 => h9) rfl dX10_rate_28 ?_
      refine lv_iload_n hx hb dX10_rate_31 rfl (lv_at hl 1 rfl) ?_
      obtain ⟨hi_7, hf⟩ := pa_gd hf
      refine va_iald hx hb hK hP 1 0 rfl rfl hi_7 dX10_rate_32 ?_
      refine lv_istore_n (lv' := [(3, .int (v_mr (Int32.toNatClampNeg x1))), (0, .ref a_m), (1, .int x1), (2, .int x2)]) hx hb dX10_rate_33 rfl hl (by decide) rfl (fun ls hl => ?_)
      refine lv_aload_n hx hb dX10_rate_34 rfl (lv_at hl 1 rfl) ?_
      refine va_get (D := D) (ci := 9) (v := .ref a_mr) (C := RX10) (T := TX10) (N := 24) hx hb hts il_X10_rate_X10 hown hK hP 0 rfl rfl 4 (by decide) (hts _ fk_X10_rate_1) (fun _ h9 => h9) rfl dX10_rate_35 ?_
      refine lv_iload_n hx hb dX10_rate_38 rfl (lv_at hl 2 rfl) ?_
      refine lv_iload_n hx hb dX10_rate_39 rfl (lv_at hl 3 rfl) ?_
      refine va_iast hx hb hK hP hD hS 1 0 rfl rfl hi_7 dX10_rate_40 (fun H locs hP hD hS => ?_)
      have hP : va_P D vwCl (wo_X10_rate cI cJ a_m a_mt a_ml a_mr a_mx a_mf a_mg a_mw a_mh (0 : Int32) v_m_trace v_m_typed v_m_next v_m_token v_m_place v_m_value v_m_fault v_m_finds v_m_weeks v_m_rows v_m_cardPrice v_m_lotPrice v_m_sure v_m_up v_m_down (upd v_mr (Int32.toNatClampNeg x1) x2)) H := hP
      have hD : va_D A (wo_X10_rate cI cJ a_m a_mt a_ml a_mr a_mx a_mf a_mg a_mw a_mh (0 : Int32) v_m_trace v_m_typed v_m_next v_m_token v_m_place v_m_value v_m_fault v_m_finds v_m_weeks v_m_rows v_m_cardPrice v_m_lotPrice v_m_sure v_m_up v_m_down (upd v_mr (Int32.toNatClampNeg x1) x2)) := hD
      refine lv_iload_n hx hb dX10_rate_41 rfl (lv_at hl 0 rfl) ?_
      obtain rfl := Option.some.inj hf
      exact pa_ei X hP hD hS dX10_rate_42
    · have hf := (if_pos c_6).symm.trans hf
      refine lv_iconst (v := (-1 : Int32)) hx hb dX10_rate_25 (by decide) ?_
      obtain rfl := Option.some.inj hf
      exact pa_ei X hP hD hS dX10_rate_26
set_option maxHeartbeats 4000000 in
set_option maxRecDepth 100000 in
theorem c_X10_rate {l : Launch} {D : va_G} {cI cJ : ClassId} {g : pa_GT} {a_m a_mt a_ml a_mr a_mx a_mf a_mg a_mw a_mh : Nat} {x1 : Int32} {x2 : Int32} {v_m_thrown : Int32} {v_m_trace : Int64} {v_m_typed : Int32} {v_m_next : Int32} {v_m_token : Int32} {v_m_place : Int32} {v_m_value : Int32} {v_m_fault : Int32} {v_m_finds : Int32} {v_m_weeks : Int32} {v_m_rows : Int32} {v_m_cardPrice : Int32} {v_m_lotPrice : Int32} {v_m_sure : Int32} {v_m_up : Int64} {v_m_down : Int64} {v_mr : Nat → Int32} {o : Int32 × Int32 × (Nat → Int32)} (hf : f_X10_rate x1 x2 v_mr = some o) : pa_Mi l yX10_rate wsX10_rate rm_X10_rate D cI cJ g [.ref a_m, .int x1, .int x2] (wo_X10_rate cI cJ a_m a_mt a_ml a_mr a_mx a_mf a_mg a_mw a_mh v_m_thrown v_m_trace v_m_typed v_m_next v_m_token v_m_place v_m_value v_m_fault v_m_finds v_m_weeks v_m_rows v_m_cardPrice v_m_lotPrice v_m_sure v_m_up v_m_down v_mr) (wo_X10_rate cI cJ a_m a_mt a_ml a_mr a_mx a_mf a_mg a_mw a_mh o.2.1 v_m_trace v_m_typed v_m_next v_m_token v_m_place v_m_value v_m_fault v_m_finds v_m_weeks v_m_rows v_m_cardPrice v_m_lotPrice v_m_sure v_m_up v_m_down o.2.2) o.1 := by
  intro sz
  refine pa_met (cc := cX10_rate) (maxL := 4) (ret := (some .int)) (lv := [(0, .ref a_m), (1, .int x1), (2, .int x2)]) (by decide) rfl (Nat.le_of_ble_eq_true rfl) rfl ?_
  intro p e s m below meth c X hsz hP hD ls hl
  subst hsz
  exact w_X10_rate_b0 X hf hP hD va_S.rf hl
abbrev wo_X10_people (cI cJ : ClassId) (a_m a_mt a_ml a_mr a_mx a_mf a_mg a_mw a_mh : Nat) (v_m_thrown : Int32) (v_m_trace : Int64) (v_m_typed : Int32) (v_m_next : Int32) (v_m_token : Int32) (v_m_place : Int32) (v_m_value : Int32) (v_m_fault : Int32) (v_m_finds : Int32) (v_m_weeks : Int32) (v_m_rows : Int32) (v_m_cardPrice : Int32) (v_m_lotPrice : Int32) (v_m_sure : Int32) (v_m_up : Int64) (v_m_down : Int64) (v_ml : Nat → Int32) : va_W := [(a_m, .inr (9, [.int v_m_thrown, .long v_m_trace, .ref a_mt, .ref a_ml, .ref a_mr, .ref a_mx, .int v_m_typed, .int v_m_next, .int v_m_token, .int v_m_place, .int v_m_value, .int v_m_fault, .int v_m_finds, .ref a_mf, .ref a_mg, .int v_m_weeks, .ref a_mw, .int v_m_rows, .ref a_mh, .int v_m_cardPrice, .int v_m_lotPrice, .int v_m_sure, .long v_m_up, .long v_m_down])), (a_ml, .inl (cI, 32, .inl v_ml))]
abbrev rm_X10_people : Room := { frames := 2, cells := 0, slots := 0, locals := 42 }
theorem il_X10_people_X10 : ∀ w ∈ wsX100, w ∈ wsX10_people := by decide +kernel
theorem fk_X10_people_0 : Cond.fieldLink RX10 45 "PostedAsksModel" "thrown" "I" ∈ wsX10_people := by decide +kernel
def f_X10_people_b82 (s1 : Int32) (s2 : Int32) (v_m_thrown : Int32) (v_ml : Nat → Int32) : Option (Int32 × Int32) :=
  (f_X10_persons s1 s2 v_ml).bind fun u_1 =>
  some (u_1, v_m_thrown)
def f_X10_people (x1 : Int32) (x2 : Int32) (v_ml : Nat → Int32) : Option (Int32 × Int32) :=
  (f_X10_isLand x1).bind fun u_3 =>
  if u_3 = 0 then
    some ((-1 : Int32), (0 : Int32))
  else
    (f_X10_in x2 (0 : Int32) (5 : Int32)).bind fun u_6 =>
    if u_6 = 0 then
      some ((-1 : Int32), (0 : Int32))
    else
      if x2 = 0 then
        f_X10_people_b82 x1 (255 : Int32) (0 : Int32) v_ml
      else
        if x2 = (1 : Int32) then
          f_X10_people_b82 x1 (170 : Int32) (0 : Int32) v_ml
        else
          if x2 = (2 : Int32) then
            f_X10_people_b82 x1 (240 : Int32) (0 : Int32) v_ml
          else
            if x2 = (3 : Int32) then
              f_X10_people_b82 x1 (160 : Int32) (0 : Int32) v_ml
            else
              if x2 = (4 : Int32) then
                f_X10_people_b82 x1 (204 : Int32) (0 : Int32) v_ml
              else
                f_X10_people_b82 x1 (136 : Int32) (0 : Int32) v_ml
set_option maxHeartbeats 4000000 in
set_option maxRecDepth 100000 in
theorem w_X10_people_b82 {l : Launch} {D : va_G} {cI cJ : ClassId} {g : pa_GT} {a_m a_mt a_ml a_mr a_mx a_mf a_mg a_mw a_mh : Nat} {A : Nat → Prop} {p : Program} {e : Env} {s : State} {m : MethodId} {args : Array Value} {below : List Frame} {meth : Method} {c : Code} {s1 : Int32} {s2 : Int32} {v_m_thrown : Int32} {v_ml : Nat → Int32} {v_m_trace : Int64} {v_m_typed : Int32} {v_m_next : Int32} {v_m_token : Int32} {v_m_place : Int32} {v_m_value : Int32} {v_m_fault : Int32} {v_m_finds : Int32} {v_m_weeks : Int32} {v_m_rows : Int32} {v_m_cardPrice : Int32} {v_m_lotPrice : Int32} {v_m_sure : Int32} {v_m_up : Int64} {v_m_down : Int64} {o : Int32 × Int32} (X : pa_X cX10_people 3 (some .int) RX10 wsX10_people D cI cJ g A p s m args meth c)  (hf : f_X10_people_b82 s1 s2 v_m_thrown v_ml = some o) {H : Heap} {locs : List Loc} (hP : va_P D vwCl (wo_X10_people cI cJ a_m a_mt a_ml a_mr a_mx a_mf a_mg a_mw a_mh v_m_thrown v_m_trace v_m_typed v_m_next v_m_token v_m_place v_m_value v_m_fault v_m_finds v_m_weeks v_m_rows v_m_cardPrice v_m_lotPrice v_m_sure v_m_up v_m_down v_ml) H) (hD : va_D A (wo_X10_people cI cJ a_m a_mt a_ml a_mr a_mx a_mf a_mg a_mw a_mh v_m_thrown v_m_trace v_m_typed v_m_next v_m_token v_m_place v_m_value v_m_fault v_m_finds v_m_weeks v_m_rows v_m_cardPrice v_m_lotPrice v_m_sure v_m_up v_m_down v_ml)) (hS : va_S A s.heap H locs) {ls : Array Slot} (hl : lv_has ls 3 []) : W p l e (headSpec wsX10_people rm_X10_people).room s m args below meth c H locs 0 0 (MQ below (va_Qi (fun r (_ : Unit) => r = o.1) (pa_QB D A (wo_X10_people cI cJ a_m a_mt a_ml a_mr a_mx a_mf a_mg a_mw a_mh o.2 v_m_trace v_m_typed v_m_next v_m_token v_m_place v_m_value v_m_fault v_m_finds v_m_weeks v_m_rows v_m_cardPrice v_m_lotPrice v_m_sure v_m_up v_m_down v_ml)) A) args s 0 0 A) (F0 m 82 ls [.int s2, .int s1, .ref a_m]) := by
  obtain ⟨hx, hb, hr, hml, hown, hts, hK, hA, hG, hlk⟩ := id X
  delta f_X10_people_b82 at hf
  obtain ⟨u_1, hg_2, hf⟩ := pa_bd hf
  refine pa_ki (wc := (wo_X10_persons cI cJ a_m a_mt a_ml a_mr a_mx a_mf a_mg a_mw a_mh v_m_thrown v_m_trace v_m_typed v_m_next v_m_token v_m_place v_m_value v_m_fault v_m_finds v_m_weeks v_m_rows v_m_cardPrice v_m_lotPrice v_m_sure v_m_up v_m_down v_ml)) (wr := ([] : va_W)) (w1 := (wo_X10_persons cI cJ a_m a_mt a_ml a_mr a_mx a_mf a_mg a_mw a_mh v_m_thrown v_m_trace v_m_typed v_m_next v_m_token v_m_place v_m_value v_m_fault v_m_finds v_m_weeks v_m_rows v_m_cardPrice v_m_lotPrice v_m_sure v_m_up v_m_down v_ml)) (w2 := (wo_X10_people cI cJ a_m a_mt a_ml a_mr a_mx a_mf a_mg a_mw a_mh v_m_thrown v_m_trace v_m_typed v_m_next v_m_token v_m_place v_m_value v_m_fault v_m_finds v_m_weeks v_m_rows v_m_cardPrice v_m_lotPrice v_m_sure v_m_up v_m_down v_ml)) X hP hD hS [0, 1] [] [0, 1] rfl (pa_rV (As := [.int s1, .int s2]) (rest := []) (T := TX10) X hP hD hS [0, 1] rfl rfl (c_X10_persons hg_2 H.size) (cwV 2 hts gX10_people_X10_persons rfl rfl rfl (by decide +kernel) ⟨Nat.le_of_ble_eq_true rfl, Nat.le_of_ble_eq_true rfl⟩) (q0 := 0) rfl rfl rfl hl.1 rfl (Nat.le_of_ble_eq_true rfl) dX10_people_82 ⟨Nat.zero_le _, Nat.zero_le _⟩) rfl rfl (by decide) rfl rfl (fun H locs hP hD hS => ?_)
  obtain rfl := Option.some.inj hf
  exact pa_ei X hP hD hS dX10_people_85
set_option maxHeartbeats 4000000 in
set_option maxRecDepth 100000 in
theorem w_X10_people_b0 {l : Launch} {D : va_G} {cI cJ : ClassId} {g : pa_GT} {a_m a_mt a_ml a_mr a_mx a_mf a_mg a_mw a_mh : Nat} {A : Nat → Prop} {p : Program} {e : Env} {s : State} {m : MethodId} {args : Array Value} {below : List Frame} {meth : Method} {c : Code} {x1 : Int32} {x2 : Int32} {v_ml : Nat → Int32} {v_m_thrown : Int32} {v_m_trace : Int64} {v_m_typed : Int32} {v_m_next : Int32} {v_m_token : Int32} {v_m_place : Int32} {v_m_value : Int32} {v_m_fault : Int32} {v_m_finds : Int32} {v_m_weeks : Int32} {v_m_rows : Int32} {v_m_cardPrice : Int32} {v_m_lotPrice : Int32} {v_m_sure : Int32} {v_m_up : Int64} {v_m_down : Int64} {o : Int32 × Int32} (X : pa_X cX10_people 3 (some .int) RX10 wsX10_people D cI cJ g A p s m args meth c)  (hf : f_X10_people x1 x2 v_ml = some o) {H : Heap} {locs : List Loc} (hP : va_P D vwCl (wo_X10_people cI cJ a_m a_mt a_ml a_mr a_mx a_mf a_mg a_mw a_mh v_m_thrown v_m_trace v_m_typed v_m_next v_m_token v_m_place v_m_value v_m_fault v_m_finds v_m_weeks v_m_rows v_m_cardPrice v_m_lotPrice v_m_sure v_m_up v_m_down v_ml) H) (hD : va_D A (wo_X10_people cI cJ a_m a_mt a_ml a_mr a_mx a_mf a_mg a_mw a_mh v_m_thrown v_m_trace v_m_typed v_m_next v_m_token v_m_place v_m_value v_m_fault v_m_finds v_m_weeks v_m_rows v_m_cardPrice v_m_lotPrice v_m_sure v_m_up v_m_down v_ml)) (hS : va_S A s.heap H locs) {ls : Array Slot} (hl : lv_has ls 3 [(0, .ref a_m), (1, .int x1), (2, .int x2)]) : W p l e (headSpec wsX10_people rm_X10_people).room s m args below meth c H locs 0 0 (MQ below (va_Qi (fun r (_ : Unit) => r = o.1) (pa_QB D A (wo_X10_people cI cJ a_m a_mt a_ml a_mr a_mx a_mf a_mg a_mw a_mh o.2 v_m_trace v_m_typed v_m_next v_m_token v_m_place v_m_value v_m_fault v_m_finds v_m_weeks v_m_rows v_m_cardPrice v_m_lotPrice v_m_sure v_m_up v_m_down v_ml)) A) args s 0 0 A) (F0 m 0 ls []) := by
  obtain ⟨hx, hb, hr, hml, hown, hts, hK, hA, hG, hlk⟩ := id X
  delta f_X10_people at hf
  refine lv_aload_n hx hb dX10_people_0 rfl (lv_at hl 0 rfl) ?_
  refine lv_iconst (v := (0 : Int32)) hx hb dX10_people_1 (by decide) ?_
  refine va_put (D := D) (ci := 9) (v := .int (0 : Int32)) (ty := .int) (C := RX10) (T := TX10) (N := 24) hx hb hts il_X10_people_X10 tyX10 tyX10_ok nmX10 hown hK hP hD hS 0 rfl rfl 0 (by decide) (hts _ fk_X10_people_0) (fun _ h9 => h9) rfl (tyX10_ok 0 (by decide)) rfl rfl (Nat.le_of_ble_eq_true rfl) dX10_people_2 (fun H locs hP hD hS => ?_)
  have hP : va_P D vwCl (wo_X10_people cI cJ a_m a_mt a_ml a_mr a_mx a_mf a_mg a_mw a_mh (0 : Int32) v_m_trace v_m_typed v_m_next v_m_token v_m_place v_m_value v_m_fault v_m_finds v_m_weeks v_m_rows v_m_cardPrice v_m_lotPrice v_m_sure v_m_up v_m_down v_ml) H := hP
  have hD : va_D A (wo_X10_people cI cJ a_m a_mt a_ml a_mr a_mx a_mf a_mg a_mw a_mh (0 : Int32) v_m_trace v_m_typed v_m_next v_m_token v_m_place v_m_value v_m_fault v_m_finds v_m_weeks v_m_rows v_m_cardPrice v_m_lotPrice v_m_sure v_m_up v_m_down v_ml) := hD
  refine lv_iload_n hx hb dX10_people_5 rfl (lv_at hl 1 rfl) ?_
  obtain ⟨u_3, hg_4, hf⟩ := pa_bd hf
  refine pa_ki (wc := ([] : va_W)) (wr := [(a_m, .inr (9, [.int (0 : Int32), .long v_m_trace, .ref a_mt, .ref a_ml, .ref a_mr, .ref a_mx, .int v_m_typed, .int v_m_next, .int v_m_token, .int v_m_place, .int v_m_value, .int v_m_fault, .int v_m_finds, .ref a_mf, .ref a_mg, .int v_m_weeks, .ref a_mw, .int v_m_rows, .ref a_mh, .int v_m_cardPrice, .int v_m_lotPrice, .int v_m_sure, .long v_m_up, .long v_m_down])), (a_ml, .inl (cI, 32, .inl v_ml))]) (w1 := ([] : va_W)) (w2 := (wo_X10_people cI cJ a_m a_mt a_ml a_mr a_mx a_mf a_mg a_mw a_mh (0 : Int32) v_m_trace v_m_typed v_m_next v_m_token v_m_place v_m_value v_m_fault v_m_finds v_m_weeks v_m_rows v_m_cardPrice v_m_lotPrice v_m_sure v_m_up v_m_down v_ml)) X hP hD hS [] [0, 1] [0, 1] rfl (pa_rS (As := [.int x1]) (rest := []) X hP hD hS [] rfl rfl (c_X10_isLand hg_4 H.size) (va_cwS 1 hts gX10_people_X10_isLand rfl rfl rfl (by decide +kernel) ⟨Nat.le_of_ble_eq_true rfl, Nat.le_of_ble_eq_true rfl⟩) rfl hl.1 rfl (Nat.le_of_ble_eq_true rfl) dX10_people_6 ⟨Nat.zero_le _, Nat.zero_le _⟩) rfl rfl (by decide) rfl rfl (fun H locs hP hD hS => ?_)
  refine lv_if_eq (tgt := 21) hx hb dX10_people_9 (by decide) (fun c_5 => ?_) (fun c_5 => ?_)
  · have hf := (if_pos c_5).symm.trans hf
    refine lv_iconst (v := (-1 : Int32)) hx hb dX10_people_21 (by decide) ?_
    obtain rfl := Option.some.inj hf
    exact pa_ei X hP hD hS dX10_people_22
  · have hf := (if_neg c_5).symm.trans hf
    refine lv_iload_n hx hb dX10_people_12 rfl (lv_at hl 2 rfl) ?_
    refine lv_iconst (v := (0 : Int32)) hx hb dX10_people_13 (by decide) ?_
    refine lv_iconst (v := (5 : Int32)) hx hb dX10_people_14 (by decide) ?_
    obtain ⟨u_6, hg_7, hf⟩ := pa_bd hf
    refine pa_ki (wc := ([] : va_W)) (wr := [(a_m, .inr (9, [.int (0 : Int32), .long v_m_trace, .ref a_mt, .ref a_ml, .ref a_mr, .ref a_mx, .int v_m_typed, .int v_m_next, .int v_m_token, .int v_m_place, .int v_m_value, .int v_m_fault, .int v_m_finds, .ref a_mf, .ref a_mg, .int v_m_weeks, .ref a_mw, .int v_m_rows, .ref a_mh, .int v_m_cardPrice, .int v_m_lotPrice, .int v_m_sure, .long v_m_up, .long v_m_down])), (a_ml, .inl (cI, 32, .inl v_ml))]) (w1 := ([] : va_W)) (w2 := (wo_X10_people cI cJ a_m a_mt a_ml a_mr a_mx a_mf a_mg a_mw a_mh (0 : Int32) v_m_trace v_m_typed v_m_next v_m_token v_m_place v_m_value v_m_fault v_m_finds v_m_weeks v_m_rows v_m_cardPrice v_m_lotPrice v_m_sure v_m_up v_m_down v_ml)) X hP hD hS [] [0, 1] [0, 1] rfl (pa_rS (As := [.int x2, .int (0 : Int32), .int (5 : Int32)]) (rest := []) X hP hD hS [] rfl rfl (c_X10_in hg_7 H.size) (va_cwS 3 hts gX10_people_X10_in rfl rfl rfl (by decide +kernel) ⟨Nat.le_of_ble_eq_true rfl, Nat.le_of_ble_eq_true rfl⟩) rfl hl.1 rfl (Nat.le_of_ble_eq_true rfl) dX10_people_15 ⟨Nat.zero_le _, Nat.zero_le _⟩) rfl rfl (by decide) rfl rfl (fun H locs hP hD hS => ?_)
    refine lv_if_ne (tgt := 23) hx hb dX10_people_18 (by decide) (fun c_8 => ?_) (fun c_8 => ?_)
    · have hf := (if_neg c_8).symm.trans hf
      refine lv_aload_n hx hb dX10_people_23 rfl (lv_at hl 0 rfl) ?_
      refine lv_iload_n hx hb dX10_people_24 rfl (lv_at hl 1 rfl) ?_
      refine lv_iload_n hx hb dX10_people_25 rfl (lv_at hl 2 rfl) ?_
      refine lv_if_ne (tgt := 35) hx hb dX10_people_26 (by decide) (fun c_9 => ?_) (fun c_9 => ?_)
      · have hf := (if_neg c_9).symm.trans hf
        refine lv_iload_n hx hb dX10_people_35 rfl (lv_at hl 2 rfl) ?_
        refine lv_iconst (v := (1 : Int32)) hx hb dX10_people_36 (by decide) ?_
        refine lv_icmp_ne (tgt := 46) hx hb dX10_people_37 (by decide) (fun c_10 => ?_) (fun c_10 => ?_)
        · have hf := (if_neg c_10).symm.trans hf
          refine lv_iload_n hx hb dX10_people_46 rfl (lv_at hl 2 rfl) ?_
          refine lv_iconst (v := (2 : Int32)) hx hb dX10_people_47 (by decide) ?_
          refine lv_icmp_ne (tgt := 57) hx hb dX10_people_48 (by decide) (fun c_11 => ?_) (fun c_11 => ?_)
          · have hf := (if_neg c_11).symm.trans hf
            refine lv_iload_n hx hb dX10_people_57 rfl (lv_at hl 2 rfl) ?_
            refine lv_iconst (v := (3 : Int32)) hx hb dX10_people_58 (by decide) ?_
            refine lv_icmp_ne (tgt := 68) hx hb dX10_people_59 (by decide) (fun c_12 => ?_) (fun c_12 => ?_)
            · have hf := (if_neg c_12).symm.trans hf
              refine lv_iload_n hx hb dX10_people_68 rfl (lv_at hl 2 rfl) ?_
              refine lv_iconst (v := (4 : Int32)) hx hb dX10_people_69 (by decide) ?_
              refine lv_icmp_ne (tgt := 79) hx hb dX10_people_70 (by decide) (fun c_13 => ?_) (fun c_13 => ?_)
              · have hf := (if_neg c_13).symm.trans hf
                refine lv_sipush (v := (136 : Int32)) hx hb dX10_people_79 (by decide) ?_
                exact w_X10_people_b82 X  hf hP hD hS (lv_sub hl [] rfl)
              · have hf := (if_pos c_13).symm.trans hf
                refine lv_sipush (v := (204 : Int32)) hx hb dX10_people_73 (by decide) ?_
                refine lv_goto (tgt := 82) hx hb dX10_people_76 (by decide) ?_
                exact w_X10_people_b82 X  hf hP hD hS (lv_sub hl [] rfl)
            · have hf := (if_pos c_12).symm.trans hf
              refine lv_sipush (v := (160 : Int32)) hx hb dX10_people_62 (by decide) ?_
              refine lv_goto (tgt := 82) hx hb dX10_people_65 (by decide) ?_
              exact w_X10_people_b82 X  hf hP hD hS (lv_sub hl [] rfl)
          · have hf := (if_pos c_11).symm.trans hf
            refine lv_sipush (v := (240 : Int32)) hx hb dX10_people_51 (by decide) ?_
            refine lv_goto (tgt := 82) hx hb dX10_people_54 (by decide) ?_
            exact w_X10_people_b82 X  hf hP hD hS (lv_sub hl [] rfl)
        · have hf := (if_pos c_10).symm.trans hf
          refine lv_sipush (v := (170 : Int32)) hx hb dX10_people_40 (by decide) ?_
          refine lv_goto (tgt := 82) hx hb dX10_people_43 (by decide) ?_
          exact w_X10_people_b82 X  hf hP hD hS (lv_sub hl [] rfl)
      · have hf := (if_pos c_9).symm.trans hf
        refine lv_sipush (v := (255 : Int32)) hx hb dX10_people_29 (by decide) ?_
        refine lv_goto (tgt := 82) hx hb dX10_people_32 (by decide) ?_
        exact w_X10_people_b82 X  hf hP hD hS (lv_sub hl [] rfl)
    · have hf := (if_pos c_8).symm.trans hf
      refine lv_iconst (v := (-1 : Int32)) hx hb dX10_people_21 (by decide) ?_
      obtain rfl := Option.some.inj hf
      exact pa_ei X hP hD hS dX10_people_22
set_option maxHeartbeats 4000000 in
set_option maxRecDepth 100000 in
theorem c_X10_people {l : Launch} {D : va_G} {cI cJ : ClassId} {g : pa_GT} {a_m a_mt a_ml a_mr a_mx a_mf a_mg a_mw a_mh : Nat} {x1 : Int32} {x2 : Int32} {v_m_thrown : Int32} {v_m_trace : Int64} {v_m_typed : Int32} {v_m_next : Int32} {v_m_token : Int32} {v_m_place : Int32} {v_m_value : Int32} {v_m_fault : Int32} {v_m_finds : Int32} {v_m_weeks : Int32} {v_m_rows : Int32} {v_m_cardPrice : Int32} {v_m_lotPrice : Int32} {v_m_sure : Int32} {v_m_up : Int64} {v_m_down : Int64} {v_ml : Nat → Int32} {o : Int32 × Int32} (hf : f_X10_people x1 x2 v_ml = some o) : pa_Mi l yX10_people wsX10_people rm_X10_people D cI cJ g [.ref a_m, .int x1, .int x2] (wo_X10_people cI cJ a_m a_mt a_ml a_mr a_mx a_mf a_mg a_mw a_mh v_m_thrown v_m_trace v_m_typed v_m_next v_m_token v_m_place v_m_value v_m_fault v_m_finds v_m_weeks v_m_rows v_m_cardPrice v_m_lotPrice v_m_sure v_m_up v_m_down v_ml) (wo_X10_people cI cJ a_m a_mt a_ml a_mr a_mx a_mf a_mg a_mw a_mh o.2 v_m_trace v_m_typed v_m_next v_m_token v_m_place v_m_value v_m_fault v_m_finds v_m_weeks v_m_rows v_m_cardPrice v_m_lotPrice v_m_sure v_m_up v_m_down v_ml) o.1 := by
  intro sz
  refine pa_met (cc := cX10_people) (maxL := 3) (ret := (some .int)) (lv := [(0, .ref a_m), (1, .int x1), (2, .int x2)]) (by decide) rfl (Nat.le_of_ble_eq_true rfl) rfl ?_
  intro p e s m below meth c X hsz hP hD ls hl
  subst hsz
  exact w_X10_people_b0 X hf hP hD va_S.rf hl
abbrev wo_X10_back (cI cJ : ClassId) (a_m a_mt a_ml a_mr a_mx a_mf a_mg a_mw a_mh : Nat) (v_m_thrown : Int32) (v_m_trace : Int64) (v_m_typed : Int32) (v_m_next : Int32) (v_m_token : Int32) (v_m_place : Int32) (v_m_value : Int32) (v_m_fault : Int32) (v_m_finds : Int32) (v_m_weeks : Int32) (v_m_rows : Int32) (v_m_cardPrice : Int32) (v_m_lotPrice : Int32) (v_m_sure : Int32) (v_m_up : Int64) (v_m_down : Int64) (v_ml : Nat → Int32) (v_mr : Nat → Int32) : va_W := [(a_m, .inr (9, [.int v_m_thrown, .long v_m_trace, .ref a_mt, .ref a_ml, .ref a_mr, .ref a_mx, .int v_m_typed, .int v_m_next, .int v_m_token, .int v_m_place, .int v_m_value, .int v_m_fault, .int v_m_finds, .ref a_mf, .ref a_mg, .int v_m_weeks, .ref a_mw, .int v_m_rows, .ref a_mh, .int v_m_cardPrice, .int v_m_lotPrice, .int v_m_sure, .long v_m_up, .long v_m_down])), (a_ml, .inl (cI, 32, .inl v_ml)), (a_mr, .inl (cI, 8, .inl v_mr))]
abbrev rm_X10_back : Room := { frames := 0, cells := 0, slots := 0, locals := 0 }
theorem il_X10_back_X10 : ∀ w ∈ wsX100, w ∈ wsX10_back := by decide +kernel
theorem fk_X10_back_0 : Cond.fieldLink RX10 13 "PostedAsksModel" "lands" "[I" ∈ wsX10_back := by decide +kernel
theorem fk_X10_back_1 : Cond.fieldLink RX10 17 "PostedAsksModel" "rates" "[I" ∈ wsX10_back := by decide +kernel
def f_X10_back_L5_body (x1 : Int32) (x2 : Int32) (v_ml : Nat → Int32) (v_mr : Nat → Int32) (rec5 : Int32 → Int32 → Option (Int32)) (x3 : Int32) (x4 : Int32) : Option (Int32) :=
  if (8 : Int32) ≤ x4 then
    some (x3)
  else
    if ((x2 >>> (x4 &&& 31)) &&& (1 : Int32)) = (1 : Int32) then
      if pa_ib (((8 : Int32) * x1) + x4) 32 = true then
        if pa_ib x4 8 = true then
          rec5 (x3 + (((v_ml (Int32.toNatClampNeg (((8 : Int32) * x1) + x4))) * (v_mr (Int32.toNatClampNeg x4))) / (100 : Int32))) (x4 + (1 : Int32))
        else none
      else none
    else
      rec5 (x3 + (0 : Int32)) (x4 + (1 : Int32))
def f_X10_back_L5 (x1 : Int32) (x2 : Int32) (v_ml : Nat → Int32) (v_mr : Nat → Int32) : Nat → Int32 → Int32 → Option (Int32)
  | 0 => fun _ _ => none
  | n + 1 => f_X10_back_L5_body x1 x2 v_ml v_mr (f_X10_back_L5 x1 x2 v_ml v_mr n)
def f_X10_back (x1 : Int32) (x2 : Int32) (v_ml : Nat → Int32) (v_mr : Nat → Int32) : Option (Int32) :=
  f_X10_back_L5 x1 x2 v_ml v_mr pa_fu (0 : Int32) (4 : Int32)
set_option maxHeartbeats 4000000 in
set_option maxRecDepth 100000 in
theorem w_X10_back_L5 {l : Launch} {D : va_G} {cI cJ : ClassId} {g : pa_GT} {a_m a_mt a_ml a_mr a_mx a_mf a_mg a_mw a_mh : Nat} {A : Nat → Prop} {p : Program} {e : Env} {s : State} {m : MethodId} {args : Array Value} {below : List Frame} {meth : Method} {c : Code} {x1 : Int32} {x2 : Int32} {v_ml : Nat → Int32} {v_mr : Nat → Int32} {v_m_thrown : Int32} {v_m_trace : Int64} {v_m_typed : Int32} {v_m_next : Int32} {v_m_token : Int32} {v_m_place : Int32} {v_m_value : Int32} {v_m_fault : Int32} {v_m_finds : Int32} {v_m_weeks : Int32} {v_m_rows : Int32} {v_m_cardPrice : Int32} {v_m_lotPrice : Int32} {v_m_sure : Int32} {v_m_up : Int64} {v_m_down : Int64} {o : Int32} (X : pa_X cX10_back 5 (some .int) RX10 wsX10_back D cI cJ g A p s m args meth c)  : ∀ (n : Nat) (x3 : Int32) (x4 : Int32), f_X10_back_L5 x1 x2 v_ml v_mr n x3 x4 = some o → ∀ (H : Heap) (locs : List Loc) , va_P D vwCl (wo_X10_back cI cJ a_m a_mt a_ml a_mr a_mx a_mf a_mg a_mw a_mh v_m_thrown v_m_trace v_m_typed v_m_next v_m_token v_m_place v_m_value v_m_fault v_m_finds v_m_weeks v_m_rows v_m_cardPrice v_m_lotPrice v_m_sure v_m_up v_m_down v_ml v_mr) H → va_D A (wo_X10_back cI cJ a_m a_mt a_ml a_mr a_mx a_mf a_mg a_mw a_mh v_m_thrown v_m_trace v_m_typed v_m_next v_m_token v_m_place v_m_value v_m_fault v_m_finds v_m_weeks v_m_rows v_m_cardPrice v_m_lotPrice v_m_sure v_m_up v_m_down v_ml v_mr) → va_S A s.heap H locs → ∀ (ls : Array Slot), lv_has ls 5 [(0, .ref a_m), (1, .int x1), (2, .int x2), (3, .int x3), (4, .int x4)] → W p l e (headSpec wsX10_back rm_X10_back).room s m args below meth c H locs 0 0 (MQ below (va_Qi (fun r (_ : Unit) => r = o) (pa_QB D A (wo_X10_back cI cJ a_m a_mt a_ml a_mr a_mx a_mf a_mg a_mw a_mh v_m_thrown v_m_trace v_m_typed v_m_next v_m_token v_m_place v_m_value v_m_fault v_m_finds v_m_weeks v_m_rows v_m_cardPrice v_m_lotPrice v_m_sure v_m_up v_m_down v_ml v_mr)) A) args s 0 0 A) (F0 m 5 ls []) := by
  obtain ⟨hx, hb, hr, hml, hown, hts, hK, hA, hG, hlk⟩ := id X
  intro n
  induction n with
  | zero =>
    intro x3 x4 hf
    have hf : (none : Option (Int32)) = some o := hf
    cases hf
  | succ n hrec5 =>
    intro x3 x4 hf H locs  hP hD hS ls hl
    have hf : f_X10_back_L5_body x1 x2 v_ml v_mr (f_X10_back_L5 x1 x2 v_ml v_mr n) x3 x4 = some o := hf
    delta f_X10_back_L5_body at hf
    generalize hgr : f_X10_back_L5 x1 x2 v_ml v_mr n = rec5 at hf hrec5
    refine lv_iload hx hb dX10_back_5 (lv_at hl 4 rfl) ?_
    refine lv_bipush (v := (8 : Int32)) hx hb dX10_back_7 (by decide) ?_
    refine lv_icmp_ge (tgt := 58) hx hb dX10_back_9 (by decide) (fun c_1 => ?_) (fun c_1 => ?_)
    · have hf := (if_pos c_1).symm.trans hf
      refine lv_iload_n hx hb dX10_back_58 rfl (lv_at hl 3 rfl) ?_
      obtain rfl := Option.some.inj hf
      exact pa_ei X hP hD hS dX10_back_59
    · have hf := (if_neg c_1).symm.trans hf
      refine lv_iload_n hx hb dX10_back_12 rfl (lv_at hl 3 rfl) ?_
      refine lv_iload_n hx hb dX10_back_13 rfl (lv_at hl 2 rfl) ?_
      refine lv_iload hx hb dX10_back_14 (lv_at hl 4 rfl) ?_
      refine lv_ishr hx hb dX10_back_16 ?_
      refine lv_iconst (v := (1 : Int32)) hx hb dX10_back_17 (by decide) ?_
      refine lv_iand hx hb dX10_back_18 ?_
      refine lv_iconst (v := (1 : Int32)) hx hb dX10_back_19 (by decide) ?_
      refine lv_icmp_ne (tgt := 49) hx hb dX10_back_20 (by decide) (fun c_2 => ?_) (fun c_2 => ?_)
      · have hf := (if_neg c_2).symm.trans hf
        refine lv_iconst (v := (0 : Int32)) hx hb dX10_back_49 (by decide) ?_
        refine lv_iadd hx hb dX10_back_50 ?_
        refine lv_istore_n (lv' := [(3, .int (x3 + (0 : Int32))), (0, .ref a_m), (1, .int x1), (2, .int x2), (4, .int x4)]) hx hb dX10_back_51 rfl hl (by decide) rfl (fun ls hl => ?_)
        refine lv_iinc (v := (x4 + (1 : Int32))) (lv' := [(4, .int (x4 + (1 : Int32))), (3, .int (x3 + (0 : Int32))), (0, .ref a_m), (1, .int x1), (2, .int x2)]) hx hb dX10_back_52 hl (k := 4) rfl rfl (by decide) rfl (fun ls hl => ?_)
        refine lv_goto (tgt := 5) hx hb dX10_back_55 (by decide) ?_
        exact hrec5 _ _ hf _ _  hP hD hS _ (lv_sub hl [2, 3, 4, 1, 0] rfl)
      · have hf := (if_pos c_2).symm.trans hf
        refine lv_aload_n hx hb dX10_back_23 rfl (lv_at hl 0 rfl) ?_
        refine va_get (D := D) (ci := 9) (v := .ref a_ml) (C := RX10) (T := TX10) (N := 24) hx hb hts il_X10_back_X10 hown hK hP 0 rfl rfl 3 (by decide) (hts _ fk_X10_back_0) (fun _ h9 => h9) rfl dX10_back_24 ?_
        refine lv_bipush (v := (8 : Int32)) hx hb dX10_back_27 (by decide) ?_
        refine lv_iload_n hx hb dX10_back_29 rfl (lv_at hl 1 rfl) ?_
        refine lv_imul hx hb dX10_back_30 ?_
        refine lv_iload hx hb dX10_back_31 (lv_at hl 4 rfl) ?_
        refine lv_iadd hx hb dX10_back_33 ?_
        obtain ⟨hi_3, hf⟩ := pa_gd hf
        refine va_iald hx hb hK hP 1 0 rfl rfl hi_3 dX10_back_34 ?_
        refine lv_aload_n hx hb dX10_back_35 rfl (lv_at hl 0 rfl) ?_
        refine va_get (D := D) (ci := 9) (v := .ref a_mr) (C := RX10) (T := TX10) (N := 24) hx hb hts il_X10_back_X10 hown hK hP 0 rfl rfl 4 (by decide) (hts _ fk_X10_back_1) (fun _ h9 => h9) rfl dX10_back_36 ?_
        refine lv_iload hx hb dX10_back_39 (lv_at hl 4 rfl) ?_
        obtain ⟨hi_4, hf⟩ := pa_gd hf
        refine va_iald hx hb hK hP 2 0 rfl rfl hi_4 dX10_back_41 ?_
        refine lv_imul hx hb dX10_back_42 ?_
        refine lv_bipush (v := (100 : Int32)) hx hb dX10_back_43 (by decide) ?_
        refine lv_idiv hx hb dX10_back_45 (by decide) ?_
        refine lv_goto (tgt := 50) hx hb dX10_back_46 (by decide) ?_
        refine lv_iadd hx hb dX10_back_50 ?_
        refine lv_istore_n (lv' := [(3, .int (x3 + (((v_ml (Int32.toNatClampNeg (((8 : Int32) * x1) + x4))) * (v_mr (Int32.toNatClampNeg x4))) / (100 : Int32)))), (0, .ref a_m), (1, .int x1), (2, .int x2), (4, .int x4)]) hx hb dX10_back_51 rfl hl (by decide) rfl (fun ls hl => ?_)
        refine lv_iinc (v := (x4 + (1 : Int32))) (lv' := [(4, .int (x4 + (1 : Int32))), (3, .int (x3 + (((v_ml (Int32.toNatClampNeg (((8 : Int32) * x1) + x4))) * (v_mr (Int32.toNatClampNeg x4))) / (100 : Int32)))), (0, .ref a_m), (1, .int x1), (2, .int x2)]) hx hb dX10_back_52 hl (k := 4) rfl rfl (by decide) rfl (fun ls hl => ?_)
        refine lv_goto (tgt := 5) hx hb dX10_back_55 (by decide) ?_
        exact hrec5 _ _ hf _ _  hP hD hS _ (lv_sub hl [2, 3, 4, 1, 0] rfl)
set_option maxHeartbeats 4000000 in
set_option maxRecDepth 100000 in
theorem w_X10_back_b0 {l : Launch} {D : va_G} {cI cJ : ClassId} {g : pa_GT} {a_m a_mt a_ml a_mr a_mx a_mf a_mg a_mw a_mh : Nat} {A : Nat → Prop} {p : Program} {e : Env} {s : State} {m : MethodId} {args : Array Value} {below : List Frame} {meth : Method} {c : Code} {x1 : Int32} {x2 : Int32} {v_ml : Nat → Int32} {v_mr : Nat → Int32} {v_m_thrown : Int32} {v_m_trace : Int64} {v_m_typed : Int32} {v_m_next : Int32} {v_m_token : Int32} {v_m_place : Int32} {v_m_value : Int32} {v_m_fault : Int32} {v_m_finds : Int32} {v_m_weeks : Int32} {v_m_rows : Int32} {v_m_cardPrice : Int32} {v_m_lotPrice : Int32} {v_m_sure : Int32} {v_m_up : Int64} {v_m_down : Int64} {o : Int32} (X : pa_X cX10_back 5 (some .int) RX10 wsX10_back D cI cJ g A p s m args meth c)  (hf : f_X10_back x1 x2 v_ml v_mr = some o) {H : Heap} {locs : List Loc} (hP : va_P D vwCl (wo_X10_back cI cJ a_m a_mt a_ml a_mr a_mx a_mf a_mg a_mw a_mh v_m_thrown v_m_trace v_m_typed v_m_next v_m_token v_m_place v_m_value v_m_fault v_m_finds v_m_weeks v_m_rows v_m_cardPrice v_m_lotPrice v_m_sure v_m_up v_m_down v_ml v_mr) H) (hD : va_D A (wo_X10_back cI cJ a_m a_mt a_ml a_mr a_mx a_mf a_mg a_mw a_mh v_m_thrown v_m_trace v_m_typed v_m_next v_m_token v_m_place v_m_value v_m_fault v_m_finds v_m_weeks v_m_rows v_m_cardPrice v_m_lotPrice v_m_sure v_m_up v_m_down v_ml v_mr)) (hS : va_S A s.heap H locs) {ls : Array Slot} (hl : lv_has ls 5 [(0, .ref a_m), (1, .int x1), (2, .int x2)]) : W p l e (headSpec wsX10_back rm_X10_back).room s m args below meth c H locs 0 0 (MQ below (va_Qi (fun r (_ : Unit) => r = o) (pa_QB D A (wo_X10_back cI cJ a_m a_mt a_ml a_mr a_mx a_mf a_mg a_mw a_mh v_m_thrown v_m_trace v_m_typed v_m_next v_m_token v_m_place v_m_value v_m_fault v_m_finds v_m_weeks v_m_rows v_m_cardPrice v_m_lotPrice v_m_sure v_m_up v_m_down v_ml v_mr)) A) args s 0 0 A) (F0 m 0 ls []) := by
  obtain ⟨hx, hb, hr, hml, hown, hts, hK, hA, hG, hlk⟩ := id X
  delta f_X10_back at hf
  refine lv_iconst (v := (0 : Int32)) hx hb dX10_back_0 (by decide) ?_
  refine lv_istore_n (lv' := [(3, .int (0 : Int32)), (0, .ref a_m), (1, .int x1), (2, .int x2)]) hx hb dX10_back_1 rfl hl (by decide) rfl (fun ls hl => ?_)
  refine lv_iconst (v := (4 : Int32)) hx hb dX10_back_2 (by decide) ?_
  refine lv_istore (lv' := [(4, .int (4 : Int32)), (3, .int (0 : Int32)), (0, .ref a_m), (1, .int x1), (2, .int x2)]) hx hb dX10_back_3 hl (by decide) rfl (fun ls hl => ?_)
  exact w_X10_back_L5 X  _ _ _ hf _ _  hP hD hS _ (lv_sub hl [2, 3, 4, 1, 0] rfl)
set_option maxHeartbeats 4000000 in
set_option maxRecDepth 100000 in
theorem c_X10_back {l : Launch} {D : va_G} {cI cJ : ClassId} {g : pa_GT} {a_m a_mt a_ml a_mr a_mx a_mf a_mg a_mw a_mh : Nat} {x1 : Int32} {x2 : Int32} {v_m_thrown : Int32} {v_m_trace : Int64} {v_m_typed : Int32} {v_m_next : Int32} {v_m_token : Int32} {v_m_place : Int32} {v_m_value : Int32} {v_m_fault : Int32} {v_m_finds : Int32} {v_m_weeks : Int32} {v_m_rows : Int32} {v_m_cardPrice : Int32} {v_m_lotPrice : Int32} {v_m_sure : Int32} {v_m_up : Int64} {v_m_down : Int64} {v_ml : Nat → Int32} {v_mr : Nat → Int32} {o : Int32} (hf : f_X10_back x1 x2 v_ml v_mr = some o) : pa_Mi l yX10_back wsX10_back rm_X10_back D cI cJ g [.ref a_m, .int x1, .int x2] (wo_X10_back cI cJ a_m a_mt a_ml a_mr a_mx a_mf a_mg a_mw a_mh v_m_thrown v_m_trace v_m_typed v_m_next v_m_token v_m_place v_m_value v_m_fault v_m_finds v_m_weeks v_m_rows v_m_cardPrice v_m_lotPrice v_m_sure v_m_up v_m_down v_ml v_mr) (wo_X10_back cI cJ a_m a_mt a_ml a_mr a_mx a_mf a_mg a_mw a_mh v_m_thrown v_m_trace v_m_typed v_m_next v_m_token v_m_place v_m_value v_m_fault v_m_finds v_m_weeks v_m_rows v_m_cardPrice v_m_lotPrice v_m_sure v_m_up v_m_down v_ml v_mr) o := by
  intro sz
  refine pa_met (cc := cX10_back) (maxL := 5) (ret := (some .int)) (lv := [(0, .ref a_m), (1, .int x1), (2, .int x2)]) (by decide) rfl (Nat.le_of_ble_eq_true rfl) rfl ?_
  intro p e s m below meth c X hsz hP hD ls hl
  subst hsz
  exact w_X10_back_b0 X hf hP hD va_S.rf hl
abbrev wo_X10_leans (cI cJ : ClassId) (a_m a_mt a_ml a_mr a_mx a_mf a_mg a_mw a_mh : Nat) (v_m_thrown : Int32) (v_m_trace : Int64) (v_m_typed : Int32) (v_m_next : Int32) (v_m_token : Int32) (v_m_place : Int32) (v_m_value : Int32) (v_m_fault : Int32) (v_m_finds : Int32) (v_m_weeks : Int32) (v_m_rows : Int32) (v_m_cardPrice : Int32) (v_m_lotPrice : Int32) (v_m_sure : Int32) (v_m_up : Int64) (v_m_down : Int64) (v_ml : Nat → Int32) (v_mr : Nat → Int32) : va_W := [(a_m, .inr (9, [.int v_m_thrown, .long v_m_trace, .ref a_mt, .ref a_ml, .ref a_mr, .ref a_mx, .int v_m_typed, .int v_m_next, .int v_m_token, .int v_m_place, .int v_m_value, .int v_m_fault, .int v_m_finds, .ref a_mf, .ref a_mg, .int v_m_weeks, .ref a_mw, .int v_m_rows, .ref a_mh, .int v_m_cardPrice, .int v_m_lotPrice, .int v_m_sure, .long v_m_up, .long v_m_down])), (a_ml, .inl (cI, 32, .inl v_ml)), (a_mr, .inl (cI, 8, .inl v_mr))]
abbrev rm_X10_leans : Room := { frames := 1, cells := 0, slots := 0, locals := 24 }
theorem il_X10_leans_X10 : ∀ w ∈ wsX100, w ∈ wsX10_leans := by decide +kernel
theorem fk_X10_leans_0 : Cond.fieldLink RX10 52 "PostedAsksModel" "up" "J" ∈ wsX10_leans := by decide +kernel
theorem fk_X10_leans_1 : Cond.fieldLink RX10 56 "PostedAsksModel" "down" "J" ∈ wsX10_leans := by decide +kernel
def f_X10_leans (x1 : Int32) (v_ml : Nat → Int32) (v_mr : Nat → Int32) : Option (Int32 × Int64 × Int64) :=
  (f_X10_back x1 (255 : Int32) v_ml v_mr).bind fun u_1 =>
  (f_X10_persons x1 (255 : Int32) v_ml).bind fun u_3 =>
  (f_X10_back x1 (170 : Int32) v_ml v_mr).bind fun u_5 =>
  (f_X10_persons x1 (170 : Int32) v_ml).bind fun u_7 =>
  if u_1 ≤ 0 then
    some ((0 : Int32), (((Int32.toInt64 u_5) * (Int32.toInt64 u_3)) - ((Int32.toInt64 u_7) * (Int32.toInt64 u_1))), ((Int32.toInt64 u_1) * (Int32.toInt64 u_3)))
  else
    some ((1 : Int32), (((Int32.toInt64 u_5) * (Int32.toInt64 u_3)) - ((Int32.toInt64 u_7) * (Int32.toInt64 u_1))), ((Int32.toInt64 u_1) * (Int32.toInt64 u_3)))
set_option maxHeartbeats 4000000 in
set_option maxRecDepth 100000 in
theorem w_X10_leans_b0 {l : Launch} {D : va_G} {cI cJ : ClassId} {g : pa_GT} {a_m a_mt a_ml a_mr a_mx a_mf a_mg a_mw a_mh : Nat} {A : Nat → Prop} {p : Program} {e : Env} {s : State} {m : MethodId} {args : Array Value} {below : List Frame} {meth : Method} {c : Code} {x1 : Int32} {v_ml : Nat → Int32} {v_mr : Nat → Int32} {v_m_thrown : Int32} {v_m_trace : Int64} {v_m_typed : Int32} {v_m_next : Int32} {v_m_token : Int32} {v_m_place : Int32} {v_m_value : Int32} {v_m_fault : Int32} {v_m_finds : Int32} {v_m_weeks : Int32} {v_m_rows : Int32} {v_m_cardPrice : Int32} {v_m_lotPrice : Int32} {v_m_sure : Int32} {v_m_up : Int64} {v_m_down : Int64} {o : Int32 × Int64 × Int64} (X : pa_X cX10_leans 4 (some .boolean) RX10 wsX10_leans D cI cJ g A p s m args meth c)  (hf : f_X10_leans x1 v_ml v_mr = some o) {H : Heap} {locs : List Loc} (hP : va_P D vwCl (wo_X10_leans cI cJ a_m a_mt a_ml a_mr a_mx a_mf a_mg a_mw a_mh v_m_thrown v_m_trace v_m_typed v_m_next v_m_token v_m_place v_m_value v_m_fault v_m_finds v_m_weeks v_m_rows v_m_cardPrice v_m_lotPrice v_m_sure v_m_up v_m_down v_ml v_mr) H) (hD : va_D A (wo_X10_leans cI cJ a_m a_mt a_ml a_mr a_mx a_mf a_mg a_mw a_mh v_m_thrown v_m_trace v_m_typed v_m_next v_m_token v_m_place v_m_value v_m_fault v_m_finds v_m_weeks v_m_rows v_m_cardPrice v_m_lotPrice v_m_sure v_m_up v_m_down v_ml v_mr)) (hS : va_S A s.heap H locs) {ls : Array Slot} (hl : lv_has ls 4 [(0, .ref a_m), (1, .int x1)]) : W p l e (headSpec wsX10_leans rm_X10_leans).room s m args below meth c H locs 0 0 (MQ below (va_Qi (fun r (_ : Unit) => r = o.1) (pa_QB D A (wo_X10_leans cI cJ a_m a_mt a_ml a_mr a_mx a_mf a_mg a_mw a_mh v_m_thrown v_m_trace v_m_typed v_m_next v_m_token v_m_place v_m_value v_m_fault v_m_finds v_m_weeks v_m_rows v_m_cardPrice v_m_lotPrice v_m_sure o.2.1 o.2.2 v_ml v_mr)) A) args s 0 0 A) (F0 m 0 ls []) := by
  obtain ⟨hx, hb, hr, hml, hown, hts, hK, hA, hG, hlk⟩ := id X
  delta f_X10_leans at hf
  refine lv_aload_n hx hb dX10_leans_0 rfl (lv_at hl 0 rfl) ?_
  refine lv_iload_n hx hb dX10_leans_1 rfl (lv_at hl 1 rfl) ?_
  refine lv_sipush (v := (255 : Int32)) hx hb dX10_leans_2 (by decide) ?_
  obtain ⟨u_1, hg_2, hf⟩ := pa_bd hf
  refine pa_ki (wc := (wo_X10_back cI cJ a_m a_mt a_ml a_mr a_mx a_mf a_mg a_mw a_mh v_m_thrown v_m_trace v_m_typed v_m_next v_m_token v_m_place v_m_value v_m_fault v_m_finds v_m_weeks v_m_rows v_m_cardPrice v_m_lotPrice v_m_sure v_m_up v_m_down v_ml v_mr)) (wr := ([] : va_W)) (w1 := (wo_X10_back cI cJ a_m a_mt a_ml a_mr a_mx a_mf a_mg a_mw a_mh v_m_thrown v_m_trace v_m_typed v_m_next v_m_token v_m_place v_m_value v_m_fault v_m_finds v_m_weeks v_m_rows v_m_cardPrice v_m_lotPrice v_m_sure v_m_up v_m_down v_ml v_mr)) (w2 := (wo_X10_leans cI cJ a_m a_mt a_ml a_mr a_mx a_mf a_mg a_mw a_mh v_m_thrown v_m_trace v_m_typed v_m_next v_m_token v_m_place v_m_value v_m_fault v_m_finds v_m_weeks v_m_rows v_m_cardPrice v_m_lotPrice v_m_sure v_m_up v_m_down v_ml v_mr)) X hP hD hS [0, 1, 2] [] [0, 1, 2] rfl (pa_rV (As := [.int x1, .int (255 : Int32)]) (rest := []) (T := TX10) X hP hD hS [0, 1, 2] rfl rfl (c_X10_back hg_2 H.size) (cwV 2 hts gX10_leans_X10_back rfl rfl rfl (by decide +kernel) ⟨Nat.le_of_ble_eq_true rfl, Nat.le_of_ble_eq_true rfl⟩) (q0 := 0) rfl rfl rfl hl.1 rfl (Nat.le_of_ble_eq_true rfl) dX10_leans_5 ⟨Nat.zero_le _, Nat.zero_le _⟩) rfl rfl (by decide) rfl rfl (fun H locs hP hD hS => ?_)
  refine lv_istore_n (lv' := [(2, .int u_1), (0, .ref a_m), (1, .int x1)]) hx hb dX10_leans_8 rfl hl (by decide) rfl (fun ls hl => ?_)
  refine lv_aload_n hx hb dX10_leans_9 rfl (lv_at hl 1 rfl) ?_
  refine lv_iload_n hx hb dX10_leans_10 rfl (lv_at hl 2 rfl) ?_
  refine lv_sipush (v := (255 : Int32)) hx hb dX10_leans_11 (by decide) ?_
  obtain ⟨u_3, hg_4, hf⟩ := pa_bd hf
  refine pa_ki (wc := (wo_X10_persons cI cJ a_m a_mt a_ml a_mr a_mx a_mf a_mg a_mw a_mh v_m_thrown v_m_trace v_m_typed v_m_next v_m_token v_m_place v_m_value v_m_fault v_m_finds v_m_weeks v_m_rows v_m_cardPrice v_m_lotPrice v_m_sure v_m_up v_m_down v_ml)) (wr := [(a_mr, .inl (cI, 8, .inl v_mr))]) (w1 := (wo_X10_persons cI cJ a_m a_mt a_ml a_mr a_mx a_mf a_mg a_mw a_mh v_m_thrown v_m_trace v_m_typed v_m_next v_m_token v_m_place v_m_value v_m_fault v_m_finds v_m_weeks v_m_rows v_m_cardPrice v_m_lotPrice v_m_sure v_m_up v_m_down v_ml)) (w2 := (wo_X10_leans cI cJ a_m a_mt a_ml a_mr a_mx a_mf a_mg a_mw a_mh v_m_thrown v_m_trace v_m_typed v_m_next v_m_token v_m_place v_m_value v_m_fault v_m_finds v_m_weeks v_m_rows v_m_cardPrice v_m_lotPrice v_m_sure v_m_up v_m_down v_ml v_mr)) X hP hD hS [0, 1] [2] [1, 2, 0] rfl (pa_rV (As := [.int x1, .int (255 : Int32)]) (rest := []) (T := TX10) X hP hD hS [0, 1] rfl rfl (c_X10_persons hg_4 H.size) (cwV 2 hts gX10_leans_X10_persons rfl rfl rfl (by decide +kernel) ⟨Nat.le_of_ble_eq_true rfl, Nat.le_of_ble_eq_true rfl⟩) (q0 := 0) rfl rfl rfl hl.1 rfl (Nat.le_of_ble_eq_true rfl) dX10_leans_14 ⟨Nat.zero_le _, Nat.zero_le _⟩) rfl rfl (by decide) rfl rfl (fun H locs hP hD hS => ?_)
  refine lv_istore_n (lv' := [(3, .int u_3), (2, .int u_1), (0, .ref a_m), (1, .int x1)]) hx hb dX10_leans_17 rfl hl (by decide) rfl (fun ls hl => ?_)
  refine lv_aload_n hx hb dX10_leans_18 rfl (lv_at hl 2 rfl) ?_
  refine lv_aload_n hx hb dX10_leans_19 rfl (lv_at hl 2 rfl) ?_
  refine lv_iload_n hx hb dX10_leans_20 rfl (lv_at hl 3 rfl) ?_
  refine lv_sipush (v := (170 : Int32)) hx hb dX10_leans_21 (by decide) ?_
  obtain ⟨u_5, hg_6, hf⟩ := pa_bd hf
  refine pa_ki (wc := (wo_X10_back cI cJ a_m a_mt a_ml a_mr a_mx a_mf a_mg a_mw a_mh v_m_thrown v_m_trace v_m_typed v_m_next v_m_token v_m_place v_m_value v_m_fault v_m_finds v_m_weeks v_m_rows v_m_cardPrice v_m_lotPrice v_m_sure v_m_up v_m_down v_ml v_mr)) (wr := ([] : va_W)) (w1 := (wo_X10_back cI cJ a_m a_mt a_ml a_mr a_mx a_mf a_mg a_mw a_mh v_m_thrown v_m_trace v_m_typed v_m_next v_m_token v_m_place v_m_value v_m_fault v_m_finds v_m_weeks v_m_rows v_m_cardPrice v_m_lotPrice v_m_sure v_m_up v_m_down v_ml v_mr)) (w2 := (wo_X10_leans cI cJ a_m a_mt a_ml a_mr a_mx a_mf a_mg a_mw a_mh v_m_thrown v_m_trace v_m_typed v_m_next v_m_token v_m_place v_m_value v_m_fault v_m_finds v_m_weeks v_m_rows v_m_cardPrice v_m_lotPrice v_m_sure v_m_up v_m_down v_ml v_mr)) X hP hD hS [0, 1, 2] [] [0, 1, 2] rfl (pa_rV (As := [.int x1, .int (170 : Int32)]) (rest := [.ref a_m]) (T := TX10) X hP hD hS [0, 1, 2] rfl rfl (c_X10_back hg_6 H.size) (cwV 2 hts gX10_leans_X10_back rfl rfl rfl (by decide +kernel) ⟨Nat.le_of_ble_eq_true rfl, Nat.le_of_ble_eq_true rfl⟩) (q0 := 0) rfl rfl rfl hl.1 rfl (Nat.le_of_ble_eq_true rfl) dX10_leans_24 ⟨Nat.zero_le _, Nat.zero_le _⟩) rfl rfl (by decide) rfl rfl (fun H locs hP hD hS => ?_)
  refine lv_i2l (v := (Int32.toInt64 u_5)) hx hb dX10_leans_27 rfl ?_
  refine lv_iload_n hx hb dX10_leans_28 rfl (lv_at hl 0 rfl) ?_
  refine lv_i2l (v := (Int32.toInt64 u_3)) hx hb dX10_leans_29 rfl ?_
  refine lv_lmul hx hb dX10_leans_30 ?_
  refine lv_aload_n hx hb dX10_leans_31 rfl (lv_at hl 2 rfl) ?_
  refine lv_iload_n hx hb dX10_leans_32 rfl (lv_at hl 3 rfl) ?_
  refine lv_sipush (v := (170 : Int32)) hx hb dX10_leans_33 (by decide) ?_
  obtain ⟨u_7, hg_8, hf⟩ := pa_bd hf
  refine pa_ki (wc := (wo_X10_persons cI cJ a_m a_mt a_ml a_mr a_mx a_mf a_mg a_mw a_mh v_m_thrown v_m_trace v_m_typed v_m_next v_m_token v_m_place v_m_value v_m_fault v_m_finds v_m_weeks v_m_rows v_m_cardPrice v_m_lotPrice v_m_sure v_m_up v_m_down v_ml)) (wr := [(a_mr, .inl (cI, 8, .inl v_mr))]) (w1 := (wo_X10_persons cI cJ a_m a_mt a_ml a_mr a_mx a_mf a_mg a_mw a_mh v_m_thrown v_m_trace v_m_typed v_m_next v_m_token v_m_place v_m_value v_m_fault v_m_finds v_m_weeks v_m_rows v_m_cardPrice v_m_lotPrice v_m_sure v_m_up v_m_down v_ml)) (w2 := (wo_X10_leans cI cJ a_m a_mt a_ml a_mr a_mx a_mf a_mg a_mw a_mh v_m_thrown v_m_trace v_m_typed v_m_next v_m_token v_m_place v_m_value v_m_fault v_m_finds v_m_weeks v_m_rows v_m_cardPrice v_m_lotPrice v_m_sure v_m_up v_m_down v_ml v_mr)) X hP hD hS [0, 1] [2] [1, 2, 0] rfl (pa_rV (As := [.int x1, .int (170 : Int32)]) (rest := [.long ((Int32.toInt64 u_5) * (Int32.toInt64 u_3)), .ref a_m]) (T := TX10) X hP hD hS [0, 1] rfl rfl (c_X10_persons hg_8 H.size) (cwV 2 hts gX10_leans_X10_persons rfl rfl rfl (by decide +kernel) ⟨Nat.le_of_ble_eq_true rfl, Nat.le_of_ble_eq_true rfl⟩) (q0 := 0) rfl rfl rfl hl.1 rfl (Nat.le_of_ble_eq_true rfl) dX10_leans_36 ⟨Nat.zero_le _, Nat.zero_le _⟩) rfl rfl (by decide) rfl rfl (fun H locs hP hD hS => ?_)
  refine lv_i2l (v := (Int32.toInt64 u_7)) hx hb dX10_leans_39 rfl ?_
  refine lv_iload_n hx hb dX10_leans_40 rfl (lv_at hl 1 rfl) ?_
  refine lv_i2l (v := (Int32.toInt64 u_1)) hx hb dX10_leans_41 rfl ?_
  refine lv_lmul hx hb dX10_leans_42 ?_
  refine lv_lsub hx hb dX10_leans_43 ?_
  refine va_put (D := D) (ci := 9) (v := .long (((Int32.toInt64 u_5) * (Int32.toInt64 u_3)) - ((Int32.toInt64 u_7) * (Int32.toInt64 u_1)))) (ty := .long) (C := RX10) (T := TX10) (N := 24) hx hb hts il_X10_leans_X10 tyX10 tyX10_ok nmX10 hown hK hP hD hS 0 rfl rfl 22 (by decide) (hts _ fk_X10_leans_0) (fun _ h9 => h9) rfl (tyX10_ok 22 (by decide)) rfl rfl (Nat.le_of_ble_eq_true rfl) dX10_leans_44 (fun H locs hP hD hS => ?_)
  have hP : va_P D vwCl (wo_X10_leans cI cJ a_m a_mt a_ml a_mr a_mx a_mf a_mg a_mw a_mh v_m_thrown v_m_trace v_m_typed v_m_next v_m_token v_m_place v_m_value v_m_fault v_m_finds v_m_weeks v_m_rows v_m_cardPrice v_m_lotPrice v_m_sure (((Int32.toInt64 u_5) * (Int32.toInt64 u_3)) - ((Int32.toInt64 u_7) * (Int32.toInt64 u_1))) v_m_down v_ml v_mr) H := hP
  have hD : va_D A (wo_X10_leans cI cJ a_m a_mt a_ml a_mr a_mx a_mf a_mg a_mw a_mh v_m_thrown v_m_trace v_m_typed v_m_next v_m_token v_m_place v_m_value v_m_fault v_m_finds v_m_weeks v_m_rows v_m_cardPrice v_m_lotPrice v_m_sure (((Int32.toInt64 u_5) * (Int32.toInt64 u_3)) - ((Int32.toInt64 u_7) * (Int32.toInt64 u_1))) v_m_down v_ml v_mr) := hD
  refine lv_aload_n hx hb dX10_leans_47 rfl (lv_at hl 2 rfl) ?_
  refine lv_iload_n hx hb dX10_leans_48 rfl (lv_at hl 1 rfl) ?_
  refine lv_i2l (v := (Int32.toInt64 u_1)) hx hb dX10_leans_49 rfl ?_
  refine lv_iload_n hx hb dX10_leans_50 rfl (lv_at hl 0 rfl) ?_
  refine lv_i2l (v := (Int32.toInt64 u_3)) hx hb dX10_leans_51 rfl ?_
  refine lv_lmul hx hb dX10_leans_52 ?_
  refine va_put (D := D) (ci := 9) (v := .long ((Int32.toInt64 u_1) * (Int32.toInt64 u_3))) (ty := .long) (C := RX10) (T := TX10) (N := 24) hx hb hts il_X10_leans_X10 tyX10 tyX10_ok nmX10 hown hK hP hD hS 0 rfl rfl 23 (by decide) (hts _ fk_X10_leans_1) (fun _ h9 => h9) rfl (tyX10_ok 23 (by decide)) rfl rfl (Nat.le_of_ble_eq_true rfl) dX10_leans_53 (fun H locs hP hD hS => ?_)
  have hP : va_P D vwCl (wo_X10_leans cI cJ a_m a_mt a_ml a_mr a_mx a_mf a_mg a_mw a_mh v_m_thrown v_m_trace v_m_typed v_m_next v_m_token v_m_place v_m_value v_m_fault v_m_finds v_m_weeks v_m_rows v_m_cardPrice v_m_lotPrice v_m_sure (((Int32.toInt64 u_5) * (Int32.toInt64 u_3)) - ((Int32.toInt64 u_7) * (Int32.toInt64 u_1))) ((Int32.toInt64 u_1) * (Int32.toInt64 u_3)) v_ml v_mr) H := hP
  have hD : va_D A (wo_X10_leans cI cJ a_m a_mt a_ml a_mr a_mx a_mf a_mg a_mw a_mh v_m_thrown v_m_trace v_m_typed v_m_next v_m_token v_m_place v_m_value v_m_fault v_m_finds v_m_weeks v_m_rows v_m_cardPrice v_m_lotPrice v_m_sure (((Int32.toInt64 u_5) * (Int32.toInt64 u_3)) - ((Int32.toInt64 u_7) * (Int32.toInt64 u_1))) ((Int32.toInt64 u_1) * (Int32.toInt64 u_3)) v_ml v_mr) := hD
  refine lv_iload_n hx hb dX10_leans_56 rfl (lv_at hl 1 rfl) ?_
  refine lv_if_le (tgt := 64) hx hb dX10_leans_57 (by decide) (fun c_9 => ?_) (fun c_9 => ?_)
  · have hf := (if_pos c_9).symm.trans hf
    refine lv_iconst (v := (0 : Int32)) hx hb dX10_leans_64 (by decide) ?_
    obtain rfl := Option.some.inj hf
    exact pa_ez (v := (0 : Int32)) X hP hD hS rfl dX10_leans_65
  · have hf := (if_neg c_9).symm.trans hf
    refine lv_iconst (v := (1 : Int32)) hx hb dX10_leans_60 (by decide) ?_
    refine lv_goto (tgt := 65) hx hb dX10_leans_61 (by decide) ?_
    obtain rfl := Option.some.inj hf
    exact pa_ez (v := (1 : Int32)) X hP hD hS rfl dX10_leans_65
set_option maxHeartbeats 4000000 in
set_option maxRecDepth 100000 in
theorem c_X10_leans {l : Launch} {D : va_G} {cI cJ : ClassId} {g : pa_GT} {a_m a_mt a_ml a_mr a_mx a_mf a_mg a_mw a_mh : Nat} {x1 : Int32} {v_m_thrown : Int32} {v_m_trace : Int64} {v_m_typed : Int32} {v_m_next : Int32} {v_m_token : Int32} {v_m_place : Int32} {v_m_value : Int32} {v_m_fault : Int32} {v_m_finds : Int32} {v_m_weeks : Int32} {v_m_rows : Int32} {v_m_cardPrice : Int32} {v_m_lotPrice : Int32} {v_m_sure : Int32} {v_m_up : Int64} {v_m_down : Int64} {v_ml : Nat → Int32} {v_mr : Nat → Int32} {o : Int32 × Int64 × Int64} (hf : f_X10_leans x1 v_ml v_mr = some o) : pa_Mi l yX10_leans wsX10_leans rm_X10_leans D cI cJ g [.ref a_m, .int x1] (wo_X10_leans cI cJ a_m a_mt a_ml a_mr a_mx a_mf a_mg a_mw a_mh v_m_thrown v_m_trace v_m_typed v_m_next v_m_token v_m_place v_m_value v_m_fault v_m_finds v_m_weeks v_m_rows v_m_cardPrice v_m_lotPrice v_m_sure v_m_up v_m_down v_ml v_mr) (wo_X10_leans cI cJ a_m a_mt a_ml a_mr a_mx a_mf a_mg a_mw a_mh v_m_thrown v_m_trace v_m_typed v_m_next v_m_token v_m_place v_m_value v_m_fault v_m_finds v_m_weeks v_m_rows v_m_cardPrice v_m_lotPrice v_m_sure o.2.1 o.2.2 v_ml v_mr) o.1 := by
  intro sz
  refine pa_met (cc := cX10_leans) (maxL := 4) (ret := (some .boolean)) (lv := [(0, .ref a_m), (1, .int x1)]) (by decide) rfl (Nat.le_of_ble_eq_true rfl) rfl ?_
  intro p e s m below meth c X hsz hP hD ls hl
  subst hsz
  exact w_X10_leans_b0 X hf hP hD va_S.rf hl
abbrev wo_X10_posted (cI cJ : ClassId) (a_m a_mt a_ml a_mr a_mx a_mf a_mg a_mw a_mh : Nat) (v_m_thrown : Int32) (v_m_trace : Int64) (v_m_typed : Int32) (v_m_next : Int32) (v_m_token : Int32) (v_m_place : Int32) (v_m_value : Int32) (v_m_fault : Int32) (v_m_finds : Int32) (v_m_weeks : Int32) (v_m_rows : Int32) (v_m_cardPrice : Int32) (v_m_lotPrice : Int32) (v_m_sure : Int32) (v_m_up : Int64) (v_m_down : Int64) (v_ml : Nat → Int32) (v_mr : Nat → Int32) : va_W := [(a_m, .inr (9, [.int v_m_thrown, .long v_m_trace, .ref a_mt, .ref a_ml, .ref a_mr, .ref a_mx, .int v_m_typed, .int v_m_next, .int v_m_token, .int v_m_place, .int v_m_value, .int v_m_fault, .int v_m_finds, .ref a_mf, .ref a_mg, .int v_m_weeks, .ref a_mw, .int v_m_rows, .ref a_mh, .int v_m_cardPrice, .int v_m_lotPrice, .int v_m_sure, .long v_m_up, .long v_m_down])), (a_ml, .inl (cI, 32, .inl v_ml)), (a_mr, .inl (cI, 8, .inl v_mr))]
abbrev rm_X10_posted : Room := { frames := 2, cells := 0, slots := 0, locals := 52 }
theorem il_X10_posted_X10 : ∀ w ∈ wsX100, w ∈ wsX10_posted := by decide +kernel
theorem fk_X10_posted_0 : Cond.fieldLink RX10 45 "PostedAsksModel" "thrown" "I" ∈ wsX10_posted := by decide +kernel
theorem fk_X10_posted_1 : Cond.constantLong RX10 74 (-1000000000000000000) ∈ wsX10_posted := by decide +kernel
theorem fk_X10_posted_2 : Cond.fieldLink RX10 52 "PostedAsksModel" "up" "J" ∈ wsX10_posted := by decide +kernel
theorem fk_X10_posted_3 : Cond.fieldLink RX10 56 "PostedAsksModel" "down" "J" ∈ wsX10_posted := by decide +kernel
def f_X10_posted_b106 (s1 : Int32) (v_m_thrown : Int32) (v_m_up : Int64) (v_m_down : Int64) : Option (Int64 × Int32 × Int64 × Int64) :=
  (f_X10_told s1 v_m_up v_m_down).bind fun u_1 =>
  some (u_1, v_m_thrown, v_m_up, v_m_down)
def f_X10_posted_b93 (x2 : Int32) (v_m_thrown : Int32) (v_m_up : Int64) (v_m_down : Int64) : Option (Int64 × Int32 × Int64 × Int64) :=
  if (x2 - x2 / (2 : Int32) * (2 : Int32)) = (1 : Int32) then
    f_X10_posted_b106 (1 : Int32) v_m_thrown v_m_up v_m_down
  else
    f_X10_posted_b106 (0 : Int32) v_m_thrown v_m_up v_m_down
def f_X10_posted_b45 (s1 : Int32) (s2 : Int32) (v_m_thrown : Int32) (v_m_up : Int64) (v_m_down : Int64) (v_ml : Nat → Int32) (v_mr : Nat → Int32) : Option (Int64 × Int32 × Int64 × Int64) :=
  (f_X10_back s1 s2 v_ml v_mr).bind fun u_4 =>
  some ((Int32.toInt64 u_4), v_m_thrown, v_m_up, v_m_down)
def f_X10_posted (x1 : Int32) (x2 : Int32) (v_m_up : Int64) (v_m_down : Int64) (v_ml : Nat → Int32) (v_mr : Nat → Int32) : Option (Int64 × Int32 × Int64 × Int64) :=
  (f_X10_isLand x1).bind fun u_6 =>
  if u_6 = 0 then
    some ((-1000000000000000000 : Int64), (0 : Int32), v_m_up, v_m_down)
  else
    (f_X10_in x2 (0 : Int32) (5 : Int32)).bind fun u_9 =>
    if u_9 = 0 then
      some ((-1000000000000000000 : Int64), (0 : Int32), v_m_up, v_m_down)
    else
      if (2 : Int32) ≤ x2 then
        (f_X10_leans x1 v_ml v_mr).bind fun u_13 =>
        if u_13.1 = 0 then
          some ((-1000000000000000000 : Int64), (0 : Int32), u_13.2.1, u_13.2.2)
        else
          if (4 : Int32) ≤ x2 then
            f_X10_posted_b93 x2 (0 : Int32) u_13.2.1 u_13.2.2
          else
            (f_X10_back x1 (170 : Int32) v_ml v_mr).bind fun u_17 =>
            (f_X10_back x1 (255 : Int32) v_ml v_mr).bind fun u_19 =>
            f_X10_posted_b93 x2 (0 : Int32) (Int32.toInt64 u_17) (Int32.toInt64 u_19)
      else
        if x2 = 0 then
          f_X10_posted_b45 x1 (255 : Int32) (0 : Int32) v_m_up v_m_down v_ml v_mr
        else
          f_X10_posted_b45 x1 (170 : Int32) (0 : Int32) v_m_up v_m_down v_ml v_mr
set_option maxHeartbeats 4000000 in
set_option maxRecDepth 100000 in
theorem w_X10_posted_b106 {l : Launch} {D : va_G} {cI cJ : ClassId} {g : pa_GT} {a_m a_mt a_ml a_mr a_mx a_mf a_mg a_mw a_mh : Nat} {A : Nat → Prop} {p : Program} {e : Env} {s : State} {m : MethodId} {args : Array Value} {below : List Frame} {meth : Method} {c : Code} {s1 : Int32} {v_m_thrown : Int32} {v_m_up : Int64} {v_m_down : Int64} {v_m_trace : Int64} {v_m_typed : Int32} {v_m_next : Int32} {v_m_token : Int32} {v_m_place : Int32} {v_m_value : Int32} {v_m_fault : Int32} {v_m_finds : Int32} {v_m_weeks : Int32} {v_m_rows : Int32} {v_m_cardPrice : Int32} {v_m_lotPrice : Int32} {v_m_sure : Int32} {v_ml : Nat → Int32} {v_mr : Nat → Int32} {o : Int64 × Int32 × Int64 × Int64} (X : pa_X cX10_posted 3 (some .long) RX10 wsX10_posted D cI cJ g A p s m args meth c)  (hf : f_X10_posted_b106 s1 v_m_thrown v_m_up v_m_down = some o) {H : Heap} {locs : List Loc} (hP : va_P D vwCl (wo_X10_posted cI cJ a_m a_mt a_ml a_mr a_mx a_mf a_mg a_mw a_mh v_m_thrown v_m_trace v_m_typed v_m_next v_m_token v_m_place v_m_value v_m_fault v_m_finds v_m_weeks v_m_rows v_m_cardPrice v_m_lotPrice v_m_sure v_m_up v_m_down v_ml v_mr) H) (hD : va_D A (wo_X10_posted cI cJ a_m a_mt a_ml a_mr a_mx a_mf a_mg a_mw a_mh v_m_thrown v_m_trace v_m_typed v_m_next v_m_token v_m_place v_m_value v_m_fault v_m_finds v_m_weeks v_m_rows v_m_cardPrice v_m_lotPrice v_m_sure v_m_up v_m_down v_ml v_mr)) (hS : va_S A s.heap H locs) {ls : Array Slot} (hl : lv_has ls 3 []) : W p l e (headSpec wsX10_posted rm_X10_posted).room s m args below meth c H locs 0 0 (MQ below (va_Ql (fun r (_ : Unit) => r = o.1) (pa_QB D A (wo_X10_posted cI cJ a_m a_mt a_ml a_mr a_mx a_mf a_mg a_mw a_mh o.2.1 v_m_trace v_m_typed v_m_next v_m_token v_m_place v_m_value v_m_fault v_m_finds v_m_weeks v_m_rows v_m_cardPrice v_m_lotPrice v_m_sure o.2.2.1 o.2.2.2 v_ml v_mr)) A) args s 0 0 A) (F0 m 106 ls [.int s1, .ref a_m]) := by
  obtain ⟨hx, hb, hr, hml, hown, hts, hK, hA, hG, hlk⟩ := id X
  delta f_X10_posted_b106 at hf
  obtain ⟨u_1, hg_2, hf⟩ := pa_bd hf
  refine pa_kl (wc := (wo_X10_told cI cJ a_m a_mt a_ml a_mr a_mx a_mf a_mg a_mw a_mh v_m_thrown v_m_trace v_m_typed v_m_next v_m_token v_m_place v_m_value v_m_fault v_m_finds v_m_weeks v_m_rows v_m_cardPrice v_m_lotPrice v_m_sure v_m_up v_m_down)) (wr := [(a_ml, .inl (cI, 32, .inl v_ml)), (a_mr, .inl (cI, 8, .inl v_mr))]) (w1 := (wo_X10_told cI cJ a_m a_mt a_ml a_mr a_mx a_mf a_mg a_mw a_mh v_m_thrown v_m_trace v_m_typed v_m_next v_m_token v_m_place v_m_value v_m_fault v_m_finds v_m_weeks v_m_rows v_m_cardPrice v_m_lotPrice v_m_sure v_m_up v_m_down)) (w2 := (wo_X10_posted cI cJ a_m a_mt a_ml a_mr a_mx a_mf a_mg a_mw a_mh v_m_thrown v_m_trace v_m_typed v_m_next v_m_token v_m_place v_m_value v_m_fault v_m_finds v_m_weeks v_m_rows v_m_cardPrice v_m_lotPrice v_m_sure v_m_up v_m_down v_ml v_mr)) X hP hD hS [0] [1, 2] [2, 0, 1] rfl (pa_rV (As := [.int s1]) (rest := []) (T := TX10) X hP hD hS [0] rfl rfl (c_X10_told hg_2 H.size) (cwV 1 hts gX10_posted_X10_told rfl rfl rfl (by decide +kernel) ⟨Nat.le_of_ble_eq_true rfl, Nat.le_of_ble_eq_true rfl⟩) (q0 := 0) rfl rfl rfl hl.1 rfl (Nat.le_of_ble_eq_true rfl) dX10_posted_106 ⟨Nat.zero_le _, Nat.zero_le _⟩) rfl rfl (by decide) rfl rfl (fun H locs hP hD hS => ?_)
  obtain rfl := Option.some.inj hf
  exact pa_el X hP hD hS dX10_posted_109
set_option maxHeartbeats 4000000 in
set_option maxRecDepth 100000 in
theorem w_X10_posted_b93 {l : Launch} {D : va_G} {cI cJ : ClassId} {g : pa_GT} {a_m a_mt a_ml a_mr a_mx a_mf a_mg a_mw a_mh : Nat} {A : Nat → Prop} {p : Program} {e : Env} {s : State} {m : MethodId} {args : Array Value} {below : List Frame} {meth : Method} {c : Code} {x2 : Int32} {v_m_thrown : Int32} {v_m_up : Int64} {v_m_down : Int64} {v_m_trace : Int64} {v_m_typed : Int32} {v_m_next : Int32} {v_m_token : Int32} {v_m_place : Int32} {v_m_value : Int32} {v_m_fault : Int32} {v_m_finds : Int32} {v_m_weeks : Int32} {v_m_rows : Int32} {v_m_cardPrice : Int32} {v_m_lotPrice : Int32} {v_m_sure : Int32} {v_ml : Nat → Int32} {v_mr : Nat → Int32} {o : Int64 × Int32 × Int64 × Int64} (X : pa_X cX10_posted 3 (some .long) RX10 wsX10_posted D cI cJ g A p s m args meth c)  (hf : f_X10_posted_b93 x2 v_m_thrown v_m_up v_m_down = some o) {H : Heap} {locs : List Loc} (hP : va_P D vwCl (wo_X10_posted cI cJ a_m a_mt a_ml a_mr a_mx a_mf a_mg a_mw a_mh v_m_thrown v_m_trace v_m_typed v_m_next v_m_token v_m_place v_m_value v_m_fault v_m_finds v_m_weeks v_m_rows v_m_cardPrice v_m_lotPrice v_m_sure v_m_up v_m_down v_ml v_mr) H) (hD : va_D A (wo_X10_posted cI cJ a_m a_mt a_ml a_mr a_mx a_mf a_mg a_mw a_mh v_m_thrown v_m_trace v_m_typed v_m_next v_m_token v_m_place v_m_value v_m_fault v_m_finds v_m_weeks v_m_rows v_m_cardPrice v_m_lotPrice v_m_sure v_m_up v_m_down v_ml v_mr)) (hS : va_S A s.heap H locs) {ls : Array Slot} (hl : lv_has ls 3 [(0, .ref a_m), (2, .int x2)]) : W p l e (headSpec wsX10_posted rm_X10_posted).room s m args below meth c H locs 0 0 (MQ below (va_Ql (fun r (_ : Unit) => r = o.1) (pa_QB D A (wo_X10_posted cI cJ a_m a_mt a_ml a_mr a_mx a_mf a_mg a_mw a_mh o.2.1 v_m_trace v_m_typed v_m_next v_m_token v_m_place v_m_value v_m_fault v_m_finds v_m_weeks v_m_rows v_m_cardPrice v_m_lotPrice v_m_sure o.2.2.1 o.2.2.2 v_ml v_mr)) A) args s 0 0 A) (F0 m 93 ls []) := by
  obtain ⟨hx, hb, hr, hml, hown, hts, hK, hA, hG, hlk⟩ := id X
  delta f_X10_posted_b93 at hf
  refine lv_aload_n hx hb dX10_posted_93 rfl (lv_at hl 0 rfl) ?_
  refine lv_iload_n hx hb dX10_posted_94 rfl (lv_at hl 1 rfl) ?_
  refine lv_iconst (v := (2 : Int32)) hx hb dX10_posted_95 (by decide) ?_
  refine lv_irem hx hb dX10_posted_96 (by decide) ?_
  refine lv_iconst (v := (1 : Int32)) hx hb dX10_posted_97 (by decide) ?_
  refine lv_icmp_ne (tgt := 105) hx hb dX10_posted_98 (by decide) (fun c_3 => ?_) (fun c_3 => ?_)
  · have hf := (if_neg c_3).symm.trans hf
    refine lv_iconst (v := (0 : Int32)) hx hb dX10_posted_105 (by decide) ?_
    exact w_X10_posted_b106 X  hf hP hD hS (lv_sub hl [] rfl)
  · have hf := (if_pos c_3).symm.trans hf
    refine lv_iconst (v := (1 : Int32)) hx hb dX10_posted_101 (by decide) ?_
    refine lv_goto (tgt := 106) hx hb dX10_posted_102 (by decide) ?_
    exact w_X10_posted_b106 X  hf hP hD hS (lv_sub hl [] rfl)
set_option maxHeartbeats 4000000 in
set_option maxRecDepth 100000 in
theorem w_X10_posted_b45 {l : Launch} {D : va_G} {cI cJ : ClassId} {g : pa_GT} {a_m a_mt a_ml a_mr a_mx a_mf a_mg a_mw a_mh : Nat} {A : Nat → Prop} {p : Program} {e : Env} {s : State} {m : MethodId} {args : Array Value} {below : List Frame} {meth : Method} {c : Code} {s1 : Int32} {s2 : Int32} {v_m_thrown : Int32} {v_m_up : Int64} {v_m_down : Int64} {v_ml : Nat → Int32} {v_mr : Nat → Int32} {v_m_trace : Int64} {v_m_typed : Int32} {v_m_next : Int32} {v_m_token : Int32} {v_m_place : Int32} {v_m_value : Int32} {v_m_fault : Int32} {v_m_finds : Int32} {v_m_weeks : Int32} {v_m_rows : Int32} {v_m_cardPrice : Int32} {v_m_lotPrice : Int32} {v_m_sure : Int32} {o : Int64 × Int32 × Int64 × Int64} (X : pa_X cX10_posted 3 (some .long) RX10 wsX10_posted D cI cJ g A p s m args meth c)  (hf : f_X10_posted_b45 s1 s2 v_m_thrown v_m_up v_m_down v_ml v_mr = some o) {H : Heap} {locs : List Loc} (hP : va_P D vwCl (wo_X10_posted cI cJ a_m a_mt a_ml a_mr a_mx a_mf a_mg a_mw a_mh v_m_thrown v_m_trace v_m_typed v_m_next v_m_token v_m_place v_m_value v_m_fault v_m_finds v_m_weeks v_m_rows v_m_cardPrice v_m_lotPrice v_m_sure v_m_up v_m_down v_ml v_mr) H) (hD : va_D A (wo_X10_posted cI cJ a_m a_mt a_ml a_mr a_mx a_mf a_mg a_mw a_mh v_m_thrown v_m_trace v_m_typed v_m_next v_m_token v_m_place v_m_value v_m_fault v_m_finds v_m_weeks v_m_rows v_m_cardPrice v_m_lotPrice v_m_sure v_m_up v_m_down v_ml v_mr)) (hS : va_S A s.heap H locs) {ls : Array Slot} (hl : lv_has ls 3 []) : W p l e (headSpec wsX10_posted rm_X10_posted).room s m args below meth c H locs 0 0 (MQ below (va_Ql (fun r (_ : Unit) => r = o.1) (pa_QB D A (wo_X10_posted cI cJ a_m a_mt a_ml a_mr a_mx a_mf a_mg a_mw a_mh o.2.1 v_m_trace v_m_typed v_m_next v_m_token v_m_place v_m_value v_m_fault v_m_finds v_m_weeks v_m_rows v_m_cardPrice v_m_lotPrice v_m_sure o.2.2.1 o.2.2.2 v_ml v_mr)) A) args s 0 0 A) (F0 m 45 ls [.int s2, .int s1, .ref a_m]) := by
  obtain ⟨hx, hb, hr, hml, hown, hts, hK, hA, hG, hlk⟩ := id X
  delta f_X10_posted_b45 at hf
  obtain ⟨u_4, hg_5, hf⟩ := pa_bd hf
  refine pa_ki (wc := (wo_X10_back cI cJ a_m a_mt a_ml a_mr a_mx a_mf a_mg a_mw a_mh v_m_thrown v_m_trace v_m_typed v_m_next v_m_token v_m_place v_m_value v_m_fault v_m_finds v_m_weeks v_m_rows v_m_cardPrice v_m_lotPrice v_m_sure v_m_up v_m_down v_ml v_mr)) (wr := ([] : va_W)) (w1 := (wo_X10_back cI cJ a_m a_mt a_ml a_mr a_mx a_mf a_mg a_mw a_mh v_m_thrown v_m_trace v_m_typed v_m_next v_m_token v_m_place v_m_value v_m_fault v_m_finds v_m_weeks v_m_rows v_m_cardPrice v_m_lotPrice v_m_sure v_m_up v_m_down v_ml v_mr)) (w2 := (wo_X10_posted cI cJ a_m a_mt a_ml a_mr a_mx a_mf a_mg a_mw a_mh v_m_thrown v_m_trace v_m_typed v_m_next v_m_token v_m_place v_m_value v_m_fault v_m_finds v_m_weeks v_m_rows v_m_cardPrice v_m_lotPrice v_m_sure v_m_up v_m_down v_ml v_mr)) X hP hD hS [0, 1, 2] [] [0, 1, 2] rfl (pa_rV (As := [.int s1, .int s2]) (rest := []) (T := TX10) X hP hD hS [0, 1, 2] rfl rfl (c_X10_back hg_5 H.size) (cwV 2 hts gX10_posted_X10_back rfl rfl rfl (by decide +kernel) ⟨Nat.le_of_ble_eq_true rfl, Nat.le_of_ble_eq_true rfl⟩) (q0 := 0) rfl rfl rfl hl.1 rfl (Nat.le_of_ble_eq_true rfl) dX10_posted_45 ⟨Nat.zero_le _, Nat.zero_le _⟩) rfl rfl (by decide) rfl rfl (fun H locs hP hD hS => ?_)
  refine lv_i2l (v := (Int32.toInt64 u_4)) hx hb dX10_posted_48 rfl ?_
  obtain rfl := Option.some.inj hf
  exact pa_el X hP hD hS dX10_posted_49
set_option maxHeartbeats 4000000 in
set_option maxRecDepth 100000 in
theorem w_X10_posted_b0 {l : Launch} {D : va_G} {cI cJ : ClassId} {g : pa_GT} {a_m a_mt a_ml a_mr a_mx a_mf a_mg a_mw a_mh : Nat} {A : Nat → Prop} {p : Program} {e : Env} {s : State} {m : MethodId} {args : Array Value} {below : List Frame} {meth : Method} {c : Code} {x1 : Int32} {x2 : Int32} {v_m_up : Int64} {v_m_down : Int64} {v_ml : Nat → Int32} {v_mr : Nat → Int32} {v_m_thrown : Int32} {v_m_trace : Int64} {v_m_typed : Int32} {v_m_next : Int32} {v_m_token : Int32} {v_m_place : Int32} {v_m_value : Int32} {v_m_fault : Int32} {v_m_finds : Int32} {v_m_weeks : Int32} {v_m_rows : Int32} {v_m_cardPrice : Int32} {v_m_lotPrice : Int32} {v_m_sure : Int32} {o : Int64 × Int32 × Int64 × Int64} (X : pa_X cX10_posted 3 (some .long) RX10 wsX10_posted D cI cJ g A p s m args meth c)  (hf : f_X10_posted x1 x2 v_m_up v_m_down v_ml v_mr = some o) {H : Heap} {locs : List Loc} (hP : va_P D vwCl (wo_X10_posted cI cJ a_m a_mt a_ml a_mr a_mx a_mf a_mg a_mw a_mh v_m_thrown v_m_trace v_m_typed v_m_next v_m_token v_m_place v_m_value v_m_fault v_m_finds v_m_weeks v_m_rows v_m_cardPrice v_m_lotPrice v_m_sure v_m_up v_m_down v_ml v_mr) H) (hD : va_D A (wo_X10_posted cI cJ a_m a_mt a_ml a_mr a_mx a_mf a_mg a_mw a_mh v_m_thrown v_m_trace v_m_typed v_m_next v_m_token v_m_place v_m_value v_m_fault v_m_finds v_m_weeks v_m_rows v_m_cardPrice v_m_lotPrice v_m_sure v_m_up v_m_down v_ml v_mr)) (hS : va_S A s.heap H locs) {ls : Array Slot} (hl : lv_has ls 3 [(0, .ref a_m), (1, .int x1), (2, .int x2)]) : W p l e (headSpec wsX10_posted rm_X10_posted).room s m args below meth c H locs 0 0 (MQ below (va_Ql (fun r (_ : Unit) => r = o.1) (pa_QB D A (wo_X10_posted cI cJ a_m a_mt a_ml a_mr a_mx a_mf a_mg a_mw a_mh o.2.1 v_m_trace v_m_typed v_m_next v_m_token v_m_place v_m_value v_m_fault v_m_finds v_m_weeks v_m_rows v_m_cardPrice v_m_lotPrice v_m_sure o.2.2.1 o.2.2.2 v_ml v_mr)) A) args s 0 0 A) (F0 m 0 ls []) := by
  obtain ⟨hx, hb, hr, hml, hown, hts, hK, hA, hG, hlk⟩ := id X
  delta f_X10_posted at hf
  refine lv_aload_n hx hb dX10_posted_0 rfl (lv_at hl 0 rfl) ?_
  refine lv_iconst (v := (0 : Int32)) hx hb dX10_posted_1 (by decide) ?_
  refine va_put (D := D) (ci := 9) (v := .int (0 : Int32)) (ty := .int) (C := RX10) (T := TX10) (N := 24) hx hb hts il_X10_posted_X10 tyX10 tyX10_ok nmX10 hown hK hP hD hS 0 rfl rfl 0 (by decide) (hts _ fk_X10_posted_0) (fun _ h9 => h9) rfl (tyX10_ok 0 (by decide)) rfl rfl (Nat.le_of_ble_eq_true rfl) dX10_posted_2 (fun H locs hP hD hS => ?_)
  have hP : va_P D vwCl (wo_X10_posted cI cJ a_m a_mt a_ml a_mr a_mx a_mf a_mg a_mw a_mh (0 : Int32) v_m_trace v_m_typed v_m_next v_m_token v_m_place v_m_value v_m_fault v_m_finds v_m_weeks v_m_rows v_m_cardPrice v_m_lotPrice v_m_sure v_m_up v_m_down v_ml v_mr) H := hP
  have hD : va_D A (wo_X10_posted cI cJ a_m a_mt a_ml a_mr a_mx a_mf a_mg a_mw a_mh (0 : Int32) v_m_trace v_m_typed v_m_next v_m_token v_m_place v_m_value v_m_fault v_m_finds v_m_weeks v_m_rows v_m_cardPrice v_m_lotPrice v_m_sure v_m_up v_m_down v_ml v_mr) := hD
  refine lv_iload_n hx hb dX10_posted_5 rfl (lv_at hl 1 rfl) ?_
  obtain ⟨u_6, hg_7, hf⟩ := pa_bd hf
  refine pa_ki (wc := ([] : va_W)) (wr := [(a_m, .inr (9, [.int (0 : Int32), .long v_m_trace, .ref a_mt, .ref a_ml, .ref a_mr, .ref a_mx, .int v_m_typed, .int v_m_next, .int v_m_token, .int v_m_place, .int v_m_value, .int v_m_fault, .int v_m_finds, .ref a_mf, .ref a_mg, .int v_m_weeks, .ref a_mw, .int v_m_rows, .ref a_mh, .int v_m_cardPrice, .int v_m_lotPrice, .int v_m_sure, .long v_m_up, .long v_m_down])), (a_ml, .inl (cI, 32, .inl v_ml)), (a_mr, .inl (cI, 8, .inl v_mr))]) (w1 := ([] : va_W)) (w2 := (wo_X10_posted cI cJ a_m a_mt a_ml a_mr a_mx a_mf a_mg a_mw a_mh (0 : Int32) v_m_trace v_m_typed v_m_next v_m_token v_m_place v_m_value v_m_fault v_m_finds v_m_weeks v_m_rows v_m_cardPrice v_m_lotPrice v_m_sure v_m_up v_m_down v_ml v_mr)) X hP hD hS [] [0, 1, 2] [0, 1, 2] rfl (pa_rS (As := [.int x1]) (rest := []) X hP hD hS [] rfl rfl (c_X10_isLand hg_7 H.size) (va_cwS 1 hts gX10_posted_X10_isLand rfl rfl rfl (by decide +kernel) ⟨Nat.le_of_ble_eq_true rfl, Nat.le_of_ble_eq_true rfl⟩) rfl hl.1 rfl (Nat.le_of_ble_eq_true rfl) dX10_posted_6 ⟨Nat.zero_le _, Nat.zero_le _⟩) rfl rfl (by decide) rfl rfl (fun H locs hP hD hS => ?_)
  refine lv_if_eq (tgt := 21) hx hb dX10_posted_9 (by decide) (fun c_8 => ?_) (fun c_8 => ?_)
  · have hf := (if_pos c_8).symm.trans hf
    refine lv_ldc2 (v := (-1000000000000000000 : Int64)) hx hb hown (hts _ fk_X10_posted_1) dX10_posted_21 ?_
    obtain rfl := Option.some.inj hf
    exact pa_el X hP hD hS dX10_posted_24
  · have hf := (if_neg c_8).symm.trans hf
    refine lv_iload_n hx hb dX10_posted_12 rfl (lv_at hl 2 rfl) ?_
    refine lv_iconst (v := (0 : Int32)) hx hb dX10_posted_13 (by decide) ?_
    refine lv_iconst (v := (5 : Int32)) hx hb dX10_posted_14 (by decide) ?_
    obtain ⟨u_9, hg_10, hf⟩ := pa_bd hf
    refine pa_ki (wc := ([] : va_W)) (wr := [(a_m, .inr (9, [.int (0 : Int32), .long v_m_trace, .ref a_mt, .ref a_ml, .ref a_mr, .ref a_mx, .int v_m_typed, .int v_m_next, .int v_m_token, .int v_m_place, .int v_m_value, .int v_m_fault, .int v_m_finds, .ref a_mf, .ref a_mg, .int v_m_weeks, .ref a_mw, .int v_m_rows, .ref a_mh, .int v_m_cardPrice, .int v_m_lotPrice, .int v_m_sure, .long v_m_up, .long v_m_down])), (a_ml, .inl (cI, 32, .inl v_ml)), (a_mr, .inl (cI, 8, .inl v_mr))]) (w1 := ([] : va_W)) (w2 := (wo_X10_posted cI cJ a_m a_mt a_ml a_mr a_mx a_mf a_mg a_mw a_mh (0 : Int32) v_m_trace v_m_typed v_m_next v_m_token v_m_place v_m_value v_m_fault v_m_finds v_m_weeks v_m_rows v_m_cardPrice v_m_lotPrice v_m_sure v_m_up v_m_down v_ml v_mr)) X hP hD hS [] [0, 1, 2] [0, 1, 2] rfl (pa_rS (As := [.int x2, .int (0 : Int32), .int (5 : Int32)]) (rest := []) X hP hD hS [] rfl rfl (c_X10_in hg_10 H.size) (va_cwS 3 hts gX10_posted_X10_in rfl rfl rfl (by decide +kernel) ⟨Nat.le_of_ble_eq_true rfl, Nat.le_of_ble_eq_true rfl⟩) rfl hl.1 rfl (Nat.le_of_ble_eq_true rfl) dX10_posted_15 ⟨Nat.zero_le _, Nat.zero_le _⟩) rfl rfl (by decide) rfl rfl (fun H locs hP hD hS => ?_)
    refine lv_if_ne (tgt := 25) hx hb dX10_posted_18 (by decide) (fun c_11 => ?_) (fun c_11 => ?_)
    · have hf := (if_neg c_11).symm.trans hf
      refine lv_iload_n hx hb dX10_posted_25 rfl (lv_at hl 2 rfl) ?_
      refine lv_iconst (v := (2 : Int32)) hx hb dX10_posted_26 (by decide) ?_
      refine lv_icmp_ge (tgt := 50) hx hb dX10_posted_27 (by decide) (fun c_12 => ?_) (fun c_12 => ?_)
      · have hf := (if_pos c_12).symm.trans hf
        refine lv_aload_n hx hb dX10_posted_50 rfl (lv_at hl 0 rfl) ?_
        refine lv_iload_n hx hb dX10_posted_51 rfl (lv_at hl 1 rfl) ?_
        obtain ⟨u_13, hg_14, hf⟩ := pa_bd hf
        refine pa_ki (wc := (wo_X10_leans cI cJ a_m a_mt a_ml a_mr a_mx a_mf a_mg a_mw a_mh (0 : Int32) v_m_trace v_m_typed v_m_next v_m_token v_m_place v_m_value v_m_fault v_m_finds v_m_weeks v_m_rows v_m_cardPrice v_m_lotPrice v_m_sure v_m_up v_m_down v_ml v_mr)) (wr := ([] : va_W)) (w1 := (wo_X10_leans cI cJ a_m a_mt a_ml a_mr a_mx a_mf a_mg a_mw a_mh (0 : Int32) v_m_trace v_m_typed v_m_next v_m_token v_m_place v_m_value v_m_fault v_m_finds v_m_weeks v_m_rows v_m_cardPrice v_m_lotPrice v_m_sure u_13.2.1 u_13.2.2 v_ml v_mr)) (w2 := (wo_X10_posted cI cJ a_m a_mt a_ml a_mr a_mx a_mf a_mg a_mw a_mh (0 : Int32) v_m_trace v_m_typed v_m_next v_m_token v_m_place v_m_value v_m_fault v_m_finds v_m_weeks v_m_rows v_m_cardPrice v_m_lotPrice v_m_sure u_13.2.1 u_13.2.2 v_ml v_mr)) X hP hD hS [0, 1, 2] [] [0, 1, 2] rfl (pa_rV (As := [.int x1]) (rest := []) (T := TX10) X hP hD hS [0, 1, 2] rfl rfl (c_X10_leans hg_14 H.size) (cwV 1 hts gX10_posted_X10_leans rfl rfl rfl (by decide +kernel) ⟨Nat.le_of_ble_eq_true rfl, Nat.le_of_ble_eq_true rfl⟩) (q0 := 0) rfl rfl rfl hl.1 rfl (Nat.le_of_ble_eq_true rfl) dX10_posted_52 ⟨Nat.zero_le _, Nat.zero_le _⟩) rfl rfl (by decide) rfl rfl (fun H locs hP hD hS => ?_)
        refine lv_if_ne (tgt := 62) hx hb dX10_posted_55 (by decide) (fun c_15 => ?_) (fun c_15 => ?_)
        · have hf := (if_neg c_15).symm.trans hf
          refine lv_iload_n hx hb dX10_posted_62 rfl (lv_at hl 2 rfl) ?_
          refine lv_iconst (v := (4 : Int32)) hx hb dX10_posted_63 (by decide) ?_
          refine lv_icmp_ge (tgt := 93) hx hb dX10_posted_64 (by decide) (fun c_16 => ?_) (fun c_16 => ?_)
          · have hf := (if_pos c_16).symm.trans hf
            exact w_X10_posted_b93 X  hf hP hD hS (lv_sub hl [0, 2] rfl)
          · have hf := (if_neg c_16).symm.trans hf
            refine lv_aload_n hx hb dX10_posted_67 rfl (lv_at hl 0 rfl) ?_
            refine lv_aload_n hx hb dX10_posted_68 rfl (lv_at hl 0 rfl) ?_
            refine lv_iload_n hx hb dX10_posted_69 rfl (lv_at hl 1 rfl) ?_
            refine lv_sipush (v := (170 : Int32)) hx hb dX10_posted_70 (by decide) ?_
            obtain ⟨u_17, hg_18, hf⟩ := pa_bd hf
            refine pa_ki (wc := (wo_X10_back cI cJ a_m a_mt a_ml a_mr a_mx a_mf a_mg a_mw a_mh (0 : Int32) v_m_trace v_m_typed v_m_next v_m_token v_m_place v_m_value v_m_fault v_m_finds v_m_weeks v_m_rows v_m_cardPrice v_m_lotPrice v_m_sure u_13.2.1 u_13.2.2 v_ml v_mr)) (wr := ([] : va_W)) (w1 := (wo_X10_back cI cJ a_m a_mt a_ml a_mr a_mx a_mf a_mg a_mw a_mh (0 : Int32) v_m_trace v_m_typed v_m_next v_m_token v_m_place v_m_value v_m_fault v_m_finds v_m_weeks v_m_rows v_m_cardPrice v_m_lotPrice v_m_sure u_13.2.1 u_13.2.2 v_ml v_mr)) (w2 := (wo_X10_posted cI cJ a_m a_mt a_ml a_mr a_mx a_mf a_mg a_mw a_mh (0 : Int32) v_m_trace v_m_typed v_m_next v_m_token v_m_place v_m_value v_m_fault v_m_finds v_m_weeks v_m_rows v_m_cardPrice v_m_lotPrice v_m_sure u_13.2.1 u_13.2.2 v_ml v_mr)) X hP hD hS [0, 1, 2] [] [0, 1, 2] rfl (pa_rV (As := [.int x1, .int (170 : Int32)]) (rest := [.ref a_m]) (T := TX10) X hP hD hS [0, 1, 2] rfl rfl (c_X10_back hg_18 H.size) (cwV 2 hts gX10_posted_X10_back rfl rfl rfl (by decide +kernel) ⟨Nat.le_of_ble_eq_true rfl, Nat.le_of_ble_eq_true rfl⟩) (q0 := 0) rfl rfl rfl hl.1 rfl (Nat.le_of_ble_eq_true rfl) dX10_posted_73 ⟨Nat.zero_le _, Nat.zero_le _⟩) rfl rfl (by decide) rfl rfl (fun H locs hP hD hS => ?_)
            refine lv_i2l (v := (Int32.toInt64 u_17)) hx hb dX10_posted_76 rfl ?_
            refine va_put (D := D) (ci := 9) (v := .long (Int32.toInt64 u_17)) (ty := .long) (C := RX10) (T := TX10) (N := 24) hx hb hts il_X10_posted_X10 tyX10 tyX10_ok nmX10 hown hK hP hD hS 0 rfl rfl 22 (by decide) (hts _ fk_X10_posted_2) (fun _ h9 => h9) rfl (tyX10_ok 22 (by decide)) rfl rfl (Nat.le_of_ble_eq_true rfl) dX10_posted_77 (fun H locs hP hD hS => ?_)
            have hP : va_P D vwCl (wo_X10_posted cI cJ a_m a_mt a_ml a_mr a_mx a_mf a_mg a_mw a_mh (0 : Int32) v_m_trace v_m_typed v_m_next v_m_token v_m_place v_m_value v_m_fault v_m_finds v_m_weeks v_m_rows v_m_cardPrice v_m_lotPrice v_m_sure (Int32.toInt64 u_17) u_13.2.2 v_ml v_mr) H := hP
            have hD : va_D A (wo_X10_posted cI cJ a_m a_mt a_ml a_mr a_mx a_mf a_mg a_mw a_mh (0 : Int32) v_m_trace v_m_typed v_m_next v_m_token v_m_place v_m_value v_m_fault v_m_finds v_m_weeks v_m_rows v_m_cardPrice v_m_lotPrice v_m_sure (Int32.toInt64 u_17) u_13.2.2 v_ml v_mr) := hD
            refine lv_aload_n hx hb dX10_posted_80 rfl (lv_at hl 0 rfl) ?_
            refine lv_aload_n hx hb dX10_posted_81 rfl (lv_at hl 0 rfl) ?_
            refine lv_iload_n hx hb dX10_posted_82 rfl (lv_at hl 1 rfl) ?_
            refine lv_sipush (v := (255 : Int32)) hx hb dX10_posted_83 (by decide) ?_
            obtain ⟨u_19, hg_20, hf⟩ := pa_bd hf
            refine pa_ki (wc := (wo_X10_back cI cJ a_m a_mt a_ml a_mr a_mx a_mf a_mg a_mw a_mh (0 : Int32) v_m_trace v_m_typed v_m_next v_m_token v_m_place v_m_value v_m_fault v_m_finds v_m_weeks v_m_rows v_m_cardPrice v_m_lotPrice v_m_sure (Int32.toInt64 u_17) u_13.2.2 v_ml v_mr)) (wr := ([] : va_W)) (w1 := (wo_X10_back cI cJ a_m a_mt a_ml a_mr a_mx a_mf a_mg a_mw a_mh (0 : Int32) v_m_trace v_m_typed v_m_next v_m_token v_m_place v_m_value v_m_fault v_m_finds v_m_weeks v_m_rows v_m_cardPrice v_m_lotPrice v_m_sure (Int32.toInt64 u_17) u_13.2.2 v_ml v_mr)) (w2 := (wo_X10_posted cI cJ a_m a_mt a_ml a_mr a_mx a_mf a_mg a_mw a_mh (0 : Int32) v_m_trace v_m_typed v_m_next v_m_token v_m_place v_m_value v_m_fault v_m_finds v_m_weeks v_m_rows v_m_cardPrice v_m_lotPrice v_m_sure (Int32.toInt64 u_17) u_13.2.2 v_ml v_mr)) X hP hD hS [0, 1, 2] [] [0, 1, 2] rfl (pa_rV (As := [.int x1, .int (255 : Int32)]) (rest := [.ref a_m]) (T := TX10) X hP hD hS [0, 1, 2] rfl rfl (c_X10_back hg_20 H.size) (cwV 2 hts gX10_posted_X10_back rfl rfl rfl (by decide +kernel) ⟨Nat.le_of_ble_eq_true rfl, Nat.le_of_ble_eq_true rfl⟩) (q0 := 0) rfl rfl rfl hl.1 rfl (Nat.le_of_ble_eq_true rfl) dX10_posted_86 ⟨Nat.zero_le _, Nat.zero_le _⟩) rfl rfl (by decide) rfl rfl (fun H locs hP hD hS => ?_)
            refine lv_i2l (v := (Int32.toInt64 u_19)) hx hb dX10_posted_89 rfl ?_
            refine va_put (D := D) (ci := 9) (v := .long (Int32.toInt64 u_19)) (ty := .long) (C := RX10) (T := TX10) (N := 24) hx hb hts il_X10_posted_X10 tyX10 tyX10_ok nmX10 hown hK hP hD hS 0 rfl rfl 23 (by decide) (hts _ fk_X10_posted_3) (fun _ h9 => h9) rfl (tyX10_ok 23 (by decide)) rfl rfl (Nat.le_of_ble_eq_true rfl) dX10_posted_90 (fun H locs hP hD hS => ?_)
            have hP : va_P D vwCl (wo_X10_posted cI cJ a_m a_mt a_ml a_mr a_mx a_mf a_mg a_mw a_mh (0 : Int32) v_m_trace v_m_typed v_m_next v_m_token v_m_place v_m_value v_m_fault v_m_finds v_m_weeks v_m_rows v_m_cardPrice v_m_lotPrice v_m_sure (Int32.toInt64 u_17) (Int32.toInt64 u_19) v_ml v_mr) H := hP
            have hD : va_D A (wo_X10_posted cI cJ a_m a_mt a_ml a_mr a_mx a_mf a_mg a_mw a_mh (0 : Int32) v_m_trace v_m_typed v_m_next v_m_token v_m_place v_m_value v_m_fault v_m_finds v_m_weeks v_m_rows v_m_cardPrice v_m_lotPrice v_m_sure (Int32.toInt64 u_17) (Int32.toInt64 u_19) v_ml v_mr) := hD
            exact w_X10_posted_b93 X  hf hP hD hS (lv_sub hl [0, 2] rfl)
        · have hf := (if_pos c_15).symm.trans hf
          refine lv_ldc2 (v := (-1000000000000000000 : Int64)) hx hb hown (hts _ fk_X10_posted_1) dX10_posted_58 ?_
          obtain rfl := Option.some.inj hf
          exact pa_el X hP hD hS dX10_posted_61
      · have hf := (if_neg c_12).symm.trans hf
        refine lv_aload_n hx hb dX10_posted_30 rfl (lv_at hl 0 rfl) ?_
        refine lv_iload_n hx hb dX10_posted_31 rfl (lv_at hl 1 rfl) ?_
        refine lv_iload_n hx hb dX10_posted_32 rfl (lv_at hl 2 rfl) ?_
        refine lv_if_ne (tgt := 42) hx hb dX10_posted_33 (by decide) (fun c_21 => ?_) (fun c_21 => ?_)
        · have hf := (if_neg c_21).symm.trans hf
          refine lv_sipush (v := (170 : Int32)) hx hb dX10_posted_42 (by decide) ?_
          exact w_X10_posted_b45 X  hf hP hD hS (lv_sub hl [] rfl)
        · have hf := (if_pos c_21).symm.trans hf
          refine lv_sipush (v := (255 : Int32)) hx hb dX10_posted_36 (by decide) ?_
          refine lv_goto (tgt := 45) hx hb dX10_posted_39 (by decide) ?_
          exact w_X10_posted_b45 X  hf hP hD hS (lv_sub hl [] rfl)
    · have hf := (if_pos c_11).symm.trans hf
      refine lv_ldc2 (v := (-1000000000000000000 : Int64)) hx hb hown (hts _ fk_X10_posted_1) dX10_posted_21 ?_
      obtain rfl := Option.some.inj hf
      exact pa_el X hP hD hS dX10_posted_24
set_option maxHeartbeats 4000000 in
set_option maxRecDepth 100000 in
theorem c_X10_posted {l : Launch} {D : va_G} {cI cJ : ClassId} {g : pa_GT} {a_m a_mt a_ml a_mr a_mx a_mf a_mg a_mw a_mh : Nat} {x1 : Int32} {x2 : Int32} {v_m_thrown : Int32} {v_m_trace : Int64} {v_m_typed : Int32} {v_m_next : Int32} {v_m_token : Int32} {v_m_place : Int32} {v_m_value : Int32} {v_m_fault : Int32} {v_m_finds : Int32} {v_m_weeks : Int32} {v_m_rows : Int32} {v_m_cardPrice : Int32} {v_m_lotPrice : Int32} {v_m_sure : Int32} {v_m_up : Int64} {v_m_down : Int64} {v_ml : Nat → Int32} {v_mr : Nat → Int32} {o : Int64 × Int32 × Int64 × Int64} (hf : f_X10_posted x1 x2 v_m_up v_m_down v_ml v_mr = some o) : pa_Ml l yX10_posted wsX10_posted rm_X10_posted D cI cJ g [.ref a_m, .int x1, .int x2] (wo_X10_posted cI cJ a_m a_mt a_ml a_mr a_mx a_mf a_mg a_mw a_mh v_m_thrown v_m_trace v_m_typed v_m_next v_m_token v_m_place v_m_value v_m_fault v_m_finds v_m_weeks v_m_rows v_m_cardPrice v_m_lotPrice v_m_sure v_m_up v_m_down v_ml v_mr) (wo_X10_posted cI cJ a_m a_mt a_ml a_mr a_mx a_mf a_mg a_mw a_mh o.2.1 v_m_trace v_m_typed v_m_next v_m_token v_m_place v_m_value v_m_fault v_m_finds v_m_weeks v_m_rows v_m_cardPrice v_m_lotPrice v_m_sure o.2.2.1 o.2.2.2 v_ml v_mr) o.1 := by
  intro sz
  refine pa_met (cc := cX10_posted) (maxL := 3) (ret := (some .long)) (lv := [(0, .ref a_m), (1, .int x1), (2, .int x2)]) (by decide) rfl (Nat.le_of_ble_eq_true rfl) rfl ?_
  intro p e s m below meth c X hsz hP hD ls hl
  subst hsz
  exact w_X10_posted_b0 X hf hP hD va_S.rf hl
abbrev wo_X10_type (cI cJ : ClassId) (a_m a_mt a_ml a_mr a_mx a_mf a_mg a_mw a_mh : Nat) (v_m_thrown : Int32) (v_m_trace : Int64) (v_m_typed : Int32) (v_m_next : Int32) (v_m_token : Int32) (v_m_place : Int32) (v_m_value : Int32) (v_m_fault : Int32) (v_m_finds : Int32) (v_m_weeks : Int32) (v_m_rows : Int32) (v_m_cardPrice : Int32) (v_m_lotPrice : Int32) (v_m_sure : Int32) (v_m_up : Int64) (v_m_down : Int64) (v_mx : Nat → Int32) : va_W := [(a_m, .inr (9, [.int v_m_thrown, .long v_m_trace, .ref a_mt, .ref a_ml, .ref a_mr, .ref a_mx, .int v_m_typed, .int v_m_next, .int v_m_token, .int v_m_place, .int v_m_value, .int v_m_fault, .int v_m_finds, .ref a_mf, .ref a_mg, .int v_m_weeks, .ref a_mw, .int v_m_rows, .ref a_mh, .int v_m_cardPrice, .int v_m_lotPrice, .int v_m_sure, .long v_m_up, .long v_m_down])), (a_mx, .inl (cI, 300, .inl v_mx))]
abbrev rm_X10_type : Room := { frames := 1, cells := 0, slots := 0, locals := 22 }
theorem il_X10_type_X10 : ∀ w ∈ wsX100, w ∈ wsX10_type := by decide +kernel
theorem fk_X10_type_0 : Cond.fieldLink RX10 83 "PostedAsksModel" "typed" "I" ∈ wsX10_type := by decide +kernel
theorem fk_X10_type_1 : Cond.fieldLink RX10 20 "PostedAsksModel" "text" "[I" ∈ wsX10_type := by decide +kernel
theorem fk_X10_type_2 : Cond.constantLong RX10 86 (255) ∈ wsX10_type := by decide +kernel
theorem fk_X10_type_3 : Cond.fieldLink RX10 45 "PostedAsksModel" "thrown" "I" ∈ wsX10_type := by decide +kernel
def f_X10_type_L37_body (x1 : Int64) (v_m_thrown : Int32) (rec37 : Int32 → Int32 → (Nat → Int32) → Option (Int32 × Int32 × Int32 × (Nat → Int32))) (x4 : Int32) (v_m_typed : Int32) (v_mx : Nat → Int32) : Option (Int32 × Int32 × Int32 × (Nat → Int32)) :=
  if x4 < 0 then
    some (v_m_typed, v_m_thrown, v_m_typed, v_mx)
  else
    if pa_ib v_m_typed 300 = true then
      rec37 (x4 + (-1 : Int32)) (v_m_typed + (1 : Int32)) (upd v_mx (Int32.toNatClampNeg v_m_typed) (Int64.toInt32 ((x1 >>> (Int32.toInt64 ((8 : Int32) * x4) &&& 63)) &&& (255 : Int64))))
    else none
def f_X10_type_L37 (x1 : Int64) (v_m_thrown : Int32) : Nat → Int32 → Int32 → (Nat → Int32) → Option (Int32 × Int32 × Int32 × (Nat → Int32))
  | 0 => fun _ _ _ => none
  | n + 1 => f_X10_type_L37_body x1 v_m_thrown (f_X10_type_L37 x1 v_m_thrown n)
def f_X10_type (x1 : Int64) (x3 : Int32) (v_m_typed : Int32) (v_mx : Nat → Int32) : Option (Int32 × Int32 × Int32 × (Nat → Int32)) :=
  (f_X10_in x3 (1 : Int32) (8 : Int32)).bind fun u_3 =>
  if u_3 = 0 then
    some ((-1 : Int32), (0 : Int32), v_m_typed, v_mx)
  else
    if (v_m_typed + x3) ≤ (300 : Int32) then
      f_X10_type_L37 x1 (0 : Int32) pa_fu (x3 - (1 : Int32)) v_m_typed v_mx
    else
      some ((-3 : Int32), (0 : Int32), v_m_typed, v_mx)
set_option maxHeartbeats 4000000 in
set_option maxRecDepth 100000 in
theorem w_X10_type_L37 {l : Launch} {D : va_G} {cI cJ : ClassId} {g : pa_GT} {a_m a_mt a_ml a_mr a_mx a_mf a_mg a_mw a_mh : Nat} {A : Nat → Prop} {p : Program} {e : Env} {s : State} {m : MethodId} {args : Array Value} {below : List Frame} {meth : Method} {c : Code} {x1 : Int64} {v_m_thrown : Int32} {v_m_trace : Int64} {v_m_next : Int32} {v_m_token : Int32} {v_m_place : Int32} {v_m_value : Int32} {v_m_fault : Int32} {v_m_finds : Int32} {v_m_weeks : Int32} {v_m_rows : Int32} {v_m_cardPrice : Int32} {v_m_lotPrice : Int32} {v_m_sure : Int32} {v_m_up : Int64} {v_m_down : Int64} {o : Int32 × Int32 × Int32 × (Nat → Int32)} (X : pa_X cX10_type 5 (some .int) RX10 wsX10_type D cI cJ g A p s m args meth c)  : ∀ (n : Nat) (x4 : Int32) (v_m_typed : Int32) (v_mx : Nat → Int32), f_X10_type_L37 x1 v_m_thrown n x4 v_m_typed v_mx = some o → ∀ (H : Heap) (locs : List Loc) , va_P D vwCl (wo_X10_type cI cJ a_m a_mt a_ml a_mr a_mx a_mf a_mg a_mw a_mh v_m_thrown v_m_trace v_m_typed v_m_next v_m_token v_m_place v_m_value v_m_fault v_m_finds v_m_weeks v_m_rows v_m_cardPrice v_m_lotPrice v_m_sure v_m_up v_m_down v_mx) H → va_D A (wo_X10_type cI cJ a_m a_mt a_ml a_mr a_mx a_mf a_mg a_mw a_mh v_m_thrown v_m_trace v_m_typed v_m_next v_m_token v_m_place v_m_value v_m_fault v_m_finds v_m_weeks v_m_rows v_m_cardPrice v_m_lotPrice v_m_sure v_m_up v_m_down v_mx) → va_S A s.heap H locs → ∀ (ls : Array Slot), lv_has ls 5 [(0, .ref a_m), (1, .long x1), (4, .int x4)] → W p l e (headSpec wsX10_type rm_X10_type).room s m args below meth c H locs 0 0 (MQ below (va_Qi (fun r (_ : Unit) => r = o.1) (pa_QB D A (wo_X10_type cI cJ a_m a_mt a_ml a_mr a_mx a_mf a_mg a_mw a_mh o.2.1 v_m_trace o.2.2.1 v_m_next v_m_token v_m_place v_m_value v_m_fault v_m_finds v_m_weeks v_m_rows v_m_cardPrice v_m_lotPrice v_m_sure v_m_up v_m_down o.2.2.2)) A) args s 0 0 A) (F0 m 37 ls []) := by
  obtain ⟨hx, hb, hr, hml, hown, hts, hK, hA, hG, hlk⟩ := id X
  intro n
  induction n with
  | zero =>
    intro x4 v_m_typed v_mx hf
    have hf : (none : Option (Int32 × Int32 × Int32 × (Nat → Int32))) = some o := hf
    cases hf
  | succ n hrec37 =>
    intro x4 v_m_typed v_mx hf H locs  hP hD hS ls hl
    have hf : f_X10_type_L37_body x1 v_m_thrown (f_X10_type_L37 x1 v_m_thrown n) x4 v_m_typed v_mx = some o := hf
    delta f_X10_type_L37_body at hf
    generalize hgr : f_X10_type_L37 x1 v_m_thrown n = rec37 at hf hrec37
    refine lv_iload hx hb dX10_type_37 (lv_at hl 2 rfl) ?_
    refine lv_if_lt (tgt := 79) hx hb dX10_type_39 (by decide) (fun c_1 => ?_) (fun c_1 => ?_)
    · have hf := (if_pos c_1).symm.trans hf
      refine lv_aload_n hx hb dX10_type_79 rfl (lv_at hl 0 rfl) ?_
      refine va_get (D := D) (ci := 9) (v := .int v_m_typed) (C := RX10) (T := TX10) (N := 24) hx hb hts il_X10_type_X10 hown hK hP 0 rfl rfl 6 (by decide) (hts _ fk_X10_type_0) (fun _ h9 => h9) rfl dX10_type_80 ?_
      obtain rfl := Option.some.inj hf
      exact pa_ei X hP hD hS dX10_type_83
    · have hf := (if_neg c_1).symm.trans hf
      refine lv_aload_n hx hb dX10_type_42 rfl (lv_at hl 0 rfl) ?_
      refine va_get (D := D) (ci := 9) (v := .ref a_mx) (C := RX10) (T := TX10) (N := 24) hx hb hts il_X10_type_X10 hown hK hP 0 rfl rfl 5 (by decide) (hts _ fk_X10_type_1) (fun _ h9 => h9) rfl dX10_type_43 ?_
      refine lv_aload_n hx hb dX10_type_46 rfl (lv_at hl 0 rfl) ?_
      refine va_get (D := D) (ci := 9) (v := .int v_m_typed) (C := RX10) (T := TX10) (N := 24) hx hb hts il_X10_type_X10 hown hK hP 0 rfl rfl 6 (by decide) (hts _ fk_X10_type_0) (fun _ h9 => h9) rfl dX10_type_47 ?_
      refine lv_lload_n hx hb dX10_type_50 rfl (lv_at hl 1 rfl) ?_
      refine lv_bipush (v := (8 : Int32)) hx hb dX10_type_51 (by decide) ?_
      refine lv_iload hx hb dX10_type_53 (lv_at hl 2 rfl) ?_
      refine lv_imul hx hb dX10_type_55 ?_
      refine lv_lshr (v := (x1 >>> (Int32.toInt64 ((8 : Int32) * x4) &&& 63))) hx hb dX10_type_56 rfl ?_
      refine lv_ldc2 (v := (255 : Int64)) hx hb hown (hts _ fk_X10_type_2) dX10_type_57 ?_
      refine lv_land hx hb dX10_type_60 ?_
      refine lv_l2i (v := (Int64.toInt32 ((x1 >>> (Int32.toInt64 ((8 : Int32) * x4) &&& 63)) &&& (255 : Int64)))) hx hb dX10_type_61 rfl ?_
      obtain ⟨hi_2, hf⟩ := pa_gd hf
      refine va_iast hx hb hK hP hD hS 1 0 rfl rfl hi_2 dX10_type_62 (fun H locs hP hD hS => ?_)
      have hP : va_P D vwCl (wo_X10_type cI cJ a_m a_mt a_ml a_mr a_mx a_mf a_mg a_mw a_mh v_m_thrown v_m_trace v_m_typed v_m_next v_m_token v_m_place v_m_value v_m_fault v_m_finds v_m_weeks v_m_rows v_m_cardPrice v_m_lotPrice v_m_sure v_m_up v_m_down (upd v_mx (Int32.toNatClampNeg v_m_typed) (Int64.toInt32 ((x1 >>> (Int32.toInt64 ((8 : Int32) * x4) &&& 63)) &&& (255 : Int64))))) H := hP
      have hD : va_D A (wo_X10_type cI cJ a_m a_mt a_ml a_mr a_mx a_mf a_mg a_mw a_mh v_m_thrown v_m_trace v_m_typed v_m_next v_m_token v_m_place v_m_value v_m_fault v_m_finds v_m_weeks v_m_rows v_m_cardPrice v_m_lotPrice v_m_sure v_m_up v_m_down (upd v_mx (Int32.toNatClampNeg v_m_typed) (Int64.toInt32 ((x1 >>> (Int32.toInt64 ((8 : Int32) * x4) &&& 63)) &&& (255 : Int64))))) := hD
      refine lv_aload_n hx hb dX10_type_63 rfl (lv_at hl 0 rfl) ?_
      refine lv_dup hx hb dX10_type_64 rfl ?_
      refine va_get (D := D) (ci := 9) (v := .int v_m_typed) (C := RX10) (T := TX10) (N := 24) hx hb hts il_X10_type_X10 hown hK hP 0 rfl rfl 6 (by decide) (hts _ fk_X10_type_0) (fun _ h9 => h9) rfl dX10_type_65 ?_
      refine lv_iconst (v := (1 : Int32)) hx hb dX10_type_68 (by decide) ?_
      refine lv_iadd hx hb dX10_type_69 ?_
      refine va_put (D := D) (ci := 9) (v := .int (v_m_typed + (1 : Int32))) (ty := .int) (C := RX10) (T := TX10) (N := 24) hx hb hts il_X10_type_X10 tyX10 tyX10_ok nmX10 hown hK hP hD hS 0 rfl rfl 6 (by decide) (hts _ fk_X10_type_0) (fun _ h9 => h9) rfl (tyX10_ok 6 (by decide)) rfl rfl (Nat.le_of_ble_eq_true rfl) dX10_type_70 (fun H locs hP hD hS => ?_)
      have hP : va_P D vwCl (wo_X10_type cI cJ a_m a_mt a_ml a_mr a_mx a_mf a_mg a_mw a_mh v_m_thrown v_m_trace (v_m_typed + (1 : Int32)) v_m_next v_m_token v_m_place v_m_value v_m_fault v_m_finds v_m_weeks v_m_rows v_m_cardPrice v_m_lotPrice v_m_sure v_m_up v_m_down (upd v_mx (Int32.toNatClampNeg v_m_typed) (Int64.toInt32 ((x1 >>> (Int32.toInt64 ((8 : Int32) * x4) &&& 63)) &&& (255 : Int64))))) H := hP
      have hD : va_D A (wo_X10_type cI cJ a_m a_mt a_ml a_mr a_mx a_mf a_mg a_mw a_mh v_m_thrown v_m_trace (v_m_typed + (1 : Int32)) v_m_next v_m_token v_m_place v_m_value v_m_fault v_m_finds v_m_weeks v_m_rows v_m_cardPrice v_m_lotPrice v_m_sure v_m_up v_m_down (upd v_mx (Int32.toNatClampNeg v_m_typed) (Int64.toInt32 ((x1 >>> (Int32.toInt64 ((8 : Int32) * x4) &&& 63)) &&& (255 : Int64))))) := hD
      refine lv_iinc (v := (x4 + (-1 : Int32))) (lv' := [(4, .int (x4 + (-1 : Int32))), (0, .ref a_m), (1, .long x1)]) hx hb dX10_type_73 hl (k := 2) rfl rfl (by decide) rfl (fun ls hl => ?_)
      refine lv_goto (tgt := 37) hx hb dX10_type_76 (by decide) ?_
      exact hrec37 _ _ _ hf _ _  hP hD hS _ (lv_sub hl [1, 2, 0] rfl)
set_option maxHeartbeats 4000000 in
set_option maxRecDepth 100000 in
theorem w_X10_type_b0 {l : Launch} {D : va_G} {cI cJ : ClassId} {g : pa_GT} {a_m a_mt a_ml a_mr a_mx a_mf a_mg a_mw a_mh : Nat} {A : Nat → Prop} {p : Program} {e : Env} {s : State} {m : MethodId} {args : Array Value} {below : List Frame} {meth : Method} {c : Code} {x1 : Int64} {x3 : Int32} {v_m_typed : Int32} {v_mx : Nat → Int32} {v_m_thrown : Int32} {v_m_trace : Int64} {v_m_next : Int32} {v_m_token : Int32} {v_m_place : Int32} {v_m_value : Int32} {v_m_fault : Int32} {v_m_finds : Int32} {v_m_weeks : Int32} {v_m_rows : Int32} {v_m_cardPrice : Int32} {v_m_lotPrice : Int32} {v_m_sure : Int32} {v_m_up : Int64} {v_m_down : Int64} {o : Int32 × Int32 × Int32 × (Nat → Int32)} (X : pa_X cX10_type 5 (some .int) RX10 wsX10_type D cI cJ g A p s m args meth c)  (hf : f_X10_type x1 x3 v_m_typed v_mx = some o) {H : Heap} {locs : List Loc} (hP : va_P D vwCl (wo_X10_type cI cJ a_m a_mt a_ml a_mr a_mx a_mf a_mg a_mw a_mh v_m_thrown v_m_trace v_m_typed v_m_next v_m_token v_m_place v_m_value v_m_fault v_m_finds v_m_weeks v_m_rows v_m_cardPrice v_m_lotPrice v_m_sure v_m_up v_m_down v_mx) H) (hD : va_D A (wo_X10_type cI cJ a_m a_mt a_ml a_mr a_mx a_mf a_mg a_mw a_mh v_m_thrown v_m_trace v_m_typed v_m_next v_m_token v_m_place v_m_value v_m_fault v_m_finds v_m_weeks v_m_rows v_m_cardPrice v_m_lotPrice v_m_sure v_m_up v_m_down v_mx)) (hS : va_S A s.heap H locs) {ls : Array Slot} (hl : lv_has ls 5 [(0, .ref a_m), (1, .long x1), (3, .int x3)]) : W p l e (headSpec wsX10_type rm_X10_type).room s m args below meth c H locs 0 0 (MQ below (va_Qi (fun r (_ : Unit) => r = o.1) (pa_QB D A (wo_X10_type cI cJ a_m a_mt a_ml a_mr a_mx a_mf a_mg a_mw a_mh o.2.1 v_m_trace o.2.2.1 v_m_next v_m_token v_m_place v_m_value v_m_fault v_m_finds v_m_weeks v_m_rows v_m_cardPrice v_m_lotPrice v_m_sure v_m_up v_m_down o.2.2.2)) A) args s 0 0 A) (F0 m 0 ls []) := by
  obtain ⟨hx, hb, hr, hml, hown, hts, hK, hA, hG, hlk⟩ := id X
  delta f_X10_type at hf
  refine lv_aload_n hx hb dX10_type_0 rfl (lv_at hl 0 rfl) ?_
  refine lv_iconst (v := (0 : Int32)) hx hb dX10_type_1 (by decide) ?_
  refine va_put (D := D) (ci := 9) (v := .int (0 : Int32)) (ty := .int) (C := RX10) (T := TX10) (N := 24) hx hb hts il_X10_type_X10 tyX10 tyX10_ok nmX10 hown hK hP hD hS 0 rfl rfl 0 (by decide) (hts _ fk_X10_type_3) (fun _ h9 => h9) rfl (tyX10_ok 0 (by decide)) rfl rfl (Nat.le_of_ble_eq_true rfl) dX10_type_2 (fun H locs hP hD hS => ?_)
  have hP : va_P D vwCl (wo_X10_type cI cJ a_m a_mt a_ml a_mr a_mx a_mf a_mg a_mw a_mh (0 : Int32) v_m_trace v_m_typed v_m_next v_m_token v_m_place v_m_value v_m_fault v_m_finds v_m_weeks v_m_rows v_m_cardPrice v_m_lotPrice v_m_sure v_m_up v_m_down v_mx) H := hP
  have hD : va_D A (wo_X10_type cI cJ a_m a_mt a_ml a_mr a_mx a_mf a_mg a_mw a_mh (0 : Int32) v_m_trace v_m_typed v_m_next v_m_token v_m_place v_m_value v_m_fault v_m_finds v_m_weeks v_m_rows v_m_cardPrice v_m_lotPrice v_m_sure v_m_up v_m_down v_mx) := hD
  refine lv_iload_n hx hb dX10_type_5 rfl (lv_at hl 2 rfl) ?_
  refine lv_iconst (v := (1 : Int32)) hx hb dX10_type_6 (by decide) ?_
  refine lv_bipush (v := (8 : Int32)) hx hb dX10_type_7 (by decide) ?_
  obtain ⟨u_3, hg_4, hf⟩ := pa_bd hf
  refine pa_ki (wc := ([] : va_W)) (wr := [(a_m, .inr (9, [.int (0 : Int32), .long v_m_trace, .ref a_mt, .ref a_ml, .ref a_mr, .ref a_mx, .int v_m_typed, .int v_m_next, .int v_m_token, .int v_m_place, .int v_m_value, .int v_m_fault, .int v_m_finds, .ref a_mf, .ref a_mg, .int v_m_weeks, .ref a_mw, .int v_m_rows, .ref a_mh, .int v_m_cardPrice, .int v_m_lotPrice, .int v_m_sure, .long v_m_up, .long v_m_down])), (a_mx, .inl (cI, 300, .inl v_mx))]) (w1 := ([] : va_W)) (w2 := (wo_X10_type cI cJ a_m a_mt a_ml a_mr a_mx a_mf a_mg a_mw a_mh (0 : Int32) v_m_trace v_m_typed v_m_next v_m_token v_m_place v_m_value v_m_fault v_m_finds v_m_weeks v_m_rows v_m_cardPrice v_m_lotPrice v_m_sure v_m_up v_m_down v_mx)) X hP hD hS [] [0, 1] [0, 1] rfl (pa_rS (As := [.int x3, .int (1 : Int32), .int (8 : Int32)]) (rest := []) X hP hD hS [] rfl rfl (c_X10_in hg_4 H.size) (va_cwS 3 hts gX10_type_X10_in rfl rfl rfl (by decide +kernel) ⟨Nat.le_of_ble_eq_true rfl, Nat.le_of_ble_eq_true rfl⟩) rfl hl.1 rfl (Nat.le_of_ble_eq_true rfl) dX10_type_9 ⟨Nat.zero_le _, Nat.zero_le _⟩) rfl rfl (by decide) rfl rfl (fun H locs hP hD hS => ?_)
  refine lv_if_ne (tgt := 17) hx hb dX10_type_12 (by decide) (fun c_5 => ?_) (fun c_5 => ?_)
  · have hf := (if_neg c_5).symm.trans hf
    refine lv_aload_n hx hb dX10_type_17 rfl (lv_at hl 0 rfl) ?_
    refine va_get (D := D) (ci := 9) (v := .int v_m_typed) (C := RX10) (T := TX10) (N := 24) hx hb hts il_X10_type_X10 hown hK hP 0 rfl rfl 6 (by decide) (hts _ fk_X10_type_0) (fun _ h9 => h9) rfl dX10_type_18 ?_
    refine lv_iload_n hx hb dX10_type_21 rfl (lv_at hl 2 rfl) ?_
    refine lv_iadd hx hb dX10_type_22 ?_
    refine lv_sipush (v := (300 : Int32)) hx hb dX10_type_23 (by decide) ?_
    refine lv_icmp_le (tgt := 32) hx hb dX10_type_26 (by decide) (fun c_6 => ?_) (fun c_6 => ?_)
    · have hf := (if_pos c_6).symm.trans hf
      refine lv_iload_n hx hb dX10_type_32 rfl (lv_at hl 2 rfl) ?_
      refine lv_iconst (v := (1 : Int32)) hx hb dX10_type_33 (by decide) ?_
      refine lv_isub hx hb dX10_type_34 ?_
      refine lv_istore (lv' := [(4, .int (x3 - (1 : Int32))), (0, .ref a_m), (1, .long x1), (3, .int x3)]) hx hb dX10_type_35 hl (by decide) rfl (fun ls hl => ?_)
      exact w_X10_type_L37 X  _ _ _ _ hf _ _  hP hD hS _ (lv_sub hl [1, 2, 0] rfl)
    · have hf := (if_neg c_6).symm.trans hf
      refine lv_bipush (v := (-3 : Int32)) hx hb dX10_type_29 (by decide) ?_
      obtain rfl := Option.some.inj hf
      exact pa_ei X hP hD hS dX10_type_31
  · have hf := (if_pos c_5).symm.trans hf
    refine lv_iconst (v := (-1 : Int32)) hx hb dX10_type_15 (by decide) ?_
    obtain rfl := Option.some.inj hf
    exact pa_ei X hP hD hS dX10_type_16
set_option maxHeartbeats 4000000 in
set_option maxRecDepth 100000 in
theorem c_X10_type {l : Launch} {D : va_G} {cI cJ : ClassId} {g : pa_GT} {a_m a_mt a_ml a_mr a_mx a_mf a_mg a_mw a_mh : Nat} {x1 : Int64} {x3 : Int32} {v_m_thrown : Int32} {v_m_trace : Int64} {v_m_typed : Int32} {v_m_next : Int32} {v_m_token : Int32} {v_m_place : Int32} {v_m_value : Int32} {v_m_fault : Int32} {v_m_finds : Int32} {v_m_weeks : Int32} {v_m_rows : Int32} {v_m_cardPrice : Int32} {v_m_lotPrice : Int32} {v_m_sure : Int32} {v_m_up : Int64} {v_m_down : Int64} {v_mx : Nat → Int32} {o : Int32 × Int32 × Int32 × (Nat → Int32)} (hf : f_X10_type x1 x3 v_m_typed v_mx = some o) : pa_Mi l yX10_type wsX10_type rm_X10_type D cI cJ g [.ref a_m, .long x1, .int x3] (wo_X10_type cI cJ a_m a_mt a_ml a_mr a_mx a_mf a_mg a_mw a_mh v_m_thrown v_m_trace v_m_typed v_m_next v_m_token v_m_place v_m_value v_m_fault v_m_finds v_m_weeks v_m_rows v_m_cardPrice v_m_lotPrice v_m_sure v_m_up v_m_down v_mx) (wo_X10_type cI cJ a_m a_mt a_ml a_mr a_mx a_mf a_mg a_mw a_mh o.2.1 v_m_trace o.2.2.1 v_m_next v_m_token v_m_place v_m_value v_m_fault v_m_finds v_m_weeks v_m_rows v_m_cardPrice v_m_lotPrice v_m_sure v_m_up v_m_down o.2.2.2) o.1 := by
  intro sz
  refine pa_met (cc := cX10_type) (maxL := 5) (ret := (some .int)) (lv := [(0, .ref a_m), (1, .long x1), (3, .int x3)]) (by decide) rfl (Nat.le_of_ble_eq_true rfl) rfl ?_
  intro p e s m below meth c X hsz hP hD ls hl
  subst hsz
  exact w_X10_type_b0 X hf hP hD va_S.rf hl
abbrev wo_X10_clear (cI cJ : ClassId) (a_m a_mt a_ml a_mr a_mx a_mf a_mg a_mw a_mh : Nat) (v_m_thrown : Int32) (v_m_trace : Int64) (v_m_typed : Int32) (v_m_next : Int32) (v_m_token : Int32) (v_m_place : Int32) (v_m_value : Int32) (v_m_fault : Int32) (v_m_finds : Int32) (v_m_weeks : Int32) (v_m_rows : Int32) (v_m_cardPrice : Int32) (v_m_lotPrice : Int32) (v_m_sure : Int32) (v_m_up : Int64) (v_m_down : Int64) : va_W := [(a_m, .inr (9, [.int v_m_thrown, .long v_m_trace, .ref a_mt, .ref a_ml, .ref a_mr, .ref a_mx, .int v_m_typed, .int v_m_next, .int v_m_token, .int v_m_place, .int v_m_value, .int v_m_fault, .int v_m_finds, .ref a_mf, .ref a_mg, .int v_m_weeks, .ref a_mw, .int v_m_rows, .ref a_mh, .int v_m_cardPrice, .int v_m_lotPrice, .int v_m_sure, .long v_m_up, .long v_m_down]))]
abbrev rm_X10_clear : Room := { frames := 0, cells := 0, slots := 0, locals := 0 }
theorem il_X10_clear_X10 : ∀ w ∈ wsX100, w ∈ wsX10_clear := by decide +kernel
theorem fk_X10_clear_0 : Cond.fieldLink RX10 45 "PostedAsksModel" "thrown" "I" ∈ wsX10_clear := by decide +kernel
theorem fk_X10_clear_1 : Cond.fieldLink RX10 83 "PostedAsksModel" "typed" "I" ∈ wsX10_clear := by decide +kernel
def f_X10_clear (v_m_typed : Int32) : Option (Int32 × Int32 × Int32) :=
  some (v_m_typed, (0 : Int32), (0 : Int32))
set_option maxHeartbeats 4000000 in
set_option maxRecDepth 100000 in
theorem w_X10_clear_b0 {l : Launch} {D : va_G} {cI cJ : ClassId} {g : pa_GT} {a_m a_mt a_ml a_mr a_mx a_mf a_mg a_mw a_mh : Nat} {A : Nat → Prop} {p : Program} {e : Env} {s : State} {m : MethodId} {args : Array Value} {below : List Frame} {meth : Method} {c : Code} {v_m_typed : Int32} {v_m_thrown : Int32} {v_m_trace : Int64} {v_m_next : Int32} {v_m_token : Int32} {v_m_place : Int32} {v_m_value : Int32} {v_m_fault : Int32} {v_m_finds : Int32} {v_m_weeks : Int32} {v_m_rows : Int32} {v_m_cardPrice : Int32} {v_m_lotPrice : Int32} {v_m_sure : Int32} {v_m_up : Int64} {v_m_down : Int64} {o : Int32 × Int32 × Int32} (X : pa_X cX10_clear 2 (some .int) RX10 wsX10_clear D cI cJ g A p s m args meth c)  (hf : f_X10_clear v_m_typed = some o) {H : Heap} {locs : List Loc} (hP : va_P D vwCl (wo_X10_clear cI cJ a_m a_mt a_ml a_mr a_mx a_mf a_mg a_mw a_mh v_m_thrown v_m_trace v_m_typed v_m_next v_m_token v_m_place v_m_value v_m_fault v_m_finds v_m_weeks v_m_rows v_m_cardPrice v_m_lotPrice v_m_sure v_m_up v_m_down) H) (hD : va_D A (wo_X10_clear cI cJ a_m a_mt a_ml a_mr a_mx a_mf a_mg a_mw a_mh v_m_thrown v_m_trace v_m_typed v_m_next v_m_token v_m_place v_m_value v_m_fault v_m_finds v_m_weeks v_m_rows v_m_cardPrice v_m_lotPrice v_m_sure v_m_up v_m_down)) (hS : va_S A s.heap H locs) {ls : Array Slot} (hl : lv_has ls 2 [(0, .ref a_m)]) : W p l e (headSpec wsX10_clear rm_X10_clear).room s m args below meth c H locs 0 0 (MQ below (va_Qi (fun r (_ : Unit) => r = o.1) (pa_QB D A (wo_X10_clear cI cJ a_m a_mt a_ml a_mr a_mx a_mf a_mg a_mw a_mh o.2.1 v_m_trace o.2.2 v_m_next v_m_token v_m_place v_m_value v_m_fault v_m_finds v_m_weeks v_m_rows v_m_cardPrice v_m_lotPrice v_m_sure v_m_up v_m_down)) A) args s 0 0 A) (F0 m 0 ls []) := by
  obtain ⟨hx, hb, hr, hml, hown, hts, hK, hA, hG, hlk⟩ := id X
  delta f_X10_clear at hf
  refine lv_aload_n hx hb dX10_clear_0 rfl (lv_at hl 0 rfl) ?_
  refine lv_iconst (v := (0 : Int32)) hx hb dX10_clear_1 (by decide) ?_
  refine va_put (D := D) (ci := 9) (v := .int (0 : Int32)) (ty := .int) (C := RX10) (T := TX10) (N := 24) hx hb hts il_X10_clear_X10 tyX10 tyX10_ok nmX10 hown hK hP hD hS 0 rfl rfl 0 (by decide) (hts _ fk_X10_clear_0) (fun _ h9 => h9) rfl (tyX10_ok 0 (by decide)) rfl rfl (Nat.le_of_ble_eq_true rfl) dX10_clear_2 (fun H locs hP hD hS => ?_)
  have hP : va_P D vwCl (wo_X10_clear cI cJ a_m a_mt a_ml a_mr a_mx a_mf a_mg a_mw a_mh (0 : Int32) v_m_trace v_m_typed v_m_next v_m_token v_m_place v_m_value v_m_fault v_m_finds v_m_weeks v_m_rows v_m_cardPrice v_m_lotPrice v_m_sure v_m_up v_m_down) H := hP
  have hD : va_D A (wo_X10_clear cI cJ a_m a_mt a_ml a_mr a_mx a_mf a_mg a_mw a_mh (0 : Int32) v_m_trace v_m_typed v_m_next v_m_token v_m_place v_m_value v_m_fault v_m_finds v_m_weeks v_m_rows v_m_cardPrice v_m_lotPrice v_m_sure v_m_up v_m_down) := hD
  refine lv_aload_n hx hb dX10_clear_5 rfl (lv_at hl 0 rfl) ?_
  refine va_get (D := D) (ci := 9) (v := .int v_m_typed) (C := RX10) (T := TX10) (N := 24) hx hb hts il_X10_clear_X10 hown hK hP 0 rfl rfl 6 (by decide) (hts _ fk_X10_clear_1) (fun _ h9 => h9) rfl dX10_clear_6 ?_
  refine lv_istore_n (lv' := [(1, .int v_m_typed), (0, .ref a_m)]) hx hb dX10_clear_9 rfl hl (by decide) rfl (fun ls hl => ?_)
  refine lv_aload_n hx hb dX10_clear_10 rfl (lv_at hl 1 rfl) ?_
  refine lv_iconst (v := (0 : Int32)) hx hb dX10_clear_11 (by decide) ?_
  refine va_put (D := D) (ci := 9) (v := .int (0 : Int32)) (ty := .int) (C := RX10) (T := TX10) (N := 24) hx hb hts il_X10_clear_X10 tyX10 tyX10_ok nmX10 hown hK hP hD hS 0 rfl rfl 6 (by decide) (hts _ fk_X10_clear_1) (fun _ h9 => h9) rfl (tyX10_ok 6 (by decide)) rfl rfl (Nat.le_of_ble_eq_true rfl) dX10_clear_12 (fun H locs hP hD hS => ?_)
  have hP : va_P D vwCl (wo_X10_clear cI cJ a_m a_mt a_ml a_mr a_mx a_mf a_mg a_mw a_mh (0 : Int32) v_m_trace (0 : Int32) v_m_next v_m_token v_m_place v_m_value v_m_fault v_m_finds v_m_weeks v_m_rows v_m_cardPrice v_m_lotPrice v_m_sure v_m_up v_m_down) H := hP
  have hD : va_D A (wo_X10_clear cI cJ a_m a_mt a_ml a_mr a_mx a_mf a_mg a_mw a_mh (0 : Int32) v_m_trace (0 : Int32) v_m_next v_m_token v_m_place v_m_value v_m_fault v_m_finds v_m_weeks v_m_rows v_m_cardPrice v_m_lotPrice v_m_sure v_m_up v_m_down) := hD
  refine lv_iload_n hx hb dX10_clear_15 rfl (lv_at hl 0 rfl) ?_
  obtain rfl := Option.some.inj hf
  exact pa_ei X hP hD hS dX10_clear_16
set_option maxHeartbeats 4000000 in
set_option maxRecDepth 100000 in
theorem c_X10_clear {l : Launch} {D : va_G} {cI cJ : ClassId} {g : pa_GT} {a_m a_mt a_ml a_mr a_mx a_mf a_mg a_mw a_mh : Nat}  {v_m_thrown : Int32} {v_m_trace : Int64} {v_m_typed : Int32} {v_m_next : Int32} {v_m_token : Int32} {v_m_place : Int32} {v_m_value : Int32} {v_m_fault : Int32} {v_m_finds : Int32} {v_m_weeks : Int32} {v_m_rows : Int32} {v_m_cardPrice : Int32} {v_m_lotPrice : Int32} {v_m_sure : Int32} {v_m_up : Int64} {v_m_down : Int64} {o : Int32 × Int32 × Int32} (hf : f_X10_clear v_m_typed = some o) : pa_Mi l yX10_clear wsX10_clear rm_X10_clear D cI cJ g [.ref a_m] (wo_X10_clear cI cJ a_m a_mt a_ml a_mr a_mx a_mf a_mg a_mw a_mh v_m_thrown v_m_trace v_m_typed v_m_next v_m_token v_m_place v_m_value v_m_fault v_m_finds v_m_weeks v_m_rows v_m_cardPrice v_m_lotPrice v_m_sure v_m_up v_m_down) (wo_X10_clear cI cJ a_m a_mt a_ml a_mr a_mx a_mf a_mg a_mw a_mh o.2.1 v_m_trace o.2.2 v_m_next v_m_token v_m_place v_m_value v_m_fault v_m_finds v_m_weeks v_m_rows v_m_cardPrice v_m_lotPrice v_m_sure v_m_up v_m_down) o.1 := by
  intro sz
  refine pa_met (cc := cX10_clear) (maxL := 2) (ret := (some .int)) (lv := [(0, .ref a_m)]) (by decide) rfl (Nat.le_of_ble_eq_true rfl) rfl ?_
  intro p e s m below meth c X hsz hP hD ls hl
  subst hsz
  exact w_X10_clear_b0 X hf hP hD va_S.rf hl
abbrev wo_X10_byteAt (cI cJ : ClassId) (a_m a_mt a_ml a_mr a_mx a_mf a_mg a_mw a_mh : Nat) (v_m_thrown : Int32) (v_m_trace : Int64) (v_m_typed : Int32) (v_m_next : Int32) (v_m_token : Int32) (v_m_place : Int32) (v_m_value : Int32) (v_m_fault : Int32) (v_m_finds : Int32) (v_m_weeks : Int32) (v_m_rows : Int32) (v_m_cardPrice : Int32) (v_m_lotPrice : Int32) (v_m_sure : Int32) (v_m_up : Int64) (v_m_down : Int64) (v_mx : Nat → Int32) : va_W := [(a_m, .inr (9, [.int v_m_thrown, .long v_m_trace, .ref a_mt, .ref a_ml, .ref a_mr, .ref a_mx, .int v_m_typed, .int v_m_next, .int v_m_token, .int v_m_place, .int v_m_value, .int v_m_fault, .int v_m_finds, .ref a_mf, .ref a_mg, .int v_m_weeks, .ref a_mw, .int v_m_rows, .ref a_mh, .int v_m_cardPrice, .int v_m_lotPrice, .int v_m_sure, .long v_m_up, .long v_m_down])), (a_mx, .inl (cI, 300, .inl v_mx))]
abbrev rm_X10_byteAt : Room := { frames := 0, cells := 0, slots := 0, locals := 0 }
theorem il_X10_byteAt_X10 : ∀ w ∈ wsX100, w ∈ wsX10_byteAt := by decide +kernel
theorem fk_X10_byteAt_0 : Cond.fieldLink RX10 83 "PostedAsksModel" "typed" "I" ∈ wsX10_byteAt := by decide +kernel
theorem fk_X10_byteAt_1 : Cond.fieldLink RX10 20 "PostedAsksModel" "text" "[I" ∈ wsX10_byteAt := by decide +kernel
def f_X10_byteAt (x1 : Int32) (v_m_typed : Int32) (v_mx : Nat → Int32) : Option (Int32) :=
  if v_m_typed ≤ x1 then
    some ((-1 : Int32))
  else
    if pa_ib x1 300 = true then
      some ((v_mx (Int32.toNatClampNeg x1)))
    else none
set_option maxHeartbeats 4000000 in
set_option maxRecDepth 100000 in
theorem w_X10_byteAt_b0 {l : Launch} {D : va_G} {cI cJ : ClassId} {g : pa_GT} {a_m a_mt a_ml a_mr a_mx a_mf a_mg a_mw a_mh : Nat} {A : Nat → Prop} {p : Program} {e : Env} {s : State} {m : MethodId} {args : Array Value} {below : List Frame} {meth : Method} {c : Code} {x1 : Int32} {v_m_typed : Int32} {v_mx : Nat → Int32} {v_m_thrown : Int32} {v_m_trace : Int64} {v_m_next : Int32} {v_m_token : Int32} {v_m_place : Int32} {v_m_value : Int32} {v_m_fault : Int32} {v_m_finds : Int32} {v_m_weeks : Int32} {v_m_rows : Int32} {v_m_cardPrice : Int32} {v_m_lotPrice : Int32} {v_m_sure : Int32} {v_m_up : Int64} {v_m_down : Int64} {o : Int32} (X : pa_X cX10_byteAt 2 (some .int) RX10 wsX10_byteAt D cI cJ g A p s m args meth c)  (hf : f_X10_byteAt x1 v_m_typed v_mx = some o) {H : Heap} {locs : List Loc} (hP : va_P D vwCl (wo_X10_byteAt cI cJ a_m a_mt a_ml a_mr a_mx a_mf a_mg a_mw a_mh v_m_thrown v_m_trace v_m_typed v_m_next v_m_token v_m_place v_m_value v_m_fault v_m_finds v_m_weeks v_m_rows v_m_cardPrice v_m_lotPrice v_m_sure v_m_up v_m_down v_mx) H) (hD : va_D A (wo_X10_byteAt cI cJ a_m a_mt a_ml a_mr a_mx a_mf a_mg a_mw a_mh v_m_thrown v_m_trace v_m_typed v_m_next v_m_token v_m_place v_m_value v_m_fault v_m_finds v_m_weeks v_m_rows v_m_cardPrice v_m_lotPrice v_m_sure v_m_up v_m_down v_mx)) (hS : va_S A s.heap H locs) {ls : Array Slot} (hl : lv_has ls 2 [(0, .ref a_m), (1, .int x1)]) : W p l e (headSpec wsX10_byteAt rm_X10_byteAt).room s m args below meth c H locs 0 0 (MQ below (va_Qi (fun r (_ : Unit) => r = o) (pa_QB D A (wo_X10_byteAt cI cJ a_m a_mt a_ml a_mr a_mx a_mf a_mg a_mw a_mh v_m_thrown v_m_trace v_m_typed v_m_next v_m_token v_m_place v_m_value v_m_fault v_m_finds v_m_weeks v_m_rows v_m_cardPrice v_m_lotPrice v_m_sure v_m_up v_m_down v_mx)) A) args s 0 0 A) (F0 m 0 ls []) := by
  obtain ⟨hx, hb, hr, hml, hown, hts, hK, hA, hG, hlk⟩ := id X
  delta f_X10_byteAt at hf
  refine lv_iload_n hx hb dX10_byteAt_0 rfl (lv_at hl 1 rfl) ?_
  refine lv_aload_n hx hb dX10_byteAt_1 rfl (lv_at hl 0 rfl) ?_
  refine va_get (D := D) (ci := 9) (v := .int v_m_typed) (C := RX10) (T := TX10) (N := 24) hx hb hts il_X10_byteAt_X10 hown hK hP 0 rfl rfl 6 (by decide) (hts _ fk_X10_byteAt_0) (fun _ h9 => h9) rfl dX10_byteAt_2 ?_
  refine lv_icmp_ge (tgt := 17) hx hb dX10_byteAt_5 (by decide) (fun c_1 => ?_) (fun c_1 => ?_)
  · have hf := (if_pos c_1).symm.trans hf
    refine lv_iconst (v := (-1 : Int32)) hx hb dX10_byteAt_17 (by decide) ?_
    obtain rfl := Option.some.inj hf
    exact pa_ei X hP hD hS dX10_byteAt_18
  · have hf := (if_neg c_1).symm.trans hf
    refine lv_aload_n hx hb dX10_byteAt_8 rfl (lv_at hl 0 rfl) ?_
    refine va_get (D := D) (ci := 9) (v := .ref a_mx) (C := RX10) (T := TX10) (N := 24) hx hb hts il_X10_byteAt_X10 hown hK hP 0 rfl rfl 5 (by decide) (hts _ fk_X10_byteAt_1) (fun _ h9 => h9) rfl dX10_byteAt_9 ?_
    refine lv_iload_n hx hb dX10_byteAt_12 rfl (lv_at hl 1 rfl) ?_
    obtain ⟨hi_2, hf⟩ := pa_gd hf
    refine va_iald hx hb hK hP 1 0 rfl rfl hi_2 dX10_byteAt_13 ?_
    refine lv_goto (tgt := 18) hx hb dX10_byteAt_14 (by decide) ?_
    obtain rfl := Option.some.inj hf
    exact pa_ei X hP hD hS dX10_byteAt_18
set_option maxHeartbeats 4000000 in
set_option maxRecDepth 100000 in
theorem c_X10_byteAt {l : Launch} {D : va_G} {cI cJ : ClassId} {g : pa_GT} {a_m a_mt a_ml a_mr a_mx a_mf a_mg a_mw a_mh : Nat} {x1 : Int32} {v_m_thrown : Int32} {v_m_trace : Int64} {v_m_typed : Int32} {v_m_next : Int32} {v_m_token : Int32} {v_m_place : Int32} {v_m_value : Int32} {v_m_fault : Int32} {v_m_finds : Int32} {v_m_weeks : Int32} {v_m_rows : Int32} {v_m_cardPrice : Int32} {v_m_lotPrice : Int32} {v_m_sure : Int32} {v_m_up : Int64} {v_m_down : Int64} {v_mx : Nat → Int32} {o : Int32} (hf : f_X10_byteAt x1 v_m_typed v_mx = some o) : pa_Mi l yX10_byteAt wsX10_byteAt rm_X10_byteAt D cI cJ g [.ref a_m, .int x1] (wo_X10_byteAt cI cJ a_m a_mt a_ml a_mr a_mx a_mf a_mg a_mw a_mh v_m_thrown v_m_trace v_m_typed v_m_next v_m_token v_m_place v_m_value v_m_fault v_m_finds v_m_weeks v_m_rows v_m_cardPrice v_m_lotPrice v_m_sure v_m_up v_m_down v_mx) (wo_X10_byteAt cI cJ a_m a_mt a_ml a_mr a_mx a_mf a_mg a_mw a_mh v_m_thrown v_m_trace v_m_typed v_m_next v_m_token v_m_place v_m_value v_m_fault v_m_finds v_m_weeks v_m_rows v_m_cardPrice v_m_lotPrice v_m_sure v_m_up v_m_down v_mx) o := by
  intro sz
  refine pa_met (cc := cX10_byteAt) (maxL := 2) (ret := (some .int)) (lv := [(0, .ref a_m), (1, .int x1)]) (by decide) rfl (Nat.le_of_ble_eq_true rfl) rfl ?_
  intro p e s m below meth c X hsz hP hD ls hl
  subst hsz
  exact w_X10_byteAt_b0 X hf hP hD va_S.rf hl
abbrev rm_X10_lets : Room := { frames := 0, cells := 0, slots := 0, locals := 0 }
def f_X10_lets (x0 : Int32) (x1 : Int32) : Option (Int32) :=
  if x1 = (120 : Int32) then
    some ((255 : Int32))
  else
    if x0 = 0 then
      if x1 = (114 : Int32) then
        some ((204 : Int32))
      else
        if x1 = (112 : Int32) then
          some ((51 : Int32))
        else
          some ((-1 : Int32))
    else
      if x0 = (1 : Int32) then
        if x1 = (108 : Int32) then
          some ((240 : Int32))
        else
          if x1 = (117 : Int32) then
            some ((15 : Int32))
          else
            some ((-1 : Int32))
      else
        if x1 = (121 : Int32) then
          some ((170 : Int32))
        else
          if x1 = (110 : Int32) then
            some ((85 : Int32))
          else
            some ((-1 : Int32))
set_option maxHeartbeats 4000000 in
set_option maxRecDepth 100000 in
theorem w_X10_lets_b0 {l : Launch} {D : va_G} {cI cJ : ClassId} {g : pa_GT} {A : Nat → Prop} {p : Program} {e : Env} {s : State} {m : MethodId} {args : Array Value} {below : List Frame} {meth : Method} {c : Code} {x0 : Int32} {x1 : Int32}  {o : Int32} (X : pa_X cX10_lets 2 (some .int) RX10 wsX10_lets D cI cJ g A p s m args meth c)  (hf : f_X10_lets x0 x1 = some o) {H : Heap} {locs : List Loc} (hP : va_P D vwCl ([] : va_W) H) (hD : va_D A ([] : va_W)) (hS : va_S A s.heap H locs) {ls : Array Slot} (hl : lv_has ls 2 [(0, .int x0), (1, .int x1)]) : W p l e (headSpec wsX10_lets rm_X10_lets).room s m args below meth c H locs 0 0 (MQ below (va_Qi (fun r (_ : Unit) => r = o) (pa_QB D A ([] : va_W)) A) args s 0 0 A) (F0 m 0 ls []) := by
  obtain ⟨hx, hb, hr, hml, hown, hts, hK, hA, hG, hlk⟩ := id X
  delta f_X10_lets at hf
  refine lv_iload_n hx hb dX10_lets_0 rfl (lv_at hl 1 rfl) ?_
  refine lv_bipush (v := (120 : Int32)) hx hb dX10_lets_1 (by decide) ?_
  refine lv_icmp_ne (tgt := 10) hx hb dX10_lets_3 (by decide) (fun c_1 => ?_) (fun c_1 => ?_)
  · have hf := (if_neg c_1).symm.trans hf
    refine lv_iload_n hx hb dX10_lets_10 rfl (lv_at hl 0 rfl) ?_
    refine lv_if_ne (tgt := 39) hx hb dX10_lets_11 (by decide) (fun c_2 => ?_) (fun c_2 => ?_)
    · have hf := (if_neg c_2).symm.trans hf
      refine lv_iload_n hx hb dX10_lets_39 rfl (lv_at hl 0 rfl) ?_
      refine lv_iconst (v := (1 : Int32)) hx hb dX10_lets_40 (by decide) ?_
      refine lv_icmp_ne (tgt := 69) hx hb dX10_lets_41 (by decide) (fun c_3 => ?_) (fun c_3 => ?_)
      · have hf := (if_neg c_3).symm.trans hf
        refine lv_iload_n hx hb dX10_lets_69 rfl (lv_at hl 1 rfl) ?_
        refine lv_bipush (v := (121 : Int32)) hx hb dX10_lets_70 (by decide) ?_
        refine lv_icmp_ne (tgt := 81) hx hb dX10_lets_72 (by decide) (fun c_4 => ?_) (fun c_4 => ?_)
        · have hf := (if_neg c_4).symm.trans hf
          refine lv_iload_n hx hb dX10_lets_81 rfl (lv_at hl 1 rfl) ?_
          refine lv_bipush (v := (110 : Int32)) hx hb dX10_lets_82 (by decide) ?_
          refine lv_icmp_ne (tgt := 92) hx hb dX10_lets_84 (by decide) (fun c_5 => ?_) (fun c_5 => ?_)
          · have hf := (if_neg c_5).symm.trans hf
            refine lv_iconst (v := (-1 : Int32)) hx hb dX10_lets_92 (by decide) ?_
            obtain rfl := Option.some.inj hf
            exact pa_ei X hP hD hS dX10_lets_93
          · have hf := (if_pos c_5).symm.trans hf
            refine lv_bipush (v := (85 : Int32)) hx hb dX10_lets_87 (by decide) ?_
            refine lv_goto (tgt := 93) hx hb dX10_lets_89 (by decide) ?_
            obtain rfl := Option.some.inj hf
            exact pa_ei X hP hD hS dX10_lets_93
        · have hf := (if_pos c_4).symm.trans hf
          refine lv_sipush (v := (170 : Int32)) hx hb dX10_lets_75 (by decide) ?_
          refine lv_goto (tgt := 93) hx hb dX10_lets_78 (by decide) ?_
          obtain rfl := Option.some.inj hf
          exact pa_ei X hP hD hS dX10_lets_93
      · have hf := (if_pos c_3).symm.trans hf
        refine lv_iload_n hx hb dX10_lets_44 rfl (lv_at hl 1 rfl) ?_
        refine lv_bipush (v := (108 : Int32)) hx hb dX10_lets_45 (by decide) ?_
        refine lv_icmp_ne (tgt := 56) hx hb dX10_lets_47 (by decide) (fun c_6 => ?_) (fun c_6 => ?_)
        · have hf := (if_neg c_6).symm.trans hf
          refine lv_iload_n hx hb dX10_lets_56 rfl (lv_at hl 1 rfl) ?_
          refine lv_bipush (v := (117 : Int32)) hx hb dX10_lets_57 (by decide) ?_
          refine lv_icmp_ne (tgt := 67) hx hb dX10_lets_59 (by decide) (fun c_7 => ?_) (fun c_7 => ?_)
          · have hf := (if_neg c_7).symm.trans hf
            refine lv_iconst (v := (-1 : Int32)) hx hb dX10_lets_67 (by decide) ?_
            obtain rfl := Option.some.inj hf
            exact pa_ei X hP hD hS dX10_lets_68
          · have hf := (if_pos c_7).symm.trans hf
            refine lv_bipush (v := (15 : Int32)) hx hb dX10_lets_62 (by decide) ?_
            refine lv_goto (tgt := 68) hx hb dX10_lets_64 (by decide) ?_
            obtain rfl := Option.some.inj hf
            exact pa_ei X hP hD hS dX10_lets_68
        · have hf := (if_pos c_6).symm.trans hf
          refine lv_sipush (v := (240 : Int32)) hx hb dX10_lets_50 (by decide) ?_
          refine lv_goto (tgt := 68) hx hb dX10_lets_53 (by decide) ?_
          obtain rfl := Option.some.inj hf
          exact pa_ei X hP hD hS dX10_lets_68
    · have hf := (if_pos c_2).symm.trans hf
      refine lv_iload_n hx hb dX10_lets_14 rfl (lv_at hl 1 rfl) ?_
      refine lv_bipush (v := (114 : Int32)) hx hb dX10_lets_15 (by decide) ?_
      refine lv_icmp_ne (tgt := 26) hx hb dX10_lets_17 (by decide) (fun c_8 => ?_) (fun c_8 => ?_)
      · have hf := (if_neg c_8).symm.trans hf
        refine lv_iload_n hx hb dX10_lets_26 rfl (lv_at hl 1 rfl) ?_
        refine lv_bipush (v := (112 : Int32)) hx hb dX10_lets_27 (by decide) ?_
        refine lv_icmp_ne (tgt := 37) hx hb dX10_lets_29 (by decide) (fun c_9 => ?_) (fun c_9 => ?_)
        · have hf := (if_neg c_9).symm.trans hf
          refine lv_iconst (v := (-1 : Int32)) hx hb dX10_lets_37 (by decide) ?_
          obtain rfl := Option.some.inj hf
          exact pa_ei X hP hD hS dX10_lets_38
        · have hf := (if_pos c_9).symm.trans hf
          refine lv_bipush (v := (51 : Int32)) hx hb dX10_lets_32 (by decide) ?_
          refine lv_goto (tgt := 38) hx hb dX10_lets_34 (by decide) ?_
          obtain rfl := Option.some.inj hf
          exact pa_ei X hP hD hS dX10_lets_38
      · have hf := (if_pos c_8).symm.trans hf
        refine lv_sipush (v := (204 : Int32)) hx hb dX10_lets_20 (by decide) ?_
        refine lv_goto (tgt := 38) hx hb dX10_lets_23 (by decide) ?_
        obtain rfl := Option.some.inj hf
        exact pa_ei X hP hD hS dX10_lets_38
  · have hf := (if_pos c_1).symm.trans hf
    refine lv_sipush (v := (255 : Int32)) hx hb dX10_lets_6 (by decide) ?_
    obtain rfl := Option.some.inj hf
    exact pa_ei X hP hD hS dX10_lets_9
set_option maxHeartbeats 4000000 in
set_option maxRecDepth 100000 in
theorem c_X10_lets {l : Launch} {D : va_G} {cI cJ : ClassId} {g : pa_GT} {x0 : Int32} {x1 : Int32}  {o : Int32} (hf : f_X10_lets x0 x1 = some o) : pa_Mi l yX10_lets wsX10_lets rm_X10_lets D cI cJ g [.int x0, .int x1] ([] : va_W) ([] : va_W) o := by
  intro sz
  refine pa_met (cc := cX10_lets) (maxL := 2) (ret := (some .int)) (lv := [(0, .int x0), (1, .int x1)]) (by decide) rfl (Nat.le_of_ble_eq_true rfl) rfl ?_
  intro p e s m below meth c X hsz hP hD ls hl
  subst hsz
  exact w_X10_lets_b0 X hf hP hD va_S.rf hl
abbrev wo_X10_words (cI cJ : ClassId) (a_m a_mt a_ml a_mr a_mx a_mf a_mg a_mw a_mh : Nat) (v_m_thrown : Int32) (v_m_trace : Int64) (v_m_typed : Int32) (v_m_next : Int32) (v_m_token : Int32) (v_m_place : Int32) (v_m_value : Int32) (v_m_fault : Int32) (v_m_finds : Int32) (v_m_weeks : Int32) (v_m_rows : Int32) (v_m_cardPrice : Int32) (v_m_lotPrice : Int32) (v_m_sure : Int32) (v_m_up : Int64) (v_m_down : Int64) (v_mx : Nat → Int32) : va_W := [(a_m, .inr (9, [.int v_m_thrown, .long v_m_trace, .ref a_mt, .ref a_ml, .ref a_mr, .ref a_mx, .int v_m_typed, .int v_m_next, .int v_m_token, .int v_m_place, .int v_m_value, .int v_m_fault, .int v_m_finds, .ref a_mf, .ref a_mg, .int v_m_weeks, .ref a_mw, .int v_m_rows, .ref a_mh, .int v_m_cardPrice, .int v_m_lotPrice, .int v_m_sure, .long v_m_up, .long v_m_down])), (a_mx, .inl (cI, 300, .inl v_mx))]
abbrev rm_X10_words : Room := { frames := 1, cells := 0, slots := 0, locals := 21 }
theorem il_X10_words_X10 : ∀ w ∈ wsX100, w ∈ wsX10_words := by decide +kernel
theorem fk_X10_words_0 : Cond.fieldLink RX10 95 "PostedAsksModel" "token" "I" ∈ wsX10_words := by decide +kernel
theorem fk_X10_words_1 : Cond.fieldLink RX10 101 "PostedAsksModel" "value" "I" ∈ wsX10_words := by decide +kernel
theorem fk_X10_words_2 : Cond.fieldLink RX10 20 "PostedAsksModel" "text" "[I" ∈ wsX10_words := by decide +kernel
theorem fk_X10_words_3 : Cond.fieldLink RX10 88 "PostedAsksModel" "place" "I" ∈ wsX10_words := by decide +kernel
def f_X10_words_b162 (x2 : Int32) (x3 : Int32) (x4 : Int32) (x5 : Int32) (s1 : Int32) : Option (Int32 × Int32) :=
  if x5 = 0 then
    some (s1, (0 : Int32))
  else
    (f_X10_lets (0 : Int32) x2).bind fun u_2 =>
    (f_X10_lets (1 : Int32) x3).bind fun u_4 =>
    (f_X10_lets (2 : Int32) x4).bind fun u_6 =>
    some (s1, ((u_2 &&& u_4) &&& u_6))
def f_X10_words_b148 (x2 : Int32) (x3 : Int32) (x4 : Int32) (s0 : Int32) : Option (Int32 × Int32) :=
  if s0 = 0 then
    f_X10_words_b162 x2 x3 x4 s0 (6 : Int32)
  else
    f_X10_words_b162 x2 x3 x4 s0 (3 : Int32)
def f_X10_words_b147 (x2 : Int32) (x3 : Int32) (x4 : Int32) : Option (Int32 × Int32) :=
  f_X10_words_b148 x2 x3 x4 (0 : Int32)
def f_X10_words_b113 (x1 : Int32) (x2 : Int32) (x3 : Int32) (x4 : Int32) : Option (Int32 × Int32) :=
  if x1 = (3 : Int32) then
    (f_X10_lets (0 : Int32) x2).bind fun u_10 =>
    if u_10 < 0 then
      f_X10_words_b147 x2 x3 x4
    else
      (f_X10_lets (1 : Int32) x3).bind fun u_13 =>
      if u_13 < 0 then
        f_X10_words_b147 x2 x3 x4
      else
        (f_X10_lets (2 : Int32) x4).bind fun u_16 =>
        if u_16 < 0 then
          f_X10_words_b147 x2 x3 x4
        else
          f_X10_words_b148 x2 x3 x4 (1 : Int32)
  else
    f_X10_words_b147 x2 x3 x4
def f_X10_words_b81 (x1 : Int32) (x2 : Int32) (x3 : Int32) (x4 : Int32) (v_m_value : Int32) : Option (Int32 × Int32) :=
  if x1 = (3 : Int32) then
    if x2 = (97 : Int32) then
      if x3 = (108 : Int32) then
        if x4 = (108 : Int32) then
          some ((2 : Int32), v_m_value)
        else
          f_X10_words_b113 x1 x2 x3 x4
      else
        f_X10_words_b113 x1 x2 x3 x4
    else
      f_X10_words_b113 x1 x2 x3 x4
  else
    f_X10_words_b113 x1 x2 x3 x4
def f_X10_words (x1 : Int32) (v_m_typed : Int32) (v_m_place : Int32) (v_m_value : Int32) (v_mx : Nat → Int32) : Option (Int32 × Int32) :=
  if pa_ib v_m_place 300 = true then
    (f_X10_byteAt (v_m_place + (1 : Int32)) v_m_typed v_mx).bind fun u_24 =>
    (f_X10_byteAt (v_m_place + (2 : Int32)) v_m_typed v_mx).bind fun u_26 =>
    if x1 = (4 : Int32) then
      if (v_mx (Int32.toNatClampNeg v_m_place)) = (102 : Int32) then
        if u_24 = (105 : Int32) then
          if u_26 = (110 : Int32) then
            if pa_ib (v_m_place + (3 : Int32)) 300 = true then
              if (v_mx (Int32.toNatClampNeg (v_m_place + (3 : Int32)))) = (100 : Int32) then
                some ((1 : Int32), v_m_value)
              else
                f_X10_words_b81 x1 (v_mx (Int32.toNatClampNeg v_m_place)) u_24 u_26 v_m_value
            else none
          else
            f_X10_words_b81 x1 (v_mx (Int32.toNatClampNeg v_m_place)) u_24 u_26 v_m_value
        else
          f_X10_words_b81 x1 (v_mx (Int32.toNatClampNeg v_m_place)) u_24 u_26 v_m_value
      else
        f_X10_words_b81 x1 (v_mx (Int32.toNatClampNeg v_m_place)) u_24 u_26 v_m_value
    else
      f_X10_words_b81 x1 (v_mx (Int32.toNatClampNeg v_m_place)) u_24 u_26 v_m_value
  else none
set_option maxHeartbeats 4000000 in
set_option maxRecDepth 100000 in
theorem w_X10_words_b162 {l : Launch} {D : va_G} {cI cJ : ClassId} {g : pa_GT} {a_m a_mt a_ml a_mr a_mx a_mf a_mg a_mw a_mh : Nat} {A : Nat → Prop} {p : Program} {e : Env} {s : State} {m : MethodId} {args : Array Value} {below : List Frame} {meth : Method} {c : Code} {x2 : Int32} {x3 : Int32} {x4 : Int32} {x5 : Int32} {s1 : Int32} {v_m_thrown : Int32} {v_m_trace : Int64} {v_m_typed : Int32} {v_m_next : Int32} {v_m_token : Int32} {v_m_place : Int32} {v_m_value : Int32} {v_m_fault : Int32} {v_m_finds : Int32} {v_m_weeks : Int32} {v_m_rows : Int32} {v_m_cardPrice : Int32} {v_m_lotPrice : Int32} {v_m_sure : Int32} {v_m_up : Int64} {v_m_down : Int64} {v_mx : Nat → Int32} {o : Int32 × Int32} (X : pa_X cX10_words 6 none RX10 wsX10_words D cI cJ g A p s m args meth c)  (hf : f_X10_words_b162 x2 x3 x4 x5 s1 = some o) {H : Heap} {locs : List Loc} (hP : va_P D vwCl (wo_X10_words cI cJ a_m a_mt a_ml a_mr a_mx a_mf a_mg a_mw a_mh v_m_thrown v_m_trace v_m_typed v_m_next v_m_token v_m_place v_m_value v_m_fault v_m_finds v_m_weeks v_m_rows v_m_cardPrice v_m_lotPrice v_m_sure v_m_up v_m_down v_mx) H) (hD : va_D A (wo_X10_words cI cJ a_m a_mt a_ml a_mr a_mx a_mf a_mg a_mw a_mh v_m_thrown v_m_trace v_m_typed v_m_next v_m_token v_m_place v_m_value v_m_fault v_m_finds v_m_weeks v_m_rows v_m_cardPrice v_m_lotPrice v_m_sure v_m_up v_m_down v_mx)) (hS : va_S A s.heap H locs) {ls : Array Slot} (hl : lv_has ls 6 [(0, .ref a_m), (2, .int x2), (3, .int x3), (4, .int x4), (5, .int x5)]) : W p l e (headSpec wsX10_words rm_X10_words).room s m args below meth c H locs 0 0 (MQ below (va_Qv (fun (_ : Unit) => True) (pa_QB D A (wo_X10_words cI cJ a_m a_mt a_ml a_mr a_mx a_mf a_mg a_mw a_mh v_m_thrown v_m_trace v_m_typed v_m_next o.1 v_m_place o.2 v_m_fault v_m_finds v_m_weeks v_m_rows v_m_cardPrice v_m_lotPrice v_m_sure v_m_up v_m_down v_mx)) A) args s 0 0 A) (F0 m 162 ls [.int s1, .ref a_m]) := by
  obtain ⟨hx, hb, hr, hml, hown, hts, hK, hA, hG, hlk⟩ := id X
  delta f_X10_words_b162 at hf
  refine va_put (D := D) (ci := 9) (v := .int s1) (ty := .int) (C := RX10) (T := TX10) (N := 24) hx hb hts il_X10_words_X10 tyX10 tyX10_ok nmX10 hown hK hP hD hS 0 rfl rfl 8 (by decide) (hts _ fk_X10_words_0) (fun _ h9 => h9) rfl (tyX10_ok 8 (by decide)) rfl rfl (Nat.le_of_ble_eq_true rfl) dX10_words_162 (fun H locs hP hD hS => ?_)
  have hP : va_P D vwCl (wo_X10_words cI cJ a_m a_mt a_ml a_mr a_mx a_mf a_mg a_mw a_mh v_m_thrown v_m_trace v_m_typed v_m_next s1 v_m_place v_m_value v_m_fault v_m_finds v_m_weeks v_m_rows v_m_cardPrice v_m_lotPrice v_m_sure v_m_up v_m_down v_mx) H := hP
  have hD : va_D A (wo_X10_words cI cJ a_m a_mt a_ml a_mr a_mx a_mf a_mg a_mw a_mh v_m_thrown v_m_trace v_m_typed v_m_next s1 v_m_place v_m_value v_m_fault v_m_finds v_m_weeks v_m_rows v_m_cardPrice v_m_lotPrice v_m_sure v_m_up v_m_down v_mx) := hD
  refine lv_aload_n hx hb dX10_words_165 rfl (lv_at hl 0 rfl) ?_
  refine lv_iload hx hb dX10_words_166 (lv_at hl 4 rfl) ?_
  refine lv_if_eq (tgt := 192) hx hb dX10_words_168 (by decide) (fun c_1 => ?_) (fun c_1 => ?_)
  · have hf := (if_pos c_1).symm.trans hf
    refine lv_iconst (v := (0 : Int32)) hx hb dX10_words_192 (by decide) ?_
    refine va_put (D := D) (ci := 9) (v := .int (0 : Int32)) (ty := .int) (C := RX10) (T := TX10) (N := 24) hx hb hts il_X10_words_X10 tyX10 tyX10_ok nmX10 hown hK hP hD hS 0 rfl rfl 10 (by decide) (hts _ fk_X10_words_1) (fun _ h9 => h9) rfl (tyX10_ok 10 (by decide)) rfl rfl (Nat.le_of_ble_eq_true rfl) dX10_words_193 (fun H locs hP hD hS => ?_)
    have hP : va_P D vwCl (wo_X10_words cI cJ a_m a_mt a_ml a_mr a_mx a_mf a_mg a_mw a_mh v_m_thrown v_m_trace v_m_typed v_m_next s1 v_m_place (0 : Int32) v_m_fault v_m_finds v_m_weeks v_m_rows v_m_cardPrice v_m_lotPrice v_m_sure v_m_up v_m_down v_mx) H := hP
    have hD : va_D A (wo_X10_words cI cJ a_m a_mt a_ml a_mr a_mx a_mf a_mg a_mw a_mh v_m_thrown v_m_trace v_m_typed v_m_next s1 v_m_place (0 : Int32) v_m_fault v_m_finds v_m_weeks v_m_rows v_m_cardPrice v_m_lotPrice v_m_sure v_m_up v_m_down v_mx) := hD
    obtain rfl := Option.some.inj hf
    exact pa_ev X hP hD hS dX10_words_196
  · have hf := (if_neg c_1).symm.trans hf
    refine lv_iconst (v := (0 : Int32)) hx hb dX10_words_171 (by decide) ?_
    refine lv_iload_n hx hb dX10_words_172 rfl (lv_at hl 1 rfl) ?_
    obtain ⟨u_2, hg_3, hf⟩ := pa_bd hf
    refine pa_ki (wc := ([] : va_W)) (wr := [(a_m, .inr (9, [.int v_m_thrown, .long v_m_trace, .ref a_mt, .ref a_ml, .ref a_mr, .ref a_mx, .int v_m_typed, .int v_m_next, .int s1, .int v_m_place, .int v_m_value, .int v_m_fault, .int v_m_finds, .ref a_mf, .ref a_mg, .int v_m_weeks, .ref a_mw, .int v_m_rows, .ref a_mh, .int v_m_cardPrice, .int v_m_lotPrice, .int v_m_sure, .long v_m_up, .long v_m_down])), (a_mx, .inl (cI, 300, .inl v_mx))]) (w1 := ([] : va_W)) (w2 := (wo_X10_words cI cJ a_m a_mt a_ml a_mr a_mx a_mf a_mg a_mw a_mh v_m_thrown v_m_trace v_m_typed v_m_next s1 v_m_place v_m_value v_m_fault v_m_finds v_m_weeks v_m_rows v_m_cardPrice v_m_lotPrice v_m_sure v_m_up v_m_down v_mx)) X hP hD hS [] [0, 1] [0, 1] rfl (pa_rS (As := [.int (0 : Int32), .int x2]) (rest := [.ref a_m]) X hP hD hS [] rfl rfl (c_X10_lets hg_3 H.size) (va_cwS 2 hts gX10_words_X10_lets rfl rfl rfl (by decide +kernel) ⟨Nat.le_of_ble_eq_true rfl, Nat.le_of_ble_eq_true rfl⟩) rfl hl.1 rfl (Nat.le_of_ble_eq_true rfl) dX10_words_173 ⟨Nat.zero_le _, Nat.zero_le _⟩) rfl rfl (by decide) rfl rfl (fun H locs hP hD hS => ?_)
    refine lv_iconst (v := (1 : Int32)) hx hb dX10_words_176 (by decide) ?_
    refine lv_iload_n hx hb dX10_words_177 rfl (lv_at hl 2 rfl) ?_
    obtain ⟨u_4, hg_5, hf⟩ := pa_bd hf
    refine pa_ki (wc := ([] : va_W)) (wr := [(a_m, .inr (9, [.int v_m_thrown, .long v_m_trace, .ref a_mt, .ref a_ml, .ref a_mr, .ref a_mx, .int v_m_typed, .int v_m_next, .int s1, .int v_m_place, .int v_m_value, .int v_m_fault, .int v_m_finds, .ref a_mf, .ref a_mg, .int v_m_weeks, .ref a_mw, .int v_m_rows, .ref a_mh, .int v_m_cardPrice, .int v_m_lotPrice, .int v_m_sure, .long v_m_up, .long v_m_down])), (a_mx, .inl (cI, 300, .inl v_mx))]) (w1 := ([] : va_W)) (w2 := (wo_X10_words cI cJ a_m a_mt a_ml a_mr a_mx a_mf a_mg a_mw a_mh v_m_thrown v_m_trace v_m_typed v_m_next s1 v_m_place v_m_value v_m_fault v_m_finds v_m_weeks v_m_rows v_m_cardPrice v_m_lotPrice v_m_sure v_m_up v_m_down v_mx)) X hP hD hS [] [0, 1] [0, 1] rfl (pa_rS (As := [.int (1 : Int32), .int x3]) (rest := [.int u_2, .ref a_m]) X hP hD hS [] rfl rfl (c_X10_lets hg_5 H.size) (va_cwS 2 hts gX10_words_X10_lets rfl rfl rfl (by decide +kernel) ⟨Nat.le_of_ble_eq_true rfl, Nat.le_of_ble_eq_true rfl⟩) rfl hl.1 rfl (Nat.le_of_ble_eq_true rfl) dX10_words_178 ⟨Nat.zero_le _, Nat.zero_le _⟩) rfl rfl (by decide) rfl rfl (fun H locs hP hD hS => ?_)
    refine lv_iand hx hb dX10_words_181 ?_
    refine lv_iconst (v := (2 : Int32)) hx hb dX10_words_182 (by decide) ?_
    refine lv_iload hx hb dX10_words_183 (lv_at hl 3 rfl) ?_
    obtain ⟨u_6, hg_7, hf⟩ := pa_bd hf
    refine pa_ki (wc := ([] : va_W)) (wr := [(a_m, .inr (9, [.int v_m_thrown, .long v_m_trace, .ref a_mt, .ref a_ml, .ref a_mr, .ref a_mx, .int v_m_typed, .int v_m_next, .int s1, .int v_m_place, .int v_m_value, .int v_m_fault, .int v_m_finds, .ref a_mf, .ref a_mg, .int v_m_weeks, .ref a_mw, .int v_m_rows, .ref a_mh, .int v_m_cardPrice, .int v_m_lotPrice, .int v_m_sure, .long v_m_up, .long v_m_down])), (a_mx, .inl (cI, 300, .inl v_mx))]) (w1 := ([] : va_W)) (w2 := (wo_X10_words cI cJ a_m a_mt a_ml a_mr a_mx a_mf a_mg a_mw a_mh v_m_thrown v_m_trace v_m_typed v_m_next s1 v_m_place v_m_value v_m_fault v_m_finds v_m_weeks v_m_rows v_m_cardPrice v_m_lotPrice v_m_sure v_m_up v_m_down v_mx)) X hP hD hS [] [0, 1] [0, 1] rfl (pa_rS (As := [.int (2 : Int32), .int x4]) (rest := [.int (u_2 &&& u_4), .ref a_m]) X hP hD hS [] rfl rfl (c_X10_lets hg_7 H.size) (va_cwS 2 hts gX10_words_X10_lets rfl rfl rfl (by decide +kernel) ⟨Nat.le_of_ble_eq_true rfl, Nat.le_of_ble_eq_true rfl⟩) rfl hl.1 rfl (Nat.le_of_ble_eq_true rfl) dX10_words_185 ⟨Nat.zero_le _, Nat.zero_le _⟩) rfl rfl (by decide) rfl rfl (fun H locs hP hD hS => ?_)
    refine lv_iand hx hb dX10_words_188 ?_
    refine lv_goto (tgt := 193) hx hb dX10_words_189 (by decide) ?_
    refine va_put (D := D) (ci := 9) (v := .int ((u_2 &&& u_4) &&& u_6)) (ty := .int) (C := RX10) (T := TX10) (N := 24) hx hb hts il_X10_words_X10 tyX10 tyX10_ok nmX10 hown hK hP hD hS 0 rfl rfl 10 (by decide) (hts _ fk_X10_words_1) (fun _ h9 => h9) rfl (tyX10_ok 10 (by decide)) rfl rfl (Nat.le_of_ble_eq_true rfl) dX10_words_193 (fun H locs hP hD hS => ?_)
    have hP : va_P D vwCl (wo_X10_words cI cJ a_m a_mt a_ml a_mr a_mx a_mf a_mg a_mw a_mh v_m_thrown v_m_trace v_m_typed v_m_next s1 v_m_place ((u_2 &&& u_4) &&& u_6) v_m_fault v_m_finds v_m_weeks v_m_rows v_m_cardPrice v_m_lotPrice v_m_sure v_m_up v_m_down v_mx) H := hP
    have hD : va_D A (wo_X10_words cI cJ a_m a_mt a_ml a_mr a_mx a_mf a_mg a_mw a_mh v_m_thrown v_m_trace v_m_typed v_m_next s1 v_m_place ((u_2 &&& u_4) &&& u_6) v_m_fault v_m_finds v_m_weeks v_m_rows v_m_cardPrice v_m_lotPrice v_m_sure v_m_up v_m_down v_mx) := hD
    obtain rfl := Option.some.inj hf
    exact pa_ev X hP hD hS dX10_words_196
set_option maxHeartbeats 4000000 in
set_option maxRecDepth 100000 in
theorem w_X10_words_b148 {l : Launch} {D : va_G} {cI cJ : ClassId} {g : pa_GT} {a_m a_mt a_ml a_mr a_mx a_mf a_mg a_mw a_mh : Nat} {A : Nat → Prop} {p : Program} {e : Env} {s : State} {m : MethodId} {args : Array Value} {below : List Frame} {meth : Method} {c : Code} {x2 : Int32} {x3 : Int32} {x4 : Int32} {s0 : Int32} {v_m_thrown : Int32} {v_m_trace : Int64} {v_m_typed : Int32} {v_m_next : Int32} {v_m_token : Int32} {v_m_place : Int32} {v_m_value : Int32} {v_m_fault : Int32} {v_m_finds : Int32} {v_m_weeks : Int32} {v_m_rows : Int32} {v_m_cardPrice : Int32} {v_m_lotPrice : Int32} {v_m_sure : Int32} {v_m_up : Int64} {v_m_down : Int64} {v_mx : Nat → Int32} {o : Int32 × Int32} (X : pa_X cX10_words 6 none RX10 wsX10_words D cI cJ g A p s m args meth c)  (hf : f_X10_words_b148 x2 x3 x4 s0 = some o) {H : Heap} {locs : List Loc} (hP : va_P D vwCl (wo_X10_words cI cJ a_m a_mt a_ml a_mr a_mx a_mf a_mg a_mw a_mh v_m_thrown v_m_trace v_m_typed v_m_next v_m_token v_m_place v_m_value v_m_fault v_m_finds v_m_weeks v_m_rows v_m_cardPrice v_m_lotPrice v_m_sure v_m_up v_m_down v_mx) H) (hD : va_D A (wo_X10_words cI cJ a_m a_mt a_ml a_mr a_mx a_mf a_mg a_mw a_mh v_m_thrown v_m_trace v_m_typed v_m_next v_m_token v_m_place v_m_value v_m_fault v_m_finds v_m_weeks v_m_rows v_m_cardPrice v_m_lotPrice v_m_sure v_m_up v_m_down v_mx)) (hS : va_S A s.heap H locs) {ls : Array Slot} (hl : lv_has ls 6 [(0, .ref a_m), (2, .int x2), (3, .int x3), (4, .int x4)]) : W p l e (headSpec wsX10_words rm_X10_words).room s m args below meth c H locs 0 0 (MQ below (va_Qv (fun (_ : Unit) => True) (pa_QB D A (wo_X10_words cI cJ a_m a_mt a_ml a_mr a_mx a_mf a_mg a_mw a_mh v_m_thrown v_m_trace v_m_typed v_m_next o.1 v_m_place o.2 v_m_fault v_m_finds v_m_weeks v_m_rows v_m_cardPrice v_m_lotPrice v_m_sure v_m_up v_m_down v_mx)) A) args s 0 0 A) (F0 m 148 ls [.int s0]) := by
  obtain ⟨hx, hb, hr, hml, hown, hts, hK, hA, hG, hlk⟩ := id X
  delta f_X10_words_b148 at hf
  refine lv_istore (lv' := [(5, .int s0), (0, .ref a_m), (2, .int x2), (3, .int x3), (4, .int x4)]) hx hb dX10_words_148 hl (by decide) rfl (fun ls hl => ?_)
  refine lv_aload_n hx hb dX10_words_150 rfl (lv_at hl 1 rfl) ?_
  refine lv_iload hx hb dX10_words_151 (lv_at hl 0 rfl) ?_
  refine lv_if_eq (tgt := 160) hx hb dX10_words_153 (by decide) (fun c_8 => ?_) (fun c_8 => ?_)
  · have hf := (if_pos c_8).symm.trans hf
    refine lv_bipush (v := (6 : Int32)) hx hb dX10_words_160 (by decide) ?_
    exact w_X10_words_b162 X  hf hP hD hS (lv_sub hl [1, 2, 3, 4, 0] rfl)
  · have hf := (if_neg c_8).symm.trans hf
    refine lv_iconst (v := (3 : Int32)) hx hb dX10_words_156 (by decide) ?_
    refine lv_goto (tgt := 162) hx hb dX10_words_157 (by decide) ?_
    exact w_X10_words_b162 X  hf hP hD hS (lv_sub hl [1, 2, 3, 4, 0] rfl)
set_option maxHeartbeats 4000000 in
set_option maxRecDepth 100000 in
theorem w_X10_words_b147 {l : Launch} {D : va_G} {cI cJ : ClassId} {g : pa_GT} {a_m a_mt a_ml a_mr a_mx a_mf a_mg a_mw a_mh : Nat} {A : Nat → Prop} {p : Program} {e : Env} {s : State} {m : MethodId} {args : Array Value} {below : List Frame} {meth : Method} {c : Code} {x2 : Int32} {x3 : Int32} {x4 : Int32} {v_m_thrown : Int32} {v_m_trace : Int64} {v_m_typed : Int32} {v_m_next : Int32} {v_m_token : Int32} {v_m_place : Int32} {v_m_value : Int32} {v_m_fault : Int32} {v_m_finds : Int32} {v_m_weeks : Int32} {v_m_rows : Int32} {v_m_cardPrice : Int32} {v_m_lotPrice : Int32} {v_m_sure : Int32} {v_m_up : Int64} {v_m_down : Int64} {v_mx : Nat → Int32} {o : Int32 × Int32} (X : pa_X cX10_words 6 none RX10 wsX10_words D cI cJ g A p s m args meth c)  (hf : f_X10_words_b147 x2 x3 x4 = some o) {H : Heap} {locs : List Loc} (hP : va_P D vwCl (wo_X10_words cI cJ a_m a_mt a_ml a_mr a_mx a_mf a_mg a_mw a_mh v_m_thrown v_m_trace v_m_typed v_m_next v_m_token v_m_place v_m_value v_m_fault v_m_finds v_m_weeks v_m_rows v_m_cardPrice v_m_lotPrice v_m_sure v_m_up v_m_down v_mx) H) (hD : va_D A (wo_X10_words cI cJ a_m a_mt a_ml a_mr a_mx a_mf a_mg a_mw a_mh v_m_thrown v_m_trace v_m_typed v_m_next v_m_token v_m_place v_m_value v_m_fault v_m_finds v_m_weeks v_m_rows v_m_cardPrice v_m_lotPrice v_m_sure v_m_up v_m_down v_mx)) (hS : va_S A s.heap H locs) {ls : Array Slot} (hl : lv_has ls 6 [(0, .ref a_m), (2, .int x2), (3, .int x3), (4, .int x4)]) : W p l e (headSpec wsX10_words rm_X10_words).room s m args below meth c H locs 0 0 (MQ below (va_Qv (fun (_ : Unit) => True) (pa_QB D A (wo_X10_words cI cJ a_m a_mt a_ml a_mr a_mx a_mf a_mg a_mw a_mh v_m_thrown v_m_trace v_m_typed v_m_next o.1 v_m_place o.2 v_m_fault v_m_finds v_m_weeks v_m_rows v_m_cardPrice v_m_lotPrice v_m_sure v_m_up v_m_down v_mx)) A) args s 0 0 A) (F0 m 147 ls []) := by
  obtain ⟨hx, hb, hr, hml, hown, hts, hK, hA, hG, hlk⟩ := id X
  delta f_X10_words_b147 at hf
  refine lv_iconst (v := (0 : Int32)) hx hb dX10_words_147 (by decide) ?_
  exact w_X10_words_b148 X  hf hP hD hS (lv_sub hl [0, 1, 2, 3] rfl)
set_option maxHeartbeats 4000000 in
set_option maxRecDepth 100000 in
theorem w_X10_words_b113 {l : Launch} {D : va_G} {cI cJ : ClassId} {g : pa_GT} {a_m a_mt a_ml a_mr a_mx a_mf a_mg a_mw a_mh : Nat} {A : Nat → Prop} {p : Program} {e : Env} {s : State} {m : MethodId} {args : Array Value} {below : List Frame} {meth : Method} {c : Code} {x1 : Int32} {x2 : Int32} {x3 : Int32} {x4 : Int32} {v_m_thrown : Int32} {v_m_trace : Int64} {v_m_typed : Int32} {v_m_next : Int32} {v_m_token : Int32} {v_m_place : Int32} {v_m_value : Int32} {v_m_fault : Int32} {v_m_finds : Int32} {v_m_weeks : Int32} {v_m_rows : Int32} {v_m_cardPrice : Int32} {v_m_lotPrice : Int32} {v_m_sure : Int32} {v_m_up : Int64} {v_m_down : Int64} {v_mx : Nat → Int32} {o : Int32 × Int32} (X : pa_X cX10_words 6 none RX10 wsX10_words D cI cJ g A p s m args meth c)  (hf : f_X10_words_b113 x1 x2 x3 x4 = some o) {H : Heap} {locs : List Loc} (hP : va_P D vwCl (wo_X10_words cI cJ a_m a_mt a_ml a_mr a_mx a_mf a_mg a_mw a_mh v_m_thrown v_m_trace v_m_typed v_m_next v_m_token v_m_place v_m_value v_m_fault v_m_finds v_m_weeks v_m_rows v_m_cardPrice v_m_lotPrice v_m_sure v_m_up v_m_down v_mx) H) (hD : va_D A (wo_X10_words cI cJ a_m a_mt a_ml a_mr a_mx a_mf a_mg a_mw a_mh v_m_thrown v_m_trace v_m_typed v_m_next v_m_token v_m_place v_m_value v_m_fault v_m_finds v_m_weeks v_m_rows v_m_cardPrice v_m_lotPrice v_m_sure v_m_up v_m_down v_mx)) (hS : va_S A s.heap H locs) {ls : Array Slot} (hl : lv_has ls 6 [(0, .ref a_m), (1, .int x1), (2, .int x2), (3, .int x3), (4, .int x4)]) : W p l e (headSpec wsX10_words rm_X10_words).room s m args below meth c H locs 0 0 (MQ below (va_Qv (fun (_ : Unit) => True) (pa_QB D A (wo_X10_words cI cJ a_m a_mt a_ml a_mr a_mx a_mf a_mg a_mw a_mh v_m_thrown v_m_trace v_m_typed v_m_next o.1 v_m_place o.2 v_m_fault v_m_finds v_m_weeks v_m_rows v_m_cardPrice v_m_lotPrice v_m_sure v_m_up v_m_down v_mx)) A) args s 0 0 A) (F0 m 113 ls []) := by
  obtain ⟨hx, hb, hr, hml, hown, hts, hK, hA, hG, hlk⟩ := id X
  delta f_X10_words_b113 at hf
  refine lv_iload_n hx hb dX10_words_113 rfl (lv_at hl 1 rfl) ?_
  refine lv_iconst (v := (3 : Int32)) hx hb dX10_words_114 (by decide) ?_
  refine lv_icmp_ne (tgt := 147) hx hb dX10_words_115 (by decide) (fun c_9 => ?_) (fun c_9 => ?_)
  · have hf := (if_neg c_9).symm.trans hf
    exact w_X10_words_b147 X  hf hP hD hS (lv_sub hl [0, 2, 3, 4] rfl)
  · have hf := (if_pos c_9).symm.trans hf
    refine lv_iconst (v := (0 : Int32)) hx hb dX10_words_118 (by decide) ?_
    refine lv_iload_n hx hb dX10_words_119 rfl (lv_at hl 2 rfl) ?_
    obtain ⟨u_10, hg_11, hf⟩ := pa_bd hf
    refine pa_ki (wc := ([] : va_W)) (wr := [(a_m, .inr (9, [.int v_m_thrown, .long v_m_trace, .ref a_mt, .ref a_ml, .ref a_mr, .ref a_mx, .int v_m_typed, .int v_m_next, .int v_m_token, .int v_m_place, .int v_m_value, .int v_m_fault, .int v_m_finds, .ref a_mf, .ref a_mg, .int v_m_weeks, .ref a_mw, .int v_m_rows, .ref a_mh, .int v_m_cardPrice, .int v_m_lotPrice, .int v_m_sure, .long v_m_up, .long v_m_down])), (a_mx, .inl (cI, 300, .inl v_mx))]) (w1 := ([] : va_W)) (w2 := (wo_X10_words cI cJ a_m a_mt a_ml a_mr a_mx a_mf a_mg a_mw a_mh v_m_thrown v_m_trace v_m_typed v_m_next v_m_token v_m_place v_m_value v_m_fault v_m_finds v_m_weeks v_m_rows v_m_cardPrice v_m_lotPrice v_m_sure v_m_up v_m_down v_mx)) X hP hD hS [] [0, 1] [0, 1] rfl (pa_rS (As := [.int (0 : Int32), .int x2]) (rest := []) X hP hD hS [] rfl rfl (c_X10_lets hg_11 H.size) (va_cwS 2 hts gX10_words_X10_lets rfl rfl rfl (by decide +kernel) ⟨Nat.le_of_ble_eq_true rfl, Nat.le_of_ble_eq_true rfl⟩) rfl hl.1 rfl (Nat.le_of_ble_eq_true rfl) dX10_words_120 ⟨Nat.zero_le _, Nat.zero_le _⟩) rfl rfl (by decide) rfl rfl (fun H locs hP hD hS => ?_)
    refine lv_if_lt (tgt := 147) hx hb dX10_words_123 (by decide) (fun c_12 => ?_) (fun c_12 => ?_)
    · have hf := (if_pos c_12).symm.trans hf
      exact w_X10_words_b147 X  hf hP hD hS (lv_sub hl [0, 2, 3, 4] rfl)
    · have hf := (if_neg c_12).symm.trans hf
      refine lv_iconst (v := (1 : Int32)) hx hb dX10_words_126 (by decide) ?_
      refine lv_iload_n hx hb dX10_words_127 rfl (lv_at hl 3 rfl) ?_
      obtain ⟨u_13, hg_14, hf⟩ := pa_bd hf
      refine pa_ki (wc := ([] : va_W)) (wr := [(a_m, .inr (9, [.int v_m_thrown, .long v_m_trace, .ref a_mt, .ref a_ml, .ref a_mr, .ref a_mx, .int v_m_typed, .int v_m_next, .int v_m_token, .int v_m_place, .int v_m_value, .int v_m_fault, .int v_m_finds, .ref a_mf, .ref a_mg, .int v_m_weeks, .ref a_mw, .int v_m_rows, .ref a_mh, .int v_m_cardPrice, .int v_m_lotPrice, .int v_m_sure, .long v_m_up, .long v_m_down])), (a_mx, .inl (cI, 300, .inl v_mx))]) (w1 := ([] : va_W)) (w2 := (wo_X10_words cI cJ a_m a_mt a_ml a_mr a_mx a_mf a_mg a_mw a_mh v_m_thrown v_m_trace v_m_typed v_m_next v_m_token v_m_place v_m_value v_m_fault v_m_finds v_m_weeks v_m_rows v_m_cardPrice v_m_lotPrice v_m_sure v_m_up v_m_down v_mx)) X hP hD hS [] [0, 1] [0, 1] rfl (pa_rS (As := [.int (1 : Int32), .int x3]) (rest := []) X hP hD hS [] rfl rfl (c_X10_lets hg_14 H.size) (va_cwS 2 hts gX10_words_X10_lets rfl rfl rfl (by decide +kernel) ⟨Nat.le_of_ble_eq_true rfl, Nat.le_of_ble_eq_true rfl⟩) rfl hl.1 rfl (Nat.le_of_ble_eq_true rfl) dX10_words_128 ⟨Nat.zero_le _, Nat.zero_le _⟩) rfl rfl (by decide) rfl rfl (fun H locs hP hD hS => ?_)
      refine lv_if_lt (tgt := 147) hx hb dX10_words_131 (by decide) (fun c_15 => ?_) (fun c_15 => ?_)
      · have hf := (if_pos c_15).symm.trans hf
        exact w_X10_words_b147 X  hf hP hD hS (lv_sub hl [0, 2, 3, 4] rfl)
      · have hf := (if_neg c_15).symm.trans hf
        refine lv_iconst (v := (2 : Int32)) hx hb dX10_words_134 (by decide) ?_
        refine lv_iload hx hb dX10_words_135 (lv_at hl 4 rfl) ?_
        obtain ⟨u_16, hg_17, hf⟩ := pa_bd hf
        refine pa_ki (wc := ([] : va_W)) (wr := [(a_m, .inr (9, [.int v_m_thrown, .long v_m_trace, .ref a_mt, .ref a_ml, .ref a_mr, .ref a_mx, .int v_m_typed, .int v_m_next, .int v_m_token, .int v_m_place, .int v_m_value, .int v_m_fault, .int v_m_finds, .ref a_mf, .ref a_mg, .int v_m_weeks, .ref a_mw, .int v_m_rows, .ref a_mh, .int v_m_cardPrice, .int v_m_lotPrice, .int v_m_sure, .long v_m_up, .long v_m_down])), (a_mx, .inl (cI, 300, .inl v_mx))]) (w1 := ([] : va_W)) (w2 := (wo_X10_words cI cJ a_m a_mt a_ml a_mr a_mx a_mf a_mg a_mw a_mh v_m_thrown v_m_trace v_m_typed v_m_next v_m_token v_m_place v_m_value v_m_fault v_m_finds v_m_weeks v_m_rows v_m_cardPrice v_m_lotPrice v_m_sure v_m_up v_m_down v_mx)) X hP hD hS [] [0, 1] [0, 1] rfl (pa_rS (As := [.int (2 : Int32), .int x4]) (rest := []) X hP hD hS [] rfl rfl (c_X10_lets hg_17 H.size) (va_cwS 2 hts gX10_words_X10_lets rfl rfl rfl (by decide +kernel) ⟨Nat.le_of_ble_eq_true rfl, Nat.le_of_ble_eq_true rfl⟩) rfl hl.1 rfl (Nat.le_of_ble_eq_true rfl) dX10_words_137 ⟨Nat.zero_le _, Nat.zero_le _⟩) rfl rfl (by decide) rfl rfl (fun H locs hP hD hS => ?_)
        refine lv_if_lt (tgt := 147) hx hb dX10_words_140 (by decide) (fun c_18 => ?_) (fun c_18 => ?_)
        · have hf := (if_pos c_18).symm.trans hf
          exact w_X10_words_b147 X  hf hP hD hS (lv_sub hl [0, 2, 3, 4] rfl)
        · have hf := (if_neg c_18).symm.trans hf
          refine lv_iconst (v := (1 : Int32)) hx hb dX10_words_143 (by decide) ?_
          refine lv_goto (tgt := 148) hx hb dX10_words_144 (by decide) ?_
          exact w_X10_words_b148 X  hf hP hD hS (lv_sub hl [0, 2, 3, 4] rfl)
set_option maxHeartbeats 4000000 in
set_option maxRecDepth 100000 in
theorem w_X10_words_b81 {l : Launch} {D : va_G} {cI cJ : ClassId} {g : pa_GT} {a_m a_mt a_ml a_mr a_mx a_mf a_mg a_mw a_mh : Nat} {A : Nat → Prop} {p : Program} {e : Env} {s : State} {m : MethodId} {args : Array Value} {below : List Frame} {meth : Method} {c : Code} {x1 : Int32} {x2 : Int32} {x3 : Int32} {x4 : Int32} {v_m_value : Int32} {v_m_thrown : Int32} {v_m_trace : Int64} {v_m_typed : Int32} {v_m_next : Int32} {v_m_token : Int32} {v_m_place : Int32} {v_m_fault : Int32} {v_m_finds : Int32} {v_m_weeks : Int32} {v_m_rows : Int32} {v_m_cardPrice : Int32} {v_m_lotPrice : Int32} {v_m_sure : Int32} {v_m_up : Int64} {v_m_down : Int64} {v_mx : Nat → Int32} {o : Int32 × Int32} (X : pa_X cX10_words 6 none RX10 wsX10_words D cI cJ g A p s m args meth c)  (hf : f_X10_words_b81 x1 x2 x3 x4 v_m_value = some o) {H : Heap} {locs : List Loc} (hP : va_P D vwCl (wo_X10_words cI cJ a_m a_mt a_ml a_mr a_mx a_mf a_mg a_mw a_mh v_m_thrown v_m_trace v_m_typed v_m_next v_m_token v_m_place v_m_value v_m_fault v_m_finds v_m_weeks v_m_rows v_m_cardPrice v_m_lotPrice v_m_sure v_m_up v_m_down v_mx) H) (hD : va_D A (wo_X10_words cI cJ a_m a_mt a_ml a_mr a_mx a_mf a_mg a_mw a_mh v_m_thrown v_m_trace v_m_typed v_m_next v_m_token v_m_place v_m_value v_m_fault v_m_finds v_m_weeks v_m_rows v_m_cardPrice v_m_lotPrice v_m_sure v_m_up v_m_down v_mx)) (hS : va_S A s.heap H locs) {ls : Array Slot} (hl : lv_has ls 6 [(0, .ref a_m), (1, .int x1), (2, .int x2), (3, .int x3), (4, .int x4)]) : W p l e (headSpec wsX10_words rm_X10_words).room s m args below meth c H locs 0 0 (MQ below (va_Qv (fun (_ : Unit) => True) (pa_QB D A (wo_X10_words cI cJ a_m a_mt a_ml a_mr a_mx a_mf a_mg a_mw a_mh v_m_thrown v_m_trace v_m_typed v_m_next o.1 v_m_place o.2 v_m_fault v_m_finds v_m_weeks v_m_rows v_m_cardPrice v_m_lotPrice v_m_sure v_m_up v_m_down v_mx)) A) args s 0 0 A) (F0 m 81 ls []) := by
  obtain ⟨hx, hb, hr, hml, hown, hts, hK, hA, hG, hlk⟩ := id X
  delta f_X10_words_b81 at hf
  refine lv_iload_n hx hb dX10_words_81 rfl (lv_at hl 1 rfl) ?_
  refine lv_iconst (v := (3 : Int32)) hx hb dX10_words_82 (by decide) ?_
  refine lv_icmp_ne (tgt := 113) hx hb dX10_words_83 (by decide) (fun c_19 => ?_) (fun c_19 => ?_)
  · have hf := (if_neg c_19).symm.trans hf
    exact w_X10_words_b113 X  hf hP hD hS (lv_sub hl [0, 1, 2, 3, 4] rfl)
  · have hf := (if_pos c_19).symm.trans hf
    refine lv_iload_n hx hb dX10_words_86 rfl (lv_at hl 2 rfl) ?_
    refine lv_bipush (v := (97 : Int32)) hx hb dX10_words_87 (by decide) ?_
    refine lv_icmp_ne (tgt := 113) hx hb dX10_words_89 (by decide) (fun c_20 => ?_) (fun c_20 => ?_)
    · have hf := (if_neg c_20).symm.trans hf
      exact w_X10_words_b113 X  hf hP hD hS (lv_sub hl [0, 1, 2, 3, 4] rfl)
    · have hf := (if_pos c_20).symm.trans hf
      refine lv_iload_n hx hb dX10_words_92 rfl (lv_at hl 3 rfl) ?_
      refine lv_bipush (v := (108 : Int32)) hx hb dX10_words_93 (by decide) ?_
      refine lv_icmp_ne (tgt := 113) hx hb dX10_words_95 (by decide) (fun c_21 => ?_) (fun c_21 => ?_)
      · have hf := (if_neg c_21).symm.trans hf
        exact w_X10_words_b113 X  hf hP hD hS (lv_sub hl [0, 1, 2, 3, 4] rfl)
      · have hf := (if_pos c_21).symm.trans hf
        refine lv_iload hx hb dX10_words_98 (lv_at hl 4 rfl) ?_
        refine lv_bipush (v := (108 : Int32)) hx hb dX10_words_100 (by decide) ?_
        refine lv_icmp_ne (tgt := 113) hx hb dX10_words_102 (by decide) (fun c_22 => ?_) (fun c_22 => ?_)
        · have hf := (if_neg c_22).symm.trans hf
          exact w_X10_words_b113 X  hf hP hD hS (lv_sub hl [0, 1, 2, 3, 4] rfl)
        · have hf := (if_pos c_22).symm.trans hf
          refine lv_aload_n hx hb dX10_words_105 rfl (lv_at hl 0 rfl) ?_
          refine lv_iconst (v := (2 : Int32)) hx hb dX10_words_106 (by decide) ?_
          refine va_put (D := D) (ci := 9) (v := .int (2 : Int32)) (ty := .int) (C := RX10) (T := TX10) (N := 24) hx hb hts il_X10_words_X10 tyX10 tyX10_ok nmX10 hown hK hP hD hS 0 rfl rfl 8 (by decide) (hts _ fk_X10_words_0) (fun _ h9 => h9) rfl (tyX10_ok 8 (by decide)) rfl rfl (Nat.le_of_ble_eq_true rfl) dX10_words_107 (fun H locs hP hD hS => ?_)
          have hP : va_P D vwCl (wo_X10_words cI cJ a_m a_mt a_ml a_mr a_mx a_mf a_mg a_mw a_mh v_m_thrown v_m_trace v_m_typed v_m_next (2 : Int32) v_m_place v_m_value v_m_fault v_m_finds v_m_weeks v_m_rows v_m_cardPrice v_m_lotPrice v_m_sure v_m_up v_m_down v_mx) H := hP
          have hD : va_D A (wo_X10_words cI cJ a_m a_mt a_ml a_mr a_mx a_mf a_mg a_mw a_mh v_m_thrown v_m_trace v_m_typed v_m_next (2 : Int32) v_m_place v_m_value v_m_fault v_m_finds v_m_weeks v_m_rows v_m_cardPrice v_m_lotPrice v_m_sure v_m_up v_m_down v_mx) := hD
          refine lv_goto (tgt := 196) hx hb dX10_words_110 (by decide) ?_
          obtain rfl := Option.some.inj hf
          exact pa_ev X hP hD hS dX10_words_196
set_option maxHeartbeats 4000000 in
set_option maxRecDepth 100000 in
theorem w_X10_words_b0 {l : Launch} {D : va_G} {cI cJ : ClassId} {g : pa_GT} {a_m a_mt a_ml a_mr a_mx a_mf a_mg a_mw a_mh : Nat} {A : Nat → Prop} {p : Program} {e : Env} {s : State} {m : MethodId} {args : Array Value} {below : List Frame} {meth : Method} {c : Code} {x1 : Int32} {v_m_typed : Int32} {v_m_place : Int32} {v_m_value : Int32} {v_mx : Nat → Int32} {v_m_thrown : Int32} {v_m_trace : Int64} {v_m_next : Int32} {v_m_token : Int32} {v_m_fault : Int32} {v_m_finds : Int32} {v_m_weeks : Int32} {v_m_rows : Int32} {v_m_cardPrice : Int32} {v_m_lotPrice : Int32} {v_m_sure : Int32} {v_m_up : Int64} {v_m_down : Int64} {o : Int32 × Int32} (X : pa_X cX10_words 6 none RX10 wsX10_words D cI cJ g A p s m args meth c)  (hf : f_X10_words x1 v_m_typed v_m_place v_m_value v_mx = some o) {H : Heap} {locs : List Loc} (hP : va_P D vwCl (wo_X10_words cI cJ a_m a_mt a_ml a_mr a_mx a_mf a_mg a_mw a_mh v_m_thrown v_m_trace v_m_typed v_m_next v_m_token v_m_place v_m_value v_m_fault v_m_finds v_m_weeks v_m_rows v_m_cardPrice v_m_lotPrice v_m_sure v_m_up v_m_down v_mx) H) (hD : va_D A (wo_X10_words cI cJ a_m a_mt a_ml a_mr a_mx a_mf a_mg a_mw a_mh v_m_thrown v_m_trace v_m_typed v_m_next v_m_token v_m_place v_m_value v_m_fault v_m_finds v_m_weeks v_m_rows v_m_cardPrice v_m_lotPrice v_m_sure v_m_up v_m_down v_mx)) (hS : va_S A s.heap H locs) {ls : Array Slot} (hl : lv_has ls 6 [(0, .ref a_m), (1, .int x1)]) : W p l e (headSpec wsX10_words rm_X10_words).room s m args below meth c H locs 0 0 (MQ below (va_Qv (fun (_ : Unit) => True) (pa_QB D A (wo_X10_words cI cJ a_m a_mt a_ml a_mr a_mx a_mf a_mg a_mw a_mh v_m_thrown v_m_trace v_m_typed v_m_next o.1 v_m_place o.2 v_m_fault v_m_finds v_m_weeks v_m_rows v_m_cardPrice v_m_lotPrice v_m_sure v_m_up v_m_down v_mx)) A) args s 0 0 A) (F0 m 0 ls []) := by
  obtain ⟨hx, hb, hr, hml, hown, hts, hK, hA, hG, hlk⟩ := id X
  delta f_X10_words at hf
  refine lv_aload_n hx hb dX10_words_0 rfl (lv_at hl 0 rfl) ?_
  refine va_get (D := D) (ci := 9) (v := .ref a_mx) (C := RX10) (T := TX10) (N := 24) hx hb hts il_X10_words_X10 hown hK hP 0 rfl rfl 5 (by decide) (hts _ fk_X10_words_2) (fun _ h9 => h9) rfl dX10_words_1 ?_
  refine lv_aload_n hx hb dX10_words_4 rfl (lv_at hl 0 rfl) ?_
  refine va_get (D := D) (ci := 9) (v := .int v_m_place) (C := RX10) (T := TX10) (N := 24) hx hb hts il_X10_words_X10 hown hK hP 0 rfl rfl 9 (by decide) (hts _ fk_X10_words_3) (fun _ h9 => h9) rfl dX10_words_5 ?_
  obtain ⟨hi_23, hf⟩ := pa_gd hf
  refine va_iald hx hb hK hP 1 0 rfl rfl hi_23 dX10_words_8 ?_
  refine lv_istore_n (lv' := [(2, .int (v_mx (Int32.toNatClampNeg v_m_place))), (0, .ref a_m), (1, .int x1)]) hx hb dX10_words_9 rfl hl (by decide) rfl (fun ls hl => ?_)
  refine lv_aload_n hx hb dX10_words_10 rfl (lv_at hl 1 rfl) ?_
  refine lv_aload_n hx hb dX10_words_11 rfl (lv_at hl 1 rfl) ?_
  refine va_get (D := D) (ci := 9) (v := .int v_m_place) (C := RX10) (T := TX10) (N := 24) hx hb hts il_X10_words_X10 hown hK hP 0 rfl rfl 9 (by decide) (hts _ fk_X10_words_3) (fun _ h9 => h9) rfl dX10_words_12 ?_
  refine lv_iconst (v := (1 : Int32)) hx hb dX10_words_15 (by decide) ?_
  refine lv_iadd hx hb dX10_words_16 ?_
  obtain ⟨u_24, hg_25, hf⟩ := pa_bd hf
  refine pa_ki (wc := (wo_X10_byteAt cI cJ a_m a_mt a_ml a_mr a_mx a_mf a_mg a_mw a_mh v_m_thrown v_m_trace v_m_typed v_m_next v_m_token v_m_place v_m_value v_m_fault v_m_finds v_m_weeks v_m_rows v_m_cardPrice v_m_lotPrice v_m_sure v_m_up v_m_down v_mx)) (wr := ([] : va_W)) (w1 := (wo_X10_byteAt cI cJ a_m a_mt a_ml a_mr a_mx a_mf a_mg a_mw a_mh v_m_thrown v_m_trace v_m_typed v_m_next v_m_token v_m_place v_m_value v_m_fault v_m_finds v_m_weeks v_m_rows v_m_cardPrice v_m_lotPrice v_m_sure v_m_up v_m_down v_mx)) (w2 := (wo_X10_words cI cJ a_m a_mt a_ml a_mr a_mx a_mf a_mg a_mw a_mh v_m_thrown v_m_trace v_m_typed v_m_next v_m_token v_m_place v_m_value v_m_fault v_m_finds v_m_weeks v_m_rows v_m_cardPrice v_m_lotPrice v_m_sure v_m_up v_m_down v_mx)) X hP hD hS [0, 1] [] [0, 1] rfl (pa_rV (As := [.int (v_m_place + (1 : Int32))]) (rest := []) (T := TX10) X hP hD hS [0, 1] rfl rfl (c_X10_byteAt hg_25 H.size) (cwV 1 hts gX10_words_X10_byteAt rfl rfl rfl (by decide +kernel) ⟨Nat.le_of_ble_eq_true rfl, Nat.le_of_ble_eq_true rfl⟩) (q0 := 0) rfl rfl rfl hl.1 rfl (Nat.le_of_ble_eq_true rfl) dX10_words_17 ⟨Nat.zero_le _, Nat.zero_le _⟩) rfl rfl (by decide) rfl rfl (fun H locs hP hD hS => ?_)
  refine lv_istore_n (lv' := [(3, .int u_24), (2, .int (v_mx (Int32.toNatClampNeg v_m_place))), (0, .ref a_m), (1, .int x1)]) hx hb dX10_words_20 rfl hl (by decide) rfl (fun ls hl => ?_)
  refine lv_aload_n hx hb dX10_words_21 rfl (lv_at hl 2 rfl) ?_
  refine lv_aload_n hx hb dX10_words_22 rfl (lv_at hl 2 rfl) ?_
  refine va_get (D := D) (ci := 9) (v := .int v_m_place) (C := RX10) (T := TX10) (N := 24) hx hb hts il_X10_words_X10 hown hK hP 0 rfl rfl 9 (by decide) (hts _ fk_X10_words_3) (fun _ h9 => h9) rfl dX10_words_23 ?_
  refine lv_iconst (v := (2 : Int32)) hx hb dX10_words_26 (by decide) ?_
  refine lv_iadd hx hb dX10_words_27 ?_
  obtain ⟨u_26, hg_27, hf⟩ := pa_bd hf
  refine pa_ki (wc := (wo_X10_byteAt cI cJ a_m a_mt a_ml a_mr a_mx a_mf a_mg a_mw a_mh v_m_thrown v_m_trace v_m_typed v_m_next v_m_token v_m_place v_m_value v_m_fault v_m_finds v_m_weeks v_m_rows v_m_cardPrice v_m_lotPrice v_m_sure v_m_up v_m_down v_mx)) (wr := ([] : va_W)) (w1 := (wo_X10_byteAt cI cJ a_m a_mt a_ml a_mr a_mx a_mf a_mg a_mw a_mh v_m_thrown v_m_trace v_m_typed v_m_next v_m_token v_m_place v_m_value v_m_fault v_m_finds v_m_weeks v_m_rows v_m_cardPrice v_m_lotPrice v_m_sure v_m_up v_m_down v_mx)) (w2 := (wo_X10_words cI cJ a_m a_mt a_ml a_mr a_mx a_mf a_mg a_mw a_mh v_m_thrown v_m_trace v_m_typed v_m_next v_m_token v_m_place v_m_value v_m_fault v_m_finds v_m_weeks v_m_rows v_m_cardPrice v_m_lotPrice v_m_sure v_m_up v_m_down v_mx)) X hP hD hS [0, 1] [] [0, 1] rfl (pa_rV (As := [.int (v_m_place + (2 : Int32))]) (rest := []) (T := TX10) X hP hD hS [0, 1] rfl rfl (c_X10_byteAt hg_27 H.size) (cwV 1 hts gX10_words_X10_byteAt rfl rfl rfl (by decide +kernel) ⟨Nat.le_of_ble_eq_true rfl, Nat.le_of_ble_eq_true rfl⟩) (q0 := 0) rfl rfl rfl hl.1 rfl (Nat.le_of_ble_eq_true rfl) dX10_words_28 ⟨Nat.zero_le _, Nat.zero_le _⟩) rfl rfl (by decide) rfl rfl (fun H locs hP hD hS => ?_)
  refine lv_istore (lv' := [(4, .int u_26), (3, .int u_24), (2, .int (v_mx (Int32.toNatClampNeg v_m_place))), (0, .ref a_m), (1, .int x1)]) hx hb dX10_words_31 hl (by decide) rfl (fun ls hl => ?_)
  refine lv_iload_n hx hb dX10_words_33 rfl (lv_at hl 4 rfl) ?_
  refine lv_iconst (v := (4 : Int32)) hx hb dX10_words_34 (by decide) ?_
  refine lv_icmp_ne (tgt := 81) hx hb dX10_words_35 (by decide) (fun c_28 => ?_) (fun c_28 => ?_)
  · have hf := (if_neg c_28).symm.trans hf
    exact w_X10_words_b81 X  hf hP hD hS (lv_sub hl [3, 4, 2, 1, 0] rfl)
  · have hf := (if_pos c_28).symm.trans hf
    refine lv_iload_n hx hb dX10_words_38 rfl (lv_at hl 2 rfl) ?_
    refine lv_bipush (v := (102 : Int32)) hx hb dX10_words_39 (by decide) ?_
    refine lv_icmp_ne (tgt := 81) hx hb dX10_words_41 (by decide) (fun c_29 => ?_) (fun c_29 => ?_)
    · have hf := (if_neg c_29).symm.trans hf
      exact w_X10_words_b81 X  hf hP hD hS (lv_sub hl [3, 4, 2, 1, 0] rfl)
    · have hf := (if_pos c_29).symm.trans hf
      refine lv_iload_n hx hb dX10_words_44 rfl (lv_at hl 1 rfl) ?_
      refine lv_bipush (v := (105 : Int32)) hx hb dX10_words_45 (by decide) ?_
      refine lv_icmp_ne (tgt := 81) hx hb dX10_words_47 (by decide) (fun c_30 => ?_) (fun c_30 => ?_)
      · have hf := (if_neg c_30).symm.trans hf
        exact w_X10_words_b81 X  hf hP hD hS (lv_sub hl [3, 4, 2, 1, 0] rfl)
      · have hf := (if_pos c_30).symm.trans hf
        refine lv_iload hx hb dX10_words_50 (lv_at hl 0 rfl) ?_
        refine lv_bipush (v := (110 : Int32)) hx hb dX10_words_52 (by decide) ?_
        refine lv_icmp_ne (tgt := 81) hx hb dX10_words_54 (by decide) (fun c_31 => ?_) (fun c_31 => ?_)
        · have hf := (if_neg c_31).symm.trans hf
          exact w_X10_words_b81 X  hf hP hD hS (lv_sub hl [3, 4, 2, 1, 0] rfl)
        · have hf := (if_pos c_31).symm.trans hf
          refine lv_aload_n hx hb dX10_words_57 rfl (lv_at hl 3 rfl) ?_
          refine va_get (D := D) (ci := 9) (v := .ref a_mx) (C := RX10) (T := TX10) (N := 24) hx hb hts il_X10_words_X10 hown hK hP 0 rfl rfl 5 (by decide) (hts _ fk_X10_words_2) (fun _ h9 => h9) rfl dX10_words_58 ?_
          refine lv_aload_n hx hb dX10_words_61 rfl (lv_at hl 3 rfl) ?_
          refine va_get (D := D) (ci := 9) (v := .int v_m_place) (C := RX10) (T := TX10) (N := 24) hx hb hts il_X10_words_X10 hown hK hP 0 rfl rfl 9 (by decide) (hts _ fk_X10_words_3) (fun _ h9 => h9) rfl dX10_words_62 ?_
          refine lv_iconst (v := (3 : Int32)) hx hb dX10_words_65 (by decide) ?_
          refine lv_iadd hx hb dX10_words_66 ?_
          obtain ⟨hi_32, hf⟩ := pa_gd hf
          refine va_iald hx hb hK hP 1 0 rfl rfl hi_32 dX10_words_67 ?_
          refine lv_bipush (v := (100 : Int32)) hx hb dX10_words_68 (by decide) ?_
          refine lv_icmp_ne (tgt := 81) hx hb dX10_words_70 (by decide) (fun c_33 => ?_) (fun c_33 => ?_)
          · have hf := (if_neg c_33).symm.trans hf
            exact w_X10_words_b81 X  hf hP hD hS (lv_sub hl [3, 4, 2, 1, 0] rfl)
          · have hf := (if_pos c_33).symm.trans hf
            refine lv_aload_n hx hb dX10_words_73 rfl (lv_at hl 3 rfl) ?_
            refine lv_iconst (v := (1 : Int32)) hx hb dX10_words_74 (by decide) ?_
            refine va_put (D := D) (ci := 9) (v := .int (1 : Int32)) (ty := .int) (C := RX10) (T := TX10) (N := 24) hx hb hts il_X10_words_X10 tyX10 tyX10_ok nmX10 hown hK hP hD hS 0 rfl rfl 8 (by decide) (hts _ fk_X10_words_0) (fun _ h9 => h9) rfl (tyX10_ok 8 (by decide)) rfl rfl (Nat.le_of_ble_eq_true rfl) dX10_words_75 (fun H locs hP hD hS => ?_)
            have hP : va_P D vwCl (wo_X10_words cI cJ a_m a_mt a_ml a_mr a_mx a_mf a_mg a_mw a_mh v_m_thrown v_m_trace v_m_typed v_m_next (1 : Int32) v_m_place v_m_value v_m_fault v_m_finds v_m_weeks v_m_rows v_m_cardPrice v_m_lotPrice v_m_sure v_m_up v_m_down v_mx) H := hP
            have hD : va_D A (wo_X10_words cI cJ a_m a_mt a_ml a_mr a_mx a_mf a_mg a_mw a_mh v_m_thrown v_m_trace v_m_typed v_m_next (1 : Int32) v_m_place v_m_value v_m_fault v_m_finds v_m_weeks v_m_rows v_m_cardPrice v_m_lotPrice v_m_sure v_m_up v_m_down v_mx) := hD
            refine lv_goto (tgt := 196) hx hb dX10_words_78 (by decide) ?_
            obtain rfl := Option.some.inj hf
            exact pa_ev X hP hD hS dX10_words_196
set_option maxHeartbeats 4000000 in
set_option maxRecDepth 100000 in
theorem c_X10_words {l : Launch} {D : va_G} {cI cJ : ClassId} {g : pa_GT} {a_m a_mt a_ml a_mr a_mx a_mf a_mg a_mw a_mh : Nat} {x1 : Int32} {v_m_thrown : Int32} {v_m_trace : Int64} {v_m_typed : Int32} {v_m_next : Int32} {v_m_token : Int32} {v_m_place : Int32} {v_m_value : Int32} {v_m_fault : Int32} {v_m_finds : Int32} {v_m_weeks : Int32} {v_m_rows : Int32} {v_m_cardPrice : Int32} {v_m_lotPrice : Int32} {v_m_sure : Int32} {v_m_up : Int64} {v_m_down : Int64} {v_mx : Nat → Int32} {o : Int32 × Int32} (hf : f_X10_words x1 v_m_typed v_m_place v_m_value v_mx = some o) : pa_Mv l yX10_words wsX10_words rm_X10_words D cI cJ g [.ref a_m, .int x1] (wo_X10_words cI cJ a_m a_mt a_ml a_mr a_mx a_mf a_mg a_mw a_mh v_m_thrown v_m_trace v_m_typed v_m_next v_m_token v_m_place v_m_value v_m_fault v_m_finds v_m_weeks v_m_rows v_m_cardPrice v_m_lotPrice v_m_sure v_m_up v_m_down v_mx) (wo_X10_words cI cJ a_m a_mt a_ml a_mr a_mx a_mf a_mg a_mw a_mh v_m_thrown v_m_trace v_m_typed v_m_next o.1 v_m_place o.2 v_m_fault v_m_finds v_m_weeks v_m_rows v_m_cardPrice v_m_lotPrice v_m_sure v_m_up v_m_down v_mx) := by
  intro sz
  refine pa_met (cc := cX10_words) (maxL := 6) (ret := none) (lv := [(0, .ref a_m), (1, .int x1)]) (by decide) rfl (Nat.le_of_ble_eq_true rfl) rfl ?_
  intro p e s m below meth c X hsz hP hD ls hl
  subst hsz
  exact w_X10_words_b0 X hf hP hD va_S.rf hl
abbrev wo_X10_advances (cI cJ : ClassId) (a_m a_mt a_ml a_mr a_mx a_mf a_mg a_mw a_mh : Nat) (v_m_thrown : Int32) (v_m_trace : Int64) (v_m_typed : Int32) (v_m_next : Int32) (v_m_token : Int32) (v_m_place : Int32) (v_m_value : Int32) (v_m_fault : Int32) (v_m_finds : Int32) (v_m_weeks : Int32) (v_m_rows : Int32) (v_m_cardPrice : Int32) (v_m_lotPrice : Int32) (v_m_sure : Int32) (v_m_up : Int64) (v_m_down : Int64) (v_mx : Nat → Int32) : va_W := [(a_m, .inr (9, [.int v_m_thrown, .long v_m_trace, .ref a_mt, .ref a_ml, .ref a_mr, .ref a_mx, .int v_m_typed, .int v_m_next, .int v_m_token, .int v_m_place, .int v_m_value, .int v_m_fault, .int v_m_finds, .ref a_mf, .ref a_mg, .int v_m_weeks, .ref a_mw, .int v_m_rows, .ref a_mh, .int v_m_cardPrice, .int v_m_lotPrice, .int v_m_sure, .long v_m_up, .long v_m_down])), (a_mx, .inl (cI, 300, .inl v_mx))]
abbrev rm_X10_advances : Room := { frames := 2, cells := 0, slots := 0, locals := 46 }
theorem il_X10_advances_X10 : ∀ w ∈ wsX100, w ∈ wsX10_advances := by decide +kernel
theorem fk_X10_advances_0 : Cond.fieldLink RX10 104 "PostedAsksModel" "next" "I" ∈ wsX10_advances := by decide +kernel
theorem fk_X10_advances_1 : Cond.fieldLink RX10 101 "PostedAsksModel" "value" "I" ∈ wsX10_advances := by decide +kernel
theorem fk_X10_advances_2 : Cond.fieldLink RX10 95 "PostedAsksModel" "token" "I" ∈ wsX10_advances := by decide +kernel
theorem fk_X10_advances_3 : Cond.fieldLink RX10 88 "PostedAsksModel" "place" "I" ∈ wsX10_advances := by decide +kernel
def f_X10_advances_L129_body (x1 : Int32) (v_m_typed : Int32) (v_m_place : Int32) (v_mx : Nat → Int32) (rec129 : Int32 → Int32 → Option (Int32 × Int32 × Int32 × Int32)) (v_m_next : Int32) (v_m_value : Int32) : Option (Int32 × Int32 × Int32 × Int32) :=
  (f_X10_byteAt v_m_next v_m_typed v_mx).bind fun u_1 =>
  (f_X10_in u_1 (48 : Int32) (57 : Int32)).bind fun u_3 =>
  if u_3 = 0 then
    if (99 : Int32) < v_m_value then
      some (v_m_next, (6 : Int32), v_m_place, v_m_value)
    else
      if x1 = (48 : Int32) then
        if (v_m_next - v_m_place) ≤ (1 : Int32) then
          some (v_m_next, (4 : Int32), v_m_place, v_m_value)
        else
          some (v_m_next, (6 : Int32), v_m_place, v_m_value)
      else
        some (v_m_next, (4 : Int32), v_m_place, v_m_value)
  else
    if v_m_value ≤ (99 : Int32) then
      (f_X10_byteAt v_m_next v_m_typed v_mx).bind fun u_10 =>
      rec129 (v_m_next + (1 : Int32)) ((((10 : Int32) * v_m_value) + u_10) - (48 : Int32))
    else
      rec129 (v_m_next + (1 : Int32)) v_m_value
def f_X10_advances_L129 (x1 : Int32) (v_m_typed : Int32) (v_m_place : Int32) (v_mx : Nat → Int32) : Nat → Int32 → Int32 → Option (Int32 × Int32 × Int32 × Int32)
  | 0 => fun _ _ => none
  | n + 1 => f_X10_advances_L129_body x1 v_m_typed v_m_place v_mx (f_X10_advances_L129 x1 v_m_typed v_m_place v_mx n)
def f_X10_advances_L66_body (v_m_typed : Int32) (v_m_token : Int32) (v_m_place : Int32) (v_m_value : Int32) (v_mx : Nat → Int32) (rec66 : Int32 → Option (Int32 × Int32 × Int32 × Int32)) (v_m_next : Int32) : Option (Int32 × Int32 × Int32 × Int32) :=
  (f_X10_byteAt v_m_next v_m_typed v_mx).bind fun u_12 =>
  (f_X10_in u_12 (97 : Int32) (122 : Int32)).bind fun u_14 =>
  if u_14 = 0 then
    (f_X10_words (v_m_next - v_m_place) v_m_typed v_m_place v_m_value v_mx).bind fun u_17 =>
    some (v_m_next, u_17.1, v_m_place, u_17.2)
  else
    rec66 (v_m_next + (1 : Int32))
def f_X10_advances_L66 (v_m_typed : Int32) (v_m_token : Int32) (v_m_place : Int32) (v_m_value : Int32) (v_mx : Nat → Int32) : Nat → Int32 → Option (Int32 × Int32 × Int32 × Int32)
  | 0 => fun _ => none
  | n + 1 => f_X10_advances_L66_body v_m_typed v_m_token v_m_place v_m_value v_mx (f_X10_advances_L66 v_m_typed v_m_token v_m_place v_m_value v_mx n)
def f_X10_advances_L0_body (v_m_typed : Int32) (v_m_token : Int32) (v_m_value : Int32) (v_mx : Nat → Int32) (rec0 : Int32 → Option (Int32 × Int32 × Int32 × Int32)) (v_m_next : Int32) : Option (Int32 × Int32 × Int32 × Int32) :=
  (f_X10_byteAt v_m_next v_m_typed v_mx).bind fun u_19 =>
  if u_19 = (32 : Int32) then
    rec0 (v_m_next + (1 : Int32))
  else
    (f_X10_byteAt v_m_next v_m_typed v_mx).bind fun u_22 =>
    if 0 ≤ u_22 then
      (f_X10_in u_22 (97 : Int32) (122 : Int32)).bind fun u_25 =>
      if u_25 = 0 then
        (f_X10_in u_22 (48 : Int32) (57 : Int32)).bind fun u_28 =>
        if u_28 = 0 then
          if u_22 = (59 : Int32) then
            some ((v_m_next + (1 : Int32)), (5 : Int32), v_m_next, v_m_value)
          else
            some ((v_m_next + (1 : Int32)), (6 : Int32), v_m_next, v_m_value)
        else
          f_X10_advances_L129 u_22 v_m_typed v_m_next v_mx pa_fu v_m_next (0 : Int32)
      else
        f_X10_advances_L66 v_m_typed v_m_token v_m_next v_m_value v_mx pa_fu v_m_next
    else
      some (v_m_next, (0 : Int32), v_m_next, v_m_value)
def f_X10_advances_L0 (v_m_typed : Int32) (v_m_token : Int32) (v_m_value : Int32) (v_mx : Nat → Int32) : Nat → Int32 → Option (Int32 × Int32 × Int32 × Int32)
  | 0 => fun _ => none
  | n + 1 => f_X10_advances_L0_body v_m_typed v_m_token v_m_value v_mx (f_X10_advances_L0 v_m_typed v_m_token v_m_value v_mx n)
def f_X10_advances (v_m_typed : Int32) (v_m_next : Int32) (v_m_token : Int32) (v_m_value : Int32) (v_mx : Nat → Int32) : Option (Int32 × Int32 × Int32 × Int32) := f_X10_advances_L0 v_m_typed v_m_token v_m_value v_mx pa_fu v_m_next
set_option maxHeartbeats 4000000 in
set_option maxRecDepth 100000 in
theorem w_X10_advances_L129 {l : Launch} {D : va_G} {cI cJ : ClassId} {g : pa_GT} {a_m a_mt a_ml a_mr a_mx a_mf a_mg a_mw a_mh : Nat} {A : Nat → Prop} {p : Program} {e : Env} {s : State} {m : MethodId} {args : Array Value} {below : List Frame} {meth : Method} {c : Code} {x1 : Int32} {v_m_typed : Int32} {v_m_place : Int32} {v_mx : Nat → Int32} {v_m_thrown : Int32} {v_m_trace : Int64} {v_m_fault : Int32} {v_m_finds : Int32} {v_m_weeks : Int32} {v_m_rows : Int32} {v_m_cardPrice : Int32} {v_m_lotPrice : Int32} {v_m_sure : Int32} {v_m_up : Int64} {v_m_down : Int64} {o : Int32 × Int32 × Int32 × Int32} (X : pa_X cX10_advances 2 none RX10 wsX10_advances D cI cJ g A p s m args meth c)  : ∀ (n : Nat) (v_m_next : Int32) (v_m_value : Int32), f_X10_advances_L129 x1 v_m_typed v_m_place v_mx n v_m_next v_m_value = some o → ∀ (H : Heap) (locs : List Loc) (v_m_token : Int32), va_P D vwCl (wo_X10_advances cI cJ a_m a_mt a_ml a_mr a_mx a_mf a_mg a_mw a_mh v_m_thrown v_m_trace v_m_typed v_m_next v_m_token v_m_place v_m_value v_m_fault v_m_finds v_m_weeks v_m_rows v_m_cardPrice v_m_lotPrice v_m_sure v_m_up v_m_down v_mx) H → va_D A (wo_X10_advances cI cJ a_m a_mt a_ml a_mr a_mx a_mf a_mg a_mw a_mh v_m_thrown v_m_trace v_m_typed v_m_next v_m_token v_m_place v_m_value v_m_fault v_m_finds v_m_weeks v_m_rows v_m_cardPrice v_m_lotPrice v_m_sure v_m_up v_m_down v_mx) → va_S A s.heap H locs → ∀ (ls : Array Slot), lv_has ls 2 [(0, .ref a_m), (1, .int x1)] → W p l e (headSpec wsX10_advances rm_X10_advances).room s m args below meth c H locs 0 0 (MQ below (va_Qv (fun (_ : Unit) => True) (pa_QB D A (wo_X10_advances cI cJ a_m a_mt a_ml a_mr a_mx a_mf a_mg a_mw a_mh v_m_thrown v_m_trace v_m_typed o.1 o.2.1 o.2.2.1 o.2.2.2 v_m_fault v_m_finds v_m_weeks v_m_rows v_m_cardPrice v_m_lotPrice v_m_sure v_m_up v_m_down v_mx)) A) args s 0 0 A) (F0 m 129 ls []) := by
  obtain ⟨hx, hb, hr, hml, hown, hts, hK, hA, hG, hlk⟩ := id X
  intro n
  induction n with
  | zero =>
    intro v_m_next v_m_value hf
    have hf : (none : Option (Int32 × Int32 × Int32 × Int32)) = some o := hf
    cases hf
  | succ n hrec129 =>
    intro v_m_next v_m_value hf H locs v_m_token hP hD hS ls hl
    have hf : f_X10_advances_L129_body x1 v_m_typed v_m_place v_mx (f_X10_advances_L129 x1 v_m_typed v_m_place v_mx n) v_m_next v_m_value = some o := hf
    delta f_X10_advances_L129_body at hf
    generalize hgr : f_X10_advances_L129 x1 v_m_typed v_m_place v_mx n = rec129 at hf hrec129
    refine lv_aload_n hx hb dX10_advances_129 rfl (lv_at hl 0 rfl) ?_
    refine lv_aload_n hx hb dX10_advances_130 rfl (lv_at hl 0 rfl) ?_
    refine va_get (D := D) (ci := 9) (v := .int v_m_next) (C := RX10) (T := TX10) (N := 24) hx hb hts il_X10_advances_X10 hown hK hP 0 rfl rfl 7 (by decide) (hts _ fk_X10_advances_0) (fun _ h9 => h9) rfl dX10_advances_131 ?_
    obtain ⟨u_1, hg_2, hf⟩ := pa_bd hf
    refine pa_ki (wc := (wo_X10_byteAt cI cJ a_m a_mt a_ml a_mr a_mx a_mf a_mg a_mw a_mh v_m_thrown v_m_trace v_m_typed v_m_next v_m_token v_m_place v_m_value v_m_fault v_m_finds v_m_weeks v_m_rows v_m_cardPrice v_m_lotPrice v_m_sure v_m_up v_m_down v_mx)) (wr := ([] : va_W)) (w1 := (wo_X10_byteAt cI cJ a_m a_mt a_ml a_mr a_mx a_mf a_mg a_mw a_mh v_m_thrown v_m_trace v_m_typed v_m_next v_m_token v_m_place v_m_value v_m_fault v_m_finds v_m_weeks v_m_rows v_m_cardPrice v_m_lotPrice v_m_sure v_m_up v_m_down v_mx)) (w2 := (wo_X10_advances cI cJ a_m a_mt a_ml a_mr a_mx a_mf a_mg a_mw a_mh v_m_thrown v_m_trace v_m_typed v_m_next v_m_token v_m_place v_m_value v_m_fault v_m_finds v_m_weeks v_m_rows v_m_cardPrice v_m_lotPrice v_m_sure v_m_up v_m_down v_mx)) X hP hD hS [0, 1] [] [0, 1] rfl (pa_rV (As := [.int v_m_next]) (rest := []) (T := TX10) X hP hD hS [0, 1] rfl rfl (c_X10_byteAt hg_2 H.size) (cwV 1 hts gX10_advances_X10_byteAt rfl rfl rfl (by decide +kernel) ⟨Nat.le_of_ble_eq_true rfl, Nat.le_of_ble_eq_true rfl⟩) (q0 := 0) rfl rfl rfl hl.1 rfl (Nat.le_of_ble_eq_true rfl) dX10_advances_134 ⟨Nat.zero_le _, Nat.zero_le _⟩) rfl rfl (by decide) rfl rfl (fun H locs hP hD hS => ?_)
    refine lv_bipush (v := (48 : Int32)) hx hb dX10_advances_137 (by decide) ?_
    refine lv_bipush (v := (57 : Int32)) hx hb dX10_advances_139 (by decide) ?_
    obtain ⟨u_3, hg_4, hf⟩ := pa_bd hf
    refine pa_ki (wc := ([] : va_W)) (wr := [(a_m, .inr (9, [.int v_m_thrown, .long v_m_trace, .ref a_mt, .ref a_ml, .ref a_mr, .ref a_mx, .int v_m_typed, .int v_m_next, .int v_m_token, .int v_m_place, .int v_m_value, .int v_m_fault, .int v_m_finds, .ref a_mf, .ref a_mg, .int v_m_weeks, .ref a_mw, .int v_m_rows, .ref a_mh, .int v_m_cardPrice, .int v_m_lotPrice, .int v_m_sure, .long v_m_up, .long v_m_down])), (a_mx, .inl (cI, 300, .inl v_mx))]) (w1 := ([] : va_W)) (w2 := (wo_X10_advances cI cJ a_m a_mt a_ml a_mr a_mx a_mf a_mg a_mw a_mh v_m_thrown v_m_trace v_m_typed v_m_next v_m_token v_m_place v_m_value v_m_fault v_m_finds v_m_weeks v_m_rows v_m_cardPrice v_m_lotPrice v_m_sure v_m_up v_m_down v_mx)) X hP hD hS [] [0, 1] [0, 1] rfl (pa_rS (As := [.int u_1, .int (48 : Int32), .int (57 : Int32)]) (rest := []) X hP hD hS [] rfl rfl (c_X10_in hg_4 H.size) (va_cwS 3 hts gX10_advances_X10_in rfl rfl rfl (by decide +kernel) ⟨Nat.le_of_ble_eq_true rfl, Nat.le_of_ble_eq_true rfl⟩) rfl hl.1 rfl (Nat.le_of_ble_eq_true rfl) dX10_advances_141 ⟨Nat.zero_le _, Nat.zero_le _⟩) rfl rfl (by decide) rfl rfl (fun H locs hP hD hS => ?_)
    refine lv_if_eq (tgt := 199) hx hb dX10_advances_144 (by decide) (fun c_5 => ?_) (fun c_5 => ?_)
    · have hf := (if_pos c_5).symm.trans hf
      refine lv_aload_n hx hb dX10_advances_199 rfl (lv_at hl 0 rfl) ?_
      refine lv_aload_n hx hb dX10_advances_200 rfl (lv_at hl 0 rfl) ?_
      refine va_get (D := D) (ci := 9) (v := .int v_m_value) (C := RX10) (T := TX10) (N := 24) hx hb hts il_X10_advances_X10 hown hK hP 0 rfl rfl 10 (by decide) (hts _ fk_X10_advances_1) (fun _ h9 => h9) rfl dX10_advances_201 ?_
      refine lv_bipush (v := (99 : Int32)) hx hb dX10_advances_204 (by decide) ?_
      refine lv_icmp_gt (tgt := 228) hx hb dX10_advances_206 (by decide) (fun c_6 => ?_) (fun c_6 => ?_)
      · have hf := (if_pos c_6).symm.trans hf
        refine lv_bipush (v := (6 : Int32)) hx hb dX10_advances_228 (by decide) ?_
        refine lv_goto (tgt := 234) hx hb dX10_advances_230 (by decide) ?_
        refine va_put (D := D) (ci := 9) (v := .int (6 : Int32)) (ty := .int) (C := RX10) (T := TX10) (N := 24) hx hb hts il_X10_advances_X10 tyX10 tyX10_ok nmX10 hown hK hP hD hS 0 rfl rfl 8 (by decide) (hts _ fk_X10_advances_2) (fun _ h9 => h9) rfl (tyX10_ok 8 (by decide)) rfl rfl (Nat.le_of_ble_eq_true rfl) dX10_advances_234 (fun H locs hP hD hS => ?_)
        have hP : va_P D vwCl (wo_X10_advances cI cJ a_m a_mt a_ml a_mr a_mx a_mf a_mg a_mw a_mh v_m_thrown v_m_trace v_m_typed v_m_next (6 : Int32) v_m_place v_m_value v_m_fault v_m_finds v_m_weeks v_m_rows v_m_cardPrice v_m_lotPrice v_m_sure v_m_up v_m_down v_mx) H := hP
        have hD : va_D A (wo_X10_advances cI cJ a_m a_mt a_ml a_mr a_mx a_mf a_mg a_mw a_mh v_m_thrown v_m_trace v_m_typed v_m_next (6 : Int32) v_m_place v_m_value v_m_fault v_m_finds v_m_weeks v_m_rows v_m_cardPrice v_m_lotPrice v_m_sure v_m_up v_m_down v_mx) := hD
        refine lv_goto (tgt := 266) hx hb dX10_advances_237 (by decide) ?_
        obtain rfl := Option.some.inj hf
        exact pa_ev X hP hD hS dX10_advances_266
      · have hf := (if_neg c_6).symm.trans hf
        refine lv_iload_n hx hb dX10_advances_209 rfl (lv_at hl 1 rfl) ?_
        refine lv_bipush (v := (48 : Int32)) hx hb dX10_advances_210 (by decide) ?_
        refine lv_icmp_ne (tgt := 233) hx hb dX10_advances_212 (by decide) (fun c_7 => ?_) (fun c_7 => ?_)
        · have hf := (if_neg c_7).symm.trans hf
          refine lv_iconst (v := (4 : Int32)) hx hb dX10_advances_233 (by decide) ?_
          refine va_put (D := D) (ci := 9) (v := .int (4 : Int32)) (ty := .int) (C := RX10) (T := TX10) (N := 24) hx hb hts il_X10_advances_X10 tyX10 tyX10_ok nmX10 hown hK hP hD hS 0 rfl rfl 8 (by decide) (hts _ fk_X10_advances_2) (fun _ h9 => h9) rfl (tyX10_ok 8 (by decide)) rfl rfl (Nat.le_of_ble_eq_true rfl) dX10_advances_234 (fun H locs hP hD hS => ?_)
          have hP : va_P D vwCl (wo_X10_advances cI cJ a_m a_mt a_ml a_mr a_mx a_mf a_mg a_mw a_mh v_m_thrown v_m_trace v_m_typed v_m_next (4 : Int32) v_m_place v_m_value v_m_fault v_m_finds v_m_weeks v_m_rows v_m_cardPrice v_m_lotPrice v_m_sure v_m_up v_m_down v_mx) H := hP
          have hD : va_D A (wo_X10_advances cI cJ a_m a_mt a_ml a_mr a_mx a_mf a_mg a_mw a_mh v_m_thrown v_m_trace v_m_typed v_m_next (4 : Int32) v_m_place v_m_value v_m_fault v_m_finds v_m_weeks v_m_rows v_m_cardPrice v_m_lotPrice v_m_sure v_m_up v_m_down v_mx) := hD
          refine lv_goto (tgt := 266) hx hb dX10_advances_237 (by decide) ?_
          obtain rfl := Option.some.inj hf
          exact pa_ev X hP hD hS dX10_advances_266
        · have hf := (if_pos c_7).symm.trans hf
          refine lv_aload_n hx hb dX10_advances_215 rfl (lv_at hl 0 rfl) ?_
          refine va_get (D := D) (ci := 9) (v := .int v_m_next) (C := RX10) (T := TX10) (N := 24) hx hb hts il_X10_advances_X10 hown hK hP 0 rfl rfl 7 (by decide) (hts _ fk_X10_advances_0) (fun _ h9 => h9) rfl dX10_advances_216 ?_
          refine lv_aload_n hx hb dX10_advances_219 rfl (lv_at hl 0 rfl) ?_
          refine va_get (D := D) (ci := 9) (v := .int v_m_place) (C := RX10) (T := TX10) (N := 24) hx hb hts il_X10_advances_X10 hown hK hP 0 rfl rfl 9 (by decide) (hts _ fk_X10_advances_3) (fun _ h9 => h9) rfl dX10_advances_220 ?_
          refine lv_isub hx hb dX10_advances_223 ?_
          refine lv_iconst (v := (1 : Int32)) hx hb dX10_advances_224 (by decide) ?_
          refine lv_icmp_le (tgt := 233) hx hb dX10_advances_225 (by decide) (fun c_8 => ?_) (fun c_8 => ?_)
          · have hf := (if_pos c_8).symm.trans hf
            refine lv_iconst (v := (4 : Int32)) hx hb dX10_advances_233 (by decide) ?_
            refine va_put (D := D) (ci := 9) (v := .int (4 : Int32)) (ty := .int) (C := RX10) (T := TX10) (N := 24) hx hb hts il_X10_advances_X10 tyX10 tyX10_ok nmX10 hown hK hP hD hS 0 rfl rfl 8 (by decide) (hts _ fk_X10_advances_2) (fun _ h9 => h9) rfl (tyX10_ok 8 (by decide)) rfl rfl (Nat.le_of_ble_eq_true rfl) dX10_advances_234 (fun H locs hP hD hS => ?_)
            have hP : va_P D vwCl (wo_X10_advances cI cJ a_m a_mt a_ml a_mr a_mx a_mf a_mg a_mw a_mh v_m_thrown v_m_trace v_m_typed v_m_next (4 : Int32) v_m_place v_m_value v_m_fault v_m_finds v_m_weeks v_m_rows v_m_cardPrice v_m_lotPrice v_m_sure v_m_up v_m_down v_mx) H := hP
            have hD : va_D A (wo_X10_advances cI cJ a_m a_mt a_ml a_mr a_mx a_mf a_mg a_mw a_mh v_m_thrown v_m_trace v_m_typed v_m_next (4 : Int32) v_m_place v_m_value v_m_fault v_m_finds v_m_weeks v_m_rows v_m_cardPrice v_m_lotPrice v_m_sure v_m_up v_m_down v_mx) := hD
            refine lv_goto (tgt := 266) hx hb dX10_advances_237 (by decide) ?_
            obtain rfl := Option.some.inj hf
            exact pa_ev X hP hD hS dX10_advances_266
          · have hf := (if_neg c_8).symm.trans hf
            refine lv_bipush (v := (6 : Int32)) hx hb dX10_advances_228 (by decide) ?_
            refine lv_goto (tgt := 234) hx hb dX10_advances_230 (by decide) ?_
            refine va_put (D := D) (ci := 9) (v := .int (6 : Int32)) (ty := .int) (C := RX10) (T := TX10) (N := 24) hx hb hts il_X10_advances_X10 tyX10 tyX10_ok nmX10 hown hK hP hD hS 0 rfl rfl 8 (by decide) (hts _ fk_X10_advances_2) (fun _ h9 => h9) rfl (tyX10_ok 8 (by decide)) rfl rfl (Nat.le_of_ble_eq_true rfl) dX10_advances_234 (fun H locs hP hD hS => ?_)
            have hP : va_P D vwCl (wo_X10_advances cI cJ a_m a_mt a_ml a_mr a_mx a_mf a_mg a_mw a_mh v_m_thrown v_m_trace v_m_typed v_m_next (6 : Int32) v_m_place v_m_value v_m_fault v_m_finds v_m_weeks v_m_rows v_m_cardPrice v_m_lotPrice v_m_sure v_m_up v_m_down v_mx) H := hP
            have hD : va_D A (wo_X10_advances cI cJ a_m a_mt a_ml a_mr a_mx a_mf a_mg a_mw a_mh v_m_thrown v_m_trace v_m_typed v_m_next (6 : Int32) v_m_place v_m_value v_m_fault v_m_finds v_m_weeks v_m_rows v_m_cardPrice v_m_lotPrice v_m_sure v_m_up v_m_down v_mx) := hD
            refine lv_goto (tgt := 266) hx hb dX10_advances_237 (by decide) ?_
            obtain rfl := Option.some.inj hf
            exact pa_ev X hP hD hS dX10_advances_266
    · have hf := (if_neg c_5).symm.trans hf
      refine lv_aload_n hx hb dX10_advances_147 rfl (lv_at hl 0 rfl) ?_
      refine lv_aload_n hx hb dX10_advances_148 rfl (lv_at hl 0 rfl) ?_
      refine va_get (D := D) (ci := 9) (v := .int v_m_value) (C := RX10) (T := TX10) (N := 24) hx hb hts il_X10_advances_X10 hown hK hP 0 rfl rfl 10 (by decide) (hts _ fk_X10_advances_1) (fun _ h9 => h9) rfl dX10_advances_149 ?_
      refine lv_bipush (v := (99 : Int32)) hx hb dX10_advances_152 (by decide) ?_
      refine lv_icmp_le (tgt := 164) hx hb dX10_advances_154 (by decide) (fun c_9 => ?_) (fun c_9 => ?_)
      · have hf := (if_pos c_9).symm.trans hf
        refine lv_bipush (v := (10 : Int32)) hx hb dX10_advances_164 (by decide) ?_
        refine lv_aload_n hx hb dX10_advances_166 rfl (lv_at hl 0 rfl) ?_
        refine va_get (D := D) (ci := 9) (v := .int v_m_value) (C := RX10) (T := TX10) (N := 24) hx hb hts il_X10_advances_X10 hown hK hP 0 rfl rfl 10 (by decide) (hts _ fk_X10_advances_1) (fun _ h9 => h9) rfl dX10_advances_167 ?_
        refine lv_imul hx hb dX10_advances_170 ?_
        refine lv_aload_n hx hb dX10_advances_171 rfl (lv_at hl 0 rfl) ?_
        refine lv_aload_n hx hb dX10_advances_172 rfl (lv_at hl 0 rfl) ?_
        refine va_get (D := D) (ci := 9) (v := .int v_m_next) (C := RX10) (T := TX10) (N := 24) hx hb hts il_X10_advances_X10 hown hK hP 0 rfl rfl 7 (by decide) (hts _ fk_X10_advances_0) (fun _ h9 => h9) rfl dX10_advances_173 ?_
        obtain ⟨u_10, hg_11, hf⟩ := pa_bd hf
        refine pa_ki (wc := (wo_X10_byteAt cI cJ a_m a_mt a_ml a_mr a_mx a_mf a_mg a_mw a_mh v_m_thrown v_m_trace v_m_typed v_m_next v_m_token v_m_place v_m_value v_m_fault v_m_finds v_m_weeks v_m_rows v_m_cardPrice v_m_lotPrice v_m_sure v_m_up v_m_down v_mx)) (wr := ([] : va_W)) (w1 := (wo_X10_byteAt cI cJ a_m a_mt a_ml a_mr a_mx a_mf a_mg a_mw a_mh v_m_thrown v_m_trace v_m_typed v_m_next v_m_token v_m_place v_m_value v_m_fault v_m_finds v_m_weeks v_m_rows v_m_cardPrice v_m_lotPrice v_m_sure v_m_up v_m_down v_mx)) (w2 := (wo_X10_advances cI cJ a_m a_mt a_ml a_mr a_mx a_mf a_mg a_mw a_mh v_m_thrown v_m_trace v_m_typed v_m_next v_m_token v_m_place v_m_value v_m_fault v_m_finds v_m_weeks v_m_rows v_m_cardPrice v_m_lotPrice v_m_sure v_m_up v_m_down v_mx)) X hP hD hS [0, 1] [] [0, 1] rfl (pa_rV (As := [.int v_m_next]) (rest := [.int ((10 : Int32) * v_m_value), .ref a_m]) (T := TX10) X hP hD hS [0, 1] rfl rfl (c_X10_byteAt hg_11 H.size) (cwV 1 hts gX10_advances_X10_byteAt rfl rfl rfl (by decide +kernel) ⟨Nat.le_of_ble_eq_true rfl, Nat.le_of_ble_eq_true rfl⟩) (q0 := 0) rfl rfl rfl hl.1 rfl (Nat.le_of_ble_eq_true rfl) dX10_advances_176 ⟨Nat.zero_le _, Nat.zero_le _⟩) rfl rfl (by decide) rfl rfl (fun H locs hP hD hS => ?_)
        refine lv_iadd hx hb dX10_advances_179 ?_
        refine lv_bipush (v := (48 : Int32)) hx hb dX10_advances_180 (by decide) ?_
        refine lv_isub hx hb dX10_advances_182 ?_
        refine va_put (D := D) (ci := 9) (v := .int ((((10 : Int32) * v_m_value) + u_10) - (48 : Int32))) (ty := .int) (C := RX10) (T := TX10) (N := 24) hx hb hts il_X10_advances_X10 tyX10 tyX10_ok nmX10 hown hK hP hD hS 0 rfl rfl 10 (by decide) (hts _ fk_X10_advances_1) (fun _ h9 => h9) rfl (tyX10_ok 10 (by decide)) rfl rfl (Nat.le_of_ble_eq_true rfl) dX10_advances_183 (fun H locs hP hD hS => ?_)
        have hP : va_P D vwCl (wo_X10_advances cI cJ a_m a_mt a_ml a_mr a_mx a_mf a_mg a_mw a_mh v_m_thrown v_m_trace v_m_typed v_m_next v_m_token v_m_place ((((10 : Int32) * v_m_value) + u_10) - (48 : Int32)) v_m_fault v_m_finds v_m_weeks v_m_rows v_m_cardPrice v_m_lotPrice v_m_sure v_m_up v_m_down v_mx) H := hP
        have hD : va_D A (wo_X10_advances cI cJ a_m a_mt a_ml a_mr a_mx a_mf a_mg a_mw a_mh v_m_thrown v_m_trace v_m_typed v_m_next v_m_token v_m_place ((((10 : Int32) * v_m_value) + u_10) - (48 : Int32)) v_m_fault v_m_finds v_m_weeks v_m_rows v_m_cardPrice v_m_lotPrice v_m_sure v_m_up v_m_down v_mx) := hD
        refine lv_aload_n hx hb dX10_advances_186 rfl (lv_at hl 0 rfl) ?_
        refine lv_dup hx hb dX10_advances_187 rfl ?_
        refine va_get (D := D) (ci := 9) (v := .int v_m_next) (C := RX10) (T := TX10) (N := 24) hx hb hts il_X10_advances_X10 hown hK hP 0 rfl rfl 7 (by decide) (hts _ fk_X10_advances_0) (fun _ h9 => h9) rfl dX10_advances_188 ?_
        refine lv_iconst (v := (1 : Int32)) hx hb dX10_advances_191 (by decide) ?_
        refine lv_iadd hx hb dX10_advances_192 ?_
        refine va_put (D := D) (ci := 9) (v := .int (v_m_next + (1 : Int32))) (ty := .int) (C := RX10) (T := TX10) (N := 24) hx hb hts il_X10_advances_X10 tyX10 tyX10_ok nmX10 hown hK hP hD hS 0 rfl rfl 7 (by decide) (hts _ fk_X10_advances_0) (fun _ h9 => h9) rfl (tyX10_ok 7 (by decide)) rfl rfl (Nat.le_of_ble_eq_true rfl) dX10_advances_193 (fun H locs hP hD hS => ?_)
        have hP : va_P D vwCl (wo_X10_advances cI cJ a_m a_mt a_ml a_mr a_mx a_mf a_mg a_mw a_mh v_m_thrown v_m_trace v_m_typed (v_m_next + (1 : Int32)) v_m_token v_m_place ((((10 : Int32) * v_m_value) + u_10) - (48 : Int32)) v_m_fault v_m_finds v_m_weeks v_m_rows v_m_cardPrice v_m_lotPrice v_m_sure v_m_up v_m_down v_mx) H := hP
        have hD : va_D A (wo_X10_advances cI cJ a_m a_mt a_ml a_mr a_mx a_mf a_mg a_mw a_mh v_m_thrown v_m_trace v_m_typed (v_m_next + (1 : Int32)) v_m_token v_m_place ((((10 : Int32) * v_m_value) + u_10) - (48 : Int32)) v_m_fault v_m_finds v_m_weeks v_m_rows v_m_cardPrice v_m_lotPrice v_m_sure v_m_up v_m_down v_mx) := hD
        refine lv_goto (tgt := 129) hx hb dX10_advances_196 (by decide) ?_
        exact hrec129 _ _ hf _ _ _ hP hD hS _ (lv_sub hl [0, 1] rfl)
      · have hf := (if_neg c_9).symm.trans hf
        refine lv_aload_n hx hb dX10_advances_157 rfl (lv_at hl 0 rfl) ?_
        refine va_get (D := D) (ci := 9) (v := .int v_m_value) (C := RX10) (T := TX10) (N := 24) hx hb hts il_X10_advances_X10 hown hK hP 0 rfl rfl 10 (by decide) (hts _ fk_X10_advances_1) (fun _ h9 => h9) rfl dX10_advances_158 ?_
        refine lv_goto (tgt := 183) hx hb dX10_advances_161 (by decide) ?_
        refine va_put (D := D) (ci := 9) (v := .int v_m_value) (ty := .int) (C := RX10) (T := TX10) (N := 24) hx hb hts il_X10_advances_X10 tyX10 tyX10_ok nmX10 hown hK hP hD hS 0 rfl rfl 10 (by decide) (hts _ fk_X10_advances_1) (fun _ h9 => h9) rfl (tyX10_ok 10 (by decide)) rfl rfl (Nat.le_of_ble_eq_true rfl) dX10_advances_183 (fun H locs hP hD hS => ?_)
        have hP : va_P D vwCl (wo_X10_advances cI cJ a_m a_mt a_ml a_mr a_mx a_mf a_mg a_mw a_mh v_m_thrown v_m_trace v_m_typed v_m_next v_m_token v_m_place v_m_value v_m_fault v_m_finds v_m_weeks v_m_rows v_m_cardPrice v_m_lotPrice v_m_sure v_m_up v_m_down v_mx) H := hP
        have hD : va_D A (wo_X10_advances cI cJ a_m a_mt a_ml a_mr a_mx a_mf a_mg a_mw a_mh v_m_thrown v_m_trace v_m_typed v_m_next v_m_token v_m_place v_m_value v_m_fault v_m_finds v_m_weeks v_m_rows v_m_cardPrice v_m_lotPrice v_m_sure v_m_up v_m_down v_mx) := hD
        refine lv_aload_n hx hb dX10_advances_186 rfl (lv_at hl 0 rfl) ?_
        refine lv_dup hx hb dX10_advances_187 rfl ?_
        refine va_get (D := D) (ci := 9) (v := .int v_m_next) (C := RX10) (T := TX10) (N := 24) hx hb hts il_X10_advances_X10 hown hK hP 0 rfl rfl 7 (by decide) (hts _ fk_X10_advances_0) (fun _ h9 => h9) rfl dX10_advances_188 ?_
        refine lv_iconst (v := (1 : Int32)) hx hb dX10_advances_191 (by decide) ?_
        refine lv_iadd hx hb dX10_advances_192 ?_
        refine va_put (D := D) (ci := 9) (v := .int (v_m_next + (1 : Int32))) (ty := .int) (C := RX10) (T := TX10) (N := 24) hx hb hts il_X10_advances_X10 tyX10 tyX10_ok nmX10 hown hK hP hD hS 0 rfl rfl 7 (by decide) (hts _ fk_X10_advances_0) (fun _ h9 => h9) rfl (tyX10_ok 7 (by decide)) rfl rfl (Nat.le_of_ble_eq_true rfl) dX10_advances_193 (fun H locs hP hD hS => ?_)
        have hP : va_P D vwCl (wo_X10_advances cI cJ a_m a_mt a_ml a_mr a_mx a_mf a_mg a_mw a_mh v_m_thrown v_m_trace v_m_typed (v_m_next + (1 : Int32)) v_m_token v_m_place v_m_value v_m_fault v_m_finds v_m_weeks v_m_rows v_m_cardPrice v_m_lotPrice v_m_sure v_m_up v_m_down v_mx) H := hP
        have hD : va_D A (wo_X10_advances cI cJ a_m a_mt a_ml a_mr a_mx a_mf a_mg a_mw a_mh v_m_thrown v_m_trace v_m_typed (v_m_next + (1 : Int32)) v_m_token v_m_place v_m_value v_m_fault v_m_finds v_m_weeks v_m_rows v_m_cardPrice v_m_lotPrice v_m_sure v_m_up v_m_down v_mx) := hD
        refine lv_goto (tgt := 129) hx hb dX10_advances_196 (by decide) ?_
        exact hrec129 _ _ hf _ _ _ hP hD hS _ (lv_sub hl [0, 1] rfl)
set_option maxHeartbeats 4000000 in
set_option maxRecDepth 100000 in
theorem w_X10_advances_L66 {l : Launch} {D : va_G} {cI cJ : ClassId} {g : pa_GT} {a_m a_mt a_ml a_mr a_mx a_mf a_mg a_mw a_mh : Nat} {A : Nat → Prop} {p : Program} {e : Env} {s : State} {m : MethodId} {args : Array Value} {below : List Frame} {meth : Method} {c : Code} {v_m_typed : Int32} {v_m_token : Int32} {v_m_place : Int32} {v_m_value : Int32} {v_mx : Nat → Int32} {v_m_thrown : Int32} {v_m_trace : Int64} {v_m_fault : Int32} {v_m_finds : Int32} {v_m_weeks : Int32} {v_m_rows : Int32} {v_m_cardPrice : Int32} {v_m_lotPrice : Int32} {v_m_sure : Int32} {v_m_up : Int64} {v_m_down : Int64} {o : Int32 × Int32 × Int32 × Int32} (X : pa_X cX10_advances 2 none RX10 wsX10_advances D cI cJ g A p s m args meth c)  : ∀ (n : Nat) (v_m_next : Int32), f_X10_advances_L66 v_m_typed v_m_token v_m_place v_m_value v_mx n v_m_next = some o → ∀ (H : Heap) (locs : List Loc) , va_P D vwCl (wo_X10_advances cI cJ a_m a_mt a_ml a_mr a_mx a_mf a_mg a_mw a_mh v_m_thrown v_m_trace v_m_typed v_m_next v_m_token v_m_place v_m_value v_m_fault v_m_finds v_m_weeks v_m_rows v_m_cardPrice v_m_lotPrice v_m_sure v_m_up v_m_down v_mx) H → va_D A (wo_X10_advances cI cJ a_m a_mt a_ml a_mr a_mx a_mf a_mg a_mw a_mh v_m_thrown v_m_trace v_m_typed v_m_next v_m_token v_m_place v_m_value v_m_fault v_m_finds v_m_weeks v_m_rows v_m_cardPrice v_m_lotPrice v_m_sure v_m_up v_m_down v_mx) → va_S A s.heap H locs → ∀ (ls : Array Slot), lv_has ls 2 [(0, .ref a_m)] → W p l e (headSpec wsX10_advances rm_X10_advances).room s m args below meth c H locs 0 0 (MQ below (va_Qv (fun (_ : Unit) => True) (pa_QB D A (wo_X10_advances cI cJ a_m a_mt a_ml a_mr a_mx a_mf a_mg a_mw a_mh v_m_thrown v_m_trace v_m_typed o.1 o.2.1 o.2.2.1 o.2.2.2 v_m_fault v_m_finds v_m_weeks v_m_rows v_m_cardPrice v_m_lotPrice v_m_sure v_m_up v_m_down v_mx)) A) args s 0 0 A) (F0 m 66 ls []) := by
  obtain ⟨hx, hb, hr, hml, hown, hts, hK, hA, hG, hlk⟩ := id X
  intro n
  induction n with
  | zero =>
    intro v_m_next hf
    have hf : (none : Option (Int32 × Int32 × Int32 × Int32)) = some o := hf
    cases hf
  | succ n hrec66 =>
    intro v_m_next hf H locs  hP hD hS ls hl
    have hf : f_X10_advances_L66_body v_m_typed v_m_token v_m_place v_m_value v_mx (f_X10_advances_L66 v_m_typed v_m_token v_m_place v_m_value v_mx n) v_m_next = some o := hf
    delta f_X10_advances_L66_body at hf
    generalize hgr : f_X10_advances_L66 v_m_typed v_m_token v_m_place v_m_value v_mx n = rec66 at hf hrec66
    refine lv_aload_n hx hb dX10_advances_66 rfl (lv_at hl 0 rfl) ?_
    refine lv_aload_n hx hb dX10_advances_67 rfl (lv_at hl 0 rfl) ?_
    refine va_get (D := D) (ci := 9) (v := .int v_m_next) (C := RX10) (T := TX10) (N := 24) hx hb hts il_X10_advances_X10 hown hK hP 0 rfl rfl 7 (by decide) (hts _ fk_X10_advances_0) (fun _ h9 => h9) rfl dX10_advances_68 ?_
    obtain ⟨u_12, hg_13, hf⟩ := pa_bd hf
    refine pa_ki (wc := (wo_X10_byteAt cI cJ a_m a_mt a_ml a_mr a_mx a_mf a_mg a_mw a_mh v_m_thrown v_m_trace v_m_typed v_m_next v_m_token v_m_place v_m_value v_m_fault v_m_finds v_m_weeks v_m_rows v_m_cardPrice v_m_lotPrice v_m_sure v_m_up v_m_down v_mx)) (wr := ([] : va_W)) (w1 := (wo_X10_byteAt cI cJ a_m a_mt a_ml a_mr a_mx a_mf a_mg a_mw a_mh v_m_thrown v_m_trace v_m_typed v_m_next v_m_token v_m_place v_m_value v_m_fault v_m_finds v_m_weeks v_m_rows v_m_cardPrice v_m_lotPrice v_m_sure v_m_up v_m_down v_mx)) (w2 := (wo_X10_advances cI cJ a_m a_mt a_ml a_mr a_mx a_mf a_mg a_mw a_mh v_m_thrown v_m_trace v_m_typed v_m_next v_m_token v_m_place v_m_value v_m_fault v_m_finds v_m_weeks v_m_rows v_m_cardPrice v_m_lotPrice v_m_sure v_m_up v_m_down v_mx)) X hP hD hS [0, 1] [] [0, 1] rfl (pa_rV (As := [.int v_m_next]) (rest := []) (T := TX10) X hP hD hS [0, 1] rfl rfl (c_X10_byteAt hg_13 H.size) (cwV 1 hts gX10_advances_X10_byteAt rfl rfl rfl (by decide +kernel) ⟨Nat.le_of_ble_eq_true rfl, Nat.le_of_ble_eq_true rfl⟩) (q0 := 0) rfl rfl rfl hl.1 rfl (Nat.le_of_ble_eq_true rfl) dX10_advances_71 ⟨Nat.zero_le _, Nat.zero_le _⟩) rfl rfl (by decide) rfl rfl (fun H locs hP hD hS => ?_)
    refine lv_bipush (v := (97 : Int32)) hx hb dX10_advances_74 (by decide) ?_
    refine lv_bipush (v := (122 : Int32)) hx hb dX10_advances_76 (by decide) ?_
    obtain ⟨u_14, hg_15, hf⟩ := pa_bd hf
    refine pa_ki (wc := ([] : va_W)) (wr := [(a_m, .inr (9, [.int v_m_thrown, .long v_m_trace, .ref a_mt, .ref a_ml, .ref a_mr, .ref a_mx, .int v_m_typed, .int v_m_next, .int v_m_token, .int v_m_place, .int v_m_value, .int v_m_fault, .int v_m_finds, .ref a_mf, .ref a_mg, .int v_m_weeks, .ref a_mw, .int v_m_rows, .ref a_mh, .int v_m_cardPrice, .int v_m_lotPrice, .int v_m_sure, .long v_m_up, .long v_m_down])), (a_mx, .inl (cI, 300, .inl v_mx))]) (w1 := ([] : va_W)) (w2 := (wo_X10_advances cI cJ a_m a_mt a_ml a_mr a_mx a_mf a_mg a_mw a_mh v_m_thrown v_m_trace v_m_typed v_m_next v_m_token v_m_place v_m_value v_m_fault v_m_finds v_m_weeks v_m_rows v_m_cardPrice v_m_lotPrice v_m_sure v_m_up v_m_down v_mx)) X hP hD hS [] [0, 1] [0, 1] rfl (pa_rS (As := [.int u_12, .int (97 : Int32), .int (122 : Int32)]) (rest := []) X hP hD hS [] rfl rfl (c_X10_in hg_15 H.size) (va_cwS 3 hts gX10_advances_X10_in rfl rfl rfl (by decide +kernel) ⟨Nat.le_of_ble_eq_true rfl, Nat.le_of_ble_eq_true rfl⟩) rfl hl.1 rfl (Nat.le_of_ble_eq_true rfl) dX10_advances_78 ⟨Nat.zero_le _, Nat.zero_le _⟩) rfl rfl (by decide) rfl rfl (fun H locs hP hD hS => ?_)
    refine lv_if_eq (tgt := 97) hx hb dX10_advances_81 (by decide) (fun c_16 => ?_) (fun c_16 => ?_)
    · have hf := (if_pos c_16).symm.trans hf
      refine lv_aload_n hx hb dX10_advances_97 rfl (lv_at hl 0 rfl) ?_
      refine lv_aload_n hx hb dX10_advances_98 rfl (lv_at hl 0 rfl) ?_
      refine va_get (D := D) (ci := 9) (v := .int v_m_next) (C := RX10) (T := TX10) (N := 24) hx hb hts il_X10_advances_X10 hown hK hP 0 rfl rfl 7 (by decide) (hts _ fk_X10_advances_0) (fun _ h9 => h9) rfl dX10_advances_99 ?_
      refine lv_aload_n hx hb dX10_advances_102 rfl (lv_at hl 0 rfl) ?_
      refine va_get (D := D) (ci := 9) (v := .int v_m_place) (C := RX10) (T := TX10) (N := 24) hx hb hts il_X10_advances_X10 hown hK hP 0 rfl rfl 9 (by decide) (hts _ fk_X10_advances_3) (fun _ h9 => h9) rfl dX10_advances_103 ?_
      refine lv_isub hx hb dX10_advances_106 ?_
      obtain ⟨u_17, hg_18, hf⟩ := pa_bd hf
      refine pa_kv (wc := (wo_X10_words cI cJ a_m a_mt a_ml a_mr a_mx a_mf a_mg a_mw a_mh v_m_thrown v_m_trace v_m_typed v_m_next v_m_token v_m_place v_m_value v_m_fault v_m_finds v_m_weeks v_m_rows v_m_cardPrice v_m_lotPrice v_m_sure v_m_up v_m_down v_mx)) (wr := ([] : va_W)) (w1 := (wo_X10_words cI cJ a_m a_mt a_ml a_mr a_mx a_mf a_mg a_mw a_mh v_m_thrown v_m_trace v_m_typed v_m_next u_17.1 v_m_place u_17.2 v_m_fault v_m_finds v_m_weeks v_m_rows v_m_cardPrice v_m_lotPrice v_m_sure v_m_up v_m_down v_mx)) (w2 := (wo_X10_advances cI cJ a_m a_mt a_ml a_mr a_mx a_mf a_mg a_mw a_mh v_m_thrown v_m_trace v_m_typed v_m_next u_17.1 v_m_place u_17.2 v_m_fault v_m_finds v_m_weeks v_m_rows v_m_cardPrice v_m_lotPrice v_m_sure v_m_up v_m_down v_mx)) X hP hD hS [0, 1] [] [0, 1] rfl (pa_rV (As := [.int (v_m_next - v_m_place)]) (rest := []) (T := TX10) X hP hD hS [0, 1] rfl rfl (c_X10_words hg_18 H.size) (cwV 1 hts gX10_advances_X10_words rfl rfl rfl (by decide +kernel) ⟨Nat.le_of_ble_eq_true rfl, Nat.le_of_ble_eq_true rfl⟩) (q0 := 0) rfl rfl rfl hl.1 rfl (Nat.le_of_ble_eq_true rfl) dX10_advances_107 ⟨Nat.zero_le _, Nat.zero_le _⟩) rfl rfl (by decide) rfl rfl (fun H locs hP hD hS => ?_)
      refine lv_goto (tgt := 266) hx hb dX10_advances_110 (by decide) ?_
      obtain rfl := Option.some.inj hf
      exact pa_ev X hP hD hS dX10_advances_266
    · have hf := (if_neg c_16).symm.trans hf
      refine lv_aload_n hx hb dX10_advances_84 rfl (lv_at hl 0 rfl) ?_
      refine lv_dup hx hb dX10_advances_85 rfl ?_
      refine va_get (D := D) (ci := 9) (v := .int v_m_next) (C := RX10) (T := TX10) (N := 24) hx hb hts il_X10_advances_X10 hown hK hP 0 rfl rfl 7 (by decide) (hts _ fk_X10_advances_0) (fun _ h9 => h9) rfl dX10_advances_86 ?_
      refine lv_iconst (v := (1 : Int32)) hx hb dX10_advances_89 (by decide) ?_
      refine lv_iadd hx hb dX10_advances_90 ?_
      refine va_put (D := D) (ci := 9) (v := .int (v_m_next + (1 : Int32))) (ty := .int) (C := RX10) (T := TX10) (N := 24) hx hb hts il_X10_advances_X10 tyX10 tyX10_ok nmX10 hown hK hP hD hS 0 rfl rfl 7 (by decide) (hts _ fk_X10_advances_0) (fun _ h9 => h9) rfl (tyX10_ok 7 (by decide)) rfl rfl (Nat.le_of_ble_eq_true rfl) dX10_advances_91 (fun H locs hP hD hS => ?_)
      have hP : va_P D vwCl (wo_X10_advances cI cJ a_m a_mt a_ml a_mr a_mx a_mf a_mg a_mw a_mh v_m_thrown v_m_trace v_m_typed (v_m_next + (1 : Int32)) v_m_token v_m_place v_m_value v_m_fault v_m_finds v_m_weeks v_m_rows v_m_cardPrice v_m_lotPrice v_m_sure v_m_up v_m_down v_mx) H := hP
      have hD : va_D A (wo_X10_advances cI cJ a_m a_mt a_ml a_mr a_mx a_mf a_mg a_mw a_mh v_m_thrown v_m_trace v_m_typed (v_m_next + (1 : Int32)) v_m_token v_m_place v_m_value v_m_fault v_m_finds v_m_weeks v_m_rows v_m_cardPrice v_m_lotPrice v_m_sure v_m_up v_m_down v_mx) := hD
      refine lv_goto (tgt := 66) hx hb dX10_advances_94 (by decide) ?_
      exact hrec66 _ hf _ _  hP hD hS _ (lv_sub hl [0] rfl)
set_option maxHeartbeats 4000000 in
set_option maxRecDepth 100000 in
theorem w_X10_advances_L0 {l : Launch} {D : va_G} {cI cJ : ClassId} {g : pa_GT} {a_m a_mt a_ml a_mr a_mx a_mf a_mg a_mw a_mh : Nat} {A : Nat → Prop} {p : Program} {e : Env} {s : State} {m : MethodId} {args : Array Value} {below : List Frame} {meth : Method} {c : Code} {v_m_typed : Int32} {v_m_token : Int32} {v_m_value : Int32} {v_mx : Nat → Int32} {v_m_thrown : Int32} {v_m_trace : Int64} {v_m_fault : Int32} {v_m_finds : Int32} {v_m_weeks : Int32} {v_m_rows : Int32} {v_m_cardPrice : Int32} {v_m_lotPrice : Int32} {v_m_sure : Int32} {v_m_up : Int64} {v_m_down : Int64} {o : Int32 × Int32 × Int32 × Int32} (X : pa_X cX10_advances 2 none RX10 wsX10_advances D cI cJ g A p s m args meth c)  : ∀ (n : Nat) (v_m_next : Int32), f_X10_advances_L0 v_m_typed v_m_token v_m_value v_mx n v_m_next = some o → ∀ (H : Heap) (locs : List Loc) (v_m_place : Int32), va_P D vwCl (wo_X10_advances cI cJ a_m a_mt a_ml a_mr a_mx a_mf a_mg a_mw a_mh v_m_thrown v_m_trace v_m_typed v_m_next v_m_token v_m_place v_m_value v_m_fault v_m_finds v_m_weeks v_m_rows v_m_cardPrice v_m_lotPrice v_m_sure v_m_up v_m_down v_mx) H → va_D A (wo_X10_advances cI cJ a_m a_mt a_ml a_mr a_mx a_mf a_mg a_mw a_mh v_m_thrown v_m_trace v_m_typed v_m_next v_m_token v_m_place v_m_value v_m_fault v_m_finds v_m_weeks v_m_rows v_m_cardPrice v_m_lotPrice v_m_sure v_m_up v_m_down v_mx) → va_S A s.heap H locs → ∀ (ls : Array Slot), lv_has ls 2 [(0, .ref a_m)] → W p l e (headSpec wsX10_advances rm_X10_advances).room s m args below meth c H locs 0 0 (MQ below (va_Qv (fun (_ : Unit) => True) (pa_QB D A (wo_X10_advances cI cJ a_m a_mt a_ml a_mr a_mx a_mf a_mg a_mw a_mh v_m_thrown v_m_trace v_m_typed o.1 o.2.1 o.2.2.1 o.2.2.2 v_m_fault v_m_finds v_m_weeks v_m_rows v_m_cardPrice v_m_lotPrice v_m_sure v_m_up v_m_down v_mx)) A) args s 0 0 A) (F0 m 0 ls []) := by
  obtain ⟨hx, hb, hr, hml, hown, hts, hK, hA, hG, hlk⟩ := id X
  intro n
  induction n with
  | zero =>
    intro v_m_next hf
    have hf : (none : Option (Int32 × Int32 × Int32 × Int32)) = some o := hf
    cases hf
  | succ n hrec0 =>
    intro v_m_next hf H locs v_m_place hP hD hS ls hl
    have hf : f_X10_advances_L0_body v_m_typed v_m_token v_m_value v_mx (f_X10_advances_L0 v_m_typed v_m_token v_m_value v_mx n) v_m_next = some o := hf
    delta f_X10_advances_L0_body at hf
    generalize hgr : f_X10_advances_L0 v_m_typed v_m_token v_m_value v_mx n = rec0 at hf hrec0
    refine lv_aload_n hx hb dX10_advances_0 rfl (lv_at hl 0 rfl) ?_
    refine lv_aload_n hx hb dX10_advances_1 rfl (lv_at hl 0 rfl) ?_
    refine va_get (D := D) (ci := 9) (v := .int v_m_next) (C := RX10) (T := TX10) (N := 24) hx hb hts il_X10_advances_X10 hown hK hP 0 rfl rfl 7 (by decide) (hts _ fk_X10_advances_0) (fun _ h9 => h9) rfl dX10_advances_2 ?_
    obtain ⟨u_19, hg_20, hf⟩ := pa_bd hf
    refine pa_ki (wc := (wo_X10_byteAt cI cJ a_m a_mt a_ml a_mr a_mx a_mf a_mg a_mw a_mh v_m_thrown v_m_trace v_m_typed v_m_next v_m_token v_m_place v_m_value v_m_fault v_m_finds v_m_weeks v_m_rows v_m_cardPrice v_m_lotPrice v_m_sure v_m_up v_m_down v_mx)) (wr := ([] : va_W)) (w1 := (wo_X10_byteAt cI cJ a_m a_mt a_ml a_mr a_mx a_mf a_mg a_mw a_mh v_m_thrown v_m_trace v_m_typed v_m_next v_m_token v_m_place v_m_value v_m_fault v_m_finds v_m_weeks v_m_rows v_m_cardPrice v_m_lotPrice v_m_sure v_m_up v_m_down v_mx)) (w2 := (wo_X10_advances cI cJ a_m a_mt a_ml a_mr a_mx a_mf a_mg a_mw a_mh v_m_thrown v_m_trace v_m_typed v_m_next v_m_token v_m_place v_m_value v_m_fault v_m_finds v_m_weeks v_m_rows v_m_cardPrice v_m_lotPrice v_m_sure v_m_up v_m_down v_mx)) X hP hD hS [0, 1] [] [0, 1] rfl (pa_rV (As := [.int v_m_next]) (rest := []) (T := TX10) X hP hD hS [0, 1] rfl rfl (c_X10_byteAt hg_20 H.size) (cwV 1 hts gX10_advances_X10_byteAt rfl rfl rfl (by decide +kernel) ⟨Nat.le_of_ble_eq_true rfl, Nat.le_of_ble_eq_true rfl⟩) (q0 := 0) rfl rfl rfl hl.1 rfl (Nat.le_of_ble_eq_true rfl) dX10_advances_5 ⟨Nat.zero_le _, Nat.zero_le _⟩) rfl rfl (by decide) rfl rfl (fun H locs hP hD hS => ?_)
    refine lv_bipush (v := (32 : Int32)) hx hb dX10_advances_8 (by decide) ?_
    refine lv_icmp_ne (tgt := 26) hx hb dX10_advances_10 (by decide) (fun c_21 => ?_) (fun c_21 => ?_)
    · have hf := (if_neg c_21).symm.trans hf
      refine lv_aload_n hx hb dX10_advances_26 rfl (lv_at hl 0 rfl) ?_
      refine lv_aload_n hx hb dX10_advances_27 rfl (lv_at hl 0 rfl) ?_
      refine va_get (D := D) (ci := 9) (v := .int v_m_next) (C := RX10) (T := TX10) (N := 24) hx hb hts il_X10_advances_X10 hown hK hP 0 rfl rfl 7 (by decide) (hts _ fk_X10_advances_0) (fun _ h9 => h9) rfl dX10_advances_28 ?_
      refine va_put (D := D) (ci := 9) (v := .int v_m_next) (ty := .int) (C := RX10) (T := TX10) (N := 24) hx hb hts il_X10_advances_X10 tyX10 tyX10_ok nmX10 hown hK hP hD hS 0 rfl rfl 9 (by decide) (hts _ fk_X10_advances_3) (fun _ h9 => h9) rfl (tyX10_ok 9 (by decide)) rfl rfl (Nat.le_of_ble_eq_true rfl) dX10_advances_31 (fun H locs hP hD hS => ?_)
      have hP : va_P D vwCl (wo_X10_advances cI cJ a_m a_mt a_ml a_mr a_mx a_mf a_mg a_mw a_mh v_m_thrown v_m_trace v_m_typed v_m_next v_m_token v_m_next v_m_value v_m_fault v_m_finds v_m_weeks v_m_rows v_m_cardPrice v_m_lotPrice v_m_sure v_m_up v_m_down v_mx) H := hP
      have hD : va_D A (wo_X10_advances cI cJ a_m a_mt a_ml a_mr a_mx a_mf a_mg a_mw a_mh v_m_thrown v_m_trace v_m_typed v_m_next v_m_token v_m_next v_m_value v_m_fault v_m_finds v_m_weeks v_m_rows v_m_cardPrice v_m_lotPrice v_m_sure v_m_up v_m_down v_mx) := hD
      refine lv_aload_n hx hb dX10_advances_34 rfl (lv_at hl 0 rfl) ?_
      refine lv_aload_n hx hb dX10_advances_35 rfl (lv_at hl 0 rfl) ?_
      refine va_get (D := D) (ci := 9) (v := .int v_m_next) (C := RX10) (T := TX10) (N := 24) hx hb hts il_X10_advances_X10 hown hK hP 0 rfl rfl 7 (by decide) (hts _ fk_X10_advances_0) (fun _ h9 => h9) rfl dX10_advances_36 ?_
      obtain ⟨u_22, hg_23, hf⟩ := pa_bd hf
      refine pa_ki (wc := (wo_X10_byteAt cI cJ a_m a_mt a_ml a_mr a_mx a_mf a_mg a_mw a_mh v_m_thrown v_m_trace v_m_typed v_m_next v_m_token v_m_next v_m_value v_m_fault v_m_finds v_m_weeks v_m_rows v_m_cardPrice v_m_lotPrice v_m_sure v_m_up v_m_down v_mx)) (wr := ([] : va_W)) (w1 := (wo_X10_byteAt cI cJ a_m a_mt a_ml a_mr a_mx a_mf a_mg a_mw a_mh v_m_thrown v_m_trace v_m_typed v_m_next v_m_token v_m_next v_m_value v_m_fault v_m_finds v_m_weeks v_m_rows v_m_cardPrice v_m_lotPrice v_m_sure v_m_up v_m_down v_mx)) (w2 := (wo_X10_advances cI cJ a_m a_mt a_ml a_mr a_mx a_mf a_mg a_mw a_mh v_m_thrown v_m_trace v_m_typed v_m_next v_m_token v_m_next v_m_value v_m_fault v_m_finds v_m_weeks v_m_rows v_m_cardPrice v_m_lotPrice v_m_sure v_m_up v_m_down v_mx)) X hP hD hS [0, 1] [] [0, 1] rfl (pa_rV (As := [.int v_m_next]) (rest := []) (T := TX10) X hP hD hS [0, 1] rfl rfl (c_X10_byteAt hg_23 H.size) (cwV 1 hts gX10_advances_X10_byteAt rfl rfl rfl (by decide +kernel) ⟨Nat.le_of_ble_eq_true rfl, Nat.le_of_ble_eq_true rfl⟩) (q0 := 0) rfl rfl rfl hl.1 rfl (Nat.le_of_ble_eq_true rfl) dX10_advances_39 ⟨Nat.zero_le _, Nat.zero_le _⟩) rfl rfl (by decide) rfl rfl (fun H locs hP hD hS => ?_)
      refine lv_istore_n (lv' := [(1, .int u_22), (0, .ref a_m)]) hx hb dX10_advances_42 rfl hl (by decide) rfl (fun ls hl => ?_)
      refine lv_iload_n hx hb dX10_advances_43 rfl (lv_at hl 0 rfl) ?_
      refine lv_if_ge (tgt := 55) hx hb dX10_advances_44 (by decide) (fun c_24 => ?_) (fun c_24 => ?_)
      · have hf := (if_pos c_24).symm.trans hf
        refine lv_iload_n hx hb dX10_advances_55 rfl (lv_at hl 0 rfl) ?_
        refine lv_bipush (v := (97 : Int32)) hx hb dX10_advances_56 (by decide) ?_
        refine lv_bipush (v := (122 : Int32)) hx hb dX10_advances_58 (by decide) ?_
        obtain ⟨u_25, hg_26, hf⟩ := pa_bd hf
        refine pa_ki (wc := ([] : va_W)) (wr := [(a_m, .inr (9, [.int v_m_thrown, .long v_m_trace, .ref a_mt, .ref a_ml, .ref a_mr, .ref a_mx, .int v_m_typed, .int v_m_next, .int v_m_token, .int v_m_next, .int v_m_value, .int v_m_fault, .int v_m_finds, .ref a_mf, .ref a_mg, .int v_m_weeks, .ref a_mw, .int v_m_rows, .ref a_mh, .int v_m_cardPrice, .int v_m_lotPrice, .int v_m_sure, .long v_m_up, .long v_m_down])), (a_mx, .inl (cI, 300, .inl v_mx))]) (w1 := ([] : va_W)) (w2 := (wo_X10_advances cI cJ a_m a_mt a_ml a_mr a_mx a_mf a_mg a_mw a_mh v_m_thrown v_m_trace v_m_typed v_m_next v_m_token v_m_next v_m_value v_m_fault v_m_finds v_m_weeks v_m_rows v_m_cardPrice v_m_lotPrice v_m_sure v_m_up v_m_down v_mx)) X hP hD hS [] [0, 1] [0, 1] rfl (pa_rS (As := [.int u_22, .int (97 : Int32), .int (122 : Int32)]) (rest := []) X hP hD hS [] rfl rfl (c_X10_in hg_26 H.size) (va_cwS 3 hts gX10_advances_X10_in rfl rfl rfl (by decide +kernel) ⟨Nat.le_of_ble_eq_true rfl, Nat.le_of_ble_eq_true rfl⟩) rfl hl.1 rfl (Nat.le_of_ble_eq_true rfl) dX10_advances_60 ⟨Nat.zero_le _, Nat.zero_le _⟩) rfl rfl (by decide) rfl rfl (fun H locs hP hD hS => ?_)
        refine lv_if_eq (tgt := 113) hx hb dX10_advances_63 (by decide) (fun c_27 => ?_) (fun c_27 => ?_)
        · have hf := (if_pos c_27).symm.trans hf
          refine lv_iload_n hx hb dX10_advances_113 rfl (lv_at hl 0 rfl) ?_
          refine lv_bipush (v := (48 : Int32)) hx hb dX10_advances_114 (by decide) ?_
          refine lv_bipush (v := (57 : Int32)) hx hb dX10_advances_116 (by decide) ?_
          obtain ⟨u_28, hg_29, hf⟩ := pa_bd hf
          refine pa_ki (wc := ([] : va_W)) (wr := [(a_m, .inr (9, [.int v_m_thrown, .long v_m_trace, .ref a_mt, .ref a_ml, .ref a_mr, .ref a_mx, .int v_m_typed, .int v_m_next, .int v_m_token, .int v_m_next, .int v_m_value, .int v_m_fault, .int v_m_finds, .ref a_mf, .ref a_mg, .int v_m_weeks, .ref a_mw, .int v_m_rows, .ref a_mh, .int v_m_cardPrice, .int v_m_lotPrice, .int v_m_sure, .long v_m_up, .long v_m_down])), (a_mx, .inl (cI, 300, .inl v_mx))]) (w1 := ([] : va_W)) (w2 := (wo_X10_advances cI cJ a_m a_mt a_ml a_mr a_mx a_mf a_mg a_mw a_mh v_m_thrown v_m_trace v_m_typed v_m_next v_m_token v_m_next v_m_value v_m_fault v_m_finds v_m_weeks v_m_rows v_m_cardPrice v_m_lotPrice v_m_sure v_m_up v_m_down v_mx)) X hP hD hS [] [0, 1] [0, 1] rfl (pa_rS (As := [.int u_22, .int (48 : Int32), .int (57 : Int32)]) (rest := []) X hP hD hS [] rfl rfl (c_X10_in hg_29 H.size) (va_cwS 3 hts gX10_advances_X10_in rfl rfl rfl (by decide +kernel) ⟨Nat.le_of_ble_eq_true rfl, Nat.le_of_ble_eq_true rfl⟩) rfl hl.1 rfl (Nat.le_of_ble_eq_true rfl) dX10_advances_118 ⟨Nat.zero_le _, Nat.zero_le _⟩) rfl rfl (by decide) rfl rfl (fun H locs hP hD hS => ?_)
          refine lv_if_eq (tgt := 240) hx hb dX10_advances_121 (by decide) (fun c_30 => ?_) (fun c_30 => ?_)
          · have hf := (if_pos c_30).symm.trans hf
            refine lv_aload_n hx hb dX10_advances_240 rfl (lv_at hl 1 rfl) ?_
            refine lv_dup hx hb dX10_advances_241 rfl ?_
            refine va_get (D := D) (ci := 9) (v := .int v_m_next) (C := RX10) (T := TX10) (N := 24) hx hb hts il_X10_advances_X10 hown hK hP 0 rfl rfl 7 (by decide) (hts _ fk_X10_advances_0) (fun _ h9 => h9) rfl dX10_advances_242 ?_
            refine lv_iconst (v := (1 : Int32)) hx hb dX10_advances_245 (by decide) ?_
            refine lv_iadd hx hb dX10_advances_246 ?_
            refine va_put (D := D) (ci := 9) (v := .int (v_m_next + (1 : Int32))) (ty := .int) (C := RX10) (T := TX10) (N := 24) hx hb hts il_X10_advances_X10 tyX10 tyX10_ok nmX10 hown hK hP hD hS 0 rfl rfl 7 (by decide) (hts _ fk_X10_advances_0) (fun _ h9 => h9) rfl (tyX10_ok 7 (by decide)) rfl rfl (Nat.le_of_ble_eq_true rfl) dX10_advances_247 (fun H locs hP hD hS => ?_)
            have hP : va_P D vwCl (wo_X10_advances cI cJ a_m a_mt a_ml a_mr a_mx a_mf a_mg a_mw a_mh v_m_thrown v_m_trace v_m_typed (v_m_next + (1 : Int32)) v_m_token v_m_next v_m_value v_m_fault v_m_finds v_m_weeks v_m_rows v_m_cardPrice v_m_lotPrice v_m_sure v_m_up v_m_down v_mx) H := hP
            have hD : va_D A (wo_X10_advances cI cJ a_m a_mt a_ml a_mr a_mx a_mf a_mg a_mw a_mh v_m_thrown v_m_trace v_m_typed (v_m_next + (1 : Int32)) v_m_token v_m_next v_m_value v_m_fault v_m_finds v_m_weeks v_m_rows v_m_cardPrice v_m_lotPrice v_m_sure v_m_up v_m_down v_mx) := hD
            refine lv_aload_n hx hb dX10_advances_250 rfl (lv_at hl 1 rfl) ?_
            refine lv_iload_n hx hb dX10_advances_251 rfl (lv_at hl 0 rfl) ?_
            refine lv_bipush (v := (59 : Int32)) hx hb dX10_advances_252 (by decide) ?_
            refine lv_icmp_ne (tgt := 261) hx hb dX10_advances_254 (by decide) (fun c_31 => ?_) (fun c_31 => ?_)
            · have hf := (if_neg c_31).symm.trans hf
              refine lv_bipush (v := (6 : Int32)) hx hb dX10_advances_261 (by decide) ?_
              refine va_put (D := D) (ci := 9) (v := .int (6 : Int32)) (ty := .int) (C := RX10) (T := TX10) (N := 24) hx hb hts il_X10_advances_X10 tyX10 tyX10_ok nmX10 hown hK hP hD hS 0 rfl rfl 8 (by decide) (hts _ fk_X10_advances_2) (fun _ h9 => h9) rfl (tyX10_ok 8 (by decide)) rfl rfl (Nat.le_of_ble_eq_true rfl) dX10_advances_263 (fun H locs hP hD hS => ?_)
              have hP : va_P D vwCl (wo_X10_advances cI cJ a_m a_mt a_ml a_mr a_mx a_mf a_mg a_mw a_mh v_m_thrown v_m_trace v_m_typed (v_m_next + (1 : Int32)) (6 : Int32) v_m_next v_m_value v_m_fault v_m_finds v_m_weeks v_m_rows v_m_cardPrice v_m_lotPrice v_m_sure v_m_up v_m_down v_mx) H := hP
              have hD : va_D A (wo_X10_advances cI cJ a_m a_mt a_ml a_mr a_mx a_mf a_mg a_mw a_mh v_m_thrown v_m_trace v_m_typed (v_m_next + (1 : Int32)) (6 : Int32) v_m_next v_m_value v_m_fault v_m_finds v_m_weeks v_m_rows v_m_cardPrice v_m_lotPrice v_m_sure v_m_up v_m_down v_mx) := hD
              obtain rfl := Option.some.inj hf
              exact pa_ev X hP hD hS dX10_advances_266
            · have hf := (if_pos c_31).symm.trans hf
              refine lv_iconst (v := (5 : Int32)) hx hb dX10_advances_257 (by decide) ?_
              refine lv_goto (tgt := 263) hx hb dX10_advances_258 (by decide) ?_
              refine va_put (D := D) (ci := 9) (v := .int (5 : Int32)) (ty := .int) (C := RX10) (T := TX10) (N := 24) hx hb hts il_X10_advances_X10 tyX10 tyX10_ok nmX10 hown hK hP hD hS 0 rfl rfl 8 (by decide) (hts _ fk_X10_advances_2) (fun _ h9 => h9) rfl (tyX10_ok 8 (by decide)) rfl rfl (Nat.le_of_ble_eq_true rfl) dX10_advances_263 (fun H locs hP hD hS => ?_)
              have hP : va_P D vwCl (wo_X10_advances cI cJ a_m a_mt a_ml a_mr a_mx a_mf a_mg a_mw a_mh v_m_thrown v_m_trace v_m_typed (v_m_next + (1 : Int32)) (5 : Int32) v_m_next v_m_value v_m_fault v_m_finds v_m_weeks v_m_rows v_m_cardPrice v_m_lotPrice v_m_sure v_m_up v_m_down v_mx) H := hP
              have hD : va_D A (wo_X10_advances cI cJ a_m a_mt a_ml a_mr a_mx a_mf a_mg a_mw a_mh v_m_thrown v_m_trace v_m_typed (v_m_next + (1 : Int32)) (5 : Int32) v_m_next v_m_value v_m_fault v_m_finds v_m_weeks v_m_rows v_m_cardPrice v_m_lotPrice v_m_sure v_m_up v_m_down v_mx) := hD
              obtain rfl := Option.some.inj hf
              exact pa_ev X hP hD hS dX10_advances_266
          · have hf := (if_neg c_30).symm.trans hf
            refine lv_aload_n hx hb dX10_advances_124 rfl (lv_at hl 1 rfl) ?_
            refine lv_iconst (v := (0 : Int32)) hx hb dX10_advances_125 (by decide) ?_
            refine va_put (D := D) (ci := 9) (v := .int (0 : Int32)) (ty := .int) (C := RX10) (T := TX10) (N := 24) hx hb hts il_X10_advances_X10 tyX10 tyX10_ok nmX10 hown hK hP hD hS 0 rfl rfl 10 (by decide) (hts _ fk_X10_advances_1) (fun _ h9 => h9) rfl (tyX10_ok 10 (by decide)) rfl rfl (Nat.le_of_ble_eq_true rfl) dX10_advances_126 (fun H locs hP hD hS => ?_)
            have hP : va_P D vwCl (wo_X10_advances cI cJ a_m a_mt a_ml a_mr a_mx a_mf a_mg a_mw a_mh v_m_thrown v_m_trace v_m_typed v_m_next v_m_token v_m_next (0 : Int32) v_m_fault v_m_finds v_m_weeks v_m_rows v_m_cardPrice v_m_lotPrice v_m_sure v_m_up v_m_down v_mx) H := hP
            have hD : va_D A (wo_X10_advances cI cJ a_m a_mt a_ml a_mr a_mx a_mf a_mg a_mw a_mh v_m_thrown v_m_trace v_m_typed v_m_next v_m_token v_m_next (0 : Int32) v_m_fault v_m_finds v_m_weeks v_m_rows v_m_cardPrice v_m_lotPrice v_m_sure v_m_up v_m_down v_mx) := hD
            exact w_X10_advances_L129 X  _ _ _ hf _ _ _ hP hD hS _ (lv_sub hl [1, 0] rfl)
        · have hf := (if_neg c_27).symm.trans hf
          exact w_X10_advances_L66 X  _ _ hf _ _  hP hD hS _ (lv_sub hl [1] rfl)
      · have hf := (if_neg c_24).symm.trans hf
        refine lv_aload_n hx hb dX10_advances_47 rfl (lv_at hl 1 rfl) ?_
        refine lv_iconst (v := (0 : Int32)) hx hb dX10_advances_48 (by decide) ?_
        refine va_put (D := D) (ci := 9) (v := .int (0 : Int32)) (ty := .int) (C := RX10) (T := TX10) (N := 24) hx hb hts il_X10_advances_X10 tyX10 tyX10_ok nmX10 hown hK hP hD hS 0 rfl rfl 8 (by decide) (hts _ fk_X10_advances_2) (fun _ h9 => h9) rfl (tyX10_ok 8 (by decide)) rfl rfl (Nat.le_of_ble_eq_true rfl) dX10_advances_49 (fun H locs hP hD hS => ?_)
        have hP : va_P D vwCl (wo_X10_advances cI cJ a_m a_mt a_ml a_mr a_mx a_mf a_mg a_mw a_mh v_m_thrown v_m_trace v_m_typed v_m_next (0 : Int32) v_m_next v_m_value v_m_fault v_m_finds v_m_weeks v_m_rows v_m_cardPrice v_m_lotPrice v_m_sure v_m_up v_m_down v_mx) H := hP
        have hD : va_D A (wo_X10_advances cI cJ a_m a_mt a_ml a_mr a_mx a_mf a_mg a_mw a_mh v_m_thrown v_m_trace v_m_typed v_m_next (0 : Int32) v_m_next v_m_value v_m_fault v_m_finds v_m_weeks v_m_rows v_m_cardPrice v_m_lotPrice v_m_sure v_m_up v_m_down v_mx) := hD
        refine lv_goto (tgt := 266) hx hb dX10_advances_52 (by decide) ?_
        obtain rfl := Option.some.inj hf
        exact pa_ev X hP hD hS dX10_advances_266
    · have hf := (if_pos c_21).symm.trans hf
      refine lv_aload_n hx hb dX10_advances_13 rfl (lv_at hl 0 rfl) ?_
      refine lv_dup hx hb dX10_advances_14 rfl ?_
      refine va_get (D := D) (ci := 9) (v := .int v_m_next) (C := RX10) (T := TX10) (N := 24) hx hb hts il_X10_advances_X10 hown hK hP 0 rfl rfl 7 (by decide) (hts _ fk_X10_advances_0) (fun _ h9 => h9) rfl dX10_advances_15 ?_
      refine lv_iconst (v := (1 : Int32)) hx hb dX10_advances_18 (by decide) ?_
      refine lv_iadd hx hb dX10_advances_19 ?_
      refine va_put (D := D) (ci := 9) (v := .int (v_m_next + (1 : Int32))) (ty := .int) (C := RX10) (T := TX10) (N := 24) hx hb hts il_X10_advances_X10 tyX10 tyX10_ok nmX10 hown hK hP hD hS 0 rfl rfl 7 (by decide) (hts _ fk_X10_advances_0) (fun _ h9 => h9) rfl (tyX10_ok 7 (by decide)) rfl rfl (Nat.le_of_ble_eq_true rfl) dX10_advances_20 (fun H locs hP hD hS => ?_)
      have hP : va_P D vwCl (wo_X10_advances cI cJ a_m a_mt a_ml a_mr a_mx a_mf a_mg a_mw a_mh v_m_thrown v_m_trace v_m_typed (v_m_next + (1 : Int32)) v_m_token v_m_place v_m_value v_m_fault v_m_finds v_m_weeks v_m_rows v_m_cardPrice v_m_lotPrice v_m_sure v_m_up v_m_down v_mx) H := hP
      have hD : va_D A (wo_X10_advances cI cJ a_m a_mt a_ml a_mr a_mx a_mf a_mg a_mw a_mh v_m_thrown v_m_trace v_m_typed (v_m_next + (1 : Int32)) v_m_token v_m_place v_m_value v_m_fault v_m_finds v_m_weeks v_m_rows v_m_cardPrice v_m_lotPrice v_m_sure v_m_up v_m_down v_mx) := hD
      refine lv_goto (tgt := 0) hx hb dX10_advances_23 (by decide) ?_
      exact hrec0 _ hf _ _ _ hP hD hS _ (lv_sub hl [0] rfl)
set_option maxHeartbeats 4000000 in
set_option maxRecDepth 100000 in
theorem c_X10_advances {l : Launch} {D : va_G} {cI cJ : ClassId} {g : pa_GT} {a_m a_mt a_ml a_mr a_mx a_mf a_mg a_mw a_mh : Nat}  {v_m_thrown : Int32} {v_m_trace : Int64} {v_m_typed : Int32} {v_m_next : Int32} {v_m_token : Int32} {v_m_place : Int32} {v_m_value : Int32} {v_m_fault : Int32} {v_m_finds : Int32} {v_m_weeks : Int32} {v_m_rows : Int32} {v_m_cardPrice : Int32} {v_m_lotPrice : Int32} {v_m_sure : Int32} {v_m_up : Int64} {v_m_down : Int64} {v_mx : Nat → Int32} {o : Int32 × Int32 × Int32 × Int32} (hf : f_X10_advances v_m_typed v_m_next v_m_token v_m_value v_mx = some o) : pa_Mv l yX10_advances wsX10_advances rm_X10_advances D cI cJ g [.ref a_m] (wo_X10_advances cI cJ a_m a_mt a_ml a_mr a_mx a_mf a_mg a_mw a_mh v_m_thrown v_m_trace v_m_typed v_m_next v_m_token v_m_place v_m_value v_m_fault v_m_finds v_m_weeks v_m_rows v_m_cardPrice v_m_lotPrice v_m_sure v_m_up v_m_down v_mx) (wo_X10_advances cI cJ a_m a_mt a_ml a_mr a_mx a_mf a_mg a_mw a_mh v_m_thrown v_m_trace v_m_typed o.1 o.2.1 o.2.2.1 o.2.2.2 v_m_fault v_m_finds v_m_weeks v_m_rows v_m_cardPrice v_m_lotPrice v_m_sure v_m_up v_m_down v_mx) := by
  intro sz
  refine pa_met (cc := cX10_advances) (maxL := 2) (ret := none) (lv := [(0, .ref a_m)]) (by decide) rfl (Nat.le_of_ble_eq_true rfl) rfl ?_
  intro p e s m below meth c X hsz hP hD ls hl
  subst hsz
  exact w_X10_advances_L0 X pa_fu _ hf _ _ _ hP hD va_S.rf _ (lv_sub hl [0] rfl)
