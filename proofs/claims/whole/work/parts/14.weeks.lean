abbrev wo_X8_append (cI cJ : ClassId) (a_we a_wh : Nat) (v_we_many : Int32) (v_wh : Nat → Int32) : va_W := [(a_we, .inr (7, [.ref a_wh, .int v_we_many])), (a_wh, .inl (cI, 60, .inl v_wh))]
abbrev rm_X8_append : Room := { frames := 0, cells := 0, slots := 0, locals := 0 }
theorem il_X8_append_X8 : ∀ w ∈ wsX80, w ∈ wsX8_append := by decide +kernel
theorem fk_X8_append_0 : Cond.fieldLink RX8 15 "PostedAsks$Weeks" "many" "I" ∈ wsX8_append := by decide +kernel
theorem fk_X8_append_1 : Cond.fieldLink RX8 9 "PostedAsks$Weeks" "shares" "[I" ∈ wsX8_append := by decide +kernel
def f_X8_append (x1 : Int32) (v_we_many : Int32) (v_wh : Nat → Int32) : Option (Int32 × Int32 × (Nat → Int32)) :=
  if v_we_many < (60 : Int32) then
    if pa_ib v_we_many 60 = true then
      some ((v_we_many + (1 : Int32)), (v_we_many + (1 : Int32)), (upd v_wh (Int32.toNatClampNeg v_we_many) x1))
    else none
  else
    some ((-3 : Int32), v_we_many, v_wh)
set_option maxHeartbeats 4000000 in
set_option maxRecDepth 100000 in
theorem w_X8_append_b0 {l : Launch} {D : va_G} {cI cJ : ClassId} {g : pa_GT} {a_we a_wh : Nat} {A : Nat → Prop} {p : Program} {e : Env} {s : State} {m : MethodId} {args : Array Value} {below : List Frame} {meth : Method} {c : Code} {x1 : Int32} {v_we_many : Int32} {v_wh : Nat → Int32}  {o : Int32 × Int32 × (Nat → Int32)} (X : pa_X cX8_append 2 (some .int) RX8 wsX8_append D cI cJ g A p s m args meth c)  (hf : f_X8_append x1 v_we_many v_wh = some o) {H : Heap} {locs : List Loc} (hP : va_P D vwCl (wo_X8_append cI cJ a_we a_wh v_we_many v_wh) H) (hD : va_D A (wo_X8_append cI cJ a_we a_wh v_we_many v_wh)) (hS : va_S A s.heap H locs) {ls : Array Slot} (hl : lv_has ls 2 [(0, .ref a_we), (1, .int x1)]) : W p l e (headSpec wsX8_append rm_X8_append).room s m args below meth c H locs 0 0 (MQ below (va_Qi (fun r (_ : Unit) => r = o.1) (pa_QB D A (wo_X8_append cI cJ a_we a_wh o.2.1 o.2.2)) A) args s 0 0 A) (F0 m 0 ls []) := by
  obtain ⟨hx, hb, hr, hml, hown, hts, hK, hA, hG, hlk⟩ := id X
  delta f_X8_append at hf
  refine lv_aload_n hx hb dX8_append_0 rfl (lv_at hl 0 rfl) ?_
  refine va_get (D := D) (ci := 7) (v := .int v_we_many) (C := RX8) (T := TX8) (N := 2) hx hb hts il_X8_append_X8 hown hK hP 0 rfl rfl 1 (by decide) (hts _ fk_X8_append_0) (fun _ h9 => h9) rfl dX8_append_1 ?_
  refine lv_bipush (v := (60 : Int32)) hx hb dX8_append_4 (by decide) ?_
  refine lv_icmp_lt (tgt := 12) hx hb dX8_append_6 (by decide) (fun c_1 => ?_) (fun c_1 => ?_)
  · have hf := (if_pos c_1).symm.trans hf
    refine lv_aload_n hx hb dX8_append_12 rfl (lv_at hl 0 rfl) ?_
    refine va_get (D := D) (ci := 7) (v := .ref a_wh) (C := RX8) (T := TX8) (N := 2) hx hb hts il_X8_append_X8 hown hK hP 0 rfl rfl 0 (by decide) (hts _ fk_X8_append_1) (fun _ h9 => h9) rfl dX8_append_13 ?_
    refine lv_aload_n hx hb dX8_append_16 rfl (lv_at hl 0 rfl) ?_
    refine va_get (D := D) (ci := 7) (v := .int v_we_many) (C := RX8) (T := TX8) (N := 2) hx hb hts il_X8_append_X8 hown hK hP 0 rfl rfl 1 (by decide) (hts _ fk_X8_append_0) (fun _ h9 => h9) rfl dX8_append_17 ?_
    refine lv_iload_n hx hb dX8_append_20 rfl (lv_at hl 1 rfl) ?_
    obtain ⟨hi_2, hf⟩ := pa_gd hf
    refine va_iast hx hb hK hP hD hS 1 0 rfl rfl hi_2 dX8_append_21 (fun H locs hP hD hS => ?_)
    have hP : va_P D vwCl (wo_X8_append cI cJ a_we a_wh v_we_many (upd v_wh (Int32.toNatClampNeg v_we_many) x1)) H := hP
    have hD : va_D A (wo_X8_append cI cJ a_we a_wh v_we_many (upd v_wh (Int32.toNatClampNeg v_we_many) x1)) := hD
    refine lv_aload_n hx hb dX8_append_22 rfl (lv_at hl 0 rfl) ?_
    refine lv_dup hx hb dX8_append_23 rfl ?_
    refine va_get (D := D) (ci := 7) (v := .int v_we_many) (C := RX8) (T := TX8) (N := 2) hx hb hts il_X8_append_X8 hown hK hP 0 rfl rfl 1 (by decide) (hts _ fk_X8_append_0) (fun _ h9 => h9) rfl dX8_append_24 ?_
    refine lv_iconst (v := (1 : Int32)) hx hb dX8_append_27 (by decide) ?_
    refine lv_iadd hx hb dX8_append_28 ?_
    refine va_put (D := D) (ci := 7) (v := .int (v_we_many + (1 : Int32))) (ty := .int) (C := RX8) (T := TX8) (N := 2) hx hb hts il_X8_append_X8 tyX8 tyX8_ok nmX8 hown hK hP hD hS 0 rfl rfl 1 (by decide) (hts _ fk_X8_append_0) (fun _ h9 => h9) rfl (tyX8_ok 1 (by decide)) rfl rfl (Nat.le_of_ble_eq_true rfl) dX8_append_29 (fun H locs hP hD hS => ?_)
    have hP : va_P D vwCl (wo_X8_append cI cJ a_we a_wh (v_we_many + (1 : Int32)) (upd v_wh (Int32.toNatClampNeg v_we_many) x1)) H := hP
    have hD : va_D A (wo_X8_append cI cJ a_we a_wh (v_we_many + (1 : Int32)) (upd v_wh (Int32.toNatClampNeg v_we_many) x1)) := hD
    refine lv_aload_n hx hb dX8_append_32 rfl (lv_at hl 0 rfl) ?_
    refine va_get (D := D) (ci := 7) (v := .int (v_we_many + (1 : Int32))) (C := RX8) (T := TX8) (N := 2) hx hb hts il_X8_append_X8 hown hK hP 0 rfl rfl 1 (by decide) (hts _ fk_X8_append_0) (fun _ h9 => h9) rfl dX8_append_33 ?_
    obtain rfl := Option.some.inj hf
    exact pa_ei X hP hD hS dX8_append_36
  · have hf := (if_neg c_1).symm.trans hf
    refine lv_bipush (v := (-3 : Int32)) hx hb dX8_append_9 (by decide) ?_
    obtain rfl := Option.some.inj hf
    exact pa_ei X hP hD hS dX8_append_11
set_option maxHeartbeats 4000000 in
set_option maxRecDepth 100000 in
theorem c_X8_append {l : Launch} {D : va_G} {cI cJ : ClassId} {g : pa_GT} {a_we a_wh : Nat} {x1 : Int32} {v_we_many : Int32} {v_wh : Nat → Int32} {o : Int32 × Int32 × (Nat → Int32)} (hf : f_X8_append x1 v_we_many v_wh = some o) : pa_Mi l yX8_append wsX8_append rm_X8_append D cI cJ g [.ref a_we, .int x1] (wo_X8_append cI cJ a_we a_wh v_we_many v_wh) (wo_X8_append cI cJ a_we a_wh o.2.1 o.2.2) o.1 := by
  intro sz
  refine pa_met (cc := cX8_append) (maxL := 2) (ret := (some .int)) (lv := [(0, .ref a_we), (1, .int x1)]) (by decide) rfl (Nat.le_of_ble_eq_true rfl) rfl ?_
  intro p e s m below meth c X hsz hP hD ls hl
  subst hsz
  exact w_X8_append_b0 X hf hP hD va_S.rf hl
abbrev wo_X8_greatestChange (cI cJ : ClassId) (a_we a_wh : Nat) (v_we_many : Int32) (v_wh : Nat → Int32) : va_W := [(a_we, .inr (7, [.ref a_wh, .int v_we_many])), (a_wh, .inl (cI, 60, .inl v_wh))]
abbrev rm_X8_greatestChange : Room := { frames := 1, cells := 0, slots := 0, locals := 13 }
theorem il_X8_greatestChange_X8 : ∀ w ∈ wsX80, w ∈ wsX8_greatestChange := by decide +kernel
theorem fk_X8_greatestChange_0 : Cond.fieldLink RX8 15 "PostedAsks$Weeks" "many" "I" ∈ wsX8_greatestChange := by decide +kernel
theorem fk_X8_greatestChange_1 : Cond.fieldLink RX8 9 "PostedAsks$Weeks" "shares" "[I" ∈ wsX8_greatestChange := by decide +kernel
theorem fk_X8_greatestChange_2 : Cond.methodLink RX8 23 Lib.Math.max.name ∈ wsX8_greatestChange := by decide +kernel
theorem fk_X8_greatestChange_3 : Cond.static Lib.Math.max.name ∈ wsX8_greatestChange := by decide +kernel
theorem fk_X8_greatestChange_4 : Cond.initialized "java/lang/Math" ∈ wsX8_greatestChange := by decide +kernel
theorem fk_X8_greatestChange_5 : Cond.code Lib.Math.max.name Lib.Math.max.code 2 (some .int) ∈ wsX8_greatestChange := by decide +kernel
def f_X8_greatestChange_L16_body (x1 : Int32) (x2 : Int32) (v_we_many : Int32) (v_wh : Nat → Int32) (rec16 : Int32 → Int32 → Option (Int32)) (x3 : Int32) (x4 : Int32) : Option (Int32) :=
  if v_we_many ≤ (x4 + x1) then
    some (x3)
  else
    if pa_ib (x4 + x1) 60 = true then
      if pa_ib x4 60 = true then
        rec16 (if x3 < (x2 * ((v_wh (Int32.toNatClampNeg (x4 + x1))) - (v_wh (Int32.toNatClampNeg x4)))) then (x2 * ((v_wh (Int32.toNatClampNeg (x4 + x1))) - (v_wh (Int32.toNatClampNeg x4)))) else x3) (x4 + (1 : Int32))
      else none
    else none
def f_X8_greatestChange_L16 (x1 : Int32) (x2 : Int32) (v_we_many : Int32) (v_wh : Nat → Int32) : Nat → Int32 → Int32 → Option (Int32)
  | 0 => fun _ _ => none
  | n + 1 => f_X8_greatestChange_L16_body x1 x2 v_we_many v_wh (f_X8_greatestChange_L16 x1 x2 v_we_many v_wh n)
def f_X8_greatestChange (x1 : Int32) (x2 : Int32) (v_we_many : Int32) (v_wh : Nat → Int32) : Option (Int32) :=
  if x1 < v_we_many then
    f_X8_greatestChange_L16 x1 x2 v_we_many v_wh pa_fu (0 : Int32) (0 : Int32)
  else
    some ((-9 : Int32))
set_option maxHeartbeats 4000000 in
set_option maxRecDepth 100000 in
theorem w_X8_greatestChange_L16 {l : Launch} {D : va_G} {cI cJ : ClassId} {g : pa_GT} {a_we a_wh : Nat} {A : Nat → Prop} {p : Program} {e : Env} {s : State} {m : MethodId} {args : Array Value} {below : List Frame} {meth : Method} {c : Code} {x1 : Int32} {x2 : Int32} {v_we_many : Int32} {v_wh : Nat → Int32}  {o : Int32} (X : pa_X cX8_greatestChange 5 (some .int) RX8 wsX8_greatestChange D cI cJ g A p s m args meth c)  : ∀ (n : Nat) (x3 : Int32) (x4 : Int32), f_X8_greatestChange_L16 x1 x2 v_we_many v_wh n x3 x4 = some o → ∀ (H : Heap) (locs : List Loc) , va_P D vwCl (wo_X8_greatestChange cI cJ a_we a_wh v_we_many v_wh) H → va_D A (wo_X8_greatestChange cI cJ a_we a_wh v_we_many v_wh) → va_S A s.heap H locs → ∀ (ls : Array Slot), lv_has ls 5 [(0, .ref a_we), (1, .int x1), (2, .int x2), (3, .int x3), (4, .int x4)] → W p l e (headSpec wsX8_greatestChange rm_X8_greatestChange).room s m args below meth c H locs 0 0 (MQ below (va_Qi (fun r (_ : Unit) => r = o) (pa_QB D A (wo_X8_greatestChange cI cJ a_we a_wh v_we_many v_wh)) A) args s 0 0 A) (F0 m 16 ls []) := by
  obtain ⟨hx, hb, hr, hml, hown, hts, hK, hA, hG, hlk⟩ := id X
  intro n
  induction n with
  | zero =>
    intro x3 x4 hf
    have hf : (none : Option (Int32)) = some o := hf
    cases hf
  | succ n hrec16 =>
    intro x3 x4 hf H locs  hP hD hS ls hl
    have hf : f_X8_greatestChange_L16_body x1 x2 v_we_many v_wh (f_X8_greatestChange_L16 x1 x2 v_we_many v_wh n) x3 x4 = some o := hf
    delta f_X8_greatestChange_L16_body at hf
    generalize hgr : f_X8_greatestChange_L16 x1 x2 v_we_many v_wh n = rec16 at hf hrec16
    refine lv_iload hx hb dX8_greatestChange_16 (lv_at hl 4 rfl) ?_
    refine lv_iload_n hx hb dX8_greatestChange_18 rfl (lv_at hl 1 rfl) ?_
    refine lv_iadd hx hb dX8_greatestChange_19 ?_
    refine lv_aload_n hx hb dX8_greatestChange_20 rfl (lv_at hl 0 rfl) ?_
    refine va_get (D := D) (ci := 7) (v := .int v_we_many) (C := RX8) (T := TX8) (N := 2) hx hb hts il_X8_greatestChange_X8 hown hK hP 0 rfl rfl 1 (by decide) (hts _ fk_X8_greatestChange_0) (fun _ h9 => h9) rfl dX8_greatestChange_21 ?_
    refine lv_icmp_ge (tgt := 57) hx hb dX8_greatestChange_24 (by decide) (fun c_1 => ?_) (fun c_1 => ?_)
    · have hf := (if_pos c_1).symm.trans hf
      refine lv_iload_n hx hb dX8_greatestChange_57 rfl (lv_at hl 3 rfl) ?_
      obtain rfl := Option.some.inj hf
      exact pa_ei X hP hD hS dX8_greatestChange_58
    · have hf := (if_neg c_1).symm.trans hf
      refine lv_iload_n hx hb dX8_greatestChange_27 rfl (lv_at hl 3 rfl) ?_
      refine lv_iload_n hx hb dX8_greatestChange_28 rfl (lv_at hl 2 rfl) ?_
      refine lv_aload_n hx hb dX8_greatestChange_29 rfl (lv_at hl 0 rfl) ?_
      refine va_get (D := D) (ci := 7) (v := .ref a_wh) (C := RX8) (T := TX8) (N := 2) hx hb hts il_X8_greatestChange_X8 hown hK hP 0 rfl rfl 0 (by decide) (hts _ fk_X8_greatestChange_1) (fun _ h9 => h9) rfl dX8_greatestChange_30 ?_
      refine lv_iload hx hb dX8_greatestChange_33 (lv_at hl 4 rfl) ?_
      refine lv_iload_n hx hb dX8_greatestChange_35 rfl (lv_at hl 1 rfl) ?_
      refine lv_iadd hx hb dX8_greatestChange_36 ?_
      obtain ⟨hi_2, hf⟩ := pa_gd hf
      refine va_iald hx hb hK hP 1 0 rfl rfl hi_2 dX8_greatestChange_37 ?_
      refine lv_aload_n hx hb dX8_greatestChange_38 rfl (lv_at hl 0 rfl) ?_
      refine va_get (D := D) (ci := 7) (v := .ref a_wh) (C := RX8) (T := TX8) (N := 2) hx hb hts il_X8_greatestChange_X8 hown hK hP 0 rfl rfl 0 (by decide) (hts _ fk_X8_greatestChange_1) (fun _ h9 => h9) rfl dX8_greatestChange_39 ?_
      refine lv_iload hx hb dX8_greatestChange_42 (lv_at hl 4 rfl) ?_
      obtain ⟨hi_3, hf⟩ := pa_gd hf
      refine va_iald hx hb hK hP 1 0 rfl rfl hi_3 dX8_greatestChange_44 ?_
      refine lv_isub hx hb dX8_greatestChange_45 ?_
      refine lv_imul hx hb dX8_greatestChange_46 ?_
      refine va_mmax hx hb (hml.trans hl.1.symm) hown (hts _ fk_X8_greatestChange_2) (hts _ fk_X8_greatestChange_3) (hts _ fk_X8_greatestChange_4) (hts _ fk_X8_greatestChange_5) (Nat.le_of_ble_eq_true rfl) (Nat.le_of_ble_eq_true rfl) (Nat.zero_le _) (Nat.zero_le _) dX8_greatestChange_47 ?_
      refine lv_istore_n (lv' := [(3, .int (if x3 < (x2 * ((v_wh (Int32.toNatClampNeg (x4 + x1))) - (v_wh (Int32.toNatClampNeg x4)))) then (x2 * ((v_wh (Int32.toNatClampNeg (x4 + x1))) - (v_wh (Int32.toNatClampNeg x4)))) else x3)), (0, .ref a_we), (1, .int x1), (2, .int x2), (4, .int x4)]) hx hb dX8_greatestChange_50 rfl hl (by decide) rfl (fun ls hl => ?_)
      refine lv_iinc (v := (x4 + (1 : Int32))) (lv' := [(4, .int (x4 + (1 : Int32))), (3, .int (if x3 < (x2 * ((v_wh (Int32.toNatClampNeg (x4 + x1))) - (v_wh (Int32.toNatClampNeg x4)))) then (x2 * ((v_wh (Int32.toNatClampNeg (x4 + x1))) - (v_wh (Int32.toNatClampNeg x4)))) else x3)), (0, .ref a_we), (1, .int x1), (2, .int x2)]) hx hb dX8_greatestChange_51 hl (k := 4) rfl rfl (by decide) rfl (fun ls hl => ?_)
      refine lv_goto (tgt := 16) hx hb dX8_greatestChange_54 (by decide) ?_
      exact hrec16 _ _ hf _ _  hP hD hS _ (lv_sub hl [2, 3, 4, 1, 0] rfl)
set_option maxHeartbeats 4000000 in
set_option maxRecDepth 100000 in
theorem w_X8_greatestChange_b0 {l : Launch} {D : va_G} {cI cJ : ClassId} {g : pa_GT} {a_we a_wh : Nat} {A : Nat → Prop} {p : Program} {e : Env} {s : State} {m : MethodId} {args : Array Value} {below : List Frame} {meth : Method} {c : Code} {x1 : Int32} {x2 : Int32} {v_we_many : Int32} {v_wh : Nat → Int32}  {o : Int32} (X : pa_X cX8_greatestChange 5 (some .int) RX8 wsX8_greatestChange D cI cJ g A p s m args meth c)  (hf : f_X8_greatestChange x1 x2 v_we_many v_wh = some o) {H : Heap} {locs : List Loc} (hP : va_P D vwCl (wo_X8_greatestChange cI cJ a_we a_wh v_we_many v_wh) H) (hD : va_D A (wo_X8_greatestChange cI cJ a_we a_wh v_we_many v_wh)) (hS : va_S A s.heap H locs) {ls : Array Slot} (hl : lv_has ls 5 [(0, .ref a_we), (1, .int x1), (2, .int x2)]) : W p l e (headSpec wsX8_greatestChange rm_X8_greatestChange).room s m args below meth c H locs 0 0 (MQ below (va_Qi (fun r (_ : Unit) => r = o) (pa_QB D A (wo_X8_greatestChange cI cJ a_we a_wh v_we_many v_wh)) A) args s 0 0 A) (F0 m 0 ls []) := by
  obtain ⟨hx, hb, hr, hml, hown, hts, hK, hA, hG, hlk⟩ := id X
  delta f_X8_greatestChange at hf
  refine lv_iload_n hx hb dX8_greatestChange_0 rfl (lv_at hl 1 rfl) ?_
  refine lv_aload_n hx hb dX8_greatestChange_1 rfl (lv_at hl 0 rfl) ?_
  refine va_get (D := D) (ci := 7) (v := .int v_we_many) (C := RX8) (T := TX8) (N := 2) hx hb hts il_X8_greatestChange_X8 hown hK hP 0 rfl rfl 1 (by decide) (hts _ fk_X8_greatestChange_0) (fun _ h9 => h9) rfl dX8_greatestChange_2 ?_
  refine lv_icmp_lt (tgt := 11) hx hb dX8_greatestChange_5 (by decide) (fun c_4 => ?_) (fun c_4 => ?_)
  · have hf := (if_pos c_4).symm.trans hf
    refine lv_iconst (v := (0 : Int32)) hx hb dX8_greatestChange_11 (by decide) ?_
    refine lv_istore_n (lv' := [(3, .int (0 : Int32)), (0, .ref a_we), (1, .int x1), (2, .int x2)]) hx hb dX8_greatestChange_12 rfl hl (by decide) rfl (fun ls hl => ?_)
    refine lv_iconst (v := (0 : Int32)) hx hb dX8_greatestChange_13 (by decide) ?_
    refine lv_istore (lv' := [(4, .int (0 : Int32)), (3, .int (0 : Int32)), (0, .ref a_we), (1, .int x1), (2, .int x2)]) hx hb dX8_greatestChange_14 hl (by decide) rfl (fun ls hl => ?_)
    exact w_X8_greatestChange_L16 X  _ _ _ hf _ _  hP hD hS _ (lv_sub hl [2, 3, 4, 1, 0] rfl)
  · have hf := (if_neg c_4).symm.trans hf
    refine lv_bipush (v := (-9 : Int32)) hx hb dX8_greatestChange_8 (by decide) ?_
    obtain rfl := Option.some.inj hf
    exact pa_ei X hP hD hS dX8_greatestChange_10
set_option maxHeartbeats 4000000 in
set_option maxRecDepth 100000 in
theorem c_X8_greatestChange {l : Launch} {D : va_G} {cI cJ : ClassId} {g : pa_GT} {a_we a_wh : Nat} {x1 : Int32} {x2 : Int32} {v_we_many : Int32} {v_wh : Nat → Int32} {o : Int32} (hf : f_X8_greatestChange x1 x2 v_we_many v_wh = some o) : pa_Mi l yX8_greatestChange wsX8_greatestChange rm_X8_greatestChange D cI cJ g [.ref a_we, .int x1, .int x2] (wo_X8_greatestChange cI cJ a_we a_wh v_we_many v_wh) (wo_X8_greatestChange cI cJ a_we a_wh v_we_many v_wh) o := by
  intro sz
  refine pa_met (cc := cX8_greatestChange) (maxL := 5) (ret := (some .int)) (lv := [(0, .ref a_we), (1, .int x1), (2, .int x2)]) (by decide) rfl (Nat.le_of_ble_eq_true rfl) rfl ?_
  intro p e s m below meth c X hsz hP hD ls hl
  subst hsz
  exact w_X8_greatestChange_b0 X hf hP hD va_S.rf hl
abbrev wo_X8_rise (cI cJ : ClassId) (a_we a_wh : Nat) (v_we_many : Int32) (v_wh : Nat → Int32) : va_W := [(a_we, .inr (7, [.ref a_wh, .int v_we_many])), (a_wh, .inl (cI, 60, .inl v_wh))]
abbrev rm_X8_rise : Room := { frames := 2, cells := 0, slots := 0, locals := 37 }
def f_X8_rise (x1 : Int32) (v_we_many : Int32) (v_wh : Nat → Int32) : Option (Int32) :=
  (f_X8_greatestChange x1 (1 : Int32) v_we_many v_wh).bind fun u_1 =>
  some (u_1)
set_option maxHeartbeats 4000000 in
set_option maxRecDepth 100000 in
theorem w_X8_rise_b0 {l : Launch} {D : va_G} {cI cJ : ClassId} {g : pa_GT} {a_we a_wh : Nat} {A : Nat → Prop} {p : Program} {e : Env} {s : State} {m : MethodId} {args : Array Value} {below : List Frame} {meth : Method} {c : Code} {x1 : Int32} {v_we_many : Int32} {v_wh : Nat → Int32}  {o : Int32} (X : pa_X cX8_rise 2 (some .int) RX8 wsX8_rise D cI cJ g A p s m args meth c)  (hf : f_X8_rise x1 v_we_many v_wh = some o) {H : Heap} {locs : List Loc} (hP : va_P D vwCl (wo_X8_rise cI cJ a_we a_wh v_we_many v_wh) H) (hD : va_D A (wo_X8_rise cI cJ a_we a_wh v_we_many v_wh)) (hS : va_S A s.heap H locs) {ls : Array Slot} (hl : lv_has ls 2 [(0, .ref a_we), (1, .int x1)]) : W p l e (headSpec wsX8_rise rm_X8_rise).room s m args below meth c H locs 0 0 (MQ below (va_Qi (fun r (_ : Unit) => r = o) (pa_QB D A (wo_X8_rise cI cJ a_we a_wh v_we_many v_wh)) A) args s 0 0 A) (F0 m 0 ls []) := by
  obtain ⟨hx, hb, hr, hml, hown, hts, hK, hA, hG, hlk⟩ := id X
  delta f_X8_rise at hf
  refine lv_aload_n hx hb dX8_rise_0 rfl (lv_at hl 0 rfl) ?_
  refine lv_iload_n hx hb dX8_rise_1 rfl (lv_at hl 1 rfl) ?_
  refine lv_iconst (v := (1 : Int32)) hx hb dX8_rise_2 (by decide) ?_
  obtain ⟨u_1, hg_2, hf⟩ := pa_bd hf
  refine pa_ki (wc := (wo_X8_greatestChange cI cJ a_we a_wh v_we_many v_wh)) (wr := ([] : va_W)) (w1 := (wo_X8_greatestChange cI cJ a_we a_wh v_we_many v_wh)) (w2 := (wo_X8_rise cI cJ a_we a_wh v_we_many v_wh)) X hP hD hS [0, 1] [] [0, 1] rfl (pa_rV (As := [.int x1, .int (1 : Int32)]) (rest := []) (T := TX8) X hP hD hS [0, 1] rfl rfl (c_X8_greatestChange hg_2 H.size) (cwV 2 hts gX8_rise_X8_greatestChange rfl rfl rfl (by decide +kernel) ⟨Nat.le_of_ble_eq_true rfl, Nat.le_of_ble_eq_true rfl⟩) (q0 := 0) rfl rfl rfl hl.1 rfl (Nat.le_of_ble_eq_true rfl) dX8_rise_3 ⟨Nat.zero_le _, Nat.zero_le _⟩) rfl rfl (by decide) rfl rfl (fun H locs hP hD hS => ?_)
  obtain rfl := Option.some.inj hf
  exact pa_ei X hP hD hS dX8_rise_6
set_option maxHeartbeats 4000000 in
set_option maxRecDepth 100000 in
theorem c_X8_rise {l : Launch} {D : va_G} {cI cJ : ClassId} {g : pa_GT} {a_we a_wh : Nat} {x1 : Int32} {v_we_many : Int32} {v_wh : Nat → Int32} {o : Int32} (hf : f_X8_rise x1 v_we_many v_wh = some o) : pa_Mi l yX8_rise wsX8_rise rm_X8_rise D cI cJ g [.ref a_we, .int x1] (wo_X8_rise cI cJ a_we a_wh v_we_many v_wh) (wo_X8_rise cI cJ a_we a_wh v_we_many v_wh) o := by
  intro sz
  refine pa_met (cc := cX8_rise) (maxL := 2) (ret := (some .int)) (lv := [(0, .ref a_we), (1, .int x1)]) (by decide) rfl (Nat.le_of_ble_eq_true rfl) rfl ?_
  intro p e s m below meth c X hsz hP hD ls hl
  subst hsz
  exact w_X8_rise_b0 X hf hP hD va_S.rf hl
abbrev wo_X8_fall (cI cJ : ClassId) (a_we a_wh : Nat) (v_we_many : Int32) (v_wh : Nat → Int32) : va_W := [(a_we, .inr (7, [.ref a_wh, .int v_we_many])), (a_wh, .inl (cI, 60, .inl v_wh))]
abbrev rm_X8_fall : Room := { frames := 2, cells := 0, slots := 0, locals := 37 }
def f_X8_fall (x1 : Int32) (v_we_many : Int32) (v_wh : Nat → Int32) : Option (Int32) :=
  (f_X8_greatestChange x1 (-1 : Int32) v_we_many v_wh).bind fun u_1 =>
  some (u_1)
set_option maxHeartbeats 4000000 in
set_option maxRecDepth 100000 in
theorem w_X8_fall_b0 {l : Launch} {D : va_G} {cI cJ : ClassId} {g : pa_GT} {a_we a_wh : Nat} {A : Nat → Prop} {p : Program} {e : Env} {s : State} {m : MethodId} {args : Array Value} {below : List Frame} {meth : Method} {c : Code} {x1 : Int32} {v_we_many : Int32} {v_wh : Nat → Int32}  {o : Int32} (X : pa_X cX8_fall 2 (some .int) RX8 wsX8_fall D cI cJ g A p s m args meth c)  (hf : f_X8_fall x1 v_we_many v_wh = some o) {H : Heap} {locs : List Loc} (hP : va_P D vwCl (wo_X8_fall cI cJ a_we a_wh v_we_many v_wh) H) (hD : va_D A (wo_X8_fall cI cJ a_we a_wh v_we_many v_wh)) (hS : va_S A s.heap H locs) {ls : Array Slot} (hl : lv_has ls 2 [(0, .ref a_we), (1, .int x1)]) : W p l e (headSpec wsX8_fall rm_X8_fall).room s m args below meth c H locs 0 0 (MQ below (va_Qi (fun r (_ : Unit) => r = o) (pa_QB D A (wo_X8_fall cI cJ a_we a_wh v_we_many v_wh)) A) args s 0 0 A) (F0 m 0 ls []) := by
  obtain ⟨hx, hb, hr, hml, hown, hts, hK, hA, hG, hlk⟩ := id X
  delta f_X8_fall at hf
  refine lv_aload_n hx hb dX8_fall_0 rfl (lv_at hl 0 rfl) ?_
  refine lv_iload_n hx hb dX8_fall_1 rfl (lv_at hl 1 rfl) ?_
  refine lv_iconst (v := (-1 : Int32)) hx hb dX8_fall_2 (by decide) ?_
  obtain ⟨u_1, hg_2, hf⟩ := pa_bd hf
  refine pa_ki (wc := (wo_X8_greatestChange cI cJ a_we a_wh v_we_many v_wh)) (wr := ([] : va_W)) (w1 := (wo_X8_greatestChange cI cJ a_we a_wh v_we_many v_wh)) (w2 := (wo_X8_fall cI cJ a_we a_wh v_we_many v_wh)) X hP hD hS [0, 1] [] [0, 1] rfl (pa_rV (As := [.int x1, .int (-1 : Int32)]) (rest := []) (T := TX8) X hP hD hS [0, 1] rfl rfl (c_X8_greatestChange hg_2 H.size) (cwV 2 hts gX8_fall_X8_greatestChange rfl rfl rfl (by decide +kernel) ⟨Nat.le_of_ble_eq_true rfl, Nat.le_of_ble_eq_true rfl⟩) (q0 := 0) rfl rfl rfl hl.1 rfl (Nat.le_of_ble_eq_true rfl) dX8_fall_3 ⟨Nat.zero_le _, Nat.zero_le _⟩) rfl rfl (by decide) rfl rfl (fun H locs hP hD hS => ?_)
  obtain rfl := Option.some.inj hf
  exact pa_ei X hP hD hS dX8_fall_6
set_option maxHeartbeats 4000000 in
set_option maxRecDepth 100000 in
theorem c_X8_fall {l : Launch} {D : va_G} {cI cJ : ClassId} {g : pa_GT} {a_we a_wh : Nat} {x1 : Int32} {v_we_many : Int32} {v_wh : Nat → Int32} {o : Int32} (hf : f_X8_fall x1 v_we_many v_wh = some o) : pa_Mi l yX8_fall wsX8_fall rm_X8_fall D cI cJ g [.ref a_we, .int x1] (wo_X8_fall cI cJ a_we a_wh v_we_many v_wh) (wo_X8_fall cI cJ a_we a_wh v_we_many v_wh) o := by
  intro sz
  refine pa_met (cc := cX8_fall) (maxL := 2) (ret := (some .int)) (lv := [(0, .ref a_we), (1, .int x1)]) (by decide) rfl (Nat.le_of_ble_eq_true rfl) rfl ?_
  intro p e s m below meth c X hsz hP hD ls hl
  subst hsz
  exact w_X8_fall_b0 X hf hP hD va_S.rf hl
abbrev wo_X8_stays (cI cJ : ClassId) (a_we a_wh : Nat) (v_we_many : Int32) (v_wh : Nat → Int32) : va_W := [(a_we, .inr (7, [.ref a_wh, .int v_we_many])), (a_wh, .inl (cI, 60, .inl v_wh))]
abbrev rm_X8_stays : Room := { frames := 3, cells := 0, slots := 0, locals := 58 }
theorem il_X8_stays_X8 : ∀ w ∈ wsX80, w ∈ wsX8_stays := by decide +kernel
theorem fk_X8_stays_0 : Cond.fieldLink RX8 9 "PostedAsks$Weeks" "shares" "[I" ∈ wsX8_stays := by decide +kernel
theorem fk_X8_stays_1 : Cond.fieldLink RX8 15 "PostedAsks$Weeks" "many" "I" ∈ wsX8_stays := by decide +kernel
def f_X8_stays (x1 : Int32) (v_we_many : Int32) (v_wh : Nat → Int32) : Option (Int32) :=
  if pa_ib (v_we_many - (1 : Int32)) 60 = true then
    if (v_wh (Int32.toNatClampNeg (v_we_many - (1 : Int32)))) < (500 : Int32) then
      (f_X8_rise x1 v_we_many v_wh).bind fun u_3 =>
      if (500 : Int32) ≤ ((v_wh (Int32.toNatClampNeg (v_we_many - (1 : Int32)))) + u_3) then
        some ((0 : Int32))
      else
        some ((1 : Int32))
    else
      (f_X8_fall x1 v_we_many v_wh).bind fun u_6 =>
      if ((v_wh (Int32.toNatClampNeg (v_we_many - (1 : Int32)))) - u_6) < (500 : Int32) then
        some ((0 : Int32))
      else
        some ((1 : Int32))
  else none
set_option maxHeartbeats 4000000 in
set_option maxRecDepth 100000 in
theorem w_X8_stays_b0 {l : Launch} {D : va_G} {cI cJ : ClassId} {g : pa_GT} {a_we a_wh : Nat} {A : Nat → Prop} {p : Program} {e : Env} {s : State} {m : MethodId} {args : Array Value} {below : List Frame} {meth : Method} {c : Code} {x1 : Int32} {v_we_many : Int32} {v_wh : Nat → Int32}  {o : Int32} (X : pa_X cX8_stays 3 (some .boolean) RX8 wsX8_stays D cI cJ g A p s m args meth c)  (hf : f_X8_stays x1 v_we_many v_wh = some o) {H : Heap} {locs : List Loc} (hP : va_P D vwCl (wo_X8_stays cI cJ a_we a_wh v_we_many v_wh) H) (hD : va_D A (wo_X8_stays cI cJ a_we a_wh v_we_many v_wh)) (hS : va_S A s.heap H locs) {ls : Array Slot} (hl : lv_has ls 3 [(0, .ref a_we), (1, .int x1)]) : W p l e (headSpec wsX8_stays rm_X8_stays).room s m args below meth c H locs 0 0 (MQ below (va_Qi (fun r (_ : Unit) => r = o) (pa_QB D A (wo_X8_stays cI cJ a_we a_wh v_we_many v_wh)) A) args s 0 0 A) (F0 m 0 ls []) := by
  obtain ⟨hx, hb, hr, hml, hown, hts, hK, hA, hG, hlk⟩ := id X
  delta f_X8_stays at hf
  refine lv_aload_n hx hb dX8_stays_0 rfl (lv_at hl 0 rfl) ?_
  refine va_get (D := D) (ci := 7) (v := .ref a_wh) (C := RX8) (T := TX8) (N := 2) hx hb hts il_X8_stays_X8 hown hK hP 0 rfl rfl 0 (by decide) (hts _ fk_X8_stays_0) (fun _ h9 => h9) rfl dX8_stays_1 ?_
  refine lv_aload_n hx hb dX8_stays_4 rfl (lv_at hl 0 rfl) ?_
  refine va_get (D := D) (ci := 7) (v := .int v_we_many) (C := RX8) (T := TX8) (N := 2) hx hb hts il_X8_stays_X8 hown hK hP 0 rfl rfl 1 (by decide) (hts _ fk_X8_stays_1) (fun _ h9 => h9) rfl dX8_stays_5 ?_
  refine lv_iconst (v := (1 : Int32)) hx hb dX8_stays_8 (by decide) ?_
  refine lv_isub hx hb dX8_stays_9 ?_
  obtain ⟨hi_1, hf⟩ := pa_gd hf
  refine va_iald hx hb hK hP 1 0 rfl rfl hi_1 dX8_stays_10 ?_
  refine lv_istore_n (lv' := [(2, .int (v_wh (Int32.toNatClampNeg (v_we_many - (1 : Int32))))), (0, .ref a_we), (1, .int x1)]) hx hb dX8_stays_11 rfl hl (by decide) rfl (fun ls hl => ?_)
  refine lv_iload_n hx hb dX8_stays_12 rfl (lv_at hl 0 rfl) ?_
  refine lv_sipush (v := (500 : Int32)) hx hb dX8_stays_13 (by decide) ?_
  refine lv_icmp_lt (tgt := 40) hx hb dX8_stays_16 (by decide) (fun c_2 => ?_) (fun c_2 => ?_)
  · have hf := (if_pos c_2).symm.trans hf
    refine lv_iload_n hx hb dX8_stays_40 rfl (lv_at hl 0 rfl) ?_
    refine lv_aload_n hx hb dX8_stays_41 rfl (lv_at hl 1 rfl) ?_
    refine lv_iload_n hx hb dX8_stays_42 rfl (lv_at hl 2 rfl) ?_
    obtain ⟨u_3, hg_4, hf⟩ := pa_bd hf
    refine pa_ki (wc := (wo_X8_rise cI cJ a_we a_wh v_we_many v_wh)) (wr := ([] : va_W)) (w1 := (wo_X8_rise cI cJ a_we a_wh v_we_many v_wh)) (w2 := (wo_X8_stays cI cJ a_we a_wh v_we_many v_wh)) X hP hD hS [0, 1] [] [0, 1] rfl (pa_rV (As := [.int x1]) (rest := [.int (v_wh (Int32.toNatClampNeg (v_we_many - (1 : Int32))))]) (T := TX8) X hP hD hS [0, 1] rfl rfl (c_X8_rise hg_4 H.size) (cwV 1 hts gX8_stays_X8_rise rfl rfl rfl (by decide +kernel) ⟨Nat.le_of_ble_eq_true rfl, Nat.le_of_ble_eq_true rfl⟩) (q0 := 0) rfl rfl rfl hl.1 rfl (Nat.le_of_ble_eq_true rfl) dX8_stays_43 ⟨Nat.zero_le _, Nat.zero_le _⟩) rfl rfl (by decide) rfl rfl (fun H locs hP hD hS => ?_)
    refine lv_iadd hx hb dX8_stays_46 ?_
    refine lv_sipush (v := (500 : Int32)) hx hb dX8_stays_47 (by decide) ?_
    refine lv_icmp_ge (tgt := 57) hx hb dX8_stays_50 (by decide) (fun c_5 => ?_) (fun c_5 => ?_)
    · have hf := (if_pos c_5).symm.trans hf
      refine lv_iconst (v := (0 : Int32)) hx hb dX8_stays_57 (by decide) ?_
      obtain rfl := Option.some.inj hf
      exact pa_ez (v := (0 : Int32)) X hP hD hS rfl dX8_stays_58
    · have hf := (if_neg c_5).symm.trans hf
      refine lv_iconst (v := (1 : Int32)) hx hb dX8_stays_53 (by decide) ?_
      refine lv_goto (tgt := 58) hx hb dX8_stays_54 (by decide) ?_
      obtain rfl := Option.some.inj hf
      exact pa_ez (v := (1 : Int32)) X hP hD hS rfl dX8_stays_58
  · have hf := (if_neg c_2).symm.trans hf
    refine lv_iload_n hx hb dX8_stays_19 rfl (lv_at hl 0 rfl) ?_
    refine lv_aload_n hx hb dX8_stays_20 rfl (lv_at hl 1 rfl) ?_
    refine lv_iload_n hx hb dX8_stays_21 rfl (lv_at hl 2 rfl) ?_
    obtain ⟨u_6, hg_7, hf⟩ := pa_bd hf
    refine pa_ki (wc := (wo_X8_fall cI cJ a_we a_wh v_we_many v_wh)) (wr := ([] : va_W)) (w1 := (wo_X8_fall cI cJ a_we a_wh v_we_many v_wh)) (w2 := (wo_X8_stays cI cJ a_we a_wh v_we_many v_wh)) X hP hD hS [0, 1] [] [0, 1] rfl (pa_rV (As := [.int x1]) (rest := [.int (v_wh (Int32.toNatClampNeg (v_we_many - (1 : Int32))))]) (T := TX8) X hP hD hS [0, 1] rfl rfl (c_X8_fall hg_7 H.size) (cwV 1 hts gX8_stays_X8_fall rfl rfl rfl (by decide +kernel) ⟨Nat.le_of_ble_eq_true rfl, Nat.le_of_ble_eq_true rfl⟩) (q0 := 0) rfl rfl rfl hl.1 rfl (Nat.le_of_ble_eq_true rfl) dX8_stays_22 ⟨Nat.zero_le _, Nat.zero_le _⟩) rfl rfl (by decide) rfl rfl (fun H locs hP hD hS => ?_)
    refine lv_isub hx hb dX8_stays_25 ?_
    refine lv_sipush (v := (500 : Int32)) hx hb dX8_stays_26 (by decide) ?_
    refine lv_icmp_lt (tgt := 36) hx hb dX8_stays_29 (by decide) (fun c_8 => ?_) (fun c_8 => ?_)
    · have hf := (if_pos c_8).symm.trans hf
      refine lv_iconst (v := (0 : Int32)) hx hb dX8_stays_36 (by decide) ?_
      refine lv_goto (tgt := 58) hx hb dX8_stays_37 (by decide) ?_
      obtain rfl := Option.some.inj hf
      exact pa_ez (v := (0 : Int32)) X hP hD hS rfl dX8_stays_58
    · have hf := (if_neg c_8).symm.trans hf
      refine lv_iconst (v := (1 : Int32)) hx hb dX8_stays_32 (by decide) ?_
      refine lv_goto (tgt := 58) hx hb dX8_stays_33 (by decide) ?_
      obtain rfl := Option.some.inj hf
      exact pa_ez (v := (1 : Int32)) X hP hD hS rfl dX8_stays_58
set_option maxHeartbeats 4000000 in
set_option maxRecDepth 100000 in
theorem c_X8_stays {l : Launch} {D : va_G} {cI cJ : ClassId} {g : pa_GT} {a_we a_wh : Nat} {x1 : Int32} {v_we_many : Int32} {v_wh : Nat → Int32} {o : Int32} (hf : f_X8_stays x1 v_we_many v_wh = some o) : pa_Mi l yX8_stays wsX8_stays rm_X8_stays D cI cJ g [.ref a_we, .int x1] (wo_X8_stays cI cJ a_we a_wh v_we_many v_wh) (wo_X8_stays cI cJ a_we a_wh v_we_many v_wh) o := by
  intro sz
  refine pa_met (cc := cX8_stays) (maxL := 3) (ret := (some .boolean)) (lv := [(0, .ref a_we), (1, .int x1)]) (by decide) rfl (Nat.le_of_ble_eq_true rfl) rfl ?_
  intro p e s m below meth c X hsz hP hD ls hl
  subst hsz
  exact w_X8_stays_b0 X hf hP hD va_S.rf hl
abbrev wo_X8_sure (cI cJ : ClassId) (a_we a_wh : Nat) (v_we_many : Int32) (v_wh : Nat → Int32) : va_W := [(a_we, .inr (7, [.ref a_wh, .int v_we_many])), (a_wh, .inl (cI, 60, .inl v_wh))]
abbrev rm_X8_sure : Room := { frames := 4, cells := 0, slots := 0, locals := 80 }
theorem il_X8_sure_X8 : ∀ w ∈ wsX80, w ∈ wsX8_sure := by decide +kernel
theorem fk_X8_sure_0 : Cond.fieldLink RX8 15 "PostedAsks$Weeks" "many" "I" ∈ wsX8_sure := by decide +kernel
def f_X8_sure_L2_body (v_we_many : Int32) (v_wh : Nat → Int32) (rec2 : Int32 → Option (Int32)) (x1 : Int32) : Option (Int32) :=
  if v_we_many ≤ (x1 + (1 : Int32)) then
    some (x1)
  else
    (f_X8_stays (x1 + (1 : Int32)) v_we_many v_wh).bind fun u_2 =>
    if u_2 = 0 then
      some (x1)
    else
      rec2 (x1 + (1 : Int32))
def f_X8_sure_L2 (v_we_many : Int32) (v_wh : Nat → Int32) : Nat → Int32 → Option (Int32)
  | 0 => fun _ => none
  | n + 1 => f_X8_sure_L2_body v_we_many v_wh (f_X8_sure_L2 v_we_many v_wh n)
def f_X8_sure (v_we_many : Int32) (v_wh : Nat → Int32) : Option (Int32) :=
  f_X8_sure_L2 v_we_many v_wh pa_fu (0 : Int32)
set_option maxHeartbeats 4000000 in
set_option maxRecDepth 100000 in
theorem w_X8_sure_L2 {l : Launch} {D : va_G} {cI cJ : ClassId} {g : pa_GT} {a_we a_wh : Nat} {A : Nat → Prop} {p : Program} {e : Env} {s : State} {m : MethodId} {args : Array Value} {below : List Frame} {meth : Method} {c : Code} {v_we_many : Int32} {v_wh : Nat → Int32}  {o : Int32} (X : pa_X cX8_sure 2 (some .int) RX8 wsX8_sure D cI cJ g A p s m args meth c)  : ∀ (n : Nat) (x1 : Int32), f_X8_sure_L2 v_we_many v_wh n x1 = some o → ∀ (H : Heap) (locs : List Loc) , va_P D vwCl (wo_X8_sure cI cJ a_we a_wh v_we_many v_wh) H → va_D A (wo_X8_sure cI cJ a_we a_wh v_we_many v_wh) → va_S A s.heap H locs → ∀ (ls : Array Slot), lv_has ls 2 [(0, .ref a_we), (1, .int x1)] → W p l e (headSpec wsX8_sure rm_X8_sure).room s m args below meth c H locs 0 0 (MQ below (va_Qi (fun r (_ : Unit) => r = o) (pa_QB D A (wo_X8_sure cI cJ a_we a_wh v_we_many v_wh)) A) args s 0 0 A) (F0 m 2 ls []) := by
  obtain ⟨hx, hb, hr, hml, hown, hts, hK, hA, hG, hlk⟩ := id X
  intro n
  induction n with
  | zero =>
    intro x1 hf
    have hf : (none : Option (Int32)) = some o := hf
    cases hf
  | succ n hrec2 =>
    intro x1 hf H locs  hP hD hS ls hl
    have hf : f_X8_sure_L2_body v_we_many v_wh (f_X8_sure_L2 v_we_many v_wh n) x1 = some o := hf
    delta f_X8_sure_L2_body at hf
    generalize hgr : f_X8_sure_L2 v_we_many v_wh n = rec2 at hf hrec2
    refine lv_iload_n hx hb dX8_sure_2 rfl (lv_at hl 1 rfl) ?_
    refine lv_iconst (v := (1 : Int32)) hx hb dX8_sure_3 (by decide) ?_
    refine lv_iadd hx hb dX8_sure_4 ?_
    refine lv_aload_n hx hb dX8_sure_5 rfl (lv_at hl 0 rfl) ?_
    refine va_get (D := D) (ci := 7) (v := .int v_we_many) (C := RX8) (T := TX8) (N := 2) hx hb hts il_X8_sure_X8 hown hK hP 0 rfl rfl 1 (by decide) (hts _ fk_X8_sure_0) (fun _ h9 => h9) rfl dX8_sure_6 ?_
    refine lv_icmp_ge (tgt := 28) hx hb dX8_sure_9 (by decide) (fun c_1 => ?_) (fun c_1 => ?_)
    · have hf := (if_pos c_1).symm.trans hf
      refine lv_iload_n hx hb dX8_sure_28 rfl (lv_at hl 1 rfl) ?_
      obtain rfl := Option.some.inj hf
      exact pa_ei X hP hD hS dX8_sure_29
    · have hf := (if_neg c_1).symm.trans hf
      refine lv_aload_n hx hb dX8_sure_12 rfl (lv_at hl 0 rfl) ?_
      refine lv_iload_n hx hb dX8_sure_13 rfl (lv_at hl 1 rfl) ?_
      refine lv_iconst (v := (1 : Int32)) hx hb dX8_sure_14 (by decide) ?_
      refine lv_iadd hx hb dX8_sure_15 ?_
      obtain ⟨u_2, hg_3, hf⟩ := pa_bd hf
      refine pa_ki (wc := (wo_X8_stays cI cJ a_we a_wh v_we_many v_wh)) (wr := ([] : va_W)) (w1 := (wo_X8_stays cI cJ a_we a_wh v_we_many v_wh)) (w2 := (wo_X8_sure cI cJ a_we a_wh v_we_many v_wh)) X hP hD hS [0, 1] [] [0, 1] rfl (pa_rV (As := [.int (x1 + (1 : Int32))]) (rest := []) (T := TX8) X hP hD hS [0, 1] rfl rfl (c_X8_stays hg_3 H.size) (cwV 1 hts gX8_sure_X8_stays rfl rfl rfl (by decide +kernel) ⟨Nat.le_of_ble_eq_true rfl, Nat.le_of_ble_eq_true rfl⟩) (q0 := 0) rfl rfl rfl hl.1 rfl (Nat.le_of_ble_eq_true rfl) dX8_sure_16 ⟨Nat.zero_le _, Nat.zero_le _⟩) rfl rfl (by decide) rfl rfl (fun H locs hP hD hS => ?_)
      refine lv_if_eq (tgt := 28) hx hb dX8_sure_19 (by decide) (fun c_4 => ?_) (fun c_4 => ?_)
      · have hf := (if_pos c_4).symm.trans hf
        refine lv_iload_n hx hb dX8_sure_28 rfl (lv_at hl 1 rfl) ?_
        obtain rfl := Option.some.inj hf
        exact pa_ei X hP hD hS dX8_sure_29
      · have hf := (if_neg c_4).symm.trans hf
        refine lv_iinc (v := (x1 + (1 : Int32))) (lv' := [(1, .int (x1 + (1 : Int32))), (0, .ref a_we)]) hx hb dX8_sure_22 hl (k := 1) rfl rfl (by decide) rfl (fun ls hl => ?_)
        refine lv_goto (tgt := 2) hx hb dX8_sure_25 (by decide) ?_
        exact hrec2 _ hf _ _  hP hD hS _ (lv_sub hl [1, 0] rfl)
set_option maxHeartbeats 4000000 in
set_option maxRecDepth 100000 in
theorem w_X8_sure_b0 {l : Launch} {D : va_G} {cI cJ : ClassId} {g : pa_GT} {a_we a_wh : Nat} {A : Nat → Prop} {p : Program} {e : Env} {s : State} {m : MethodId} {args : Array Value} {below : List Frame} {meth : Method} {c : Code} {v_we_many : Int32} {v_wh : Nat → Int32}  {o : Int32} (X : pa_X cX8_sure 2 (some .int) RX8 wsX8_sure D cI cJ g A p s m args meth c)  (hf : f_X8_sure v_we_many v_wh = some o) {H : Heap} {locs : List Loc} (hP : va_P D vwCl (wo_X8_sure cI cJ a_we a_wh v_we_many v_wh) H) (hD : va_D A (wo_X8_sure cI cJ a_we a_wh v_we_many v_wh)) (hS : va_S A s.heap H locs) {ls : Array Slot} (hl : lv_has ls 2 [(0, .ref a_we)]) : W p l e (headSpec wsX8_sure rm_X8_sure).room s m args below meth c H locs 0 0 (MQ below (va_Qi (fun r (_ : Unit) => r = o) (pa_QB D A (wo_X8_sure cI cJ a_we a_wh v_we_many v_wh)) A) args s 0 0 A) (F0 m 0 ls []) := by
  obtain ⟨hx, hb, hr, hml, hown, hts, hK, hA, hG, hlk⟩ := id X
  delta f_X8_sure at hf
  refine lv_iconst (v := (0 : Int32)) hx hb dX8_sure_0 (by decide) ?_
  refine lv_istore_n (lv' := [(1, .int (0 : Int32)), (0, .ref a_we)]) hx hb dX8_sure_1 rfl hl (by decide) rfl (fun ls hl => ?_)
  exact w_X8_sure_L2 X  _ _ hf _ _  hP hD hS _ (lv_sub hl [1, 0] rfl)
set_option maxHeartbeats 4000000 in
set_option maxRecDepth 100000 in
theorem c_X8_sure {l : Launch} {D : va_G} {cI cJ : ClassId} {g : pa_GT} {a_we a_wh : Nat}  {v_we_many : Int32} {v_wh : Nat → Int32} {o : Int32} (hf : f_X8_sure v_we_many v_wh = some o) : pa_Mi l yX8_sure wsX8_sure rm_X8_sure D cI cJ g [.ref a_we] (wo_X8_sure cI cJ a_we a_wh v_we_many v_wh) (wo_X8_sure cI cJ a_we a_wh v_we_many v_wh) o := by
  intro sz
  refine pa_met (cc := cX8_sure) (maxL := 2) (ret := (some .int)) (lv := [(0, .ref a_we)]) (by decide) rfl (Nat.le_of_ble_eq_true rfl) rfl ?_
  intro p e s m below meth c X hsz hP hD ls hl
  subst hsz
  exact w_X8_sure_b0 X hf hP hD va_S.rf hl
abbrev wo_X8_empty (cI cJ : ClassId) (a_we a_wh : Nat) (v_we_many : Int32) : va_W := [(a_we, .inr (7, [.ref a_wh, .int v_we_many]))]
abbrev rm_X8_empty : Room := { frames := 0, cells := 0, slots := 0, locals := 0 }
theorem il_X8_empty_X8 : ∀ w ∈ wsX80, w ∈ wsX8_empty := by decide +kernel
theorem fk_X8_empty_0 : Cond.fieldLink RX8 15 "PostedAsks$Weeks" "many" "I" ∈ wsX8_empty := by decide +kernel
def f_X8_empty  : Option (Int32) :=
  some ((0 : Int32))
set_option maxHeartbeats 4000000 in
set_option maxRecDepth 100000 in
theorem w_X8_empty_b0 {l : Launch} {D : va_G} {cI cJ : ClassId} {g : pa_GT} {a_we a_wh : Nat} {A : Nat → Prop} {p : Program} {e : Env} {s : State} {m : MethodId} {args : Array Value} {below : List Frame} {meth : Method} {c : Code}  {v_we_many : Int32} {o : Int32} (X : pa_X cX8_empty 1 none RX8 wsX8_empty D cI cJ g A p s m args meth c)  (hf : f_X8_empty  = some o) {H : Heap} {locs : List Loc} (hP : va_P D vwCl (wo_X8_empty cI cJ a_we a_wh v_we_many) H) (hD : va_D A (wo_X8_empty cI cJ a_we a_wh v_we_many)) (hS : va_S A s.heap H locs) {ls : Array Slot} (hl : lv_has ls 1 [(0, .ref a_we)]) : W p l e (headSpec wsX8_empty rm_X8_empty).room s m args below meth c H locs 0 0 (MQ below (va_Qv (fun (_ : Unit) => True) (pa_QB D A (wo_X8_empty cI cJ a_we a_wh o)) A) args s 0 0 A) (F0 m 0 ls []) := by
  obtain ⟨hx, hb, hr, hml, hown, hts, hK, hA, hG, hlk⟩ := id X
  delta f_X8_empty at hf
  refine lv_aload_n hx hb dX8_empty_0 rfl (lv_at hl 0 rfl) ?_
  refine lv_iconst (v := (0 : Int32)) hx hb dX8_empty_1 (by decide) ?_
  refine va_put (D := D) (ci := 7) (v := .int (0 : Int32)) (ty := .int) (C := RX8) (T := TX8) (N := 2) hx hb hts il_X8_empty_X8 tyX8 tyX8_ok nmX8 hown hK hP hD hS 0 rfl rfl 1 (by decide) (hts _ fk_X8_empty_0) (fun _ h9 => h9) rfl (tyX8_ok 1 (by decide)) rfl rfl (Nat.le_of_ble_eq_true rfl) dX8_empty_2 (fun H locs hP hD hS => ?_)
  have hP : va_P D vwCl (wo_X8_empty cI cJ a_we a_wh (0 : Int32)) H := hP
  have hD : va_D A (wo_X8_empty cI cJ a_we a_wh (0 : Int32)) := hD
  obtain rfl := Option.some.inj hf
  exact pa_ev X hP hD hS dX8_empty_5
set_option maxHeartbeats 4000000 in
set_option maxRecDepth 100000 in
theorem c_X8_empty {l : Launch} {D : va_G} {cI cJ : ClassId} {g : pa_GT} {a_we a_wh : Nat}  {v_we_many : Int32} {o : Int32} (hf : f_X8_empty  = some o) : pa_Mv l yX8_empty wsX8_empty rm_X8_empty D cI cJ g [.ref a_we] (wo_X8_empty cI cJ a_we a_wh v_we_many) (wo_X8_empty cI cJ a_we a_wh o) := by
  intro sz
  refine pa_met (cc := cX8_empty) (maxL := 1) (ret := none) (lv := [(0, .ref a_we)]) (by decide) rfl (Nat.le_of_ble_eq_true rfl) rfl ?_
  intro p e s m below meth c X hsz hP hD ls hl
  subst hsz
  exact w_X8_empty_b0 X hf hP hD va_S.rf hl
