abbrev wo_X3_append (cI cJ : ClassId) (a_ho a_hn : Nat) (v_ho_rows : Int32) (v_hn : Nat → Int32) : va_W := [(a_ho, .inr (3, [.ref a_hn, .int v_ho_rows])), (a_hn, .inl (cI, 24, .inl v_hn))]
abbrev rm_X3_append : Room := { frames := 0, cells := 0, slots := 0, locals := 0 }
theorem il_X3_append_X3 : ∀ w ∈ wsX30, w ∈ wsX3_append := by decide +kernel
theorem fk_X3_append_0 : Cond.fieldLink RX3 9 "PostedAsks$House" "needs" "[I" ∈ wsX3_append := by decide +kernel
theorem fk_X3_append_1 : Cond.fieldLink RX3 15 "PostedAsks$House" "rows" "I" ∈ wsX3_append := by decide +kernel
def f_X3_append_L17_body (x1 : Int32) (v_ho_rows : Int32) (rec17 : Int32 → (Nat → Int32) → Option (Int32 × Int32 × (Nat → Int32))) (x2 : Int32) (v_hn : Nat → Int32) : Option (Int32 × Int32 × (Nat → Int32)) :=
  if x2 ≤ 0 then
    if pa_ib x2 24 = true then
      some ((v_ho_rows + (1 : Int32)), (v_ho_rows + (1 : Int32)), (upd v_hn (Int32.toNatClampNeg x2) x1))
    else none
  else
    if pa_ib (x2 - (1 : Int32)) 24 = true then
      if (v_hn (Int32.toNatClampNeg (x2 - (1 : Int32)))) ≤ x1 then
        if pa_ib x2 24 = true then
          some ((v_ho_rows + (1 : Int32)), (v_ho_rows + (1 : Int32)), (upd v_hn (Int32.toNatClampNeg x2) x1))
        else none
      else
        if pa_ib x2 24 = true then
          rec17 (x2 + (-1 : Int32)) (upd v_hn (Int32.toNatClampNeg x2) (v_hn (Int32.toNatClampNeg (x2 - (1 : Int32)))))
        else none
    else none
def f_X3_append_L17 (x1 : Int32) (v_ho_rows : Int32) : Nat → Int32 → (Nat → Int32) → Option (Int32 × Int32 × (Nat → Int32))
  | 0 => fun _ _ => none
  | n + 1 => f_X3_append_L17_body x1 v_ho_rows (f_X3_append_L17 x1 v_ho_rows n)
def f_X3_append (x1 : Int32) (v_ho_rows : Int32) (v_hn : Nat → Int32) : Option (Int32 × Int32 × (Nat → Int32)) :=
  if v_ho_rows < (24 : Int32) then
    f_X3_append_L17 x1 v_ho_rows pa_fu v_ho_rows v_hn
  else
    some ((-3 : Int32), v_ho_rows, v_hn)
set_option maxHeartbeats 4000000 in
set_option maxRecDepth 100000 in
theorem w_X3_append_L17 {l : Launch} {D : va_G} {cI cJ : ClassId} {g : pa_GT} {a_ho a_hn : Nat} {A : Nat → Prop} {p : Program} {e : Env} {s : State} {m : MethodId} {args : Array Value} {below : List Frame} {meth : Method} {c : Code} {x1 : Int32} {v_ho_rows : Int32}  {o : Int32 × Int32 × (Nat → Int32)} (X : pa_X cX3_append 3 (some .int) RX3 wsX3_append D cI cJ g A p s m args meth c)  : ∀ (n : Nat) (x2 : Int32) (v_hn : Nat → Int32), f_X3_append_L17 x1 v_ho_rows n x2 v_hn = some o → ∀ (H : Heap) (locs : List Loc) , va_P D vwCl (wo_X3_append cI cJ a_ho a_hn v_ho_rows v_hn) H → va_D A (wo_X3_append cI cJ a_ho a_hn v_ho_rows v_hn) → va_S A s.heap H locs → ∀ (ls : Array Slot), lv_has ls 3 [(0, .ref a_ho), (1, .int x1), (2, .int x2)] → W p l e (headSpec wsX3_append rm_X3_append).room s m args below meth c H locs 0 0 (MQ below (va_Qi (fun r (_ : Unit) => r = o.1) (pa_QB D A (wo_X3_append cI cJ a_ho a_hn o.2.1 o.2.2)) A) args s 0 0 A) (F0 m 17 ls []) := by
  obtain ⟨hx, hb, hr, hml, hown, hts, hK, hA, hG, hlk⟩ := id X
  intro n
  induction n with
  | zero =>
    intro x2 v_hn hf
    have hf : (none : Option (Int32 × Int32 × (Nat → Int32))) = some o := hf
    cases hf
  | succ n hrec17 =>
    intro x2 v_hn hf H locs  hP hD hS ls hl
    have hf : f_X3_append_L17_body x1 v_ho_rows (f_X3_append_L17 x1 v_ho_rows n) x2 v_hn = some o := hf
    delta f_X3_append_L17_body at hf
    generalize hgr : f_X3_append_L17 x1 v_ho_rows n = rec17 at hf hrec17
    refine lv_iload_n hx hb dX3_append_17 rfl (lv_at hl 2 rfl) ?_
    refine lv_if_le (tgt := 53) hx hb dX3_append_18 (by decide) (fun c_1 => ?_) (fun c_1 => ?_)
    · have hf := (if_pos c_1).symm.trans hf
      refine lv_aload_n hx hb dX3_append_53 rfl (lv_at hl 0 rfl) ?_
      refine va_get (D := D) (ci := 3) (v := .ref a_hn) (C := RX3) (T := TX3) (N := 2) hx hb hts il_X3_append_X3 hown hK hP 0 rfl rfl 0 (by decide) (hts _ fk_X3_append_0) (fun _ h9 => h9) rfl dX3_append_54 ?_
      refine lv_iload_n hx hb dX3_append_57 rfl (lv_at hl 2 rfl) ?_
      refine lv_iload_n hx hb dX3_append_58 rfl (lv_at hl 1 rfl) ?_
      obtain ⟨hi_2, hf⟩ := pa_gd hf
      refine va_iast hx hb hK hP hD hS 1 0 rfl rfl hi_2 dX3_append_59 (fun H locs hP hD hS => ?_)
      have hP : va_P D vwCl (wo_X3_append cI cJ a_ho a_hn v_ho_rows (upd v_hn (Int32.toNatClampNeg x2) x1)) H := hP
      have hD : va_D A (wo_X3_append cI cJ a_ho a_hn v_ho_rows (upd v_hn (Int32.toNatClampNeg x2) x1)) := hD
      refine lv_aload_n hx hb dX3_append_60 rfl (lv_at hl 0 rfl) ?_
      refine lv_dup hx hb dX3_append_61 rfl ?_
      refine va_get (D := D) (ci := 3) (v := .int v_ho_rows) (C := RX3) (T := TX3) (N := 2) hx hb hts il_X3_append_X3 hown hK hP 0 rfl rfl 1 (by decide) (hts _ fk_X3_append_1) (fun _ h9 => h9) rfl dX3_append_62 ?_
      refine lv_iconst (v := (1 : Int32)) hx hb dX3_append_65 (by decide) ?_
      refine lv_iadd hx hb dX3_append_66 ?_
      refine va_put (D := D) (ci := 3) (v := .int (v_ho_rows + (1 : Int32))) (ty := .int) (C := RX3) (T := TX3) (N := 2) hx hb hts il_X3_append_X3 tyX3 tyX3_ok nmX3 hown hK hP hD hS 0 rfl rfl 1 (by decide) (hts _ fk_X3_append_1) (fun _ h9 => h9) rfl (tyX3_ok 1 (by decide)) rfl rfl (Nat.le_of_ble_eq_true rfl) dX3_append_67 (fun H locs hP hD hS => ?_)
      have hP : va_P D vwCl (wo_X3_append cI cJ a_ho a_hn (v_ho_rows + (1 : Int32)) (upd v_hn (Int32.toNatClampNeg x2) x1)) H := hP
      have hD : va_D A (wo_X3_append cI cJ a_ho a_hn (v_ho_rows + (1 : Int32)) (upd v_hn (Int32.toNatClampNeg x2) x1)) := hD
      refine lv_aload_n hx hb dX3_append_70 rfl (lv_at hl 0 rfl) ?_
      refine va_get (D := D) (ci := 3) (v := .int (v_ho_rows + (1 : Int32))) (C := RX3) (T := TX3) (N := 2) hx hb hts il_X3_append_X3 hown hK hP 0 rfl rfl 1 (by decide) (hts _ fk_X3_append_1) (fun _ h9 => h9) rfl dX3_append_71 ?_
      obtain rfl := Option.some.inj hf
      exact pa_ei X hP hD hS dX3_append_74
    · have hf := (if_neg c_1).symm.trans hf
      refine lv_aload_n hx hb dX3_append_21 rfl (lv_at hl 0 rfl) ?_
      refine va_get (D := D) (ci := 3) (v := .ref a_hn) (C := RX3) (T := TX3) (N := 2) hx hb hts il_X3_append_X3 hown hK hP 0 rfl rfl 0 (by decide) (hts _ fk_X3_append_0) (fun _ h9 => h9) rfl dX3_append_22 ?_
      refine lv_iload_n hx hb dX3_append_25 rfl (lv_at hl 2 rfl) ?_
      refine lv_iconst (v := (1 : Int32)) hx hb dX3_append_26 (by decide) ?_
      refine lv_isub hx hb dX3_append_27 ?_
      obtain ⟨hi_3, hf⟩ := pa_gd hf
      refine va_iald hx hb hK hP 1 0 rfl rfl hi_3 dX3_append_28 ?_
      refine lv_iload_n hx hb dX3_append_29 rfl (lv_at hl 1 rfl) ?_
      refine lv_icmp_le (tgt := 53) hx hb dX3_append_30 (by decide) (fun c_4 => ?_) (fun c_4 => ?_)
      · have hf := (if_pos c_4).symm.trans hf
        refine lv_aload_n hx hb dX3_append_53 rfl (lv_at hl 0 rfl) ?_
        refine va_get (D := D) (ci := 3) (v := .ref a_hn) (C := RX3) (T := TX3) (N := 2) hx hb hts il_X3_append_X3 hown hK hP 0 rfl rfl 0 (by decide) (hts _ fk_X3_append_0) (fun _ h9 => h9) rfl dX3_append_54 ?_
        refine lv_iload_n hx hb dX3_append_57 rfl (lv_at hl 2 rfl) ?_
        refine lv_iload_n hx hb dX3_append_58 rfl (lv_at hl 1 rfl) ?_
        obtain ⟨hi_5, hf⟩ := pa_gd hf
        refine va_iast hx hb hK hP hD hS 1 0 rfl rfl hi_5 dX3_append_59 (fun H locs hP hD hS => ?_)
        have hP : va_P D vwCl (wo_X3_append cI cJ a_ho a_hn v_ho_rows (upd v_hn (Int32.toNatClampNeg x2) x1)) H := hP
        have hD : va_D A (wo_X3_append cI cJ a_ho a_hn v_ho_rows (upd v_hn (Int32.toNatClampNeg x2) x1)) := hD
        refine lv_aload_n hx hb dX3_append_60 rfl (lv_at hl 0 rfl) ?_
        refine lv_dup hx hb dX3_append_61 rfl ?_
        refine va_get (D := D) (ci := 3) (v := .int v_ho_rows) (C := RX3) (T := TX3) (N := 2) hx hb hts il_X3_append_X3 hown hK hP 0 rfl rfl 1 (by decide) (hts _ fk_X3_append_1) (fun _ h9 => h9) rfl dX3_append_62 ?_
        refine lv_iconst (v := (1 : Int32)) hx hb dX3_append_65 (by decide) ?_
        refine lv_iadd hx hb dX3_append_66 ?_
        refine va_put (D := D) (ci := 3) (v := .int (v_ho_rows + (1 : Int32))) (ty := .int) (C := RX3) (T := TX3) (N := 2) hx hb hts il_X3_append_X3 tyX3 tyX3_ok nmX3 hown hK hP hD hS 0 rfl rfl 1 (by decide) (hts _ fk_X3_append_1) (fun _ h9 => h9) rfl (tyX3_ok 1 (by decide)) rfl rfl (Nat.le_of_ble_eq_true rfl) dX3_append_67 (fun H locs hP hD hS => ?_)
        have hP : va_P D vwCl (wo_X3_append cI cJ a_ho a_hn (v_ho_rows + (1 : Int32)) (upd v_hn (Int32.toNatClampNeg x2) x1)) H := hP
        have hD : va_D A (wo_X3_append cI cJ a_ho a_hn (v_ho_rows + (1 : Int32)) (upd v_hn (Int32.toNatClampNeg x2) x1)) := hD
        refine lv_aload_n hx hb dX3_append_70 rfl (lv_at hl 0 rfl) ?_
        refine va_get (D := D) (ci := 3) (v := .int (v_ho_rows + (1 : Int32))) (C := RX3) (T := TX3) (N := 2) hx hb hts il_X3_append_X3 hown hK hP 0 rfl rfl 1 (by decide) (hts _ fk_X3_append_1) (fun _ h9 => h9) rfl dX3_append_71 ?_
        obtain rfl := Option.some.inj hf
        exact pa_ei X hP hD hS dX3_append_74
      · have hf := (if_neg c_4).symm.trans hf
        refine lv_aload_n hx hb dX3_append_33 rfl (lv_at hl 0 rfl) ?_
        refine va_get (D := D) (ci := 3) (v := .ref a_hn) (C := RX3) (T := TX3) (N := 2) hx hb hts il_X3_append_X3 hown hK hP 0 rfl rfl 0 (by decide) (hts _ fk_X3_append_0) (fun _ h9 => h9) rfl dX3_append_34 ?_
        refine lv_iload_n hx hb dX3_append_37 rfl (lv_at hl 2 rfl) ?_
        refine lv_aload_n hx hb dX3_append_38 rfl (lv_at hl 0 rfl) ?_
        refine va_get (D := D) (ci := 3) (v := .ref a_hn) (C := RX3) (T := TX3) (N := 2) hx hb hts il_X3_append_X3 hown hK hP 0 rfl rfl 0 (by decide) (hts _ fk_X3_append_0) (fun _ h9 => h9) rfl dX3_append_39 ?_
        refine lv_iload_n hx hb dX3_append_42 rfl (lv_at hl 2 rfl) ?_
        refine lv_iconst (v := (1 : Int32)) hx hb dX3_append_43 (by decide) ?_
        refine lv_isub hx hb dX3_append_44 ?_
        refine va_iald hx hb hK hP 1 0 rfl rfl hi_3 dX3_append_45 ?_
        obtain ⟨hi_7, hf⟩ := pa_gd hf
        refine va_iast hx hb hK hP hD hS 1 0 rfl rfl hi_7 dX3_append_46 (fun H locs hP hD hS => ?_)
        have hP : va_P D vwCl (wo_X3_append cI cJ a_ho a_hn v_ho_rows (upd v_hn (Int32.toNatClampNeg x2) (v_hn (Int32.toNatClampNeg (x2 - (1 : Int32)))))) H := hP
        have hD : va_D A (wo_X3_append cI cJ a_ho a_hn v_ho_rows (upd v_hn (Int32.toNatClampNeg x2) (v_hn (Int32.toNatClampNeg (x2 - (1 : Int32)))))) := hD
        refine lv_iinc (v := (x2 + (-1 : Int32))) (lv' := [(2, .int (x2 + (-1 : Int32))), (0, .ref a_ho), (1, .int x1)]) hx hb dX3_append_47 hl (k := 2) rfl rfl (by decide) rfl (fun ls hl => ?_)
        refine lv_goto (tgt := 17) hx hb dX3_append_50 (by decide) ?_
        exact hrec17 _ _ hf _ _  hP hD hS _ (lv_sub hl [1, 2, 0] rfl)
set_option maxHeartbeats 4000000 in
set_option maxRecDepth 100000 in
theorem w_X3_append_b0 {l : Launch} {D : va_G} {cI cJ : ClassId} {g : pa_GT} {a_ho a_hn : Nat} {A : Nat → Prop} {p : Program} {e : Env} {s : State} {m : MethodId} {args : Array Value} {below : List Frame} {meth : Method} {c : Code} {x1 : Int32} {v_ho_rows : Int32} {v_hn : Nat → Int32}  {o : Int32 × Int32 × (Nat → Int32)} (X : pa_X cX3_append 3 (some .int) RX3 wsX3_append D cI cJ g A p s m args meth c)  (hf : f_X3_append x1 v_ho_rows v_hn = some o) {H : Heap} {locs : List Loc} (hP : va_P D vwCl (wo_X3_append cI cJ a_ho a_hn v_ho_rows v_hn) H) (hD : va_D A (wo_X3_append cI cJ a_ho a_hn v_ho_rows v_hn)) (hS : va_S A s.heap H locs) {ls : Array Slot} (hl : lv_has ls 3 [(0, .ref a_ho), (1, .int x1)]) : W p l e (headSpec wsX3_append rm_X3_append).room s m args below meth c H locs 0 0 (MQ below (va_Qi (fun r (_ : Unit) => r = o.1) (pa_QB D A (wo_X3_append cI cJ a_ho a_hn o.2.1 o.2.2)) A) args s 0 0 A) (F0 m 0 ls []) := by
  obtain ⟨hx, hb, hr, hml, hown, hts, hK, hA, hG, hlk⟩ := id X
  delta f_X3_append at hf
  refine lv_aload_n hx hb dX3_append_0 rfl (lv_at hl 0 rfl) ?_
  refine va_get (D := D) (ci := 3) (v := .int v_ho_rows) (C := RX3) (T := TX3) (N := 2) hx hb hts il_X3_append_X3 hown hK hP 0 rfl rfl 1 (by decide) (hts _ fk_X3_append_1) (fun _ h9 => h9) rfl dX3_append_1 ?_
  refine lv_bipush (v := (24 : Int32)) hx hb dX3_append_4 (by decide) ?_
  refine lv_icmp_lt (tgt := 12) hx hb dX3_append_6 (by decide) (fun c_8 => ?_) (fun c_8 => ?_)
  · have hf := (if_pos c_8).symm.trans hf
    refine lv_aload_n hx hb dX3_append_12 rfl (lv_at hl 0 rfl) ?_
    refine va_get (D := D) (ci := 3) (v := .int v_ho_rows) (C := RX3) (T := TX3) (N := 2) hx hb hts il_X3_append_X3 hown hK hP 0 rfl rfl 1 (by decide) (hts _ fk_X3_append_1) (fun _ h9 => h9) rfl dX3_append_13 ?_
    refine lv_istore_n (lv' := [(2, .int v_ho_rows), (0, .ref a_ho), (1, .int x1)]) hx hb dX3_append_16 rfl hl (by decide) rfl (fun ls hl => ?_)
    exact w_X3_append_L17 X  _ _ _ hf _ _  hP hD hS _ (lv_sub hl [1, 2, 0] rfl)
  · have hf := (if_neg c_8).symm.trans hf
    refine lv_bipush (v := (-3 : Int32)) hx hb dX3_append_9 (by decide) ?_
    obtain rfl := Option.some.inj hf
    exact pa_ei X hP hD hS dX3_append_11
set_option maxHeartbeats 4000000 in
set_option maxRecDepth 100000 in
theorem c_X3_append {l : Launch} {D : va_G} {cI cJ : ClassId} {g : pa_GT} {a_ho a_hn : Nat} {x1 : Int32} {v_ho_rows : Int32} {v_hn : Nat → Int32} {o : Int32 × Int32 × (Nat → Int32)} (hf : f_X3_append x1 v_ho_rows v_hn = some o) : pa_Mi l yX3_append wsX3_append rm_X3_append D cI cJ g [.ref a_ho, .int x1] (wo_X3_append cI cJ a_ho a_hn v_ho_rows v_hn) (wo_X3_append cI cJ a_ho a_hn o.2.1 o.2.2) o.1 := by
  intro sz
  refine pa_met (cc := cX3_append) (maxL := 3) (ret := (some .int)) (lv := [(0, .ref a_ho), (1, .int x1)]) (by decide) rfl (Nat.le_of_ble_eq_true rfl) rfl ?_
  intro p e s m below meth c X hsz hP hD ls hl
  subst hsz
  exact w_X3_append_b0 X hf hP hD va_S.rf hl
abbrev wo_X3_holding (cI cJ : ClassId) (a_ho a_hn : Nat) (v_ho_rows : Int32) (v_hn : Nat → Int32) : va_W := [(a_ho, .inr (3, [.ref a_hn, .int v_ho_rows])), (a_hn, .inl (cI, 24, .inl v_hn))]
abbrev rm_X3_holding : Room := { frames := 0, cells := 0, slots := 0, locals := 0 }
theorem il_X3_holding_X3 : ∀ w ∈ wsX30, w ∈ wsX3_holding := by decide +kernel
theorem fk_X3_holding_0 : Cond.fieldLink RX3 15 "PostedAsks$House" "rows" "I" ∈ wsX3_holding := by decide +kernel
theorem fk_X3_holding_1 : Cond.fieldLink RX3 9 "PostedAsks$House" "needs" "[I" ∈ wsX3_holding := by decide +kernel
def f_X3_holding_L4_body (x1 : Int32) (v_ho_rows : Int32) (v_hn : Nat → Int32) (rec4 : Int32 → Int32 → Option (Int32)) (x2 : Int32) (x3 : Int32) : Option (Int32) :=
  if v_ho_rows ≤ x3 then
    some (x2)
  else
    if pa_ib x3 24 = true then
      if x1 < (v_hn (Int32.toNatClampNeg x3)) then
        rec4 x2 (x3 + (1 : Int32))
      else
        rec4 (x2 + (1 : Int32)) (x3 + (1 : Int32))
    else none
def f_X3_holding_L4 (x1 : Int32) (v_ho_rows : Int32) (v_hn : Nat → Int32) : Nat → Int32 → Int32 → Option (Int32)
  | 0 => fun _ _ => none
  | n + 1 => f_X3_holding_L4_body x1 v_ho_rows v_hn (f_X3_holding_L4 x1 v_ho_rows v_hn n)
def f_X3_holding (x1 : Int32) (v_ho_rows : Int32) (v_hn : Nat → Int32) : Option (Int32) :=
  f_X3_holding_L4 x1 v_ho_rows v_hn pa_fu (0 : Int32) (0 : Int32)
set_option maxHeartbeats 4000000 in
set_option maxRecDepth 100000 in
theorem w_X3_holding_L4 {l : Launch} {D : va_G} {cI cJ : ClassId} {g : pa_GT} {a_ho a_hn : Nat} {A : Nat → Prop} {p : Program} {e : Env} {s : State} {m : MethodId} {args : Array Value} {below : List Frame} {meth : Method} {c : Code} {x1 : Int32} {v_ho_rows : Int32} {v_hn : Nat → Int32}  {o : Int32} (X : pa_X cX3_holding 4 (some .int) RX3 wsX3_holding D cI cJ g A p s m args meth c)  : ∀ (n : Nat) (x2 : Int32) (x3 : Int32), f_X3_holding_L4 x1 v_ho_rows v_hn n x2 x3 = some o → ∀ (H : Heap) (locs : List Loc) , va_P D vwCl (wo_X3_holding cI cJ a_ho a_hn v_ho_rows v_hn) H → va_D A (wo_X3_holding cI cJ a_ho a_hn v_ho_rows v_hn) → va_S A s.heap H locs → ∀ (ls : Array Slot), lv_has ls 4 [(0, .ref a_ho), (1, .int x1), (2, .int x2), (3, .int x3)] → W p l e (headSpec wsX3_holding rm_X3_holding).room s m args below meth c H locs 0 0 (MQ below (va_Qi (fun r (_ : Unit) => r = o) (pa_QB D A (wo_X3_holding cI cJ a_ho a_hn v_ho_rows v_hn)) A) args s 0 0 A) (F0 m 4 ls []) := by
  obtain ⟨hx, hb, hr, hml, hown, hts, hK, hA, hG, hlk⟩ := id X
  intro n
  induction n with
  | zero =>
    intro x2 x3 hf
    have hf : (none : Option (Int32)) = some o := hf
    cases hf
  | succ n hrec4 =>
    intro x2 x3 hf H locs  hP hD hS ls hl
    have hf : f_X3_holding_L4_body x1 v_ho_rows v_hn (f_X3_holding_L4 x1 v_ho_rows v_hn n) x2 x3 = some o := hf
    delta f_X3_holding_L4_body at hf
    generalize hgr : f_X3_holding_L4 x1 v_ho_rows v_hn n = rec4 at hf hrec4
    refine lv_iload_n hx hb dX3_holding_4 rfl (lv_at hl 3 rfl) ?_
    refine lv_aload_n hx hb dX3_holding_5 rfl (lv_at hl 0 rfl) ?_
    refine va_get (D := D) (ci := 3) (v := .int v_ho_rows) (C := RX3) (T := TX3) (N := 2) hx hb hts il_X3_holding_X3 hown hK hP 0 rfl rfl 1 (by decide) (hts _ fk_X3_holding_0) (fun _ h9 => h9) rfl dX3_holding_6 ?_
    refine lv_icmp_ge (tgt := 31) hx hb dX3_holding_9 (by decide) (fun c_1 => ?_) (fun c_1 => ?_)
    · have hf := (if_pos c_1).symm.trans hf
      refine lv_iload_n hx hb dX3_holding_31 rfl (lv_at hl 2 rfl) ?_
      obtain rfl := Option.some.inj hf
      exact pa_ei X hP hD hS dX3_holding_32
    · have hf := (if_neg c_1).symm.trans hf
      refine lv_aload_n hx hb dX3_holding_12 rfl (lv_at hl 0 rfl) ?_
      refine va_get (D := D) (ci := 3) (v := .ref a_hn) (C := RX3) (T := TX3) (N := 2) hx hb hts il_X3_holding_X3 hown hK hP 0 rfl rfl 0 (by decide) (hts _ fk_X3_holding_1) (fun _ h9 => h9) rfl dX3_holding_13 ?_
      refine lv_iload_n hx hb dX3_holding_16 rfl (lv_at hl 3 rfl) ?_
      obtain ⟨hi_2, hf⟩ := pa_gd hf
      refine va_iald hx hb hK hP 1 0 rfl rfl hi_2 dX3_holding_17 ?_
      refine lv_iload_n hx hb dX3_holding_18 rfl (lv_at hl 1 rfl) ?_
      refine lv_icmp_gt (tgt := 25) hx hb dX3_holding_19 (by decide) (fun c_3 => ?_) (fun c_3 => ?_)
      · have hf := (if_pos c_3).symm.trans hf
        refine lv_iinc (v := (x3 + (1 : Int32))) (lv' := [(3, .int (x3 + (1 : Int32))), (0, .ref a_ho), (1, .int x1), (2, .int x2)]) hx hb dX3_holding_25 hl (k := 3) rfl rfl (by decide) rfl (fun ls hl => ?_)
        refine lv_goto (tgt := 4) hx hb dX3_holding_28 (by decide) ?_
        exact hrec4 _ _ hf _ _  hP hD hS _ (lv_sub hl [1, 2, 3, 0] rfl)
      · have hf := (if_neg c_3).symm.trans hf
        refine lv_iinc (v := (x2 + (1 : Int32))) (lv' := [(2, .int (x2 + (1 : Int32))), (0, .ref a_ho), (1, .int x1), (3, .int x3)]) hx hb dX3_holding_22 hl (k := 2) rfl rfl (by decide) rfl (fun ls hl => ?_)
        refine lv_iinc (v := (x3 + (1 : Int32))) (lv' := [(3, .int (x3 + (1 : Int32))), (2, .int (x2 + (1 : Int32))), (0, .ref a_ho), (1, .int x1)]) hx hb dX3_holding_25 hl (k := 3) rfl rfl (by decide) rfl (fun ls hl => ?_)
        refine lv_goto (tgt := 4) hx hb dX3_holding_28 (by decide) ?_
        exact hrec4 _ _ hf _ _  hP hD hS _ (lv_sub hl [2, 3, 1, 0] rfl)
set_option maxHeartbeats 4000000 in
set_option maxRecDepth 100000 in
theorem w_X3_holding_b0 {l : Launch} {D : va_G} {cI cJ : ClassId} {g : pa_GT} {a_ho a_hn : Nat} {A : Nat → Prop} {p : Program} {e : Env} {s : State} {m : MethodId} {args : Array Value} {below : List Frame} {meth : Method} {c : Code} {x1 : Int32} {v_ho_rows : Int32} {v_hn : Nat → Int32}  {o : Int32} (X : pa_X cX3_holding 4 (some .int) RX3 wsX3_holding D cI cJ g A p s m args meth c)  (hf : f_X3_holding x1 v_ho_rows v_hn = some o) {H : Heap} {locs : List Loc} (hP : va_P D vwCl (wo_X3_holding cI cJ a_ho a_hn v_ho_rows v_hn) H) (hD : va_D A (wo_X3_holding cI cJ a_ho a_hn v_ho_rows v_hn)) (hS : va_S A s.heap H locs) {ls : Array Slot} (hl : lv_has ls 4 [(0, .ref a_ho), (1, .int x1)]) : W p l e (headSpec wsX3_holding rm_X3_holding).room s m args below meth c H locs 0 0 (MQ below (va_Qi (fun r (_ : Unit) => r = o) (pa_QB D A (wo_X3_holding cI cJ a_ho a_hn v_ho_rows v_hn)) A) args s 0 0 A) (F0 m 0 ls []) := by
  obtain ⟨hx, hb, hr, hml, hown, hts, hK, hA, hG, hlk⟩ := id X
  delta f_X3_holding at hf
  refine lv_iconst (v := (0 : Int32)) hx hb dX3_holding_0 (by decide) ?_
  refine lv_istore_n (lv' := [(2, .int (0 : Int32)), (0, .ref a_ho), (1, .int x1)]) hx hb dX3_holding_1 rfl hl (by decide) rfl (fun ls hl => ?_)
  refine lv_iconst (v := (0 : Int32)) hx hb dX3_holding_2 (by decide) ?_
  refine lv_istore_n (lv' := [(3, .int (0 : Int32)), (2, .int (0 : Int32)), (0, .ref a_ho), (1, .int x1)]) hx hb dX3_holding_3 rfl hl (by decide) rfl (fun ls hl => ?_)
  exact w_X3_holding_L4 X  _ _ _ hf _ _  hP hD hS _ (lv_sub hl [2, 3, 1, 0] rfl)
set_option maxHeartbeats 4000000 in
set_option maxRecDepth 100000 in
theorem c_X3_holding {l : Launch} {D : va_G} {cI cJ : ClassId} {g : pa_GT} {a_ho a_hn : Nat} {x1 : Int32} {v_ho_rows : Int32} {v_hn : Nat → Int32} {o : Int32} (hf : f_X3_holding x1 v_ho_rows v_hn = some o) : pa_Mi l yX3_holding wsX3_holding rm_X3_holding D cI cJ g [.ref a_ho, .int x1] (wo_X3_holding cI cJ a_ho a_hn v_ho_rows v_hn) (wo_X3_holding cI cJ a_ho a_hn v_ho_rows v_hn) o := by
  intro sz
  refine pa_met (cc := cX3_holding) (maxL := 4) (ret := (some .int)) (lv := [(0, .ref a_ho), (1, .int x1)]) (by decide) rfl (Nat.le_of_ble_eq_true rfl) rfl ?_
  intro p e s m below meth c X hsz hP hD ls hl
  subst hsz
  exact w_X3_holding_b0 X hf hP hD va_S.rf hl
abbrev wo_X3_needFor (cI cJ : ClassId) (a_ho a_hn : Nat) (v_ho_rows : Int32) (v_hn : Nat → Int32) : va_W := [(a_ho, .inr (3, [.ref a_hn, .int v_ho_rows])), (a_hn, .inl (cI, 24, .inl v_hn))]
abbrev rm_X3_needFor : Room := { frames := 0, cells := 0, slots := 0, locals := 0 }
theorem il_X3_needFor_X3 : ∀ w ∈ wsX30, w ∈ wsX3_needFor := by decide +kernel
theorem fk_X3_needFor_0 : Cond.fieldLink RX3 15 "PostedAsks$House" "rows" "I" ∈ wsX3_needFor := by decide +kernel
theorem fk_X3_needFor_1 : Cond.fieldLink RX3 9 "PostedAsks$House" "needs" "[I" ∈ wsX3_needFor := by decide +kernel
def f_X3_needFor (x1 : Int32) (v_ho_rows : Int32) (v_hn : Nat → Int32) : Option (Int32) :=
  if x1 ≤ v_ho_rows then
    if (1 : Int32) ≤ x1 then
      if pa_ib (x1 - (1 : Int32)) 24 = true then
        some ((v_hn (Int32.toNatClampNeg (x1 - (1 : Int32)))))
      else none
    else
      some ((0 : Int32))
  else
    some ((-9 : Int32))
set_option maxHeartbeats 4000000 in
set_option maxRecDepth 100000 in
theorem w_X3_needFor_b0 {l : Launch} {D : va_G} {cI cJ : ClassId} {g : pa_GT} {a_ho a_hn : Nat} {A : Nat → Prop} {p : Program} {e : Env} {s : State} {m : MethodId} {args : Array Value} {below : List Frame} {meth : Method} {c : Code} {x1 : Int32} {v_ho_rows : Int32} {v_hn : Nat → Int32}  {o : Int32} (X : pa_X cX3_needFor 2 (some .int) RX3 wsX3_needFor D cI cJ g A p s m args meth c)  (hf : f_X3_needFor x1 v_ho_rows v_hn = some o) {H : Heap} {locs : List Loc} (hP : va_P D vwCl (wo_X3_needFor cI cJ a_ho a_hn v_ho_rows v_hn) H) (hD : va_D A (wo_X3_needFor cI cJ a_ho a_hn v_ho_rows v_hn)) (hS : va_S A s.heap H locs) {ls : Array Slot} (hl : lv_has ls 2 [(0, .ref a_ho), (1, .int x1)]) : W p l e (headSpec wsX3_needFor rm_X3_needFor).room s m args below meth c H locs 0 0 (MQ below (va_Qi (fun r (_ : Unit) => r = o) (pa_QB D A (wo_X3_needFor cI cJ a_ho a_hn v_ho_rows v_hn)) A) args s 0 0 A) (F0 m 0 ls []) := by
  obtain ⟨hx, hb, hr, hml, hown, hts, hK, hA, hG, hlk⟩ := id X
  delta f_X3_needFor at hf
  refine lv_iload_n hx hb dX3_needFor_0 rfl (lv_at hl 1 rfl) ?_
  refine lv_aload_n hx hb dX3_needFor_1 rfl (lv_at hl 0 rfl) ?_
  refine va_get (D := D) (ci := 3) (v := .int v_ho_rows) (C := RX3) (T := TX3) (N := 2) hx hb hts il_X3_needFor_X3 hown hK hP 0 rfl rfl 1 (by decide) (hts _ fk_X3_needFor_0) (fun _ h9 => h9) rfl dX3_needFor_2 ?_
  refine lv_icmp_le (tgt := 11) hx hb dX3_needFor_5 (by decide) (fun c_1 => ?_) (fun c_1 => ?_)
  · have hf := (if_pos c_1).symm.trans hf
    refine lv_iload_n hx hb dX3_needFor_11 rfl (lv_at hl 1 rfl) ?_
    refine lv_iconst (v := (1 : Int32)) hx hb dX3_needFor_12 (by decide) ?_
    refine lv_icmp_ge (tgt := 20) hx hb dX3_needFor_13 (by decide) (fun c_2 => ?_) (fun c_2 => ?_)
    · have hf := (if_pos c_2).symm.trans hf
      refine lv_aload_n hx hb dX3_needFor_20 rfl (lv_at hl 0 rfl) ?_
      refine va_get (D := D) (ci := 3) (v := .ref a_hn) (C := RX3) (T := TX3) (N := 2) hx hb hts il_X3_needFor_X3 hown hK hP 0 rfl rfl 0 (by decide) (hts _ fk_X3_needFor_1) (fun _ h9 => h9) rfl dX3_needFor_21 ?_
      refine lv_iload_n hx hb dX3_needFor_24 rfl (lv_at hl 1 rfl) ?_
      refine lv_iconst (v := (1 : Int32)) hx hb dX3_needFor_25 (by decide) ?_
      refine lv_isub hx hb dX3_needFor_26 ?_
      obtain ⟨hi_3, hf⟩ := pa_gd hf
      refine va_iald hx hb hK hP 1 0 rfl rfl hi_3 dX3_needFor_27 ?_
      obtain rfl := Option.some.inj hf
      exact pa_ei X hP hD hS dX3_needFor_28
    · have hf := (if_neg c_2).symm.trans hf
      refine lv_iconst (v := (0 : Int32)) hx hb dX3_needFor_16 (by decide) ?_
      refine lv_goto (tgt := 28) hx hb dX3_needFor_17 (by decide) ?_
      obtain rfl := Option.some.inj hf
      exact pa_ei X hP hD hS dX3_needFor_28
  · have hf := (if_neg c_1).symm.trans hf
    refine lv_bipush (v := (-9 : Int32)) hx hb dX3_needFor_8 (by decide) ?_
    obtain rfl := Option.some.inj hf
    exact pa_ei X hP hD hS dX3_needFor_10
set_option maxHeartbeats 4000000 in
set_option maxRecDepth 100000 in
theorem c_X3_needFor {l : Launch} {D : va_G} {cI cJ : ClassId} {g : pa_GT} {a_ho a_hn : Nat} {x1 : Int32} {v_ho_rows : Int32} {v_hn : Nat → Int32} {o : Int32} (hf : f_X3_needFor x1 v_ho_rows v_hn = some o) : pa_Mi l yX3_needFor wsX3_needFor rm_X3_needFor D cI cJ g [.ref a_ho, .int x1] (wo_X3_needFor cI cJ a_ho a_hn v_ho_rows v_hn) (wo_X3_needFor cI cJ a_ho a_hn v_ho_rows v_hn) o := by
  intro sz
  refine pa_met (cc := cX3_needFor) (maxL := 2) (ret := (some .int)) (lv := [(0, .ref a_ho), (1, .int x1)]) (by decide) rfl (Nat.le_of_ble_eq_true rfl) rfl ?_
  intro p e s m below meth c X hsz hP hD ls hl
  subst hsz
  exact w_X3_needFor_b0 X hf hP hD va_S.rf hl
abbrev wo_X3_empty (cI cJ : ClassId) (a_ho a_hn : Nat) (v_ho_rows : Int32) : va_W := [(a_ho, .inr (3, [.ref a_hn, .int v_ho_rows]))]
abbrev rm_X3_empty : Room := { frames := 0, cells := 0, slots := 0, locals := 0 }
theorem il_X3_empty_X3 : ∀ w ∈ wsX30, w ∈ wsX3_empty := by decide +kernel
theorem fk_X3_empty_0 : Cond.fieldLink RX3 15 "PostedAsks$House" "rows" "I" ∈ wsX3_empty := by decide +kernel
def f_X3_empty  : Option (Int32) :=
  some ((0 : Int32))
set_option maxHeartbeats 4000000 in
set_option maxRecDepth 100000 in
theorem w_X3_empty_b0 {l : Launch} {D : va_G} {cI cJ : ClassId} {g : pa_GT} {a_ho a_hn : Nat} {A : Nat → Prop} {p : Program} {e : Env} {s : State} {m : MethodId} {args : Array Value} {below : List Frame} {meth : Method} {c : Code}  {v_ho_rows : Int32} {o : Int32} (X : pa_X cX3_empty 1 none RX3 wsX3_empty D cI cJ g A p s m args meth c)  (hf : f_X3_empty  = some o) {H : Heap} {locs : List Loc} (hP : va_P D vwCl (wo_X3_empty cI cJ a_ho a_hn v_ho_rows) H) (hD : va_D A (wo_X3_empty cI cJ a_ho a_hn v_ho_rows)) (hS : va_S A s.heap H locs) {ls : Array Slot} (hl : lv_has ls 1 [(0, .ref a_ho)]) : W p l e (headSpec wsX3_empty rm_X3_empty).room s m args below meth c H locs 0 0 (MQ below (va_Qv (fun (_ : Unit) => True) (pa_QB D A (wo_X3_empty cI cJ a_ho a_hn o)) A) args s 0 0 A) (F0 m 0 ls []) := by
  obtain ⟨hx, hb, hr, hml, hown, hts, hK, hA, hG, hlk⟩ := id X
  delta f_X3_empty at hf
  refine lv_aload_n hx hb dX3_empty_0 rfl (lv_at hl 0 rfl) ?_
  refine lv_iconst (v := (0 : Int32)) hx hb dX3_empty_1 (by decide) ?_
  refine va_put (D := D) (ci := 3) (v := .int (0 : Int32)) (ty := .int) (C := RX3) (T := TX3) (N := 2) hx hb hts il_X3_empty_X3 tyX3 tyX3_ok nmX3 hown hK hP hD hS 0 rfl rfl 1 (by decide) (hts _ fk_X3_empty_0) (fun _ h9 => h9) rfl (tyX3_ok 1 (by decide)) rfl rfl (Nat.le_of_ble_eq_true rfl) dX3_empty_2 (fun H locs hP hD hS => ?_)
  have hP : va_P D vwCl (wo_X3_empty cI cJ a_ho a_hn (0 : Int32)) H := hP
  have hD : va_D A (wo_X3_empty cI cJ a_ho a_hn (0 : Int32)) := hD
  obtain rfl := Option.some.inj hf
  exact pa_ev X hP hD hS dX3_empty_5
set_option maxHeartbeats 4000000 in
set_option maxRecDepth 100000 in
theorem c_X3_empty {l : Launch} {D : va_G} {cI cJ : ClassId} {g : pa_GT} {a_ho a_hn : Nat}  {v_ho_rows : Int32} {o : Int32} (hf : f_X3_empty  = some o) : pa_Mv l yX3_empty wsX3_empty rm_X3_empty D cI cJ g [.ref a_ho] (wo_X3_empty cI cJ a_ho a_hn v_ho_rows) (wo_X3_empty cI cJ a_ho a_hn o) := by
  intro sz
  refine pa_met (cc := cX3_empty) (maxL := 1) (ret := none) (lv := [(0, .ref a_ho)]) (by decide) rfl (Nat.le_of_ble_eq_true rfl) rfl ?_
  intro p e s m below meth c X hsz hP hD ls hl
  subst hsz
  exact w_X3_empty_b0 X hf hP hD va_S.rf hl
