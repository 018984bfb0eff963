abbrev wo_X0_meetGroup (cI cJ : ClassId) (a_as a_am : Nat) (v_as_wantedPoor : Int32) (v_as_wantedRich : Int32) (v_am : Nat → Int32) : va_W := [(a_as, .inr (0, [.ref a_am, .int v_as_wantedPoor, .int v_as_wantedRich])), (a_am, .inl (cI, 8, .inl v_am))]
abbrev rm_X0_meetGroup : Room := { frames := 1, cells := 0, slots := 0, locals := 13 }
theorem il_X0_meetGroup_X0 : ∀ w ∈ wsX00, w ∈ wsX0_meetGroup := by decide +kernel
theorem fk_X0_meetGroup_0 : Cond.methodLink RX0 49 Lib.Math.min.name ∈ wsX0_meetGroup := by decide +kernel
theorem fk_X0_meetGroup_1 : Cond.static Lib.Math.min.name ∈ wsX0_meetGroup := by decide +kernel
theorem fk_X0_meetGroup_2 : Cond.initialized "java/lang/Math" ∈ wsX0_meetGroup := by decide +kernel
theorem fk_X0_meetGroup_3 : Cond.code Lib.Math.min.name Lib.Math.min.code 2 (some .int) ∈ wsX0_meetGroup := by decide +kernel
theorem fk_X0_meetGroup_4 : Cond.fieldLink RX0 9 "PostedAsks$Asker" "met" "[I" ∈ wsX0_meetGroup := by decide +kernel
theorem fk_X0_meetGroup_5 : Cond.fieldLink RX0 15 "PostedAsks$Asker" "wantedPoor" "I" ∈ wsX0_meetGroup := by decide +kernel
theorem fk_X0_meetGroup_6 : Cond.fieldLink RX0 19 "PostedAsks$Asker" "wantedRich" "I" ∈ wsX0_meetGroup := by decide +kernel
def f_X0_meetGroup_b28 (x1 : Int32) (x3 : Int32) (s0 : Int32) (s1 : Int32) (v_as_wantedPoor : Int32) (v_as_wantedRich : Int32) (v_am : Nat → Int32) : Option (Int32 × Int32 × Int32 × (Nat → Int32)) :=
  if pa_ib x1 8 = true then
    if x3 = 0 then
      some ((if s1 < s0 then s1 else s0), (v_as_wantedPoor - (if s1 < s0 then s1 else s0)), v_as_wantedRich, (upd v_am (Int32.toNatClampNeg x1) ((v_am (Int32.toNatClampNeg x1)) + (if s1 < s0 then s1 else s0))))
    else
      some ((if s1 < s0 then s1 else s0), v_as_wantedPoor, (v_as_wantedRich - (if s1 < s0 then s1 else s0)), (upd v_am (Int32.toNatClampNeg x1) ((v_am (Int32.toNatClampNeg x1)) + (if s1 < s0 then s1 else s0))))
  else none
def f_X0_meetGroup_b11 (x1 : Int32) (x2 : Int32) (s0 : Int32) (v_as_wantedPoor : Int32) (v_as_wantedRich : Int32) (v_am : Nat → Int32) : Option (Int32 × Int32 × Int32 × (Nat → Int32)) :=
  if s0 = 0 then
    f_X0_meetGroup_b28 x1 s0 x2 v_as_wantedPoor v_as_wantedPoor v_as_wantedRich v_am
  else
    f_X0_meetGroup_b28 x1 s0 x2 v_as_wantedRich v_as_wantedPoor v_as_wantedRich v_am
def f_X0_meetGroup (x1 : Int32) (x2 : Int32) (v_as_wantedPoor : Int32) (v_as_wantedRich : Int32) (v_am : Nat → Int32) : Option (Int32 × Int32 × Int32 × (Nat → Int32)) :=
  if (x1 &&& (2 : Int32)) = 0 then
    f_X0_meetGroup_b11 x1 x2 (0 : Int32) v_as_wantedPoor v_as_wantedRich v_am
  else
    f_X0_meetGroup_b11 x1 x2 (1 : Int32) v_as_wantedPoor v_as_wantedRich v_am
set_option maxHeartbeats 4000000 in
set_option maxRecDepth 100000 in
theorem w_X0_meetGroup_b28 {l : Launch} {D : va_G} {cI cJ : ClassId} {g : pa_GT} {a_as a_am : Nat} {A : Nat → Prop} {p : Program} {e : Env} {s : State} {m : MethodId} {args : Array Value} {below : List Frame} {meth : Method} {c : Code} {x1 : Int32} {x3 : Int32} {s0 : Int32} {s1 : Int32} {v_as_wantedPoor : Int32} {v_as_wantedRich : Int32} {v_am : Nat → Int32}  {o : Int32 × Int32 × Int32 × (Nat → Int32)} (X : pa_X cX0_meetGroup 5 (some .int) RX0 wsX0_meetGroup D cI cJ g A p s m args meth c)  (hf : f_X0_meetGroup_b28 x1 x3 s0 s1 v_as_wantedPoor v_as_wantedRich v_am = some o) {H : Heap} {locs : List Loc} (hP : va_P D vwCl (wo_X0_meetGroup cI cJ a_as a_am v_as_wantedPoor v_as_wantedRich v_am) H) (hD : va_D A (wo_X0_meetGroup cI cJ a_as a_am v_as_wantedPoor v_as_wantedRich v_am)) (hS : va_S A s.heap H locs) {ls : Array Slot} (hl : lv_has ls 5 [(0, .ref a_as), (1, .int x1), (3, .int x3)]) : W p l e (headSpec wsX0_meetGroup rm_X0_meetGroup).room s m args below meth c H locs 0 0 (MQ below (va_Qi (fun r (_ : Unit) => r = o.1) (pa_QB D A (wo_X0_meetGroup cI cJ a_as a_am o.2.1 o.2.2.1 o.2.2.2)) A) args s 0 0 A) (F0 m 28 ls [.int s1, .int s0]) := by
  obtain ⟨hx, hb, hr, hml, hown, hts, hK, hA, hG, hlk⟩ := id X
  delta f_X0_meetGroup_b28 at hf
  refine va_mmin hx hb (hml.trans hl.1.symm) hown (hts _ fk_X0_meetGroup_0) (hts _ fk_X0_meetGroup_1) (hts _ fk_X0_meetGroup_2) (hts _ fk_X0_meetGroup_3) (Nat.le_of_ble_eq_true rfl) (Nat.le_of_ble_eq_true rfl) (Nat.zero_le _) (Nat.zero_le _) dX0_meetGroup_28 ?_
  refine lv_istore (lv' := [(4, .int (if s1 < s0 then s1 else s0)), (0, .ref a_as), (1, .int x1), (3, .int x3)]) hx hb dX0_meetGroup_31 hl (by decide) rfl (fun ls hl => ?_)
  refine lv_aload_n hx hb dX0_meetGroup_33 rfl (lv_at hl 1 rfl) ?_
  refine va_get (D := D) (ci := 0) (v := .ref a_am) (C := RX0) (T := TX0) (N := 3) hx hb hts il_X0_meetGroup_X0 hown hK hP 0 rfl rfl 0 (by decide) (hts _ fk_X0_meetGroup_4) (fun _ h9 => h9) rfl dX0_meetGroup_34 ?_
  refine lv_iload_n hx hb dX0_meetGroup_37 rfl (lv_at hl 2 rfl) ?_
  refine lv_dup2_11 hx hb dX0_meetGroup_38 rfl rfl ?_
  obtain ⟨hi_1, hf⟩ := pa_gd hf
  refine va_iald hx hb hK hP 1 0 rfl rfl hi_1 dX0_meetGroup_39 ?_
  refine lv_iload hx hb dX0_meetGroup_40 (lv_at hl 0 rfl) ?_
  refine lv_iadd hx hb dX0_meetGroup_42 ?_
  refine va_iast hx hb hK hP hD hS 1 0 rfl rfl hi_1 dX0_meetGroup_43 (fun H locs hP hD hS => ?_)
  have hP : va_P D vwCl (wo_X0_meetGroup cI cJ a_as a_am v_as_wantedPoor v_as_wantedRich (upd v_am (Int32.toNatClampNeg x1) ((v_am (Int32.toNatClampNeg x1)) + (if s1 < s0 then s1 else s0)))) H := hP
  have hD : va_D A (wo_X0_meetGroup cI cJ a_as a_am v_as_wantedPoor v_as_wantedRich (upd v_am (Int32.toNatClampNeg x1) ((v_am (Int32.toNatClampNeg x1)) + (if s1 < s0 then s1 else s0)))) := hD
  refine lv_iload_n hx hb dX0_meetGroup_44 rfl (lv_at hl 3 rfl) ?_
  refine lv_if_eq (tgt := 62) hx hb dX0_meetGroup_45 (by decide) (fun c_3 => ?_) (fun c_3 => ?_)
  · have hf := (if_pos c_3).symm.trans hf
    refine lv_aload_n hx hb dX0_meetGroup_62 rfl (lv_at hl 1 rfl) ?_
    refine lv_dup hx hb dX0_meetGroup_63 rfl ?_
    refine va_get (D := D) (ci := 0) (v := .int v_as_wantedPoor) (C := RX0) (T := TX0) (N := 3) hx hb hts il_X0_meetGroup_X0 hown hK hP 0 rfl rfl 1 (by decide) (hts _ fk_X0_meetGroup_5) (fun _ h9 => h9) rfl dX0_meetGroup_64 ?_
    refine lv_iload hx hb dX0_meetGroup_67 (lv_at hl 0 rfl) ?_
    refine lv_isub hx hb dX0_meetGroup_69 ?_
    refine va_put (D := D) (ci := 0) (v := .int (v_as_wantedPoor - (if s1 < s0 then s1 else s0))) (ty := .int) (C := RX0) (T := TX0) (N := 3) hx hb hts il_X0_meetGroup_X0 tyX0 tyX0_ok nmX0 hown hK hP hD hS 0 rfl rfl 1 (by decide) (hts _ fk_X0_meetGroup_5) (fun _ h9 => h9) rfl (tyX0_ok 1 (by decide)) rfl rfl (Nat.le_of_ble_eq_true rfl) dX0_meetGroup_70 (fun H locs hP hD hS => ?_)
    have hP : va_P D vwCl (wo_X0_meetGroup cI cJ a_as a_am (v_as_wantedPoor - (if s1 < s0 then s1 else s0)) v_as_wantedRich (upd v_am (Int32.toNatClampNeg x1) ((v_am (Int32.toNatClampNeg x1)) + (if s1 < s0 then s1 else s0)))) H := hP
    have hD : va_D A (wo_X0_meetGroup cI cJ a_as a_am (v_as_wantedPoor - (if s1 < s0 then s1 else s0)) v_as_wantedRich (upd v_am (Int32.toNatClampNeg x1) ((v_am (Int32.toNatClampNeg x1)) + (if s1 < s0 then s1 else s0)))) := hD
    refine lv_iload hx hb dX0_meetGroup_73 (lv_at hl 0 rfl) ?_
    obtain rfl := Option.some.inj hf
    exact pa_ei X hP hD hS dX0_meetGroup_75
  · have hf := (if_neg c_3).symm.trans hf
    refine lv_aload_n hx hb dX0_meetGroup_48 rfl (lv_at hl 1 rfl) ?_
    refine lv_dup hx hb dX0_meetGroup_49 rfl ?_
    refine va_get (D := D) (ci := 0) (v := .int v_as_wantedRich) (C := RX0) (T := TX0) (N := 3) hx hb hts il_X0_meetGroup_X0 hown hK hP 0 rfl rfl 2 (by decide) (hts _ fk_X0_meetGroup_6) (fun _ h9 => h9) rfl dX0_meetGroup_50 ?_
    refine lv_iload hx hb dX0_meetGroup_53 (lv_at hl 0 rfl) ?_
    refine lv_isub hx hb dX0_meetGroup_55 ?_
    refine va_put (D := D) (ci := 0) (v := .int (v_as_wantedRich - (if s1 < s0 then s1 else s0))) (ty := .int) (C := RX0) (T := TX0) (N := 3) hx hb hts il_X0_meetGroup_X0 tyX0 tyX0_ok nmX0 hown hK hP hD hS 0 rfl rfl 2 (by decide) (hts _ fk_X0_meetGroup_6) (fun _ h9 => h9) rfl (tyX0_ok 2 (by decide)) rfl rfl (Nat.le_of_ble_eq_true rfl) dX0_meetGroup_56 (fun H locs hP hD hS => ?_)
    have hP : va_P D vwCl (wo_X0_meetGroup cI cJ a_as a_am v_as_wantedPoor (v_as_wantedRich - (if s1 < s0 then s1 else s0)) (upd v_am (Int32.toNatClampNeg x1) ((v_am (Int32.toNatClampNeg x1)) + (if s1 < s0 then s1 else s0)))) H := hP
    have hD : va_D A (wo_X0_meetGroup cI cJ a_as a_am v_as_wantedPoor (v_as_wantedRich - (if s1 < s0 then s1 else s0)) (upd v_am (Int32.toNatClampNeg x1) ((v_am (Int32.toNatClampNeg x1)) + (if s1 < s0 then s1 else s0)))) := hD
    refine lv_goto (tgt := 73) hx hb dX0_meetGroup_59 (by decide) ?_
    refine lv_iload hx hb dX0_meetGroup_73 (lv_at hl 0 rfl) ?_
    obtain rfl := Option.some.inj hf
    exact pa_ei X hP hD hS dX0_meetGroup_75
set_option maxHeartbeats 4000000 in
set_option maxRecDepth 100000 in
theorem w_X0_meetGroup_b11 {l : Launch} {D : va_G} {cI cJ : ClassId} {g : pa_GT} {a_as a_am : Nat} {A : Nat → Prop} {p : Program} {e : Env} {s : State} {m : MethodId} {args : Array Value} {below : List Frame} {meth : Method} {c : Code} {x1 : Int32} {x2 : Int32} {s0 : Int32} {v_as_wantedPoor : Int32} {v_as_wantedRich : Int32} {v_am : Nat → Int32}  {o : Int32 × Int32 × Int32 × (Nat → Int32)} (X : pa_X cX0_meetGroup 5 (some .int) RX0 wsX0_meetGroup D cI cJ g A p s m args meth c)  (hf : f_X0_meetGroup_b11 x1 x2 s0 v_as_wantedPoor v_as_wantedRich v_am = some o) {H : Heap} {locs : List Loc} (hP : va_P D vwCl (wo_X0_meetGroup cI cJ a_as a_am v_as_wantedPoor v_as_wantedRich v_am) H) (hD : va_D A (wo_X0_meetGroup cI cJ a_as a_am v_as_wantedPoor v_as_wantedRich v_am)) (hS : va_S A s.heap H locs) {ls : Array Slot} (hl : lv_has ls 5 [(0, .ref a_as), (1, .int x1), (2, .int x2)]) : W p l e (headSpec wsX0_meetGroup rm_X0_meetGroup).room s m args below meth c H locs 0 0 (MQ below (va_Qi (fun r (_ : Unit) => r = o.1) (pa_QB D A (wo_X0_meetGroup cI cJ a_as a_am o.2.1 o.2.2.1 o.2.2.2)) A) args s 0 0 A) (F0 m 11 ls [.int s0]) := by
  obtain ⟨hx, hb, hr, hml, hown, hts, hK, hA, hG, hlk⟩ := id X
  delta f_X0_meetGroup_b11 at hf
  refine lv_istore_n (lv' := [(3, .int s0), (0, .ref a_as), (1, .int x1), (2, .int x2)]) hx hb dX0_meetGroup_11 rfl hl (by decide) rfl (fun ls hl => ?_)
  refine lv_iload_n hx hb dX0_meetGroup_12 rfl (lv_at hl 3 rfl) ?_
  refine lv_iload_n hx hb dX0_meetGroup_13 rfl (lv_at hl 0 rfl) ?_
  refine lv_if_eq (tgt := 24) hx hb dX0_meetGroup_14 (by decide) (fun c_4 => ?_) (fun c_4 => ?_)
  · have hf := (if_pos c_4).symm.trans hf
    refine lv_aload_n hx hb dX0_meetGroup_24 rfl (lv_at hl 1 rfl) ?_
    refine va_get (D := D) (ci := 0) (v := .int v_as_wantedPoor) (C := RX0) (T := TX0) (N := 3) hx hb hts il_X0_meetGroup_X0 hown hK hP 0 rfl rfl 1 (by decide) (hts _ fk_X0_meetGroup_5) (fun _ h9 => h9) rfl dX0_meetGroup_25 ?_
    exact w_X0_meetGroup_b28 X  hf hP hD hS (lv_sub hl [1, 2, 0] rfl)
  · have hf := (if_neg c_4).symm.trans hf
    refine lv_aload_n hx hb dX0_meetGroup_17 rfl (lv_at hl 1 rfl) ?_
    refine va_get (D := D) (ci := 0) (v := .int v_as_wantedRich) (C := RX0) (T := TX0) (N := 3) hx hb hts il_X0_meetGroup_X0 hown hK hP 0 rfl rfl 2 (by decide) (hts _ fk_X0_meetGroup_6) (fun _ h9 => h9) rfl dX0_meetGroup_18 ?_
    refine lv_goto (tgt := 28) hx hb dX0_meetGroup_21 (by decide) ?_
    exact w_X0_meetGroup_b28 X  hf hP hD hS (lv_sub hl [1, 2, 0] rfl)
set_option maxHeartbeats 4000000 in
set_option maxRecDepth 100000 in
theorem w_X0_meetGroup_b0 {l : Launch} {D : va_G} {cI cJ : ClassId} {g : pa_GT} {a_as a_am : Nat} {A : Nat → Prop} {p : Program} {e : Env} {s : State} {m : MethodId} {args : Array Value} {below : List Frame} {meth : Method} {c : Code} {x1 : Int32} {x2 : Int32} {v_as_wantedPoor : Int32} {v_as_wantedRich : Int32} {v_am : Nat → Int32}  {o : Int32 × Int32 × Int32 × (Nat → Int32)} (X : pa_X cX0_meetGroup 5 (some .int) RX0 wsX0_meetGroup D cI cJ g A p s m args meth c)  (hf : f_X0_meetGroup x1 x2 v_as_wantedPoor v_as_wantedRich v_am = some o) {H : Heap} {locs : List Loc} (hP : va_P D vwCl (wo_X0_meetGroup cI cJ a_as a_am v_as_wantedPoor v_as_wantedRich v_am) H) (hD : va_D A (wo_X0_meetGroup cI cJ a_as a_am v_as_wantedPoor v_as_wantedRich v_am)) (hS : va_S A s.heap H locs) {ls : Array Slot} (hl : lv_has ls 5 [(0, .ref a_as), (1, .int x1), (2, .int x2)]) : W p l e (headSpec wsX0_meetGroup rm_X0_meetGroup).room s m args below meth c H locs 0 0 (MQ below (va_Qi (fun r (_ : Unit) => r = o.1) (pa_QB D A (wo_X0_meetGroup cI cJ a_as a_am o.2.1 o.2.2.1 o.2.2.2)) A) args s 0 0 A) (F0 m 0 ls []) := by
  obtain ⟨hx, hb, hr, hml, hown, hts, hK, hA, hG, hlk⟩ := id X
  delta f_X0_meetGroup at hf
  refine lv_iload_n hx hb dX0_meetGroup_0 rfl (lv_at hl 1 rfl) ?_
  refine lv_iconst (v := (2 : Int32)) hx hb dX0_meetGroup_1 (by decide) ?_
  refine lv_iand hx hb dX0_meetGroup_2 ?_
  refine lv_if_eq (tgt := 10) hx hb dX0_meetGroup_3 (by decide) (fun c_5 => ?_) (fun c_5 => ?_)
  · have hf := (if_pos c_5).symm.trans hf
    refine lv_iconst (v := (0 : Int32)) hx hb dX0_meetGroup_10 (by decide) ?_
    exact w_X0_meetGroup_b11 X  hf hP hD hS (lv_sub hl [0, 1, 2] rfl)
  · have hf := (if_neg c_5).symm.trans hf
    refine lv_iconst (v := (1 : Int32)) hx hb dX0_meetGroup_6 (by decide) ?_
    refine lv_goto (tgt := 11) hx hb dX0_meetGroup_7 (by decide) ?_
    exact w_X0_meetGroup_b11 X  hf hP hD hS (lv_sub hl [0, 1, 2] rfl)
set_option maxHeartbeats 4000000 in
set_option maxRecDepth 100000 in
theorem c_X0_meetGroup {l : Launch} {D : va_G} {cI cJ : ClassId} {g : pa_GT} {a_as a_am : Nat} {x1 : Int32} {x2 : Int32} {v_as_wantedPoor : Int32} {v_as_wantedRich : Int32} {v_am : Nat → Int32} {o : Int32 × Int32 × Int32 × (Nat → Int32)} (hf : f_X0_meetGroup x1 x2 v_as_wantedPoor v_as_wantedRich v_am = some o) : pa_Mi l yX0_meetGroup wsX0_meetGroup rm_X0_meetGroup D cI cJ g [.ref a_as, .int x1, .int x2] (wo_X0_meetGroup cI cJ a_as a_am v_as_wantedPoor v_as_wantedRich v_am) (wo_X0_meetGroup cI cJ a_as a_am o.2.1 o.2.2.1 o.2.2.2) o.1 := by
  intro sz
  refine pa_met (cc := cX0_meetGroup) (maxL := 5) (ret := (some .int)) (lv := [(0, .ref a_as), (1, .int x1), (2, .int x2)]) (by decide) rfl (Nat.le_of_ble_eq_true rfl) rfl ?_
  intro p e s m below meth c X hsz hP hD ls hl
  subst hsz
  exact w_X0_meetGroup_b0 X hf hP hD va_S.rf hl
abbrev wo_X0_meet (cI cJ : ClassId) (a_la a_lc a_lr a_as a_am : Nat) (v_lc : Nat → Int32) (v_as_wantedPoor : Int32) (v_as_wantedRich : Int32) (v_am : Nat → Int32) : va_W := [(a_la, .inr (4, [.ref a_lc, .ref a_lr])), (a_lc, .inl (cI, 32, .inl v_lc)), (a_as, .inr (0, [.ref a_am, .int v_as_wantedPoor, .int v_as_wantedRich])), (a_am, .inl (cI, 8, .inl v_am))]
abbrev rm_X0_meet : Room := { frames := 2, cells := 0, slots := 0, locals := 37 }
theorem il_X0_meet_X0 : ∀ w ∈ wsX00, w ∈ wsX0_meet := by decide +kernel
theorem fk_X0_meet_0 : Cond.fieldLink RX0 9 "PostedAsks$Asker" "met" "[I" ∈ wsX0_meet := by decide +kernel
theorem fk_X0_meet_1 : Cond.methodLink RX0 49 Lib.Math.min.name ∈ wsX0_meet := by decide +kernel
theorem fk_X0_meet_2 : Cond.static Lib.Math.min.name ∈ wsX0_meet := by decide +kernel
theorem fk_X0_meet_3 : Cond.initialized "java/lang/Math" ∈ wsX0_meet := by decide +kernel
theorem fk_X0_meet_4 : Cond.code Lib.Math.min.name Lib.Math.min.code 2 (some .int) ∈ wsX0_meet := by decide +kernel
def f_X0_meet_L19_body (x2 : Int32) (x5 : Int32) (x6 : Int32) (v_lc : Nat → Int32) (rec19 : Int32 → Int32 → Int32 → Int32 → (Nat → Int32) → Option (Int32 × Int32 × (Nat → Int32))) (x7 : Int32) (x8 : Int32) (v_as_wantedPoor : Int32) (v_as_wantedRich : Int32) (v_am : Nat → Int32) : Option (Int32 × Int32 × (Nat → Int32)) :=
  if (8 : Int32) ≤ x8 then
    some (v_as_wantedPoor, v_as_wantedRich, v_am)
  else
    if (x8 &&& x5) = x6 then
      (f_X4_of x2 x8 v_lc).bind fun u_3 =>
      if pa_ib x8 8 = true then
        (f_X0_meetGroup x8 (if (u_3 - (v_am (Int32.toNatClampNeg x8))) < x7 then (u_3 - (v_am (Int32.toNatClampNeg x8))) else x7) v_as_wantedPoor v_as_wantedRich v_am).bind fun u_6 =>
        rec19 (x7 - u_6.1) (x8 + (1 : Int32)) u_6.2.1 u_6.2.2.1 u_6.2.2.2
      else none
    else
      rec19 x7 (x8 + (1 : Int32)) v_as_wantedPoor v_as_wantedRich v_am
def f_X0_meet_L19 (x2 : Int32) (x5 : Int32) (x6 : Int32) (v_lc : Nat → Int32) : Nat → Int32 → Int32 → Int32 → Int32 → (Nat → Int32) → Option (Int32 × Int32 × (Nat → Int32))
  | 0 => fun _ _ _ _ _ => none
  | n + 1 => f_X0_meet_L19_body x2 x5 x6 v_lc (f_X0_meet_L19 x2 x5 x6 v_lc n)
def f_X0_meet (x2 : Int32) (x3 : Int32) (x4 : Int32) (v_lc : Nat → Int32) (v_as_wantedPoor : Int32) (v_as_wantedRich : Int32) (v_am : Nat → Int32) : Option (Int32 × Int32 × (Nat → Int32)) :=
  f_X0_meet_L19 x2 (x3 / (8 : Int32)) (x3 - x3 / (8 : Int32) * (8 : Int32)) v_lc pa_fu x4 (0 : Int32) v_as_wantedPoor v_as_wantedRich v_am
set_option maxHeartbeats 4000000 in
set_option maxRecDepth 100000 in
theorem w_X0_meet_L19 {l : Launch} {D : va_G} {cI cJ : ClassId} {g : pa_GT} {a_la a_lc a_lr a_as a_am : Nat} {A : Nat → Prop} {p : Program} {e : Env} {s : State} {m : MethodId} {args : Array Value} {below : List Frame} {meth : Method} {c : Code} {x2 : Int32} {x5 : Int32} {x6 : Int32} {v_lc : Nat → Int32}  {o : Int32 × Int32 × (Nat → Int32)} (X : pa_X cX0_meet 9 none RX0 wsX0_meet D cI cJ g A p s m args meth c)  : ∀ (n : Nat) (x7 : Int32) (x8 : Int32) (v_as_wantedPoor : Int32) (v_as_wantedRich : Int32) (v_am : Nat → Int32), f_X0_meet_L19 x2 x5 x6 v_lc n x7 x8 v_as_wantedPoor v_as_wantedRich v_am = some o → ∀ (H : Heap) (locs : List Loc) , va_P D vwCl (wo_X0_meet cI cJ a_la a_lc a_lr a_as a_am v_lc v_as_wantedPoor v_as_wantedRich v_am) H → va_D A (wo_X0_meet cI cJ a_la a_lc a_lr a_as a_am v_lc v_as_wantedPoor v_as_wantedRich v_am) → va_S A s.heap H locs → ∀ (ls : Array Slot), lv_has ls 9 [(0, .ref a_as), (1, .ref a_la), (2, .int x2), (5, .int x5), (6, .int x6), (7, .int x7), (8, .int x8)] → W p l e (headSpec wsX0_meet rm_X0_meet).room s m args below meth c H locs 0 0 (MQ below (va_Qv (fun (_ : Unit) => True) (pa_QB D A (wo_X0_meet cI cJ a_la a_lc a_lr a_as a_am v_lc o.1 o.2.1 o.2.2)) A) args s 0 0 A) (F0 m 19 ls []) := by
  obtain ⟨hx, hb, hr, hml, hown, hts, hK, hA, hG, hlk⟩ := id X
  intro n
  induction n with
  | zero =>
    intro x7 x8 v_as_wantedPoor v_as_wantedRich v_am hf
    have hf : (none : Option (Int32 × Int32 × (Nat → Int32))) = some o := hf
    cases hf
  | succ n hrec19 =>
    intro x7 x8 v_as_wantedPoor v_as_wantedRich v_am hf H locs  hP hD hS ls hl
    have hf : f_X0_meet_L19_body x2 x5 x6 v_lc (f_X0_meet_L19 x2 x5 x6 v_lc n) x7 x8 v_as_wantedPoor v_as_wantedRich v_am = some o := hf
    delta f_X0_meet_L19_body at hf
    generalize hgr : f_X0_meet_L19 x2 x5 x6 v_lc n = rec19 at hf hrec19
    refine lv_iload hx hb dX0_meet_19 (lv_at hl 6 rfl) ?_
    refine lv_bipush (v := (8 : Int32)) hx hb dX0_meet_21 (by decide) ?_
    refine lv_icmp_ge (tgt := 73) hx hb dX0_meet_23 (by decide) (fun c_1 => ?_) (fun c_1 => ?_)
    · have hf := (if_pos c_1).symm.trans hf
      obtain rfl := Option.some.inj hf
      exact pa_ev X hP hD hS dX0_meet_73
    · have hf := (if_neg c_1).symm.trans hf
      refine lv_iload hx hb dX0_meet_26 (lv_at hl 6 rfl) ?_
      refine lv_iload hx hb dX0_meet_28 (lv_at hl 3 rfl) ?_
      refine lv_iand hx hb dX0_meet_30 ?_
      refine lv_iload hx hb dX0_meet_31 (lv_at hl 4 rfl) ?_
      refine lv_icmp_ne (tgt := 67) hx hb dX0_meet_33 (by decide) (fun c_2 => ?_) (fun c_2 => ?_)
      · have hf := (if_neg c_2).symm.trans hf
        refine lv_iinc (v := (x8 + (1 : Int32))) (lv' := [(8, .int (x8 + (1 : Int32))), (0, .ref a_as), (1, .ref a_la), (2, .int x2), (5, .int x5), (6, .int x6), (7, .int x7)]) hx hb dX0_meet_67 hl (k := 6) rfl rfl (by decide) rfl (fun ls hl => ?_)
        refine lv_goto (tgt := 19) hx hb dX0_meet_70 (by decide) ?_
        exact hrec19 _ _ _ _ _ hf _ _  hP hD hS _ (lv_sub hl [1, 2, 3, 4, 5, 6, 0] rfl)
      · have hf := (if_pos c_2).symm.trans hf
        refine lv_iload hx hb dX0_meet_36 (lv_at hl 5 rfl) ?_
        refine lv_aload_n hx hb dX0_meet_38 rfl (lv_at hl 0 rfl) ?_
        refine lv_iload hx hb dX0_meet_39 (lv_at hl 6 rfl) ?_
        refine lv_iload hx hb dX0_meet_41 (lv_at hl 5 rfl) ?_
        refine lv_aload_n hx hb dX0_meet_43 rfl (lv_at hl 1 rfl) ?_
        refine lv_iload_n hx hb dX0_meet_44 rfl (lv_at hl 2 rfl) ?_
        refine lv_iload hx hb dX0_meet_45 (lv_at hl 6 rfl) ?_
        obtain ⟨u_3, hg_4, hf⟩ := pa_bd hf
        refine pa_ki (wc := (wo_X4_of cI cJ a_la a_lc a_lr v_lc)) (wr := [(a_as, .inr (0, [.ref a_am, .int v_as_wantedPoor, .int v_as_wantedRich])), (a_am, .inl (cI, 8, .inl v_am))]) (w1 := (wo_X4_of cI cJ a_la a_lc a_lr v_lc)) (w2 := (wo_X0_meet cI cJ a_la a_lc a_lr a_as a_am v_lc v_as_wantedPoor v_as_wantedRich v_am)) X hP hD hS [0, 1] [2, 3] [2, 3, 0, 1] rfl (pa_rV (As := [.int x2, .int x8]) (rest := [.int x7, .int x8, .ref a_as, .int x7]) (T := TX4) X hP hD hS [0, 1] rfl rfl (c_X4_of hg_4 H.size) (cwV 2 hts gX0_meet_X4_of rfl rfl rfl (by decide +kernel) ⟨Nat.le_of_ble_eq_true rfl, Nat.le_of_ble_eq_true rfl⟩) (q0 := 0) rfl rfl rfl hl.1 rfl (Nat.le_of_ble_eq_true rfl) dX0_meet_47 ⟨Nat.zero_le _, Nat.zero_le _⟩) rfl rfl (by decide) rfl rfl (fun H locs hP hD hS => ?_)
        refine lv_aload_n hx hb dX0_meet_50 rfl (lv_at hl 0 rfl) ?_
        refine va_get (D := D) (ci := 0) (v := .ref a_am) (C := RX0) (T := TX0) (N := 3) hx hb hts il_X0_meet_X0 hown hK hP 2 rfl rfl 0 (by decide) (hts _ fk_X0_meet_0) (fun _ h9 => h9) rfl dX0_meet_51 ?_
        refine lv_iload hx hb dX0_meet_54 (lv_at hl 6 rfl) ?_
        obtain ⟨hi_5, hf⟩ := pa_gd hf
        refine va_iald hx hb hK hP 3 0 rfl rfl hi_5 dX0_meet_56 ?_
        refine lv_isub hx hb dX0_meet_57 ?_
        refine va_mmin hx hb (hml.trans hl.1.symm) hown (hts _ fk_X0_meet_1) (hts _ fk_X0_meet_2) (hts _ fk_X0_meet_3) (hts _ fk_X0_meet_4) (Nat.le_of_ble_eq_true rfl) (Nat.le_of_ble_eq_true rfl) (Nat.zero_le _) (Nat.zero_le _) dX0_meet_58 ?_
        obtain ⟨u_6, hg_7, hf⟩ := pa_bd hf
        refine pa_ki (wc := (wo_X0_meetGroup cI cJ a_as a_am v_as_wantedPoor v_as_wantedRich v_am)) (wr := [(a_la, .inr (4, [.ref a_lc, .ref a_lr])), (a_lc, .inl (cI, 32, .inl v_lc))]) (w1 := (wo_X0_meetGroup cI cJ a_as a_am u_6.2.1 u_6.2.2.1 u_6.2.2.2)) (w2 := (wo_X0_meet cI cJ a_la a_lc a_lr a_as a_am v_lc u_6.2.1 u_6.2.2.1 u_6.2.2.2)) X hP hD hS [2, 3] [0, 1] [0, 1, 2, 3] rfl (pa_rV (As := [.int x8, .int (if (u_3 - (v_am (Int32.toNatClampNeg x8))) < x7 then (u_3 - (v_am (Int32.toNatClampNeg x8))) else x7)]) (rest := [.int x7]) (T := TX0) X hP hD hS [2, 3] rfl rfl (c_X0_meetGroup hg_7 H.size) (cwV 2 hts gX0_meet_X0_meetGroup rfl rfl rfl (by decide +kernel) ⟨Nat.le_of_ble_eq_true rfl, Nat.le_of_ble_eq_true rfl⟩) (q0 := 2) rfl rfl rfl hl.1 rfl (Nat.le_of_ble_eq_true rfl) dX0_meet_61 ⟨Nat.zero_le _, Nat.zero_le _⟩) rfl rfl (by decide) rfl rfl (fun H locs hP hD hS => ?_)
        refine lv_isub hx hb dX0_meet_64 ?_
        refine lv_istore (lv' := [(7, .int (x7 - u_6.1)), (0, .ref a_as), (1, .ref a_la), (2, .int x2), (5, .int x5), (6, .int x6), (8, .int x8)]) hx hb dX0_meet_65 hl (by decide) rfl (fun ls hl => ?_)
        refine lv_iinc (v := (x8 + (1 : Int32))) (lv' := [(8, .int (x8 + (1 : Int32))), (7, .int (x7 - u_6.1)), (0, .ref a_as), (1, .ref a_la), (2, .int x2), (5, .int x5), (6, .int x6)]) hx hb dX0_meet_67 hl (k := 6) rfl rfl (by decide) rfl (fun ls hl => ?_)
        refine lv_goto (tgt := 19) hx hb dX0_meet_70 (by decide) ?_
        exact hrec19 _ _ _ _ _ hf _ _  hP hD hS _ (lv_sub hl [2, 3, 4, 5, 6, 1, 0] rfl)
set_option maxHeartbeats 4000000 in
set_option maxRecDepth 100000 in
theorem w_X0_meet_b0 {l : Launch} {D : va_G} {cI cJ : ClassId} {g : pa_GT} {a_la a_lc a_lr a_as a_am : Nat} {A : Nat → Prop} {p : Program} {e : Env} {s : State} {m : MethodId} {args : Array Value} {below : List Frame} {meth : Method} {c : Code} {x2 : Int32} {x3 : Int32} {x4 : Int32} {v_lc : Nat → Int32} {v_as_wantedPoor : Int32} {v_as_wantedRich : Int32} {v_am : Nat → Int32}  {o : Int32 × Int32 × (Nat → Int32)} (X : pa_X cX0_meet 9 none RX0 wsX0_meet D cI cJ g A p s m args meth c)  (hf : f_X0_meet x2 x3 x4 v_lc v_as_wantedPoor v_as_wantedRich v_am = some o) {H : Heap} {locs : List Loc} (hP : va_P D vwCl (wo_X0_meet cI cJ a_la a_lc a_lr a_as a_am v_lc v_as_wantedPoor v_as_wantedRich v_am) H) (hD : va_D A (wo_X0_meet cI cJ a_la a_lc a_lr a_as a_am v_lc v_as_wantedPoor v_as_wantedRich v_am)) (hS : va_S A s.heap H locs) {ls : Array Slot} (hl : lv_has ls 9 [(0, .ref a_as), (1, .ref a_la), (2, .int x2), (3, .int x3), (4, .int x4)]) : W p l e (headSpec wsX0_meet rm_X0_meet).room s m args below meth c H locs 0 0 (MQ below (va_Qv (fun (_ : Unit) => True) (pa_QB D A (wo_X0_meet cI cJ a_la a_lc a_lr a_as a_am v_lc o.1 o.2.1 o.2.2)) A) args s 0 0 A) (F0 m 0 ls []) := by
  obtain ⟨hx, hb, hr, hml, hown, hts, hK, hA, hG, hlk⟩ := id X
  delta f_X0_meet at hf
  refine lv_iload_n hx hb dX0_meet_0 rfl (lv_at hl 3 rfl) ?_
  refine lv_bipush (v := (8 : Int32)) hx hb dX0_meet_1 (by decide) ?_
  refine lv_idiv hx hb dX0_meet_3 (by decide) ?_
  refine lv_istore (lv' := [(5, .int (x3 / (8 : Int32))), (0, .ref a_as), (1, .ref a_la), (2, .int x2), (3, .int x3), (4, .int x4)]) hx hb dX0_meet_4 hl (by decide) rfl (fun ls hl => ?_)
  refine lv_iload_n hx hb dX0_meet_6 rfl (lv_at hl 4 rfl) ?_
  refine lv_bipush (v := (8 : Int32)) hx hb dX0_meet_7 (by decide) ?_
  refine lv_irem hx hb dX0_meet_9 (by decide) ?_
  refine lv_istore (lv' := [(6, .int (x3 - x3 / (8 : Int32) * (8 : Int32))), (5, .int (x3 / (8 : Int32))), (0, .ref a_as), (1, .ref a_la), (2, .int x2), (3, .int x3), (4, .int x4)]) hx hb dX0_meet_10 hl (by decide) rfl (fun ls hl => ?_)
  refine lv_iload hx hb dX0_meet_12 (lv_at hl 6 rfl) ?_
  refine lv_istore (lv' := [(7, .int x4), (6, .int (x3 - x3 / (8 : Int32) * (8 : Int32))), (5, .int (x3 / (8 : Int32))), (0, .ref a_as), (1, .ref a_la), (2, .int x2), (3, .int x3), (4, .int x4)]) hx hb dX0_meet_14 hl (by decide) rfl (fun ls hl => ?_)
  refine lv_iconst (v := (0 : Int32)) hx hb dX0_meet_16 (by decide) ?_
  refine lv_istore (lv' := [(8, .int (0 : Int32)), (7, .int x4), (6, .int (x3 - x3 / (8 : Int32) * (8 : Int32))), (5, .int (x3 / (8 : Int32))), (0, .ref a_as), (1, .ref a_la), (2, .int x2), (3, .int x3), (4, .int x4)]) hx hb dX0_meet_17 hl (by decide) rfl (fun ls hl => ?_)
  exact w_X0_meet_L19 X  _ _ _ _ _ _ hf _ _  hP hD hS _ (lv_sub hl [4, 5, 6, 3, 2, 1, 0] rfl)
set_option maxHeartbeats 4000000 in
set_option maxRecDepth 100000 in
theorem c_X0_meet {l : Launch} {D : va_G} {cI cJ : ClassId} {g : pa_GT} {a_la a_lc a_lr a_as a_am : Nat} {x2 : Int32} {x3 : Int32} {x4 : Int32} {v_lc : Nat → Int32} {v_as_wantedPoor : Int32} {v_as_wantedRich : Int32} {v_am : Nat → Int32} {o : Int32 × Int32 × (Nat → Int32)} (hf : f_X0_meet x2 x3 x4 v_lc v_as_wantedPoor v_as_wantedRich v_am = some o) : pa_Mv l yX0_meet wsX0_meet rm_X0_meet D cI cJ g [.ref a_as, .ref a_la, .int x2, .int x3, .int x4] (wo_X0_meet cI cJ a_la a_lc a_lr a_as a_am v_lc v_as_wantedPoor v_as_wantedRich v_am) (wo_X0_meet cI cJ a_la a_lc a_lr a_as a_am v_lc o.1 o.2.1 o.2.2) := by
  intro sz
  refine pa_met (cc := cX0_meet) (maxL := 9) (ret := none) (lv := [(0, .ref a_as), (1, .ref a_la), (2, .int x2), (3, .int x3), (4, .int x4)]) (by decide) rfl (Nat.le_of_ble_eq_true rfl) rfl ?_
  intro p e s m below meth c X hsz hP hD ls hl
  subst hsz
  exact w_X0_meet_b0 X hf hP hD va_S.rf hl
abbrev wo_X0_ask (cI cJ : ClassId) (a_la a_lc a_lr a_ha a_hp a_hl a_hq a_hm a_as a_am : Nat) (v_lc : Nat → Int32) (v_ha_finds : Int32) (v_hp : Nat → Int32) (v_hl : Nat → Int32) (v_as_wantedPoor : Int32) (v_as_wantedRich : Int32) (v_am : Nat → Int32) : va_W := [(a_la, .inr (4, [.ref a_lc, .ref a_lr])), (a_lc, .inl (cI, 32, .inl v_lc)), (a_ha, .inr (2, [.ref a_hp, .ref a_hl, .ref a_hq, .ref a_hm, .int v_ha_finds])), (a_hp, .inl (cI, 12, .inl v_hp)), (a_hl, .inl (cI, 12, .inl v_hl)), (a_as, .inr (0, [.ref a_am, .int v_as_wantedPoor, .int v_as_wantedRich])), (a_am, .inl (cI, 8, .inl v_am))]
abbrev rm_X0_ask : Room := { frames := 3, cells := 0, slots := 0, locals := 65 }
theorem il_X0_ask_X2 : ∀ w ∈ wsX20, w ∈ wsX0_ask := by decide +kernel
theorem il_X0_ask_X0 : ∀ w ∈ wsX00, w ∈ wsX0_ask := by decide +kernel
theorem fk_X0_ask_0 : Cond.fieldLink RX0 9 "PostedAsks$Asker" "met" "[I" ∈ wsX0_ask := by decide +kernel
theorem fk_X0_ask_1 : Cond.fieldLink RX0 15 "PostedAsks$Asker" "wantedPoor" "I" ∈ wsX0_ask := by decide +kernel
theorem fk_X0_ask_2 : Cond.fieldLink RX0 19 "PostedAsks$Asker" "wantedRich" "I" ∈ wsX0_ask := by decide +kernel
def f_X0_ask_b65 (x2 : Int32) (v_lc : Nat → Int32) (v_as_wantedPoor : Int32) (v_as_wantedRich : Int32) (v_am : Nat → Int32) : Option (Int32 × Int32 × (Nat → Int32)) :=
  (f_X0_meet x2 (0 : Int32) (50 : Int32) v_lc v_as_wantedPoor v_as_wantedRich v_am).bind fun u_1 =>
  some (u_1.1, u_1.2.1, u_1.2.2)
def f_X0_ask_L23_body (x2 : Int32) (v_lc : Nat → Int32) (v_ha_finds : Int32) (v_hp : Nat → Int32) (v_hl : Nat → Int32) (rec23 : Int32 → Int32 → Int32 → (Nat → Int32) → Option (Int32 × Int32 × (Nat → Int32))) (x6 : Int32) (v_as_wantedPoor : Int32) (v_as_wantedRich : Int32) (v_am : Nat → Int32) : Option (Int32 × Int32 × (Nat → Int32)) :=
  if v_ha_finds ≤ x6 then
    f_X0_ask_b65 x2 v_lc v_as_wantedPoor v_as_wantedRich v_am
  else
    if (12 : Int32) ≤ x6 then
      f_X0_ask_b65 x2 v_lc v_as_wantedPoor v_as_wantedRich v_am
    else
      if pa_ib x6 12 = true then
        (f_X0_meet x2 (v_hp (Int32.toNatClampNeg x6)) (v_hl (Int32.toNatClampNeg x6)) v_lc v_as_wantedPoor v_as_wantedRich v_am).bind fun u_7 =>
        rec23 (x6 + (1 : Int32)) u_7.1 u_7.2.1 u_7.2.2
      else none
def f_X0_ask_L23 (x2 : Int32) (v_lc : Nat → Int32) (v_ha_finds : Int32) (v_hp : Nat → Int32) (v_hl : Nat → Int32) : Nat → Int32 → Int32 → Int32 → (Nat → Int32) → Option (Int32 × Int32 × (Nat → Int32))
  | 0 => fun _ _ _ _ => none
  | n + 1 => f_X0_ask_L23_body x2 v_lc v_ha_finds v_hp v_hl (f_X0_ask_L23 x2 v_lc v_ha_finds v_hp v_hl n)
def f_X0_ask (x2 : Int32) (x4 : Int32) (x5 : Int32) (v_lc : Nat → Int32) (v_ha_finds : Int32) (v_hp : Nat → Int32) (v_hl : Nat → Int32) (v_am : Nat → Int32) : Option (Int32 × Int32 × (Nat → Int32)) :=
  f_X0_ask_L23 x2 v_lc v_ha_finds v_hp v_hl pa_fu (0 : Int32) x4 x5 (pa_fillI v_am 8 (0 : Int32))
set_option maxHeartbeats 4000000 in
set_option maxRecDepth 100000 in
theorem w_X0_ask_b65 {l : Launch} {D : va_G} {cI cJ : ClassId} {g : pa_GT} {a_la a_lc a_lr a_ha a_hp a_hl a_hq a_hm a_as a_am : Nat} {A : Nat → Prop} {p : Program} {e : Env} {s : State} {m : MethodId} {args : Array Value} {below : List Frame} {meth : Method} {c : Code} {x2 : Int32} {v_lc : Nat → Int32} {v_as_wantedPoor : Int32} {v_as_wantedRich : Int32} {v_am : Nat → Int32} {v_ha_finds : Int32} {v_hp : Nat → Int32} {v_hl : Nat → Int32} {o : Int32 × Int32 × (Nat → Int32)} (X : pa_X cX0_ask 7 none RX0 wsX0_ask D cI cJ g A p s m args meth c)  (hf : f_X0_ask_b65 x2 v_lc v_as_wantedPoor v_as_wantedRich v_am = some o) {H : Heap} {locs : List Loc} (hP : va_P D vwCl (wo_X0_ask cI cJ a_la a_lc a_lr a_ha a_hp a_hl a_hq a_hm a_as a_am v_lc v_ha_finds v_hp v_hl v_as_wantedPoor v_as_wantedRich v_am) H) (hD : va_D A (wo_X0_ask cI cJ a_la a_lc a_lr a_ha a_hp a_hl a_hq a_hm a_as a_am v_lc v_ha_finds v_hp v_hl v_as_wantedPoor v_as_wantedRich v_am)) (hS : va_S A s.heap H locs) {ls : Array Slot} (hl : lv_has ls 7 [(0, .ref a_as), (1, .ref a_la), (2, .int x2)]) : W p l e (headSpec wsX0_ask rm_X0_ask).room s m args below meth c H locs 0 0 (MQ below (va_Qv (fun (_ : Unit) => True) (pa_QB D A (wo_X0_ask cI cJ a_la a_lc a_lr a_ha a_hp a_hl a_hq a_hm a_as a_am v_lc v_ha_finds v_hp v_hl o.1 o.2.1 o.2.2)) A) args s 0 0 A) (F0 m 65 ls []) := by
  obtain ⟨hx, hb, hr, hml, hown, hts, hK, hA, hG, hlk⟩ := id X
  delta f_X0_ask_b65 at hf
  refine lv_aload_n hx hb dX0_ask_65 rfl (lv_at hl 0 rfl) ?_
  refine lv_aload_n hx hb dX0_ask_66 rfl (lv_at hl 1 rfl) ?_
  refine lv_iload_n hx hb dX0_ask_67 rfl (lv_at hl 2 rfl) ?_
  refine lv_iconst (v := (0 : Int32)) hx hb dX0_ask_68 (by decide) ?_
  refine lv_bipush (v := (50 : Int32)) hx hb dX0_ask_69 (by decide) ?_
  obtain ⟨u_1, hg_2, hf⟩ := pa_bd hf
  refine pa_kv (wc := (wo_X0_meet cI cJ a_la a_lc a_lr a_as a_am v_lc v_as_wantedPoor v_as_wantedRich v_am)) (wr := [(a_ha, .inr (2, [.ref a_hp, .ref a_hl, .ref a_hq, .ref a_hm, .int v_ha_finds])), (a_hp, .inl (cI, 12, .inl v_hp)), (a_hl, .inl (cI, 12, .inl v_hl))]) (w1 := (wo_X0_meet cI cJ a_la a_lc a_lr a_as a_am v_lc u_1.1 u_1.2.1 u_1.2.2)) (w2 := (wo_X0_ask cI cJ a_la a_lc a_lr a_ha a_hp a_hl a_hq a_hm a_as a_am v_lc v_ha_finds v_hp v_hl u_1.1 u_1.2.1 u_1.2.2)) X hP hD hS [0, 1, 5, 6] [2, 3, 4] [3, 4, 0, 1, 2, 5, 6] rfl (pa_rV (As := [.ref a_la, .int x2, .int (0 : Int32), .int (50 : Int32)]) (rest := []) (T := TX0) X hP hD hS [0, 1, 5, 6] rfl rfl (c_X0_meet hg_2 H.size) (cwV 4 hts gX0_ask_X0_meet rfl rfl rfl (by decide +kernel) ⟨Nat.le_of_ble_eq_true rfl, Nat.le_of_ble_eq_true rfl⟩) (q0 := 5) rfl rfl rfl hl.1 rfl (Nat.le_of_ble_eq_true rfl) dX0_ask_71 ⟨Nat.zero_le _, Nat.zero_le _⟩) rfl rfl (by decide) rfl rfl (fun H locs hP hD hS => ?_)
  obtain rfl := Option.some.inj hf
  exact pa_ev X hP hD hS dX0_ask_74
set_option maxHeartbeats 4000000 in
set_option maxRecDepth 100000 in
theorem w_X0_ask_L23 {l : Launch} {D : va_G} {cI cJ : ClassId} {g : pa_GT} {a_la a_lc a_lr a_ha a_hp a_hl a_hq a_hm a_as a_am : Nat} {A : Nat → Prop} {p : Program} {e : Env} {s : State} {m : MethodId} {args : Array Value} {below : List Frame} {meth : Method} {c : Code} {x2 : Int32} {v_lc : Nat → Int32} {v_ha_finds : Int32} {v_hp : Nat → Int32} {v_hl : Nat → Int32}  {o : Int32 × Int32 × (Nat → Int32)} (X : pa_X cX0_ask 7 none RX0 wsX0_ask D cI cJ g A p s m args meth c)  : ∀ (n : Nat) (x6 : Int32) (v_as_wantedPoor : Int32) (v_as_wantedRich : Int32) (v_am : Nat → Int32), f_X0_ask_L23 x2 v_lc v_ha_finds v_hp v_hl n x6 v_as_wantedPoor v_as_wantedRich v_am = some o → ∀ (H : Heap) (locs : List Loc) , va_P D vwCl (wo_X0_ask cI cJ a_la a_lc a_lr a_ha a_hp a_hl a_hq a_hm a_as a_am v_lc v_ha_finds v_hp v_hl v_as_wantedPoor v_as_wantedRich v_am) H → va_D A (wo_X0_ask cI cJ a_la a_lc a_lr a_ha a_hp a_hl a_hq a_hm a_as a_am v_lc v_ha_finds v_hp v_hl v_as_wantedPoor v_as_wantedRich v_am) → va_S A s.heap H locs → ∀ (ls : Array Slot), lv_has ls 7 [(0, .ref a_as), (1, .ref a_la), (2, .int x2), (3, .ref a_ha), (6, .int x6)] → W p l e (headSpec wsX0_ask rm_X0_ask).room s m args below meth c H locs 0 0 (MQ below (va_Qv (fun (_ : Unit) => True) (pa_QB D A (wo_X0_ask cI cJ a_la a_lc a_lr a_ha a_hp a_hl a_hq a_hm a_as a_am v_lc v_ha_finds v_hp v_hl o.1 o.2.1 o.2.2)) A) args s 0 0 A) (F0 m 23 ls []) := by
  obtain ⟨hx, hb, hr, hml, hown, hts, hK, hA, hG, hlk⟩ := id X
  intro n
  induction n with
  | zero =>
    intro x6 v_as_wantedPoor v_as_wantedRich v_am hf
    have hf : (none : Option (Int32 × Int32 × (Nat → Int32))) = some o := hf
    cases hf
  | succ n hrec23 =>
    intro x6 v_as_wantedPoor v_as_wantedRich v_am hf H locs  hP hD hS ls hl
    have hf : f_X0_ask_L23_body x2 v_lc v_ha_finds v_hp v_hl (f_X0_ask_L23 x2 v_lc v_ha_finds v_hp v_hl n) x6 v_as_wantedPoor v_as_wantedRich v_am = some o := hf
    delta f_X0_ask_L23_body at hf
    generalize hgr : f_X0_ask_L23 x2 v_lc v_ha_finds v_hp v_hl n = rec23 at hf hrec23
    refine lv_iload hx hb dX0_ask_23 (lv_at hl 4 rfl) ?_
    refine lv_aload_n hx hb dX0_ask_25 rfl (lv_at hl 3 rfl) ?_
    refine va_getN (D := D) (ci := 2) (v := .int v_ha_finds) (C := RX2) (T := TX2) (N := 5) hx hb hts il_X0_ask_X2 hown hK hP 2 rfl rfl 4 (by decide) (va_Nw.use rfl (hG.1 _ (List.mem_of_getElem? (i := 8) rfl))) (fun _ h9 => h9) rfl dX0_ask_26 ?_
    refine lv_icmp_ge (tgt := 65) hx hb dX0_ask_29 (by decide) (fun c_3 => ?_) (fun c_3 => ?_)
    · have hf := (if_pos c_3).symm.trans hf
      exact w_X0_ask_b65 X  hf hP hD hS (lv_sub hl [0, 1, 2] rfl)
    · have hf := (if_neg c_3).symm.trans hf
      refine lv_iload hx hb dX0_ask_32 (lv_at hl 4 rfl) ?_
      refine lv_bipush (v := (12 : Int32)) hx hb dX0_ask_34 (by decide) ?_
      refine lv_icmp_ge (tgt := 65) hx hb dX0_ask_36 (by decide) (fun c_4 => ?_) (fun c_4 => ?_)
      · have hf := (if_pos c_4).symm.trans hf
        exact w_X0_ask_b65 X  hf hP hD hS (lv_sub hl [0, 1, 2] rfl)
      · have hf := (if_neg c_4).symm.trans hf
        refine lv_aload_n hx hb dX0_ask_39 rfl (lv_at hl 0 rfl) ?_
        refine lv_aload_n hx hb dX0_ask_40 rfl (lv_at hl 1 rfl) ?_
        refine lv_iload_n hx hb dX0_ask_41 rfl (lv_at hl 2 rfl) ?_
        refine lv_aload_n hx hb dX0_ask_42 rfl (lv_at hl 3 rfl) ?_
        refine va_getN (D := D) (ci := 2) (v := .ref a_hp) (C := RX2) (T := TX2) (N := 5) hx hb hts il_X0_ask_X2 hown hK hP 2 rfl rfl 0 (by decide) (va_Nw.use rfl (hG.1 _ (List.mem_of_getElem? (i := 6) rfl))) (fun _ h9 => h9) rfl dX0_ask_43 ?_
        refine lv_iload hx hb dX0_ask_46 (lv_at hl 4 rfl) ?_
        obtain ⟨hi_5, hf⟩ := pa_gd hf
        refine va_iald hx hb hK hP 3 0 rfl rfl hi_5 dX0_ask_48 ?_
        refine lv_aload_n hx hb dX0_ask_49 rfl (lv_at hl 3 rfl) ?_
        refine va_getN (D := D) (ci := 2) (v := .ref a_hl) (C := RX2) (T := TX2) (N := 5) hx hb hts il_X0_ask_X2 hown hK hP 2 rfl rfl 1 (by decide) (va_Nw.use rfl (hG.1 _ (List.mem_of_getElem? (i := 7) rfl))) (fun _ h9 => h9) rfl dX0_ask_50 ?_
        refine lv_iload hx hb dX0_ask_53 (lv_at hl 4 rfl) ?_
        refine va_iald hx hb hK hP 4 0 rfl rfl hi_5 dX0_ask_55 ?_
        obtain ⟨u_7, hg_8, hf⟩ := pa_bd hf
        refine pa_kv (wc := (wo_X0_meet cI cJ a_la a_lc a_lr a_as a_am v_lc v_as_wantedPoor v_as_wantedRich v_am)) (wr := [(a_ha, .inr (2, [.ref a_hp, .ref a_hl, .ref a_hq, .ref a_hm, .int v_ha_finds])), (a_hp, .inl (cI, 12, .inl v_hp)), (a_hl, .inl (cI, 12, .inl v_hl))]) (w1 := (wo_X0_meet cI cJ a_la a_lc a_lr a_as a_am v_lc u_7.1 u_7.2.1 u_7.2.2)) (w2 := (wo_X0_ask cI cJ a_la a_lc a_lr a_ha a_hp a_hl a_hq a_hm a_as a_am v_lc v_ha_finds v_hp v_hl u_7.1 u_7.2.1 u_7.2.2)) X hP hD hS [0, 1, 5, 6] [2, 3, 4] [3, 4, 0, 1, 2, 5, 6] rfl (pa_rV (As := [.ref a_la, .int x2, .int (v_hp (Int32.toNatClampNeg x6)), .int (v_hl (Int32.toNatClampNeg x6))]) (rest := []) (T := TX0) X hP hD hS [0, 1, 5, 6] rfl rfl (c_X0_meet hg_8 H.size) (cwV 4 hts gX0_ask_X0_meet rfl rfl rfl (by decide +kernel) ⟨Nat.le_of_ble_eq_true rfl, Nat.le_of_ble_eq_true rfl⟩) (q0 := 5) rfl rfl rfl hl.1 rfl (Nat.le_of_ble_eq_true rfl) dX0_ask_56 ⟨Nat.zero_le _, Nat.zero_le _⟩) rfl rfl (by decide) rfl rfl (fun H locs hP hD hS => ?_)
        refine lv_iinc (v := (x6 + (1 : Int32))) (lv' := [(6, .int (x6 + (1 : Int32))), (0, .ref a_as), (1, .ref a_la), (2, .int x2), (3, .ref a_ha)]) hx hb dX0_ask_59 hl (k := 4) rfl rfl (by decide) rfl (fun ls hl => ?_)
        refine lv_goto (tgt := 23) hx hb dX0_ask_62 (by decide) ?_
        exact hrec23 _ _ _ _ hf _ _  hP hD hS _ (lv_sub hl [1, 2, 3, 4, 0] rfl)
set_option maxHeartbeats 4000000 in
set_option maxRecDepth 100000 in
theorem w_X0_ask_b0 {l : Launch} {D : va_G} {cI cJ : ClassId} {g : pa_GT} {a_la a_lc a_lr a_ha a_hp a_hl a_hq a_hm a_as a_am : Nat} {A : Nat → Prop} {p : Program} {e : Env} {s : State} {m : MethodId} {args : Array Value} {below : List Frame} {meth : Method} {c : Code} {x2 : Int32} {x4 : Int32} {x5 : Int32} {v_lc : Nat → Int32} {v_ha_finds : Int32} {v_hp : Nat → Int32} {v_hl : Nat → Int32} {v_am : Nat → Int32} {v_as_wantedPoor : Int32} {v_as_wantedRich : Int32} {o : Int32 × Int32 × (Nat → Int32)} (X : pa_X cX0_ask 7 none RX0 wsX0_ask D cI cJ g A p s m args meth c)  (hf : f_X0_ask x2 x4 x5 v_lc v_ha_finds v_hp v_hl v_am = some o) {H : Heap} {locs : List Loc} (hP : va_P D vwCl (wo_X0_ask cI cJ a_la a_lc a_lr a_ha a_hp a_hl a_hq a_hm a_as a_am v_lc v_ha_finds v_hp v_hl v_as_wantedPoor v_as_wantedRich v_am) H) (hD : va_D A (wo_X0_ask cI cJ a_la a_lc a_lr a_ha a_hp a_hl a_hq a_hm a_as a_am v_lc v_ha_finds v_hp v_hl v_as_wantedPoor v_as_wantedRich v_am)) (hS : va_S A s.heap H locs) {ls : Array Slot} (hl : lv_has ls 7 [(0, .ref a_as), (1, .ref a_la), (2, .int x2), (3, .ref a_ha), (4, .int x4), (5, .int x5)]) : W p l e (headSpec wsX0_ask rm_X0_ask).room s m args below meth c H locs 0 0 (MQ below (va_Qv (fun (_ : Unit) => True) (pa_QB D A (wo_X0_ask cI cJ a_la a_lc a_lr a_ha a_hp a_hl a_hq a_hm a_as a_am v_lc v_ha_finds v_hp v_hl o.1 o.2.1 o.2.2)) A) args s 0 0 A) (F0 m 0 ls []) := by
  obtain ⟨hx, hb, hr, hml, hown, hts, hK, hA, hG, hlk⟩ := id X
  delta f_X0_ask at hf
  refine lv_aload_n hx hb dX0_ask_0 rfl (lv_at hl 0 rfl) ?_
  refine va_get (D := D) (ci := 0) (v := .ref a_am) (C := RX0) (T := TX0) (N := 3) hx hb hts il_X0_ask_X0 hown hK hP 5 rfl rfl 0 (by decide) (hts _ fk_X0_ask_0) (fun _ h9 => h9) rfl dX0_ask_1 ?_
  refine lv_iconst (v := (0 : Int32)) hx hb dX0_ask_4 (by decide) ?_
  refine pa_kv (wc := [(a_am, .inl (cI, 8, .inl v_am))]) (wr := [(a_la, .inr (4, [.ref a_lc, .ref a_lr])), (a_lc, .inl (cI, 32, .inl v_lc)), (a_ha, .inr (2, [.ref a_hp, .ref a_hl, .ref a_hq, .ref a_hm, .int v_ha_finds])), (a_hp, .inl (cI, 12, .inl v_hp)), (a_hl, .inl (cI, 12, .inl v_hl)), (a_as, .inr (0, [.ref a_am, .int v_as_wantedPoor, .int v_as_wantedRich]))]) (w1 := [(a_am, .inl (cI, 8, .inl (pa_fillI v_am 8 (0 : Int32))))]) (w2 := (wo_X0_ask cI cJ a_la a_lc a_lr a_ha a_hp a_hl a_hq a_hm a_as a_am v_lc v_ha_finds v_hp v_hl v_as_wantedPoor v_as_wantedRich (pa_fillI v_am 8 (0 : Int32)))) X hP hD hS [6] [0, 1, 2, 3, 4, 5] [0, 1, 2, 3, 4, 5, 6] rfl (pa_rS (As := [.ref a_am, .int (0 : Int32)]) (rest := []) X hP hD hS [6] rfl rfl (c_fillI (by decide) H.size) (va_cwS 2 hts gX0_ask_J7_fill_53178 rfl rfl rfl (by decide +kernel) ⟨Nat.le_of_ble_eq_true rfl, Nat.le_of_ble_eq_true rfl⟩) rfl hl.1 rfl (Nat.le_of_ble_eq_true rfl) dX0_ask_5 ⟨Nat.zero_le _, Nat.zero_le _⟩) rfl rfl (by decide) rfl rfl (fun H locs hP hD hS => ?_)
  refine lv_aload_n hx hb dX0_ask_8 rfl (lv_at hl 0 rfl) ?_
  refine lv_iload hx hb dX0_ask_9 (lv_at hl 4 rfl) ?_
  refine va_put (D := D) (ci := 0) (v := .int x4) (ty := .int) (C := RX0) (T := TX0) (N := 3) hx hb hts il_X0_ask_X0 tyX0 tyX0_ok nmX0 hown hK hP hD hS 5 rfl rfl 1 (by decide) (hts _ fk_X0_ask_1) (fun _ h9 => h9) rfl (tyX0_ok 1 (by decide)) rfl rfl (Nat.le_of_ble_eq_true rfl) dX0_ask_11 (fun H locs hP hD hS => ?_)
  have hP : va_P D vwCl (wo_X0_ask cI cJ a_la a_lc a_lr a_ha a_hp a_hl a_hq a_hm a_as a_am v_lc v_ha_finds v_hp v_hl x4 v_as_wantedRich (pa_fillI v_am 8 (0 : Int32))) H := hP
  have hD : va_D A (wo_X0_ask cI cJ a_la a_lc a_lr a_ha a_hp a_hl a_hq a_hm a_as a_am v_lc v_ha_finds v_hp v_hl x4 v_as_wantedRich (pa_fillI v_am 8 (0 : Int32))) := hD
  refine lv_aload_n hx hb dX0_ask_14 rfl (lv_at hl 0 rfl) ?_
  refine lv_iload hx hb dX0_ask_15 (lv_at hl 5 rfl) ?_
  refine va_put (D := D) (ci := 0) (v := .int x5) (ty := .int) (C := RX0) (T := TX0) (N := 3) hx hb hts il_X0_ask_X0 tyX0 tyX0_ok nmX0 hown hK hP hD hS 5 rfl rfl 2 (by decide) (hts _ fk_X0_ask_2) (fun _ h9 => h9) rfl (tyX0_ok 2 (by decide)) rfl rfl (Nat.le_of_ble_eq_true rfl) dX0_ask_17 (fun H locs hP hD hS => ?_)
  have hP : va_P D vwCl (wo_X0_ask cI cJ a_la a_lc a_lr a_ha a_hp a_hl a_hq a_hm a_as a_am v_lc v_ha_finds v_hp v_hl x4 x5 (pa_fillI v_am 8 (0 : Int32))) H := hP
  have hD : va_D A (wo_X0_ask cI cJ a_la a_lc a_lr a_ha a_hp a_hl a_hq a_hm a_as a_am v_lc v_ha_finds v_hp v_hl x4 x5 (pa_fillI v_am 8 (0 : Int32))) := hD
  refine lv_iconst (v := (0 : Int32)) hx hb dX0_ask_20 (by decide) ?_
  refine lv_istore (lv' := [(6, .int (0 : Int32)), (0, .ref a_as), (1, .ref a_la), (2, .int x2), (3, .ref a_ha), (4, .int x4), (5, .int x5)]) hx hb dX0_ask_21 hl (by decide) rfl (fun ls hl => ?_)
  exact w_X0_ask_L23 X  _ _ _ _ _ hf _ _  hP hD hS _ (lv_sub hl [1, 2, 3, 4, 0] rfl)
set_option maxHeartbeats 4000000 in
set_option maxRecDepth 100000 in
theorem c_X0_ask {l : Launch} {D : va_G} {cI cJ : ClassId} {g : pa_GT} {a_la a_lc a_lr a_ha a_hp a_hl a_hq a_hm a_as a_am : Nat} {x2 : Int32} {x4 : Int32} {x5 : Int32} {v_lc : Nat → Int32} {v_ha_finds : Int32} {v_hp : Nat → Int32} {v_hl : Nat → Int32} {v_as_wantedPoor : Int32} {v_as_wantedRich : Int32} {v_am : Nat → Int32} {o : Int32 × Int32 × (Nat → Int32)} (hf : f_X0_ask x2 x4 x5 v_lc v_ha_finds v_hp v_hl v_am = some o) : pa_Mv l yX0_ask wsX0_ask rm_X0_ask D cI cJ g [.ref a_as, .ref a_la, .int x2, .ref a_ha, .int x4, .int x5] (wo_X0_ask cI cJ a_la a_lc a_lr a_ha a_hp a_hl a_hq a_hm a_as a_am v_lc v_ha_finds v_hp v_hl v_as_wantedPoor v_as_wantedRich v_am) (wo_X0_ask cI cJ a_la a_lc a_lr a_ha a_hp a_hl a_hq a_hm a_as a_am v_lc v_ha_finds v_hp v_hl o.1 o.2.1 o.2.2) := by
  intro sz
  refine pa_met (cc := cX0_ask) (maxL := 7) (ret := none) (lv := [(0, .ref a_as), (1, .ref a_la), (2, .int x2), (3, .ref a_ha), (4, .int x4), (5, .int x5)]) (by decide) rfl (Nat.le_of_ble_eq_true rfl) rfl ?_
  intro p e s m below meth c X hsz hP hD ls hl
  subst hsz
  exact w_X0_ask_b0 X hf hP hD va_S.rf hl
abbrev wo_X0_metOfGroup (cI cJ : ClassId) (a_as a_am : Nat) (v_as_wantedPoor : Int32) (v_as_wantedRich : Int32) (v_am : Nat → Int32) : va_W := [(a_as, .inr (0, [.ref a_am, .int v_as_wantedPoor, .int v_as_wantedRich])), (a_am, .inl (cI, 8, .inl v_am))]
abbrev rm_X0_metOfGroup : Room := { frames := 0, cells := 0, slots := 0, locals := 0 }
theorem il_X0_metOfGroup_X0 : ∀ w ∈ wsX00, w ∈ wsX0_metOfGroup := by decide +kernel
theorem fk_X0_metOfGroup_0 : Cond.fieldLink RX0 9 "PostedAsks$Asker" "met" "[I" ∈ wsX0_metOfGroup := by decide +kernel
def f_X0_metOfGroup (x1 : Int32) (v_am : Nat → Int32) : Option (Int32) :=
  if pa_ib x1 8 = true then
    some ((v_am (Int32.toNatClampNeg x1)))
  else none
set_option maxHeartbeats 4000000 in
set_option maxRecDepth 100000 in
theorem w_X0_metOfGroup_b0 {l : Launch} {D : va_G} {cI cJ : ClassId} {g : pa_GT} {a_as a_am : Nat} {A : Nat → Prop} {p : Program} {e : Env} {s : State} {m : MethodId} {args : Array Value} {below : List Frame} {meth : Method} {c : Code} {x1 : Int32} {v_am : Nat → Int32} {v_as_wantedPoor : Int32} {v_as_wantedRich : Int32} {o : Int32} (X : pa_X cX0_metOfGroup 2 (some .int) RX0 wsX0_metOfGroup D cI cJ g A p s m args meth c)  (hf : f_X0_metOfGroup x1 v_am = some o) {H : Heap} {locs : List Loc} (hP : va_P D vwCl (wo_X0_metOfGroup cI cJ a_as a_am v_as_wantedPoor v_as_wantedRich v_am) H) (hD : va_D A (wo_X0_metOfGroup cI cJ a_as a_am v_as_wantedPoor v_as_wantedRich v_am)) (hS : va_S A s.heap H locs) {ls : Array Slot} (hl : lv_has ls 2 [(0, .ref a_as), (1, .int x1)]) : W p l e (headSpec wsX0_metOfGroup rm_X0_metOfGroup).room s m args below meth c H locs 0 0 (MQ below (va_Qi (fun r (_ : Unit) => r = o) (pa_QB D A (wo_X0_metOfGroup cI cJ a_as a_am v_as_wantedPoor v_as_wantedRich v_am)) A) args s 0 0 A) (F0 m 0 ls []) := by
  obtain ⟨hx, hb, hr, hml, hown, hts, hK, hA, hG, hlk⟩ := id X
  delta f_X0_metOfGroup at hf
  refine lv_aload_n hx hb dX0_metOfGroup_0 rfl (lv_at hl 0 rfl) ?_
  refine va_get (D := D) (ci := 0) (v := .ref a_am) (C := RX0) (T := TX0) (N := 3) hx hb hts il_X0_metOfGroup_X0 hown hK hP 0 rfl rfl 0 (by decide) (hts _ fk_X0_metOfGroup_0) (fun _ h9 => h9) rfl dX0_metOfGroup_1 ?_
  refine lv_iload_n hx hb dX0_metOfGroup_4 rfl (lv_at hl 1 rfl) ?_
  obtain ⟨hi_1, hf⟩ := pa_gd hf
  refine va_iald hx hb hK hP 1 0 rfl rfl hi_1 dX0_metOfGroup_5 ?_
  obtain rfl := Option.some.inj hf
  exact pa_ei X hP hD hS dX0_metOfGroup_6
set_option maxHeartbeats 4000000 in
set_option maxRecDepth 100000 in
theorem c_X0_metOfGroup {l : Launch} {D : va_G} {cI cJ : ClassId} {g : pa_GT} {a_as a_am : Nat} {x1 : Int32} {v_as_wantedPoor : Int32} {v_as_wantedRich : Int32} {v_am : Nat → Int32} {o : Int32} (hf : f_X0_metOfGroup x1 v_am = some o) : pa_Mi l yX0_metOfGroup wsX0_metOfGroup rm_X0_metOfGroup D cI cJ g [.ref a_as, .int x1] (wo_X0_metOfGroup cI cJ a_as a_am v_as_wantedPoor v_as_wantedRich v_am) (wo_X0_metOfGroup cI cJ a_as a_am v_as_wantedPoor v_as_wantedRich v_am) o := by
  intro sz
  refine pa_met (cc := cX0_metOfGroup) (maxL := 2) (ret := (some .int)) (lv := [(0, .ref a_as), (1, .int x1)]) (by decide) rfl (Nat.le_of_ble_eq_true rfl) rfl ?_
  intro p e s m below meth c X hsz hP hD ls hl
  subst hsz
  exact w_X0_metOfGroup_b0 X hf hP hD va_S.rf hl
abbrev wo_X0_met (cI cJ : ClassId) (a_as a_am : Nat) (v_as_wantedPoor : Int32) (v_as_wantedRich : Int32) (v_am : Nat → Int32) : va_W := [(a_as, .inr (0, [.ref a_am, .int v_as_wantedPoor, .int v_as_wantedRich])), (a_am, .inl (cI, 8, .inl v_am))]
abbrev rm_X0_met : Room := { frames := 0, cells := 0, slots := 0, locals := 0 }
theorem il_X0_met_X0 : ∀ w ∈ wsX00, w ∈ wsX0_met := by decide +kernel
theorem fk_X0_met_0 : Cond.fieldLink RX0 9 "PostedAsks$Asker" "met" "[I" ∈ wsX0_met := by decide +kernel
def f_X0_met_L5_body (x1 : Int32) (x2 : Int32) (v_am : Nat → Int32) (rec5 : Int32 → Int32 → Option (Int32)) (x3 : Int32) (x4 : Int32) : Option (Int32) :=
  if (8 : Int32) ≤ x4 then
    some (x3)
  else
    if (x4 &&& x1) = x2 then
      if pa_ib x4 8 = true then
        rec5 (x3 + (v_am (Int32.toNatClampNeg x4))) (x4 + (1 : Int32))
      else none
    else
      rec5 x3 (x4 + (1 : Int32))
def f_X0_met_L5 (x1 : Int32) (x2 : Int32) (v_am : Nat → Int32) : Nat → Int32 → Int32 → Option (Int32)
  | 0 => fun _ _ => none
  | n + 1 => f_X0_met_L5_body x1 x2 v_am (f_X0_met_L5 x1 x2 v_am n)
def f_X0_met (x1 : Int32) (x2 : Int32) (v_am : Nat → Int32) : Option (Int32) :=
  f_X0_met_L5 x1 x2 v_am pa_fu (0 : Int32) (0 : Int32)
set_option maxHeartbeats 4000000 in
set_option maxRecDepth 100000 in
theorem w_X0_met_L5 {l : Launch} {D : va_G} {cI cJ : ClassId} {g : pa_GT} {a_as a_am : Nat} {A : Nat → Prop} {p : Program} {e : Env} {s : State} {m : MethodId} {args : Array Value} {below : List Frame} {meth : Method} {c : Code} {x1 : Int32} {x2 : Int32} {v_am : Nat → Int32} {v_as_wantedPoor : Int32} {v_as_wantedRich : Int32} {o : Int32} (X : pa_X cX0_met 5 (some .int) RX0 wsX0_met D cI cJ g A p s m args meth c)  : ∀ (n : Nat) (x3 : Int32) (x4 : Int32), f_X0_met_L5 x1 x2 v_am n x3 x4 = some o → ∀ (H : Heap) (locs : List Loc) , va_P D vwCl (wo_X0_met cI cJ a_as a_am v_as_wantedPoor v_as_wantedRich v_am) H → va_D A (wo_X0_met cI cJ a_as a_am v_as_wantedPoor v_as_wantedRich v_am) → va_S A s.heap H locs → ∀ (ls : Array Slot), lv_has ls 5 [(0, .ref a_as), (1, .int x1), (2, .int x2), (3, .int x3), (4, .int x4)] → W p l e (headSpec wsX0_met rm_X0_met).room s m args below meth c H locs 0 0 (MQ below (va_Qi (fun r (_ : Unit) => r = o) (pa_QB D A (wo_X0_met cI cJ a_as a_am v_as_wantedPoor v_as_wantedRich v_am)) A) args s 0 0 A) (F0 m 5 ls []) := by
  obtain ⟨hx, hb, hr, hml, hown, hts, hK, hA, hG, hlk⟩ := id X
  intro n
  induction n with
  | zero =>
    intro x3 x4 hf
    have hf : (none : Option (Int32)) = some o := hf
    cases hf
  | succ n hrec5 =>
    intro x3 x4 hf H locs  hP hD hS ls hl
    have hf : f_X0_met_L5_body x1 x2 v_am (f_X0_met_L5 x1 x2 v_am n) x3 x4 = some o := hf
    delta f_X0_met_L5_body at hf
    generalize hgr : f_X0_met_L5 x1 x2 v_am n = rec5 at hf hrec5
    refine lv_iload hx hb dX0_met_5 (lv_at hl 4 rfl) ?_
    refine lv_bipush (v := (8 : Int32)) hx hb dX0_met_7 (by decide) ?_
    refine lv_icmp_ge (tgt := 36) hx hb dX0_met_9 (by decide) (fun c_1 => ?_) (fun c_1 => ?_)
    · have hf := (if_pos c_1).symm.trans hf
      refine lv_iload_n hx hb dX0_met_36 rfl (lv_at hl 3 rfl) ?_
      obtain rfl := Option.some.inj hf
      exact pa_ei X hP hD hS dX0_met_37
    · have hf := (if_neg c_1).symm.trans hf
      refine lv_iload hx hb dX0_met_12 (lv_at hl 4 rfl) ?_
      refine lv_iload_n hx hb dX0_met_14 rfl (lv_at hl 1 rfl) ?_
      refine lv_iand hx hb dX0_met_15 ?_
      refine lv_iload_n hx hb dX0_met_16 rfl (lv_at hl 2 rfl) ?_
      refine lv_icmp_ne (tgt := 30) hx hb dX0_met_17 (by decide) (fun c_2 => ?_) (fun c_2 => ?_)
      · have hf := (if_neg c_2).symm.trans hf
        refine lv_iinc (v := (x4 + (1 : Int32))) (lv' := [(4, .int (x4 + (1 : Int32))), (0, .ref a_as), (1, .int x1), (2, .int x2), (3, .int x3)]) hx hb dX0_met_30 hl (k := 4) rfl rfl (by decide) rfl (fun ls hl => ?_)
        refine lv_goto (tgt := 5) hx hb dX0_met_33 (by decide) ?_
        exact hrec5 _ _ hf _ _  hP hD hS _ (lv_sub hl [1, 2, 3, 4, 0] rfl)
      · have hf := (if_pos c_2).symm.trans hf
        refine lv_iload_n hx hb dX0_met_20 rfl (lv_at hl 3 rfl) ?_
        refine lv_aload_n hx hb dX0_met_21 rfl (lv_at hl 0 rfl) ?_
        refine va_get (D := D) (ci := 0) (v := .ref a_am) (C := RX0) (T := TX0) (N := 3) hx hb hts il_X0_met_X0 hown hK hP 0 rfl rfl 0 (by decide) (hts _ fk_X0_met_0) (fun _ h9 => h9) rfl dX0_met_22 ?_
        refine lv_iload hx hb dX0_met_25 (lv_at hl 4 rfl) ?_
        obtain ⟨hi_3, hf⟩ := pa_gd hf
        refine va_iald hx hb hK hP 1 0 rfl rfl hi_3 dX0_met_27 ?_
        refine lv_iadd hx hb dX0_met_28 ?_
        refine lv_istore_n (lv' := [(3, .int (x3 + (v_am (Int32.toNatClampNeg x4)))), (0, .ref a_as), (1, .int x1), (2, .int x2), (4, .int x4)]) hx hb dX0_met_29 rfl hl (by decide) rfl (fun ls hl => ?_)
        refine lv_iinc (v := (x4 + (1 : Int32))) (lv' := [(4, .int (x4 + (1 : Int32))), (3, .int (x3 + (v_am (Int32.toNatClampNeg x4)))), (0, .ref a_as), (1, .int x1), (2, .int x2)]) hx hb dX0_met_30 hl (k := 4) rfl rfl (by decide) rfl (fun ls hl => ?_)
        refine lv_goto (tgt := 5) hx hb dX0_met_33 (by decide) ?_
        exact hrec5 _ _ hf _ _  hP hD hS _ (lv_sub hl [2, 3, 4, 1, 0] rfl)
set_option maxHeartbeats 4000000 in
set_option maxRecDepth 100000 in
theorem w_X0_met_b0 {l : Launch} {D : va_G} {cI cJ : ClassId} {g : pa_GT} {a_as a_am : Nat} {A : Nat → Prop} {p : Program} {e : Env} {s : State} {m : MethodId} {args : Array Value} {below : List Frame} {meth : Method} {c : Code} {x1 : Int32} {x2 : Int32} {v_am : Nat → Int32} {v_as_wantedPoor : Int32} {v_as_wantedRich : Int32} {o : Int32} (X : pa_X cX0_met 5 (some .int) RX0 wsX0_met D cI cJ g A p s m args meth c)  (hf : f_X0_met x1 x2 v_am = some o) {H : Heap} {locs : List Loc} (hP : va_P D vwCl (wo_X0_met cI cJ a_as a_am v_as_wantedPoor v_as_wantedRich v_am) H) (hD : va_D A (wo_X0_met cI cJ a_as a_am v_as_wantedPoor v_as_wantedRich v_am)) (hS : va_S A s.heap H locs) {ls : Array Slot} (hl : lv_has ls 5 [(0, .ref a_as), (1, .int x1), (2, .int x2)]) : W p l e (headSpec wsX0_met rm_X0_met).room s m args below meth c H locs 0 0 (MQ below (va_Qi (fun r (_ : Unit) => r = o) (pa_QB D A (wo_X0_met cI cJ a_as a_am v_as_wantedPoor v_as_wantedRich v_am)) A) args s 0 0 A) (F0 m 0 ls []) := by
  obtain ⟨hx, hb, hr, hml, hown, hts, hK, hA, hG, hlk⟩ := id X
  delta f_X0_met at hf
  refine lv_iconst (v := (0 : Int32)) hx hb dX0_met_0 (by decide) ?_
  refine lv_istore_n (lv' := [(3, .int (0 : Int32)), (0, .ref a_as), (1, .int x1), (2, .int x2)]) hx hb dX0_met_1 rfl hl (by decide) rfl (fun ls hl => ?_)
  refine lv_iconst (v := (0 : Int32)) hx hb dX0_met_2 (by decide) ?_
  refine lv_istore (lv' := [(4, .int (0 : Int32)), (3, .int (0 : Int32)), (0, .ref a_as), (1, .int x1), (2, .int x2)]) hx hb dX0_met_3 hl (by decide) rfl (fun ls hl => ?_)
  exact w_X0_met_L5 X  _ _ _ hf _ _  hP hD hS _ (lv_sub hl [2, 3, 4, 1, 0] rfl)
set_option maxHeartbeats 4000000 in
set_option maxRecDepth 100000 in
theorem c_X0_met {l : Launch} {D : va_G} {cI cJ : ClassId} {g : pa_GT} {a_as a_am : Nat} {x1 : Int32} {x2 : Int32} {v_as_wantedPoor : Int32} {v_as_wantedRich : Int32} {v_am : Nat → Int32} {o : Int32} (hf : f_X0_met x1 x2 v_am = some o) : pa_Mi l yX0_met wsX0_met rm_X0_met D cI cJ g [.ref a_as, .int x1, .int x2] (wo_X0_met cI cJ a_as a_am v_as_wantedPoor v_as_wantedRich v_am) (wo_X0_met cI cJ a_as a_am v_as_wantedPoor v_as_wantedRich v_am) o := by
  intro sz
  refine pa_met (cc := cX0_met) (maxL := 5) (ret := (some .int)) (lv := [(0, .ref a_as), (1, .int x1), (2, .int x2)]) (by decide) rfl (Nat.le_of_ble_eq_true rfl) rfl ?_
  intro p e s m below meth c X hsz hP hD ls hl
  subst hsz
  exact w_X0_met_b0 X hf hP hD va_S.rf hl
