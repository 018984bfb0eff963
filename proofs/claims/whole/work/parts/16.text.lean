abbrev wo_X6_rewind (cI cJ : ClassId) (a_te a_tb : Nat) (v_te_length : Int32) (v_te_token : Nat) (v_te_place : Int32) (v_te_end : Int32) (v_te_value : Int32) : va_W := [(a_te, .inr (6, [.ref a_tb, .int v_te_length, .ref v_te_token, .int v_te_place, .int v_te_end, .int v_te_value]))]
abbrev rm_X6_rewind : Room := { frames := 0, cells := 0, slots := 0, locals := 0 }
theorem il_X6_rewind_X6 : ∀ w ∈ wsX60, w ∈ wsX6_rewind := by decide +kernel
theorem fk_X6_rewind_0 : Cond.fieldLink RX6 31 "PostedAsks$Text" "end" "I" ∈ wsX6_rewind := by decide +kernel
def f_X6_rewind  : Option (Int32) :=
  some ((0 : Int32))
set_option maxHeartbeats 4000000 in
set_option maxRecDepth 100000 in
theorem w_X6_rewind_b0 {l : Launch} {D : va_G} {cI cJ : ClassId} {g : pa_GT} {a_te a_tb : Nat} {A : Nat → Prop} {p : Program} {e : Env} {s : State} {m : MethodId} {args : Array Value} {below : List Frame} {meth : Method} {c : Code}  {v_te_length : Int32} {v_te_token : Nat} {v_te_place : Int32} {v_te_end : Int32} {v_te_value : Int32} {o : Int32} (X : pa_X cX6_rewind 1 none RX6 wsX6_rewind D cI cJ g A p s m args meth c)  (hf : f_X6_rewind  = some o) {H : Heap} {locs : List Loc} (hP : va_P D vwCl (wo_X6_rewind cI cJ a_te a_tb v_te_length v_te_token v_te_place v_te_end v_te_value) H) (hD : va_D A (wo_X6_rewind cI cJ a_te a_tb v_te_length v_te_token v_te_place v_te_end v_te_value)) (hS : va_S A s.heap H locs) {ls : Array Slot} (hl : lv_has ls 1 [(0, .ref a_te)]) : W p l e (headSpec wsX6_rewind rm_X6_rewind).room s m args below meth c H locs 0 0 (MQ below (va_Qv (fun (_ : Unit) => True) (pa_QB D A (wo_X6_rewind cI cJ a_te a_tb v_te_length v_te_token v_te_place o v_te_value)) A) args s 0 0 A) (F0 m 0 ls []) := by
  obtain ⟨hx, hb, hr, hml, hown, hts, hK, hA, hG, hlk⟩ := id X
  delta f_X6_rewind at hf
  refine lv_aload_n hx hb dX6_rewind_0 rfl (lv_at hl 0 rfl) ?_
  refine lv_iconst (v := (0 : Int32)) hx hb dX6_rewind_1 (by decide) ?_
  refine va_put (D := D) (ci := 6) (v := .int (0 : Int32)) (ty := .int) (C := RX6) (T := TX6) (N := 6) hx hb hts il_X6_rewind_X6 tyX6 tyX6_ok nmX6 hown hK hP hD hS 0 rfl rfl 4 (by decide) (hts _ fk_X6_rewind_0) (fun _ h9 => h9) rfl (tyX6_ok 4 (by decide)) rfl rfl (Nat.le_of_ble_eq_true rfl) dX6_rewind_2 (fun H locs hP hD hS => ?_)
  have hP : va_P D vwCl (wo_X6_rewind cI cJ a_te a_tb v_te_length v_te_token v_te_place (0 : Int32) v_te_value) H := hP
  have hD : va_D A (wo_X6_rewind cI cJ a_te a_tb v_te_length v_te_token v_te_place (0 : Int32) v_te_value) := hD
  obtain rfl := Option.some.inj hf
  exact pa_ev X hP hD hS dX6_rewind_5
set_option maxHeartbeats 4000000 in
set_option maxRecDepth 100000 in
theorem c_X6_rewind {l : Launch} {D : va_G} {cI cJ : ClassId} {g : pa_GT} {a_te a_tb : Nat}  {v_te_length : Int32} {v_te_token : Nat} {v_te_place : Int32} {v_te_end : Int32} {v_te_value : Int32} {o : Int32} (hf : f_X6_rewind  = some o) : pa_Mv l yX6_rewind wsX6_rewind rm_X6_rewind D cI cJ g [.ref a_te] (wo_X6_rewind cI cJ a_te a_tb v_te_length v_te_token v_te_place v_te_end v_te_value) (wo_X6_rewind cI cJ a_te a_tb v_te_length v_te_token v_te_place o v_te_value) := by
  intro sz
  refine pa_met (cc := cX6_rewind) (maxL := 1) (ret := none) (lv := [(0, .ref a_te)]) (by decide) rfl (Nat.le_of_ble_eq_true rfl) rfl ?_
  intro p e s m below meth c X hsz hP hD ls hl
  subst hsz
  exact w_X6_rewind_b0 X hf hP hD va_S.rf hl
abbrev rm_X6_isLetter : Room := { frames := 0, cells := 0, slots := 0, locals := 0 }
def f_X6_isLetter (x0 : Int32) : Option (Int32) :=
  if x0 < (97 : Int32) then
    some ((0 : Int32))
  else
    if (122 : Int32) < x0 then
      some ((0 : Int32))
    else
      some ((1 : Int32))
set_option maxHeartbeats 4000000 in
set_option maxRecDepth 100000 in
theorem w_X6_isLetter_b0 {l : Launch} {D : va_G} {cI cJ : ClassId} {g : pa_GT} {A : Nat → Prop} {p : Program} {e : Env} {s : State} {m : MethodId} {args : Array Value} {below : List Frame} {meth : Method} {c : Code} {x0 : Int32}  {o : Int32} (X : pa_X cX6_isLetter 1 (some .boolean) RX6 wsX6_isLetter D cI cJ g A p s m args meth c)  (hf : f_X6_isLetter x0 = some o) {H : Heap} {locs : List Loc} (hP : va_P D vwCl ([] : va_W) H) (hD : va_D A ([] : va_W)) (hS : va_S A s.heap H locs) {ls : Array Slot} (hl : lv_has ls 1 [(0, .int x0)]) : W p l e (headSpec wsX6_isLetter rm_X6_isLetter).room s m args below meth c H locs 0 0 (MQ below (va_Qi (fun r (_ : Unit) => r = o) (pa_QB D A ([] : va_W)) A) args s 0 0 A) (F0 m 0 ls []) := by
  obtain ⟨hx, hb, hr, hml, hown, hts, hK, hA, hG, hlk⟩ := id X
  delta f_X6_isLetter at hf
  refine lv_iload_n hx hb dX6_isLetter_0 rfl (lv_at hl 0 rfl) ?_
  refine lv_bipush (v := (97 : Int32)) hx hb dX6_isLetter_1 (by decide) ?_
  refine lv_icmp_lt (tgt := 16) hx hb dX6_isLetter_3 (by decide) (fun c_1 => ?_) (fun c_1 => ?_)
  · have hf := (if_pos c_1).symm.trans hf
    refine lv_iconst (v := (0 : Int32)) hx hb dX6_isLetter_16 (by decide) ?_
    obtain rfl := Option.some.inj hf
    exact pa_ez (v := (0 : Int32)) X hP hD hS rfl dX6_isLetter_17
  · have hf := (if_neg c_1).symm.trans hf
    refine lv_iload_n hx hb dX6_isLetter_6 rfl (lv_at hl 0 rfl) ?_
    refine lv_bipush (v := (122 : Int32)) hx hb dX6_isLetter_7 (by decide) ?_
    refine lv_icmp_gt (tgt := 16) hx hb dX6_isLetter_9 (by decide) (fun c_2 => ?_) (fun c_2 => ?_)
    · have hf := (if_pos c_2).symm.trans hf
      refine lv_iconst (v := (0 : Int32)) hx hb dX6_isLetter_16 (by decide) ?_
      obtain rfl := Option.some.inj hf
      exact pa_ez (v := (0 : Int32)) X hP hD hS rfl dX6_isLetter_17
    · have hf := (if_neg c_2).symm.trans hf
      refine lv_iconst (v := (1 : Int32)) hx hb dX6_isLetter_12 (by decide) ?_
      refine lv_goto (tgt := 17) hx hb dX6_isLetter_13 (by decide) ?_
      obtain rfl := Option.some.inj hf
      exact pa_ez (v := (1 : Int32)) X hP hD hS rfl dX6_isLetter_17
set_option maxHeartbeats 4000000 in
set_option maxRecDepth 100000 in
theorem c_X6_isLetter {l : Launch} {D : va_G} {cI cJ : ClassId} {g : pa_GT} {x0 : Int32}  {o : Int32} (hf : f_X6_isLetter x0 = some o) : pa_Mi l yX6_isLetter wsX6_isLetter rm_X6_isLetter D cI cJ g [.int x0] ([] : va_W) ([] : va_W) o := by
  intro sz
  refine pa_met (cc := cX6_isLetter) (maxL := 1) (ret := (some .boolean)) (lv := [(0, .int x0)]) (by decide) rfl (Nat.le_of_ble_eq_true rfl) rfl ?_
  intro p e s m below meth c X hsz hP hD ls hl
  subst hsz
  exact w_X6_isLetter_b0 X hf hP hD va_S.rf hl
abbrev wo_X6_spells (cI cJ : ClassId) (a_te a_tb : Nat) (v_te_length : Int32) (v_te_token : Nat) (v_te_place : Int32) (v_te_end : Int32) (v_te_value : Int32) (v_tb : Nat → Int32) : va_W := [(a_te, .inr (6, [.ref a_tb, .int v_te_length, .ref v_te_token, .int v_te_place, .int v_te_end, .int v_te_value])), (a_tb, .inl (cI, 300, .inl v_tb))]
abbrev rm_X6_spells : Room := { frames := 4, cells := 0, slots := 0, locals := 85 }
theorem il_X6_spells_X6 : ∀ w ∈ wsX60, w ∈ wsX6_spells := by decide +kernel
theorem fk_X6_spells_0 : Cond.fieldLink RX6 9 "PostedAsks$Text" "bytes" "[I" ∈ wsX6_spells := by decide +kernel
theorem fk_X6_spells_1 : Cond.fieldLink RX6 28 "PostedAsks$Text" "place" "I" ∈ wsX6_spells := by decide +kernel
theorem fk_X6_spells_2 : Cond.fieldLink RX6 31 "PostedAsks$Text" "end" "I" ∈ wsX6_spells := by decide +kernel
def f_X6_spells_L20_body (x1 : Nat) (v_te_place : Int32) (v_tb : Nat → Int32) (rec20 : Int32 → Option (Int32)) (x2 : Int32) : Option (Int32) :=
  if (pa_slen x1) ≤ x2 then
    some ((1 : Int32))
  else
    if pa_ib (v_te_place + x2) 300 = true then
      if pa_ib x2 (pa_slN x1) = true then
        if (v_tb (Int32.toNatClampNeg (v_te_place + x2))) = (pa_schr x1 (Int32.toNatClampNeg x2)) then
          rec20 (x2 + (1 : Int32))
        else
          some ((0 : Int32))
      else none
    else none
def f_X6_spells_L20 (x1 : Nat) (v_te_place : Int32) (v_tb : Nat → Int32) : Nat → Int32 → Option (Int32)
  | 0 => fun _ => none
  | n + 1 => f_X6_spells_L20_body x1 v_te_place v_tb (f_X6_spells_L20 x1 v_te_place v_tb n)
def f_X6_spells (x1 : Nat) (v_te_place : Int32) (v_te_end : Int32) (v_tb : Nat → Int32) : Option (Int32) :=
  if (v_te_end - v_te_place) = (pa_slen x1) then
    f_X6_spells_L20 x1 v_te_place v_tb pa_fu (0 : Int32)
  else
    some ((0 : Int32))
set_option maxHeartbeats 4000000 in
set_option maxRecDepth 100000 in
theorem w_X6_spells_L20 {l : Launch} {D : va_G} {cI cJ : ClassId} {g : pa_GT} {a_te a_tb : Nat} {A : Nat → Prop} {p : Program} {e : Env} {s : State} {m : MethodId} {args : Array Value} {below : List Frame} {meth : Method} {c : Code} {x1 : Nat} {v_te_place : Int32} {v_tb : Nat → Int32} {v_te_length : Int32} {v_te_token : Nat} {v_te_end : Int32} {v_te_value : Int32} {o : Int32} (X : pa_X cX6_spells 3 (some .boolean) RX6 wsX6_spells D cI cJ g A p s m args meth c)  (hk2 : x1 < 2) : ∀ (n : Nat) (x2 : Int32), f_X6_spells_L20 x1 v_te_place v_tb n x2 = some o → ∀ (H : Heap) (locs : List Loc) , va_P D vwCl (wo_X6_spells cI cJ a_te a_tb v_te_length v_te_token v_te_place v_te_end v_te_value v_tb) H → va_D A (wo_X6_spells cI cJ a_te a_tb v_te_length v_te_token v_te_place v_te_end v_te_value v_tb) → va_S A s.heap H locs → ∀ (ls : Array Slot), lv_has ls 3 [(0, .ref a_te), (1, .ref (g.2.2.1 x1)), (2, .int x2)] → W p l e (headSpec wsX6_spells rm_X6_spells).room s m args below meth c H locs 0 0 (MQ below (va_Qi (fun r (_ : Unit) => r = o) (pa_QB D A (wo_X6_spells cI cJ a_te a_tb v_te_length v_te_token v_te_place v_te_end v_te_value v_tb)) A) args s 0 0 A) (F0 m 20 ls []) := by
  obtain ⟨hx, hb, hr, hml, hown, hts, hK, hA, hG, hlk⟩ := id X
  intro n
  induction n with
  | zero =>
    intro x2 hf
    have hf : (none : Option (Int32)) = some o := hf
    cases hf
  | succ n hrec20 =>
    intro x2 hf H locs  hP hD hS ls hl
    have hf : f_X6_spells_L20_body x1 v_te_place v_tb (f_X6_spells_L20 x1 v_te_place v_tb n) x2 = some o := hf
    delta f_X6_spells_L20_body at hf
    generalize hgr : f_X6_spells_L20 x1 v_te_place v_tb n = rec20 at hf hrec20
    refine lv_iload_n hx hb dX6_spells_20 rfl (lv_at hl 2 rfl) ?_
    refine lv_aload_n hx hb dX6_spells_21 rfl (lv_at hl 1 rfl) ?_
    refine pa_ki (wc := ([] : va_W)) (wr := (wo_X6_spells cI cJ a_te a_tb v_te_length v_te_token v_te_place v_te_end v_te_value v_tb)) (w1 := ([] : va_W)) (w2 := (wo_X6_spells cI cJ a_te a_tb v_te_length v_te_token v_te_place v_te_end v_te_value v_tb)) X hP hD hS [] [0, 1] [0, 1] rfl (pa_rK (As := []) (rest := [.int x2]) X hk2 hP hD hS (c_strlen hk2 H.size) (cwV 0 hts gX6_spells_J0_length_8abf5 rfl rfl rfl (by decide +kernel) ⟨Nat.le_of_ble_eq_true rfl, Nat.le_of_ble_eq_true rfl⟩) rfl hl.1 rfl (Nat.le_of_ble_eq_true rfl) dX6_spells_22 ⟨Nat.zero_le _, Nat.zero_le _⟩) rfl rfl (by decide) rfl rfl (fun H locs hP hD hS => ?_)
    refine lv_icmp_ge (tgt := 55) hx hb dX6_spells_25 (by decide) (fun c_1 => ?_) (fun c_1 => ?_)
    · have hf := (if_pos c_1).symm.trans hf
      refine lv_iconst (v := (1 : Int32)) hx hb dX6_spells_55 (by decide) ?_
      obtain rfl := Option.some.inj hf
      exact pa_ez (v := (1 : Int32)) X hP hD hS rfl dX6_spells_56
    · have hf := (if_neg c_1).symm.trans hf
      refine lv_aload_n hx hb dX6_spells_28 rfl (lv_at hl 0 rfl) ?_
      refine va_get (D := D) (ci := 6) (v := .ref a_tb) (C := RX6) (T := TX6) (N := 6) hx hb hts il_X6_spells_X6 hown hK hP 0 rfl rfl 0 (by decide) (hts _ fk_X6_spells_0) (fun _ h9 => h9) rfl dX6_spells_29 ?_
      refine lv_aload_n hx hb dX6_spells_32 rfl (lv_at hl 0 rfl) ?_
      refine va_get (D := D) (ci := 6) (v := .int v_te_place) (C := RX6) (T := TX6) (N := 6) hx hb hts il_X6_spells_X6 hown hK hP 0 rfl rfl 3 (by decide) (hts _ fk_X6_spells_1) (fun _ h9 => h9) rfl dX6_spells_33 ?_
      refine lv_iload_n hx hb dX6_spells_36 rfl (lv_at hl 2 rfl) ?_
      refine lv_iadd hx hb dX6_spells_37 ?_
      obtain ⟨hi_2, hf⟩ := pa_gd hf
      refine va_iald hx hb hK hP 1 0 rfl rfl hi_2 dX6_spells_38 ?_
      refine lv_aload_n hx hb dX6_spells_39 rfl (lv_at hl 1 rfl) ?_
      refine lv_iload_n hx hb dX6_spells_40 rfl (lv_at hl 2 rfl) ?_
      obtain ⟨hi_3, hf⟩ := pa_gd hf
      refine pa_ki (wc := ([] : va_W)) (wr := (wo_X6_spells cI cJ a_te a_tb v_te_length v_te_token v_te_place v_te_end v_te_value v_tb)) (w1 := ([] : va_W)) (w2 := (wo_X6_spells cI cJ a_te a_tb v_te_length v_te_token v_te_place v_te_end v_te_value v_tb)) X hP hD hS [] [0, 1] [0, 1] rfl (pa_rK (As := [.int x2]) (rest := [.int (v_tb (Int32.toNatClampNeg (v_te_place + x2)))]) X hk2 hP hD hS (c_strchr hk2 hi_3 H.size) (cwV 1 hts gX6_spells_J0_charAt_5068e rfl rfl rfl (by decide +kernel) ⟨Nat.le_of_ble_eq_true rfl, Nat.le_of_ble_eq_true rfl⟩) rfl hl.1 rfl (Nat.le_of_ble_eq_true rfl) dX6_spells_41 ⟨Nat.zero_le _, Nat.zero_le _⟩) rfl rfl (by decide) rfl rfl (fun H locs hP hD hS => ?_)
      refine lv_icmp_eq (tgt := 49) hx hb dX6_spells_44 (by decide) (fun c_4 => ?_) (fun c_4 => ?_)
      · have hf := (if_pos c_4).symm.trans hf
        refine lv_iinc (v := (x2 + (1 : Int32))) (lv' := [(2, .int (x2 + (1 : Int32))), (0, .ref a_te), (1, .ref (g.2.2.1 x1))]) hx hb dX6_spells_49 hl (k := 2) rfl rfl (by decide) rfl (fun ls hl => ?_)
        refine lv_goto (tgt := 20) hx hb dX6_spells_52 (by decide) ?_
        exact hrec20 _ hf _ _  hP hD hS _ (lv_sub hl [1, 2, 0] rfl)
      · have hf := (if_neg c_4).symm.trans hf
        refine lv_iconst (v := (0 : Int32)) hx hb dX6_spells_47 (by decide) ?_
        obtain rfl := Option.some.inj hf
        exact pa_ez (v := (0 : Int32)) X hP hD hS rfl dX6_spells_48
set_option maxHeartbeats 4000000 in
set_option maxRecDepth 100000 in
theorem w_X6_spells_b0 {l : Launch} {D : va_G} {cI cJ : ClassId} {g : pa_GT} {a_te a_tb : Nat} {A : Nat → Prop} {p : Program} {e : Env} {s : State} {m : MethodId} {args : Array Value} {below : List Frame} {meth : Method} {c : Code} {x1 : Nat} {v_te_place : Int32} {v_te_end : Int32} {v_tb : Nat → Int32} {v_te_length : Int32} {v_te_token : Nat} {v_te_value : Int32} {o : Int32} (X : pa_X cX6_spells 3 (some .boolean) RX6 wsX6_spells D cI cJ g A p s m args meth c)  (hk2 : x1 < 2) (hf : f_X6_spells x1 v_te_place v_te_end v_tb = some o) {H : Heap} {locs : List Loc} (hP : va_P D vwCl (wo_X6_spells cI cJ a_te a_tb v_te_length v_te_token v_te_place v_te_end v_te_value v_tb) H) (hD : va_D A (wo_X6_spells cI cJ a_te a_tb v_te_length v_te_token v_te_place v_te_end v_te_value v_tb)) (hS : va_S A s.heap H locs) {ls : Array Slot} (hl : lv_has ls 3 [(0, .ref a_te), (1, .ref (g.2.2.1 x1))]) : W p l e (headSpec wsX6_spells rm_X6_spells).room s m args below meth c H locs 0 0 (MQ below (va_Qi (fun r (_ : Unit) => r = o) (pa_QB D A (wo_X6_spells cI cJ a_te a_tb v_te_length v_te_token v_te_place v_te_end v_te_value v_tb)) A) args s 0 0 A) (F0 m 0 ls []) := by
  obtain ⟨hx, hb, hr, hml, hown, hts, hK, hA, hG, hlk⟩ := id X
  delta f_X6_spells at hf
  refine lv_aload_n hx hb dX6_spells_0 rfl (lv_at hl 0 rfl) ?_
  refine va_get (D := D) (ci := 6) (v := .int v_te_end) (C := RX6) (T := TX6) (N := 6) hx hb hts il_X6_spells_X6 hown hK hP 0 rfl rfl 4 (by decide) (hts _ fk_X6_spells_2) (fun _ h9 => h9) rfl dX6_spells_1 ?_
  refine lv_aload_n hx hb dX6_spells_4 rfl (lv_at hl 0 rfl) ?_
  refine va_get (D := D) (ci := 6) (v := .int v_te_place) (C := RX6) (T := TX6) (N := 6) hx hb hts il_X6_spells_X6 hown hK hP 0 rfl rfl 3 (by decide) (hts _ fk_X6_spells_1) (fun _ h9 => h9) rfl dX6_spells_5 ?_
  refine lv_isub hx hb dX6_spells_8 ?_
  refine lv_aload_n hx hb dX6_spells_9 rfl (lv_at hl 1 rfl) ?_
  refine pa_ki (wc := ([] : va_W)) (wr := (wo_X6_spells cI cJ a_te a_tb v_te_length v_te_token v_te_place v_te_end v_te_value v_tb)) (w1 := ([] : va_W)) (w2 := (wo_X6_spells cI cJ a_te a_tb v_te_length v_te_token v_te_place v_te_end v_te_value v_tb)) X hP hD hS [] [0, 1] [0, 1] rfl (pa_rK (As := []) (rest := [.int (v_te_end - v_te_place)]) X hk2 hP hD hS (c_strlen hk2 H.size) (cwV 0 hts gX6_spells_J0_length_8abf5 rfl rfl rfl (by decide +kernel) ⟨Nat.le_of_ble_eq_true rfl, Nat.le_of_ble_eq_true rfl⟩) rfl hl.1 rfl (Nat.le_of_ble_eq_true rfl) dX6_spells_10 ⟨Nat.zero_le _, Nat.zero_le _⟩) rfl rfl (by decide) rfl rfl (fun H locs hP hD hS => ?_)
  refine lv_icmp_eq (tgt := 18) hx hb dX6_spells_13 (by decide) (fun c_5 => ?_) (fun c_5 => ?_)
  · have hf := (if_pos c_5).symm.trans hf
    refine lv_iconst (v := (0 : Int32)) hx hb dX6_spells_18 (by decide) ?_
    refine lv_istore_n (lv' := [(2, .int (0 : Int32)), (0, .ref a_te), (1, .ref (g.2.2.1 x1))]) hx hb dX6_spells_19 rfl hl (by decide) rfl (fun ls hl => ?_)
    exact w_X6_spells_L20 X hk2 _ _ hf _ _  hP hD hS _ (lv_sub hl [1, 2, 0] rfl)
  · have hf := (if_neg c_5).symm.trans hf
    refine lv_iconst (v := (0 : Int32)) hx hb dX6_spells_16 (by decide) ?_
    obtain rfl := Option.some.inj hf
    exact pa_ez (v := (0 : Int32)) X hP hD hS rfl dX6_spells_17
set_option maxHeartbeats 4000000 in
set_option maxRecDepth 100000 in
theorem c_X6_spells {l : Launch} {D : va_G} {cI cJ : ClassId} {g : pa_GT} {a_te a_tb : Nat} {x1 : Nat} {v_te_length : Int32} {v_te_token : Nat} {v_te_place : Int32} {v_te_end : Int32} {v_te_value : Int32} {v_tb : Nat → Int32} {o : Int32} (hk2 : x1 < 2) (hf : f_X6_spells x1 v_te_place v_te_end v_tb = some o) : pa_Mi l yX6_spells wsX6_spells rm_X6_spells D cI cJ g [.ref a_te, .ref (g.2.2.1 x1)] (wo_X6_spells cI cJ a_te a_tb v_te_length v_te_token v_te_place v_te_end v_te_value v_tb) (wo_X6_spells cI cJ a_te a_tb v_te_length v_te_token v_te_place v_te_end v_te_value v_tb) o := by
  intro sz
  refine pa_met (cc := cX6_spells) (maxL := 3) (ret := (some .boolean)) (lv := [(0, .ref a_te), (1, .ref (g.2.2.1 x1))]) (by decide) rfl (Nat.le_of_ble_eq_true rfl) rfl ?_
  intro p e s m below meth c X hsz hP hD ls hl
  subst hsz
  exact w_X6_spells_b0 X hk2 hf hP hD va_S.rf hl
abbrev rm_X6_bitsOf : Room := { frames := 0, cells := 0, slots := 0, locals := 0 }
def f_X6_bitsOf (x0 : Int32) (x1 : Int32) (x2 : Int32) (x3 : Int32) : Option (Int32) :=
  if x0 = x1 then
    some (((x3 * (8 : Int32)) + x3))
  else
    if x0 = x2 then
      some ((x3 * (8 : Int32)))
    else
      if x0 = (120 : Int32) then
        some ((0 : Int32))
      else
        some ((-1 : Int32))
set_option maxHeartbeats 4000000 in
set_option maxRecDepth 100000 in
theorem w_X6_bitsOf_b0 {l : Launch} {D : va_G} {cI cJ : ClassId} {g : pa_GT} {A : Nat → Prop} {p : Program} {e : Env} {s : State} {m : MethodId} {args : Array Value} {below : List Frame} {meth : Method} {c : Code} {x0 : Int32} {x1 : Int32} {x2 : Int32} {x3 : Int32}  {o : Int32} (X : pa_X cX6_bitsOf 4 (some .int) RX6 wsX6_bitsOf D cI cJ g A p s m args meth c)  (hf : f_X6_bitsOf x0 x1 x2 x3 = some o) {H : Heap} {locs : List Loc} (hP : va_P D vwCl ([] : va_W) H) (hD : va_D A ([] : va_W)) (hS : va_S A s.heap H locs) {ls : Array Slot} (hl : lv_has ls 4 [(0, .int x0), (1, .int x1), (2, .int x2), (3, .int x3)]) : W p l e (headSpec wsX6_bitsOf rm_X6_bitsOf).room s m args below meth c H locs 0 0 (MQ below (va_Qi (fun r (_ : Unit) => r = o) (pa_QB D A ([] : va_W)) A) args s 0 0 A) (F0 m 0 ls []) := by
  obtain ⟨hx, hb, hr, hml, hown, hts, hK, hA, hG, hlk⟩ := id X
  delta f_X6_bitsOf at hf
  refine lv_iload_n hx hb dX6_bitsOf_0 rfl (lv_at hl 0 rfl) ?_
  refine lv_iload_n hx hb dX6_bitsOf_1 rfl (lv_at hl 1 rfl) ?_
  refine lv_icmp_ne (tgt := 12) hx hb dX6_bitsOf_2 (by decide) (fun c_1 => ?_) (fun c_1 => ?_)
  · have hf := (if_neg c_1).symm.trans hf
    refine lv_iload_n hx hb dX6_bitsOf_12 rfl (lv_at hl 0 rfl) ?_
    refine lv_iload_n hx hb dX6_bitsOf_13 rfl (lv_at hl 2 rfl) ?_
    refine lv_icmp_ne (tgt := 22) hx hb dX6_bitsOf_14 (by decide) (fun c_2 => ?_) (fun c_2 => ?_)
    · have hf := (if_neg c_2).symm.trans hf
      refine lv_iload_n hx hb dX6_bitsOf_22 rfl (lv_at hl 0 rfl) ?_
      refine lv_bipush (v := (120 : Int32)) hx hb dX6_bitsOf_23 (by decide) ?_
      refine lv_icmp_ne (tgt := 32) hx hb dX6_bitsOf_25 (by decide) (fun c_3 => ?_) (fun c_3 => ?_)
      · have hf := (if_neg c_3).symm.trans hf
        refine lv_iconst (v := (-1 : Int32)) hx hb dX6_bitsOf_32 (by decide) ?_
        obtain rfl := Option.some.inj hf
        exact pa_ei X hP hD hS dX6_bitsOf_33
      · have hf := (if_pos c_3).symm.trans hf
        refine lv_iconst (v := (0 : Int32)) hx hb dX6_bitsOf_28 (by decide) ?_
        refine lv_goto (tgt := 33) hx hb dX6_bitsOf_29 (by decide) ?_
        obtain rfl := Option.some.inj hf
        exact pa_ei X hP hD hS dX6_bitsOf_33
    · have hf := (if_pos c_2).symm.trans hf
      refine lv_iload_n hx hb dX6_bitsOf_17 rfl (lv_at hl 3 rfl) ?_
      refine lv_bipush (v := (8 : Int32)) hx hb dX6_bitsOf_18 (by decide) ?_
      refine lv_imul hx hb dX6_bitsOf_20 ?_
      obtain rfl := Option.some.inj hf
      exact pa_ei X hP hD hS dX6_bitsOf_21
  · have hf := (if_pos c_1).symm.trans hf
    refine lv_iload_n hx hb dX6_bitsOf_5 rfl (lv_at hl 3 rfl) ?_
    refine lv_bipush (v := (8 : Int32)) hx hb dX6_bitsOf_6 (by decide) ?_
    refine lv_imul hx hb dX6_bitsOf_8 ?_
    refine lv_iload_n hx hb dX6_bitsOf_9 rfl (lv_at hl 3 rfl) ?_
    refine lv_iadd hx hb dX6_bitsOf_10 ?_
    obtain rfl := Option.some.inj hf
    exact pa_ei X hP hD hS dX6_bitsOf_11
set_option maxHeartbeats 4000000 in
set_option maxRecDepth 100000 in
theorem c_X6_bitsOf {l : Launch} {D : va_G} {cI cJ : ClassId} {g : pa_GT} {x0 : Int32} {x1 : Int32} {x2 : Int32} {x3 : Int32}  {o : Int32} (hf : f_X6_bitsOf x0 x1 x2 x3 = some o) : pa_Mi l yX6_bitsOf wsX6_bitsOf rm_X6_bitsOf D cI cJ g [.int x0, .int x1, .int x2, .int x3] ([] : va_W) ([] : va_W) o := by
  intro sz
  refine pa_met (cc := cX6_bitsOf) (maxL := 4) (ret := (some .int)) (lv := [(0, .int x0), (1, .int x1), (2, .int x2), (3, .int x3)]) (by decide) rfl (Nat.le_of_ble_eq_true rfl) rfl ?_
  intro p e s m below meth c X hsz hP hD ls hl
  subst hsz
  exact w_X6_bitsOf_b0 X hf hP hD va_S.rf hl
abbrev wo_X6_pattern (cI cJ : ClassId) (a_te a_tb : Nat) (v_te_length : Int32) (v_te_token : Nat) (v_te_place : Int32) (v_te_end : Int32) (v_te_value : Int32) (v_tb : Nat → Int32) : va_W := [(a_te, .inr (6, [.ref a_tb, .int v_te_length, .ref v_te_token, .int v_te_place, .int v_te_end, .int v_te_value])), (a_tb, .inl (cI, 300, .inl v_tb))]
abbrev rm_X6_pattern : Room := { frames := 1, cells := 0, slots := 0, locals := 23 }
theorem il_X6_pattern_X6 : ∀ w ∈ wsX60, w ∈ wsX6_pattern := by decide +kernel
theorem fk_X6_pattern_0 : Cond.fieldLink RX6 31 "PostedAsks$Text" "end" "I" ∈ wsX6_pattern := by decide +kernel
theorem fk_X6_pattern_1 : Cond.fieldLink RX6 28 "PostedAsks$Text" "place" "I" ∈ wsX6_pattern := by decide +kernel
theorem fk_X6_pattern_2 : Cond.fieldLink RX6 9 "PostedAsks$Text" "bytes" "[I" ∈ wsX6_pattern := by decide +kernel
def f_X6_pattern (v_te_place : Int32) (v_te_end : Int32) (v_tb : Nat → Int32) : Option (Int32) :=
  if (v_te_end - v_te_place) = (3 : Int32) then
    if pa_ib v_te_place 300 = true then
      (f_X6_bitsOf (v_tb (Int32.toNatClampNeg v_te_place)) (114 : Int32) (112 : Int32) (2 : Int32)).bind fun u_3 =>
      if pa_ib (v_te_place + (1 : Int32)) 300 = true then
        (f_X6_bitsOf (v_tb (Int32.toNatClampNeg (v_te_place + (1 : Int32)))) (108 : Int32) (117 : Int32) (4 : Int32)).bind fun u_6 =>
        if pa_ib (v_te_place + (2 : Int32)) 300 = true then
          (f_X6_bitsOf (v_tb (Int32.toNatClampNeg (v_te_place + (2 : Int32)))) (121 : Int32) (110 : Int32) (1 : Int32)).bind fun u_9 =>
          if u_3 < 0 then
            some ((-1 : Int32))
          else
            if u_6 < 0 then
              some ((-1 : Int32))
            else
              if 0 ≤ u_9 then
                some (((u_3 + u_6) + u_9))
              else
                some ((-1 : Int32))
        else none
      else none
    else none
  else
    some ((-1 : Int32))
set_option maxHeartbeats 4000000 in
set_option maxRecDepth 100000 in
theorem w_X6_pattern_b0 {l : Launch} {D : va_G} {cI cJ : ClassId} {g : pa_GT} {a_te a_tb : Nat} {A : Nat → Prop} {p : Program} {e : Env} {s : State} {m : MethodId} {args : Array Value} {below : List Frame} {meth : Method} {c : Code} {v_te_place : Int32} {v_te_end : Int32} {v_tb : Nat → Int32} {v_te_length : Int32} {v_te_token : Nat} {v_te_value : Int32} {o : Int32} (X : pa_X cX6_pattern 4 (some .int) RX6 wsX6_pattern D cI cJ g A p s m args meth c)  (hf : f_X6_pattern v_te_place v_te_end v_tb = some o) {H : Heap} {locs : List Loc} (hP : va_P D vwCl (wo_X6_pattern cI cJ a_te a_tb v_te_length v_te_token v_te_place v_te_end v_te_value v_tb) H) (hD : va_D A (wo_X6_pattern cI cJ a_te a_tb v_te_length v_te_token v_te_place v_te_end v_te_value v_tb)) (hS : va_S A s.heap H locs) {ls : Array Slot} (hl : lv_has ls 4 [(0, .ref a_te)]) : W p l e (headSpec wsX6_pattern rm_X6_pattern).room s m args below meth c H locs 0 0 (MQ below (va_Qi (fun r (_ : Unit) => r = o) (pa_QB D A (wo_X6_pattern cI cJ a_te a_tb v_te_length v_te_token v_te_place v_te_end v_te_value v_tb)) A) args s 0 0 A) (F0 m 0 ls []) := by
  obtain ⟨hx, hb, hr, hml, hown, hts, hK, hA, hG, hlk⟩ := id X
  delta f_X6_pattern at hf
  refine lv_aload_n hx hb dX6_pattern_0 rfl (lv_at hl 0 rfl) ?_
  refine va_get (D := D) (ci := 6) (v := .int v_te_end) (C := RX6) (T := TX6) (N := 6) hx hb hts il_X6_pattern_X6 hown hK hP 0 rfl rfl 4 (by decide) (hts _ fk_X6_pattern_0) (fun _ h9 => h9) rfl dX6_pattern_1 ?_
  refine lv_aload_n hx hb dX6_pattern_4 rfl (lv_at hl 0 rfl) ?_
  refine va_get (D := D) (ci := 6) (v := .int v_te_place) (C := RX6) (T := TX6) (N := 6) hx hb hts il_X6_pattern_X6 hown hK hP 0 rfl rfl 3 (by decide) (hts _ fk_X6_pattern_1) (fun _ h9 => h9) rfl dX6_pattern_5 ?_
  refine lv_isub hx hb dX6_pattern_8 ?_
  refine lv_iconst (v := (3 : Int32)) hx hb dX6_pattern_9 (by decide) ?_
  refine lv_icmp_eq (tgt := 15) hx hb dX6_pattern_10 (by decide) (fun c_1 => ?_) (fun c_1 => ?_)
  · have hf := (if_pos c_1).symm.trans hf
    refine lv_aload_n hx hb dX6_pattern_15 rfl (lv_at hl 0 rfl) ?_
    refine va_get (D := D) (ci := 6) (v := .ref a_tb) (C := RX6) (T := TX6) (N := 6) hx hb hts il_X6_pattern_X6 hown hK hP 0 rfl rfl 0 (by decide) (hts _ fk_X6_pattern_2) (fun _ h9 => h9) rfl dX6_pattern_16 ?_
    refine lv_aload_n hx hb dX6_pattern_19 rfl (lv_at hl 0 rfl) ?_
    refine va_get (D := D) (ci := 6) (v := .int v_te_place) (C := RX6) (T := TX6) (N := 6) hx hb hts il_X6_pattern_X6 hown hK hP 0 rfl rfl 3 (by decide) (hts _ fk_X6_pattern_1) (fun _ h9 => h9) rfl dX6_pattern_20 ?_
    obtain ⟨hi_2, hf⟩ := pa_gd hf
    refine va_iald hx hb hK hP 1 0 rfl rfl hi_2 dX6_pattern_23 ?_
    refine lv_bipush (v := (114 : Int32)) hx hb dX6_pattern_24 (by decide) ?_
    refine lv_bipush (v := (112 : Int32)) hx hb dX6_pattern_26 (by decide) ?_
    refine lv_iconst (v := (2 : Int32)) hx hb dX6_pattern_28 (by decide) ?_
    obtain ⟨u_3, hg_4, hf⟩ := pa_bd hf
    refine pa_ki (wc := ([] : va_W)) (wr := [(a_te, .inr (6, [.ref a_tb, .int v_te_length, .ref v_te_token, .int v_te_place, .int v_te_end, .int v_te_value])), (a_tb, .inl (cI, 300, .inl v_tb))]) (w1 := ([] : va_W)) (w2 := (wo_X6_pattern cI cJ a_te a_tb v_te_length v_te_token v_te_place v_te_end v_te_value v_tb)) X hP hD hS [] [0, 1] [0, 1] rfl (pa_rS (As := [.int (v_tb (Int32.toNatClampNeg v_te_place)), .int (114 : Int32), .int (112 : Int32), .int (2 : Int32)]) (rest := []) X hP hD hS [] rfl rfl (c_X6_bitsOf hg_4 H.size) (va_cwS 4 hts gX6_pattern_X6_bitsOf rfl rfl rfl (by decide +kernel) ⟨Nat.le_of_ble_eq_true rfl, Nat.le_of_ble_eq_true rfl⟩) rfl hl.1 rfl (Nat.le_of_ble_eq_true rfl) dX6_pattern_29 ⟨Nat.zero_le _, Nat.zero_le _⟩) rfl rfl (by decide) rfl rfl (fun H locs hP hD hS => ?_)
    refine lv_istore_n (lv' := [(1, .int u_3), (0, .ref a_te)]) hx hb dX6_pattern_32 rfl hl (by decide) rfl (fun ls hl => ?_)
    refine lv_aload_n hx hb dX6_pattern_33 rfl (lv_at hl 1 rfl) ?_
    refine va_get (D := D) (ci := 6) (v := .ref a_tb) (C := RX6) (T := TX6) (N := 6) hx hb hts il_X6_pattern_X6 hown hK hP 0 rfl rfl 0 (by decide) (hts _ fk_X6_pattern_2) (fun _ h9 => h9) rfl dX6_pattern_34 ?_
    refine lv_aload_n hx hb dX6_pattern_37 rfl (lv_at hl 1 rfl) ?_
    refine va_get (D := D) (ci := 6) (v := .int v_te_place) (C := RX6) (T := TX6) (N := 6) hx hb hts il_X6_pattern_X6 hown hK hP 0 rfl rfl 3 (by decide) (hts _ fk_X6_pattern_1) (fun _ h9 => h9) rfl dX6_pattern_38 ?_
    refine lv_iconst (v := (1 : Int32)) hx hb dX6_pattern_41 (by decide) ?_
    refine lv_iadd hx hb dX6_pattern_42 ?_
    obtain ⟨hi_5, hf⟩ := pa_gd hf
    refine va_iald hx hb hK hP 1 0 rfl rfl hi_5 dX6_pattern_43 ?_
    refine lv_bipush (v := (108 : Int32)) hx hb dX6_pattern_44 (by decide) ?_
    refine lv_bipush (v := (117 : Int32)) hx hb dX6_pattern_46 (by decide) ?_
    refine lv_iconst (v := (4 : Int32)) hx hb dX6_pattern_48 (by decide) ?_
    obtain ⟨u_6, hg_7, hf⟩ := pa_bd hf
    refine pa_ki (wc := ([] : va_W)) (wr := [(a_te, .inr (6, [.ref a_tb, .int v_te_length, .ref v_te_token, .int v_te_place, .int v_te_end, .int v_te_value])), (a_tb, .inl (cI, 300, .inl v_tb))]) (w1 := ([] : va_W)) (w2 := (wo_X6_pattern cI cJ a_te a_tb v_te_length v_te_token v_te_place v_te_end v_te_value v_tb)) X hP hD hS [] [0, 1] [0, 1] rfl (pa_rS (As := [.int (v_tb (Int32.toNatClampNeg (v_te_place + (1 : Int32)))), .int (108 : Int32), .int (117 : Int32), .int (4 : Int32)]) (rest := []) X hP hD hS [] rfl rfl (c_X6_bitsOf hg_7 H.size) (va_cwS 4 hts gX6_pattern_X6_bitsOf rfl rfl rfl (by decide +kernel) ⟨Nat.le_of_ble_eq_true rfl, Nat.le_of_ble_eq_true rfl⟩) rfl hl.1 rfl (Nat.le_of_ble_eq_true rfl) dX6_pattern_49 ⟨Nat.zero_le _, Nat.zero_le _⟩) rfl rfl (by decide) rfl rfl (fun H locs hP hD hS => ?_)
    refine lv_istore_n (lv' := [(2, .int u_6), (1, .int u_3), (0, .ref a_te)]) hx hb dX6_pattern_52 rfl hl (by decide) rfl (fun ls hl => ?_)
    refine lv_aload_n hx hb dX6_pattern_53 rfl (lv_at hl 2 rfl) ?_
    refine va_get (D := D) (ci := 6) (v := .ref a_tb) (C := RX6) (T := TX6) (N := 6) hx hb hts il_X6_pattern_X6 hown hK hP 0 rfl rfl 0 (by decide) (hts _ fk_X6_pattern_2) (fun _ h9 => h9) rfl dX6_pattern_54 ?_
    refine lv_aload_n hx hb dX6_pattern_57 rfl (lv_at hl 2 rfl) ?_
    refine va_get (D := D) (ci := 6) (v := .int v_te_place) (C := RX6) (T := TX6) (N := 6) hx hb hts il_X6_pattern_X6 hown hK hP 0 rfl rfl 3 (by decide) (hts _ fk_X6_pattern_1) (fun _ h9 => h9) rfl dX6_pattern_58 ?_
    refine lv_iconst (v := (2 : Int32)) hx hb dX6_pattern_61 (by decide) ?_
    refine lv_iadd hx hb dX6_pattern_62 ?_
    obtain ⟨hi_8, hf⟩ := pa_gd hf
    refine va_iald hx hb hK hP 1 0 rfl rfl hi_8 dX6_pattern_63 ?_
    refine lv_bipush (v := (121 : Int32)) hx hb dX6_pattern_64 (by decide) ?_
    refine lv_bipush (v := (110 : Int32)) hx hb dX6_pattern_66 (by decide) ?_
    refine lv_iconst (v := (1 : Int32)) hx hb dX6_pattern_68 (by decide) ?_
    obtain ⟨u_9, hg_10, hf⟩ := pa_bd hf
    refine pa_ki (wc := ([] : va_W)) (wr := [(a_te, .inr (6, [.ref a_tb, .int v_te_length, .ref v_te_token, .int v_te_place, .int v_te_end, .int v_te_value])), (a_tb, .inl (cI, 300, .inl v_tb))]) (w1 := ([] : va_W)) (w2 := (wo_X6_pattern cI cJ a_te a_tb v_te_length v_te_token v_te_place v_te_end v_te_value v_tb)) X hP hD hS [] [0, 1] [0, 1] rfl (pa_rS (As := [.int (v_tb (Int32.toNatClampNeg (v_te_place + (2 : Int32)))), .int (121 : Int32), .int (110 : Int32), .int (1 : Int32)]) (rest := []) X hP hD hS [] rfl rfl (c_X6_bitsOf hg_10 H.size) (va_cwS 4 hts gX6_pattern_X6_bitsOf rfl rfl rfl (by decide +kernel) ⟨Nat.le_of_ble_eq_true rfl, Nat.le_of_ble_eq_true rfl⟩) rfl hl.1 rfl (Nat.le_of_ble_eq_true rfl) dX6_pattern_69 ⟨Nat.zero_le _, Nat.zero_le _⟩) rfl rfl (by decide) rfl rfl (fun H locs hP hD hS => ?_)
    refine lv_istore_n (lv' := [(3, .int u_9), (2, .int u_6), (1, .int u_3), (0, .ref a_te)]) hx hb dX6_pattern_72 rfl hl (by decide) rfl (fun ls hl => ?_)
    refine lv_iload_n hx hb dX6_pattern_73 rfl (lv_at hl 2 rfl) ?_
    refine lv_if_lt (tgt := 85) hx hb dX6_pattern_74 (by decide) (fun c_11 => ?_) (fun c_11 => ?_)
    · have hf := (if_pos c_11).symm.trans hf
      refine lv_iconst (v := (-1 : Int32)) hx hb dX6_pattern_85 (by decide) ?_
      refine lv_goto (tgt := 94) hx hb dX6_pattern_86 (by decide) ?_
      obtain rfl := Option.some.inj hf
      exact pa_ei X hP hD hS dX6_pattern_94
    · have hf := (if_neg c_11).symm.trans hf
      refine lv_iload_n hx hb dX6_pattern_77 rfl (lv_at hl 1 rfl) ?_
      refine lv_if_lt (tgt := 85) hx hb dX6_pattern_78 (by decide) (fun c_12 => ?_) (fun c_12 => ?_)
      · have hf := (if_pos c_12).symm.trans hf
        refine lv_iconst (v := (-1 : Int32)) hx hb dX6_pattern_85 (by decide) ?_
        refine lv_goto (tgt := 94) hx hb dX6_pattern_86 (by decide) ?_
        obtain rfl := Option.some.inj hf
        exact pa_ei X hP hD hS dX6_pattern_94
      · have hf := (if_neg c_12).symm.trans hf
        refine lv_iload_n hx hb dX6_pattern_81 rfl (lv_at hl 0 rfl) ?_
        refine lv_if_ge (tgt := 89) hx hb dX6_pattern_82 (by decide) (fun c_13 => ?_) (fun c_13 => ?_)
        · have hf := (if_pos c_13).symm.trans hf
          refine lv_iload_n hx hb dX6_pattern_89 rfl (lv_at hl 2 rfl) ?_
          refine lv_iload_n hx hb dX6_pattern_90 rfl (lv_at hl 1 rfl) ?_
          refine lv_iadd hx hb dX6_pattern_91 ?_
          refine lv_iload_n hx hb dX6_pattern_92 rfl (lv_at hl 0 rfl) ?_
          refine lv_iadd hx hb dX6_pattern_93 ?_
          obtain rfl := Option.some.inj hf
          exact pa_ei X hP hD hS dX6_pattern_94
        · have hf := (if_neg c_13).symm.trans hf
          refine lv_iconst (v := (-1 : Int32)) hx hb dX6_pattern_85 (by decide) ?_
          refine lv_goto (tgt := 94) hx hb dX6_pattern_86 (by decide) ?_
          obtain rfl := Option.some.inj hf
          exact pa_ei X hP hD hS dX6_pattern_94
  · have hf := (if_neg c_1).symm.trans hf
    refine lv_iconst (v := (-1 : Int32)) hx hb dX6_pattern_13 (by decide) ?_
    obtain rfl := Option.some.inj hf
    exact pa_ei X hP hD hS dX6_pattern_14
set_option maxHeartbeats 4000000 in
set_option maxRecDepth 100000 in
theorem c_X6_pattern {l : Launch} {D : va_G} {cI cJ : ClassId} {g : pa_GT} {a_te a_tb : Nat}  {v_te_length : Int32} {v_te_token : Nat} {v_te_place : Int32} {v_te_end : Int32} {v_te_value : Int32} {v_tb : Nat → Int32} {o : Int32} (hf : f_X6_pattern v_te_place v_te_end v_tb = some o) : pa_Mi l yX6_pattern wsX6_pattern rm_X6_pattern D cI cJ g [.ref a_te] (wo_X6_pattern cI cJ a_te a_tb v_te_length v_te_token v_te_place v_te_end v_te_value v_tb) (wo_X6_pattern cI cJ a_te a_tb v_te_length v_te_token v_te_place v_te_end v_te_value v_tb) o := by
  intro sz
  refine pa_met (cc := cX6_pattern) (maxL := 4) (ret := (some .int)) (lv := [(0, .ref a_te)]) (by decide) rfl (Nat.le_of_ble_eq_true rfl) rfl ?_
  intro p e s m below meth c X hsz hP hD ls hl
  subst hsz
  exact w_X6_pattern_b0 X hf hP hD va_S.rf hl
abbrev wo_X6_readWord (cI cJ : ClassId) (a_te a_tb : Nat) (v_te_length : Int32) (v_te_token : Nat) (v_te_place : Int32) (v_te_end : Int32) (v_te_value : Int32) (v_tb : Nat → Int32) : va_W := [(a_te, .inr (6, [.ref a_tb, .int v_te_length, .ref v_te_token, .int v_te_place, .int v_te_end, .int v_te_value])), (a_tb, .inl (cI, 300, .inl v_tb))]
abbrev rm_X6_readWord : Room := { frames := 5, cells := 0, slots := 0, locals := 107 }
theorem il_X6_readWord_X6 : ∀ w ∈ wsX60, w ∈ wsX6_readWord := by decide +kernel
theorem fk_X6_readWord_0 : Cond.fieldLink RX6 34 "PostedAsks$Text" "value" "I" ∈ wsX6_readWord := by decide +kernel
theorem fk_X6_readWord_1 : Cond.fieldLink RX6 74 "PostedAsks$Token" "PATTERN" "LPostedAsks$Token;" ∈ wsX6_readWord := by decide +kernel
theorem fk_X6_readWord_2 : Cond.fieldLink RX6 25 "PostedAsks$Text" "token" "LPostedAsks$Token;" ∈ wsX6_readWord := by decide +kernel
theorem fk_X6_readWord_3 : Cond.fieldLink RX6 53 "PostedAsks$Token" "WRONG" "LPostedAsks$Token;" ∈ wsX6_readWord := by decide +kernel
theorem fk_X6_readWord_4 : Cond.fieldLink RX6 67 "PostedAsks$Token" "ALL" "LPostedAsks$Token;" ∈ wsX6_readWord := by decide +kernel
theorem fk_X6_readWord_5 : Cond.fieldLink RX6 62 "PostedAsks$Token" "FIND" "LPostedAsks$Token;" ∈ wsX6_readWord := by decide +kernel
theorem fk_X6_readWord_6 : Cond.fieldLink RX6 31 "PostedAsks$Text" "end" "I" ∈ wsX6_readWord := by decide +kernel
theorem fk_X6_readWord_7 : Cond.fieldLink RX6 15 "PostedAsks$Text" "length" "I" ∈ wsX6_readWord := by decide +kernel
theorem fk_X6_readWord_8 : Cond.fieldLink RX6 9 "PostedAsks$Text" "bytes" "[I" ∈ wsX6_readWord := by decide +kernel
def f_X6_readWord_b39 (g : pa_GT) (v_te_place : Int32) (v_te_end : Int32) (v_te_value : Int32) (v_tb : Nat → Int32) : Option (Nat × Int32 × Int32) :=
  (f_X6_spells 0 v_te_place v_te_end v_tb).bind fun u_1 =>
  if u_1 = 0 then
    (f_X6_spells 1 v_te_place v_te_end v_tb).bind fun u_4 =>
    if u_4 = 0 then
      (f_X6_pattern v_te_place v_te_end v_tb).bind fun u_7 =>
      if 0 ≤ u_7 then
        some ((g.1 2), v_te_end, u_7)
      else
        some ((g.1 6), v_te_end, u_7)
    else
      some ((g.1 1), v_te_end, v_te_value)
  else
    some ((g.1 0), v_te_end, v_te_value)
def f_X6_readWord_L0_body (g : pa_GT) (v_te_length : Int32) (v_te_place : Int32) (v_te_value : Int32) (v_tb : Nat → Int32) (rec0 : Int32 → Option (Nat × Int32 × Int32)) (v_te_end : Int32) : Option (Nat × Int32 × Int32) :=
  if v_te_length ≤ v_te_end then
    f_X6_readWord_b39 g v_te_place v_te_end v_te_value v_tb
  else
    if pa_ib v_te_end 300 = true then
      (f_X6_isLetter (v_tb (Int32.toNatClampNeg v_te_end))).bind fun u_12 =>
      if u_12 = 0 then
        f_X6_readWord_b39 g v_te_place v_te_end v_te_value v_tb
      else
        rec0 (v_te_end + (1 : Int32))
    else none
def f_X6_readWord_L0 (g : pa_GT) (v_te_length : Int32) (v_te_place : Int32) (v_te_value : Int32) (v_tb : Nat → Int32) : Nat → Int32 → Option (Nat × Int32 × Int32)
  | 0 => fun _ => none
  | n + 1 => f_X6_readWord_L0_body g v_te_length v_te_place v_te_value v_tb (f_X6_readWord_L0 g v_te_length v_te_place v_te_value v_tb n)
def f_X6_readWord (g : pa_GT) (v_te_length : Int32) (v_te_place : Int32) (v_te_end : Int32) (v_te_value : Int32) (v_tb : Nat → Int32) : Option (Nat × Int32 × Int32) := f_X6_readWord_L0 g v_te_length v_te_place v_te_value v_tb pa_fu v_te_end
set_option maxHeartbeats 4000000 in
set_option maxRecDepth 100000 in
theorem w_X6_readWord_b39 {l : Launch} {D : va_G} {cI cJ : ClassId} {g : pa_GT} {a_te a_tb : Nat} {A : Nat → Prop} {p : Program} {e : Env} {s : State} {m : MethodId} {args : Array Value} {below : List Frame} {meth : Method} {c : Code} {v_te_place : Int32} {v_te_end : Int32} {v_te_value : Int32} {v_tb : Nat → Int32} {v_te_length : Int32} {v_te_token : Nat} {o : Nat × Int32 × Int32} (X : pa_X cX6_readWord 1 none RX6 wsX6_readWord D cI cJ g A p s m args meth c)  (hf : f_X6_readWord_b39 g v_te_place v_te_end v_te_value v_tb = some o) {H : Heap} {locs : List Loc} (hP : va_P D vwCl (wo_X6_readWord cI cJ a_te a_tb v_te_length v_te_token v_te_place v_te_end v_te_value v_tb) H) (hD : va_D A (wo_X6_readWord cI cJ a_te a_tb v_te_length v_te_token v_te_place v_te_end v_te_value v_tb)) (hS : va_S A s.heap H locs) {ls : Array Slot} (hl : lv_has ls 1 [(0, .ref a_te)]) : W p l e (headSpec wsX6_readWord rm_X6_readWord).room s m args below meth c H locs 0 0 (MQ below (va_Qv (fun (_ : Unit) => True) (pa_QB D A (wo_X6_readWord cI cJ a_te a_tb v_te_length o.1 v_te_place o.2.1 o.2.2 v_tb)) A) args s 0 0 A) (F0 m 39 ls []) := by
  obtain ⟨hx, hb, hr, hml, hown, hts, hK, hA, hG, hlk⟩ := id X
  delta f_X6_readWord_b39 at hf
  refine lv_aload_n hx hb dX6_readWord_39 rfl (lv_at hl 0 rfl) ?_
  refine va_ldcS (tx := "find") hx hb hown hG.2.2.2.1.1 dX6_readWord_40 ?_
  obtain ⟨u_1, hg_2, hf⟩ := pa_bd hf
  refine pa_ki (wc := (wo_X6_spells cI cJ a_te a_tb v_te_length v_te_token v_te_place v_te_end v_te_value v_tb)) (wr := ([] : va_W)) (w1 := (wo_X6_spells cI cJ a_te a_tb v_te_length v_te_token v_te_place v_te_end v_te_value v_tb)) (w2 := (wo_X6_readWord cI cJ a_te a_tb v_te_length v_te_token v_te_place v_te_end v_te_value v_tb)) X hP hD hS [0, 1] [] [0, 1] rfl (pa_rV (As := [.ref (g.2.2.1 0)]) (rest := []) (T := TX6) X hP hD hS [0, 1] rfl rfl (c_X6_spells (by decide) hg_2 H.size) (cwV 1 hts gX6_readWord_X6_spells rfl rfl rfl (by decide +kernel) ⟨Nat.le_of_ble_eq_true rfl, Nat.le_of_ble_eq_true rfl⟩) (q0 := 0) rfl rfl rfl hl.1 rfl (Nat.le_of_ble_eq_true rfl) dX6_readWord_42 ⟨Nat.zero_le _, Nat.zero_le _⟩) rfl rfl (by decide) rfl rfl (fun H locs hP hD hS => ?_)
  refine lv_if_eq (tgt := 58) hx hb dX6_readWord_45 (by decide) (fun c_3 => ?_) (fun c_3 => ?_)
  · have hf := (if_pos c_3).symm.trans hf
    refine lv_aload_n hx hb dX6_readWord_58 rfl (lv_at hl 0 rfl) ?_
    refine va_ldcS (tx := "all") hx hb hown hG.2.2.2.1.2 dX6_readWord_59 ?_
    obtain ⟨u_4, hg_5, hf⟩ := pa_bd hf
    refine pa_ki (wc := (wo_X6_spells cI cJ a_te a_tb v_te_length v_te_token v_te_place v_te_end v_te_value v_tb)) (wr := ([] : va_W)) (w1 := (wo_X6_spells cI cJ a_te a_tb v_te_length v_te_token v_te_place v_te_end v_te_value v_tb)) (w2 := (wo_X6_readWord cI cJ a_te a_tb v_te_length v_te_token v_te_place v_te_end v_te_value v_tb)) X hP hD hS [0, 1] [] [0, 1] rfl (pa_rV (As := [.ref (g.2.2.1 1)]) (rest := []) (T := TX6) X hP hD hS [0, 1] rfl rfl (c_X6_spells (by decide) hg_5 H.size) (cwV 1 hts gX6_readWord_X6_spells rfl rfl rfl (by decide +kernel) ⟨Nat.le_of_ble_eq_true rfl, Nat.le_of_ble_eq_true rfl⟩) (q0 := 0) rfl rfl rfl hl.1 rfl (Nat.le_of_ble_eq_true rfl) dX6_readWord_61 ⟨Nat.zero_le _, Nat.zero_le _⟩) rfl rfl (by decide) rfl rfl (fun H locs hP hD hS => ?_)
    refine lv_if_eq (tgt := 77) hx hb dX6_readWord_64 (by decide) (fun c_6 => ?_) (fun c_6 => ?_)
    · have hf := (if_pos c_6).symm.trans hf
      refine lv_aload_n hx hb dX6_readWord_77 rfl (lv_at hl 0 rfl) ?_
      refine lv_aload_n hx hb dX6_readWord_78 rfl (lv_at hl 0 rfl) ?_
      obtain ⟨u_7, hg_8, hf⟩ := pa_bd hf
      refine pa_ki (wc := (wo_X6_pattern cI cJ a_te a_tb v_te_length v_te_token v_te_place v_te_end v_te_value v_tb)) (wr := ([] : va_W)) (w1 := (wo_X6_pattern cI cJ a_te a_tb v_te_length v_te_token v_te_place v_te_end v_te_value v_tb)) (w2 := (wo_X6_readWord cI cJ a_te a_tb v_te_length v_te_token v_te_place v_te_end v_te_value v_tb)) X hP hD hS [0, 1] [] [0, 1] rfl (pa_rV (As := []) (rest := [.ref a_te]) (T := TX6) X hP hD hS [0, 1] rfl rfl (c_X6_pattern hg_8 H.size) (cwV 0 hts gX6_readWord_X6_pattern rfl rfl rfl (by decide +kernel) ⟨Nat.le_of_ble_eq_true rfl, Nat.le_of_ble_eq_true rfl⟩) (q0 := 0) rfl rfl rfl hl.1 rfl (Nat.le_of_ble_eq_true rfl) dX6_readWord_79 ⟨Nat.zero_le _, Nat.zero_le _⟩) rfl rfl (by decide) rfl rfl (fun H locs hP hD hS => ?_)
      refine va_put (D := D) (ci := 6) (v := .int u_7) (ty := .int) (C := RX6) (T := TX6) (N := 6) hx hb hts il_X6_readWord_X6 tyX6 tyX6_ok nmX6 hown hK hP hD hS 0 rfl rfl 5 (by decide) (hts _ fk_X6_readWord_0) (fun _ h9 => h9) rfl (tyX6_ok 5 (by decide)) rfl rfl (Nat.le_of_ble_eq_true rfl) dX6_readWord_82 (fun H locs hP hD hS => ?_)
      have hP : va_P D vwCl (wo_X6_readWord cI cJ a_te a_tb v_te_length v_te_token v_te_place v_te_end u_7 v_tb) H := hP
      have hD : va_D A (wo_X6_readWord cI cJ a_te a_tb v_te_length v_te_token v_te_place v_te_end u_7 v_tb) := hD
      refine lv_aload_n hx hb dX6_readWord_85 rfl (lv_at hl 0 rfl) ?_
      refine lv_aload_n hx hb dX6_readWord_86 rfl (lv_at hl 0 rfl) ?_
      refine va_get (D := D) (ci := 6) (v := .int u_7) (C := RX6) (T := TX6) (N := 6) hx hb hts il_X6_readWord_X6 hown hK hP 0 rfl rfl 5 (by decide) (hts _ fk_X6_readWord_0) (fun _ h9 => h9) rfl dX6_readWord_87 ?_
      refine lv_if_ge (tgt := 99) hx hb dX6_readWord_90 (by decide) (fun c_9 => ?_) (fun c_9 => ?_)
      · have hf := (if_pos c_9).symm.trans hf
        refine va_gets (C := "PostedAsks$Token") hx hb (hG.2.1.1 2 (by decide)).1 hS hown (hts _ fk_X6_readWord_1) (fun _ h9 => h9) dX6_readWord_99 ?_
        refine va_put (D := D) (ci := 6) (v := .ref (g.1 2)) (ty := .object "PostedAsks$Token") (C := RX6) (T := TX6) (N := 6) hx hb hts il_X6_readWord_X6 tyX6 tyX6_ok nmX6 hown hK hP hD hS 0 rfl rfl 2 (by decide) (hts _ fk_X6_readWord_2) (fun _ h9 => h9) rfl (tyX6_ok 2 (by decide)) rfl rfl (Nat.le_of_ble_eq_true rfl) dX6_readWord_102 (fun H locs hP hD hS => ?_)
        have hP : va_P D vwCl (wo_X6_readWord cI cJ a_te a_tb v_te_length (g.1 2) v_te_place v_te_end u_7 v_tb) H := hP
        have hD : va_D A (wo_X6_readWord cI cJ a_te a_tb v_te_length (g.1 2) v_te_place v_te_end u_7 v_tb) := hD
        obtain rfl := Option.some.inj hf
        exact pa_ev X hP hD hS dX6_readWord_105
      · have hf := (if_neg c_9).symm.trans hf
        refine va_gets (C := "PostedAsks$Token") hx hb (hG.2.1.1 6 (by decide)).1 hS hown (hts _ fk_X6_readWord_3) (fun _ h9 => h9) dX6_readWord_93 ?_
        refine lv_goto (tgt := 102) hx hb dX6_readWord_96 (by decide) ?_
        refine va_put (D := D) (ci := 6) (v := .ref (g.1 6)) (ty := .object "PostedAsks$Token") (C := RX6) (T := TX6) (N := 6) hx hb hts il_X6_readWord_X6 tyX6 tyX6_ok nmX6 hown hK hP hD hS 0 rfl rfl 2 (by decide) (hts _ fk_X6_readWord_2) (fun _ h9 => h9) rfl (tyX6_ok 2 (by decide)) rfl rfl (Nat.le_of_ble_eq_true rfl) dX6_readWord_102 (fun H locs hP hD hS => ?_)
        have hP : va_P D vwCl (wo_X6_readWord cI cJ a_te a_tb v_te_length (g.1 6) v_te_place v_te_end u_7 v_tb) H := hP
        have hD : va_D A (wo_X6_readWord cI cJ a_te a_tb v_te_length (g.1 6) v_te_place v_te_end u_7 v_tb) := hD
        obtain rfl := Option.some.inj hf
        exact pa_ev X hP hD hS dX6_readWord_105
    · have hf := (if_neg c_6).symm.trans hf
      refine lv_aload_n hx hb dX6_readWord_67 rfl (lv_at hl 0 rfl) ?_
      refine va_gets (C := "PostedAsks$Token") hx hb (hG.2.1.1 1 (by decide)).1 hS hown (hts _ fk_X6_readWord_4) (fun _ h9 => h9) dX6_readWord_68 ?_
      refine va_put (D := D) (ci := 6) (v := .ref (g.1 1)) (ty := .object "PostedAsks$Token") (C := RX6) (T := TX6) (N := 6) hx hb hts il_X6_readWord_X6 tyX6 tyX6_ok nmX6 hown hK hP hD hS 0 rfl rfl 2 (by decide) (hts _ fk_X6_readWord_2) (fun _ h9 => h9) rfl (tyX6_ok 2 (by decide)) rfl rfl (Nat.le_of_ble_eq_true rfl) dX6_readWord_71 (fun H locs hP hD hS => ?_)
      have hP : va_P D vwCl (wo_X6_readWord cI cJ a_te a_tb v_te_length (g.1 1) v_te_place v_te_end v_te_value v_tb) H := hP
      have hD : va_D A (wo_X6_readWord cI cJ a_te a_tb v_te_length (g.1 1) v_te_place v_te_end v_te_value v_tb) := hD
      refine lv_goto (tgt := 105) hx hb dX6_readWord_74 (by decide) ?_
      obtain rfl := Option.some.inj hf
      exact pa_ev X hP hD hS dX6_readWord_105
  · have hf := (if_neg c_3).symm.trans hf
    refine lv_aload_n hx hb dX6_readWord_48 rfl (lv_at hl 0 rfl) ?_
    refine va_gets (C := "PostedAsks$Token") hx hb (hG.2.1.1 0 (by decide)).1 hS hown (hts _ fk_X6_readWord_5) (fun _ h9 => h9) dX6_readWord_49 ?_
    refine va_put (D := D) (ci := 6) (v := .ref (g.1 0)) (ty := .object "PostedAsks$Token") (C := RX6) (T := TX6) (N := 6) hx hb hts il_X6_readWord_X6 tyX6 tyX6_ok nmX6 hown hK hP hD hS 0 rfl rfl 2 (by decide) (hts _ fk_X6_readWord_2) (fun _ h9 => h9) rfl (tyX6_ok 2 (by decide)) rfl rfl (Nat.le_of_ble_eq_true rfl) dX6_readWord_52 (fun H locs hP hD hS => ?_)
    have hP : va_P D vwCl (wo_X6_readWord cI cJ a_te a_tb v_te_length (g.1 0) v_te_place v_te_end v_te_value v_tb) H := hP
    have hD : va_D A (wo_X6_readWord cI cJ a_te a_tb v_te_length (g.1 0) v_te_place v_te_end v_te_value v_tb) := hD
    refine lv_goto (tgt := 105) hx hb dX6_readWord_55 (by decide) ?_
    obtain rfl := Option.some.inj hf
    exact pa_ev X hP hD hS dX6_readWord_105
set_option maxHeartbeats 4000000 in
set_option maxRecDepth 100000 in
theorem w_X6_readWord_L0 {l : Launch} {D : va_G} {cI cJ : ClassId} {g : pa_GT} {a_te a_tb : Nat} {A : Nat → Prop} {p : Program} {e : Env} {s : State} {m : MethodId} {args : Array Value} {below : List Frame} {meth : Method} {c : Code} {v_te_length : Int32} {v_te_place : Int32} {v_te_value : Int32} {v_tb : Nat → Int32}  {o : Nat × Int32 × Int32} (X : pa_X cX6_readWord 1 none RX6 wsX6_readWord D cI cJ g A p s m args meth c)  : ∀ (n : Nat) (v_te_end : Int32), f_X6_readWord_L0 g v_te_length v_te_place v_te_value v_tb n v_te_end = some o → ∀ (H : Heap) (locs : List Loc) (v_te_token : Nat), va_P D vwCl (wo_X6_readWord cI cJ a_te a_tb v_te_length v_te_token v_te_place v_te_end v_te_value v_tb) H → va_D A (wo_X6_readWord cI cJ a_te a_tb v_te_length v_te_token v_te_place v_te_end v_te_value v_tb) → va_S A s.heap H locs → ∀ (ls : Array Slot), lv_has ls 1 [(0, .ref a_te)] → W p l e (headSpec wsX6_readWord rm_X6_readWord).room s m args below meth c H locs 0 0 (MQ below (va_Qv (fun (_ : Unit) => True) (pa_QB D A (wo_X6_readWord cI cJ a_te a_tb v_te_length o.1 v_te_place o.2.1 o.2.2 v_tb)) A) args s 0 0 A) (F0 m 0 ls []) := by
  obtain ⟨hx, hb, hr, hml, hown, hts, hK, hA, hG, hlk⟩ := id X
  intro n
  induction n with
  | zero =>
    intro v_te_end hf
    have hf : (none : Option (Nat × Int32 × Int32)) = some o := hf
    cases hf
  | succ n hrec0 =>
    intro v_te_end hf H locs v_te_token hP hD hS ls hl
    have hf : f_X6_readWord_L0_body g v_te_length v_te_place v_te_value v_tb (f_X6_readWord_L0 g v_te_length v_te_place v_te_value v_tb n) v_te_end = some o := hf
    delta f_X6_readWord_L0_body at hf
    generalize hgr : f_X6_readWord_L0 g v_te_length v_te_place v_te_value v_tb n = rec0 at hf hrec0
    refine lv_aload_n hx hb dX6_readWord_0 rfl (lv_at hl 0 rfl) ?_
    refine va_get (D := D) (ci := 6) (v := .int v_te_end) (C := RX6) (T := TX6) (N := 6) hx hb hts il_X6_readWord_X6 hown hK hP 0 rfl rfl 4 (by decide) (hts _ fk_X6_readWord_6) (fun _ h9 => h9) rfl dX6_readWord_1 ?_
    refine lv_aload_n hx hb dX6_readWord_4 rfl (lv_at hl 0 rfl) ?_
    refine va_get (D := D) (ci := 6) (v := .int v_te_length) (C := RX6) (T := TX6) (N := 6) hx hb hts il_X6_readWord_X6 hown hK hP 0 rfl rfl 1 (by decide) (hts _ fk_X6_readWord_7) (fun _ h9 => h9) rfl dX6_readWord_5 ?_
    refine lv_icmp_ge (tgt := 39) hx hb dX6_readWord_8 (by decide) (fun c_10 => ?_) (fun c_10 => ?_)
    · have hf := (if_pos c_10).symm.trans hf
      exact w_X6_readWord_b39 X  hf hP hD hS (lv_sub hl [0] rfl)
    · have hf := (if_neg c_10).symm.trans hf
      refine lv_aload_n hx hb dX6_readWord_11 rfl (lv_at hl 0 rfl) ?_
      refine va_get (D := D) (ci := 6) (v := .ref a_tb) (C := RX6) (T := TX6) (N := 6) hx hb hts il_X6_readWord_X6 hown hK hP 0 rfl rfl 0 (by decide) (hts _ fk_X6_readWord_8) (fun _ h9 => h9) rfl dX6_readWord_12 ?_
      refine lv_aload_n hx hb dX6_readWord_15 rfl (lv_at hl 0 rfl) ?_
      refine va_get (D := D) (ci := 6) (v := .int v_te_end) (C := RX6) (T := TX6) (N := 6) hx hb hts il_X6_readWord_X6 hown hK hP 0 rfl rfl 4 (by decide) (hts _ fk_X6_readWord_6) (fun _ h9 => h9) rfl dX6_readWord_16 ?_
      obtain ⟨hi_11, hf⟩ := pa_gd hf
      refine va_iald hx hb hK hP 1 0 rfl rfl hi_11 dX6_readWord_19 ?_
      obtain ⟨u_12, hg_13, hf⟩ := pa_bd hf
      refine pa_ki (wc := ([] : va_W)) (wr := [(a_te, .inr (6, [.ref a_tb, .int v_te_length, .ref v_te_token, .int v_te_place, .int v_te_end, .int v_te_value])), (a_tb, .inl (cI, 300, .inl v_tb))]) (w1 := ([] : va_W)) (w2 := (wo_X6_readWord cI cJ a_te a_tb v_te_length v_te_token v_te_place v_te_end v_te_value v_tb)) X hP hD hS [] [0, 1] [0, 1] rfl (pa_rS (As := [.int (v_tb (Int32.toNatClampNeg v_te_end))]) (rest := []) X hP hD hS [] rfl rfl (c_X6_isLetter hg_13 H.size) (va_cwS 1 hts gX6_readWord_X6_isLetter rfl rfl rfl (by decide +kernel) ⟨Nat.le_of_ble_eq_true rfl, Nat.le_of_ble_eq_true rfl⟩) rfl hl.1 rfl (Nat.le_of_ble_eq_true rfl) dX6_readWord_20 ⟨Nat.zero_le _, Nat.zero_le _⟩) rfl rfl (by decide) rfl rfl (fun H locs hP hD hS => ?_)
      refine lv_if_eq (tgt := 39) hx hb dX6_readWord_23 (by decide) (fun c_14 => ?_) (fun c_14 => ?_)
      · have hf := (if_pos c_14).symm.trans hf
        exact w_X6_readWord_b39 X  hf hP hD hS (lv_sub hl [0] rfl)
      · have hf := (if_neg c_14).symm.trans hf
        refine lv_aload_n hx hb dX6_readWord_26 rfl (lv_at hl 0 rfl) ?_
        refine lv_dup hx hb dX6_readWord_27 rfl ?_
        refine va_get (D := D) (ci := 6) (v := .int v_te_end) (C := RX6) (T := TX6) (N := 6) hx hb hts il_X6_readWord_X6 hown hK hP 0 rfl rfl 4 (by decide) (hts _ fk_X6_readWord_6) (fun _ h9 => h9) rfl dX6_readWord_28 ?_
        refine lv_iconst (v := (1 : Int32)) hx hb dX6_readWord_31 (by decide) ?_
        refine lv_iadd hx hb dX6_readWord_32 ?_
        refine va_put (D := D) (ci := 6) (v := .int (v_te_end + (1 : Int32))) (ty := .int) (C := RX6) (T := TX6) (N := 6) hx hb hts il_X6_readWord_X6 tyX6 tyX6_ok nmX6 hown hK hP hD hS 0 rfl rfl 4 (by decide) (hts _ fk_X6_readWord_6) (fun _ h9 => h9) rfl (tyX6_ok 4 (by decide)) rfl rfl (Nat.le_of_ble_eq_true rfl) dX6_readWord_33 (fun H locs hP hD hS => ?_)
        have hP : va_P D vwCl (wo_X6_readWord cI cJ a_te a_tb v_te_length v_te_token v_te_place (v_te_end + (1 : Int32)) v_te_value v_tb) H := hP
        have hD : va_D A (wo_X6_readWord cI cJ a_te a_tb v_te_length v_te_token v_te_place (v_te_end + (1 : Int32)) v_te_value v_tb) := hD
        refine lv_goto (tgt := 0) hx hb dX6_readWord_36 (by decide) ?_
        exact hrec0 _ hf _ _ _ hP hD hS _ (lv_sub hl [0] rfl)
set_option maxHeartbeats 4000000 in
set_option maxRecDepth 100000 in
theorem c_X6_readWord {l : Launch} {D : va_G} {cI cJ : ClassId} {g : pa_GT} {a_te a_tb : Nat}  {v_te_length : Int32} {v_te_token : Nat} {v_te_place : Int32} {v_te_end : Int32} {v_te_value : Int32} {v_tb : Nat → Int32} {o : Nat × Int32 × Int32} (hf : f_X6_readWord g v_te_length v_te_place v_te_end v_te_value v_tb = some o) : pa_Mv l yX6_readWord wsX6_readWord rm_X6_readWord D cI cJ g [.ref a_te] (wo_X6_readWord cI cJ a_te a_tb v_te_length v_te_token v_te_place v_te_end v_te_value v_tb) (wo_X6_readWord cI cJ a_te a_tb v_te_length o.1 v_te_place o.2.1 o.2.2 v_tb) := by
  intro sz
  refine pa_met (cc := cX6_readWord) (maxL := 1) (ret := none) (lv := [(0, .ref a_te)]) (by decide) rfl (Nat.le_of_ble_eq_true rfl) rfl ?_
  intro p e s m below meth c X hsz hP hD ls hl
  subst hsz
  exact w_X6_readWord_L0 X pa_fu _ hf _ _ _ hP hD va_S.rf _ (lv_sub hl [0] rfl)
abbrev rm_X6_isDigit : Room := { frames := 0, cells := 0, slots := 0, locals := 0 }
def f_X6_isDigit (x0 : Int32) : Option (Int32) :=
  if x0 < (48 : Int32) then
    some ((0 : Int32))
  else
    if (57 : Int32) < x0 then
      some ((0 : Int32))
    else
      some ((1 : Int32))
set_option maxHeartbeats 4000000 in
set_option maxRecDepth 100000 in
theorem w_X6_isDigit_b0 {l : Launch} {D : va_G} {cI cJ : ClassId} {g : pa_GT} {A : Nat → Prop} {p : Program} {e : Env} {s : State} {m : MethodId} {args : Array Value} {below : List Frame} {meth : Method} {c : Code} {x0 : Int32}  {o : Int32} (X : pa_X cX6_isDigit 1 (some .boolean) RX6 wsX6_isDigit D cI cJ g A p s m args meth c)  (hf : f_X6_isDigit x0 = some o) {H : Heap} {locs : List Loc} (hP : va_P D vwCl ([] : va_W) H) (hD : va_D A ([] : va_W)) (hS : va_S A s.heap H locs) {ls : Array Slot} (hl : lv_has ls 1 [(0, .int x0)]) : W p l e (headSpec wsX6_isDigit rm_X6_isDigit).room s m args below meth c H locs 0 0 (MQ below (va_Qi (fun r (_ : Unit) => r = o) (pa_QB D A ([] : va_W)) A) args s 0 0 A) (F0 m 0 ls []) := by
  obtain ⟨hx, hb, hr, hml, hown, hts, hK, hA, hG, hlk⟩ := id X
  delta f_X6_isDigit at hf
  refine lv_iload_n hx hb dX6_isDigit_0 rfl (lv_at hl 0 rfl) ?_
  refine lv_bipush (v := (48 : Int32)) hx hb dX6_isDigit_1 (by decide) ?_
  refine lv_icmp_lt (tgt := 16) hx hb dX6_isDigit_3 (by decide) (fun c_1 => ?_) (fun c_1 => ?_)
  · have hf := (if_pos c_1).symm.trans hf
    refine lv_iconst (v := (0 : Int32)) hx hb dX6_isDigit_16 (by decide) ?_
    obtain rfl := Option.some.inj hf
    exact pa_ez (v := (0 : Int32)) X hP hD hS rfl dX6_isDigit_17
  · have hf := (if_neg c_1).symm.trans hf
    refine lv_iload_n hx hb dX6_isDigit_6 rfl (lv_at hl 0 rfl) ?_
    refine lv_bipush (v := (57 : Int32)) hx hb dX6_isDigit_7 (by decide) ?_
    refine lv_icmp_gt (tgt := 16) hx hb dX6_isDigit_9 (by decide) (fun c_2 => ?_) (fun c_2 => ?_)
    · have hf := (if_pos c_2).symm.trans hf
      refine lv_iconst (v := (0 : Int32)) hx hb dX6_isDigit_16 (by decide) ?_
      obtain rfl := Option.some.inj hf
      exact pa_ez (v := (0 : Int32)) X hP hD hS rfl dX6_isDigit_17
    · have hf := (if_neg c_2).symm.trans hf
      refine lv_iconst (v := (1 : Int32)) hx hb dX6_isDigit_12 (by decide) ?_
      refine lv_goto (tgt := 17) hx hb dX6_isDigit_13 (by decide) ?_
      obtain rfl := Option.some.inj hf
      exact pa_ez (v := (1 : Int32)) X hP hD hS rfl dX6_isDigit_17
set_option maxHeartbeats 4000000 in
set_option maxRecDepth 100000 in
theorem c_X6_isDigit {l : Launch} {D : va_G} {cI cJ : ClassId} {g : pa_GT} {x0 : Int32}  {o : Int32} (hf : f_X6_isDigit x0 = some o) : pa_Mi l yX6_isDigit wsX6_isDigit rm_X6_isDigit D cI cJ g [.int x0] ([] : va_W) ([] : va_W) o := by
  intro sz
  refine pa_met (cc := cX6_isDigit) (maxL := 1) (ret := (some .boolean)) (lv := [(0, .int x0)]) (by decide) rfl (Nat.le_of_ble_eq_true rfl) rfl ?_
  intro p e s m below meth c X hsz hP hD ls hl
  subst hsz
  exact w_X6_isDigit_b0 X hf hP hD va_S.rf hl
abbrev wo_X6_readNumber (cI cJ : ClassId) (a_te a_tb : Nat) (v_te_length : Int32) (v_te_token : Nat) (v_te_place : Int32) (v_te_end : Int32) (v_te_value : Int32) (v_tb : Nat → Int32) : va_W := [(a_te, .inr (6, [.ref a_tb, .int v_te_length, .ref v_te_token, .int v_te_place, .int v_te_end, .int v_te_value])), (a_tb, .inl (cI, 300, .inl v_tb))]
abbrev rm_X6_readNumber : Room := { frames := 1, cells := 0, slots := 0, locals := 20 }
theorem il_X6_readNumber_X6 : ∀ w ∈ wsX60, w ∈ wsX6_readNumber := by decide +kernel
theorem fk_X6_readNumber_0 : Cond.fieldLink RX6 83 "PostedAsks$Token" "NUMBER" "LPostedAsks$Token;" ∈ wsX6_readNumber := by decide +kernel
theorem fk_X6_readNumber_1 : Cond.fieldLink RX6 25 "PostedAsks$Text" "token" "LPostedAsks$Token;" ∈ wsX6_readNumber := by decide +kernel
theorem fk_X6_readNumber_2 : Cond.fieldLink RX6 53 "PostedAsks$Token" "WRONG" "LPostedAsks$Token;" ∈ wsX6_readNumber := by decide +kernel
theorem fk_X6_readNumber_3 : Cond.fieldLink RX6 34 "PostedAsks$Text" "value" "I" ∈ wsX6_readNumber := by decide +kernel
theorem fk_X6_readNumber_4 : Cond.fieldLink RX6 31 "PostedAsks$Text" "end" "I" ∈ wsX6_readNumber := by decide +kernel
theorem fk_X6_readNumber_5 : Cond.fieldLink RX6 28 "PostedAsks$Text" "place" "I" ∈ wsX6_readNumber := by decide +kernel
theorem fk_X6_readNumber_6 : Cond.fieldLink RX6 15 "PostedAsks$Text" "length" "I" ∈ wsX6_readNumber := by decide +kernel
theorem fk_X6_readNumber_7 : Cond.fieldLink RX6 9 "PostedAsks$Text" "bytes" "[I" ∈ wsX6_readNumber := by decide +kernel
theorem fk_X6_readNumber_8 : Cond.methodLink RX6 77 Lib.Math.min.name ∈ wsX6_readNumber := by decide +kernel
theorem fk_X6_readNumber_9 : Cond.static Lib.Math.min.name ∈ wsX6_readNumber := by decide +kernel
theorem fk_X6_readNumber_10 : Cond.initialized "java/lang/Math" ∈ wsX6_readNumber := by decide +kernel
theorem fk_X6_readNumber_11 : Cond.code Lib.Math.min.name Lib.Math.min.code 2 (some .int) ∈ wsX6_readNumber := by decide +kernel
def f_X6_readNumber_b119 (g : pa_GT) (s0 : Int32) (v_te_end : Int32) (v_te_value : Int32) : Option (Nat × Int32 × Int32) :=
  if s0 = 0 then
    some ((g.1 3), v_te_end, v_te_value)
  else
    some ((g.1 6), v_te_end, v_te_value)
def f_X6_readNumber_b118 (g : pa_GT) (v_te_end : Int32) (v_te_value : Int32) : Option (Nat × Int32 × Int32) :=
  f_X6_readNumber_b119 g (0 : Int32) v_te_end v_te_value
def f_X6_readNumber_b114 (g : pa_GT) (v_te_end : Int32) (v_te_value : Int32) : Option (Nat × Int32 × Int32) :=
  f_X6_readNumber_b119 g (1 : Int32) v_te_end v_te_value
def f_X6_readNumber_b88 (g : pa_GT) (x1 : Int32) (v_te_place : Int32) (v_te_end : Int32) (v_te_value : Int32) : Option (Nat × Int32 × Int32) :=
  if (99 : Int32) < v_te_value then
    f_X6_readNumber_b114 g v_te_end v_te_value
  else
    if x1 = 0 then
      f_X6_readNumber_b118 g v_te_end v_te_value
    else
      if (v_te_end - v_te_place) ≤ (1 : Int32) then
        f_X6_readNumber_b118 g v_te_end v_te_value
      else
        f_X6_readNumber_b114 g v_te_end v_te_value
def f_X6_readNumber_L20_body (g : pa_GT) (x1 : Int32) (v_te_length : Int32) (v_te_place : Int32) (v_tb : Nat → Int32) (rec20 : Int32 → Int32 → Option (Nat × Int32 × Int32)) (v_te_end : Int32) (v_te_value : Int32) : Option (Nat × Int32 × Int32) :=
  if v_te_length ≤ v_te_end then
    f_X6_readNumber_b88 g x1 v_te_place v_te_end v_te_value
  else
    if pa_ib v_te_end 300 = true then
      (f_X6_isDigit (v_tb (Int32.toNatClampNeg v_te_end))).bind fun u_7 =>
      if u_7 = 0 then
        f_X6_readNumber_b88 g x1 v_te_place v_te_end v_te_value
      else
        rec20 (v_te_end + (1 : Int32)) (if (((v_te_value * (10 : Int32)) + (v_tb (Int32.toNatClampNeg v_te_end))) - (48 : Int32)) < (100 : Int32) then (((v_te_value * (10 : Int32)) + (v_tb (Int32.toNatClampNeg v_te_end))) - (48 : Int32)) else (100 : Int32))
    else none
def f_X6_readNumber_L20 (g : pa_GT) (x1 : Int32) (v_te_length : Int32) (v_te_place : Int32) (v_tb : Nat → Int32) : Nat → Int32 → Int32 → Option (Nat × Int32 × Int32)
  | 0 => fun _ _ => none
  | n + 1 => f_X6_readNumber_L20_body g x1 v_te_length v_te_place v_tb (f_X6_readNumber_L20 g x1 v_te_length v_te_place v_tb n)
def f_X6_readNumber (g : pa_GT) (v_te_length : Int32) (v_te_place : Int32) (v_te_end : Int32) (v_te_value : Int32) (v_tb : Nat → Int32) : Option (Nat × Int32 × Int32) :=
  if pa_ib v_te_place 300 = true then
    if (v_tb (Int32.toNatClampNeg v_te_place)) = (48 : Int32) then
      f_X6_readNumber_L20 g (1 : Int32) v_te_length v_te_place v_tb pa_fu v_te_end v_te_value
    else
      f_X6_readNumber_L20 g (0 : Int32) v_te_length v_te_place v_tb pa_fu v_te_end v_te_value
  else none
set_option maxHeartbeats 4000000 in
set_option maxRecDepth 100000 in
theorem w_X6_readNumber_b119 {l : Launch} {D : va_G} {cI cJ : ClassId} {g : pa_GT} {a_te a_tb : Nat} {A : Nat → Prop} {p : Program} {e : Env} {s : State} {m : MethodId} {args : Array Value} {below : List Frame} {meth : Method} {c : Code} {s0 : Int32} {v_te_end : Int32} {v_te_value : Int32} {v_te_length : Int32} {v_te_token : Nat} {v_te_place : Int32} {v_tb : Nat → Int32} {o : Nat × Int32 × Int32} (X : pa_X cX6_readNumber 3 none RX6 wsX6_readNumber D cI cJ g A p s m args meth c)  (hf : f_X6_readNumber_b119 g s0 v_te_end v_te_value = some o) {H : Heap} {locs : List Loc} (hP : va_P D vwCl (wo_X6_readNumber cI cJ a_te a_tb v_te_length v_te_token v_te_place v_te_end v_te_value v_tb) H) (hD : va_D A (wo_X6_readNumber cI cJ a_te a_tb v_te_length v_te_token v_te_place v_te_end v_te_value v_tb)) (hS : va_S A s.heap H locs) {ls : Array Slot} (hl : lv_has ls 3 [(0, .ref a_te)]) : W p l e (headSpec wsX6_readNumber rm_X6_readNumber).room s m args below meth c H locs 0 0 (MQ below (va_Qv (fun (_ : Unit) => True) (pa_QB D A (wo_X6_readNumber cI cJ a_te a_tb v_te_length o.1 v_te_place o.2.1 o.2.2 v_tb)) A) args s 0 0 A) (F0 m 119 ls [.int s0]) := by
  obtain ⟨hx, hb, hr, hml, hown, hts, hK, hA, hG, hlk⟩ := id X
  delta f_X6_readNumber_b119 at hf
  refine lv_istore_n (lv' := [(2, .int s0), (0, .ref a_te)]) hx hb dX6_readNumber_119 rfl hl (by decide) rfl (fun ls hl => ?_)
  refine lv_aload_n hx hb dX6_readNumber_120 rfl (lv_at hl 1 rfl) ?_
  refine lv_iload_n hx hb dX6_readNumber_121 rfl (lv_at hl 0 rfl) ?_
  refine lv_if_eq (tgt := 131) hx hb dX6_readNumber_122 (by decide) (fun c_1 => ?_) (fun c_1 => ?_)
  · have hf := (if_pos c_1).symm.trans hf
    refine va_gets (C := "PostedAsks$Token") hx hb (hG.2.1.1 3 (by decide)).1 hS hown (hts _ fk_X6_readNumber_0) (fun _ h9 => h9) dX6_readNumber_131 ?_
    refine va_put (D := D) (ci := 6) (v := .ref (g.1 3)) (ty := .object "PostedAsks$Token") (C := RX6) (T := TX6) (N := 6) hx hb hts il_X6_readNumber_X6 tyX6 tyX6_ok nmX6 hown hK hP hD hS 0 rfl rfl 2 (by decide) (hts _ fk_X6_readNumber_1) (fun _ h9 => h9) rfl (tyX6_ok 2 (by decide)) rfl rfl (Nat.le_of_ble_eq_true rfl) dX6_readNumber_134 (fun H locs hP hD hS => ?_)
    have hP : va_P D vwCl (wo_X6_readNumber cI cJ a_te a_tb v_te_length (g.1 3) v_te_place v_te_end v_te_value v_tb) H := hP
    have hD : va_D A (wo_X6_readNumber cI cJ a_te a_tb v_te_length (g.1 3) v_te_place v_te_end v_te_value v_tb) := hD
    obtain rfl := Option.some.inj hf
    exact pa_ev X hP hD hS dX6_readNumber_137
  · have hf := (if_neg c_1).symm.trans hf
    refine va_gets (C := "PostedAsks$Token") hx hb (hG.2.1.1 6 (by decide)).1 hS hown (hts _ fk_X6_readNumber_2) (fun _ h9 => h9) dX6_readNumber_125 ?_
    refine lv_goto (tgt := 134) hx hb dX6_readNumber_128 (by decide) ?_
    refine va_put (D := D) (ci := 6) (v := .ref (g.1 6)) (ty := .object "PostedAsks$Token") (C := RX6) (T := TX6) (N := 6) hx hb hts il_X6_readNumber_X6 tyX6 tyX6_ok nmX6 hown hK hP hD hS 0 rfl rfl 2 (by decide) (hts _ fk_X6_readNumber_1) (fun _ h9 => h9) rfl (tyX6_ok 2 (by decide)) rfl rfl (Nat.le_of_ble_eq_true rfl) dX6_readNumber_134 (fun H locs hP hD hS => ?_)
    have hP : va_P D vwCl (wo_X6_readNumber cI cJ a_te a_tb v_te_length (g.1 6) v_te_place v_te_end v_te_value v_tb) H := hP
    have hD : va_D A (wo_X6_readNumber cI cJ a_te a_tb v_te_length (g.1 6) v_te_place v_te_end v_te_value v_tb) := hD
    obtain rfl := Option.some.inj hf
    exact pa_ev X hP hD hS dX6_readNumber_137
set_option maxHeartbeats 4000000 in
set_option maxRecDepth 100000 in
theorem w_X6_readNumber_b118 {l : Launch} {D : va_G} {cI cJ : ClassId} {g : pa_GT} {a_te a_tb : Nat} {A : Nat → Prop} {p : Program} {e : Env} {s : State} {m : MethodId} {args : Array Value} {below : List Frame} {meth : Method} {c : Code} {v_te_end : Int32} {v_te_value : Int32} {v_te_length : Int32} {v_te_token : Nat} {v_te_place : Int32} {v_tb : Nat → Int32} {o : Nat × Int32 × Int32} (X : pa_X cX6_readNumber 3 none RX6 wsX6_readNumber D cI cJ g A p s m args meth c)  (hf : f_X6_readNumber_b118 g v_te_end v_te_value = some o) {H : Heap} {locs : List Loc} (hP : va_P D vwCl (wo_X6_readNumber cI cJ a_te a_tb v_te_length v_te_token v_te_place v_te_end v_te_value v_tb) H) (hD : va_D A (wo_X6_readNumber cI cJ a_te a_tb v_te_length v_te_token v_te_place v_te_end v_te_value v_tb)) (hS : va_S A s.heap H locs) {ls : Array Slot} (hl : lv_has ls 3 [(0, .ref a_te)]) : W p l e (headSpec wsX6_readNumber rm_X6_readNumber).room s m args below meth c H locs 0 0 (MQ below (va_Qv (fun (_ : Unit) => True) (pa_QB D A (wo_X6_readNumber cI cJ a_te a_tb v_te_length o.1 v_te_place o.2.1 o.2.2 v_tb)) A) args s 0 0 A) (F0 m 118 ls []) := by
  obtain ⟨hx, hb, hr, hml, hown, hts, hK, hA, hG, hlk⟩ := id X
  delta f_X6_readNumber_b118 at hf
  refine lv_iconst (v := (0 : Int32)) hx hb dX6_readNumber_118 (by decide) ?_
  exact w_X6_readNumber_b119 X  hf hP hD hS (lv_sub hl [0] rfl)
set_option maxHeartbeats 4000000 in
set_option maxRecDepth 100000 in
theorem w_X6_readNumber_b114 {l : Launch} {D : va_G} {cI cJ : ClassId} {g : pa_GT} {a_te a_tb : Nat} {A : Nat → Prop} {p : Program} {e : Env} {s : State} {m : MethodId} {args : Array Value} {below : List Frame} {meth : Method} {c : Code} {v_te_end : Int32} {v_te_value : Int32} {v_te_length : Int32} {v_te_token : Nat} {v_te_place : Int32} {v_tb : Nat → Int32} {o : Nat × Int32 × Int32} (X : pa_X cX6_readNumber 3 none RX6 wsX6_readNumber D cI cJ g A p s m args meth c)  (hf : f_X6_readNumber_b114 g v_te_end v_te_value = some o) {H : Heap} {locs : List Loc} (hP : va_P D vwCl (wo_X6_readNumber cI cJ a_te a_tb v_te_length v_te_token v_te_place v_te_end v_te_value v_tb) H) (hD : va_D A (wo_X6_readNumber cI cJ a_te a_tb v_te_length v_te_token v_te_place v_te_end v_te_value v_tb)) (hS : va_S A s.heap H locs) {ls : Array Slot} (hl : lv_has ls 3 [(0, .ref a_te)]) : W p l e (headSpec wsX6_readNumber rm_X6_readNumber).room s m args below meth c H locs 0 0 (MQ below (va_Qv (fun (_ : Unit) => True) (pa_QB D A (wo_X6_readNumber cI cJ a_te a_tb v_te_length o.1 v_te_place o.2.1 o.2.2 v_tb)) A) args s 0 0 A) (F0 m 114 ls []) := by
  obtain ⟨hx, hb, hr, hml, hown, hts, hK, hA, hG, hlk⟩ := id X
  delta f_X6_readNumber_b114 at hf
  refine lv_iconst (v := (1 : Int32)) hx hb dX6_readNumber_114 (by decide) ?_
  refine lv_goto (tgt := 119) hx hb dX6_readNumber_115 (by decide) ?_
  exact w_X6_readNumber_b119 X  hf hP hD hS (lv_sub hl [0] rfl)
set_option maxHeartbeats 4000000 in
set_option maxRecDepth 100000 in
theorem w_X6_readNumber_b88 {l : Launch} {D : va_G} {cI cJ : ClassId} {g : pa_GT} {a_te a_tb : Nat} {A : Nat → Prop} {p : Program} {e : Env} {s : State} {m : MethodId} {args : Array Value} {below : List Frame} {meth : Method} {c : Code} {x1 : Int32} {v_te_place : Int32} {v_te_end : Int32} {v_te_value : Int32} {v_te_length : Int32} {v_te_token : Nat} {v_tb : Nat → Int32} {o : Nat × Int32 × Int32} (X : pa_X cX6_readNumber 3 none RX6 wsX6_readNumber D cI cJ g A p s m args meth c)  (hf : f_X6_readNumber_b88 g x1 v_te_place v_te_end v_te_value = some o) {H : Heap} {locs : List Loc} (hP : va_P D vwCl (wo_X6_readNumber cI cJ a_te a_tb v_te_length v_te_token v_te_place v_te_end v_te_value v_tb) H) (hD : va_D A (wo_X6_readNumber cI cJ a_te a_tb v_te_length v_te_token v_te_place v_te_end v_te_value v_tb)) (hS : va_S A s.heap H locs) {ls : Array Slot} (hl : lv_has ls 3 [(0, .ref a_te), (1, .int x1)]) : W p l e (headSpec wsX6_readNumber rm_X6_readNumber).room s m args below meth c H locs 0 0 (MQ below (va_Qv (fun (_ : Unit) => True) (pa_QB D A (wo_X6_readNumber cI cJ a_te a_tb v_te_length o.1 v_te_place o.2.1 o.2.2 v_tb)) A) args s 0 0 A) (F0 m 88 ls []) := by
  obtain ⟨hx, hb, hr, hml, hown, hts, hK, hA, hG, hlk⟩ := id X
  delta f_X6_readNumber_b88 at hf
  refine lv_aload_n hx hb dX6_readNumber_88 rfl (lv_at hl 0 rfl) ?_
  refine va_get (D := D) (ci := 6) (v := .int v_te_value) (C := RX6) (T := TX6) (N := 6) hx hb hts il_X6_readNumber_X6 hown hK hP 0 rfl rfl 5 (by decide) (hts _ fk_X6_readNumber_3) (fun _ h9 => h9) rfl dX6_readNumber_89 ?_
  refine lv_bipush (v := (99 : Int32)) hx hb dX6_readNumber_92 (by decide) ?_
  refine lv_icmp_gt (tgt := 114) hx hb dX6_readNumber_94 (by decide) (fun c_2 => ?_) (fun c_2 => ?_)
  · have hf := (if_pos c_2).symm.trans hf
    exact w_X6_readNumber_b114 X  hf hP hD hS (lv_sub hl [0] rfl)
  · have hf := (if_neg c_2).symm.trans hf
    refine lv_iload_n hx hb dX6_readNumber_97 rfl (lv_at hl 1 rfl) ?_
    refine lv_if_eq (tgt := 118) hx hb dX6_readNumber_98 (by decide) (fun c_3 => ?_) (fun c_3 => ?_)
    · have hf := (if_pos c_3).symm.trans hf
      exact w_X6_readNumber_b118 X  hf hP hD hS (lv_sub hl [0] rfl)
    · have hf := (if_neg c_3).symm.trans hf
      refine lv_aload_n hx hb dX6_readNumber_101 rfl (lv_at hl 0 rfl) ?_
      refine va_get (D := D) (ci := 6) (v := .int v_te_end) (C := RX6) (T := TX6) (N := 6) hx hb hts il_X6_readNumber_X6 hown hK hP 0 rfl rfl 4 (by decide) (hts _ fk_X6_readNumber_4) (fun _ h9 => h9) rfl dX6_readNumber_102 ?_
      refine lv_aload_n hx hb dX6_readNumber_105 rfl (lv_at hl 0 rfl) ?_
      refine va_get (D := D) (ci := 6) (v := .int v_te_place) (C := RX6) (T := TX6) (N := 6) hx hb hts il_X6_readNumber_X6 hown hK hP 0 rfl rfl 3 (by decide) (hts _ fk_X6_readNumber_5) (fun _ h9 => h9) rfl dX6_readNumber_106 ?_
      refine lv_isub hx hb dX6_readNumber_109 ?_
      refine lv_iconst (v := (1 : Int32)) hx hb dX6_readNumber_110 (by decide) ?_
      refine lv_icmp_le (tgt := 118) hx hb dX6_readNumber_111 (by decide) (fun c_4 => ?_) (fun c_4 => ?_)
      · have hf := (if_pos c_4).symm.trans hf
        exact w_X6_readNumber_b118 X  hf hP hD hS (lv_sub hl [0] rfl)
      · have hf := (if_neg c_4).symm.trans hf
        exact w_X6_readNumber_b114 X  hf hP hD hS (lv_sub hl [0] rfl)
set_option maxHeartbeats 4000000 in
set_option maxRecDepth 100000 in
theorem w_X6_readNumber_L20 {l : Launch} {D : va_G} {cI cJ : ClassId} {g : pa_GT} {a_te a_tb : Nat} {A : Nat → Prop} {p : Program} {e : Env} {s : State} {m : MethodId} {args : Array Value} {below : List Frame} {meth : Method} {c : Code} {x1 : Int32} {v_te_length : Int32} {v_te_place : Int32} {v_tb : Nat → Int32}  {o : Nat × Int32 × Int32} (X : pa_X cX6_readNumber 3 none RX6 wsX6_readNumber D cI cJ g A p s m args meth c)  : ∀ (n : Nat) (v_te_end : Int32) (v_te_value : Int32), f_X6_readNumber_L20 g x1 v_te_length v_te_place v_tb n v_te_end v_te_value = some o → ∀ (H : Heap) (locs : List Loc) (v_te_token : Nat), va_P D vwCl (wo_X6_readNumber cI cJ a_te a_tb v_te_length v_te_token v_te_place v_te_end v_te_value v_tb) H → va_D A (wo_X6_readNumber cI cJ a_te a_tb v_te_length v_te_token v_te_place v_te_end v_te_value v_tb) → va_S A s.heap H locs → ∀ (ls : Array Slot), lv_has ls 3 [(0, .ref a_te), (1, .int x1)] → W p l e (headSpec wsX6_readNumber rm_X6_readNumber).room s m args below meth c H locs 0 0 (MQ below (va_Qv (fun (_ : Unit) => True) (pa_QB D A (wo_X6_readNumber cI cJ a_te a_tb v_te_length o.1 v_te_place o.2.1 o.2.2 v_tb)) A) args s 0 0 A) (F0 m 20 ls []) := by
  obtain ⟨hx, hb, hr, hml, hown, hts, hK, hA, hG, hlk⟩ := id X
  intro n
  induction n with
  | zero =>
    intro v_te_end v_te_value hf
    have hf : (none : Option (Nat × Int32 × Int32)) = some o := hf
    cases hf
  | succ n hrec20 =>
    intro v_te_end v_te_value hf H locs v_te_token hP hD hS ls hl
    have hf : f_X6_readNumber_L20_body g x1 v_te_length v_te_place v_tb (f_X6_readNumber_L20 g x1 v_te_length v_te_place v_tb n) v_te_end v_te_value = some o := hf
    delta f_X6_readNumber_L20_body at hf
    generalize hgr : f_X6_readNumber_L20 g x1 v_te_length v_te_place v_tb n = rec20 at hf hrec20
    refine lv_aload_n hx hb dX6_readNumber_20 rfl (lv_at hl 0 rfl) ?_
    refine va_get (D := D) (ci := 6) (v := .int v_te_end) (C := RX6) (T := TX6) (N := 6) hx hb hts il_X6_readNumber_X6 hown hK hP 0 rfl rfl 4 (by decide) (hts _ fk_X6_readNumber_4) (fun _ h9 => h9) rfl dX6_readNumber_21 ?_
    refine lv_aload_n hx hb dX6_readNumber_24 rfl (lv_at hl 0 rfl) ?_
    refine va_get (D := D) (ci := 6) (v := .int v_te_length) (C := RX6) (T := TX6) (N := 6) hx hb hts il_X6_readNumber_X6 hown hK hP 0 rfl rfl 1 (by decide) (hts _ fk_X6_readNumber_6) (fun _ h9 => h9) rfl dX6_readNumber_25 ?_
    refine lv_icmp_ge (tgt := 88) hx hb dX6_readNumber_28 (by decide) (fun c_5 => ?_) (fun c_5 => ?_)
    · have hf := (if_pos c_5).symm.trans hf
      exact w_X6_readNumber_b88 X  hf hP hD hS (lv_sub hl [0, 1] rfl)
    · have hf := (if_neg c_5).symm.trans hf
      refine lv_aload_n hx hb dX6_readNumber_31 rfl (lv_at hl 0 rfl) ?_
      refine va_get (D := D) (ci := 6) (v := .ref a_tb) (C := RX6) (T := TX6) (N := 6) hx hb hts il_X6_readNumber_X6 hown hK hP 0 rfl rfl 0 (by decide) (hts _ fk_X6_readNumber_7) (fun _ h9 => h9) rfl dX6_readNumber_32 ?_
      refine lv_aload_n hx hb dX6_readNumber_35 rfl (lv_at hl 0 rfl) ?_
      refine va_get (D := D) (ci := 6) (v := .int v_te_end) (C := RX6) (T := TX6) (N := 6) hx hb hts il_X6_readNumber_X6 hown hK hP 0 rfl rfl 4 (by decide) (hts _ fk_X6_readNumber_4) (fun _ h9 => h9) rfl dX6_readNumber_36 ?_
      obtain ⟨hi_6, hf⟩ := pa_gd hf
      refine va_iald hx hb hK hP 1 0 rfl rfl hi_6 dX6_readNumber_39 ?_
      obtain ⟨u_7, hg_8, hf⟩ := pa_bd hf
      refine pa_ki (wc := ([] : va_W)) (wr := [(a_te, .inr (6, [.ref a_tb, .int v_te_length, .ref v_te_token, .int v_te_place, .int v_te_end, .int v_te_value])), (a_tb, .inl (cI, 300, .inl v_tb))]) (w1 := ([] : va_W)) (w2 := (wo_X6_readNumber cI cJ a_te a_tb v_te_length v_te_token v_te_place v_te_end v_te_value v_tb)) X hP hD hS [] [0, 1] [0, 1] rfl (pa_rS (As := [.int (v_tb (Int32.toNatClampNeg v_te_end))]) (rest := []) X hP hD hS [] rfl rfl (c_X6_isDigit hg_8 H.size) (va_cwS 1 hts gX6_readNumber_X6_isDigit rfl rfl rfl (by decide +kernel) ⟨Nat.le_of_ble_eq_true rfl, Nat.le_of_ble_eq_true rfl⟩) rfl hl.1 rfl (Nat.le_of_ble_eq_true rfl) dX6_readNumber_40 ⟨Nat.zero_le _, Nat.zero_le _⟩) rfl rfl (by decide) rfl rfl (fun H locs hP hD hS => ?_)
      refine lv_if_eq (tgt := 88) hx hb dX6_readNumber_43 (by decide) (fun c_9 => ?_) (fun c_9 => ?_)
      · have hf := (if_pos c_9).symm.trans hf
        exact w_X6_readNumber_b88 X  hf hP hD hS (lv_sub hl [0, 1] rfl)
      · have hf := (if_neg c_9).symm.trans hf
        refine lv_aload_n hx hb dX6_readNumber_46 rfl (lv_at hl 0 rfl) ?_
        refine lv_bipush (v := (100 : Int32)) hx hb dX6_readNumber_47 (by decide) ?_
        refine lv_aload_n hx hb dX6_readNumber_49 rfl (lv_at hl 0 rfl) ?_
        refine va_get (D := D) (ci := 6) (v := .int v_te_value) (C := RX6) (T := TX6) (N := 6) hx hb hts il_X6_readNumber_X6 hown hK hP 0 rfl rfl 5 (by decide) (hts _ fk_X6_readNumber_3) (fun _ h9 => h9) rfl dX6_readNumber_50 ?_
        refine lv_bipush (v := (10 : Int32)) hx hb dX6_readNumber_53 (by decide) ?_
        refine lv_imul hx hb dX6_readNumber_55 ?_
        refine lv_aload_n hx hb dX6_readNumber_56 rfl (lv_at hl 0 rfl) ?_
        refine va_get (D := D) (ci := 6) (v := .ref a_tb) (C := RX6) (T := TX6) (N := 6) hx hb hts il_X6_readNumber_X6 hown hK hP 0 rfl rfl 0 (by decide) (hts _ fk_X6_readNumber_7) (fun _ h9 => h9) rfl dX6_readNumber_57 ?_
        refine lv_aload_n hx hb dX6_readNumber_60 rfl (lv_at hl 0 rfl) ?_
        refine va_get (D := D) (ci := 6) (v := .int v_te_end) (C := RX6) (T := TX6) (N := 6) hx hb hts il_X6_readNumber_X6 hown hK hP 0 rfl rfl 4 (by decide) (hts _ fk_X6_readNumber_4) (fun _ h9 => h9) rfl dX6_readNumber_61 ?_
        refine va_iald hx hb hK hP 1 0 rfl rfl hi_6 dX6_readNumber_64 ?_
        refine lv_iadd hx hb dX6_readNumber_65 ?_
        refine lv_bipush (v := (48 : Int32)) hx hb dX6_readNumber_66 (by decide) ?_
        refine lv_isub hx hb dX6_readNumber_68 ?_
        refine va_mmin hx hb (hml.trans hl.1.symm) hown (hts _ fk_X6_readNumber_8) (hts _ fk_X6_readNumber_9) (hts _ fk_X6_readNumber_10) (hts _ fk_X6_readNumber_11) (Nat.le_of_ble_eq_true rfl) (Nat.le_of_ble_eq_true rfl) (Nat.zero_le _) (Nat.zero_le _) dX6_readNumber_69 ?_
        refine va_put (D := D) (ci := 6) (v := .int (if (((v_te_value * (10 : Int32)) + (v_tb (Int32.toNatClampNeg v_te_end))) - (48 : Int32)) < (100 : Int32) then (((v_te_value * (10 : Int32)) + (v_tb (Int32.toNatClampNeg v_te_end))) - (48 : Int32)) else (100 : Int32))) (ty := .int) (C := RX6) (T := TX6) (N := 6) hx hb hts il_X6_readNumber_X6 tyX6 tyX6_ok nmX6 hown hK hP hD hS 0 rfl rfl 5 (by decide) (hts _ fk_X6_readNumber_3) (fun _ h9 => h9) rfl (tyX6_ok 5 (by decide)) rfl rfl (Nat.le_of_ble_eq_true rfl) dX6_readNumber_72 (fun H locs hP hD hS => ?_)
        have hP : va_P D vwCl (wo_X6_readNumber cI cJ a_te a_tb v_te_length v_te_token v_te_place v_te_end (if (((v_te_value * (10 : Int32)) + (v_tb (Int32.toNatClampNeg v_te_end))) - (48 : Int32)) < (100 : Int32) then (((v_te_value * (10 : Int32)) + (v_tb (Int32.toNatClampNeg v_te_end))) - (48 : Int32)) else (100 : Int32)) v_tb) H := hP
        have hD : va_D A (wo_X6_readNumber cI cJ a_te a_tb v_te_length v_te_token v_te_place v_te_end (if (((v_te_value * (10 : Int32)) + (v_tb (Int32.toNatClampNeg v_te_end))) - (48 : Int32)) < (100 : Int32) then (((v_te_value * (10 : Int32)) + (v_tb (Int32.toNatClampNeg v_te_end))) - (48 : Int32)) else (100 : Int32)) v_tb) := hD
        refine lv_aload_n hx hb dX6_readNumber_75 rfl (lv_at hl 0 rfl) ?_
        refine lv_dup hx hb dX6_readNumber_76 rfl ?_
        refine va_get (D := D) (ci := 6) (v := .int v_te_end) (C := RX6) (T := TX6) (N := 6) hx hb hts il_X6_readNumber_X6 hown hK hP 0 rfl rfl 4 (by decide) (hts _ fk_X6_readNumber_4) (fun _ h9 => h9) rfl dX6_readNumber_77 ?_
        refine lv_iconst (v := (1 : Int32)) hx hb dX6_readNumber_80 (by decide) ?_
        refine lv_iadd hx hb dX6_readNumber_81 ?_
        refine va_put (D := D) (ci := 6) (v := .int (v_te_end + (1 : Int32))) (ty := .int) (C := RX6) (T := TX6) (N := 6) hx hb hts il_X6_readNumber_X6 tyX6 tyX6_ok nmX6 hown hK hP hD hS 0 rfl rfl 4 (by decide) (hts _ fk_X6_readNumber_4) (fun _ h9 => h9) rfl (tyX6_ok 4 (by decide)) rfl rfl (Nat.le_of_ble_eq_true rfl) dX6_readNumber_82 (fun H locs hP hD hS => ?_)
        have hP : va_P D vwCl (wo_X6_readNumber cI cJ a_te a_tb v_te_length v_te_token v_te_place (v_te_end + (1 : Int32)) (if (((v_te_value * (10 : Int32)) + (v_tb (Int32.toNatClampNeg v_te_end))) - (48 : Int32)) < (100 : Int32) then (((v_te_value * (10 : Int32)) + (v_tb (Int32.toNatClampNeg v_te_end))) - (48 : Int32)) else (100 : Int32)) v_tb) H := hP
        have hD : va_D A (wo_X6_readNumber cI cJ a_te a_tb v_te_length v_te_token v_te_place (v_te_end + (1 : Int32)) (if (((v_te_value * (10 : Int32)) + (v_tb (Int32.toNatClampNeg v_te_end))) - (48 : Int32)) < (100 : Int32) then (((v_te_value * (10 : Int32)) + (v_tb (Int32.toNatClampNeg v_te_end))) - (48 : Int32)) else (100 : Int32)) v_tb) := hD
        refine lv_goto (tgt := 20) hx hb dX6_readNumber_85 (by decide) ?_
        exact hrec20 _ _ hf _ _ _ hP hD hS _ (lv_sub hl [0, 1] rfl)
set_option maxHeartbeats 4000000 in
set_option maxRecDepth 100000 in
theorem w_X6_readNumber_b0 {l : Launch} {D : va_G} {cI cJ : ClassId} {g : pa_GT} {a_te a_tb : Nat} {A : Nat → Prop} {p : Program} {e : Env} {s : State} {m : MethodId} {args : Array Value} {below : List Frame} {meth : Method} {c : Code} {v_te_length : Int32} {v_te_place : Int32} {v_te_end : Int32} {v_te_value : Int32} {v_tb : Nat → Int32} {v_te_token : Nat} {o : Nat × Int32 × Int32} (X : pa_X cX6_readNumber 3 none RX6 wsX6_readNumber D cI cJ g A p s m args meth c)  (hf : f_X6_readNumber g v_te_length v_te_place v_te_end v_te_value v_tb = some o) {H : Heap} {locs : List Loc} (hP : va_P D vwCl (wo_X6_readNumber cI cJ a_te a_tb v_te_length v_te_token v_te_place v_te_end v_te_value v_tb) H) (hD : va_D A (wo_X6_readNumber cI cJ a_te a_tb v_te_length v_te_token v_te_place v_te_end v_te_value v_tb)) (hS : va_S A s.heap H locs) {ls : Array Slot} (hl : lv_has ls 3 [(0, .ref a_te)]) : W p l e (headSpec wsX6_readNumber rm_X6_readNumber).room s m args below meth c H locs 0 0 (MQ below (va_Qv (fun (_ : Unit) => True) (pa_QB D A (wo_X6_readNumber cI cJ a_te a_tb v_te_length o.1 v_te_place o.2.1 o.2.2 v_tb)) A) args s 0 0 A) (F0 m 0 ls []) := by
  obtain ⟨hx, hb, hr, hml, hown, hts, hK, hA, hG, hlk⟩ := id X
  delta f_X6_readNumber at hf
  refine lv_aload_n hx hb dX6_readNumber_0 rfl (lv_at hl 0 rfl) ?_
  refine va_get (D := D) (ci := 6) (v := .ref a_tb) (C := RX6) (T := TX6) (N := 6) hx hb hts il_X6_readNumber_X6 hown hK hP 0 rfl rfl 0 (by decide) (hts _ fk_X6_readNumber_7) (fun _ h9 => h9) rfl dX6_readNumber_1 ?_
  refine lv_aload_n hx hb dX6_readNumber_4 rfl (lv_at hl 0 rfl) ?_
  refine va_get (D := D) (ci := 6) (v := .int v_te_place) (C := RX6) (T := TX6) (N := 6) hx hb hts il_X6_readNumber_X6 hown hK hP 0 rfl rfl 3 (by decide) (hts _ fk_X6_readNumber_5) (fun _ h9 => h9) rfl dX6_readNumber_5 ?_
  obtain ⟨hi_11, hf⟩ := pa_gd hf
  refine va_iald hx hb hK hP 1 0 rfl rfl hi_11 dX6_readNumber_8 ?_
  refine lv_bipush (v := (48 : Int32)) hx hb dX6_readNumber_9 (by decide) ?_
  refine lv_icmp_ne (tgt := 18) hx hb dX6_readNumber_11 (by decide) (fun c_12 => ?_) (fun c_12 => ?_)
  · have hf := (if_neg c_12).symm.trans hf
    refine lv_iconst (v := (0 : Int32)) hx hb dX6_readNumber_18 (by decide) ?_
    refine lv_istore_n (lv' := [(1, .int (0 : Int32)), (0, .ref a_te)]) hx hb dX6_readNumber_19 rfl hl (by decide) rfl (fun ls hl => ?_)
    exact w_X6_readNumber_L20 X  _ _ _ hf _ _ _ hP hD hS _ (lv_sub hl [1, 0] rfl)
  · have hf := (if_pos c_12).symm.trans hf
    refine lv_iconst (v := (1 : Int32)) hx hb dX6_readNumber_14 (by decide) ?_
    refine lv_goto (tgt := 19) hx hb dX6_readNumber_15 (by decide) ?_
    refine lv_istore_n (lv' := [(1, .int (1 : Int32)), (0, .ref a_te)]) hx hb dX6_readNumber_19 rfl hl (by decide) rfl (fun ls hl => ?_)
    exact w_X6_readNumber_L20 X  _ _ _ hf _ _ _ hP hD hS _ (lv_sub hl [1, 0] rfl)
set_option maxHeartbeats 4000000 in
set_option maxRecDepth 100000 in
theorem c_X6_readNumber {l : Launch} {D : va_G} {cI cJ : ClassId} {g : pa_GT} {a_te a_tb : Nat}  {v_te_length : Int32} {v_te_token : Nat} {v_te_place : Int32} {v_te_end : Int32} {v_te_value : Int32} {v_tb : Nat → Int32} {o : Nat × Int32 × Int32} (hf : f_X6_readNumber g v_te_length v_te_place v_te_end v_te_value v_tb = some o) : pa_Mv l yX6_readNumber wsX6_readNumber rm_X6_readNumber D cI cJ g [.ref a_te] (wo_X6_readNumber cI cJ a_te a_tb v_te_length v_te_token v_te_place v_te_end v_te_value v_tb) (wo_X6_readNumber cI cJ a_te a_tb v_te_length o.1 v_te_place o.2.1 o.2.2 v_tb) := by
  intro sz
  refine pa_met (cc := cX6_readNumber) (maxL := 3) (ret := none) (lv := [(0, .ref a_te)]) (by decide) rfl (Nat.le_of_ble_eq_true rfl) rfl ?_
  intro p e s m below meth c X hsz hP hD ls hl
  subst hsz
  exact w_X6_readNumber_b0 X hf hP hD va_S.rf hl
abbrev wo_X6_advance (cI cJ : ClassId) (a_te a_tb : Nat) (v_te_length : Int32) (v_te_token : Nat) (v_te_place : Int32) (v_te_end : Int32) (v_te_value : Int32) (v_tb : Nat → Int32) : va_W := [(a_te, .inr (6, [.ref a_tb, .int v_te_length, .ref v_te_token, .int v_te_place, .int v_te_end, .int v_te_value])), (a_tb, .inl (cI, 300, .inl v_tb))]
abbrev rm_X6_advance : Room := { frames := 6, cells := 0, slots := 0, locals := 127 }
theorem il_X6_advance_X6 : ∀ w ∈ wsX60, w ∈ wsX6_advance := by decide +kernel
theorem fk_X6_advance_0 : Cond.fieldLink RX6 28 "PostedAsks$Text" "place" "I" ∈ wsX6_advance := by decide +kernel
theorem fk_X6_advance_1 : Cond.fieldLink RX6 31 "PostedAsks$Text" "end" "I" ∈ wsX6_advance := by decide +kernel
theorem fk_X6_advance_2 : Cond.fieldLink RX6 34 "PostedAsks$Text" "value" "I" ∈ wsX6_advance := by decide +kernel
theorem fk_X6_advance_3 : Cond.fieldLink RX6 15 "PostedAsks$Text" "length" "I" ∈ wsX6_advance := by decide +kernel
theorem fk_X6_advance_4 : Cond.fieldLink RX6 9 "PostedAsks$Text" "bytes" "[I" ∈ wsX6_advance := by decide +kernel
theorem fk_X6_advance_5 : Cond.fieldLink RX6 53 "PostedAsks$Token" "WRONG" "LPostedAsks$Token;" ∈ wsX6_advance := by decide +kernel
theorem fk_X6_advance_6 : Cond.fieldLink RX6 25 "PostedAsks$Text" "token" "LPostedAsks$Token;" ∈ wsX6_advance := by decide +kernel
theorem fk_X6_advance_7 : Cond.fieldLink RX6 50 "PostedAsks$Token" "SEMICOLON" "LPostedAsks$Token;" ∈ wsX6_advance := by decide +kernel
theorem fk_X6_advance_8 : Cond.fieldLink RX6 19 "PostedAsks$Token" "END" "LPostedAsks$Token;" ∈ wsX6_advance := by decide +kernel
def f_X6_advance_b46 (g : pa_GT) (v_te_length : Int32) (v_te_token : Nat) (v_te_place : Int32) (v_tb : Nat → Int32) : Option (Nat × Int32 × Int32 × Int32) :=
  if v_te_place < v_te_length then
    if pa_ib v_te_place 300 = true then
      (f_X6_isLetter (v_tb (Int32.toNatClampNeg v_te_place))).bind fun u_3 =>
      if u_3 = 0 then
        (f_X6_isDigit (v_tb (Int32.toNatClampNeg v_te_place))).bind fun u_7 =>
        if u_7 = 0 then
          if (v_tb (Int32.toNatClampNeg v_te_place)) = (59 : Int32) then
            some ((g.1 4), v_te_place, (v_te_place + (1 : Int32)), (0 : Int32))
          else
            some ((g.1 6), v_te_place, (v_te_place + (1 : Int32)), (0 : Int32))
        else
          (f_X6_readNumber g v_te_length v_te_place v_te_place (0 : Int32) v_tb).bind fun u_12 =>
          some (u_12.1, v_te_place, u_12.2.1, u_12.2.2)
      else
        (f_X6_readWord g v_te_length v_te_place v_te_place (0 : Int32) v_tb).bind fun u_14 =>
        some (u_14.1, v_te_place, u_14.2.1, u_14.2.2)
    else none
  else
    some ((g.1 5), v_te_place, v_te_place, (0 : Int32))
def f_X6_advance_L8_body (g : pa_GT) (v_te_length : Int32) (v_te_token : Nat) (v_tb : Nat → Int32) (rec8 : Int32 → Option (Nat × Int32 × Int32 × Int32)) (v_te_place : Int32) : Option (Nat × Int32 × Int32 × Int32) :=
  if v_te_length ≤ v_te_place then
    f_X6_advance_b46 g v_te_length v_te_token v_te_place v_tb
  else
    if pa_ib v_te_place 300 = true then
      if (v_tb (Int32.toNatClampNeg v_te_place)) = (32 : Int32) then
        rec8 (v_te_place + (1 : Int32))
      else
        f_X6_advance_b46 g v_te_length v_te_token v_te_place v_tb
    else none
def f_X6_advance_L8 (g : pa_GT) (v_te_length : Int32) (v_te_token : Nat) (v_tb : Nat → Int32) : Nat → Int32 → Option (Nat × Int32 × Int32 × Int32)
  | 0 => fun _ => none
  | n + 1 => f_X6_advance_L8_body g v_te_length v_te_token v_tb (f_X6_advance_L8 g v_te_length v_te_token v_tb n)
def f_X6_advance (g : pa_GT) (v_te_length : Int32) (v_te_token : Nat) (v_te_end : Int32) (v_tb : Nat → Int32) : Option (Nat × Int32 × Int32 × Int32) :=
  f_X6_advance_L8 g v_te_length v_te_token v_tb pa_fu v_te_end
set_option maxHeartbeats 4000000 in
set_option maxRecDepth 100000 in
theorem w_X6_advance_b46 {l : Launch} {D : va_G} {cI cJ : ClassId} {g : pa_GT} {a_te a_tb : Nat} {A : Nat → Prop} {p : Program} {e : Env} {s : State} {m : MethodId} {args : Array Value} {below : List Frame} {meth : Method} {c : Code} {v_te_length : Int32} {v_te_token : Nat} {v_te_place : Int32} {v_tb : Nat → Int32} {v_te_end : Int32} {v_te_value : Int32} {o : Nat × Int32 × Int32 × Int32} (X : pa_X cX6_advance 1 none RX6 wsX6_advance D cI cJ g A p s m args meth c)  (hf : f_X6_advance_b46 g v_te_length v_te_token v_te_place v_tb = some o) {H : Heap} {locs : List Loc} (hP : va_P D vwCl (wo_X6_advance cI cJ a_te a_tb v_te_length v_te_token v_te_place v_te_end v_te_value v_tb) H) (hD : va_D A (wo_X6_advance cI cJ a_te a_tb v_te_length v_te_token v_te_place v_te_end v_te_value v_tb)) (hS : va_S A s.heap H locs) {ls : Array Slot} (hl : lv_has ls 1 [(0, .ref a_te)]) : W p l e (headSpec wsX6_advance rm_X6_advance).room s m args below meth c H locs 0 0 (MQ below (va_Qv (fun (_ : Unit) => True) (pa_QB D A (wo_X6_advance cI cJ a_te a_tb v_te_length o.1 o.2.1 o.2.2.1 o.2.2.2 v_tb)) A) args s 0 0 A) (F0 m 46 ls []) := by
  obtain ⟨hx, hb, hr, hml, hown, hts, hK, hA, hG, hlk⟩ := id X
  delta f_X6_advance_b46 at hf
  refine lv_aload_n hx hb dX6_advance_46 rfl (lv_at hl 0 rfl) ?_
  refine lv_aload_n hx hb dX6_advance_47 rfl (lv_at hl 0 rfl) ?_
  refine va_get (D := D) (ci := 6) (v := .int v_te_place) (C := RX6) (T := TX6) (N := 6) hx hb hts il_X6_advance_X6 hown hK hP 0 rfl rfl 3 (by decide) (hts _ fk_X6_advance_0) (fun _ h9 => h9) rfl dX6_advance_48 ?_
  refine va_put (D := D) (ci := 6) (v := .int v_te_place) (ty := .int) (C := RX6) (T := TX6) (N := 6) hx hb hts il_X6_advance_X6 tyX6 tyX6_ok nmX6 hown hK hP hD hS 0 rfl rfl 4 (by decide) (hts _ fk_X6_advance_1) (fun _ h9 => h9) rfl (tyX6_ok 4 (by decide)) rfl rfl (Nat.le_of_ble_eq_true rfl) dX6_advance_51 (fun H locs hP hD hS => ?_)
  have hP : va_P D vwCl (wo_X6_advance cI cJ a_te a_tb v_te_length v_te_token v_te_place v_te_place v_te_value v_tb) H := hP
  have hD : va_D A (wo_X6_advance cI cJ a_te a_tb v_te_length v_te_token v_te_place v_te_place v_te_value v_tb) := hD
  refine lv_aload_n hx hb dX6_advance_54 rfl (lv_at hl 0 rfl) ?_
  refine lv_iconst (v := (0 : Int32)) hx hb dX6_advance_55 (by decide) ?_
  refine va_put (D := D) (ci := 6) (v := .int (0 : Int32)) (ty := .int) (C := RX6) (T := TX6) (N := 6) hx hb hts il_X6_advance_X6 tyX6 tyX6_ok nmX6 hown hK hP hD hS 0 rfl rfl 5 (by decide) (hts _ fk_X6_advance_2) (fun _ h9 => h9) rfl (tyX6_ok 5 (by decide)) rfl rfl (Nat.le_of_ble_eq_true rfl) dX6_advance_56 (fun H locs hP hD hS => ?_)
  have hP : va_P D vwCl (wo_X6_advance cI cJ a_te a_tb v_te_length v_te_token v_te_place v_te_place (0 : Int32) v_tb) H := hP
  have hD : va_D A (wo_X6_advance cI cJ a_te a_tb v_te_length v_te_token v_te_place v_te_place (0 : Int32) v_tb) := hD
  refine lv_aload_n hx hb dX6_advance_59 rfl (lv_at hl 0 rfl) ?_
  refine va_get (D := D) (ci := 6) (v := .int v_te_place) (C := RX6) (T := TX6) (N := 6) hx hb hts il_X6_advance_X6 hown hK hP 0 rfl rfl 3 (by decide) (hts _ fk_X6_advance_0) (fun _ h9 => h9) rfl dX6_advance_60 ?_
  refine lv_aload_n hx hb dX6_advance_63 rfl (lv_at hl 0 rfl) ?_
  refine va_get (D := D) (ci := 6) (v := .int v_te_length) (C := RX6) (T := TX6) (N := 6) hx hb hts il_X6_advance_X6 hown hK hP 0 rfl rfl 1 (by decide) (hts _ fk_X6_advance_3) (fun _ h9 => h9) rfl dX6_advance_64 ?_
  refine lv_icmp_lt (tgt := 80) hx hb dX6_advance_67 (by decide) (fun c_1 => ?_) (fun c_1 => ?_)
  · have hf := (if_pos c_1).symm.trans hf
    refine lv_aload_n hx hb dX6_advance_80 rfl (lv_at hl 0 rfl) ?_
    refine va_get (D := D) (ci := 6) (v := .ref a_tb) (C := RX6) (T := TX6) (N := 6) hx hb hts il_X6_advance_X6 hown hK hP 0 rfl rfl 0 (by decide) (hts _ fk_X6_advance_4) (fun _ h9 => h9) rfl dX6_advance_81 ?_
    refine lv_aload_n hx hb dX6_advance_84 rfl (lv_at hl 0 rfl) ?_
    refine va_get (D := D) (ci := 6) (v := .int v_te_place) (C := RX6) (T := TX6) (N := 6) hx hb hts il_X6_advance_X6 hown hK hP 0 rfl rfl 3 (by decide) (hts _ fk_X6_advance_0) (fun _ h9 => h9) rfl dX6_advance_85 ?_
    obtain ⟨hi_2, hf⟩ := pa_gd hf
    refine va_iald hx hb hK hP 1 0 rfl rfl hi_2 dX6_advance_88 ?_
    obtain ⟨u_3, hg_4, hf⟩ := pa_bd hf
    refine pa_ki (wc := ([] : va_W)) (wr := [(a_te, .inr (6, [.ref a_tb, .int v_te_length, .ref v_te_token, .int v_te_place, .int v_te_place, .int (0 : Int32)])), (a_tb, .inl (cI, 300, .inl v_tb))]) (w1 := ([] : va_W)) (w2 := (wo_X6_advance cI cJ a_te a_tb v_te_length v_te_token v_te_place v_te_place (0 : Int32) v_tb)) X hP hD hS [] [0, 1] [0, 1] rfl (pa_rS (As := [.int (v_tb (Int32.toNatClampNeg v_te_place))]) (rest := []) X hP hD hS [] rfl rfl (c_X6_isLetter hg_4 H.size) (va_cwS 1 hts gX6_advance_X6_isLetter rfl rfl rfl (by decide +kernel) ⟨Nat.le_of_ble_eq_true rfl, Nat.le_of_ble_eq_true rfl⟩) rfl hl.1 rfl (Nat.le_of_ble_eq_true rfl) dX6_advance_89 ⟨Nat.zero_le _, Nat.zero_le _⟩) rfl rfl (by decide) rfl rfl (fun H locs hP hD hS => ?_)
    refine lv_if_eq (tgt := 102) hx hb dX6_advance_92 (by decide) (fun c_5 => ?_) (fun c_5 => ?_)
    · have hf := (if_pos c_5).symm.trans hf
      refine lv_aload_n hx hb dX6_advance_102 rfl (lv_at hl 0 rfl) ?_
      refine va_get (D := D) (ci := 6) (v := .ref a_tb) (C := RX6) (T := TX6) (N := 6) hx hb hts il_X6_advance_X6 hown hK hP 0 rfl rfl 0 (by decide) (hts _ fk_X6_advance_4) (fun _ h9 => h9) rfl dX6_advance_103 ?_
      refine lv_aload_n hx hb dX6_advance_106 rfl (lv_at hl 0 rfl) ?_
      refine va_get (D := D) (ci := 6) (v := .int v_te_place) (C := RX6) (T := TX6) (N := 6) hx hb hts il_X6_advance_X6 hown hK hP 0 rfl rfl 3 (by decide) (hts _ fk_X6_advance_0) (fun _ h9 => h9) rfl dX6_advance_107 ?_
      refine va_iald hx hb hK hP 1 0 rfl rfl hi_2 dX6_advance_110 ?_
      obtain ⟨u_7, hg_8, hf⟩ := pa_bd hf
      refine pa_ki (wc := ([] : va_W)) (wr := [(a_te, .inr (6, [.ref a_tb, .int v_te_length, .ref v_te_token, .int v_te_place, .int v_te_place, .int (0 : Int32)])), (a_tb, .inl (cI, 300, .inl v_tb))]) (w1 := ([] : va_W)) (w2 := (wo_X6_advance cI cJ a_te a_tb v_te_length v_te_token v_te_place v_te_place (0 : Int32) v_tb)) X hP hD hS [] [0, 1] [0, 1] rfl (pa_rS (As := [.int (v_tb (Int32.toNatClampNeg v_te_place))]) (rest := []) X hP hD hS [] rfl rfl (c_X6_isDigit hg_8 H.size) (va_cwS 1 hts gX6_advance_X6_isDigit rfl rfl rfl (by decide +kernel) ⟨Nat.le_of_ble_eq_true rfl, Nat.le_of_ble_eq_true rfl⟩) rfl hl.1 rfl (Nat.le_of_ble_eq_true rfl) dX6_advance_111 ⟨Nat.zero_le _, Nat.zero_le _⟩) rfl rfl (by decide) rfl rfl (fun H locs hP hD hS => ?_)
      refine lv_if_eq (tgt := 124) hx hb dX6_advance_114 (by decide) (fun c_9 => ?_) (fun c_9 => ?_)
      · have hf := (if_pos c_9).symm.trans hf
        refine lv_aload_n hx hb dX6_advance_124 rfl (lv_at hl 0 rfl) ?_
        refine lv_aload_n hx hb dX6_advance_125 rfl (lv_at hl 0 rfl) ?_
        refine va_get (D := D) (ci := 6) (v := .ref a_tb) (C := RX6) (T := TX6) (N := 6) hx hb hts il_X6_advance_X6 hown hK hP 0 rfl rfl 0 (by decide) (hts _ fk_X6_advance_4) (fun _ h9 => h9) rfl dX6_advance_126 ?_
        refine lv_aload_n hx hb dX6_advance_129 rfl (lv_at hl 0 rfl) ?_
        refine va_get (D := D) (ci := 6) (v := .int v_te_place) (C := RX6) (T := TX6) (N := 6) hx hb hts il_X6_advance_X6 hown hK hP 0 rfl rfl 3 (by decide) (hts _ fk_X6_advance_0) (fun _ h9 => h9) rfl dX6_advance_130 ?_
        refine va_iald hx hb hK hP 1 0 rfl rfl hi_2 dX6_advance_133 ?_
        refine lv_bipush (v := (59 : Int32)) hx hb dX6_advance_134 (by decide) ?_
        refine lv_icmp_ne (tgt := 145) hx hb dX6_advance_136 (by decide) (fun c_11 => ?_) (fun c_11 => ?_)
        · have hf := (if_neg c_11).symm.trans hf
          refine va_gets (C := "PostedAsks$Token") hx hb (hG.2.1.1 6 (by decide)).1 hS hown (hts _ fk_X6_advance_5) (fun _ h9 => h9) dX6_advance_145 ?_
          refine va_put (D := D) (ci := 6) (v := .ref (g.1 6)) (ty := .object "PostedAsks$Token") (C := RX6) (T := TX6) (N := 6) hx hb hts il_X6_advance_X6 tyX6 tyX6_ok nmX6 hown hK hP hD hS 0 rfl rfl 2 (by decide) (hts _ fk_X6_advance_6) (fun _ h9 => h9) rfl (tyX6_ok 2 (by decide)) rfl rfl (Nat.le_of_ble_eq_true rfl) dX6_advance_148 (fun H locs hP hD hS => ?_)
          have hP : va_P D vwCl (wo_X6_advance cI cJ a_te a_tb v_te_length (g.1 6) v_te_place v_te_place (0 : Int32) v_tb) H := hP
          have hD : va_D A (wo_X6_advance cI cJ a_te a_tb v_te_length (g.1 6) v_te_place v_te_place (0 : Int32) v_tb) := hD
          refine lv_aload_n hx hb dX6_advance_151 rfl (lv_at hl 0 rfl) ?_
          refine lv_dup hx hb dX6_advance_152 rfl ?_
          refine va_get (D := D) (ci := 6) (v := .int v_te_place) (C := RX6) (T := TX6) (N := 6) hx hb hts il_X6_advance_X6 hown hK hP 0 rfl rfl 4 (by decide) (hts _ fk_X6_advance_1) (fun _ h9 => h9) rfl dX6_advance_153 ?_
          refine lv_iconst (v := (1 : Int32)) hx hb dX6_advance_156 (by decide) ?_
          refine lv_iadd hx hb dX6_advance_157 ?_
          refine va_put (D := D) (ci := 6) (v := .int (v_te_place + (1 : Int32))) (ty := .int) (C := RX6) (T := TX6) (N := 6) hx hb hts il_X6_advance_X6 tyX6 tyX6_ok nmX6 hown hK hP hD hS 0 rfl rfl 4 (by decide) (hts _ fk_X6_advance_1) (fun _ h9 => h9) rfl (tyX6_ok 4 (by decide)) rfl rfl (Nat.le_of_ble_eq_true rfl) dX6_advance_158 (fun H locs hP hD hS => ?_)
          have hP : va_P D vwCl (wo_X6_advance cI cJ a_te a_tb v_te_length (g.1 6) v_te_place (v_te_place + (1 : Int32)) (0 : Int32) v_tb) H := hP
          have hD : va_D A (wo_X6_advance cI cJ a_te a_tb v_te_length (g.1 6) v_te_place (v_te_place + (1 : Int32)) (0 : Int32) v_tb) := hD
          obtain rfl := Option.some.inj hf
          exact pa_ev X hP hD hS dX6_advance_161
        · have hf := (if_pos c_11).symm.trans hf
          refine va_gets (C := "PostedAsks$Token") hx hb (hG.2.1.1 4 (by decide)).1 hS hown (hts _ fk_X6_advance_7) (fun _ h9 => h9) dX6_advance_139 ?_
          refine lv_goto (tgt := 148) hx hb dX6_advance_142 (by decide) ?_
          refine va_put (D := D) (ci := 6) (v := .ref (g.1 4)) (ty := .object "PostedAsks$Token") (C := RX6) (T := TX6) (N := 6) hx hb hts il_X6_advance_X6 tyX6 tyX6_ok nmX6 hown hK hP hD hS 0 rfl rfl 2 (by decide) (hts _ fk_X6_advance_6) (fun _ h9 => h9) rfl (tyX6_ok 2 (by decide)) rfl rfl (Nat.le_of_ble_eq_true rfl) dX6_advance_148 (fun H locs hP hD hS => ?_)
          have hP : va_P D vwCl (wo_X6_advance cI cJ a_te a_tb v_te_length (g.1 4) v_te_place v_te_place (0 : Int32) v_tb) H := hP
          have hD : va_D A (wo_X6_advance cI cJ a_te a_tb v_te_length (g.1 4) v_te_place v_te_place (0 : Int32) v_tb) := hD
          refine lv_aload_n hx hb dX6_advance_151 rfl (lv_at hl 0 rfl) ?_
          refine lv_dup hx hb dX6_advance_152 rfl ?_
          refine va_get (D := D) (ci := 6) (v := .int v_te_place) (C := RX6) (T := TX6) (N := 6) hx hb hts il_X6_advance_X6 hown hK hP 0 rfl rfl 4 (by decide) (hts _ fk_X6_advance_1) (fun _ h9 => h9) rfl dX6_advance_153 ?_
          refine lv_iconst (v := (1 : Int32)) hx hb dX6_advance_156 (by decide) ?_
          refine lv_iadd hx hb dX6_advance_157 ?_
          refine va_put (D := D) (ci := 6) (v := .int (v_te_place + (1 : Int32))) (ty := .int) (C := RX6) (T := TX6) (N := 6) hx hb hts il_X6_advance_X6 tyX6 tyX6_ok nmX6 hown hK hP hD hS 0 rfl rfl 4 (by decide) (hts _ fk_X6_advance_1) (fun _ h9 => h9) rfl (tyX6_ok 4 (by decide)) rfl rfl (Nat.le_of_ble_eq_true rfl) dX6_advance_158 (fun H locs hP hD hS => ?_)
          have hP : va_P D vwCl (wo_X6_advance cI cJ a_te a_tb v_te_length (g.1 4) v_te_place (v_te_place + (1 : Int32)) (0 : Int32) v_tb) H := hP
          have hD : va_D A (wo_X6_advance cI cJ a_te a_tb v_te_length (g.1 4) v_te_place (v_te_place + (1 : Int32)) (0 : Int32) v_tb) := hD
          obtain rfl := Option.some.inj hf
          exact pa_ev X hP hD hS dX6_advance_161
      · have hf := (if_neg c_9).symm.trans hf
        refine lv_aload_n hx hb dX6_advance_117 rfl (lv_at hl 0 rfl) ?_
        obtain ⟨u_12, hg_13, hf⟩ := pa_bd hf
        refine pa_kv (wc := (wo_X6_readNumber cI cJ a_te a_tb v_te_length v_te_token v_te_place v_te_place (0 : Int32) v_tb)) (wr := ([] : va_W)) (w1 := (wo_X6_readNumber cI cJ a_te a_tb v_te_length u_12.1 v_te_place u_12.2.1 u_12.2.2 v_tb)) (w2 := (wo_X6_advance cI cJ a_te a_tb v_te_length u_12.1 v_te_place u_12.2.1 u_12.2.2 v_tb)) X hP hD hS [0, 1] [] [0, 1] rfl (pa_rV (As := []) (rest := []) (T := TX6) X hP hD hS [0, 1] rfl rfl (c_X6_readNumber hg_13 H.size) (cwV 0 hts gX6_advance_X6_readNumber rfl rfl rfl (by decide +kernel) ⟨Nat.le_of_ble_eq_true rfl, Nat.le_of_ble_eq_true rfl⟩) (q0 := 0) rfl rfl rfl hl.1 rfl (Nat.le_of_ble_eq_true rfl) dX6_advance_118 ⟨Nat.zero_le _, Nat.zero_le _⟩) rfl rfl (by decide) rfl rfl (fun H locs hP hD hS => ?_)
        refine lv_goto (tgt := 161) hx hb dX6_advance_121 (by decide) ?_
        obtain rfl := Option.some.inj hf
        exact pa_ev X hP hD hS dX6_advance_161
    · have hf := (if_neg c_5).symm.trans hf
      refine lv_aload_n hx hb dX6_advance_95 rfl (lv_at hl 0 rfl) ?_
      obtain ⟨u_14, hg_15, hf⟩ := pa_bd hf
      refine pa_kv (wc := (wo_X6_readWord cI cJ a_te a_tb v_te_length v_te_token v_te_place v_te_place (0 : Int32) v_tb)) (wr := ([] : va_W)) (w1 := (wo_X6_readWord cI cJ a_te a_tb v_te_length u_14.1 v_te_place u_14.2.1 u_14.2.2 v_tb)) (w2 := (wo_X6_advance cI cJ a_te a_tb v_te_length u_14.1 v_te_place u_14.2.1 u_14.2.2 v_tb)) X hP hD hS [0, 1] [] [0, 1] rfl (pa_rV (As := []) (rest := []) (T := TX6) X hP hD hS [0, 1] rfl rfl (c_X6_readWord hg_15 H.size) (cwV 0 hts gX6_advance_X6_readWord rfl rfl rfl (by decide +kernel) ⟨Nat.le_of_ble_eq_true rfl, Nat.le_of_ble_eq_true rfl⟩) (q0 := 0) rfl rfl rfl hl.1 rfl (Nat.le_of_ble_eq_true rfl) dX6_advance_96 ⟨Nat.zero_le _, Nat.zero_le _⟩) rfl rfl (by decide) rfl rfl (fun H locs hP hD hS => ?_)
      refine lv_goto (tgt := 161) hx hb dX6_advance_99 (by decide) ?_
      obtain rfl := Option.some.inj hf
      exact pa_ev X hP hD hS dX6_advance_161
  · have hf := (if_neg c_1).symm.trans hf
    refine lv_aload_n hx hb dX6_advance_70 rfl (lv_at hl 0 rfl) ?_
    refine va_gets (C := "PostedAsks$Token") hx hb (hG.2.1.1 5 (by decide)).1 hS hown (hts _ fk_X6_advance_8) (fun _ h9 => h9) dX6_advance_71 ?_
    refine va_put (D := D) (ci := 6) (v := .ref (g.1 5)) (ty := .object "PostedAsks$Token") (C := RX6) (T := TX6) (N := 6) hx hb hts il_X6_advance_X6 tyX6 tyX6_ok nmX6 hown hK hP hD hS 0 rfl rfl 2 (by decide) (hts _ fk_X6_advance_6) (fun _ h9 => h9) rfl (tyX6_ok 2 (by decide)) rfl rfl (Nat.le_of_ble_eq_true rfl) dX6_advance_74 (fun H locs hP hD hS => ?_)
    have hP : va_P D vwCl (wo_X6_advance cI cJ a_te a_tb v_te_length (g.1 5) v_te_place v_te_place (0 : Int32) v_tb) H := hP
    have hD : va_D A (wo_X6_advance cI cJ a_te a_tb v_te_length (g.1 5) v_te_place v_te_place (0 : Int32) v_tb) := hD
    refine lv_goto (tgt := 161) hx hb dX6_advance_77 (by decide) ?_
    obtain rfl := Option.some.inj hf
    exact pa_ev X hP hD hS dX6_advance_161
set_option maxHeartbeats 4000000 in
set_option maxRecDepth 100000 in
theorem w_X6_advance_L8 {l : Launch} {D : va_G} {cI cJ : ClassId} {g : pa_GT} {a_te a_tb : Nat} {A : Nat → Prop} {p : Program} {e : Env} {s : State} {m : MethodId} {args : Array Value} {below : List Frame} {meth : Method} {c : Code} {v_te_length : Int32} {v_te_token : Nat} {v_tb : Nat → Int32}  {o : Nat × Int32 × Int32 × Int32} (X : pa_X cX6_advance 1 none RX6 wsX6_advance D cI cJ g A p s m args meth c)  : ∀ (n : Nat) (v_te_place : Int32), f_X6_advance_L8 g v_te_length v_te_token v_tb n v_te_place = some o → ∀ (H : Heap) (locs : List Loc) (v_te_end : Int32) (v_te_value : Int32), va_P D vwCl (wo_X6_advance cI cJ a_te a_tb v_te_length v_te_token v_te_place v_te_end v_te_value v_tb) H → va_D A (wo_X6_advance cI cJ a_te a_tb v_te_length v_te_token v_te_place v_te_end v_te_value v_tb) → va_S A s.heap H locs → ∀ (ls : Array Slot), lv_has ls 1 [(0, .ref a_te)] → W p l e (headSpec wsX6_advance rm_X6_advance).room s m args below meth c H locs 0 0 (MQ below (va_Qv (fun (_ : Unit) => True) (pa_QB D A (wo_X6_advance cI cJ a_te a_tb v_te_length o.1 o.2.1 o.2.2.1 o.2.2.2 v_tb)) A) args s 0 0 A) (F0 m 8 ls []) := by
  obtain ⟨hx, hb, hr, hml, hown, hts, hK, hA, hG, hlk⟩ := id X
  intro n
  induction n with
  | zero =>
    intro v_te_place hf
    have hf : (none : Option (Nat × Int32 × Int32 × Int32)) = some o := hf
    cases hf
  | succ n hrec8 =>
    intro v_te_place hf H locs v_te_end v_te_value hP hD hS ls hl
    have hf : f_X6_advance_L8_body g v_te_length v_te_token v_tb (f_X6_advance_L8 g v_te_length v_te_token v_tb n) v_te_place = some o := hf
    delta f_X6_advance_L8_body at hf
    generalize hgr : f_X6_advance_L8 g v_te_length v_te_token v_tb n = rec8 at hf hrec8
    refine lv_aload_n hx hb dX6_advance_8 rfl (lv_at hl 0 rfl) ?_
    refine va_get (D := D) (ci := 6) (v := .int v_te_place) (C := RX6) (T := TX6) (N := 6) hx hb hts il_X6_advance_X6 hown hK hP 0 rfl rfl 3 (by decide) (hts _ fk_X6_advance_0) (fun _ h9 => h9) rfl dX6_advance_9 ?_
    refine lv_aload_n hx hb dX6_advance_12 rfl (lv_at hl 0 rfl) ?_
    refine va_get (D := D) (ci := 6) (v := .int v_te_length) (C := RX6) (T := TX6) (N := 6) hx hb hts il_X6_advance_X6 hown hK hP 0 rfl rfl 1 (by decide) (hts _ fk_X6_advance_3) (fun _ h9 => h9) rfl dX6_advance_13 ?_
    refine lv_icmp_ge (tgt := 46) hx hb dX6_advance_16 (by decide) (fun c_16 => ?_) (fun c_16 => ?_)
    · have hf := (if_pos c_16).symm.trans hf
      exact w_X6_advance_b46 X  hf hP hD hS (lv_sub hl [0] rfl)
    · have hf := (if_neg c_16).symm.trans hf
      refine lv_aload_n hx hb dX6_advance_19 rfl (lv_at hl 0 rfl) ?_
      refine va_get (D := D) (ci := 6) (v := .ref a_tb) (C := RX6) (T := TX6) (N := 6) hx hb hts il_X6_advance_X6 hown hK hP 0 rfl rfl 0 (by decide) (hts _ fk_X6_advance_4) (fun _ h9 => h9) rfl dX6_advance_20 ?_
      refine lv_aload_n hx hb dX6_advance_23 rfl (lv_at hl 0 rfl) ?_
      refine va_get (D := D) (ci := 6) (v := .int v_te_place) (C := RX6) (T := TX6) (N := 6) hx hb hts il_X6_advance_X6 hown hK hP 0 rfl rfl 3 (by decide) (hts _ fk_X6_advance_0) (fun _ h9 => h9) rfl dX6_advance_24 ?_
      obtain ⟨hi_17, hf⟩ := pa_gd hf
      refine va_iald hx hb hK hP 1 0 rfl rfl hi_17 dX6_advance_27 ?_
      refine lv_bipush (v := (32 : Int32)) hx hb dX6_advance_28 (by decide) ?_
      refine lv_icmp_ne (tgt := 46) hx hb dX6_advance_30 (by decide) (fun c_18 => ?_) (fun c_18 => ?_)
      · have hf := (if_neg c_18).symm.trans hf
        exact w_X6_advance_b46 X  hf hP hD hS (lv_sub hl [0] rfl)
      · have hf := (if_pos c_18).symm.trans hf
        refine lv_aload_n hx hb dX6_advance_33 rfl (lv_at hl 0 rfl) ?_
        refine lv_dup hx hb dX6_advance_34 rfl ?_
        refine va_get (D := D) (ci := 6) (v := .int v_te_place) (C := RX6) (T := TX6) (N := 6) hx hb hts il_X6_advance_X6 hown hK hP 0 rfl rfl 3 (by decide) (hts _ fk_X6_advance_0) (fun _ h9 => h9) rfl dX6_advance_35 ?_
        refine lv_iconst (v := (1 : Int32)) hx hb dX6_advance_38 (by decide) ?_
        refine lv_iadd hx hb dX6_advance_39 ?_
        refine va_put (D := D) (ci := 6) (v := .int (v_te_place + (1 : Int32))) (ty := .int) (C := RX6) (T := TX6) (N := 6) hx hb hts il_X6_advance_X6 tyX6 tyX6_ok nmX6 hown hK hP hD hS 0 rfl rfl 3 (by decide) (hts _ fk_X6_advance_0) (fun _ h9 => h9) rfl (tyX6_ok 3 (by decide)) rfl rfl (Nat.le_of_ble_eq_true rfl) dX6_advance_40 (fun H locs hP hD hS => ?_)
        have hP : va_P D vwCl (wo_X6_advance cI cJ a_te a_tb v_te_length v_te_token (v_te_place + (1 : Int32)) v_te_end v_te_value v_tb) H := hP
        have hD : va_D A (wo_X6_advance cI cJ a_te a_tb v_te_length v_te_token (v_te_place + (1 : Int32)) v_te_end v_te_value v_tb) := hD
        refine lv_goto (tgt := 8) hx hb dX6_advance_43 (by decide) ?_
        exact hrec8 _ hf _ _ _ _ hP hD hS _ (lv_sub hl [0] rfl)
set_option maxHeartbeats 4000000 in
set_option maxRecDepth 100000 in
theorem w_X6_advance_b0 {l : Launch} {D : va_G} {cI cJ : ClassId} {g : pa_GT} {a_te a_tb : Nat} {A : Nat → Prop} {p : Program} {e : Env} {s : State} {m : MethodId} {args : Array Value} {below : List Frame} {meth : Method} {c : Code} {v_te_length : Int32} {v_te_token : Nat} {v_te_end : Int32} {v_tb : Nat → Int32} {v_te_place : Int32} {v_te_value : Int32} {o : Nat × Int32 × Int32 × Int32} (X : pa_X cX6_advance 1 none RX6 wsX6_advance D cI cJ g A p s m args meth c)  (hf : f_X6_advance g v_te_length v_te_token v_te_end v_tb = some o) {H : Heap} {locs : List Loc} (hP : va_P D vwCl (wo_X6_advance cI cJ a_te a_tb v_te_length v_te_token v_te_place v_te_end v_te_value v_tb) H) (hD : va_D A (wo_X6_advance cI cJ a_te a_tb v_te_length v_te_token v_te_place v_te_end v_te_value v_tb)) (hS : va_S A s.heap H locs) {ls : Array Slot} (hl : lv_has ls 1 [(0, .ref a_te)]) : W p l e (headSpec wsX6_advance rm_X6_advance).room s m args below meth c H locs 0 0 (MQ below (va_Qv (fun (_ : Unit) => True) (pa_QB D A (wo_X6_advance cI cJ a_te a_tb v_te_length o.1 o.2.1 o.2.2.1 o.2.2.2 v_tb)) A) args s 0 0 A) (F0 m 0 ls []) := by
  obtain ⟨hx, hb, hr, hml, hown, hts, hK, hA, hG, hlk⟩ := id X
  delta f_X6_advance at hf
  refine lv_aload_n hx hb dX6_advance_0 rfl (lv_at hl 0 rfl) ?_
  refine lv_aload_n hx hb dX6_advance_1 rfl (lv_at hl 0 rfl) ?_
  refine va_get (D := D) (ci := 6) (v := .int v_te_end) (C := RX6) (T := TX6) (N := 6) hx hb hts il_X6_advance_X6 hown hK hP 0 rfl rfl 4 (by decide) (hts _ fk_X6_advance_1) (fun _ h9 => h9) rfl dX6_advance_2 ?_
  refine va_put (D := D) (ci := 6) (v := .int v_te_end) (ty := .int) (C := RX6) (T := TX6) (N := 6) hx hb hts il_X6_advance_X6 tyX6 tyX6_ok nmX6 hown hK hP hD hS 0 rfl rfl 3 (by decide) (hts _ fk_X6_advance_0) (fun _ h9 => h9) rfl (tyX6_ok 3 (by decide)) rfl rfl (Nat.le_of_ble_eq_true rfl) dX6_advance_5 (fun H locs hP hD hS => ?_)
  have hP : va_P D vwCl (wo_X6_advance cI cJ a_te a_tb v_te_length v_te_token v_te_end v_te_end v_te_value v_tb) H := hP
  have hD : va_D A (wo_X6_advance cI cJ a_te a_tb v_te_length v_te_token v_te_end v_te_end v_te_value v_tb) := hD
  exact w_X6_advance_L8 X  _ _ hf _ _ _ _ hP hD hS _ (lv_sub hl [0] rfl)
set_option maxHeartbeats 4000000 in
set_option maxRecDepth 100000 in
theorem c_X6_advance {l : Launch} {D : va_G} {cI cJ : ClassId} {g : pa_GT} {a_te a_tb : Nat}  {v_te_length : Int32} {v_te_token : Nat} {v_te_place : Int32} {v_te_end : Int32} {v_te_value : Int32} {v_tb : Nat → Int32} {o : Nat × Int32 × Int32 × Int32} (hf : f_X6_advance g v_te_length v_te_token v_te_end v_tb = some o) : pa_Mv l yX6_advance wsX6_advance rm_X6_advance D cI cJ g [.ref a_te] (wo_X6_advance cI cJ a_te a_tb v_te_length v_te_token v_te_place v_te_end v_te_value v_tb) (wo_X6_advance cI cJ a_te a_tb v_te_length o.1 o.2.1 o.2.2.1 o.2.2.2 v_tb) := by
  intro sz
  refine pa_met (cc := cX6_advance) (maxL := 1) (ret := none) (lv := [(0, .ref a_te)]) (by decide) rfl (Nat.le_of_ble_eq_true rfl) rfl ?_
  intro p e s m below meth c X hsz hP hD ls hl
  subst hsz
  exact w_X6_advance_b0 X hf hP hD va_S.rf hl
abbrev wo_X6_empty (cI cJ : ClassId) (a_te a_tb : Nat) (v_te_length : Int32) (v_te_token : Nat) (v_te_place : Int32) (v_te_end : Int32) (v_te_value : Int32) : va_W := [(a_te, .inr (6, [.ref a_tb, .int v_te_length, .ref v_te_token, .int v_te_place, .int v_te_end, .int v_te_value]))]
abbrev rm_X6_empty : Room := { frames := 0, cells := 0, slots := 0, locals := 0 }
theorem il_X6_empty_X6 : ∀ w ∈ wsX60, w ∈ wsX6_empty := by decide +kernel
theorem fk_X6_empty_0 : Cond.fieldLink RX6 15 "PostedAsks$Text" "length" "I" ∈ wsX6_empty := by decide +kernel
def f_X6_empty (v_te_length : Int32) : Option (Int32 × Int32) :=
  some (v_te_length, (0 : Int32))
set_option maxHeartbeats 4000000 in
set_option maxRecDepth 100000 in
theorem w_X6_empty_b0 {l : Launch} {D : va_G} {cI cJ : ClassId} {g : pa_GT} {a_te a_tb : Nat} {A : Nat → Prop} {p : Program} {e : Env} {s : State} {m : MethodId} {args : Array Value} {below : List Frame} {meth : Method} {c : Code} {v_te_length : Int32} {v_te_token : Nat} {v_te_place : Int32} {v_te_end : Int32} {v_te_value : Int32} {o : Int32 × Int32} (X : pa_X cX6_empty 2 (some .int) RX6 wsX6_empty D cI cJ g A p s m args meth c)  (hf : f_X6_empty v_te_length = some o) {H : Heap} {locs : List Loc} (hP : va_P D vwCl (wo_X6_empty cI cJ a_te a_tb v_te_length v_te_token v_te_place v_te_end v_te_value) H) (hD : va_D A (wo_X6_empty cI cJ a_te a_tb v_te_length v_te_token v_te_place v_te_end v_te_value)) (hS : va_S A s.heap H locs) {ls : Array Slot} (hl : lv_has ls 2 [(0, .ref a_te)]) : W p l e (headSpec wsX6_empty rm_X6_empty).room s m args below meth c H locs 0 0 (MQ below (va_Qi (fun r (_ : Unit) => r = o.1) (pa_QB D A (wo_X6_empty cI cJ a_te a_tb o.2 v_te_token v_te_place v_te_end v_te_value)) A) args s 0 0 A) (F0 m 0 ls []) := by
  obtain ⟨hx, hb, hr, hml, hown, hts, hK, hA, hG, hlk⟩ := id X
  delta f_X6_empty at hf
  refine lv_aload_n hx hb dX6_empty_0 rfl (lv_at hl 0 rfl) ?_
  refine va_get (D := D) (ci := 6) (v := .int v_te_length) (C := RX6) (T := TX6) (N := 6) hx hb hts il_X6_empty_X6 hown hK hP 0 rfl rfl 1 (by decide) (hts _ fk_X6_empty_0) (fun _ h9 => h9) rfl dX6_empty_1 ?_
  refine lv_istore_n (lv' := [(1, .int v_te_length), (0, .ref a_te)]) hx hb dX6_empty_4 rfl hl (by decide) rfl (fun ls hl => ?_)
  refine lv_aload_n hx hb dX6_empty_5 rfl (lv_at hl 1 rfl) ?_
  refine lv_iconst (v := (0 : Int32)) hx hb dX6_empty_6 (by decide) ?_
  refine va_put (D := D) (ci := 6) (v := .int (0 : Int32)) (ty := .int) (C := RX6) (T := TX6) (N := 6) hx hb hts il_X6_empty_X6 tyX6 tyX6_ok nmX6 hown hK hP hD hS 0 rfl rfl 1 (by decide) (hts _ fk_X6_empty_0) (fun _ h9 => h9) rfl (tyX6_ok 1 (by decide)) rfl rfl (Nat.le_of_ble_eq_true rfl) dX6_empty_7 (fun H locs hP hD hS => ?_)
  have hP : va_P D vwCl (wo_X6_empty cI cJ a_te a_tb (0 : Int32) v_te_token v_te_place v_te_end v_te_value) H := hP
  have hD : va_D A (wo_X6_empty cI cJ a_te a_tb (0 : Int32) v_te_token v_te_place v_te_end v_te_value) := hD
  refine lv_iload_n hx hb dX6_empty_10 rfl (lv_at hl 0 rfl) ?_
  obtain rfl := Option.some.inj hf
  exact pa_ei X hP hD hS dX6_empty_11
set_option maxHeartbeats 4000000 in
set_option maxRecDepth 100000 in
theorem c_X6_empty {l : Launch} {D : va_G} {cI cJ : ClassId} {g : pa_GT} {a_te a_tb : Nat}  {v_te_length : Int32} {v_te_token : Nat} {v_te_place : Int32} {v_te_end : Int32} {v_te_value : Int32} {o : Int32 × Int32} (hf : f_X6_empty v_te_length = some o) : pa_Mi l yX6_empty wsX6_empty rm_X6_empty D cI cJ g [.ref a_te] (wo_X6_empty cI cJ a_te a_tb v_te_length v_te_token v_te_place v_te_end v_te_value) (wo_X6_empty cI cJ a_te a_tb o.2 v_te_token v_te_place v_te_end v_te_value) o.1 := by
  intro sz
  refine pa_met (cc := cX6_empty) (maxL := 2) (ret := (some .int)) (lv := [(0, .ref a_te)]) (by decide) rfl (Nat.le_of_ble_eq_true rfl) rfl ?_
  intro p e s m below meth c X hsz hP hD ls hl
  subst hsz
  exact w_X6_empty_b0 X hf hP hD va_S.rf hl
abbrev wo_X6_append (cI cJ : ClassId) (a_te a_tb : Nat) (v_te_length : Int32) (v_te_token : Nat) (v_te_place : Int32) (v_te_end : Int32) (v_te_value : Int32) (v_tb : Nat → Int32) : va_W := [(a_te, .inr (6, [.ref a_tb, .int v_te_length, .ref v_te_token, .int v_te_place, .int v_te_end, .int v_te_value])), (a_tb, .inl (cI, 300, .inl v_tb))]
abbrev rm_X6_append : Room := { frames := 0, cells := 0, slots := 0, locals := 0 }
theorem il_X6_append_X6 : ∀ w ∈ wsX60, w ∈ wsX6_append := by decide +kernel
theorem fk_X6_append_0 : Cond.fieldLink RX6 15 "PostedAsks$Text" "length" "I" ∈ wsX6_append := by decide +kernel
theorem fk_X6_append_1 : Cond.fieldLink RX6 9 "PostedAsks$Text" "bytes" "[I" ∈ wsX6_append := by decide +kernel
def f_X6_append_L20_body (x1 : Int64) (rec20 : Int32 → Int32 → (Nat → Int32) → Option (Int32 × Int32 × (Nat → Int32))) (x4 : Int32) (v_te_length : Int32) (v_tb : Nat → Int32) : Option (Int32 × Int32 × (Nat → Int32)) :=
  if x4 < 0 then
    some (v_te_length, v_te_length, v_tb)
  else
    if pa_ib v_te_length 300 = true then
      rec20 (x4 + (-1 : Int32)) (v_te_length + (1 : Int32)) (upd v_tb (Int32.toNatClampNeg v_te_length) ((Int64.toInt32 ((Int64.toUInt64 x1 >>> (Int64.toUInt64 (Int32.toInt64 ((8 : Int32) * x4)) &&& Int64.toUInt64 63)).toInt64)) &&& (255 : Int32)))
    else none
def f_X6_append_L20 (x1 : Int64) : Nat → Int32 → Int32 → (Nat → Int32) → Option (Int32 × Int32 × (Nat → Int32))
  | 0 => fun _ _ _ => none
  | n + 1 => f_X6_append_L20_body x1 (f_X6_append_L20 x1 n)
def f_X6_append (x1 : Int64) (x3 : Int32) (v_te_length : Int32) (v_tb : Nat → Int32) : Option (Int32 × Int32 × (Nat → Int32)) :=
  if (v_te_length + x3) ≤ (300 : Int32) then
    f_X6_append_L20 x1 pa_fu (x3 - (1 : Int32)) v_te_length v_tb
  else
    some ((-3 : Int32), v_te_length, v_tb)
set_option maxHeartbeats 4000000 in
set_option maxRecDepth 100000 in
theorem w_X6_append_L20 {l : Launch} {D : va_G} {cI cJ : ClassId} {g : pa_GT} {a_te a_tb : Nat} {A : Nat → Prop} {p : Program} {e : Env} {s : State} {m : MethodId} {args : Array Value} {below : List Frame} {meth : Method} {c : Code} {x1 : Int64} {v_te_token : Nat} {v_te_place : Int32} {v_te_end : Int32} {v_te_value : Int32} {o : Int32 × Int32 × (Nat → Int32)} (X : pa_X cX6_append 5 (some .int) RX6 wsX6_append D cI cJ g A p s m args meth c)  : ∀ (n : Nat) (x4 : Int32) (v_te_length : Int32) (v_tb : Nat → Int32), f_X6_append_L20 x1 n x4 v_te_length v_tb = some o → ∀ (H : Heap) (locs : List Loc) , va_P D vwCl (wo_X6_append cI cJ a_te a_tb v_te_length v_te_token v_te_place v_te_end v_te_value v_tb) H → va_D A (wo_X6_append cI cJ a_te a_tb v_te_length v_te_token v_te_place v_te_end v_te_value v_tb) → va_S A s.heap H locs → ∀ (ls : Array Slot), lv_has ls 5 [(0, .ref a_te), (1, .long x1), (4, .int x4)] → W p l e (headSpec wsX6_append rm_X6_append).room s m args below meth c H locs 0 0 (MQ below (va_Qi (fun r (_ : Unit) => r = o.1) (pa_QB D A (wo_X6_append cI cJ a_te a_tb o.2.1 v_te_token v_te_place v_te_end v_te_value o.2.2)) A) args s 0 0 A) (F0 m 20 ls []) := by
  obtain ⟨hx, hb, hr, hml, hown, hts, hK, hA, hG, hlk⟩ := id X
  intro n
  induction n with
  | zero =>
    intro x4 v_te_length v_tb hf
    have hf : (none : Option (Int32 × Int32 × (Nat → Int32))) = some o := hf
    cases hf
  | succ n hrec20 =>
    intro x4 v_te_length v_tb hf H locs  hP hD hS ls hl
    have hf : f_X6_append_L20_body x1 (f_X6_append_L20 x1 n) x4 v_te_length v_tb = some o := hf
    delta f_X6_append_L20_body at hf
    generalize hgr : f_X6_append_L20 x1 n = rec20 at hf hrec20
    refine lv_iload hx hb dX6_append_20 (lv_at hl 2 rfl) ?_
    refine lv_if_lt (tgt := 62) hx hb dX6_append_22 (by decide) (fun c_1 => ?_) (fun c_1 => ?_)
    · have hf := (if_pos c_1).symm.trans hf
      refine lv_aload_n hx hb dX6_append_62 rfl (lv_at hl 0 rfl) ?_
      refine va_get (D := D) (ci := 6) (v := .int v_te_length) (C := RX6) (T := TX6) (N := 6) hx hb hts il_X6_append_X6 hown hK hP 0 rfl rfl 1 (by decide) (hts _ fk_X6_append_0) (fun _ h9 => h9) rfl dX6_append_63 ?_
      obtain rfl := Option.some.inj hf
      exact pa_ei X hP hD hS dX6_append_66
    · have hf := (if_neg c_1).symm.trans hf
      refine lv_aload_n hx hb dX6_append_25 rfl (lv_at hl 0 rfl) ?_
      refine va_get (D := D) (ci := 6) (v := .ref a_tb) (C := RX6) (T := TX6) (N := 6) hx hb hts il_X6_append_X6 hown hK hP 0 rfl rfl 0 (by decide) (hts _ fk_X6_append_1) (fun _ h9 => h9) rfl dX6_append_26 ?_
      refine lv_aload_n hx hb dX6_append_29 rfl (lv_at hl 0 rfl) ?_
      refine va_get (D := D) (ci := 6) (v := .int v_te_length) (C := RX6) (T := TX6) (N := 6) hx hb hts il_X6_append_X6 hown hK hP 0 rfl rfl 1 (by decide) (hts _ fk_X6_append_0) (fun _ h9 => h9) rfl dX6_append_30 ?_
      refine lv_lload_n hx hb dX6_append_33 rfl (lv_at hl 1 rfl) ?_
      refine lv_bipush (v := (8 : Int32)) hx hb dX6_append_34 (by decide) ?_
      refine lv_iload hx hb dX6_append_36 (lv_at hl 2 rfl) ?_
      refine lv_imul hx hb dX6_append_38 ?_
      refine lv_lushr (v := ((Int64.toUInt64 x1 >>> (Int64.toUInt64 (Int32.toInt64 ((8 : Int32) * x4)) &&& Int64.toUInt64 63)).toInt64)) hx hb dX6_append_39 rfl ?_
      refine lv_l2i (v := (Int64.toInt32 ((Int64.toUInt64 x1 >>> (Int64.toUInt64 (Int32.toInt64 ((8 : Int32) * x4)) &&& Int64.toUInt64 63)).toInt64))) hx hb dX6_append_40 rfl ?_
      refine lv_sipush (v := (255 : Int32)) hx hb dX6_append_41 (by decide) ?_
      refine lv_iand hx hb dX6_append_44 ?_
      obtain ⟨hi_2, hf⟩ := pa_gd hf
      refine va_iast hx hb hK hP hD hS 1 0 rfl rfl hi_2 dX6_append_45 (fun H locs hP hD hS => ?_)
      have hP : va_P D vwCl (wo_X6_append cI cJ a_te a_tb v_te_length v_te_token v_te_place v_te_end v_te_value (upd v_tb (Int32.toNatClampNeg v_te_length) ((Int64.toInt32 ((Int64.toUInt64 x1 >>> (Int64.toUInt64 (Int32.toInt64 ((8 : Int32) * x4)) &&& Int64.toUInt64 63)).toInt64)) &&& (255 : Int32)))) H := hP
      have hD : va_D A (wo_X6_append cI cJ a_te a_tb v_te_length v_te_token v_te_place v_te_end v_te_value (upd v_tb (Int32.toNatClampNeg v_te_length) ((Int64.toInt32 ((Int64.toUInt64 x1 >>> (Int64.toUInt64 (Int32.toInt64 ((8 : Int32) * x4)) &&& Int64.toUInt64 63)).toInt64)) &&& (255 : Int32)))) := hD
      refine lv_aload_n hx hb dX6_append_46 rfl (lv_at hl 0 rfl) ?_
      refine lv_dup hx hb dX6_append_47 rfl ?_
      refine va_get (D := D) (ci := 6) (v := .int v_te_length) (C := RX6) (T := TX6) (N := 6) hx hb hts il_X6_append_X6 hown hK hP 0 rfl rfl 1 (by decide) (hts _ fk_X6_append_0) (fun _ h9 => h9) rfl dX6_append_48 ?_
      refine lv_iconst (v := (1 : Int32)) hx hb dX6_append_51 (by decide) ?_
      refine lv_iadd hx hb dX6_append_52 ?_
      refine va_put (D := D) (ci := 6) (v := .int (v_te_length + (1 : Int32))) (ty := .int) (C := RX6) (T := TX6) (N := 6) hx hb hts il_X6_append_X6 tyX6 tyX6_ok nmX6 hown hK hP hD hS 0 rfl rfl 1 (by decide) (hts _ fk_X6_append_0) (fun _ h9 => h9) rfl (tyX6_ok 1 (by decide)) rfl rfl (Nat.le_of_ble_eq_true rfl) dX6_append_53 (fun H locs hP hD hS => ?_)
      have hP : va_P D vwCl (wo_X6_append cI cJ a_te a_tb (v_te_length + (1 : Int32)) v_te_token v_te_place v_te_end v_te_value (upd v_tb (Int32.toNatClampNeg v_te_length) ((Int64.toInt32 ((Int64.toUInt64 x1 >>> (Int64.toUInt64 (Int32.toInt64 ((8 : Int32) * x4)) &&& Int64.toUInt64 63)).toInt64)) &&& (255 : Int32)))) H := hP
      have hD : va_D A (wo_X6_append cI cJ a_te a_tb (v_te_length + (1 : Int32)) v_te_token v_te_place v_te_end v_te_value (upd v_tb (Int32.toNatClampNeg v_te_length) ((Int64.toInt32 ((Int64.toUInt64 x1 >>> (Int64.toUInt64 (Int32.toInt64 ((8 : Int32) * x4)) &&& Int64.toUInt64 63)).toInt64)) &&& (255 : Int32)))) := hD
      refine lv_iinc (v := (x4 + (-1 : Int32))) (lv' := [(4, .int (x4 + (-1 : Int32))), (0, .ref a_te), (1, .long x1)]) hx hb dX6_append_56 hl (k := 2) rfl rfl (by decide) rfl (fun ls hl => ?_)
      refine lv_goto (tgt := 20) hx hb dX6_append_59 (by decide) ?_
      exact hrec20 _ _ _ hf _ _  hP hD hS _ (lv_sub hl [1, 2, 0] rfl)
set_option maxHeartbeats 4000000 in
set_option maxRecDepth 100000 in
theorem w_X6_append_b0 {l : Launch} {D : va_G} {cI cJ : ClassId} {g : pa_GT} {a_te a_tb : Nat} {A : Nat → Prop} {p : Program} {e : Env} {s : State} {m : MethodId} {args : Array Value} {below : List Frame} {meth : Method} {c : Code} {x1 : Int64} {x3 : Int32} {v_te_length : Int32} {v_tb : Nat → Int32} {v_te_token : Nat} {v_te_place : Int32} {v_te_end : Int32} {v_te_value : Int32} {o : Int32 × Int32 × (Nat → Int32)} (X : pa_X cX6_append 5 (some .int) RX6 wsX6_append D cI cJ g A p s m args meth c)  (hf : f_X6_append x1 x3 v_te_length v_tb = some o) {H : Heap} {locs : List Loc} (hP : va_P D vwCl (wo_X6_append cI cJ a_te a_tb v_te_length v_te_token v_te_place v_te_end v_te_value v_tb) H) (hD : va_D A (wo_X6_append cI cJ a_te a_tb v_te_length v_te_token v_te_place v_te_end v_te_value v_tb)) (hS : va_S A s.heap H locs) {ls : Array Slot} (hl : lv_has ls 5 [(0, .ref a_te), (1, .long x1), (3, .int x3)]) : W p l e (headSpec wsX6_append rm_X6_append).room s m args below meth c H locs 0 0 (MQ below (va_Qi (fun r (_ : Unit) => r = o.1) (pa_QB D A (wo_X6_append cI cJ a_te a_tb o.2.1 v_te_token v_te_place v_te_end v_te_value o.2.2)) A) args s 0 0 A) (F0 m 0 ls []) := by
  obtain ⟨hx, hb, hr, hml, hown, hts, hK, hA, hG, hlk⟩ := id X
  delta f_X6_append at hf
  refine lv_aload_n hx hb dX6_append_0 rfl (lv_at hl 0 rfl) ?_
  refine va_get (D := D) (ci := 6) (v := .int v_te_length) (C := RX6) (T := TX6) (N := 6) hx hb hts il_X6_append_X6 hown hK hP 0 rfl rfl 1 (by decide) (hts _ fk_X6_append_0) (fun _ h9 => h9) rfl dX6_append_1 ?_
  refine lv_iload_n hx hb dX6_append_4 rfl (lv_at hl 2 rfl) ?_
  refine lv_iadd hx hb dX6_append_5 ?_
  refine lv_sipush (v := (300 : Int32)) hx hb dX6_append_6 (by decide) ?_
  refine lv_icmp_le (tgt := 15) hx hb dX6_append_9 (by decide) (fun c_3 => ?_) (fun c_3 => ?_)
  · have hf := (if_pos c_3).symm.trans hf
    refine lv_iload_n hx hb dX6_append_15 rfl (lv_at hl 2 rfl) ?_
    refine lv_iconst (v := (1 : Int32)) hx hb dX6_append_16 (by decide) ?_
    refine lv_isub hx hb dX6_append_17 ?_
    refine lv_istore (lv' := [(4, .int (x3 - (1 : Int32))), (0, .ref a_te), (1, .long x1), (3, .int x3)]) hx hb dX6_append_18 hl (by decide) rfl (fun ls hl => ?_)
    exact w_X6_append_L20 X  _ _ _ _ hf _ _  hP hD hS _ (lv_sub hl [1, 2, 0] rfl)
  · have hf := (if_neg c_3).symm.trans hf
    refine lv_bipush (v := (-3 : Int32)) hx hb dX6_append_12 (by decide) ?_
    obtain rfl := Option.some.inj hf
    exact pa_ei X hP hD hS dX6_append_14
set_option maxHeartbeats 4000000 in
set_option maxRecDepth 100000 in
theorem c_X6_append {l : Launch} {D : va_G} {cI cJ : ClassId} {g : pa_GT} {a_te a_tb : Nat} {x1 : Int64} {x3 : Int32} {v_te_length : Int32} {v_te_token : Nat} {v_te_place : Int32} {v_te_end : Int32} {v_te_value : Int32} {v_tb : Nat → Int32} {o : Int32 × Int32 × (Nat → Int32)} (hf : f_X6_append x1 x3 v_te_length v_tb = some o) : pa_Mi l yX6_append wsX6_append rm_X6_append D cI cJ g [.ref a_te, .long x1, .int x3] (wo_X6_append cI cJ a_te a_tb v_te_length v_te_token v_te_place v_te_end v_te_value v_tb) (wo_X6_append cI cJ a_te a_tb o.2.1 v_te_token v_te_place v_te_end v_te_value o.2.2) o.1 := by
  intro sz
  refine pa_met (cc := cX6_append) (maxL := 5) (ret := (some .int)) (lv := [(0, .ref a_te), (1, .long x1), (3, .int x3)]) (by decide) rfl (Nat.le_of_ble_eq_true rfl) rfl ?_
  intro p e s m below meth c X hsz hP hD ls hl
  subst hsz
  exact w_X6_append_b0 X hf hP hD va_S.rf hl
