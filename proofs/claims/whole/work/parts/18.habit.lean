abbrev wo_X2_keep (cI cJ : ClassId) (a_te a_tb a_ha a_hp a_hl a_hq a_hm : Nat) (v_te_length : Int32) (v_te_token : Nat) (v_te_place : Int32) (v_te_end : Int32) (v_te_value : Int32) (v_ha_finds : Int32) (v_hp : Nat → Int32) (v_hl : Nat → Int32) (v_hq : Nat → Int32) (v_hm : Nat → Int32) : va_W := [(a_te, .inr (6, [.ref a_tb, .int v_te_length, .ref v_te_token, .int v_te_place, .int v_te_end, .int v_te_value])), (a_ha, .inr (2, [.ref a_hp, .ref a_hl, .ref a_hq, .ref a_hm, .int v_ha_finds])), (a_hp, .inl (cI, 12, .inl v_hp)), (a_hl, .inl (cI, 12, .inl v_hl)), (a_hq, .inl (cI, 12, .inl v_hq)), (a_hm, .inl (cI, 12, .inl v_hm))]
abbrev rm_X2_keep : Room := { frames := 1, cells := 0, slots := 0, locals := 40 }
theorem il_X2_keep_X2 : ∀ w ∈ wsX20, w ∈ wsX2_keep := by decide +kernel
theorem fk_X2_keep_0 : Cond.fieldLink RX2 18 "PostedAsks$Habit" "readPatterns" "[I" ∈ wsX2_keep := by decide +kernel
theorem fk_X2_keep_1 : Cond.fieldLink RX2 9 "PostedAsks$Habit" "patterns" "[I" ∈ wsX2_keep := by decide +kernel
theorem fk_X2_keep_2 : Cond.methodLink RX2 56 arraycopyName ∈ wsX2_keep := by decide +kernel
theorem fk_X2_keep_3 : Cond.native arraycopyName ∈ wsX2_keep := by decide +kernel
theorem fk_X2_keep_4 : Cond.static arraycopyName ∈ wsX2_keep := by decide +kernel
theorem fk_X2_keep_5 : Cond.initialized "java/lang/System" ∈ wsX2_keep := by decide +kernel
theorem fk_X2_keep_6 : Cond.fieldLink RX2 21 "PostedAsks$Habit" "readLimits" "[I" ∈ wsX2_keep := by decide +kernel
theorem fk_X2_keep_7 : Cond.fieldLink RX2 15 "PostedAsks$Habit" "limits" "[I" ∈ wsX2_keep := by decide +kernel
theorem fk_X2_keep_8 : Cond.fieldLink RX2 24 "PostedAsks$Habit" "finds" "I" ∈ wsX2_keep := by decide +kernel
def f_X2_keep (x1 : Int32) (v_te_length : Int32) (v_hp : Nat → Int32) (v_hl : Nat → Int32) (v_hq : Nat → Int32) (v_hm : Nat → Int32) : Option (Int32 × Int32 × Int32 × (Nat → Int32) × (Nat → Int32)) :=
  (f_X6_empty v_te_length).bind fun u_1 =>
  some (x1, u_1.2, x1, (va_cpy v_hq v_hp (Int32.toNatClampNeg (0 : Int32)) (Int32.toNatClampNeg (0 : Int32)) (Int32.toNatClampNeg (12 : Int32))), (va_cpy v_hm v_hl (Int32.toNatClampNeg (0 : Int32)) (Int32.toNatClampNeg (0 : Int32)) (Int32.toNatClampNeg (12 : Int32))))
set_option maxHeartbeats 4000000 in
set_option maxRecDepth 100000 in
theorem w_X2_keep_b0 {l : Launch} {D : va_G} {cI cJ : ClassId} {g : pa_GT} {a_te a_tb a_ha a_hp a_hl a_hq a_hm : Nat} {A : Nat → Prop} {p : Program} {e : Env} {s : State} {m : MethodId} {args : Array Value} {below : List Frame} {meth : Method} {c : Code} {x1 : Int32} {v_te_length : Int32} {v_hp : Nat → Int32} {v_hl : Nat → Int32} {v_hq : Nat → Int32} {v_hm : Nat → Int32} {v_te_token : Nat} {v_te_place : Int32} {v_te_end : Int32} {v_te_value : Int32} {v_ha_finds : Int32} {o : Int32 × Int32 × Int32 × (Nat → Int32) × (Nat → Int32)} (X : pa_X cX2_keep 3 (some .int) RX2 wsX2_keep D cI cJ g A p s m args meth c)  (hf : f_X2_keep x1 v_te_length v_hp v_hl v_hq v_hm = some o) {H : Heap} {locs : List Loc} (hP : va_P D vwCl (wo_X2_keep cI cJ a_te a_tb a_ha a_hp a_hl a_hq a_hm v_te_length v_te_token v_te_place v_te_end v_te_value v_ha_finds v_hp v_hl v_hq v_hm) H) (hD : va_D A (wo_X2_keep cI cJ a_te a_tb a_ha a_hp a_hl a_hq a_hm v_te_length v_te_token v_te_place v_te_end v_te_value v_ha_finds v_hp v_hl v_hq v_hm)) (hS : va_S A s.heap H locs) {ls : Array Slot} (hl : lv_has ls 3 [(0, .ref a_ha), (1, .int x1), (2, .ref a_te)]) : W p l e (headSpec wsX2_keep rm_X2_keep).room s m args below meth c H locs 0 0 (MQ below (va_Qi (fun r (_ : Unit) => r = o.1) (pa_QB D A (wo_X2_keep cI cJ a_te a_tb a_ha a_hp a_hl a_hq a_hm o.2.1 v_te_token v_te_place v_te_end v_te_value o.2.2.1 o.2.2.2.1 o.2.2.2.2 v_hq v_hm)) A) args s 0 0 A) (F0 m 0 ls []) := by
  obtain ⟨hx, hb, hr, hml, hown, hts, hK, hA, hG, hlk⟩ := id X
  delta f_X2_keep at hf
  refine lv_aload_n hx hb dX2_keep_0 rfl (lv_at hl 0 rfl) ?_
  refine va_get (D := D) (ci := 2) (v := .ref a_hq) (C := RX2) (T := TX2) (N := 5) hx hb hts il_X2_keep_X2 hown hK hP 1 rfl rfl 2 (by decide) (hts _ fk_X2_keep_0) (fun _ h9 => h9) rfl dX2_keep_1 ?_
  refine lv_iconst (v := (0 : Int32)) hx hb dX2_keep_4 (by decide) ?_
  refine lv_aload_n hx hb dX2_keep_5 rfl (lv_at hl 0 rfl) ?_
  refine va_get (D := D) (ci := 2) (v := .ref a_hp) (C := RX2) (T := TX2) (N := 5) hx hb hts il_X2_keep_X2 hown hK hP 1 rfl rfl 0 (by decide) (hts _ fk_X2_keep_1) (fun _ h9 => h9) rfl dX2_keep_6 ?_
  refine lv_iconst (v := (0 : Int32)) hx hb dX2_keep_9 (by decide) ?_
  refine lv_bipush (v := (12 : Int32)) hx hb dX2_keep_10 (by decide) ?_
  refine va_copyi hx hb (hml.trans hl.1.symm) hown (hts _ fk_X2_keep_2) (hts _ fk_X2_keep_3) (hts _ fk_X2_keep_4) (hts _ fk_X2_keep_5) hK hP hD hS 4 2 0 0 rfl rfl rfl rfl rfl (by decide) (by decide) (by decide) (by decide) (by decide) (fun _ _ => rfl) (Nat.le_of_ble_eq_true rfl) (Nat.le_of_ble_eq_true rfl) dX2_keep_12 (fun H locs hP hD hS => ?_)
  have hP : va_P D vwCl (wo_X2_keep cI cJ a_te a_tb a_ha a_hp a_hl a_hq a_hm v_te_length v_te_token v_te_place v_te_end v_te_value v_ha_finds (va_cpy v_hq v_hp (Int32.toNatClampNeg (0 : Int32)) (Int32.toNatClampNeg (0 : Int32)) (Int32.toNatClampNeg (12 : Int32))) v_hl v_hq v_hm) H := hP
  have hD : va_D A (wo_X2_keep cI cJ a_te a_tb a_ha a_hp a_hl a_hq a_hm v_te_length v_te_token v_te_place v_te_end v_te_value v_ha_finds (va_cpy v_hq v_hp (Int32.toNatClampNeg (0 : Int32)) (Int32.toNatClampNeg (0 : Int32)) (Int32.toNatClampNeg (12 : Int32))) v_hl v_hq v_hm) := hD
  refine lv_aload_n hx hb dX2_keep_15 rfl (lv_at hl 0 rfl) ?_
  refine va_get (D := D) (ci := 2) (v := .ref a_hm) (C := RX2) (T := TX2) (N := 5) hx hb hts il_X2_keep_X2 hown hK hP 1 rfl rfl 3 (by decide) (hts _ fk_X2_keep_6) (fun _ h9 => h9) rfl dX2_keep_16 ?_
  refine lv_iconst (v := (0 : Int32)) hx hb dX2_keep_19 (by decide) ?_
  refine lv_aload_n hx hb dX2_keep_20 rfl (lv_at hl 0 rfl) ?_
  refine va_get (D := D) (ci := 2) (v := .ref a_hl) (C := RX2) (T := TX2) (N := 5) hx hb hts il_X2_keep_X2 hown hK hP 1 rfl rfl 1 (by decide) (hts _ fk_X2_keep_7) (fun _ h9 => h9) rfl dX2_keep_21 ?_
  refine lv_iconst (v := (0 : Int32)) hx hb dX2_keep_24 (by decide) ?_
  refine lv_bipush (v := (12 : Int32)) hx hb dX2_keep_25 (by decide) ?_
  refine va_copyi hx hb (hml.trans hl.1.symm) hown (hts _ fk_X2_keep_2) (hts _ fk_X2_keep_3) (hts _ fk_X2_keep_4) (hts _ fk_X2_keep_5) hK hP hD hS 5 3 0 0 rfl rfl rfl rfl rfl (by decide) (by decide) (by decide) (by decide) (by decide) (fun _ _ => rfl) (Nat.le_of_ble_eq_true rfl) (Nat.le_of_ble_eq_true rfl) dX2_keep_27 (fun H locs hP hD hS => ?_)
  have hP : va_P D vwCl (wo_X2_keep cI cJ a_te a_tb a_ha a_hp a_hl a_hq a_hm v_te_length v_te_token v_te_place v_te_end v_te_value v_ha_finds (va_cpy v_hq v_hp (Int32.toNatClampNeg (0 : Int32)) (Int32.toNatClampNeg (0 : Int32)) (Int32.toNatClampNeg (12 : Int32))) (va_cpy v_hm v_hl (Int32.toNatClampNeg (0 : Int32)) (Int32.toNatClampNeg (0 : Int32)) (Int32.toNatClampNeg (12 : Int32))) v_hq v_hm) H := hP
  have hD : va_D A (wo_X2_keep cI cJ a_te a_tb a_ha a_hp a_hl a_hq a_hm v_te_length v_te_token v_te_place v_te_end v_te_value v_ha_finds (va_cpy v_hq v_hp (Int32.toNatClampNeg (0 : Int32)) (Int32.toNatClampNeg (0 : Int32)) (Int32.toNatClampNeg (12 : Int32))) (va_cpy v_hm v_hl (Int32.toNatClampNeg (0 : Int32)) (Int32.toNatClampNeg (0 : Int32)) (Int32.toNatClampNeg (12 : Int32))) v_hq v_hm) := hD
  refine lv_aload_n hx hb dX2_keep_30 rfl (lv_at hl 0 rfl) ?_
  refine lv_iload_n hx hb dX2_keep_31 rfl (lv_at hl 1 rfl) ?_
  refine va_put (D := D) (ci := 2) (v := .int x1) (ty := .int) (C := RX2) (T := TX2) (N := 5) hx hb hts il_X2_keep_X2 tyX2 tyX2_ok nmX2 hown hK hP hD hS 1 rfl rfl 4 (by decide) (hts _ fk_X2_keep_8) (fun _ h9 => h9) rfl (tyX2_ok 4 (by decide)) rfl rfl (Nat.le_of_ble_eq_true rfl) dX2_keep_32 (fun H locs hP hD hS => ?_)
  have hP : va_P D vwCl (wo_X2_keep cI cJ a_te a_tb a_ha a_hp a_hl a_hq a_hm v_te_length v_te_token v_te_place v_te_end v_te_value x1 (va_cpy v_hq v_hp (Int32.toNatClampNeg (0 : Int32)) (Int32.toNatClampNeg (0 : Int32)) (Int32.toNatClampNeg (12 : Int32))) (va_cpy v_hm v_hl (Int32.toNatClampNeg (0 : Int32)) (Int32.toNatClampNeg (0 : Int32)) (Int32.toNatClampNeg (12 : Int32))) v_hq v_hm) H := hP
  have hD : va_D A (wo_X2_keep cI cJ a_te a_tb a_ha a_hp a_hl a_hq a_hm v_te_length v_te_token v_te_place v_te_end v_te_value x1 (va_cpy v_hq v_hp (Int32.toNatClampNeg (0 : Int32)) (Int32.toNatClampNeg (0 : Int32)) (Int32.toNatClampNeg (12 : Int32))) (va_cpy v_hm v_hl (Int32.toNatClampNeg (0 : Int32)) (Int32.toNatClampNeg (0 : Int32)) (Int32.toNatClampNeg (12 : Int32))) v_hq v_hm) := hD
  refine lv_aload_n hx hb dX2_keep_35 rfl (lv_at hl 2 rfl) ?_
  obtain ⟨u_1, hg_2, hf⟩ := pa_bd hf
  refine pa_ki (wc := (wo_X6_empty cI cJ a_te a_tb v_te_length v_te_token v_te_place v_te_end v_te_value)) (wr := [(a_ha, .inr (2, [.ref a_hp, .ref a_hl, .ref a_hq, .ref a_hm, .int x1])), (a_hp, .inl (cI, 12, .inl (va_cpy v_hq v_hp (Int32.toNatClampNeg (0 : Int32)) (Int32.toNatClampNeg (0 : Int32)) (Int32.toNatClampNeg (12 : Int32))))), (a_hl, .inl (cI, 12, .inl (va_cpy v_hm v_hl (Int32.toNatClampNeg (0 : Int32)) (Int32.toNatClampNeg (0 : Int32)) (Int32.toNatClampNeg (12 : Int32))))), (a_hq, .inl (cI, 12, .inl v_hq)), (a_hm, .inl (cI, 12, .inl v_hm))]) (w1 := (wo_X6_empty cI cJ a_te a_tb u_1.2 v_te_token v_te_place v_te_end v_te_value)) (w2 := (wo_X2_keep cI cJ a_te a_tb a_ha a_hp a_hl a_hq a_hm u_1.2 v_te_token v_te_place v_te_end v_te_value x1 (va_cpy v_hq v_hp (Int32.toNatClampNeg (0 : Int32)) (Int32.toNatClampNeg (0 : Int32)) (Int32.toNatClampNeg (12 : Int32))) (va_cpy v_hm v_hl (Int32.toNatClampNeg (0 : Int32)) (Int32.toNatClampNeg (0 : Int32)) (Int32.toNatClampNeg (12 : Int32))) v_hq v_hm)) X hP hD hS [0] [1, 2, 3, 4, 5] [5, 0, 1, 2, 3, 4] rfl (pa_rV (As := []) (rest := []) (T := TX6) X hP hD hS [0] rfl rfl (c_X6_empty hg_2 H.size) (cwV 0 hts gX2_keep_X6_empty rfl rfl rfl (by decide +kernel) ⟨Nat.le_of_ble_eq_true rfl, Nat.le_of_ble_eq_true rfl⟩) (q0 := 0) rfl rfl rfl hl.1 rfl (Nat.le_of_ble_eq_true rfl) dX2_keep_36 ⟨Nat.zero_le _, Nat.zero_le _⟩) rfl rfl (by decide) rfl rfl (fun H locs hP hD hS => ?_)
  refine lv_pop hx hb dX2_keep_39 rfl ?_
  refine lv_aload_n hx hb dX2_keep_40 rfl (lv_at hl 0 rfl) ?_
  refine va_get (D := D) (ci := 2) (v := .int x1) (C := RX2) (T := TX2) (N := 5) hx hb hts il_X2_keep_X2 hown hK hP 1 rfl rfl 4 (by decide) (hts _ fk_X2_keep_8) (fun _ h9 => h9) rfl dX2_keep_41 ?_
  obtain rfl := Option.some.inj hf
  exact pa_ei X hP hD hS dX2_keep_44
set_option maxHeartbeats 4000000 in
set_option maxRecDepth 100000 in
theorem c_X2_keep {l : Launch} {D : va_G} {cI cJ : ClassId} {g : pa_GT} {a_te a_tb a_ha a_hp a_hl a_hq a_hm : Nat} {x1 : Int32} {v_te_length : Int32} {v_te_token : Nat} {v_te_place : Int32} {v_te_end : Int32} {v_te_value : Int32} {v_ha_finds : Int32} {v_hp : Nat → Int32} {v_hl : Nat → Int32} {v_hq : Nat → Int32} {v_hm : Nat → Int32} {o : Int32 × Int32 × Int32 × (Nat → Int32) × (Nat → Int32)} (hf : f_X2_keep x1 v_te_length v_hp v_hl v_hq v_hm = some o) : pa_Mi l yX2_keep wsX2_keep rm_X2_keep D cI cJ g [.ref a_ha, .int x1, .ref a_te] (wo_X2_keep cI cJ a_te a_tb a_ha a_hp a_hl a_hq a_hm v_te_length v_te_token v_te_place v_te_end v_te_value v_ha_finds v_hp v_hl v_hq v_hm) (wo_X2_keep cI cJ a_te a_tb a_ha a_hp a_hl a_hq a_hm o.2.1 v_te_token v_te_place v_te_end v_te_value o.2.2.1 o.2.2.2.1 o.2.2.2.2 v_hq v_hm) o.1 := by
  intro sz
  refine pa_met (cc := cX2_keep) (maxL := 3) (ret := (some .int)) (lv := [(0, .ref a_ha), (1, .int x1), (2, .ref a_te)]) (by decide) rfl (Nat.le_of_ble_eq_true rfl) rfl ?_
  intro p e s m below meth c X hsz hP hD ls hl
  subst hsz
  exact w_X2_keep_b0 X hf hP hD va_S.rf hl
abbrev wo_X2_readFind (cI cJ : ClassId) (a_te a_tb a_ha a_hp a_hl a_hq a_hm : Nat) (v_te_length : Int32) (v_te_token : Nat) (v_te_place : Int32) (v_te_end : Int32) (v_te_value : Int32) (v_tb : Nat → Int32) (v_ha_finds : Int32) (v_hq : Nat → Int32) (v_hm : Nat → Int32) : va_W := [(a_te, .inr (6, [.ref a_tb, .int v_te_length, .ref v_te_token, .int v_te_place, .int v_te_end, .int v_te_value])), (a_tb, .inl (cI, 300, .inl v_tb)), (a_ha, .inr (2, [.ref a_hp, .ref a_hl, .ref a_hq, .ref a_hm, .int v_ha_finds])), (a_hq, .inl (cI, 12, .inl v_hq)), (a_hm, .inl (cI, 12, .inl v_hm))]
abbrev rm_X2_readFind : Room := { frames := 7, cells := 0, slots := 0, locals := 147 }
theorem il_X2_readFind_X6 : ∀ w ∈ wsX60, w ∈ wsX2_readFind := by decide +kernel
theorem il_X2_readFind_X2 : ∀ w ∈ wsX20, w ∈ wsX2_readFind := by decide +kernel
theorem fk_X2_readFind_0 : Cond.fieldLink RX2 85 "PostedAsks$Token" "SEMICOLON" "LPostedAsks$Token;" ∈ wsX2_readFind := by decide +kernel
theorem fk_X2_readFind_1 : Cond.fieldLink RX2 72 "PostedAsks$Token" "PATTERN" "LPostedAsks$Token;" ∈ wsX2_readFind := by decide +kernel
theorem fk_X2_readFind_2 : Cond.fieldLink RX2 18 "PostedAsks$Habit" "readPatterns" "[I" ∈ wsX2_readFind := by decide +kernel
theorem fk_X2_readFind_3 : Cond.fieldLink RX2 21 "PostedAsks$Habit" "readLimits" "[I" ∈ wsX2_readFind := by decide +kernel
theorem fk_X2_readFind_4 : Cond.fieldLink RX2 78 "PostedAsks$Token" "NUMBER" "LPostedAsks$Token;" ∈ wsX2_readFind := by decide +kernel
theorem fk_X2_readFind_5 : Cond.initialized RX9 ∈ wsX2_readFind := by decide +kernel
theorem fk_X2_readFind_6 : Cond.static yX9_within ∈ wsX2_readFind := by decide +kernel
theorem fk_X2_readFind_7 : Cond.fieldLink RX2 69 "PostedAsks$Token" "ALL" "LPostedAsks$Token;" ∈ wsX2_readFind := by decide +kernel
theorem fk_X2_readFind_8 : Cond.fieldLink RX2 66 "PostedAsks$Token" "FIND" "LPostedAsks$Token;" ∈ wsX2_readFind := by decide +kernel
def f_X2_readFind_b113 (g : pa_GT) (v_te_token : Nat) (v_te_place : Int32) (v_te_end : Int32) (v_te_value : Int32) (v_hq : Nat → Int32) (v_hm : Nat → Int32) : Option (Int32 × Nat × Int32 × Int32 × Int32 × (Nat → Int32) × (Nat → Int32)) :=
  if v_te_token = (g.1 4) then
    some ((1 : Int32), v_te_token, v_te_place, v_te_end, v_te_value, v_hq, v_hm)
  else
    some ((0 : Int32), v_te_token, v_te_place, v_te_end, v_te_value, v_hq, v_hm)
def f_X2_readFind_b32 (g : pa_GT) (x2 : Int32) (x3 : Int32) (v_te_length : Int32) (v_te_token : Nat) (v_te_place : Int32) (v_te_end : Int32) (v_te_value : Int32) (v_tb : Nat → Int32) (v_hq : Nat → Int32) (v_hm : Nat → Int32) : Option (Int32 × Nat × Int32 × Int32 × Int32 × (Nat → Int32) × (Nat → Int32)) :=
  (f_X6_advance g v_te_length v_te_token v_te_end v_tb).bind fun u_2 =>
  if u_2.1 = (g.1 2) then
    if pa_ib x2 12 = true then
      (f_X6_advance g v_te_length u_2.1 u_2.2.2.1 v_tb).bind fun u_7 =>
      if x3 = 0 then
        f_X2_readFind_b113 g u_7.1 u_7.2.1 u_7.2.2.1 u_7.2.2.2 (upd v_hq (Int32.toNatClampNeg x2) u_2.2.2.2) (upd v_hm (Int32.toNatClampNeg x2) (50 : Int32))
      else
        if u_7.1 = (g.1 3) then
          (f_X9_within u_7.2.2.2 (1 : Int32) (50 : Int32)).bind fun u_11 =>
          if u_11 = 0 then
            some ((0 : Int32), u_7.1, u_7.2.1, u_7.2.2.1, u_7.2.2.2, (upd v_hq (Int32.toNatClampNeg x2) u_2.2.2.2), (upd v_hm (Int32.toNatClampNeg x2) (50 : Int32)))
          else
            (f_X6_advance g v_te_length u_7.1 u_7.2.2.1 v_tb).bind fun u_15 =>
            f_X2_readFind_b113 g u_15.1 u_15.2.1 u_15.2.2.1 u_15.2.2.2 (upd v_hq (Int32.toNatClampNeg x2) u_2.2.2.2) (upd (upd v_hm (Int32.toNatClampNeg x2) (50 : Int32)) (Int32.toNatClampNeg x2) u_7.2.2.2)
        else
          some ((0 : Int32), u_7.1, u_7.2.1, u_7.2.2.1, u_7.2.2.2, (upd v_hq (Int32.toNatClampNeg x2) u_2.2.2.2), (upd v_hm (Int32.toNatClampNeg x2) (50 : Int32)))
    else none
  else
    some ((0 : Int32), u_2.1, u_2.2.1, u_2.2.2.1, u_2.2.2.2, v_hq, v_hm)
def f_X2_readFind_b15 (g : pa_GT) (x2 : Int32) (s0 : Int32) (v_te_length : Int32) (v_te_token : Nat) (v_te_place : Int32) (v_te_end : Int32) (v_te_value : Int32) (v_tb : Nat → Int32) (v_hq : Nat → Int32) (v_hm : Nat → Int32) : Option (Int32 × Nat × Int32 × Int32 × Int32 × (Nat → Int32) × (Nat → Int32)) :=
  if s0 = 0 then
    if v_te_token = (g.1 1) then
      f_X2_readFind_b32 g x2 s0 v_te_length v_te_token v_te_place v_te_end v_te_value v_tb v_hq v_hm
    else
      some ((0 : Int32), v_te_token, v_te_place, v_te_end, v_te_value, v_hq, v_hm)
  else
    f_X2_readFind_b32 g x2 s0 v_te_length v_te_token v_te_place v_te_end v_te_value v_tb v_hq v_hm
def f_X2_readFind (g : pa_GT) (x2 : Int32) (v_te_length : Int32) (v_te_token : Nat) (v_te_place : Int32) (v_te_end : Int32) (v_te_value : Int32) (v_tb : Nat → Int32) (v_hq : Nat → Int32) (v_hm : Nat → Int32) : Option (Int32 × Nat × Int32 × Int32 × Int32 × (Nat → Int32) × (Nat → Int32)) :=
  if v_te_token = (g.1 0) then
    f_X2_readFind_b15 g x2 (1 : Int32) v_te_length v_te_token v_te_place v_te_end v_te_value v_tb v_hq v_hm
  else
    f_X2_readFind_b15 g x2 (0 : Int32) v_te_length v_te_token v_te_place v_te_end v_te_value v_tb v_hq v_hm
set_option maxHeartbeats 4000000 in
set_option maxRecDepth 100000 in
theorem w_X2_readFind_b113 {l : Launch} {D : va_G} {cI cJ : ClassId} {g : pa_GT} {a_te a_tb a_ha a_hp a_hl a_hq a_hm : Nat} {A : Nat → Prop} {p : Program} {e : Env} {s : State} {m : MethodId} {args : Array Value} {below : List Frame} {meth : Method} {c : Code} {v_te_token : Nat} {v_te_place : Int32} {v_te_end : Int32} {v_te_value : Int32} {v_hq : Nat → Int32} {v_hm : Nat → Int32} {v_te_length : Int32} {v_tb : Nat → Int32} {v_ha_finds : Int32} {o : Int32 × Nat × Int32 × Int32 × Int32 × (Nat → Int32) × (Nat → Int32)} (X : pa_X cX2_readFind 4 (some .boolean) RX2 wsX2_readFind D cI cJ g A p s m args meth c)  (hf : f_X2_readFind_b113 g v_te_token v_te_place v_te_end v_te_value v_hq v_hm = some o) {H : Heap} {locs : List Loc} (hP : va_P D vwCl (wo_X2_readFind cI cJ a_te a_tb a_ha a_hp a_hl a_hq a_hm v_te_length v_te_token v_te_place v_te_end v_te_value v_tb v_ha_finds v_hq v_hm) H) (hD : va_D A (wo_X2_readFind cI cJ a_te a_tb a_ha a_hp a_hl a_hq a_hm v_te_length v_te_token v_te_place v_te_end v_te_value v_tb v_ha_finds v_hq v_hm)) (hS : va_S A s.heap H locs) {ls : Array Slot} (hl : lv_has ls 4 [(1, .ref a_te)]) : W p l e (headSpec wsX2_readFind rm_X2_readFind).room s m args below meth c H locs 0 0 (MQ below (va_Qi (fun r (_ : Unit) => r = o.1) (pa_QB D A (wo_X2_readFind cI cJ a_te a_tb a_ha a_hp a_hl a_hq a_hm v_te_length o.2.1 o.2.2.1 o.2.2.2.1 o.2.2.2.2.1 v_tb v_ha_finds o.2.2.2.2.2.1 o.2.2.2.2.2.2)) A) args s 0 0 A) (F0 m 113 ls []) := by
  obtain ⟨hx, hb, hr, hml, hown, hts, hK, hA, hG, hlk⟩ := id X
  delta f_X2_readFind_b113 at hf
  refine lv_aload_n hx hb dX2_readFind_113 rfl (lv_at hl 0 rfl) ?_
  refine va_getN (D := D) (ci := 6) (v := .ref v_te_token) (C := RX6) (T := TX6) (N := 6) hx hb hts il_X2_readFind_X6 hown hK hP 0 rfl rfl 2 (by decide) (va_Nw.use rfl (hG.1 _ (List.mem_of_getElem? (i := 2) rfl))) (fun _ h9 => h9) rfl dX2_readFind_114 ?_
  refine va_gets (C := "PostedAsks$Token") hx hb (hG.2.1.1 4 (by decide)).1 hS hown (hts _ fk_X2_readFind_0) (fun _ h9 => h9) dX2_readFind_117 ?_
  refine lv_acmp_ne (rx := some v_te_token) (ry := some (g.1 4)) (tgt := 127) hx hb dX2_readFind_120 (by decide) (fun c_1 => ?_) (fun c_1 => ?_)
  · have c_1 : ¬ v_te_token = (g.1 4) := fun h => c_1 (congrArg some h)
    have hf := (if_neg c_1).symm.trans hf
    refine lv_iconst (v := (0 : Int32)) hx hb dX2_readFind_127 (by decide) ?_
    obtain rfl := Option.some.inj hf
    exact pa_ez (v := (0 : Int32)) X hP hD hS rfl dX2_readFind_128
  · have c_1 := Option.some.inj c_1
    have hf := (if_pos c_1).symm.trans hf
    refine lv_iconst (v := (1 : Int32)) hx hb dX2_readFind_123 (by decide) ?_
    refine lv_goto (tgt := 128) hx hb dX2_readFind_124 (by decide) ?_
    obtain rfl := Option.some.inj hf
    exact pa_ez (v := (1 : Int32)) X hP hD hS rfl dX2_readFind_128
set_option maxHeartbeats 4000000 in
set_option maxRecDepth 100000 in
theorem w_X2_readFind_b32 {l : Launch} {D : va_G} {cI cJ : ClassId} {g : pa_GT} {a_te a_tb a_ha a_hp a_hl a_hq a_hm : Nat} {A : Nat → Prop} {p : Program} {e : Env} {s : State} {m : MethodId} {args : Array Value} {below : List Frame} {meth : Method} {c : Code} {x2 : Int32} {x3 : Int32} {v_te_length : Int32} {v_te_token : Nat} {v_te_place : Int32} {v_te_end : Int32} {v_te_value : Int32} {v_tb : Nat → Int32} {v_hq : Nat → Int32} {v_hm : Nat → Int32} {v_ha_finds : Int32} {o : Int32 × Nat × Int32 × Int32 × Int32 × (Nat → Int32) × (Nat → Int32)} (X : pa_X cX2_readFind 4 (some .boolean) RX2 wsX2_readFind D cI cJ g A p s m args meth c)  (hf : f_X2_readFind_b32 g x2 x3 v_te_length v_te_token v_te_place v_te_end v_te_value v_tb v_hq v_hm = some o) {H : Heap} {locs : List Loc} (hP : va_P D vwCl (wo_X2_readFind cI cJ a_te a_tb a_ha a_hp a_hl a_hq a_hm v_te_length v_te_token v_te_place v_te_end v_te_value v_tb v_ha_finds v_hq v_hm) H) (hD : va_D A (wo_X2_readFind cI cJ a_te a_tb a_ha a_hp a_hl a_hq a_hm v_te_length v_te_token v_te_place v_te_end v_te_value v_tb v_ha_finds v_hq v_hm)) (hS : va_S A s.heap H locs) {ls : Array Slot} (hl : lv_has ls 4 [(0, .ref a_ha), (1, .ref a_te), (2, .int x2), (3, .int x3)]) : W p l e (headSpec wsX2_readFind rm_X2_readFind).room s m args below meth c H locs 0 0 (MQ below (va_Qi (fun r (_ : Unit) => r = o.1) (pa_QB D A (wo_X2_readFind cI cJ a_te a_tb a_ha a_hp a_hl a_hq a_hm v_te_length o.2.1 o.2.2.1 o.2.2.2.1 o.2.2.2.2.1 v_tb v_ha_finds o.2.2.2.2.2.1 o.2.2.2.2.2.2)) A) args s 0 0 A) (F0 m 32 ls []) := by
  obtain ⟨hx, hb, hr, hml, hown, hts, hK, hA, hG, hlk⟩ := id X
  delta f_X2_readFind_b32 at hf
  refine lv_aload_n hx hb dX2_readFind_32 rfl (lv_at hl 1 rfl) ?_
  obtain ⟨u_2, hg_3, hf⟩ := pa_bd hf
  refine pa_kv (wc := (wo_X6_advance cI cJ a_te a_tb v_te_length v_te_token v_te_place v_te_end v_te_value v_tb)) (wr := [(a_ha, .inr (2, [.ref a_hp, .ref a_hl, .ref a_hq, .ref a_hm, .int v_ha_finds])), (a_hq, .inl (cI, 12, .inl v_hq)), (a_hm, .inl (cI, 12, .inl v_hm))]) (w1 := (wo_X6_advance cI cJ a_te a_tb v_te_length u_2.1 u_2.2.1 u_2.2.2.1 u_2.2.2.2 v_tb)) (w2 := (wo_X2_readFind cI cJ a_te a_tb a_ha a_hp a_hl a_hq a_hm v_te_length u_2.1 u_2.2.1 u_2.2.2.1 u_2.2.2.2 v_tb v_ha_finds v_hq v_hm)) X hP hD hS [0, 1] [2, 3, 4] [3, 4, 0, 1, 2] rfl (pa_rV (As := []) (rest := []) (T := TX6) X hP hD hS [0, 1] rfl rfl (c_X6_advance hg_3 H.size) (cwV 0 hts gX2_readFind_X6_advance rfl rfl rfl (by decide +kernel) ⟨Nat.le_of_ble_eq_true rfl, Nat.le_of_ble_eq_true rfl⟩) (q0 := 0) rfl rfl rfl hl.1 rfl (Nat.le_of_ble_eq_true rfl) dX2_readFind_33 ⟨Nat.zero_le _, Nat.zero_le _⟩) rfl rfl (by decide) rfl rfl (fun H locs hP hD hS => ?_)
  refine lv_aload_n hx hb dX2_readFind_36 rfl (lv_at hl 1 rfl) ?_
  refine va_getN (D := D) (ci := 6) (v := .ref u_2.1) (C := RX6) (T := TX6) (N := 6) hx hb hts il_X2_readFind_X6 hown hK hP 0 rfl rfl 2 (by decide) (va_Nw.use rfl (hG.1 _ (List.mem_of_getElem? (i := 2) rfl))) (fun _ h9 => h9) rfl dX2_readFind_37 ?_
  refine va_gets (C := "PostedAsks$Token") hx hb (hG.2.1.1 2 (by decide)).1 hS hown (hts _ fk_X2_readFind_1) (fun _ h9 => h9) dX2_readFind_40 ?_
  refine lv_acmp_eq (rx := some u_2.1) (ry := some (g.1 2)) (tgt := 48) hx hb dX2_readFind_43 (by decide) (fun c_4 => ?_) (fun c_4 => ?_)
  · have c_4 := Option.some.inj c_4
    have hf := (if_pos c_4).symm.trans hf
    refine lv_aload_n hx hb dX2_readFind_48 rfl (lv_at hl 0 rfl) ?_
    refine va_get (D := D) (ci := 2) (v := .ref a_hq) (C := RX2) (T := TX2) (N := 5) hx hb hts il_X2_readFind_X2 hown hK hP 2 rfl rfl 2 (by decide) (hts _ fk_X2_readFind_2) (fun _ h9 => h9) rfl dX2_readFind_49 ?_
    refine lv_iload_n hx hb dX2_readFind_52 rfl (lv_at hl 2 rfl) ?_
    refine lv_aload_n hx hb dX2_readFind_53 rfl (lv_at hl 1 rfl) ?_
    refine va_getN (D := D) (ci := 6) (v := .int u_2.2.2.2) (C := RX6) (T := TX6) (N := 6) hx hb hts il_X2_readFind_X6 hown hK hP 0 rfl rfl 5 (by decide) (va_Nw.use rfl (hG.1 _ (List.mem_of_getElem? (i := 4) rfl))) (fun _ h9 => h9) rfl dX2_readFind_54 ?_
    obtain ⟨hi_5, hf⟩ := pa_gd hf
    refine va_iast hx hb hK hP hD hS 3 0 rfl rfl hi_5 dX2_readFind_57 (fun H locs hP hD hS => ?_)
    have hP : va_P D vwCl (wo_X2_readFind cI cJ a_te a_tb a_ha a_hp a_hl a_hq a_hm v_te_length u_2.1 u_2.2.1 u_2.2.2.1 u_2.2.2.2 v_tb v_ha_finds (upd v_hq (Int32.toNatClampNeg x2) u_2.2.2.2) v_hm) H := hP
    have hD : va_D A (wo_X2_readFind cI cJ a_te a_tb a_ha a_hp a_hl a_hq a_hm v_te_length u_2.1 u_2.2.1 u_2.2.2.1 u_2.2.2.2 v_tb v_ha_finds (upd v_hq (Int32.toNatClampNeg x2) u_2.2.2.2) v_hm) := hD
    refine lv_aload_n hx hb dX2_readFind_58 rfl (lv_at hl 0 rfl) ?_
    refine va_get (D := D) (ci := 2) (v := .ref a_hm) (C := RX2) (T := TX2) (N := 5) hx hb hts il_X2_readFind_X2 hown hK hP 2 rfl rfl 3 (by decide) (hts _ fk_X2_readFind_3) (fun _ h9 => h9) rfl dX2_readFind_59 ?_
    refine lv_iload_n hx hb dX2_readFind_62 rfl (lv_at hl 2 rfl) ?_
    refine lv_bipush (v := (50 : Int32)) hx hb dX2_readFind_63 (by decide) ?_
    refine va_iast hx hb hK hP hD hS 4 0 rfl rfl hi_5 dX2_readFind_65 (fun H locs hP hD hS => ?_)
    have hP : va_P D vwCl (wo_X2_readFind cI cJ a_te a_tb a_ha a_hp a_hl a_hq a_hm v_te_length u_2.1 u_2.2.1 u_2.2.2.1 u_2.2.2.2 v_tb v_ha_finds (upd v_hq (Int32.toNatClampNeg x2) u_2.2.2.2) (upd v_hm (Int32.toNatClampNeg x2) (50 : Int32))) H := hP
    have hD : va_D A (wo_X2_readFind cI cJ a_te a_tb a_ha a_hp a_hl a_hq a_hm v_te_length u_2.1 u_2.2.1 u_2.2.2.1 u_2.2.2.2 v_tb v_ha_finds (upd v_hq (Int32.toNatClampNeg x2) u_2.2.2.2) (upd v_hm (Int32.toNatClampNeg x2) (50 : Int32))) := hD
    refine lv_aload_n hx hb dX2_readFind_66 rfl (lv_at hl 1 rfl) ?_
    obtain ⟨u_7, hg_8, hf⟩ := pa_bd hf
    refine pa_kv (wc := (wo_X6_advance cI cJ a_te a_tb v_te_length u_2.1 u_2.2.1 u_2.2.2.1 u_2.2.2.2 v_tb)) (wr := [(a_ha, .inr (2, [.ref a_hp, .ref a_hl, .ref a_hq, .ref a_hm, .int v_ha_finds])), (a_hq, .inl (cI, 12, .inl (upd v_hq (Int32.toNatClampNeg x2) u_2.2.2.2))), (a_hm, .inl (cI, 12, .inl (upd v_hm (Int32.toNatClampNeg x2) (50 : Int32))))]) (w1 := (wo_X6_advance cI cJ a_te a_tb v_te_length u_7.1 u_7.2.1 u_7.2.2.1 u_7.2.2.2 v_tb)) (w2 := (wo_X2_readFind cI cJ a_te a_tb a_ha a_hp a_hl a_hq a_hm v_te_length u_7.1 u_7.2.1 u_7.2.2.1 u_7.2.2.2 v_tb v_ha_finds (upd v_hq (Int32.toNatClampNeg x2) u_2.2.2.2) (upd v_hm (Int32.toNatClampNeg x2) (50 : Int32)))) X hP hD hS [0, 1] [2, 3, 4] [3, 4, 0, 1, 2] rfl (pa_rV (As := []) (rest := []) (T := TX6) X hP hD hS [0, 1] rfl rfl (c_X6_advance hg_8 H.size) (cwV 0 hts gX2_readFind_X6_advance rfl rfl rfl (by decide +kernel) ⟨Nat.le_of_ble_eq_true rfl, Nat.le_of_ble_eq_true rfl⟩) (q0 := 0) rfl rfl rfl hl.1 rfl (Nat.le_of_ble_eq_true rfl) dX2_readFind_67 ⟨Nat.zero_le _, Nat.zero_le _⟩) rfl rfl (by decide) rfl rfl (fun H locs hP hD hS => ?_)
    refine lv_iload_n hx hb dX2_readFind_70 rfl (lv_at hl 3 rfl) ?_
    refine lv_if_eq (tgt := 113) hx hb dX2_readFind_71 (by decide) (fun c_9 => ?_) (fun c_9 => ?_)
    · have hf := (if_pos c_9).symm.trans hf
      exact w_X2_readFind_b113 X  hf hP hD hS (lv_sub hl [1] rfl)
    · have hf := (if_neg c_9).symm.trans hf
      refine lv_aload_n hx hb dX2_readFind_74 rfl (lv_at hl 1 rfl) ?_
      refine va_getN (D := D) (ci := 6) (v := .ref u_7.1) (C := RX6) (T := TX6) (N := 6) hx hb hts il_X2_readFind_X6 hown hK hP 0 rfl rfl 2 (by decide) (va_Nw.use rfl (hG.1 _ (List.mem_of_getElem? (i := 2) rfl))) (fun _ h9 => h9) rfl dX2_readFind_75 ?_
      refine va_gets (C := "PostedAsks$Token") hx hb (hG.2.1.1 3 (by decide)).1 hS hown (hts _ fk_X2_readFind_4) (fun _ h9 => h9) dX2_readFind_78 ?_
      refine lv_acmp_ne (rx := some u_7.1) (ry := some (g.1 3)) (tgt := 97) hx hb dX2_readFind_81 (by decide) (fun c_10 => ?_) (fun c_10 => ?_)
      · have c_10 : ¬ u_7.1 = (g.1 3) := fun h => c_10 (congrArg some h)
        have hf := (if_neg c_10).symm.trans hf
        refine lv_iconst (v := (0 : Int32)) hx hb dX2_readFind_97 (by decide) ?_
        obtain rfl := Option.some.inj hf
        exact pa_ez (v := (0 : Int32)) X hP hD hS rfl dX2_readFind_98
      · have c_10 := Option.some.inj c_10
        have hf := (if_pos c_10).symm.trans hf
        refine lv_aload_n hx hb dX2_readFind_84 rfl (lv_at hl 1 rfl) ?_
        refine va_getN (D := D) (ci := 6) (v := .int u_7.2.2.2) (C := RX6) (T := TX6) (N := 6) hx hb hts il_X2_readFind_X6 hown hK hP 0 rfl rfl 5 (by decide) (va_Nw.use rfl (hG.1 _ (List.mem_of_getElem? (i := 4) rfl))) (fun _ h9 => h9) rfl dX2_readFind_85 ?_
        refine lv_iconst (v := (1 : Int32)) hx hb dX2_readFind_88 (by decide) ?_
        refine lv_bipush (v := (50 : Int32)) hx hb dX2_readFind_89 (by decide) ?_
        obtain ⟨u_11, hg_12, hf⟩ := pa_bd hf
        refine pa_ki (wc := ([] : va_W)) (wr := [(a_te, .inr (6, [.ref a_tb, .int v_te_length, .ref u_7.1, .int u_7.2.1, .int u_7.2.2.1, .int u_7.2.2.2])), (a_tb, .inl (cI, 300, .inl v_tb)), (a_ha, .inr (2, [.ref a_hp, .ref a_hl, .ref a_hq, .ref a_hm, .int v_ha_finds])), (a_hq, .inl (cI, 12, .inl (upd v_hq (Int32.toNatClampNeg x2) u_2.2.2.2))), (a_hm, .inl (cI, 12, .inl (upd v_hm (Int32.toNatClampNeg x2) (50 : Int32))))]) (w1 := ([] : va_W)) (w2 := (wo_X2_readFind cI cJ a_te a_tb a_ha a_hp a_hl a_hq a_hm v_te_length u_7.1 u_7.2.1 u_7.2.2.1 u_7.2.2.2 v_tb v_ha_finds (upd v_hq (Int32.toNatClampNeg x2) u_2.2.2.2) (upd v_hm (Int32.toNatClampNeg x2) (50 : Int32)))) X hP hD hS [] [0, 1, 2, 3, 4] [0, 1, 2, 3, 4] rfl (pa_rN (As := [.int u_7.2.2.2, .int (1 : Int32), .int (50 : Int32)]) (rest := []) X hP hD hS [] rfl rfl (c_X9_within hg_12 H.size) (va_cnB 3 hts gX2_readFind_X9_within_n81 rfl rfl rfl (hG.1 _ (List.mem_of_getElem? (i := 18) rfl)) (hts _ fk_X2_readFind_5) (by decide +kernel) ⟨Nat.le_of_ble_eq_true rfl, Nat.le_of_ble_eq_true rfl⟩) (hts _ fk_X2_readFind_6) rfl hl.1 rfl (Nat.le_of_ble_eq_true rfl) dX2_readFind_91 ⟨Nat.zero_le _, Nat.zero_le _⟩) rfl rfl (by decide) rfl rfl (fun H locs hP hD hS => ?_)
        refine lv_if_ne (tgt := 99) hx hb dX2_readFind_94 (by decide) (fun c_13 => ?_) (fun c_13 => ?_)
        · have hf := (if_neg c_13).symm.trans hf
          refine lv_aload_n hx hb dX2_readFind_99 rfl (lv_at hl 0 rfl) ?_
          refine va_get (D := D) (ci := 2) (v := .ref a_hm) (C := RX2) (T := TX2) (N := 5) hx hb hts il_X2_readFind_X2 hown hK hP 2 rfl rfl 3 (by decide) (hts _ fk_X2_readFind_3) (fun _ h9 => h9) rfl dX2_readFind_100 ?_
          refine lv_iload_n hx hb dX2_readFind_103 rfl (lv_at hl 2 rfl) ?_
          refine lv_aload_n hx hb dX2_readFind_104 rfl (lv_at hl 1 rfl) ?_
          refine va_getN (D := D) (ci := 6) (v := .int u_7.2.2.2) (C := RX6) (T := TX6) (N := 6) hx hb hts il_X2_readFind_X6 hown hK hP 0 rfl rfl 5 (by decide) (va_Nw.use rfl (hG.1 _ (List.mem_of_getElem? (i := 4) rfl))) (fun _ h9 => h9) rfl dX2_readFind_105 ?_
          refine va_iast hx hb hK hP hD hS 4 0 rfl rfl hi_5 dX2_readFind_108 (fun H locs hP hD hS => ?_)
          have hP : va_P D vwCl (wo_X2_readFind cI cJ a_te a_tb a_ha a_hp a_hl a_hq a_hm v_te_length u_7.1 u_7.2.1 u_7.2.2.1 u_7.2.2.2 v_tb v_ha_finds (upd v_hq (Int32.toNatClampNeg x2) u_2.2.2.2) (upd (upd v_hm (Int32.toNatClampNeg x2) (50 : Int32)) (Int32.toNatClampNeg x2) u_7.2.2.2)) H := hP
          have hD : va_D A (wo_X2_readFind cI cJ a_te a_tb a_ha a_hp a_hl a_hq a_hm v_te_length u_7.1 u_7.2.1 u_7.2.2.1 u_7.2.2.2 v_tb v_ha_finds (upd v_hq (Int32.toNatClampNeg x2) u_2.2.2.2) (upd (upd v_hm (Int32.toNatClampNeg x2) (50 : Int32)) (Int32.toNatClampNeg x2) u_7.2.2.2)) := hD
          refine lv_aload_n hx hb dX2_readFind_109 rfl (lv_at hl 1 rfl) ?_
          obtain ⟨u_15, hg_16, hf⟩ := pa_bd hf
          refine pa_kv (wc := (wo_X6_advance cI cJ a_te a_tb v_te_length u_7.1 u_7.2.1 u_7.2.2.1 u_7.2.2.2 v_tb)) (wr := [(a_ha, .inr (2, [.ref a_hp, .ref a_hl, .ref a_hq, .ref a_hm, .int v_ha_finds])), (a_hq, .inl (cI, 12, .inl (upd v_hq (Int32.toNatClampNeg x2) u_2.2.2.2))), (a_hm, .inl (cI, 12, .inl (upd (upd v_hm (Int32.toNatClampNeg x2) (50 : Int32)) (Int32.toNatClampNeg x2) u_7.2.2.2)))]) (w1 := (wo_X6_advance cI cJ a_te a_tb v_te_length u_15.1 u_15.2.1 u_15.2.2.1 u_15.2.2.2 v_tb)) (w2 := (wo_X2_readFind cI cJ a_te a_tb a_ha a_hp a_hl a_hq a_hm v_te_length u_15.1 u_15.2.1 u_15.2.2.1 u_15.2.2.2 v_tb v_ha_finds (upd v_hq (Int32.toNatClampNeg x2) u_2.2.2.2) (upd (upd v_hm (Int32.toNatClampNeg x2) (50 : Int32)) (Int32.toNatClampNeg x2) u_7.2.2.2))) X hP hD hS [0, 1] [2, 3, 4] [3, 4, 0, 1, 2] rfl (pa_rV (As := []) (rest := []) (T := TX6) X hP hD hS [0, 1] rfl rfl (c_X6_advance hg_16 H.size) (cwV 0 hts gX2_readFind_X6_advance rfl rfl rfl (by decide +kernel) ⟨Nat.le_of_ble_eq_true rfl, Nat.le_of_ble_eq_true rfl⟩) (q0 := 0) rfl rfl rfl hl.1 rfl (Nat.le_of_ble_eq_true rfl) dX2_readFind_110 ⟨Nat.zero_le _, Nat.zero_le _⟩) rfl rfl (by decide) rfl rfl (fun H locs hP hD hS => ?_)
          exact w_X2_readFind_b113 X  hf hP hD hS (lv_sub hl [1] rfl)
        · have hf := (if_pos c_13).symm.trans hf
          refine lv_iconst (v := (0 : Int32)) hx hb dX2_readFind_97 (by decide) ?_
          obtain rfl := Option.some.inj hf
          exact pa_ez (v := (0 : Int32)) X hP hD hS rfl dX2_readFind_98
  · have c_4 : ¬ u_2.1 = (g.1 2) := fun h => c_4 (congrArg some h)
    have hf := (if_neg c_4).symm.trans hf
    refine lv_iconst (v := (0 : Int32)) hx hb dX2_readFind_46 (by decide) ?_
    obtain rfl := Option.some.inj hf
    exact pa_ez (v := (0 : Int32)) X hP hD hS rfl dX2_readFind_47
set_option maxHeartbeats 4000000 in
set_option maxRecDepth 100000 in
theorem w_X2_readFind_b15 {l : Launch} {D : va_G} {cI cJ : ClassId} {g : pa_GT} {a_te a_tb a_ha a_hp a_hl a_hq a_hm : Nat} {A : Nat → Prop} {p : Program} {e : Env} {s : State} {m : MethodId} {args : Array Value} {below : List Frame} {meth : Method} {c : Code} {x2 : Int32} {s0 : Int32} {v_te_length : Int32} {v_te_token : Nat} {v_te_place : Int32} {v_te_end : Int32} {v_te_value : Int32} {v_tb : Nat → Int32} {v_hq : Nat → Int32} {v_hm : Nat → Int32} {v_ha_finds : Int32} {o : Int32 × Nat × Int32 × Int32 × Int32 × (Nat → Int32) × (Nat → Int32)} (X : pa_X cX2_readFind 4 (some .boolean) RX2 wsX2_readFind D cI cJ g A p s m args meth c)  (hf : f_X2_readFind_b15 g x2 s0 v_te_length v_te_token v_te_place v_te_end v_te_value v_tb v_hq v_hm = some o) {H : Heap} {locs : List Loc} (hP : va_P D vwCl (wo_X2_readFind cI cJ a_te a_tb a_ha a_hp a_hl a_hq a_hm v_te_length v_te_token v_te_place v_te_end v_te_value v_tb v_ha_finds v_hq v_hm) H) (hD : va_D A (wo_X2_readFind cI cJ a_te a_tb a_ha a_hp a_hl a_hq a_hm v_te_length v_te_token v_te_place v_te_end v_te_value v_tb v_ha_finds v_hq v_hm)) (hS : va_S A s.heap H locs) {ls : Array Slot} (hl : lv_has ls 4 [(0, .ref a_ha), (1, .ref a_te), (2, .int x2)]) : W p l e (headSpec wsX2_readFind rm_X2_readFind).room s m args below meth c H locs 0 0 (MQ below (va_Qi (fun r (_ : Unit) => r = o.1) (pa_QB D A (wo_X2_readFind cI cJ a_te a_tb a_ha a_hp a_hl a_hq a_hm v_te_length o.2.1 o.2.2.1 o.2.2.2.1 o.2.2.2.2.1 v_tb v_ha_finds o.2.2.2.2.2.1 o.2.2.2.2.2.2)) A) args s 0 0 A) (F0 m 15 ls [.int s0]) := by
  obtain ⟨hx, hb, hr, hml, hown, hts, hK, hA, hG, hlk⟩ := id X
  delta f_X2_readFind_b15 at hf
  refine lv_istore_n (lv' := [(3, .int s0), (0, .ref a_ha), (1, .ref a_te), (2, .int x2)]) hx hb dX2_readFind_15 rfl hl (by decide) rfl (fun ls hl => ?_)
  refine lv_iload_n hx hb dX2_readFind_16 rfl (lv_at hl 0 rfl) ?_
  refine lv_if_ne (tgt := 32) hx hb dX2_readFind_17 (by decide) (fun c_17 => ?_) (fun c_17 => ?_)
  · have hf := (if_neg c_17).symm.trans hf
    exact w_X2_readFind_b32 X  hf hP hD hS (lv_sub hl [1, 2, 3, 0] rfl)
  · have hf := (if_pos c_17).symm.trans hf
    refine lv_aload_n hx hb dX2_readFind_20 rfl (lv_at hl 2 rfl) ?_
    refine va_getN (D := D) (ci := 6) (v := .ref v_te_token) (C := RX6) (T := TX6) (N := 6) hx hb hts il_X2_readFind_X6 hown hK hP 0 rfl rfl 2 (by decide) (va_Nw.use rfl (hG.1 _ (List.mem_of_getElem? (i := 2) rfl))) (fun _ h9 => h9) rfl dX2_readFind_21 ?_
    refine va_gets (C := "PostedAsks$Token") hx hb (hG.2.1.1 1 (by decide)).1 hS hown (hts _ fk_X2_readFind_7) (fun _ h9 => h9) dX2_readFind_24 ?_
    refine lv_acmp_eq (rx := some v_te_token) (ry := some (g.1 1)) (tgt := 32) hx hb dX2_readFind_27 (by decide) (fun c_18 => ?_) (fun c_18 => ?_)
    · have c_18 := Option.some.inj c_18
      have hf := (if_pos c_18).symm.trans hf
      exact w_X2_readFind_b32 X  hf hP hD hS (lv_sub hl [1, 2, 3, 0] rfl)
    · have c_18 : ¬ v_te_token = (g.1 1) := fun h => c_18 (congrArg some h)
      have hf := (if_neg c_18).symm.trans hf
      refine lv_iconst (v := (0 : Int32)) hx hb dX2_readFind_30 (by decide) ?_
      obtain rfl := Option.some.inj hf
      exact pa_ez (v := (0 : Int32)) X hP hD hS rfl dX2_readFind_31
set_option maxHeartbeats 4000000 in
set_option maxRecDepth 100000 in
theorem w_X2_readFind_b0 {l : Launch} {D : va_G} {cI cJ : ClassId} {g : pa_GT} {a_te a_tb a_ha a_hp a_hl a_hq a_hm : Nat} {A : Nat → Prop} {p : Program} {e : Env} {s : State} {m : MethodId} {args : Array Value} {below : List Frame} {meth : Method} {c : Code} {x2 : Int32} {v_te_length : Int32} {v_te_token : Nat} {v_te_place : Int32} {v_te_end : Int32} {v_te_value : Int32} {v_tb : Nat → Int32} {v_hq : Nat → Int32} {v_hm : Nat → Int32} {v_ha_finds : Int32} {o : Int32 × Nat × Int32 × Int32 × Int32 × (Nat → Int32) × (Nat → Int32)} (X : pa_X cX2_readFind 4 (some .boolean) RX2 wsX2_readFind D cI cJ g A p s m args meth c)  (hf : f_X2_readFind g x2 v_te_length v_te_token v_te_place v_te_end v_te_value v_tb v_hq v_hm = some o) {H : Heap} {locs : List Loc} (hP : va_P D vwCl (wo_X2_readFind cI cJ a_te a_tb a_ha a_hp a_hl a_hq a_hm v_te_length v_te_token v_te_place v_te_end v_te_value v_tb v_ha_finds v_hq v_hm) H) (hD : va_D A (wo_X2_readFind cI cJ a_te a_tb a_ha a_hp a_hl a_hq a_hm v_te_length v_te_token v_te_place v_te_end v_te_value v_tb v_ha_finds v_hq v_hm)) (hS : va_S A s.heap H locs) {ls : Array Slot} (hl : lv_has ls 4 [(0, .ref a_ha), (1, .ref a_te), (2, .int x2)]) : W p l e (headSpec wsX2_readFind rm_X2_readFind).room s m args below meth c H locs 0 0 (MQ below (va_Qi (fun r (_ : Unit) => r = o.1) (pa_QB D A (wo_X2_readFind cI cJ a_te a_tb a_ha a_hp a_hl a_hq a_hm v_te_length o.2.1 o.2.2.1 o.2.2.2.1 o.2.2.2.2.1 v_tb v_ha_finds o.2.2.2.2.2.1 o.2.2.2.2.2.2)) A) args s 0 0 A) (F0 m 0 ls []) := by
  obtain ⟨hx, hb, hr, hml, hown, hts, hK, hA, hG, hlk⟩ := id X
  delta f_X2_readFind at hf
  refine lv_aload_n hx hb dX2_readFind_0 rfl (lv_at hl 1 rfl) ?_
  refine va_getN (D := D) (ci := 6) (v := .ref v_te_token) (C := RX6) (T := TX6) (N := 6) hx hb hts il_X2_readFind_X6 hown hK hP 0 rfl rfl 2 (by decide) (va_Nw.use rfl (hG.1 _ (List.mem_of_getElem? (i := 2) rfl))) (fun _ h9 => h9) rfl dX2_readFind_1 ?_
  refine va_gets (C := "PostedAsks$Token") hx hb (hG.2.1.1 0 (by decide)).1 hS hown (hts _ fk_X2_readFind_8) (fun _ h9 => h9) dX2_readFind_4 ?_
  refine lv_acmp_ne (rx := some v_te_token) (ry := some (g.1 0)) (tgt := 14) hx hb dX2_readFind_7 (by decide) (fun c_19 => ?_) (fun c_19 => ?_)
  · have c_19 : ¬ v_te_token = (g.1 0) := fun h => c_19 (congrArg some h)
    have hf := (if_neg c_19).symm.trans hf
    refine lv_iconst (v := (0 : Int32)) hx hb dX2_readFind_14 (by decide) ?_
    exact w_X2_readFind_b15 X  hf hP hD hS (lv_sub hl [0, 1, 2] rfl)
  · have c_19 := Option.some.inj c_19
    have hf := (if_pos c_19).symm.trans hf
    refine lv_iconst (v := (1 : Int32)) hx hb dX2_readFind_10 (by decide) ?_
    refine lv_goto (tgt := 15) hx hb dX2_readFind_11 (by decide) ?_
    exact w_X2_readFind_b15 X  hf hP hD hS (lv_sub hl [0, 1, 2] rfl)
set_option maxHeartbeats 4000000 in
set_option maxRecDepth 100000 in
theorem c_X2_readFind {l : Launch} {D : va_G} {cI cJ : ClassId} {g : pa_GT} {a_te a_tb a_ha a_hp a_hl a_hq a_hm : Nat} {x2 : Int32} {v_te_length : Int32} {v_te_token : Nat} {v_te_place : Int32} {v_te_end : Int32} {v_te_value : Int32} {v_tb : Nat → Int32} {v_ha_finds : Int32} {v_hq : Nat → Int32} {v_hm : Nat → Int32} {o : Int32 × Nat × Int32 × Int32 × Int32 × (Nat → Int32) × (Nat → Int32)} (hf : f_X2_readFind g x2 v_te_length v_te_token v_te_place v_te_end v_te_value v_tb v_hq v_hm = some o) : pa_Mi l yX2_readFind wsX2_readFind rm_X2_readFind D cI cJ g [.ref a_ha, .ref a_te, .int x2] (wo_X2_readFind cI cJ a_te a_tb a_ha a_hp a_hl a_hq a_hm v_te_length v_te_token v_te_place v_te_end v_te_value v_tb v_ha_finds v_hq v_hm) (wo_X2_readFind cI cJ a_te a_tb a_ha a_hp a_hl a_hq a_hm v_te_length o.2.1 o.2.2.1 o.2.2.2.1 o.2.2.2.2.1 v_tb v_ha_finds o.2.2.2.2.2.1 o.2.2.2.2.2.2) o.1 := by
  intro sz
  refine pa_met (cc := cX2_readFind) (maxL := 4) (ret := (some .boolean)) (lv := [(0, .ref a_ha), (1, .ref a_te), (2, .int x2)]) (by decide) rfl (Nat.le_of_ble_eq_true rfl) rfl ?_
  intro p e s m below meth c X hsz hP hD ls hl
  subst hsz
  exact w_X2_readFind_b0 X hf hP hD va_S.rf hl
abbrev wo_X2_learn (cI cJ : ClassId) (a_te a_tb a_ha a_hp a_hl a_hq a_hm : Nat) (v_te_length : Int32) (v_te_token : Nat) (v_te_place : Int32) (v_te_end : Int32) (v_te_value : Int32) (v_tb : Nat → Int32) (v_ha_finds : Int32) (v_hp : Nat → Int32) (v_hl : Nat → Int32) (v_hq : Nat → Int32) (v_hm : Nat → Int32) : va_W := [(a_te, .inr (6, [.ref a_tb, .int v_te_length, .ref v_te_token, .int v_te_place, .int v_te_end, .int v_te_value])), (a_tb, .inl (cI, 300, .inl v_tb)), (a_ha, .inr (2, [.ref a_hp, .ref a_hl, .ref a_hq, .ref a_hm, .int v_ha_finds])), (a_hp, .inl (cI, 12, .inl v_hp)), (a_hl, .inl (cI, 12, .inl v_hl)), (a_hq, .inl (cI, 12, .inl v_hq)), (a_hm, .inl (cI, 12, .inl v_hm))]
abbrev rm_X2_learn : Room := { frames := 8, cells := 0, slots := 0, locals := 170 }
theorem il_X2_learn_X6 : ∀ w ∈ wsX60, w ∈ wsX2_learn := by decide +kernel
theorem fk_X2_learn_0 : Cond.fieldLink RX2 40 "PostedAsks$Token" "END" "LPostedAsks$Token;" ∈ wsX2_learn := by decide +kernel
def f_X2_learn_L6_body (g : pa_GT) (v_te_length : Int32) (v_tb : Nat → Int32) (v_ha_finds : Int32) (v_hp : Nat → Int32) (v_hl : Nat → Int32) (rec6 : Int32 → Nat → Int32 → Int32 → Int32 → (Nat → Int32) → (Nat → Int32) → Option (Int32 × Int32 × Nat × Int32 × Int32 × Int32 × Int32 × (Nat → Int32) × (Nat → Int32) × (Nat → Int32) × (Nat → Int32))) (x2 : Int32) (v_te_token : Nat) (v_te_place : Int32) (v_te_end : Int32) (v_te_value : Int32) (v_hq : Nat → Int32) (v_hm : Nat → Int32) : Option (Int32 × Int32 × Nat × Int32 × Int32 × Int32 × Int32 × (Nat → Int32) × (Nat → Int32) × (Nat → Int32) × (Nat → Int32)) :=
  if (12 : Int32) < x2 then
    some (((-10 : Int32) - v_te_place), v_te_length, v_te_token, v_te_place, v_te_end, v_te_value, v_ha_finds, v_hp, v_hl, v_hq, v_hm)
  else
    (f_X6_advance g v_te_length v_te_token v_te_end v_tb).bind fun u_2 =>
    if u_2.1 = (g.1 5) then
      (f_X2_keep x2 v_te_length v_hp v_hl v_hq v_hm).bind fun u_9 =>
      some (u_9.1, u_9.2.1, u_2.1, u_2.2.1, u_2.2.2.1, u_2.2.2.2, u_9.2.2.1, u_9.2.2.2.1, u_9.2.2.2.2, v_hq, v_hm)
    else
      if x2 = (12 : Int32) then
        some (((-10 : Int32) - u_2.2.1), v_te_length, u_2.1, u_2.2.1, u_2.2.2.1, u_2.2.2.2, v_ha_finds, v_hp, v_hl, v_hq, v_hm)
      else
        (f_X2_readFind g x2 v_te_length u_2.1 u_2.2.1 u_2.2.2.1 u_2.2.2.2 v_tb v_hq v_hm).bind fun u_6 =>
        if u_6.1 = 0 then
          some (((-10 : Int32) - u_6.2.2.1), v_te_length, u_6.2.1, u_6.2.2.1, u_6.2.2.2.1, u_6.2.2.2.2.1, v_ha_finds, v_hp, v_hl, u_6.2.2.2.2.2.1, u_6.2.2.2.2.2.2)
        else
          rec6 (x2 + (1 : Int32)) u_6.2.1 u_6.2.2.1 u_6.2.2.2.1 u_6.2.2.2.2.1 u_6.2.2.2.2.2.1 u_6.2.2.2.2.2.2
def f_X2_learn_L6 (g : pa_GT) (v_te_length : Int32) (v_tb : Nat → Int32) (v_ha_finds : Int32) (v_hp : Nat → Int32) (v_hl : Nat → Int32) : Nat → Int32 → Nat → Int32 → Int32 → Int32 → (Nat → Int32) → (Nat → Int32) → Option (Int32 × Int32 × Nat × Int32 × Int32 × Int32 × Int32 × (Nat → Int32) × (Nat → Int32) × (Nat → Int32) × (Nat → Int32))
  | 0 => fun _ _ _ _ _ _ _ => none
  | n + 1 => f_X2_learn_L6_body g v_te_length v_tb v_ha_finds v_hp v_hl (f_X2_learn_L6 g v_te_length v_tb v_ha_finds v_hp v_hl n)
def f_X2_learn (g : pa_GT) (v_te_length : Int32) (v_te_token : Nat) (v_te_place : Int32) (v_te_end : Int32) (v_te_value : Int32) (v_tb : Nat → Int32) (v_ha_finds : Int32) (v_hp : Nat → Int32) (v_hl : Nat → Int32) (v_hq : Nat → Int32) (v_hm : Nat → Int32) : Option (Int32 × Int32 × Nat × Int32 × Int32 × Int32 × Int32 × (Nat → Int32) × (Nat → Int32) × (Nat → Int32) × (Nat → Int32)) :=
  (f_X6_rewind).bind fun u_11 =>
  f_X2_learn_L6 g v_te_length v_tb v_ha_finds v_hp v_hl pa_fu (0 : Int32) v_te_token v_te_place u_11 v_te_value v_hq v_hm
set_option maxHeartbeats 4000000 in
set_option maxRecDepth 100000 in
theorem w_X2_learn_L6 {l : Launch} {D : va_G} {cI cJ : ClassId} {g : pa_GT} {a_te a_tb a_ha a_hp a_hl a_hq a_hm : Nat} {A : Nat → Prop} {p : Program} {e : Env} {s : State} {m : MethodId} {args : Array Value} {below : List Frame} {meth : Method} {c : Code} {v_te_length : Int32} {v_tb : Nat → Int32} {v_ha_finds : Int32} {v_hp : Nat → Int32} {v_hl : Nat → Int32}  {o : Int32 × Int32 × Nat × Int32 × Int32 × Int32 × Int32 × (Nat → Int32) × (Nat → Int32) × (Nat → Int32) × (Nat → Int32)} (X : pa_X cX2_learn 3 (some .int) RX2 wsX2_learn D cI cJ g A p s m args meth c)  : ∀ (n : Nat) (x2 : Int32) (v_te_token : Nat) (v_te_place : Int32) (v_te_end : Int32) (v_te_value : Int32) (v_hq : Nat → Int32) (v_hm : Nat → Int32), f_X2_learn_L6 g v_te_length v_tb v_ha_finds v_hp v_hl n x2 v_te_token v_te_place v_te_end v_te_value v_hq v_hm = some o → ∀ (H : Heap) (locs : List Loc) , va_P D vwCl (wo_X2_learn cI cJ a_te a_tb a_ha a_hp a_hl a_hq a_hm v_te_length v_te_token v_te_place v_te_end v_te_value v_tb v_ha_finds v_hp v_hl v_hq v_hm) H → va_D A (wo_X2_learn cI cJ a_te a_tb a_ha a_hp a_hl a_hq a_hm v_te_length v_te_token v_te_place v_te_end v_te_value v_tb v_ha_finds v_hp v_hl v_hq v_hm) → va_S A s.heap H locs → ∀ (ls : Array Slot), lv_has ls 3 [(0, .ref a_ha), (1, .ref a_te), (2, .int x2)] → W p l e (headSpec wsX2_learn rm_X2_learn).room s m args below meth c H locs 0 0 (MQ below (va_Qi (fun r (_ : Unit) => r = o.1) (pa_QB D A (wo_X2_learn cI cJ a_te a_tb a_ha a_hp a_hl a_hq a_hm o.2.1 o.2.2.1 o.2.2.2.1 o.2.2.2.2.1 o.2.2.2.2.2.1 v_tb o.2.2.2.2.2.2.1 o.2.2.2.2.2.2.2.1 o.2.2.2.2.2.2.2.2.1 o.2.2.2.2.2.2.2.2.2.1 o.2.2.2.2.2.2.2.2.2.2)) A) args s 0 0 A) (F0 m 6 ls []) := by
  obtain ⟨hx, hb, hr, hml, hown, hts, hK, hA, hG, hlk⟩ := id X
  intro n
  induction n with
  | zero =>
    intro x2 v_te_token v_te_place v_te_end v_te_value v_hq v_hm hf
    have hf : (none : Option (Int32 × Int32 × Nat × Int32 × Int32 × Int32 × Int32 × (Nat → Int32) × (Nat → Int32) × (Nat → Int32) × (Nat → Int32))) = some o := hf
    cases hf
  | succ n hrec6 =>
    intro x2 v_te_token v_te_place v_te_end v_te_value v_hq v_hm hf H locs  hP hD hS ls hl
    have hf : f_X2_learn_L6_body g v_te_length v_tb v_ha_finds v_hp v_hl (f_X2_learn_L6 g v_te_length v_tb v_ha_finds v_hp v_hl n) x2 v_te_token v_te_place v_te_end v_te_value v_hq v_hm = some o := hf
    delta f_X2_learn_L6_body at hf
    generalize hgr : f_X2_learn_L6 g v_te_length v_tb v_ha_finds v_hp v_hl n = rec6 at hf hrec6
    refine lv_iload_n hx hb dX2_learn_6 rfl (lv_at hl 2 rfl) ?_
    refine lv_bipush (v := (12 : Int32)) hx hb dX2_learn_7 (by decide) ?_
    refine lv_icmp_gt (tgt := 62) hx hb dX2_learn_9 (by decide) (fun c_1 => ?_) (fun c_1 => ?_)
    · have hf := (if_pos c_1).symm.trans hf
      refine lv_bipush (v := (-10 : Int32)) hx hb dX2_learn_62 (by decide) ?_
      refine lv_aload_n hx hb dX2_learn_64 rfl (lv_at hl 1 rfl) ?_
      refine va_getN (D := D) (ci := 6) (v := .int v_te_place) (C := RX6) (T := TX6) (N := 6) hx hb hts il_X2_learn_X6 hown hK hP 0 rfl rfl 3 (by decide) (va_Nw.use rfl (hG.1 _ (List.mem_of_getElem? (i := 3) rfl))) (fun _ h9 => h9) rfl dX2_learn_65 ?_
      refine lv_isub hx hb dX2_learn_68 ?_
      obtain rfl := Option.some.inj hf
      exact pa_ei X hP hD hS dX2_learn_69
    · have hf := (if_neg c_1).symm.trans hf
      refine lv_aload_n hx hb dX2_learn_12 rfl (lv_at hl 1 rfl) ?_
      obtain ⟨u_2, hg_3, hf⟩ := pa_bd hf
      refine pa_kv (wc := (wo_X6_advance cI cJ a_te a_tb v_te_length v_te_token v_te_place v_te_end v_te_value v_tb)) (wr := [(a_ha, .inr (2, [.ref a_hp, .ref a_hl, .ref a_hq, .ref a_hm, .int v_ha_finds])), (a_hp, .inl (cI, 12, .inl v_hp)), (a_hl, .inl (cI, 12, .inl v_hl)), (a_hq, .inl (cI, 12, .inl v_hq)), (a_hm, .inl (cI, 12, .inl v_hm))]) (w1 := (wo_X6_advance cI cJ a_te a_tb v_te_length u_2.1 u_2.2.1 u_2.2.2.1 u_2.2.2.2 v_tb)) (w2 := (wo_X2_learn cI cJ a_te a_tb a_ha a_hp a_hl a_hq a_hm v_te_length u_2.1 u_2.2.1 u_2.2.2.1 u_2.2.2.2 v_tb v_ha_finds v_hp v_hl v_hq v_hm)) X hP hD hS [0, 1] [2, 3, 4, 5, 6] [5, 6, 0, 1, 2, 3, 4] rfl (pa_rV (As := []) (rest := []) (T := TX6) X hP hD hS [0, 1] rfl rfl (c_X6_advance hg_3 H.size) (cwV 0 hts gX2_learn_X6_advance rfl rfl rfl (by decide +kernel) ⟨Nat.le_of_ble_eq_true rfl, Nat.le_of_ble_eq_true rfl⟩) (q0 := 0) rfl rfl rfl hl.1 rfl (Nat.le_of_ble_eq_true rfl) dX2_learn_13 ⟨Nat.zero_le _, Nat.zero_le _⟩) rfl rfl (by decide) rfl rfl (fun H locs hP hD hS => ?_)
      refine lv_aload_n hx hb dX2_learn_16 rfl (lv_at hl 1 rfl) ?_
      refine va_getN (D := D) (ci := 6) (v := .ref u_2.1) (C := RX6) (T := TX6) (N := 6) hx hb hts il_X2_learn_X6 hown hK hP 0 rfl rfl 2 (by decide) (va_Nw.use rfl (hG.1 _ (List.mem_of_getElem? (i := 2) rfl))) (fun _ h9 => h9) rfl dX2_learn_17 ?_
      refine va_gets (C := "PostedAsks$Token") hx hb (hG.2.1.1 5 (by decide)).1 hS hown (hts _ fk_X2_learn_0) (fun _ h9 => h9) dX2_learn_20 ?_
      refine lv_acmp_ne (rx := some u_2.1) (ry := some (g.1 5)) (tgt := 33) hx hb dX2_learn_23 (by decide) (fun c_4 => ?_) (fun c_4 => ?_)
      · have c_4 : ¬ u_2.1 = (g.1 5) := fun h => c_4 (congrArg some h)
        have hf := (if_neg c_4).symm.trans hf
        refine lv_iload_n hx hb dX2_learn_33 rfl (lv_at hl 2 rfl) ?_
        refine lv_bipush (v := (12 : Int32)) hx hb dX2_learn_34 (by decide) ?_
        refine lv_icmp_eq (tgt := 48) hx hb dX2_learn_36 (by decide) (fun c_5 => ?_) (fun c_5 => ?_)
        · have hf := (if_pos c_5).symm.trans hf
          refine lv_bipush (v := (-10 : Int32)) hx hb dX2_learn_48 (by decide) ?_
          refine lv_aload_n hx hb dX2_learn_50 rfl (lv_at hl 1 rfl) ?_
          refine va_getN (D := D) (ci := 6) (v := .int u_2.2.1) (C := RX6) (T := TX6) (N := 6) hx hb hts il_X2_learn_X6 hown hK hP 0 rfl rfl 3 (by decide) (va_Nw.use rfl (hG.1 _ (List.mem_of_getElem? (i := 3) rfl))) (fun _ h9 => h9) rfl dX2_learn_51 ?_
          refine lv_isub hx hb dX2_learn_54 ?_
          obtain rfl := Option.some.inj hf
          exact pa_ei X hP hD hS dX2_learn_55
        · have hf := (if_neg c_5).symm.trans hf
          refine lv_aload_n hx hb dX2_learn_39 rfl (lv_at hl 0 rfl) ?_
          refine lv_aload_n hx hb dX2_learn_40 rfl (lv_at hl 1 rfl) ?_
          refine lv_iload_n hx hb dX2_learn_41 rfl (lv_at hl 2 rfl) ?_
          obtain ⟨u_6, hg_7, hf⟩ := pa_bd hf
          refine pa_ki (wc := (wo_X2_readFind cI cJ a_te a_tb a_ha a_hp a_hl a_hq a_hm v_te_length u_2.1 u_2.2.1 u_2.2.2.1 u_2.2.2.2 v_tb v_ha_finds v_hq v_hm)) (wr := [(a_hp, .inl (cI, 12, .inl v_hp)), (a_hl, .inl (cI, 12, .inl v_hl))]) (w1 := (wo_X2_readFind cI cJ a_te a_tb a_ha a_hp a_hl a_hq a_hm v_te_length u_6.2.1 u_6.2.2.1 u_6.2.2.2.1 u_6.2.2.2.2.1 v_tb v_ha_finds u_6.2.2.2.2.2.1 u_6.2.2.2.2.2.2)) (w2 := (wo_X2_learn cI cJ a_te a_tb a_ha a_hp a_hl a_hq a_hm v_te_length u_6.2.1 u_6.2.2.1 u_6.2.2.2.1 u_6.2.2.2.2.1 v_tb v_ha_finds v_hp v_hl u_6.2.2.2.2.2.1 u_6.2.2.2.2.2.2)) X hP hD hS [0, 1, 2, 5, 6] [3, 4] [2, 3, 4, 0, 1, 5, 6] rfl (pa_rV (As := [.ref a_te, .int x2]) (rest := []) (T := TX2) X hP hD hS [0, 1, 2, 5, 6] rfl rfl (c_X2_readFind hg_7 H.size) (cwV 2 hts gX2_learn_X2_readFind rfl rfl rfl (by decide +kernel) ⟨Nat.le_of_ble_eq_true rfl, Nat.le_of_ble_eq_true rfl⟩) (q0 := 2) rfl rfl rfl hl.1 rfl (Nat.le_of_ble_eq_true rfl) dX2_learn_42 ⟨Nat.zero_le _, Nat.zero_le _⟩) rfl rfl (by decide) rfl rfl (fun H locs hP hD hS => ?_)
          refine lv_if_ne (tgt := 56) hx hb dX2_learn_45 (by decide) (fun c_8 => ?_) (fun c_8 => ?_)
          · have hf := (if_neg c_8).symm.trans hf
            refine lv_iinc (v := (x2 + (1 : Int32))) (lv' := [(2, .int (x2 + (1 : Int32))), (0, .ref a_ha), (1, .ref a_te)]) hx hb dX2_learn_56 hl (k := 2) rfl rfl (by decide) rfl (fun ls hl => ?_)
            refine lv_goto (tgt := 6) hx hb dX2_learn_59 (by decide) ?_
            exact hrec6 _ _ _ _ _ _ _ hf _ _  hP hD hS _ (lv_sub hl [1, 2, 0] rfl)
          · have hf := (if_pos c_8).symm.trans hf
            refine lv_bipush (v := (-10 : Int32)) hx hb dX2_learn_48 (by decide) ?_
            refine lv_aload_n hx hb dX2_learn_50 rfl (lv_at hl 1 rfl) ?_
            refine va_getN (D := D) (ci := 6) (v := .int u_6.2.2.1) (C := RX6) (T := TX6) (N := 6) hx hb hts il_X2_learn_X6 hown hK hP 0 rfl rfl 3 (by decide) (va_Nw.use rfl (hG.1 _ (List.mem_of_getElem? (i := 3) rfl))) (fun _ h9 => h9) rfl dX2_learn_51 ?_
            refine lv_isub hx hb dX2_learn_54 ?_
            obtain rfl := Option.some.inj hf
            exact pa_ei X hP hD hS dX2_learn_55
      · have c_4 := Option.some.inj c_4
        have hf := (if_pos c_4).symm.trans hf
        refine lv_aload_n hx hb dX2_learn_26 rfl (lv_at hl 0 rfl) ?_
        refine lv_iload_n hx hb dX2_learn_27 rfl (lv_at hl 2 rfl) ?_
        refine lv_aload_n hx hb dX2_learn_28 rfl (lv_at hl 1 rfl) ?_
        obtain ⟨u_9, hg_10, hf⟩ := pa_bd hf
        refine pa_ki (wc := (wo_X2_keep cI cJ a_te a_tb a_ha a_hp a_hl a_hq a_hm v_te_length u_2.1 u_2.2.1 u_2.2.2.1 u_2.2.2.2 v_ha_finds v_hp v_hl v_hq v_hm)) (wr := [(a_tb, .inl (cI, 300, .inl v_tb))]) (w1 := (wo_X2_keep cI cJ a_te a_tb a_ha a_hp a_hl a_hq a_hm u_9.2.1 u_2.1 u_2.2.1 u_2.2.2.1 u_2.2.2.2 u_9.2.2.1 u_9.2.2.2.1 u_9.2.2.2.2 v_hq v_hm)) (w2 := (wo_X2_learn cI cJ a_te a_tb a_ha a_hp a_hl a_hq a_hm u_9.2.1 u_2.1 u_2.2.1 u_2.2.2.1 u_2.2.2.2 v_tb u_9.2.2.1 u_9.2.2.2.1 u_9.2.2.2.2 v_hq v_hm)) X hP hD hS [0, 2, 3, 4, 5, 6] [1] [1, 0, 2, 3, 4, 5, 6] rfl (pa_rV (As := [.int x2, .ref a_te]) (rest := []) (T := TX2) X hP hD hS [0, 2, 3, 4, 5, 6] rfl rfl (c_X2_keep hg_10 H.size) (cwV 2 hts gX2_learn_X2_keep rfl rfl rfl (by decide +kernel) ⟨Nat.le_of_ble_eq_true rfl, Nat.le_of_ble_eq_true rfl⟩) (q0 := 2) rfl rfl rfl hl.1 rfl (Nat.le_of_ble_eq_true rfl) dX2_learn_29 ⟨Nat.zero_le _, Nat.zero_le _⟩) rfl rfl (by decide) rfl rfl (fun H locs hP hD hS => ?_)
        obtain rfl := Option.some.inj hf
        exact pa_ei X hP hD hS dX2_learn_32
set_option maxHeartbeats 4000000 in
set_option maxRecDepth 100000 in
theorem w_X2_learn_b0 {l : Launch} {D : va_G} {cI cJ : ClassId} {g : pa_GT} {a_te a_tb a_ha a_hp a_hl a_hq a_hm : Nat} {A : Nat → Prop} {p : Program} {e : Env} {s : State} {m : MethodId} {args : Array Value} {below : List Frame} {meth : Method} {c : Code} {v_te_length : Int32} {v_te_token : Nat} {v_te_place : Int32} {v_te_end : Int32} {v_te_value : Int32} {v_tb : Nat → Int32} {v_ha_finds : Int32} {v_hp : Nat → Int32} {v_hl : Nat → Int32} {v_hq : Nat → Int32} {v_hm : Nat → Int32}  {o : Int32 × Int32 × Nat × Int32 × Int32 × Int32 × Int32 × (Nat → Int32) × (Nat → Int32) × (Nat → Int32) × (Nat → Int32)} (X : pa_X cX2_learn 3 (some .int) RX2 wsX2_learn D cI cJ g A p s m args meth c)  (hf : f_X2_learn g v_te_length v_te_token v_te_place v_te_end v_te_value v_tb v_ha_finds v_hp v_hl v_hq v_hm = some o) {H : Heap} {locs : List Loc} (hP : va_P D vwCl (wo_X2_learn cI cJ a_te a_tb a_ha a_hp a_hl a_hq a_hm v_te_length v_te_token v_te_place v_te_end v_te_value v_tb v_ha_finds v_hp v_hl v_hq v_hm) H) (hD : va_D A (wo_X2_learn cI cJ a_te a_tb a_ha a_hp a_hl a_hq a_hm v_te_length v_te_token v_te_place v_te_end v_te_value v_tb v_ha_finds v_hp v_hl v_hq v_hm)) (hS : va_S A s.heap H locs) {ls : Array Slot} (hl : lv_has ls 3 [(0, .ref a_ha), (1, .ref a_te)]) : W p l e (headSpec wsX2_learn rm_X2_learn).room s m args below meth c H locs 0 0 (MQ below (va_Qi (fun r (_ : Unit) => r = o.1) (pa_QB D A (wo_X2_learn cI cJ a_te a_tb a_ha a_hp a_hl a_hq a_hm o.2.1 o.2.2.1 o.2.2.2.1 o.2.2.2.2.1 o.2.2.2.2.2.1 v_tb o.2.2.2.2.2.2.1 o.2.2.2.2.2.2.2.1 o.2.2.2.2.2.2.2.2.1 o.2.2.2.2.2.2.2.2.2.1 o.2.2.2.2.2.2.2.2.2.2)) A) args s 0 0 A) (F0 m 0 ls []) := by
  obtain ⟨hx, hb, hr, hml, hown, hts, hK, hA, hG, hlk⟩ := id X
  delta f_X2_learn at hf
  refine lv_aload_n hx hb dX2_learn_0 rfl (lv_at hl 1 rfl) ?_
  obtain ⟨u_11, hg_12, hf⟩ := pa_bd hf
  refine pa_kv (wc := (wo_X6_rewind cI cJ a_te a_tb v_te_length v_te_token v_te_place v_te_end v_te_value)) (wr := [(a_tb, .inl (cI, 300, .inl v_tb)), (a_ha, .inr (2, [.ref a_hp, .ref a_hl, .ref a_hq, .ref a_hm, .int v_ha_finds])), (a_hp, .inl (cI, 12, .inl v_hp)), (a_hl, .inl (cI, 12, .inl v_hl)), (a_hq, .inl (cI, 12, .inl v_hq)), (a_hm, .inl (cI, 12, .inl v_hm))]) (w1 := (wo_X6_rewind cI cJ a_te a_tb v_te_length v_te_token v_te_place u_11 v_te_value)) (w2 := (wo_X2_learn cI cJ a_te a_tb a_ha a_hp a_hl a_hq a_hm v_te_length v_te_token v_te_place u_11 v_te_value v_tb v_ha_finds v_hp v_hl v_hq v_hm)) X hP hD hS [0] [1, 2, 3, 4, 5, 6] [6, 0, 1, 2, 3, 4, 5] rfl (pa_rV (As := []) (rest := []) (T := TX6) X hP hD hS [0] rfl rfl (c_X6_rewind hg_12 H.size) (cwV 0 hts gX2_learn_X6_rewind rfl rfl rfl (by decide +kernel) ⟨Nat.le_of_ble_eq_true rfl, Nat.le_of_ble_eq_true rfl⟩) (q0 := 0) rfl rfl rfl hl.1 rfl (Nat.le_of_ble_eq_true rfl) dX2_learn_1 ⟨Nat.zero_le _, Nat.zero_le _⟩) rfl rfl (by decide) rfl rfl (fun H locs hP hD hS => ?_)
  refine lv_iconst (v := (0 : Int32)) hx hb dX2_learn_4 (by decide) ?_
  refine lv_istore_n (lv' := [(2, .int (0 : Int32)), (0, .ref a_ha), (1, .ref a_te)]) hx hb dX2_learn_5 rfl hl (by decide) rfl (fun ls hl => ?_)
  exact w_X2_learn_L6 X  _ _ _ _ _ _ _ _ hf _ _  hP hD hS _ (lv_sub hl [1, 2, 0] rfl)
set_option maxHeartbeats 4000000 in
set_option maxRecDepth 100000 in
theorem c_X2_learn {l : Launch} {D : va_G} {cI cJ : ClassId} {g : pa_GT} {a_te a_tb a_ha a_hp a_hl a_hq a_hm : Nat}  {v_te_length : Int32} {v_te_token : Nat} {v_te_place : Int32} {v_te_end : Int32} {v_te_value : Int32} {v_tb : Nat → Int32} {v_ha_finds : Int32} {v_hp : Nat → Int32} {v_hl : Nat → Int32} {v_hq : Nat → Int32} {v_hm : Nat → Int32} {o : Int32 × Int32 × Nat × Int32 × Int32 × Int32 × Int32 × (Nat → Int32) × (Nat → Int32) × (Nat → Int32) × (Nat → Int32)} (hf : f_X2_learn g v_te_length v_te_token v_te_place v_te_end v_te_value v_tb v_ha_finds v_hp v_hl v_hq v_hm = some o) : pa_Mi l yX2_learn wsX2_learn rm_X2_learn D cI cJ g [.ref a_ha, .ref a_te] (wo_X2_learn cI cJ a_te a_tb a_ha a_hp a_hl a_hq a_hm v_te_length v_te_token v_te_place v_te_end v_te_value v_tb v_ha_finds v_hp v_hl v_hq v_hm) (wo_X2_learn cI cJ a_te a_tb a_ha a_hp a_hl a_hq a_hm o.2.1 o.2.2.1 o.2.2.2.1 o.2.2.2.2.1 o.2.2.2.2.2.1 v_tb o.2.2.2.2.2.2.1 o.2.2.2.2.2.2.2.1 o.2.2.2.2.2.2.2.2.1 o.2.2.2.2.2.2.2.2.2.1 o.2.2.2.2.2.2.2.2.2.2) o.1 := by
  intro sz
  refine pa_met (cc := cX2_learn) (maxL := 3) (ret := (some .int)) (lv := [(0, .ref a_ha), (1, .ref a_te)]) (by decide) rfl (Nat.le_of_ble_eq_true rfl) rfl ?_
  intro p e s m below meth c X hsz hP hD ls hl
  subst hsz
  exact w_X2_learn_b0 X hf hP hD va_S.rf hl
