abbrev wo_X9_held (cI cJ : ClassId) (a_x a_la a_te a_ha a_as a_lo a_we a_ho a_hn a_fr a_pr : Nat) (v_x_trace : Int64) (v_ho_rows : Int32) (v_hn : Nat → Int32) : va_W := [(a_x, .inr (8, [.ref a_la, .ref a_te, .ref a_ha, .ref a_as, .ref a_lo, .ref a_we, .ref a_ho, .ref a_fr, .ref a_pr, .long v_x_trace])), (a_ho, .inr (3, [.ref a_hn, .int v_ho_rows])), (a_hn, .inl (cI, 24, .inl v_hn))]
abbrev rm_X9_held : Room := { frames := 1, cells := 0, slots := 0, locals := 23 }
theorem il_X9_held_X9 : ∀ w ∈ wsX90, w ∈ wsX9_held := by decide +kernel
theorem fk_X9_held_0 : Cond.fieldLink RX9 54 "PostedAsks" "house" "LPostedAsks$House;" ∈ wsX9_held := by decide +kernel
def f_X9_held (x1 : Int32) (v_ho_rows : Int32) (v_hn : Nat → Int32) : Option (Int32) :=
  (f_X9_within x1 (0 : Int32) (1000 : Int32)).bind fun u_1 =>
  if u_1 = 0 then
    some ((-1 : Int32))
  else
    (f_X3_holding x1 v_ho_rows v_hn).bind fun u_4 =>
    some (u_4)
set_option maxHeartbeats 4000000 in
set_option maxRecDepth 100000 in
theorem w_X9_held_b0 {l : Launch} {D : va_G} {cI cJ : ClassId} {g : pa_GT} {a_x a_la a_te a_ha a_as a_lo a_we a_ho a_hn a_fr a_pr : Nat} {A : Nat → Prop} {p : Program} {e : Env} {s : State} {m : MethodId} {args : Array Value} {below : List Frame} {meth : Method} {c : Code} {x1 : Int32} {v_ho_rows : Int32} {v_hn : Nat → Int32} {v_x_trace : Int64} {o : Int32} (X : pa_X cX9_held 2 (some .int) RX9 wsX9_held D cI cJ g A p s m args meth c)  (hf : f_X9_held x1 v_ho_rows v_hn = some o) {H : Heap} {locs : List Loc} (hP : va_P D vwCl (wo_X9_held cI cJ a_x a_la a_te a_ha a_as a_lo a_we a_ho a_hn a_fr a_pr v_x_trace v_ho_rows v_hn) H) (hD : va_D A (wo_X9_held cI cJ a_x a_la a_te a_ha a_as a_lo a_we a_ho a_hn a_fr a_pr v_x_trace v_ho_rows v_hn)) (hS : va_S A s.heap H locs) {ls : Array Slot} (hl : lv_has ls 2 [(0, .ref a_x), (1, .int x1)]) : W p l e (headSpec wsX9_held rm_X9_held).room s m args below meth c H locs 0 0 (MQ below (va_Qi (fun r (_ : Unit) => r = o) (pa_QB D A (wo_X9_held cI cJ a_x a_la a_te a_ha a_as a_lo a_we a_ho a_hn a_fr a_pr v_x_trace v_ho_rows v_hn)) A) args s 0 0 A) (F0 m 0 ls []) := by
  obtain ⟨hx, hb, hr, hml, hown, hts, hK, hA, hG, hlk⟩ := id X
  delta f_X9_held at hf
  refine lv_iload_n hx hb dX9_held_0 rfl (lv_at hl 1 rfl) ?_
  refine lv_iconst (v := (0 : Int32)) hx hb dX9_held_1 (by decide) ?_
  refine lv_sipush (v := (1000 : Int32)) hx hb dX9_held_2 (by decide) ?_
  obtain ⟨u_1, hg_2, hf⟩ := pa_bd hf
  refine pa_ki (wc := ([] : va_W)) (wr := [(a_x, .inr (8, [.ref a_la, .ref a_te, .ref a_ha, .ref a_as, .ref a_lo, .ref a_we, .ref a_ho, .ref a_fr, .ref a_pr, .long v_x_trace])), (a_ho, .inr (3, [.ref a_hn, .int v_ho_rows])), (a_hn, .inl (cI, 24, .inl v_hn))]) (w1 := ([] : va_W)) (w2 := (wo_X9_held cI cJ a_x a_la a_te a_ha a_as a_lo a_we a_ho a_hn a_fr a_pr v_x_trace v_ho_rows v_hn)) X hP hD hS [] [0, 1, 2] [0, 1, 2] rfl (pa_rS (As := [.int x1, .int (0 : Int32), .int (1000 : Int32)]) (rest := []) X hP hD hS [] rfl rfl (c_X9_within hg_2 H.size) (va_cwS 3 hts gX9_held_X9_within rfl rfl rfl (by decide +kernel) ⟨Nat.le_of_ble_eq_true rfl, Nat.le_of_ble_eq_true rfl⟩) rfl hl.1 rfl (Nat.le_of_ble_eq_true rfl) dX9_held_5 ⟨Nat.zero_le _, Nat.zero_le _⟩) rfl rfl (by decide) rfl rfl (fun H locs hP hD hS => ?_)
  refine lv_if_ne (tgt := 13) hx hb dX9_held_8 (by decide) (fun c_3 => ?_) (fun c_3 => ?_)
  · have hf := (if_neg c_3).symm.trans hf
    refine lv_aload_n hx hb dX9_held_13 rfl (lv_at hl 0 rfl) ?_
    refine va_get (D := D) (ci := 8) (v := .ref a_ho) (C := RX9) (T := TX9) (N := 10) hx hb hts il_X9_held_X9 hown hK hP 0 rfl rfl 6 (by decide) (hts _ fk_X9_held_0) (fun _ h9 => h9) rfl dX9_held_14 ?_
    refine lv_iload_n hx hb dX9_held_17 rfl (lv_at hl 1 rfl) ?_
    obtain ⟨u_4, hg_5, hf⟩ := pa_bd hf
    refine pa_ki (wc := (wo_X3_holding cI cJ a_ho a_hn v_ho_rows v_hn)) (wr := [(a_x, .inr (8, [.ref a_la, .ref a_te, .ref a_ha, .ref a_as, .ref a_lo, .ref a_we, .ref a_ho, .ref a_fr, .ref a_pr, .long v_x_trace]))]) (w1 := (wo_X3_holding cI cJ a_ho a_hn v_ho_rows v_hn)) (w2 := (wo_X9_held cI cJ a_x a_la a_te a_ha a_as a_lo a_we a_ho a_hn a_fr a_pr v_x_trace v_ho_rows v_hn)) X hP hD hS [1, 2] [0] [0, 1, 2] rfl (pa_rV (As := [.int x1]) (rest := []) (T := TX3) X hP hD hS [1, 2] rfl rfl (c_X3_holding hg_5 H.size) (cwV 1 hts gX9_held_X3_holding rfl rfl rfl (by decide +kernel) ⟨Nat.le_of_ble_eq_true rfl, Nat.le_of_ble_eq_true rfl⟩) (q0 := 1) rfl rfl rfl hl.1 rfl (Nat.le_of_ble_eq_true rfl) dX9_held_18 ⟨Nat.zero_le _, Nat.zero_le _⟩) rfl rfl (by decide) rfl rfl (fun H locs hP hD hS => ?_)
    obtain rfl := Option.some.inj hf
    exact pa_ei X hP hD hS dX9_held_21
  · have hf := (if_pos c_3).symm.trans hf
    refine lv_iconst (v := (-1 : Int32)) hx hb dX9_held_11 (by decide) ?_
    obtain rfl := Option.some.inj hf
    exact pa_ei X hP hD hS dX9_held_12
set_option maxHeartbeats 4000000 in
set_option maxRecDepth 100000 in
theorem c_X9_held {l : Launch} {D : va_G} {cI cJ : ClassId} {g : pa_GT} {a_x a_la a_te a_ha a_as a_lo a_we a_ho a_hn a_fr a_pr : Nat} {x1 : Int32} {v_x_trace : Int64} {v_ho_rows : Int32} {v_hn : Nat → Int32} {o : Int32} (hf : f_X9_held x1 v_ho_rows v_hn = some o) : pa_Mi l yX9_held wsX9_held rm_X9_held D cI cJ g [.ref a_x, .int x1] (wo_X9_held cI cJ a_x a_la a_te a_ha a_as a_lo a_we a_ho a_hn a_fr a_pr v_x_trace v_ho_rows v_hn) (wo_X9_held cI cJ a_x a_la a_te a_ha a_as a_lo a_we a_ho a_hn a_fr a_pr v_x_trace v_ho_rows v_hn) o := by
  intro sz
  refine pa_met (cc := cX9_held) (maxL := 2) (ret := (some .int)) (lv := [(0, .ref a_x), (1, .int x1)]) (by decide) rfl (Nat.le_of_ble_eq_true rfl) rfl ?_
  intro p e s m below meth c X hsz hP hD ls hl
  subst hsz
  exact w_X9_held_b0 X hf hP hD va_S.rf hl
abbrev wo_X9_wider (cI cJ : ClassId) (a_x a_la a_te a_ha a_as a_lo a_we a_ho a_hn a_fr a_pr : Nat) (v_x_trace : Int64) (v_ho_rows : Int32) (v_hn : Nat → Int32) : va_W := [(a_x, .inr (8, [.ref a_la, .ref a_te, .ref a_ha, .ref a_as, .ref a_lo, .ref a_we, .ref a_ho, .ref a_fr, .ref a_pr, .long v_x_trace])), (a_ho, .inr (3, [.ref a_hn, .int v_ho_rows])), (a_hn, .inl (cI, 24, .inl v_hn))]
abbrev rm_X9_wider : Room := { frames := 1, cells := 0, slots := 0, locals := 22 }
theorem il_X9_wider_X9 : ∀ w ∈ wsX90, w ∈ wsX9_wider := by decide +kernel
theorem fk_X9_wider_0 : Cond.fieldLink RX9 54 "PostedAsks" "house" "LPostedAsks$House;" ∈ wsX9_wider := by decide +kernel
def f_X9_wider (x1 : Int32) (v_ho_rows : Int32) (v_hn : Nat → Int32) : Option (Int32) :=
  (f_X9_within x1 (0 : Int32) (24 : Int32)).bind fun u_1 =>
  if u_1 = 0 then
    some ((-1 : Int32))
  else
    (f_X3_needFor x1 v_ho_rows v_hn).bind fun u_4 =>
    some (u_4)
set_option maxHeartbeats 4000000 in
set_option maxRecDepth 100000 in
theorem w_X9_wider_b0 {l : Launch} {D : va_G} {cI cJ : ClassId} {g : pa_GT} {a_x a_la a_te a_ha a_as a_lo a_we a_ho a_hn a_fr a_pr : Nat} {A : Nat → Prop} {p : Program} {e : Env} {s : State} {m : MethodId} {args : Array Value} {below : List Frame} {meth : Method} {c : Code} {x1 : Int32} {v_ho_rows : Int32} {v_hn : Nat → Int32} {v_x_trace : Int64} {o : Int32} (X : pa_X cX9_wider 2 (some .int) RX9 wsX9_wider D cI cJ g A p s m args meth c)  (hf : f_X9_wider x1 v_ho_rows v_hn = some o) {H : Heap} {locs : List Loc} (hP : va_P D vwCl (wo_X9_wider cI cJ a_x a_la a_te a_ha a_as a_lo a_we a_ho a_hn a_fr a_pr v_x_trace v_ho_rows v_hn) H) (hD : va_D A (wo_X9_wider cI cJ a_x a_la a_te a_ha a_as a_lo a_we a_ho a_hn a_fr a_pr v_x_trace v_ho_rows v_hn)) (hS : va_S A s.heap H locs) {ls : Array Slot} (hl : lv_has ls 2 [(0, .ref a_x), (1, .int x1)]) : W p l e (headSpec wsX9_wider rm_X9_wider).room s m args below meth c H locs 0 0 (MQ below (va_Qi (fun r (_ : Unit) => r = o) (pa_QB D A (wo_X9_wider cI cJ a_x a_la a_te a_ha a_as a_lo a_we a_ho a_hn a_fr a_pr v_x_trace v_ho_rows v_hn)) A) args s 0 0 A) (F0 m 0 ls []) := by
  obtain ⟨hx, hb, hr, hml, hown, hts, hK, hA, hG, hlk⟩ := id X
  delta f_X9_wider at hf
  refine lv_iload_n hx hb dX9_wider_0 rfl (lv_at hl 1 rfl) ?_
  refine lv_iconst (v := (0 : Int32)) hx hb dX9_wider_1 (by decide) ?_
  refine lv_bipush (v := (24 : Int32)) hx hb dX9_wider_2 (by decide) ?_
  obtain ⟨u_1, hg_2, hf⟩ := pa_bd hf
  refine pa_ki (wc := ([] : va_W)) (wr := [(a_x, .inr (8, [.ref a_la, .ref a_te, .ref a_ha, .ref a_as, .ref a_lo, .ref a_we, .ref a_ho, .ref a_fr, .ref a_pr, .long v_x_trace])), (a_ho, .inr (3, [.ref a_hn, .int v_ho_rows])), (a_hn, .inl (cI, 24, .inl v_hn))]) (w1 := ([] : va_W)) (w2 := (wo_X9_wider cI cJ a_x a_la a_te a_ha a_as a_lo a_we a_ho a_hn a_fr a_pr v_x_trace v_ho_rows v_hn)) X hP hD hS [] [0, 1, 2] [0, 1, 2] rfl (pa_rS (As := [.int x1, .int (0 : Int32), .int (24 : Int32)]) (rest := []) X hP hD hS [] rfl rfl (c_X9_within hg_2 H.size) (va_cwS 3 hts gX9_wider_X9_within rfl rfl rfl (by decide +kernel) ⟨Nat.le_of_ble_eq_true rfl, Nat.le_of_ble_eq_true rfl⟩) rfl hl.1 rfl (Nat.le_of_ble_eq_true rfl) dX9_wider_4 ⟨Nat.zero_le _, Nat.zero_le _⟩) rfl rfl (by decide) rfl rfl (fun H locs hP hD hS => ?_)
  refine lv_if_ne (tgt := 12) hx hb dX9_wider_7 (by decide) (fun c_3 => ?_) (fun c_3 => ?_)
  · have hf := (if_neg c_3).symm.trans hf
    refine lv_aload_n hx hb dX9_wider_12 rfl (lv_at hl 0 rfl) ?_
    refine va_get (D := D) (ci := 8) (v := .ref a_ho) (C := RX9) (T := TX9) (N := 10) hx hb hts il_X9_wider_X9 hown hK hP 0 rfl rfl 6 (by decide) (hts _ fk_X9_wider_0) (fun _ h9 => h9) rfl dX9_wider_13 ?_
    refine lv_iload_n hx hb dX9_wider_16 rfl (lv_at hl 1 rfl) ?_
    obtain ⟨u_4, hg_5, hf⟩ := pa_bd hf
    refine pa_ki (wc := (wo_X3_needFor cI cJ a_ho a_hn v_ho_rows v_hn)) (wr := [(a_x, .inr (8, [.ref a_la, .ref a_te, .ref a_ha, .ref a_as, .ref a_lo, .ref a_we, .ref a_ho, .ref a_fr, .ref a_pr, .long v_x_trace]))]) (w1 := (wo_X3_needFor cI cJ a_ho a_hn v_ho_rows v_hn)) (w2 := (wo_X9_wider cI cJ a_x a_la a_te a_ha a_as a_lo a_we a_ho a_hn a_fr a_pr v_x_trace v_ho_rows v_hn)) X hP hD hS [1, 2] [0] [0, 1, 2] rfl (pa_rV (As := [.int x1]) (rest := []) (T := TX3) X hP hD hS [1, 2] rfl rfl (c_X3_needFor hg_5 H.size) (cwV 1 hts gX9_wider_X3_needFor rfl rfl rfl (by decide +kernel) ⟨Nat.le_of_ble_eq_true rfl, Nat.le_of_ble_eq_true rfl⟩) (q0 := 1) rfl rfl rfl hl.1 rfl (Nat.le_of_ble_eq_true rfl) dX9_wider_17 ⟨Nat.zero_le _, Nat.zero_le _⟩) rfl rfl (by decide) rfl rfl (fun H locs hP hD hS => ?_)
    obtain rfl := Option.some.inj hf
    exact pa_ei X hP hD hS dX9_wider_20
  · have hf := (if_pos c_3).symm.trans hf
    refine lv_iconst (v := (-1 : Int32)) hx hb dX9_wider_10 (by decide) ?_
    obtain rfl := Option.some.inj hf
    exact pa_ei X hP hD hS dX9_wider_11
set_option maxHeartbeats 4000000 in
set_option maxRecDepth 100000 in
theorem c_X9_wider {l : Launch} {D : va_G} {cI cJ : ClassId} {g : pa_GT} {a_x a_la a_te a_ha a_as a_lo a_we a_ho a_hn a_fr a_pr : Nat} {x1 : Int32} {v_x_trace : Int64} {v_ho_rows : Int32} {v_hn : Nat → Int32} {o : Int32} (hf : f_X9_wider x1 v_ho_rows v_hn = some o) : pa_Mi l yX9_wider wsX9_wider rm_X9_wider D cI cJ g [.ref a_x, .int x1] (wo_X9_wider cI cJ a_x a_la a_te a_ha a_as a_lo a_we a_ho a_hn a_fr a_pr v_x_trace v_ho_rows v_hn) (wo_X9_wider cI cJ a_x a_la a_te a_ha a_as a_lo a_we a_ho a_hn a_fr a_pr v_x_trace v_ho_rows v_hn) o := by
  intro sz
  refine pa_met (cc := cX9_wider) (maxL := 2) (ret := (some .int)) (lv := [(0, .ref a_x), (1, .int x1)]) (by decide) rfl (Nat.le_of_ble_eq_true rfl) rfl ?_
  intro p e s m below meth c X hsz hP hD ls hl
  subst hsz
  exact w_X9_wider_b0 X hf hP hD va_S.rf hl
abbrev wo_X9_price (cI cJ : ClassId) (a_x a_la a_te a_ha a_as a_lo a_we a_ho a_fr a_pr : Nat) (v_x_trace : Int64) (v_pr : Nat → Int32) : va_W := [(a_x, .inr (8, [.ref a_la, .ref a_te, .ref a_ha, .ref a_as, .ref a_lo, .ref a_we, .ref a_ho, .ref a_fr, .ref a_pr, .long v_x_trace])), (a_pr, .inl (cI, 3, .inl v_pr))]
abbrev rm_X9_price : Room := { frames := 1, cells := 0, slots := 0, locals := 22 }
theorem il_X9_price_X9 : ∀ w ∈ wsX90, w ∈ wsX9_price := by decide +kernel
theorem fk_X9_price_0 : Cond.fieldLink RX9 65 "PostedAsks" "prices" "[I" ∈ wsX9_price := by decide +kernel
def f_X9_price_b33 (x1 : Int32) (x2 : Int32) (s0 : Int32) (v_pr : Nat → Int32) : Option (Int32 × (Nat → Int32)) :=
  if s0 = 0 then
    some ((-1 : Int32), v_pr)
  else
    if pa_ib x1 3 = true then
      some ((v_pr (Int32.toNatClampNeg x1)), (upd v_pr (Int32.toNatClampNeg x1) x2))
    else none
def f_X9_price (x1 : Int32) (x2 : Int32) (v_pr : Nat → Int32) : Option (Int32 × (Nat → Int32)) :=
  (f_X9_within x1 (0 : Int32) (2 : Int32)).bind fun u_4 =>
  if u_4 = 0 then
    some ((-1 : Int32), v_pr)
  else
    if x1 = (2 : Int32) then
      (f_X9_within x2 (1 : Int32) (100 : Int32)).bind fun u_10 =>
      f_X9_price_b33 x1 x2 u_10 v_pr
    else
      (f_X9_within x2 (0 : Int32) (99 : Int32)).bind fun u_8 =>
      f_X9_price_b33 x1 x2 u_8 v_pr
set_option maxHeartbeats 4000000 in
set_option maxRecDepth 100000 in
theorem w_X9_price_b33 {l : Launch} {D : va_G} {cI cJ : ClassId} {g : pa_GT} {a_x a_la a_te a_ha a_as a_lo a_we a_ho a_fr a_pr : Nat} {A : Nat → Prop} {p : Program} {e : Env} {s : State} {m : MethodId} {args : Array Value} {below : List Frame} {meth : Method} {c : Code} {x1 : Int32} {x2 : Int32} {s0 : Int32} {v_pr : Nat → Int32} {v_x_trace : Int64} {o : Int32 × (Nat → Int32)} (X : pa_X cX9_price 5 (some .int) RX9 wsX9_price D cI cJ g A p s m args meth c)  (hf : f_X9_price_b33 x1 x2 s0 v_pr = some o) {H : Heap} {locs : List Loc} (hP : va_P D vwCl (wo_X9_price cI cJ a_x a_la a_te a_ha a_as a_lo a_we a_ho a_fr a_pr v_x_trace v_pr) H) (hD : va_D A (wo_X9_price cI cJ a_x a_la a_te a_ha a_as a_lo a_we a_ho a_fr a_pr v_x_trace v_pr)) (hS : va_S A s.heap H locs) {ls : Array Slot} (hl : lv_has ls 5 [(0, .ref a_x), (1, .int x1), (2, .int x2)]) : W p l e (headSpec wsX9_price rm_X9_price).room s m args below meth c H locs 0 0 (MQ below (va_Qi (fun r (_ : Unit) => r = o.1) (pa_QB D A (wo_X9_price cI cJ a_x a_la a_te a_ha a_as a_lo a_we a_ho a_fr a_pr v_x_trace o.2)) A) args s 0 0 A) (F0 m 33 ls [.int s0]) := by
  obtain ⟨hx, hb, hr, hml, hown, hts, hK, hA, hG, hlk⟩ := id X
  delta f_X9_price_b33 at hf
  refine lv_istore_n (lv' := [(3, .int s0), (0, .ref a_x), (1, .int x1), (2, .int x2)]) hx hb dX9_price_33 rfl hl (by decide) rfl (fun ls hl => ?_)
  refine lv_iload_n hx hb dX9_price_34 rfl (lv_at hl 0 rfl) ?_
  refine lv_if_ne (tgt := 40) hx hb dX9_price_35 (by decide) (fun c_1 => ?_) (fun c_1 => ?_)
  · have hf := (if_neg c_1).symm.trans hf
    refine lv_aload_n hx hb dX9_price_40 rfl (lv_at hl 1 rfl) ?_
    refine va_get (D := D) (ci := 8) (v := .ref a_pr) (C := RX9) (T := TX9) (N := 10) hx hb hts il_X9_price_X9 hown hK hP 0 rfl rfl 8 (by decide) (hts _ fk_X9_price_0) (fun _ h9 => h9) rfl dX9_price_41 ?_
    refine lv_iload_n hx hb dX9_price_44 rfl (lv_at hl 2 rfl) ?_
    obtain ⟨hi_2, hf⟩ := pa_gd hf
    refine va_iald hx hb hK hP 1 0 rfl rfl hi_2 dX9_price_45 ?_
    refine lv_istore (lv' := [(4, .int (v_pr (Int32.toNatClampNeg x1))), (3, .int s0), (0, .ref a_x), (1, .int x1), (2, .int x2)]) hx hb dX9_price_46 hl (by decide) rfl (fun ls hl => ?_)
    refine lv_aload_n hx hb dX9_price_48 rfl (lv_at hl 2 rfl) ?_
    refine va_get (D := D) (ci := 8) (v := .ref a_pr) (C := RX9) (T := TX9) (N := 10) hx hb hts il_X9_price_X9 hown hK hP 0 rfl rfl 8 (by decide) (hts _ fk_X9_price_0) (fun _ h9 => h9) rfl dX9_price_49 ?_
    refine lv_iload_n hx hb dX9_price_52 rfl (lv_at hl 3 rfl) ?_
    refine lv_iload_n hx hb dX9_price_53 rfl (lv_at hl 4 rfl) ?_
    refine va_iast hx hb hK hP hD hS 1 0 rfl rfl hi_2 dX9_price_54 (fun H locs hP hD hS => ?_)
    have hP : va_P D vwCl (wo_X9_price cI cJ a_x a_la a_te a_ha a_as a_lo a_we a_ho a_fr a_pr v_x_trace (upd v_pr (Int32.toNatClampNeg x1) x2)) H := hP
    have hD : va_D A (wo_X9_price cI cJ a_x a_la a_te a_ha a_as a_lo a_we a_ho a_fr a_pr v_x_trace (upd v_pr (Int32.toNatClampNeg x1) x2)) := hD
    refine lv_iload hx hb dX9_price_55 (lv_at hl 0 rfl) ?_
    obtain rfl := Option.some.inj hf
    exact pa_ei X hP hD hS dX9_price_57
  · have hf := (if_pos c_1).symm.trans hf
    refine lv_iconst (v := (-1 : Int32)) hx hb dX9_price_38 (by decide) ?_
    obtain rfl := Option.some.inj hf
    exact pa_ei X hP hD hS dX9_price_39
set_option maxHeartbeats 4000000 in
set_option maxRecDepth 100000 in
theorem w_X9_price_b0 {l : Launch} {D : va_G} {cI cJ : ClassId} {g : pa_GT} {a_x a_la a_te a_ha a_as a_lo a_we a_ho a_fr a_pr : Nat} {A : Nat → Prop} {p : Program} {e : Env} {s : State} {m : MethodId} {args : Array Value} {below : List Frame} {meth : Method} {c : Code} {x1 : Int32} {x2 : Int32} {v_pr : Nat → Int32} {v_x_trace : Int64} {o : Int32 × (Nat → Int32)} (X : pa_X cX9_price 5 (some .int) RX9 wsX9_price D cI cJ g A p s m args meth c)  (hf : f_X9_price x1 x2 v_pr = some o) {H : Heap} {locs : List Loc} (hP : va_P D vwCl (wo_X9_price cI cJ a_x a_la a_te a_ha a_as a_lo a_we a_ho a_fr a_pr v_x_trace v_pr) H) (hD : va_D A (wo_X9_price cI cJ a_x a_la a_te a_ha a_as a_lo a_we a_ho a_fr a_pr v_x_trace v_pr)) (hS : va_S A s.heap H locs) {ls : Array Slot} (hl : lv_has ls 5 [(0, .ref a_x), (1, .int x1), (2, .int x2)]) : W p l e (headSpec wsX9_price rm_X9_price).room s m args below meth c H locs 0 0 (MQ below (va_Qi (fun r (_ : Unit) => r = o.1) (pa_QB D A (wo_X9_price cI cJ a_x a_la a_te a_ha a_as a_lo a_we a_ho a_fr a_pr v_x_trace o.2)) A) args s 0 0 A) (F0 m 0 ls []) := by
  obtain ⟨hx, hb, hr, hml, hown, hts, hK, hA, hG, hlk⟩ := id X
  delta f_X9_price at hf
  refine lv_iload_n hx hb dX9_price_0 rfl (lv_at hl 1 rfl) ?_
  refine lv_iconst (v := (0 : Int32)) hx hb dX9_price_1 (by decide) ?_
  refine lv_iconst (v := (2 : Int32)) hx hb dX9_price_2 (by decide) ?_
  obtain ⟨u_4, hg_5, hf⟩ := pa_bd hf
  refine pa_ki (wc := ([] : va_W)) (wr := [(a_x, .inr (8, [.ref a_la, .ref a_te, .ref a_ha, .ref a_as, .ref a_lo, .ref a_we, .ref a_ho, .ref a_fr, .ref a_pr, .long v_x_trace])), (a_pr, .inl (cI, 3, .inl v_pr))]) (w1 := ([] : va_W)) (w2 := (wo_X9_price cI cJ a_x a_la a_te a_ha a_as a_lo a_we a_ho a_fr a_pr v_x_trace v_pr)) X hP hD hS [] [0, 1] [0, 1] rfl (pa_rS (As := [.int x1, .int (0 : Int32), .int (2 : Int32)]) (rest := []) X hP hD hS [] rfl rfl (c_X9_within hg_5 H.size) (va_cwS 3 hts gX9_price_X9_within rfl rfl rfl (by decide +kernel) ⟨Nat.le_of_ble_eq_true rfl, Nat.le_of_ble_eq_true rfl⟩) rfl hl.1 rfl (Nat.le_of_ble_eq_true rfl) dX9_price_3 ⟨Nat.zero_le _, Nat.zero_le _⟩) rfl rfl (by decide) rfl rfl (fun H locs hP hD hS => ?_)
  refine lv_if_ne (tgt := 11) hx hb dX9_price_6 (by decide) (fun c_6 => ?_) (fun c_6 => ?_)
  · have hf := (if_neg c_6).symm.trans hf
    refine lv_iload_n hx hb dX9_price_11 rfl (lv_at hl 1 rfl) ?_
    refine lv_iconst (v := (2 : Int32)) hx hb dX9_price_12 (by decide) ?_
    refine lv_icmp_ne (tgt := 26) hx hb dX9_price_13 (by decide) (fun c_7 => ?_) (fun c_7 => ?_)
    · have hf := (if_neg c_7).symm.trans hf
      refine lv_iload_n hx hb dX9_price_26 rfl (lv_at hl 2 rfl) ?_
      refine lv_iconst (v := (0 : Int32)) hx hb dX9_price_27 (by decide) ?_
      refine lv_bipush (v := (99 : Int32)) hx hb dX9_price_28 (by decide) ?_
      obtain ⟨u_8, hg_9, hf⟩ := pa_bd hf
      refine pa_ki (wc := ([] : va_W)) (wr := [(a_x, .inr (8, [.ref a_la, .ref a_te, .ref a_ha, .ref a_as, .ref a_lo, .ref a_we, .ref a_ho, .ref a_fr, .ref a_pr, .long v_x_trace])), (a_pr, .inl (cI, 3, .inl v_pr))]) (w1 := ([] : va_W)) (w2 := (wo_X9_price cI cJ a_x a_la a_te a_ha a_as a_lo a_we a_ho a_fr a_pr v_x_trace v_pr)) X hP hD hS [] [0, 1] [0, 1] rfl (pa_rS (As := [.int x2, .int (0 : Int32), .int (99 : Int32)]) (rest := []) X hP hD hS [] rfl rfl (c_X9_within hg_9 H.size) (va_cwS 3 hts gX9_price_X9_within rfl rfl rfl (by decide +kernel) ⟨Nat.le_of_ble_eq_true rfl, Nat.le_of_ble_eq_true rfl⟩) rfl hl.1 rfl (Nat.le_of_ble_eq_true rfl) dX9_price_30 ⟨Nat.zero_le _, Nat.zero_le _⟩) rfl rfl (by decide) rfl rfl (fun H locs hP hD hS => ?_)
      exact w_X9_price_b33 X  hf hP hD hS (lv_sub hl [0, 1, 2] rfl)
    · have hf := (if_pos c_7).symm.trans hf
      refine lv_iload_n hx hb dX9_price_16 rfl (lv_at hl 2 rfl) ?_
      refine lv_iconst (v := (1 : Int32)) hx hb dX9_price_17 (by decide) ?_
      refine lv_bipush (v := (100 : Int32)) hx hb dX9_price_18 (by decide) ?_
      obtain ⟨u_10, hg_11, hf⟩ := pa_bd hf
      refine pa_ki (wc := ([] : va_W)) (wr := [(a_x, .inr (8, [.ref a_la, .ref a_te, .ref a_ha, .ref a_as, .ref a_lo, .ref a_we, .ref a_ho, .ref a_fr, .ref a_pr, .long v_x_trace])), (a_pr, .inl (cI, 3, .inl v_pr))]) (w1 := ([] : va_W)) (w2 := (wo_X9_price cI cJ a_x a_la a_te a_ha a_as a_lo a_we a_ho a_fr a_pr v_x_trace v_pr)) X hP hD hS [] [0, 1] [0, 1] rfl (pa_rS (As := [.int x2, .int (1 : Int32), .int (100 : Int32)]) (rest := []) X hP hD hS [] rfl rfl (c_X9_within hg_11 H.size) (va_cwS 3 hts gX9_price_X9_within rfl rfl rfl (by decide +kernel) ⟨Nat.le_of_ble_eq_true rfl, Nat.le_of_ble_eq_true rfl⟩) rfl hl.1 rfl (Nat.le_of_ble_eq_true rfl) dX9_price_20 ⟨Nat.zero_le _, Nat.zero_le _⟩) rfl rfl (by decide) rfl rfl (fun H locs hP hD hS => ?_)
      refine lv_goto (tgt := 33) hx hb dX9_price_23 (by decide) ?_
      exact w_X9_price_b33 X  hf hP hD hS (lv_sub hl [0, 1, 2] rfl)
  · have hf := (if_pos c_6).symm.trans hf
    refine lv_iconst (v := (-1 : Int32)) hx hb dX9_price_9 (by decide) ?_
    obtain rfl := Option.some.inj hf
    exact pa_ei X hP hD hS dX9_price_10
set_option maxHeartbeats 4000000 in
set_option maxRecDepth 100000 in
theorem c_X9_price {l : Launch} {D : va_G} {cI cJ : ClassId} {g : pa_GT} {a_x a_la a_te a_ha a_as a_lo a_we a_ho a_fr a_pr : Nat} {x1 : Int32} {x2 : Int32} {v_x_trace : Int64} {v_pr : Nat → Int32} {o : Int32 × (Nat → Int32)} (hf : f_X9_price x1 x2 v_pr = some o) : pa_Mi l yX9_price wsX9_price rm_X9_price D cI cJ g [.ref a_x, .int x1, .int x2] (wo_X9_price cI cJ a_x a_la a_te a_ha a_as a_lo a_we a_ho a_fr a_pr v_x_trace v_pr) (wo_X9_price cI cJ a_x a_la a_te a_ha a_as a_lo a_we a_ho a_fr a_pr v_x_trace o.2) o.1 := by
  intro sz
  refine pa_met (cc := cX9_price) (maxL := 5) (ret := (some .int)) (lv := [(0, .ref a_x), (1, .int x1), (2, .int x2)]) (by decide) rfl (Nat.le_of_ble_eq_true rfl) rfl ?_
  intro p e s m below meth c X hsz hP hD ls hl
  subst hsz
  exact w_X9_price_b0 X hf hP hD va_S.rf hl
abbrev wo_X9_mistake (cI cJ : ClassId) (a_x a_la a_lc a_lr a_te a_ha a_as a_lo a_lt a_lw a_we a_ho a_fr a_pr : Nat) (v_x_trace : Int64) (v_lc : Nat → Int32) (v_lr : Nat → Int32) (v_lt : Nat → Int64) (v_lw : Nat → Int64) (v_fr_upper : Int64) (v_fr_lower : Int64) (v_pr : Nat → Int32) : va_W := [(a_x, .inr (8, [.ref a_la, .ref a_te, .ref a_ha, .ref a_as, .ref a_lo, .ref a_we, .ref a_ho, .ref a_fr, .ref a_pr, .long v_x_trace])), (a_la, .inr (4, [.ref a_lc, .ref a_lr])), (a_lc, .inl (cI, 32, .inl v_lc)), (a_lr, .inl (cI, 8, .inl v_lr)), (a_lo, .inr (5, [.ref a_lt, .ref a_lw])), (a_lt, .inl (cJ, 1326, .inr (.inl v_lt))), (a_lw, .inl (cJ, 101, .inr (.inl v_lw))), (a_fr, .inr (1, [.long v_fr_upper, .long v_fr_lower])), (a_pr, .inl (cI, 3, .inl v_pr))]
abbrev rm_X9_mistake : Room := { frames := 4, cells := 0, slots := 0, locals := 101 }
theorem il_X9_mistake_X9 : ∀ w ∈ wsX90, w ∈ wsX9_mistake := by decide +kernel
theorem fk_X9_mistake_0 : Cond.fieldLink RX9 61 "PostedAsks" "fraction" "LPostedAsks$Fraction;" ∈ wsX9_mistake := by decide +kernel
theorem fk_X9_mistake_1 : Cond.fieldLink RX9 40 "PostedAsks" "lots" "LPostedAsks$Lots;" ∈ wsX9_mistake := by decide +kernel
theorem fk_X9_mistake_2 : Cond.fieldLink RX9 10 "PostedAsks" "lands" "LPostedAsks$Lands;" ∈ wsX9_mistake := by decide +kernel
theorem fk_X9_mistake_3 : Cond.fieldLink RX9 65 "PostedAsks" "prices" "[I" ∈ wsX9_mistake := by decide +kernel
def f_X9_mistake (x1 : Int32) (x2 : Int32) (v_lc : Nat → Int32) (v_lr : Nat → Int32) (v_lt : Nat → Int64) (v_lw : Nat → Int64) (v_fr_upper : Int64) (v_fr_lower : Int64) (v_pr : Nat → Int32) : Option (Int32 × (Nat → Int64) × Int64 × Int64) :=
  if x2 ≤ 0 then
    (f_X9_lean x1 v_lc v_lr v_fr_upper v_fr_lower).bind fun u_2 =>
    (f_X1_isThere u_2.2).bind fun u_4 =>
    if u_4 = 0 then
      some ((101 : Int32), v_lw, u_2.1, u_2.2)
    else
      (f_X1_hundredthsUp u_2.1 u_2.2).bind fun u_7 =>
      some (u_7, v_lw, u_2.1, u_2.2)
  else
    (f_X4_having x1 (0 : Int32) v_lc).bind fun u_9 =>
    (f_X4_having x1 (1 : Int32) v_lc).bind fun u_11 =>
    if pa_ib (2 : Int32) 3 = true then
      (f_X5_leastDistance u_9 u_11 x2 (v_pr (Int32.toNatClampNeg (2 : Int32))) v_lt v_lw).bind fun u_14 =>
      some (u_14.1, u_14.2, v_fr_upper, v_fr_lower)
    else none
set_option maxHeartbeats 4000000 in
set_option maxRecDepth 100000 in
theorem w_X9_mistake_b0 {l : Launch} {D : va_G} {cI cJ : ClassId} {g : pa_GT} {a_x a_la a_lc a_lr a_te a_ha a_as a_lo a_lt a_lw a_we a_ho a_fr a_pr : Nat} {A : Nat → Prop} {p : Program} {e : Env} {s : State} {m : MethodId} {args : Array Value} {below : List Frame} {meth : Method} {c : Code} {x1 : Int32} {x2 : Int32} {v_lc : Nat → Int32} {v_lr : Nat → Int32} {v_lt : Nat → Int64} {v_lw : Nat → Int64} {v_fr_upper : Int64} {v_fr_lower : Int64} {v_pr : Nat → Int32} {v_x_trace : Int64} {o : Int32 × (Nat → Int64) × Int64 × Int64} (X : pa_X cX9_mistake 3 (some .int) RX9 wsX9_mistake D cI cJ g A p s m args meth c)  (hf : f_X9_mistake x1 x2 v_lc v_lr v_lt v_lw v_fr_upper v_fr_lower v_pr = some o) {H : Heap} {locs : List Loc} (hP : va_P D vwCl (wo_X9_mistake cI cJ a_x a_la a_lc a_lr a_te a_ha a_as a_lo a_lt a_lw a_we a_ho a_fr a_pr v_x_trace v_lc v_lr v_lt v_lw v_fr_upper v_fr_lower v_pr) H) (hD : va_D A (wo_X9_mistake cI cJ a_x a_la a_lc a_lr a_te a_ha a_as a_lo a_lt a_lw a_we a_ho a_fr a_pr v_x_trace v_lc v_lr v_lt v_lw v_fr_upper v_fr_lower v_pr)) (hS : va_S A s.heap H locs) {ls : Array Slot} (hl : lv_has ls 3 [(0, .ref a_x), (1, .int x1), (2, .int x2)]) : W p l e (headSpec wsX9_mistake rm_X9_mistake).room s m args below meth c H locs 0 0 (MQ below (va_Qi (fun r (_ : Unit) => r = o.1) (pa_QB D A (wo_X9_mistake cI cJ a_x a_la a_lc a_lr a_te a_ha a_as a_lo a_lt a_lw a_we a_ho a_fr a_pr v_x_trace v_lc v_lr v_lt o.2.1 o.2.2.1 o.2.2.2 v_pr)) A) args s 0 0 A) (F0 m 0 ls []) := by
  obtain ⟨hx, hb, hr, hml, hown, hts, hK, hA, hG, hlk⟩ := id X
  delta f_X9_mistake at hf
  refine lv_iload_n hx hb dX9_mistake_0 rfl (lv_at hl 2 rfl) ?_
  refine lv_if_le (tgt := 37) hx hb dX9_mistake_1 (by decide) (fun c_1 => ?_) (fun c_1 => ?_)
  · have hf := (if_pos c_1).symm.trans hf
    refine lv_aload_n hx hb dX9_mistake_37 rfl (lv_at hl 0 rfl) ?_
    refine lv_iload_n hx hb dX9_mistake_38 rfl (lv_at hl 1 rfl) ?_
    obtain ⟨u_2, hg_3, hf⟩ := pa_bd hf
    refine pa_kv (wc := (wo_X9_lean cI cJ a_x a_la a_lc a_lr a_te a_ha a_as a_lo a_we a_ho a_fr a_pr v_x_trace v_lc v_lr v_fr_upper v_fr_lower)) (wr := [(a_lo, .inr (5, [.ref a_lt, .ref a_lw])), (a_lt, .inl (cJ, 1326, .inr (.inl v_lt))), (a_lw, .inl (cJ, 101, .inr (.inl v_lw))), (a_pr, .inl (cI, 3, .inl v_pr))]) (w1 := (wo_X9_lean cI cJ a_x a_la a_lc a_lr a_te a_ha a_as a_lo a_we a_ho a_fr a_pr v_x_trace v_lc v_lr u_2.1 u_2.2)) (w2 := (wo_X9_mistake cI cJ a_x a_la a_lc a_lr a_te a_ha a_as a_lo a_lt a_lw a_we a_ho a_fr a_pr v_x_trace v_lc v_lr v_lt v_lw u_2.1 u_2.2 v_pr)) X hP hD hS [0, 1, 2, 3, 7] [4, 5, 6, 8] [4, 5, 6, 7, 0, 1, 2, 8, 3] rfl (pa_rV (As := [.int x1]) (rest := []) (T := TX9) X hP hD hS [0, 1, 2, 3, 7] rfl rfl (c_X9_lean hg_3 H.size) (cwV 1 hts gX9_mistake_X9_lean rfl rfl rfl (by decide +kernel) ⟨Nat.le_of_ble_eq_true rfl, Nat.le_of_ble_eq_true rfl⟩) (q0 := 0) rfl rfl rfl hl.1 rfl (Nat.le_of_ble_eq_true rfl) dX9_mistake_39 ⟨Nat.zero_le _, Nat.zero_le _⟩) rfl rfl (by decide) rfl rfl (fun H locs hP hD hS => ?_)
    refine lv_aload_n hx hb dX9_mistake_42 rfl (lv_at hl 0 rfl) ?_
    refine va_get (D := D) (ci := 8) (v := .ref a_fr) (C := RX9) (T := TX9) (N := 10) hx hb hts il_X9_mistake_X9 hown hK hP 0 rfl rfl 7 (by decide) (hts _ fk_X9_mistake_0) (fun _ h9 => h9) rfl dX9_mistake_43 ?_
    obtain ⟨u_4, hg_5, hf⟩ := pa_bd hf
    refine pa_ki (wc := (wo_X1_isThere cI cJ a_fr u_2.1 u_2.2)) (wr := [(a_x, .inr (8, [.ref a_la, .ref a_te, .ref a_ha, .ref a_as, .ref a_lo, .ref a_we, .ref a_ho, .ref a_fr, .ref a_pr, .long v_x_trace])), (a_la, .inr (4, [.ref a_lc, .ref a_lr])), (a_lc, .inl (cI, 32, .inl v_lc)), (a_lr, .inl (cI, 8, .inl v_lr)), (a_lo, .inr (5, [.ref a_lt, .ref a_lw])), (a_lt, .inl (cJ, 1326, .inr (.inl v_lt))), (a_lw, .inl (cJ, 101, .inr (.inl v_lw))), (a_pr, .inl (cI, 3, .inl v_pr))]) (w1 := (wo_X1_isThere cI cJ a_fr u_2.1 u_2.2)) (w2 := (wo_X9_mistake cI cJ a_x a_la a_lc a_lr a_te a_ha a_as a_lo a_lt a_lw a_we a_ho a_fr a_pr v_x_trace v_lc v_lr v_lt v_lw u_2.1 u_2.2 v_pr)) X hP hD hS [7] [0, 1, 2, 3, 4, 5, 6, 8] [0, 1, 2, 3, 4, 5, 6, 8, 7] rfl (pa_rV (As := []) (rest := []) (T := TX1) X hP hD hS [7] rfl rfl (c_X1_isThere hg_5 H.size) (cwV 0 hts gX9_mistake_X1_isThere rfl rfl rfl (by decide +kernel) ⟨Nat.le_of_ble_eq_true rfl, Nat.le_of_ble_eq_true rfl⟩) (q0 := 7) rfl rfl rfl hl.1 rfl (Nat.le_of_ble_eq_true rfl) dX9_mistake_46 ⟨Nat.zero_le _, Nat.zero_le _⟩) rfl rfl (by decide) rfl rfl (fun H locs hP hD hS => ?_)
    refine lv_if_eq (tgt := 62) hx hb dX9_mistake_49 (by decide) (fun c_6 => ?_) (fun c_6 => ?_)
    · have hf := (if_pos c_6).symm.trans hf
      refine lv_bipush (v := (101 : Int32)) hx hb dX9_mistake_62 (by decide) ?_
      obtain rfl := Option.some.inj hf
      exact pa_ei X hP hD hS dX9_mistake_64
    · have hf := (if_neg c_6).symm.trans hf
      refine lv_aload_n hx hb dX9_mistake_52 rfl (lv_at hl 0 rfl) ?_
      refine va_get (D := D) (ci := 8) (v := .ref a_fr) (C := RX9) (T := TX9) (N := 10) hx hb hts il_X9_mistake_X9 hown hK hP 0 rfl rfl 7 (by decide) (hts _ fk_X9_mistake_0) (fun _ h9 => h9) rfl dX9_mistake_53 ?_
      obtain ⟨u_7, hg_8, hf⟩ := pa_bd hf
      refine pa_ki (wc := (wo_X1_hundredthsUp cI cJ a_fr u_2.1 u_2.2)) (wr := [(a_x, .inr (8, [.ref a_la, .ref a_te, .ref a_ha, .ref a_as, .ref a_lo, .ref a_we, .ref a_ho, .ref a_fr, .ref a_pr, .long v_x_trace])), (a_la, .inr (4, [.ref a_lc, .ref a_lr])), (a_lc, .inl (cI, 32, .inl v_lc)), (a_lr, .inl (cI, 8, .inl v_lr)), (a_lo, .inr (5, [.ref a_lt, .ref a_lw])), (a_lt, .inl (cJ, 1326, .inr (.inl v_lt))), (a_lw, .inl (cJ, 101, .inr (.inl v_lw))), (a_pr, .inl (cI, 3, .inl v_pr))]) (w1 := (wo_X1_hundredthsUp cI cJ a_fr u_2.1 u_2.2)) (w2 := (wo_X9_mistake cI cJ a_x a_la a_lc a_lr a_te a_ha a_as a_lo a_lt a_lw a_we a_ho a_fr a_pr v_x_trace v_lc v_lr v_lt v_lw u_2.1 u_2.2 v_pr)) X hP hD hS [7] [0, 1, 2, 3, 4, 5, 6, 8] [0, 1, 2, 3, 4, 5, 6, 8, 7] rfl (pa_rV (As := []) (rest := []) (T := TX1) X hP hD hS [7] rfl rfl (c_X1_hundredthsUp hg_8 H.size) (cwV 0 hts gX9_mistake_X1_hundredthsUp rfl rfl rfl (by decide +kernel) ⟨Nat.le_of_ble_eq_true rfl, Nat.le_of_ble_eq_true rfl⟩) (q0 := 7) rfl rfl rfl hl.1 rfl (Nat.le_of_ble_eq_true rfl) dX9_mistake_56 ⟨Nat.zero_le _, Nat.zero_le _⟩) rfl rfl (by decide) rfl rfl (fun H locs hP hD hS => ?_)
      refine lv_goto (tgt := 64) hx hb dX9_mistake_59 (by decide) ?_
      obtain rfl := Option.some.inj hf
      exact pa_ei X hP hD hS dX9_mistake_64
  · have hf := (if_neg c_1).symm.trans hf
    refine lv_aload_n hx hb dX9_mistake_4 rfl (lv_at hl 0 rfl) ?_
    refine va_get (D := D) (ci := 8) (v := .ref a_lo) (C := RX9) (T := TX9) (N := 10) hx hb hts il_X9_mistake_X9 hown hK hP 0 rfl rfl 4 (by decide) (hts _ fk_X9_mistake_1) (fun _ h9 => h9) rfl dX9_mistake_5 ?_
    refine lv_aload_n hx hb dX9_mistake_8 rfl (lv_at hl 0 rfl) ?_
    refine va_get (D := D) (ci := 8) (v := .ref a_la) (C := RX9) (T := TX9) (N := 10) hx hb hts il_X9_mistake_X9 hown hK hP 0 rfl rfl 0 (by decide) (hts _ fk_X9_mistake_2) (fun _ h9 => h9) rfl dX9_mistake_9 ?_
    refine lv_iload_n hx hb dX9_mistake_12 rfl (lv_at hl 1 rfl) ?_
    refine lv_iconst (v := (0 : Int32)) hx hb dX9_mistake_13 (by decide) ?_
    obtain ⟨u_9, hg_10, hf⟩ := pa_bd hf
    refine pa_ki (wc := (wo_X4_having cI cJ a_la a_lc a_lr v_lc)) (wr := [(a_x, .inr (8, [.ref a_la, .ref a_te, .ref a_ha, .ref a_as, .ref a_lo, .ref a_we, .ref a_ho, .ref a_fr, .ref a_pr, .long v_x_trace])), (a_lr, .inl (cI, 8, .inl v_lr)), (a_lo, .inr (5, [.ref a_lt, .ref a_lw])), (a_lt, .inl (cJ, 1326, .inr (.inl v_lt))), (a_lw, .inl (cJ, 101, .inr (.inl v_lw))), (a_fr, .inr (1, [.long v_fr_upper, .long v_fr_lower])), (a_pr, .inl (cI, 3, .inl v_pr))]) (w1 := (wo_X4_having cI cJ a_la a_lc a_lr v_lc)) (w2 := (wo_X9_mistake cI cJ a_x a_la a_lc a_lr a_te a_ha a_as a_lo a_lt a_lw a_we a_ho a_fr a_pr v_x_trace v_lc v_lr v_lt v_lw v_fr_upper v_fr_lower v_pr)) X hP hD hS [1, 2] [0, 3, 4, 5, 6, 7, 8] [0, 7, 8, 1, 2, 3, 4, 5, 6] rfl (pa_rV (As := [.int x1, .int (0 : Int32)]) (rest := [.ref a_lo]) (T := TX4) X hP hD hS [1, 2] rfl rfl (c_X4_having hg_10 H.size) (cwV 2 hts gX9_mistake_X4_having rfl rfl rfl (by decide +kernel) ⟨Nat.le_of_ble_eq_true rfl, Nat.le_of_ble_eq_true rfl⟩) (q0 := 1) rfl rfl rfl hl.1 rfl (Nat.le_of_ble_eq_true rfl) dX9_mistake_14 ⟨Nat.zero_le _, Nat.zero_le _⟩) rfl rfl (by decide) rfl rfl (fun H locs hP hD hS => ?_)
    refine lv_aload_n hx hb dX9_mistake_17 rfl (lv_at hl 0 rfl) ?_
    refine va_get (D := D) (ci := 8) (v := .ref a_la) (C := RX9) (T := TX9) (N := 10) hx hb hts il_X9_mistake_X9 hown hK hP 0 rfl rfl 0 (by decide) (hts _ fk_X9_mistake_2) (fun _ h9 => h9) rfl dX9_mistake_18 ?_
    refine lv_iload_n hx hb dX9_mistake_21 rfl (lv_at hl 1 rfl) ?_
    refine lv_iconst (v := (1 : Int32)) hx hb dX9_mistake_22 (by decide) ?_
    obtain ⟨u_11, hg_12, hf⟩ := pa_bd hf
    refine pa_ki (wc := (wo_X4_having cI cJ a_la a_lc a_lr v_lc)) (wr := [(a_x, .inr (8, [.ref a_la, .ref a_te, .ref a_ha, .ref a_as, .ref a_lo, .ref a_we, .ref a_ho, .ref a_fr, .ref a_pr, .long v_x_trace])), (a_lr, .inl (cI, 8, .inl v_lr)), (a_lo, .inr (5, [.ref a_lt, .ref a_lw])), (a_lt, .inl (cJ, 1326, .inr (.inl v_lt))), (a_lw, .inl (cJ, 101, .inr (.inl v_lw))), (a_fr, .inr (1, [.long v_fr_upper, .long v_fr_lower])), (a_pr, .inl (cI, 3, .inl v_pr))]) (w1 := (wo_X4_having cI cJ a_la a_lc a_lr v_lc)) (w2 := (wo_X9_mistake cI cJ a_x a_la a_lc a_lr a_te a_ha a_as a_lo a_lt a_lw a_we a_ho a_fr a_pr v_x_trace v_lc v_lr v_lt v_lw v_fr_upper v_fr_lower v_pr)) X hP hD hS [1, 2] [0, 3, 4, 5, 6, 7, 8] [0, 7, 8, 1, 2, 3, 4, 5, 6] rfl (pa_rV (As := [.int x1, .int (1 : Int32)]) (rest := [.int u_9, .ref a_lo]) (T := TX4) X hP hD hS [1, 2] rfl rfl (c_X4_having hg_12 H.size) (cwV 2 hts gX9_mistake_X4_having rfl rfl rfl (by decide +kernel) ⟨Nat.le_of_ble_eq_true rfl, Nat.le_of_ble_eq_true rfl⟩) (q0 := 1) rfl rfl rfl hl.1 rfl (Nat.le_of_ble_eq_true rfl) dX9_mistake_23 ⟨Nat.zero_le _, Nat.zero_le _⟩) rfl rfl (by decide) rfl rfl (fun H locs hP hD hS => ?_)
    refine lv_iload_n hx hb dX9_mistake_26 rfl (lv_at hl 2 rfl) ?_
    refine lv_aload_n hx hb dX9_mistake_27 rfl (lv_at hl 0 rfl) ?_
    refine va_get (D := D) (ci := 8) (v := .ref a_pr) (C := RX9) (T := TX9) (N := 10) hx hb hts il_X9_mistake_X9 hown hK hP 0 rfl rfl 8 (by decide) (hts _ fk_X9_mistake_3) (fun _ h9 => h9) rfl dX9_mistake_28 ?_
    refine lv_iconst (v := (2 : Int32)) hx hb dX9_mistake_31 (by decide) ?_
    obtain ⟨hi_13, hf⟩ := pa_gd hf
    refine va_iald hx hb hK hP 8 0 rfl rfl hi_13 dX9_mistake_32 ?_
    obtain ⟨u_14, hg_15, hf⟩ := pa_bd hf
    refine pa_ki (wc := (wo_X5_leastDistance cI cJ a_lo a_lt a_lw v_lt v_lw)) (wr := [(a_x, .inr (8, [.ref a_la, .ref a_te, .ref a_ha, .ref a_as, .ref a_lo, .ref a_we, .ref a_ho, .ref a_fr, .ref a_pr, .long v_x_trace])), (a_la, .inr (4, [.ref a_lc, .ref a_lr])), (a_lc, .inl (cI, 32, .inl v_lc)), (a_lr, .inl (cI, 8, .inl v_lr)), (a_fr, .inr (1, [.long v_fr_upper, .long v_fr_lower])), (a_pr, .inl (cI, 3, .inl v_pr))]) (w1 := (wo_X5_leastDistance cI cJ a_lo a_lt a_lw v_lt u_14.2)) (w2 := (wo_X9_mistake cI cJ a_x a_la a_lc a_lr a_te a_ha a_as a_lo a_lt a_lw a_we a_ho a_fr a_pr v_x_trace v_lc v_lr v_lt u_14.2 v_fr_upper v_fr_lower v_pr)) X hP hD hS [4, 5, 6] [0, 1, 2, 3, 7, 8] [0, 1, 2, 3, 6, 7, 8, 4, 5] rfl (pa_rV (As := [.int u_9, .int u_11, .int x2, .int (v_pr (Int32.toNatClampNeg (2 : Int32)))]) (rest := []) (T := TX5) X hP hD hS [4, 5, 6] rfl rfl (c_X5_leastDistance hg_15 H.size) (cwV 4 hts gX9_mistake_X5_leastDistance rfl rfl rfl (by decide +kernel) ⟨Nat.le_of_ble_eq_true rfl, Nat.le_of_ble_eq_true rfl⟩) (q0 := 4) rfl rfl rfl hl.1 rfl (Nat.le_of_ble_eq_true rfl) dX9_mistake_33 ⟨Nat.zero_le _, Nat.zero_le _⟩) rfl rfl (by decide) rfl rfl (fun H locs hP hD hS => ?_)
    obtain rfl := Option.some.inj hf
    exact pa_ei X hP hD hS dX9_mistake_36
set_option maxHeartbeats 4000000 in
set_option maxRecDepth 100000 in
theorem c_X9_mistake {l : Launch} {D : va_G} {cI cJ : ClassId} {g : pa_GT} {a_x a_la a_lc a_lr a_te a_ha a_as a_lo a_lt a_lw a_we a_ho a_fr a_pr : Nat} {x1 : Int32} {x2 : Int32} {v_x_trace : Int64} {v_lc : Nat → Int32} {v_lr : Nat → Int32} {v_lt : Nat → Int64} {v_lw : Nat → Int64} {v_fr_upper : Int64} {v_fr_lower : Int64} {v_pr : Nat → Int32} {o : Int32 × (Nat → Int64) × Int64 × Int64} (hf : f_X9_mistake x1 x2 v_lc v_lr v_lt v_lw v_fr_upper v_fr_lower v_pr = some o) : pa_Mi l yX9_mistake wsX9_mistake rm_X9_mistake D cI cJ g [.ref a_x, .int x1, .int x2] (wo_X9_mistake cI cJ a_x a_la a_lc a_lr a_te a_ha a_as a_lo a_lt a_lw a_we a_ho a_fr a_pr v_x_trace v_lc v_lr v_lt v_lw v_fr_upper v_fr_lower v_pr) (wo_X9_mistake cI cJ a_x a_la a_lc a_lr a_te a_ha a_as a_lo a_lt a_lw a_we a_ho a_fr a_pr v_x_trace v_lc v_lr v_lt o.2.1 o.2.2.1 o.2.2.2 v_pr) o.1 := by
  intro sz
  refine pa_met (cc := cX9_mistake) (maxL := 3) (ret := (some .int)) (lv := [(0, .ref a_x), (1, .int x1), (2, .int x2)]) (by decide) rfl (Nat.le_of_ble_eq_true rfl) rfl ?_
  intro p e s m below meth c X hsz hP hD ls hl
  subst hsz
  exact w_X9_mistake_b0 X hf hP hD va_S.rf hl
abbrev wo_X9_error (cI cJ : ClassId) (a_x a_la a_lc a_lr a_te a_ha a_as a_lo a_lt a_lw a_we a_ho a_fr a_pr : Nat) (v_x_trace : Int64) (v_lc : Nat → Int32) (v_lr : Nat → Int32) (v_lt : Nat → Int64) (v_lw : Nat → Int64) (v_fr_upper : Int64) (v_fr_lower : Int64) (v_pr : Nat → Int32) : va_W := [(a_x, .inr (8, [.ref a_la, .ref a_te, .ref a_ha, .ref a_as, .ref a_lo, .ref a_we, .ref a_ho, .ref a_fr, .ref a_pr, .long v_x_trace])), (a_la, .inr (4, [.ref a_lc, .ref a_lr])), (a_lc, .inl (cI, 32, .inl v_lc)), (a_lr, .inl (cI, 8, .inl v_lr)), (a_lo, .inr (5, [.ref a_lt, .ref a_lw])), (a_lt, .inl (cJ, 1326, .inr (.inl v_lt))), (a_lw, .inl (cJ, 101, .inr (.inl v_lw))), (a_fr, .inr (1, [.long v_fr_upper, .long v_fr_lower])), (a_pr, .inl (cI, 3, .inl v_pr))]
abbrev rm_X9_error : Room := { frames := 5, cells := 0, slots := 0, locals := 123 }
theorem il_X9_error_X9 : ∀ w ∈ wsX90, w ∈ wsX9_error := by decide +kernel
theorem fk_X9_error_0 : Cond.fieldLink RX9 10 "PostedAsks" "lands" "LPostedAsks$Lands;" ∈ wsX9_error := by decide +kernel
def f_X9_error (x1 : Int32) (x2 : Int32) (v_lc : Nat → Int32) (v_lr : Nat → Int32) (v_lt : Nat → Int64) (v_lw : Nat → Int64) (v_fr_upper : Int64) (v_fr_lower : Int64) (v_pr : Nat → Int32) : Option (Int32 × (Nat → Int64) × Int64 × Int64) :=
  (f_X9_isLand x1).bind fun u_1 =>
  if u_1 = 0 then
    some ((-1 : Int32), v_lw, v_fr_upper, v_fr_lower)
  else
    (f_X4_having x1 (0 : Int32) v_lc).bind fun u_4 =>
    (f_X9_within x2 (0 : Int32) u_4).bind fun u_6 =>
    if u_6 = 0 then
      some ((-1 : Int32), v_lw, v_fr_upper, v_fr_lower)
    else
      (f_X4_having x1 (0 : Int32) v_lc).bind fun u_9 =>
      if u_9 = 0 then
        some ((-2 : Int32), v_lw, v_fr_upper, v_fr_lower)
      else
        (f_X9_mistake x1 x2 v_lc v_lr v_lt v_lw v_fr_upper v_fr_lower v_pr).bind fun u_12 =>
        some (u_12.1, u_12.2.1, u_12.2.2.1, u_12.2.2.2)
set_option maxHeartbeats 4000000 in
set_option maxRecDepth 100000 in
theorem w_X9_error_b0 {l : Launch} {D : va_G} {cI cJ : ClassId} {g : pa_GT} {a_x a_la a_lc a_lr a_te a_ha a_as a_lo a_lt a_lw a_we a_ho a_fr a_pr : Nat} {A : Nat → Prop} {p : Program} {e : Env} {s : State} {m : MethodId} {args : Array Value} {below : List Frame} {meth : Method} {c : Code} {x1 : Int32} {x2 : Int32} {v_lc : Nat → Int32} {v_lr : Nat → Int32} {v_lt : Nat → Int64} {v_lw : Nat → Int64} {v_fr_upper : Int64} {v_fr_lower : Int64} {v_pr : Nat → Int32} {v_x_trace : Int64} {o : Int32 × (Nat → Int64) × Int64 × Int64} (X : pa_X cX9_error 3 (some .int) RX9 wsX9_error D cI cJ g A p s m args meth c)  (hf : f_X9_error x1 x2 v_lc v_lr v_lt v_lw v_fr_upper v_fr_lower v_pr = some o) {H : Heap} {locs : List Loc} (hP : va_P D vwCl (wo_X9_error cI cJ a_x a_la a_lc a_lr a_te a_ha a_as a_lo a_lt a_lw a_we a_ho a_fr a_pr v_x_trace v_lc v_lr v_lt v_lw v_fr_upper v_fr_lower v_pr) H) (hD : va_D A (wo_X9_error cI cJ a_x a_la a_lc a_lr a_te a_ha a_as a_lo a_lt a_lw a_we a_ho a_fr a_pr v_x_trace v_lc v_lr v_lt v_lw v_fr_upper v_fr_lower v_pr)) (hS : va_S A s.heap H locs) {ls : Array Slot} (hl : lv_has ls 3 [(0, .ref a_x), (1, .int x1), (2, .int x2)]) : W p l e (headSpec wsX9_error rm_X9_error).room s m args below meth c H locs 0 0 (MQ below (va_Qi (fun r (_ : Unit) => r = o.1) (pa_QB D A (wo_X9_error cI cJ a_x a_la a_lc a_lr a_te a_ha a_as a_lo a_lt a_lw a_we a_ho a_fr a_pr v_x_trace v_lc v_lr v_lt o.2.1 o.2.2.1 o.2.2.2 v_pr)) A) args s 0 0 A) (F0 m 0 ls []) := by
  obtain ⟨hx, hb, hr, hml, hown, hts, hK, hA, hG, hlk⟩ := id X
  delta f_X9_error at hf
  refine lv_iload_n hx hb dX9_error_0 rfl (lv_at hl 1 rfl) ?_
  obtain ⟨u_1, hg_2, hf⟩ := pa_bd hf
  refine pa_ki (wc := ([] : va_W)) (wr := [(a_x, .inr (8, [.ref a_la, .ref a_te, .ref a_ha, .ref a_as, .ref a_lo, .ref a_we, .ref a_ho, .ref a_fr, .ref a_pr, .long v_x_trace])), (a_la, .inr (4, [.ref a_lc, .ref a_lr])), (a_lc, .inl (cI, 32, .inl v_lc)), (a_lr, .inl (cI, 8, .inl v_lr)), (a_lo, .inr (5, [.ref a_lt, .ref a_lw])), (a_lt, .inl (cJ, 1326, .inr (.inl v_lt))), (a_lw, .inl (cJ, 101, .inr (.inl v_lw))), (a_fr, .inr (1, [.long v_fr_upper, .long v_fr_lower])), (a_pr, .inl (cI, 3, .inl v_pr))]) (w1 := ([] : va_W)) (w2 := (wo_X9_error cI cJ a_x a_la a_lc a_lr a_te a_ha a_as a_lo a_lt a_lw a_we a_ho a_fr a_pr v_x_trace v_lc v_lr v_lt v_lw v_fr_upper v_fr_lower v_pr)) X hP hD hS [] [0, 1, 2, 3, 4, 5, 6, 7, 8] [0, 1, 2, 3, 4, 5, 6, 7, 8] rfl (pa_rS (As := [.int x1]) (rest := []) X hP hD hS [] rfl rfl (c_X9_isLand hg_2 H.size) (va_cwS 1 hts gX9_error_X9_isLand rfl rfl rfl (by decide +kernel) ⟨Nat.le_of_ble_eq_true rfl, Nat.le_of_ble_eq_true rfl⟩) rfl hl.1 rfl (Nat.le_of_ble_eq_true rfl) dX9_error_1 ⟨Nat.zero_le _, Nat.zero_le _⟩) rfl rfl (by decide) rfl rfl (fun H locs hP hD hS => ?_)
  refine lv_if_eq (tgt := 24) hx hb dX9_error_4 (by decide) (fun c_3 => ?_) (fun c_3 => ?_)
  · have hf := (if_pos c_3).symm.trans hf
    refine lv_iconst (v := (-1 : Int32)) hx hb dX9_error_24 (by decide) ?_
    obtain rfl := Option.some.inj hf
    exact pa_ei X hP hD hS dX9_error_25
  · have hf := (if_neg c_3).symm.trans hf
    refine lv_iload_n hx hb dX9_error_7 rfl (lv_at hl 2 rfl) ?_
    refine lv_iconst (v := (0 : Int32)) hx hb dX9_error_8 (by decide) ?_
    refine lv_aload_n hx hb dX9_error_9 rfl (lv_at hl 0 rfl) ?_
    refine va_get (D := D) (ci := 8) (v := .ref a_la) (C := RX9) (T := TX9) (N := 10) hx hb hts il_X9_error_X9 hown hK hP 0 rfl rfl 0 (by decide) (hts _ fk_X9_error_0) (fun _ h9 => h9) rfl dX9_error_10 ?_
    refine lv_iload_n hx hb dX9_error_13 rfl (lv_at hl 1 rfl) ?_
    refine lv_iconst (v := (0 : Int32)) hx hb dX9_error_14 (by decide) ?_
    obtain ⟨u_4, hg_5, hf⟩ := pa_bd hf
    refine pa_ki (wc := (wo_X4_having cI cJ a_la a_lc a_lr v_lc)) (wr := [(a_x, .inr (8, [.ref a_la, .ref a_te, .ref a_ha, .ref a_as, .ref a_lo, .ref a_we, .ref a_ho, .ref a_fr, .ref a_pr, .long v_x_trace])), (a_lr, .inl (cI, 8, .inl v_lr)), (a_lo, .inr (5, [.ref a_lt, .ref a_lw])), (a_lt, .inl (cJ, 1326, .inr (.inl v_lt))), (a_lw, .inl (cJ, 101, .inr (.inl v_lw))), (a_fr, .inr (1, [.long v_fr_upper, .long v_fr_lower])), (a_pr, .inl (cI, 3, .inl v_pr))]) (w1 := (wo_X4_having cI cJ a_la a_lc a_lr v_lc)) (w2 := (wo_X9_error cI cJ a_x a_la a_lc a_lr a_te a_ha a_as a_lo a_lt a_lw a_we a_ho a_fr a_pr v_x_trace v_lc v_lr v_lt v_lw v_fr_upper v_fr_lower v_pr)) X hP hD hS [1, 2] [0, 3, 4, 5, 6, 7, 8] [0, 7, 8, 1, 2, 3, 4, 5, 6] rfl (pa_rV (As := [.int x1, .int (0 : Int32)]) (rest := [.int (0 : Int32), .int x2]) (T := TX4) X hP hD hS [1, 2] rfl rfl (c_X4_having hg_5 H.size) (cwV 2 hts gX9_error_X4_having rfl rfl rfl (by decide +kernel) ⟨Nat.le_of_ble_eq_true rfl, Nat.le_of_ble_eq_true rfl⟩) (q0 := 1) rfl rfl rfl hl.1 rfl (Nat.le_of_ble_eq_true rfl) dX9_error_15 ⟨Nat.zero_le _, Nat.zero_le _⟩) rfl rfl (by decide) rfl rfl (fun H locs hP hD hS => ?_)
    obtain ⟨u_6, hg_7, hf⟩ := pa_bd hf
    refine pa_ki (wc := ([] : va_W)) (wr := [(a_x, .inr (8, [.ref a_la, .ref a_te, .ref a_ha, .ref a_as, .ref a_lo, .ref a_we, .ref a_ho, .ref a_fr, .ref a_pr, .long v_x_trace])), (a_la, .inr (4, [.ref a_lc, .ref a_lr])), (a_lc, .inl (cI, 32, .inl v_lc)), (a_lr, .inl (cI, 8, .inl v_lr)), (a_lo, .inr (5, [.ref a_lt, .ref a_lw])), (a_lt, .inl (cJ, 1326, .inr (.inl v_lt))), (a_lw, .inl (cJ, 101, .inr (.inl v_lw))), (a_fr, .inr (1, [.long v_fr_upper, .long v_fr_lower])), (a_pr, .inl (cI, 3, .inl v_pr))]) (w1 := ([] : va_W)) (w2 := (wo_X9_error cI cJ a_x a_la a_lc a_lr a_te a_ha a_as a_lo a_lt a_lw a_we a_ho a_fr a_pr v_x_trace v_lc v_lr v_lt v_lw v_fr_upper v_fr_lower v_pr)) X hP hD hS [] [0, 1, 2, 3, 4, 5, 6, 7, 8] [0, 1, 2, 3, 4, 5, 6, 7, 8] rfl (pa_rS (As := [.int x2, .int (0 : Int32), .int u_4]) (rest := []) X hP hD hS [] rfl rfl (c_X9_within hg_7 H.size) (va_cwS 3 hts gX9_error_X9_within rfl rfl rfl (by decide +kernel) ⟨Nat.le_of_ble_eq_true rfl, Nat.le_of_ble_eq_true rfl⟩) rfl hl.1 rfl (Nat.le_of_ble_eq_true rfl) dX9_error_18 ⟨Nat.zero_le _, Nat.zero_le _⟩) rfl rfl (by decide) rfl rfl (fun H locs hP hD hS => ?_)
    refine lv_if_ne (tgt := 26) hx hb dX9_error_21 (by decide) (fun c_8 => ?_) (fun c_8 => ?_)
    · have hf := (if_neg c_8).symm.trans hf
      refine lv_aload_n hx hb dX9_error_26 rfl (lv_at hl 0 rfl) ?_
      refine va_get (D := D) (ci := 8) (v := .ref a_la) (C := RX9) (T := TX9) (N := 10) hx hb hts il_X9_error_X9 hown hK hP 0 rfl rfl 0 (by decide) (hts _ fk_X9_error_0) (fun _ h9 => h9) rfl dX9_error_27 ?_
      refine lv_iload_n hx hb dX9_error_30 rfl (lv_at hl 1 rfl) ?_
      refine lv_iconst (v := (0 : Int32)) hx hb dX9_error_31 (by decide) ?_
      obtain ⟨u_9, hg_10, hf⟩ := pa_bd hf
      refine pa_ki (wc := (wo_X4_having cI cJ a_la a_lc a_lr v_lc)) (wr := [(a_x, .inr (8, [.ref a_la, .ref a_te, .ref a_ha, .ref a_as, .ref a_lo, .ref a_we, .ref a_ho, .ref a_fr, .ref a_pr, .long v_x_trace])), (a_lr, .inl (cI, 8, .inl v_lr)), (a_lo, .inr (5, [.ref a_lt, .ref a_lw])), (a_lt, .inl (cJ, 1326, .inr (.inl v_lt))), (a_lw, .inl (cJ, 101, .inr (.inl v_lw))), (a_fr, .inr (1, [.long v_fr_upper, .long v_fr_lower])), (a_pr, .inl (cI, 3, .inl v_pr))]) (w1 := (wo_X4_having cI cJ a_la a_lc a_lr v_lc)) (w2 := (wo_X9_error cI cJ a_x a_la a_lc a_lr a_te a_ha a_as a_lo a_lt a_lw a_we a_ho a_fr a_pr v_x_trace v_lc v_lr v_lt v_lw v_fr_upper v_fr_lower v_pr)) X hP hD hS [1, 2] [0, 3, 4, 5, 6, 7, 8] [0, 7, 8, 1, 2, 3, 4, 5, 6] rfl (pa_rV (As := [.int x1, .int (0 : Int32)]) (rest := []) (T := TX4) X hP hD hS [1, 2] rfl rfl (c_X4_having hg_10 H.size) (cwV 2 hts gX9_error_X4_having rfl rfl rfl (by decide +kernel) ⟨Nat.le_of_ble_eq_true rfl, Nat.le_of_ble_eq_true rfl⟩) (q0 := 1) rfl rfl rfl hl.1 rfl (Nat.le_of_ble_eq_true rfl) dX9_error_32 ⟨Nat.zero_le _, Nat.zero_le _⟩) rfl rfl (by decide) rfl rfl (fun H locs hP hD hS => ?_)
      refine lv_if_ne (tgt := 43) hx hb dX9_error_35 (by decide) (fun c_11 => ?_) (fun c_11 => ?_)
      · have hf := (if_neg c_11).symm.trans hf
        refine lv_aload_n hx hb dX9_error_43 rfl (lv_at hl 0 rfl) ?_
        refine lv_iload_n hx hb dX9_error_44 rfl (lv_at hl 1 rfl) ?_
        refine lv_iload_n hx hb dX9_error_45 rfl (lv_at hl 2 rfl) ?_
        obtain ⟨u_12, hg_13, hf⟩ := pa_bd hf
        refine pa_ki (wc := (wo_X9_mistake cI cJ a_x a_la a_lc a_lr a_te a_ha a_as a_lo a_lt a_lw a_we a_ho a_fr a_pr v_x_trace v_lc v_lr v_lt v_lw v_fr_upper v_fr_lower v_pr)) (wr := ([] : va_W)) (w1 := (wo_X9_mistake cI cJ a_x a_la a_lc a_lr a_te a_ha a_as a_lo a_lt a_lw a_we a_ho a_fr a_pr v_x_trace v_lc v_lr v_lt u_12.2.1 u_12.2.2.1 u_12.2.2.2 v_pr)) (w2 := (wo_X9_error cI cJ a_x a_la a_lc a_lr a_te a_ha a_as a_lo a_lt a_lw a_we a_ho a_fr a_pr v_x_trace v_lc v_lr v_lt u_12.2.1 u_12.2.2.1 u_12.2.2.2 v_pr)) X hP hD hS [0, 1, 2, 3, 4, 5, 6, 7, 8] [] [0, 1, 2, 3, 4, 5, 6, 7, 8] rfl (pa_rV (As := [.int x1, .int x2]) (rest := []) (T := TX9) X hP hD hS [0, 1, 2, 3, 4, 5, 6, 7, 8] rfl rfl (c_X9_mistake hg_13 H.size) (cwV 2 hts gX9_error_X9_mistake rfl rfl rfl (by decide +kernel) ⟨Nat.le_of_ble_eq_true rfl, Nat.le_of_ble_eq_true rfl⟩) (q0 := 0) rfl rfl rfl hl.1 rfl (Nat.le_of_ble_eq_true rfl) dX9_error_46 ⟨Nat.zero_le _, Nat.zero_le _⟩) rfl rfl (by decide) rfl rfl (fun H locs hP hD hS => ?_)
        obtain rfl := Option.some.inj hf
        exact pa_ei X hP hD hS dX9_error_49
      · have hf := (if_pos c_11).symm.trans hf
        refine lv_bipush (v := (-2 : Int32)) hx hb dX9_error_38 (by decide) ?_
        refine lv_goto (tgt := 49) hx hb dX9_error_40 (by decide) ?_
        obtain rfl := Option.some.inj hf
        exact pa_ei X hP hD hS dX9_error_49
    · have hf := (if_pos c_8).symm.trans hf
      refine lv_iconst (v := (-1 : Int32)) hx hb dX9_error_24 (by decide) ?_
      obtain rfl := Option.some.inj hf
      exact pa_ei X hP hD hS dX9_error_25
set_option maxHeartbeats 4000000 in
set_option maxRecDepth 100000 in
theorem c_X9_error {l : Launch} {D : va_G} {cI cJ : ClassId} {g : pa_GT} {a_x a_la a_lc a_lr a_te a_ha a_as a_lo a_lt a_lw a_we a_ho a_fr a_pr : Nat} {x1 : Int32} {x2 : Int32} {v_x_trace : Int64} {v_lc : Nat → Int32} {v_lr : Nat → Int32} {v_lt : Nat → Int64} {v_lw : Nat → Int64} {v_fr_upper : Int64} {v_fr_lower : Int64} {v_pr : Nat → Int32} {o : Int32 × (Nat → Int64) × Int64 × Int64} (hf : f_X9_error x1 x2 v_lc v_lr v_lt v_lw v_fr_upper v_fr_lower v_pr = some o) : pa_Mi l yX9_error wsX9_error rm_X9_error D cI cJ g [.ref a_x, .int x1, .int x2] (wo_X9_error cI cJ a_x a_la a_lc a_lr a_te a_ha a_as a_lo a_lt a_lw a_we a_ho a_fr a_pr v_x_trace v_lc v_lr v_lt v_lw v_fr_upper v_fr_lower v_pr) (wo_X9_error cI cJ a_x a_la a_lc a_lr a_te a_ha a_as a_lo a_lt a_lw a_we a_ho a_fr a_pr v_x_trace v_lc v_lr v_lt o.2.1 o.2.2.1 o.2.2.2 v_pr) o.1 := by
  intro sz
  refine pa_met (cc := cX9_error) (maxL := 3) (ret := (some .int)) (lv := [(0, .ref a_x), (1, .int x1), (2, .int x2)]) (by decide) rfl (Nat.le_of_ble_eq_true rfl) rfl ?_
  intro p e s m below meth c X hsz hP hD ls hl
  subst hsz
  exact w_X9_error_b0 X hf hP hD va_S.rf hl
abbrev wo_X9_cards (cI cJ : ClassId) (a_x a_la a_lc a_lr a_te a_ha a_as a_lo a_we a_ho a_fr a_pr : Nat) (v_x_trace : Int64) (v_lc : Nat → Int32) (v_pr : Nat → Int32) : va_W := [(a_x, .inr (8, [.ref a_la, .ref a_te, .ref a_ha, .ref a_as, .ref a_lo, .ref a_we, .ref a_ho, .ref a_fr, .ref a_pr, .long v_x_trace])), (a_la, .inr (4, [.ref a_lc, .ref a_lr])), (a_lc, .inl (cI, 32, .inl v_lc)), (a_pr, .inl (cI, 3, .inl v_pr))]
abbrev rm_X9_cards : Room := { frames := 3, cells := 0, slots := 0, locals := 69 }
theorem il_X9_cards_X9 : ∀ w ∈ wsX90, w ∈ wsX9_cards := by decide +kernel
theorem fk_X9_cards_0 : Cond.fieldLink RX9 65 "PostedAsks" "prices" "[I" ∈ wsX9_cards := by decide +kernel
theorem fk_X9_cards_1 : Cond.fieldLink RX9 10 "PostedAsks" "lands" "LPostedAsks$Lands;" ∈ wsX9_cards := by decide +kernel
def f_X9_cards (x1 : Int32) (v_lc : Nat → Int32) (v_pr : Nat → Int32) : Option (Int32) :=
  if pa_ib (0 : Int32) 3 = true then
    (f_X4_having x1 (4 : Int32) v_lc).bind fun u_2 =>
    some (((v_pr (Int32.toNatClampNeg (0 : Int32))) * u_2))
  else none
set_option maxHeartbeats 4000000 in
set_option maxRecDepth 100000 in
theorem w_X9_cards_b0 {l : Launch} {D : va_G} {cI cJ : ClassId} {g : pa_GT} {a_x a_la a_lc a_lr a_te a_ha a_as a_lo a_we a_ho a_fr a_pr : Nat} {A : Nat → Prop} {p : Program} {e : Env} {s : State} {m : MethodId} {args : Array Value} {below : List Frame} {meth : Method} {c : Code} {x1 : Int32} {v_lc : Nat → Int32} {v_pr : Nat → Int32} {v_x_trace : Int64} {o : Int32} (X : pa_X cX9_cards 2 (some .int) RX9 wsX9_cards D cI cJ g A p s m args meth c)  (hf : f_X9_cards x1 v_lc v_pr = some o) {H : Heap} {locs : List Loc} (hP : va_P D vwCl (wo_X9_cards cI cJ a_x a_la a_lc a_lr a_te a_ha a_as a_lo a_we a_ho a_fr a_pr v_x_trace v_lc v_pr) H) (hD : va_D A (wo_X9_cards cI cJ a_x a_la a_lc a_lr a_te a_ha a_as a_lo a_we a_ho a_fr a_pr v_x_trace v_lc v_pr)) (hS : va_S A s.heap H locs) {ls : Array Slot} (hl : lv_has ls 2 [(0, .ref a_x), (1, .int x1)]) : W p l e (headSpec wsX9_cards rm_X9_cards).room s m args below meth c H locs 0 0 (MQ below (va_Qi (fun r (_ : Unit) => r = o) (pa_QB D A (wo_X9_cards cI cJ a_x a_la a_lc a_lr a_te a_ha a_as a_lo a_we a_ho a_fr a_pr v_x_trace v_lc v_pr)) A) args s 0 0 A) (F0 m 0 ls []) := by
  obtain ⟨hx, hb, hr, hml, hown, hts, hK, hA, hG, hlk⟩ := id X
  delta f_X9_cards at hf
  refine lv_aload_n hx hb dX9_cards_0 rfl (lv_at hl 0 rfl) ?_
  refine va_get (D := D) (ci := 8) (v := .ref a_pr) (C := RX9) (T := TX9) (N := 10) hx hb hts il_X9_cards_X9 hown hK hP 0 rfl rfl 8 (by decide) (hts _ fk_X9_cards_0) (fun _ h9 => h9) rfl dX9_cards_1 ?_
  refine lv_iconst (v := (0 : Int32)) hx hb dX9_cards_4 (by decide) ?_
  obtain ⟨hi_1, hf⟩ := pa_gd hf
  refine va_iald hx hb hK hP 3 0 rfl rfl hi_1 dX9_cards_5 ?_
  refine lv_aload_n hx hb dX9_cards_6 rfl (lv_at hl 0 rfl) ?_
  refine va_get (D := D) (ci := 8) (v := .ref a_la) (C := RX9) (T := TX9) (N := 10) hx hb hts il_X9_cards_X9 hown hK hP 0 rfl rfl 0 (by decide) (hts _ fk_X9_cards_1) (fun _ h9 => h9) rfl dX9_cards_7 ?_
  refine lv_iload_n hx hb dX9_cards_10 rfl (lv_at hl 1 rfl) ?_
  refine lv_iconst (v := (4 : Int32)) hx hb dX9_cards_11 (by decide) ?_
  obtain ⟨u_2, hg_3, hf⟩ := pa_bd hf
  refine pa_ki (wc := (wo_X4_having cI cJ a_la a_lc a_lr v_lc)) (wr := [(a_x, .inr (8, [.ref a_la, .ref a_te, .ref a_ha, .ref a_as, .ref a_lo, .ref a_we, .ref a_ho, .ref a_fr, .ref a_pr, .long v_x_trace])), (a_pr, .inl (cI, 3, .inl v_pr))]) (w1 := (wo_X4_having cI cJ a_la a_lc a_lr v_lc)) (w2 := (wo_X9_cards cI cJ a_x a_la a_lc a_lr a_te a_ha a_as a_lo a_we a_ho a_fr a_pr v_x_trace v_lc v_pr)) X hP hD hS [1, 2] [0, 3] [0, 2, 3, 1] rfl (pa_rV (As := [.int x1, .int (4 : Int32)]) (rest := [.int (v_pr (Int32.toNatClampNeg (0 : Int32)))]) (T := TX4) X hP hD hS [1, 2] rfl rfl (c_X4_having hg_3 H.size) (cwV 2 hts gX9_cards_X4_having rfl rfl rfl (by decide +kernel) ⟨Nat.le_of_ble_eq_true rfl, Nat.le_of_ble_eq_true rfl⟩) (q0 := 1) rfl rfl rfl hl.1 rfl (Nat.le_of_ble_eq_true rfl) dX9_cards_12 ⟨Nat.zero_le _, Nat.zero_le _⟩) rfl rfl (by decide) rfl rfl (fun H locs hP hD hS => ?_)
  refine lv_imul hx hb dX9_cards_15 ?_
  obtain rfl := Option.some.inj hf
  exact pa_ei X hP hD hS dX9_cards_16
set_option maxHeartbeats 4000000 in
set_option maxRecDepth 100000 in
theorem c_X9_cards {l : Launch} {D : va_G} {cI cJ : ClassId} {g : pa_GT} {a_x a_la a_lc a_lr a_te a_ha a_as a_lo a_we a_ho a_fr a_pr : Nat} {x1 : Int32} {v_x_trace : Int64} {v_lc : Nat → Int32} {v_pr : Nat → Int32} {o : Int32} (hf : f_X9_cards x1 v_lc v_pr = some o) : pa_Mi l yX9_cards wsX9_cards rm_X9_cards D cI cJ g [.ref a_x, .int x1] (wo_X9_cards cI cJ a_x a_la a_lc a_lr a_te a_ha a_as a_lo a_we a_ho a_fr a_pr v_x_trace v_lc v_pr) (wo_X9_cards cI cJ a_x a_la a_lc a_lr a_te a_ha a_as a_lo a_we a_ho a_fr a_pr v_x_trace v_lc v_pr) o := by
  intro sz
  refine pa_met (cc := cX9_cards) (maxL := 2) (ret := (some .int)) (lv := [(0, .ref a_x), (1, .int x1)]) (by decide) rfl (Nat.le_of_ble_eq_true rfl) rfl ?_
  intro p e s m below meth c X hsz hP hD ls hl
  subst hsz
  exact w_X9_cards_b0 X hf hP hD va_S.rf hl
abbrev wo_X9_isPayable (cI cJ : ClassId) (a_x a_la a_lc a_lr a_te a_ha a_as a_lo a_we a_ho a_fr a_pr : Nat) (v_x_trace : Int64) (v_lc : Nat → Int32) (v_pr : Nat → Int32) : va_W := [(a_x, .inr (8, [.ref a_la, .ref a_te, .ref a_ha, .ref a_as, .ref a_lo, .ref a_we, .ref a_ho, .ref a_fr, .ref a_pr, .long v_x_trace])), (a_la, .inr (4, [.ref a_lc, .ref a_lr])), (a_lc, .inl (cI, 32, .inl v_lc)), (a_pr, .inl (cI, 3, .inl v_pr))]
abbrev rm_X9_isPayable : Room := { frames := 4, cells := 0, slots := 0, locals := 90 }
theorem il_X9_isPayable_X9 : ∀ w ∈ wsX90, w ∈ wsX9_isPayable := by decide +kernel
theorem fk_X9_isPayable_0 : Cond.fieldLink RX9 65 "PostedAsks" "prices" "[I" ∈ wsX9_isPayable := by decide +kernel
def f_X9_isPayable_L24_body (x2 : Int32) (v_lc : Nat → Int32) (v_pr : Nat → Int32) (rec24 : Int32 → Option (Int32)) (x3 : Int32) : Option (Int32) :=
  if (4 : Int32) ≤ x3 then
    some ((1 : Int32))
  else
    (f_X9_cards x3 v_lc v_pr).bind fun u_2 =>
    if u_2 ≤ x2 then
      rec24 (x3 + (1 : Int32))
    else
      some ((0 : Int32))
def f_X9_isPayable_L24 (x2 : Int32) (v_lc : Nat → Int32) (v_pr : Nat → Int32) : Nat → Int32 → Option (Int32)
  | 0 => fun _ => none
  | n + 1 => f_X9_isPayable_L24_body x2 v_lc v_pr (f_X9_isPayable_L24 x2 v_lc v_pr n)
def f_X9_isPayable (x1 : Int32) (x2 : Int32) (v_lc : Nat → Int32) (v_pr : Nat → Int32) : Option (Int32) :=
  if x1 ≤ 0 then
    f_X9_isPayable_L24 x2 v_lc v_pr pa_fu (0 : Int32)
  else
    if pa_ib (1 : Int32) 3 = true then
      if x2 < (x1 * (v_pr (Int32.toNatClampNeg (1 : Int32)))) then
        some ((0 : Int32))
      else
        some ((1 : Int32))
    else none
set_option maxHeartbeats 4000000 in
set_option maxRecDepth 100000 in
theorem w_X9_isPayable_L24 {l : Launch} {D : va_G} {cI cJ : ClassId} {g : pa_GT} {a_x a_la a_lc a_lr a_te a_ha a_as a_lo a_we a_ho a_fr a_pr : Nat} {A : Nat → Prop} {p : Program} {e : Env} {s : State} {m : MethodId} {args : Array Value} {below : List Frame} {meth : Method} {c : Code} {x2 : Int32} {v_lc : Nat → Int32} {v_pr : Nat → Int32} {v_x_trace : Int64} {o : Int32} (X : pa_X cX9_isPayable 4 (some .boolean) RX9 wsX9_isPayable D cI cJ g A p s m args meth c)  : ∀ (n : Nat) (x3 : Int32), f_X9_isPayable_L24 x2 v_lc v_pr n x3 = some o → ∀ (H : Heap) (locs : List Loc) , va_P D vwCl (wo_X9_isPayable cI cJ a_x a_la a_lc a_lr a_te a_ha a_as a_lo a_we a_ho a_fr a_pr v_x_trace v_lc v_pr) H → va_D A (wo_X9_isPayable cI cJ a_x a_la a_lc a_lr a_te a_ha a_as a_lo a_we a_ho a_fr a_pr v_x_trace v_lc v_pr) → va_S A s.heap H locs → ∀ (ls : Array Slot), lv_has ls 4 [(0, .ref a_x), (2, .int x2), (3, .int x3)] → W p l e (headSpec wsX9_isPayable rm_X9_isPayable).room s m args below meth c H locs 0 0 (MQ below (va_Qi (fun r (_ : Unit) => r = o) (pa_QB D A (wo_X9_isPayable cI cJ a_x a_la a_lc a_lr a_te a_ha a_as a_lo a_we a_ho a_fr a_pr v_x_trace v_lc v_pr)) A) args s 0 0 A) (F0 m 24 ls []) := by
  obtain ⟨hx, hb, hr, hml, hown, hts, hK, hA, hG, hlk⟩ := id X
  intro n
  induction n with
  | zero =>
    intro x3 hf
    have hf : (none : Option (Int32)) = some o := hf
    cases hf
  | succ n hrec24 =>
    intro x3 hf H locs  hP hD hS ls hl
    have hf : f_X9_isPayable_L24_body x2 v_lc v_pr (f_X9_isPayable_L24 x2 v_lc v_pr n) x3 = some o := hf
    delta f_X9_isPayable_L24_body at hf
    generalize hgr : f_X9_isPayable_L24 x2 v_lc v_pr n = rec24 at hf hrec24
    refine lv_iload_n hx hb dX9_isPayable_24 rfl (lv_at hl 2 rfl) ?_
    refine lv_iconst (v := (4 : Int32)) hx hb dX9_isPayable_25 (by decide) ?_
    refine lv_icmp_ge (tgt := 46) hx hb dX9_isPayable_26 (by decide) (fun c_1 => ?_) (fun c_1 => ?_)
    · have hf := (if_pos c_1).symm.trans hf
      refine lv_iconst (v := (1 : Int32)) hx hb dX9_isPayable_46 (by decide) ?_
      obtain rfl := Option.some.inj hf
      exact pa_ez (v := (1 : Int32)) X hP hD hS rfl dX9_isPayable_47
    · have hf := (if_neg c_1).symm.trans hf
      refine lv_aload_n hx hb dX9_isPayable_29 rfl (lv_at hl 0 rfl) ?_
      refine lv_iload_n hx hb dX9_isPayable_30 rfl (lv_at hl 2 rfl) ?_
      obtain ⟨u_2, hg_3, hf⟩ := pa_bd hf
      refine pa_ki (wc := (wo_X9_cards cI cJ a_x a_la a_lc a_lr a_te a_ha a_as a_lo a_we a_ho a_fr a_pr v_x_trace v_lc v_pr)) (wr := ([] : va_W)) (w1 := (wo_X9_cards cI cJ a_x a_la a_lc a_lr a_te a_ha a_as a_lo a_we a_ho a_fr a_pr v_x_trace v_lc v_pr)) (w2 := (wo_X9_isPayable cI cJ a_x a_la a_lc a_lr a_te a_ha a_as a_lo a_we a_ho a_fr a_pr v_x_trace v_lc v_pr)) X hP hD hS [0, 1, 2, 3] [] [0, 1, 2, 3] rfl (pa_rV (As := [.int x3]) (rest := []) (T := TX9) X hP hD hS [0, 1, 2, 3] rfl rfl (c_X9_cards hg_3 H.size) (cwV 1 hts gX9_isPayable_X9_cards rfl rfl rfl (by decide +kernel) ⟨Nat.le_of_ble_eq_true rfl, Nat.le_of_ble_eq_true rfl⟩) (q0 := 0) rfl rfl rfl hl.1 rfl (Nat.le_of_ble_eq_true rfl) dX9_isPayable_31 ⟨Nat.zero_le _, Nat.zero_le _⟩) rfl rfl (by decide) rfl rfl (fun H locs hP hD hS => ?_)
      refine lv_iload_n hx hb dX9_isPayable_34 rfl (lv_at hl 1 rfl) ?_
      refine lv_icmp_le (tgt := 40) hx hb dX9_isPayable_35 (by decide) (fun c_4 => ?_) (fun c_4 => ?_)
      · have hf := (if_pos c_4).symm.trans hf
        refine lv_iinc (v := (x3 + (1 : Int32))) (lv' := [(3, .int (x3 + (1 : Int32))), (0, .ref a_x), (2, .int x2)]) hx hb dX9_isPayable_40 hl (k := 2) rfl rfl (by decide) rfl (fun ls hl => ?_)
        refine lv_goto (tgt := 24) hx hb dX9_isPayable_43 (by decide) ?_
        exact hrec24 _ hf _ _  hP hD hS _ (lv_sub hl [1, 2, 0] rfl)
      · have hf := (if_neg c_4).symm.trans hf
        refine lv_iconst (v := (0 : Int32)) hx hb dX9_isPayable_38 (by decide) ?_
        obtain rfl := Option.some.inj hf
        exact pa_ez (v := (0 : Int32)) X hP hD hS rfl dX9_isPayable_39
set_option maxHeartbeats 4000000 in
set_option maxRecDepth 100000 in
theorem w_X9_isPayable_b0 {l : Launch} {D : va_G} {cI cJ : ClassId} {g : pa_GT} {a_x a_la a_lc a_lr a_te a_ha a_as a_lo a_we a_ho a_fr a_pr : Nat} {A : Nat → Prop} {p : Program} {e : Env} {s : State} {m : MethodId} {args : Array Value} {below : List Frame} {meth : Method} {c : Code} {x1 : Int32} {x2 : Int32} {v_lc : Nat → Int32} {v_pr : Nat → Int32} {v_x_trace : Int64} {o : Int32} (X : pa_X cX9_isPayable 4 (some .boolean) RX9 wsX9_isPayable D cI cJ g A p s m args meth c)  (hf : f_X9_isPayable x1 x2 v_lc v_pr = some o) {H : Heap} {locs : List Loc} (hP : va_P D vwCl (wo_X9_isPayable cI cJ a_x a_la a_lc a_lr a_te a_ha a_as a_lo a_we a_ho a_fr a_pr v_x_trace v_lc v_pr) H) (hD : va_D A (wo_X9_isPayable cI cJ a_x a_la a_lc a_lr a_te a_ha a_as a_lo a_we a_ho a_fr a_pr v_x_trace v_lc v_pr)) (hS : va_S A s.heap H locs) {ls : Array Slot} (hl : lv_has ls 4 [(0, .ref a_x), (1, .int x1), (2, .int x2)]) : W p l e (headSpec wsX9_isPayable rm_X9_isPayable).room s m args below meth c H locs 0 0 (MQ below (va_Qi (fun r (_ : Unit) => r = o) (pa_QB D A (wo_X9_isPayable cI cJ a_x a_la a_lc a_lr a_te a_ha a_as a_lo a_we a_ho a_fr a_pr v_x_trace v_lc v_pr)) A) args s 0 0 A) (F0 m 0 ls []) := by
  obtain ⟨hx, hb, hr, hml, hown, hts, hK, hA, hG, hlk⟩ := id X
  delta f_X9_isPayable at hf
  refine lv_iload_n hx hb dX9_isPayable_0 rfl (lv_at hl 1 rfl) ?_
  refine lv_if_le (tgt := 22) hx hb dX9_isPayable_1 (by decide) (fun c_5 => ?_) (fun c_5 => ?_)
  · have hf := (if_pos c_5).symm.trans hf
    refine lv_iconst (v := (0 : Int32)) hx hb dX9_isPayable_22 (by decide) ?_
    refine lv_istore_n (lv' := [(3, .int (0 : Int32)), (0, .ref a_x), (1, .int x1), (2, .int x2)]) hx hb dX9_isPayable_23 rfl hl (by decide) rfl (fun ls hl => ?_)
    exact w_X9_isPayable_L24 X  _ _ hf _ _  hP hD hS _ (lv_sub hl [1, 3, 0] rfl)
  · have hf := (if_neg c_5).symm.trans hf
    refine lv_iload_n hx hb dX9_isPayable_4 rfl (lv_at hl 1 rfl) ?_
    refine lv_aload_n hx hb dX9_isPayable_5 rfl (lv_at hl 0 rfl) ?_
    refine va_get (D := D) (ci := 8) (v := .ref a_pr) (C := RX9) (T := TX9) (N := 10) hx hb hts il_X9_isPayable_X9 hown hK hP 0 rfl rfl 8 (by decide) (hts _ fk_X9_isPayable_0) (fun _ h9 => h9) rfl dX9_isPayable_6 ?_
    refine lv_iconst (v := (1 : Int32)) hx hb dX9_isPayable_9 (by decide) ?_
    obtain ⟨hi_6, hf⟩ := pa_gd hf
    refine va_iald hx hb hK hP 3 0 rfl rfl hi_6 dX9_isPayable_10 ?_
    refine lv_imul hx hb dX9_isPayable_11 ?_
    refine lv_iload_n hx hb dX9_isPayable_12 rfl (lv_at hl 2 rfl) ?_
    refine lv_icmp_gt (tgt := 20) hx hb dX9_isPayable_13 (by decide) (fun c_7 => ?_) (fun c_7 => ?_)
    · have hf := (if_pos c_7).symm.trans hf
      refine lv_iconst (v := (0 : Int32)) hx hb dX9_isPayable_20 (by decide) ?_
      obtain rfl := Option.some.inj hf
      exact pa_ez (v := (0 : Int32)) X hP hD hS rfl dX9_isPayable_21
    · have hf := (if_neg c_7).symm.trans hf
      refine lv_iconst (v := (1 : Int32)) hx hb dX9_isPayable_16 (by decide) ?_
      refine lv_goto (tgt := 21) hx hb dX9_isPayable_17 (by decide) ?_
      obtain rfl := Option.some.inj hf
      exact pa_ez (v := (1 : Int32)) X hP hD hS rfl dX9_isPayable_21
set_option maxHeartbeats 4000000 in
set_option maxRecDepth 100000 in
theorem c_X9_isPayable {l : Launch} {D : va_G} {cI cJ : ClassId} {g : pa_GT} {a_x a_la a_lc a_lr a_te a_ha a_as a_lo a_we a_ho a_fr a_pr : Nat} {x1 : Int32} {x2 : Int32} {v_x_trace : Int64} {v_lc : Nat → Int32} {v_pr : Nat → Int32} {o : Int32} (hf : f_X9_isPayable x1 x2 v_lc v_pr = some o) : pa_Mi l yX9_isPayable wsX9_isPayable rm_X9_isPayable D cI cJ g [.ref a_x, .int x1, .int x2] (wo_X9_isPayable cI cJ a_x a_la a_lc a_lr a_te a_ha a_as a_lo a_we a_ho a_fr a_pr v_x_trace v_lc v_pr) (wo_X9_isPayable cI cJ a_x a_la a_lc a_lr a_te a_ha a_as a_lo a_we a_ho a_fr a_pr v_x_trace v_lc v_pr) o := by
  intro sz
  refine pa_met (cc := cX9_isPayable) (maxL := 4) (ret := (some .boolean)) (lv := [(0, .ref a_x), (1, .int x1), (2, .int x2)]) (by decide) rfl (Nat.le_of_ble_eq_true rfl) rfl ?_
  intro p e s m below meth c X hsz hP hD ls hl
  subst hsz
  exact w_X9_isPayable_b0 X hf hP hD va_S.rf hl
abbrev wo_X9_greatestMistake (cI cJ : ClassId) (a_x a_la a_lc a_lr a_te a_ha a_as a_lo a_lt a_lw a_we a_ho a_fr a_pr : Nat) (v_x_trace : Int64) (v_lc : Nat → Int32) (v_lr : Nat → Int32) (v_lt : Nat → Int64) (v_lw : Nat → Int64) (v_fr_upper : Int64) (v_fr_lower : Int64) (v_pr : Nat → Int32) : va_W := [(a_x, .inr (8, [.ref a_la, .ref a_te, .ref a_ha, .ref a_as, .ref a_lo, .ref a_we, .ref a_ho, .ref a_fr, .ref a_pr, .long v_x_trace])), (a_la, .inr (4, [.ref a_lc, .ref a_lr])), (a_lc, .inl (cI, 32, .inl v_lc)), (a_lr, .inl (cI, 8, .inl v_lr)), (a_lo, .inr (5, [.ref a_lt, .ref a_lw])), (a_lt, .inl (cJ, 1326, .inr (.inl v_lt))), (a_lw, .inl (cJ, 101, .inr (.inl v_lw))), (a_fr, .inr (1, [.long v_fr_upper, .long v_fr_lower])), (a_pr, .inl (cI, 3, .inl v_pr))]
abbrev rm_X9_greatestMistake : Room := { frames := 5, cells := 0, slots := 0, locals := 123 }
theorem il_X9_greatestMistake_X9 : ∀ w ∈ wsX90, w ∈ wsX9_greatestMistake := by decide +kernel
theorem fk_X9_greatestMistake_0 : Cond.fieldLink RX9 10 "PostedAsks" "lands" "LPostedAsks$Lands;" ∈ wsX9_greatestMistake := by decide +kernel
theorem fk_X9_greatestMistake_1 : Cond.methodLink RX9 201 Lib.Math.max.name ∈ wsX9_greatestMistake := by decide +kernel
theorem fk_X9_greatestMistake_2 : Cond.static Lib.Math.max.name ∈ wsX9_greatestMistake := by decide +kernel
theorem fk_X9_greatestMistake_3 : Cond.initialized "java/lang/Math" ∈ wsX9_greatestMistake := by decide +kernel
theorem fk_X9_greatestMistake_4 : Cond.code Lib.Math.max.name Lib.Math.max.code 2 (some .int) ∈ wsX9_greatestMistake := by decide +kernel
def f_X9_greatestMistake_L4_body (x1 : Int32) (v_lc : Nat → Int32) (v_lr : Nat → Int32) (v_lt : Nat → Int64) (v_pr : Nat → Int32) (rec4 : Int32 → Int32 → (Nat → Int64) → Int64 → Int64 → Option (Int32 × (Nat → Int64) × Int64 × Int64)) (x2 : Int32) (x3 : Int32) (v_lw : Nat → Int64) (v_fr_upper : Int64) (v_fr_lower : Int64) : Option (Int32 × (Nat → Int64) × Int64 × Int64) :=
  if (4 : Int32) ≤ x3 then
    some (x2, v_lw, v_fr_upper, v_fr_lower)
  else
    (f_X4_having x3 (0 : Int32) v_lc).bind fun u_2 =>
    if u_2 ≤ 0 then
      rec4 x2 (x3 + (1 : Int32)) v_lw v_fr_upper v_fr_lower
    else
      (f_X9_mistake x3 x1 v_lc v_lr v_lt v_lw v_fr_upper v_fr_lower v_pr).bind fun u_5 =>
      rec4 (if x2 < u_5.1 then u_5.1 else x2) (x3 + (1 : Int32)) u_5.2.1 u_5.2.2.1 u_5.2.2.2
def f_X9_greatestMistake_L4 (x1 : Int32) (v_lc : Nat → Int32) (v_lr : Nat → Int32) (v_lt : Nat → Int64) (v_pr : Nat → Int32) : Nat → Int32 → Int32 → (Nat → Int64) → Int64 → Int64 → Option (Int32 × (Nat → Int64) × Int64 × Int64)
  | 0 => fun _ _ _ _ _ => none
  | n + 1 => f_X9_greatestMistake_L4_body x1 v_lc v_lr v_lt v_pr (f_X9_greatestMistake_L4 x1 v_lc v_lr v_lt v_pr n)
def f_X9_greatestMistake (x1 : Int32) (v_lc : Nat → Int32) (v_lr : Nat → Int32) (v_lt : Nat → Int64) (v_lw : Nat → Int64) (v_fr_upper : Int64) (v_fr_lower : Int64) (v_pr : Nat → Int32) : Option (Int32 × (Nat → Int64) × Int64 × Int64) :=
  f_X9_greatestMistake_L4 x1 v_lc v_lr v_lt v_pr pa_fu (0 : Int32) (0 : Int32) v_lw v_fr_upper v_fr_lower
set_option maxHeartbeats 4000000 in
set_option maxRecDepth 100000 in
theorem w_X9_greatestMistake_L4 {l : Launch} {D : va_G} {cI cJ : ClassId} {g : pa_GT} {a_x a_la a_lc a_lr a_te a_ha a_as a_lo a_lt a_lw a_we a_ho a_fr a_pr : Nat} {A : Nat → Prop} {p : Program} {e : Env} {s : State} {m : MethodId} {args : Array Value} {below : List Frame} {meth : Method} {c : Code} {x1 : Int32} {v_lc : Nat → Int32} {v_lr : Nat → Int32} {v_lt : Nat → Int64} {v_pr : Nat → Int32} {v_x_trace : Int64} {o : Int32 × (Nat → Int64) × Int64 × Int64} (X : pa_X cX9_greatestMistake 4 (some .int) RX9 wsX9_greatestMistake D cI cJ g A p s m args meth c)  : ∀ (n : Nat) (x2 : Int32) (x3 : Int32) (v_lw : Nat → Int64) (v_fr_upper : Int64) (v_fr_lower : Int64), f_X9_greatestMistake_L4 x1 v_lc v_lr v_lt v_pr n x2 x3 v_lw v_fr_upper v_fr_lower = some o → ∀ (H : Heap) (locs : List Loc) , va_P D vwCl (wo_X9_greatestMistake cI cJ a_x a_la a_lc a_lr a_te a_ha a_as a_lo a_lt a_lw a_we a_ho a_fr a_pr v_x_trace v_lc v_lr v_lt v_lw v_fr_upper v_fr_lower v_pr) H → va_D A (wo_X9_greatestMistake cI cJ a_x a_la a_lc a_lr a_te a_ha a_as a_lo a_lt a_lw a_we a_ho a_fr a_pr v_x_trace v_lc v_lr v_lt v_lw v_fr_upper v_fr_lower v_pr) → va_S A s.heap H locs → ∀ (ls : Array Slot), lv_has ls 4 [(0, .ref a_x), (1, .int x1), (2, .int x2), (3, .int x3)] → W p l e (headSpec wsX9_greatestMistake rm_X9_greatestMistake).room s m args below meth c H locs 0 0 (MQ below (va_Qi (fun r (_ : Unit) => r = o.1) (pa_QB D A (wo_X9_greatestMistake cI cJ a_x a_la a_lc a_lr a_te a_ha a_as a_lo a_lt a_lw a_we a_ho a_fr a_pr v_x_trace v_lc v_lr v_lt o.2.1 o.2.2.1 o.2.2.2 v_pr)) A) args s 0 0 A) (F0 m 4 ls []) := by
  obtain ⟨hx, hb, hr, hml, hown, hts, hK, hA, hG, hlk⟩ := id X
  intro n
  induction n with
  | zero =>
    intro x2 x3 v_lw v_fr_upper v_fr_lower hf
    have hf : (none : Option (Int32 × (Nat → Int64) × Int64 × Int64)) = some o := hf
    cases hf
  | succ n hrec4 =>
    intro x2 x3 v_lw v_fr_upper v_fr_lower hf H locs  hP hD hS ls hl
    have hf : f_X9_greatestMistake_L4_body x1 v_lc v_lr v_lt v_pr (f_X9_greatestMistake_L4 x1 v_lc v_lr v_lt v_pr n) x2 x3 v_lw v_fr_upper v_fr_lower = some o := hf
    delta f_X9_greatestMistake_L4_body at hf
    generalize hgr : f_X9_greatestMistake_L4 x1 v_lc v_lr v_lt v_pr n = rec4 at hf hrec4
    refine lv_iload_n hx hb dX9_greatestMistake_4 rfl (lv_at hl 3 rfl) ?_
    refine lv_iconst (v := (4 : Int32)) hx hb dX9_greatestMistake_5 (by decide) ?_
    refine lv_icmp_ge (tgt := 38) hx hb dX9_greatestMistake_6 (by decide) (fun c_1 => ?_) (fun c_1 => ?_)
    · have hf := (if_pos c_1).symm.trans hf
      refine lv_iload_n hx hb dX9_greatestMistake_38 rfl (lv_at hl 2 rfl) ?_
      obtain rfl := Option.some.inj hf
      exact pa_ei X hP hD hS dX9_greatestMistake_39
    · have hf := (if_neg c_1).symm.trans hf
      refine lv_aload_n hx hb dX9_greatestMistake_9 rfl (lv_at hl 0 rfl) ?_
      refine va_get (D := D) (ci := 8) (v := .ref a_la) (C := RX9) (T := TX9) (N := 10) hx hb hts il_X9_greatestMistake_X9 hown hK hP 0 rfl rfl 0 (by decide) (hts _ fk_X9_greatestMistake_0) (fun _ h9 => h9) rfl dX9_greatestMistake_10 ?_
      refine lv_iload_n hx hb dX9_greatestMistake_13 rfl (lv_at hl 3 rfl) ?_
      refine lv_iconst (v := (0 : Int32)) hx hb dX9_greatestMistake_14 (by decide) ?_
      obtain ⟨u_2, hg_3, hf⟩ := pa_bd hf
      refine pa_ki (wc := (wo_X4_having cI cJ a_la a_lc a_lr v_lc)) (wr := [(a_x, .inr (8, [.ref a_la, .ref a_te, .ref a_ha, .ref a_as, .ref a_lo, .ref a_we, .ref a_ho, .ref a_fr, .ref a_pr, .long v_x_trace])), (a_lr, .inl (cI, 8, .inl v_lr)), (a_lo, .inr (5, [.ref a_lt, .ref a_lw])), (a_lt, .inl (cJ, 1326, .inr (.inl v_lt))), (a_lw, .inl (cJ, 101, .inr (.inl v_lw))), (a_fr, .inr (1, [.long v_fr_upper, .long v_fr_lower])), (a_pr, .inl (cI, 3, .inl v_pr))]) (w1 := (wo_X4_having cI cJ a_la a_lc a_lr v_lc)) (w2 := (wo_X9_greatestMistake cI cJ a_x a_la a_lc a_lr a_te a_ha a_as a_lo a_lt a_lw a_we a_ho a_fr a_pr v_x_trace v_lc v_lr v_lt v_lw v_fr_upper v_fr_lower v_pr)) X hP hD hS [1, 2] [0, 3, 4, 5, 6, 7, 8] [0, 7, 8, 1, 2, 3, 4, 5, 6] rfl (pa_rV (As := [.int x3, .int (0 : Int32)]) (rest := []) (T := TX4) X hP hD hS [1, 2] rfl rfl (c_X4_having hg_3 H.size) (cwV 2 hts gX9_greatestMistake_X4_having rfl rfl rfl (by decide +kernel) ⟨Nat.le_of_ble_eq_true rfl, Nat.le_of_ble_eq_true rfl⟩) (q0 := 1) rfl rfl rfl hl.1 rfl (Nat.le_of_ble_eq_true rfl) dX9_greatestMistake_15 ⟨Nat.zero_le _, Nat.zero_le _⟩) rfl rfl (by decide) rfl rfl (fun H locs hP hD hS => ?_)
      refine lv_if_le (tgt := 32) hx hb dX9_greatestMistake_18 (by decide) (fun c_4 => ?_) (fun c_4 => ?_)
      · have hf := (if_pos c_4).symm.trans hf
        refine lv_iinc (v := (x3 + (1 : Int32))) (lv' := [(3, .int (x3 + (1 : Int32))), (0, .ref a_x), (1, .int x1), (2, .int x2)]) hx hb dX9_greatestMistake_32 hl (k := 3) rfl rfl (by decide) rfl (fun ls hl => ?_)
        refine lv_goto (tgt := 4) hx hb dX9_greatestMistake_35 (by decide) ?_
        exact hrec4 _ _ _ _ _ hf _ _  hP hD hS _ (lv_sub hl [1, 2, 3, 0] rfl)
      · have hf := (if_neg c_4).symm.trans hf
        refine lv_iload_n hx hb dX9_greatestMistake_21 rfl (lv_at hl 2 rfl) ?_
        refine lv_aload_n hx hb dX9_greatestMistake_22 rfl (lv_at hl 0 rfl) ?_
        refine lv_iload_n hx hb dX9_greatestMistake_23 rfl (lv_at hl 3 rfl) ?_
        refine lv_iload_n hx hb dX9_greatestMistake_24 rfl (lv_at hl 1 rfl) ?_
        obtain ⟨u_5, hg_6, hf⟩ := pa_bd hf
        refine pa_ki (wc := (wo_X9_mistake cI cJ a_x a_la a_lc a_lr a_te a_ha a_as a_lo a_lt a_lw a_we a_ho a_fr a_pr v_x_trace v_lc v_lr v_lt v_lw v_fr_upper v_fr_lower v_pr)) (wr := ([] : va_W)) (w1 := (wo_X9_mistake cI cJ a_x a_la a_lc a_lr a_te a_ha a_as a_lo a_lt a_lw a_we a_ho a_fr a_pr v_x_trace v_lc v_lr v_lt u_5.2.1 u_5.2.2.1 u_5.2.2.2 v_pr)) (w2 := (wo_X9_greatestMistake cI cJ a_x a_la a_lc a_lr a_te a_ha a_as a_lo a_lt a_lw a_we a_ho a_fr a_pr v_x_trace v_lc v_lr v_lt u_5.2.1 u_5.2.2.1 u_5.2.2.2 v_pr)) X hP hD hS [0, 1, 2, 3, 4, 5, 6, 7, 8] [] [0, 1, 2, 3, 4, 5, 6, 7, 8] rfl (pa_rV (As := [.int x3, .int x1]) (rest := [.int x2]) (T := TX9) X hP hD hS [0, 1, 2, 3, 4, 5, 6, 7, 8] rfl rfl (c_X9_mistake hg_6 H.size) (cwV 2 hts gX9_greatestMistake_X9_mistake rfl rfl rfl (by decide +kernel) ⟨Nat.le_of_ble_eq_true rfl, Nat.le_of_ble_eq_true rfl⟩) (q0 := 0) rfl rfl rfl hl.1 rfl (Nat.le_of_ble_eq_true rfl) dX9_greatestMistake_25 ⟨Nat.zero_le _, Nat.zero_le _⟩) rfl rfl (by decide) rfl rfl (fun H locs hP hD hS => ?_)
        refine va_mmax hx hb (hml.trans hl.1.symm) hown (hts _ fk_X9_greatestMistake_1) (hts _ fk_X9_greatestMistake_2) (hts _ fk_X9_greatestMistake_3) (hts _ fk_X9_greatestMistake_4) (Nat.le_of_ble_eq_true rfl) (Nat.le_of_ble_eq_true rfl) (Nat.zero_le _) (Nat.zero_le _) dX9_greatestMistake_28 ?_
        refine lv_istore_n (lv' := [(2, .int (if x2 < u_5.1 then u_5.1 else x2)), (0, .ref a_x), (1, .int x1), (3, .int x3)]) hx hb dX9_greatestMistake_31 rfl hl (by decide) rfl (fun ls hl => ?_)
        refine lv_iinc (v := (x3 + (1 : Int32))) (lv' := [(3, .int (x3 + (1 : Int32))), (2, .int (if x2 < u_5.1 then u_5.1 else x2)), (0, .ref a_x), (1, .int x1)]) hx hb dX9_greatestMistake_32 hl (k := 3) rfl rfl (by decide) rfl (fun ls hl => ?_)
        refine lv_goto (tgt := 4) hx hb dX9_greatestMistake_35 (by decide) ?_
        exact hrec4 _ _ _ _ _ hf _ _  hP hD hS _ (lv_sub hl [2, 3, 1, 0] rfl)
set_option maxHeartbeats 4000000 in
set_option maxRecDepth 100000 in
theorem w_X9_greatestMistake_b0 {l : Launch} {D : va_G} {cI cJ : ClassId} {g : pa_GT} {a_x a_la a_lc a_lr a_te a_ha a_as a_lo a_lt a_lw a_we a_ho a_fr a_pr : Nat} {A : Nat → Prop} {p : Program} {e : Env} {s : State} {m : MethodId} {args : Array Value} {below : List Frame} {meth : Method} {c : Code} {x1 : Int32} {v_lc : Nat → Int32} {v_lr : Nat → Int32} {v_lt : Nat → Int64} {v_lw : Nat → Int64} {v_fr_upper : Int64} {v_fr_lower : Int64} {v_pr : Nat → Int32} {v_x_trace : Int64} {o : Int32 × (Nat → Int64) × Int64 × Int64} (X : pa_X cX9_greatestMistake 4 (some .int) RX9 wsX9_greatestMistake D cI cJ g A p s m args meth c)  (hf : f_X9_greatestMistake x1 v_lc v_lr v_lt v_lw v_fr_upper v_fr_lower v_pr = some o) {H : Heap} {locs : List Loc} (hP : va_P D vwCl (wo_X9_greatestMistake cI cJ a_x a_la a_lc a_lr a_te a_ha a_as a_lo a_lt a_lw a_we a_ho a_fr a_pr v_x_trace v_lc v_lr v_lt v_lw v_fr_upper v_fr_lower v_pr) H) (hD : va_D A (wo_X9_greatestMistake cI cJ a_x a_la a_lc a_lr a_te a_ha a_as a_lo a_lt a_lw a_we a_ho a_fr a_pr v_x_trace v_lc v_lr v_lt v_lw v_fr_upper v_fr_lower v_pr)) (hS : va_S A s.heap H locs) {ls : Array Slot} (hl : lv_has ls 4 [(0, .ref a_x), (1, .int x1)]) : W p l e (headSpec wsX9_greatestMistake rm_X9_greatestMistake).room s m args below meth c H locs 0 0 (MQ below (va_Qi (fun r (_ : Unit) => r = o.1) (pa_QB D A (wo_X9_greatestMistake cI cJ a_x a_la a_lc a_lr a_te a_ha a_as a_lo a_lt a_lw a_we a_ho a_fr a_pr v_x_trace v_lc v_lr v_lt o.2.1 o.2.2.1 o.2.2.2 v_pr)) A) args s 0 0 A) (F0 m 0 ls []) := by
  obtain ⟨hx, hb, hr, hml, hown, hts, hK, hA, hG, hlk⟩ := id X
  delta f_X9_greatestMistake at hf
  refine lv_iconst (v := (0 : Int32)) hx hb dX9_greatestMistake_0 (by decide) ?_
  refine lv_istore_n (lv' := [(2, .int (0 : Int32)), (0, .ref a_x), (1, .int x1)]) hx hb dX9_greatestMistake_1 rfl hl (by decide) rfl (fun ls hl => ?_)
  refine lv_iconst (v := (0 : Int32)) hx hb dX9_greatestMistake_2 (by decide) ?_
  refine lv_istore_n (lv' := [(3, .int (0 : Int32)), (2, .int (0 : Int32)), (0, .ref a_x), (1, .int x1)]) hx hb dX9_greatestMistake_3 rfl hl (by decide) rfl (fun ls hl => ?_)
  exact w_X9_greatestMistake_L4 X  _ _ _ _ _ _ hf _ _  hP hD hS _ (lv_sub hl [2, 3, 1, 0] rfl)
set_option maxHeartbeats 4000000 in
set_option maxRecDepth 100000 in
theorem c_X9_greatestMistake {l : Launch} {D : va_G} {cI cJ : ClassId} {g : pa_GT} {a_x a_la a_lc a_lr a_te a_ha a_as a_lo a_lt a_lw a_we a_ho a_fr a_pr : Nat} {x1 : Int32} {v_x_trace : Int64} {v_lc : Nat → Int32} {v_lr : Nat → Int32} {v_lt : Nat → Int64} {v_lw : Nat → Int64} {v_fr_upper : Int64} {v_fr_lower : Int64} {v_pr : Nat → Int32} {o : Int32 × (Nat → Int64) × Int64 × Int64} (hf : f_X9_greatestMistake x1 v_lc v_lr v_lt v_lw v_fr_upper v_fr_lower v_pr = some o) : pa_Mi l yX9_greatestMistake wsX9_greatestMistake rm_X9_greatestMistake D cI cJ g [.ref a_x, .int x1] (wo_X9_greatestMistake cI cJ a_x a_la a_lc a_lr a_te a_ha a_as a_lo a_lt a_lw a_we a_ho a_fr a_pr v_x_trace v_lc v_lr v_lt v_lw v_fr_upper v_fr_lower v_pr) (wo_X9_greatestMistake cI cJ a_x a_la a_lc a_lr a_te a_ha a_as a_lo a_lt a_lw a_we a_ho a_fr a_pr v_x_trace v_lc v_lr v_lt o.2.1 o.2.2.1 o.2.2.2 v_pr) o.1 := by
  intro sz
  refine pa_met (cc := cX9_greatestMistake) (maxL := 4) (ret := (some .int)) (lv := [(0, .ref a_x), (1, .int x1)]) (by decide) rfl (Nat.le_of_ble_eq_true rfl) rfl ?_
  intro p e s m below meth c X hsz hP hD ls hl
  subst hsz
  exact w_X9_greatestMistake_b0 X hf hP hD va_S.rf hl
abbrev wo_X9_best (cI cJ : ClassId) (a_x a_la a_lc a_lr a_te a_ha a_as a_lo a_lt a_lw a_we a_ho a_fr a_pr : Nat) (v_x_trace : Int64) (v_lc : Nat → Int32) (v_lr : Nat → Int32) (v_lt : Nat → Int64) (v_lw : Nat → Int64) (v_fr_upper : Int64) (v_fr_lower : Int64) (v_pr : Nat → Int32) : va_W := [(a_x, .inr (8, [.ref a_la, .ref a_te, .ref a_ha, .ref a_as, .ref a_lo, .ref a_we, .ref a_ho, .ref a_fr, .ref a_pr, .long v_x_trace])), (a_la, .inr (4, [.ref a_lc, .ref a_lr])), (a_lc, .inl (cI, 32, .inl v_lc)), (a_lr, .inl (cI, 8, .inl v_lr)), (a_lo, .inr (5, [.ref a_lt, .ref a_lw])), (a_lt, .inl (cJ, 1326, .inr (.inl v_lt))), (a_lw, .inl (cJ, 101, .inr (.inl v_lw))), (a_fr, .inr (1, [.long v_fr_upper, .long v_fr_lower])), (a_pr, .inl (cI, 3, .inl v_pr))]
abbrev rm_X9_best : Room := { frames := 6, cells := 0, slots := 0, locals := 146 }
theorem il_X9_best_X9 : ∀ w ∈ wsX90, w ∈ wsX9_best := by decide +kernel
theorem fk_X9_best_0 : Cond.fieldLink RX9 10 "PostedAsks" "lands" "LPostedAsks$Lands;" ∈ wsX9_best := by decide +kernel
def f_X9_best_b75 (rec48 : Int32 → Int32 → Int32 → (Nat → Int64) → Int64 → Int64 → Option (Int32 × (Nat → Int64) × Int64 × Int64)) (x1 : Int32) (x2 : Int32) (x3 : Int32) (x4 : Int32) (x5 : Int32) (x6 : Int32) (s0 : Int32) (v_lc : Nat → Int32) (v_lr : Nat → Int32) (v_lt : Nat → Int64) (v_lw : Nat → Int64) (v_fr_upper : Int64) (v_fr_lower : Int64) (v_pr : Nat → Int32) : Option (Int32 × (Nat → Int64) × Int64 × Int64) :=
  if s0 = (-9 : Int32) then
    rec48 x4 x5 (x6 + (1 : Int32)) v_lw v_fr_upper v_fr_lower
  else
    if x4 = (-9 : Int32) then
      rec48 x6 s0 (x6 + (1 : Int32)) v_lw v_fr_upper v_fr_lower
    else
      if x5 ≤ s0 then
        rec48 x4 x5 (x6 + (1 : Int32)) v_lw v_fr_upper v_fr_lower
      else
        rec48 x6 s0 (x6 + (1 : Int32)) v_lw v_fr_upper v_fr_lower
def f_X9_best_L48_body (x1 : Int32) (x2 : Int32) (x3 : Int32) (v_lc : Nat → Int32) (v_lr : Nat → Int32) (v_lt : Nat → Int64) (v_pr : Nat → Int32) (rec48 : Int32 → Int32 → Int32 → (Nat → Int64) → Int64 → Int64 → Option (Int32 × (Nat → Int64) × Int64 × Int64)) (x4 : Int32) (x5 : Int32) (x6 : Int32) (v_lw : Nat → Int64) (v_fr_upper : Int64) (v_fr_lower : Int64) : Option (Int32 × (Nat → Int64) × Int64 × Int64) :=
  if x3 < x6 then
    if x2 = 0 then
      some (x4, v_lw, v_fr_upper, v_fr_lower)
    else
      some (x5, v_lw, v_fr_upper, v_fr_lower)
  else
    (f_X9_isPayable x6 x1 v_lc v_pr).bind fun u_6 =>
    if u_6 = 0 then
      f_X9_best_b75 rec48 x1 x2 x3 x4 x5 x6 (-9 : Int32) v_lc v_lr v_lt v_lw v_fr_upper v_fr_lower v_pr
    else
      (f_X9_greatestMistake x6 v_lc v_lr v_lt v_lw v_fr_upper v_fr_lower v_pr).bind fun u_9 =>
      f_X9_best_b75 rec48 x1 x2 x3 x4 x5 x6 u_9.1 v_lc v_lr v_lt u_9.2.1 u_9.2.2.1 u_9.2.2.2 v_pr
def f_X9_best_L48 (x1 : Int32) (x2 : Int32) (x3 : Int32) (v_lc : Nat → Int32) (v_lr : Nat → Int32) (v_lt : Nat → Int64) (v_pr : Nat → Int32) : Nat → Int32 → Int32 → Int32 → (Nat → Int64) → Int64 → Int64 → Option (Int32 × (Nat → Int64) × Int64 × Int64)
  | 0 => fun _ _ _ _ _ _ => none
  | n + 1 => f_X9_best_L48_body x1 x2 x3 v_lc v_lr v_lt v_pr (f_X9_best_L48 x1 x2 x3 v_lc v_lr v_lt v_pr n)
def f_X9_best (x1 : Int32) (x2 : Int32) (v_lc : Nat → Int32) (v_lr : Nat → Int32) (v_lt : Nat → Int64) (v_lw : Nat → Int64) (v_fr_upper : Int64) (v_fr_lower : Int64) (v_pr : Nat → Int32) : Option (Int32 × (Nat → Int64) × Int64 × Int64) :=
  (f_X9_within x1 (0 : Int32) (9999 : Int32)).bind fun u_11 =>
  if u_11 = 0 then
    some ((-1 : Int32), v_lw, v_fr_upper, v_fr_lower)
  else
    (f_X9_within x2 (0 : Int32) (1 : Int32)).bind fun u_14 =>
    if u_14 = 0 then
      some ((-1 : Int32), v_lw, v_fr_upper, v_fr_lower)
    else
      (f_X4_smallest v_lc).bind fun u_17 =>
      if u_17 = 0 then
        some ((-2 : Int32), v_lw, v_fr_upper, v_fr_lower)
      else
        f_X9_best_L48 x1 x2 u_17 v_lc v_lr v_lt v_pr pa_fu (-9 : Int32) (-9 : Int32) (0 : Int32) v_lw v_fr_upper v_fr_lower
set_option maxHeartbeats 4000000 in
set_option maxRecDepth 100000 in
theorem w_X9_best_b75 {l : Launch} {D : va_G} {cI cJ : ClassId} {g : pa_GT} {a_x a_la a_lc a_lr a_te a_ha a_as a_lo a_lt a_lw a_we a_ho a_fr a_pr : Nat} {A : Nat → Prop} {p : Program} {e : Env} {s : State} {m : MethodId} {args : Array Value} {below : List Frame} {meth : Method} {c : Code} {x1 : Int32} {x2 : Int32} {x3 : Int32} {x4 : Int32} {x5 : Int32} {x6 : Int32} {s0 : Int32} {v_lc : Nat → Int32} {v_lr : Nat → Int32} {v_lt : Nat → Int64} {v_lw : Nat → Int64} {v_fr_upper : Int64} {v_fr_lower : Int64} {v_pr : Nat → Int32} {v_x_trace : Int64} {o : Int32 × (Nat → Int64) × Int64 × Int64} (X : pa_X cX9_best 8 (some .int) RX9 wsX9_best D cI cJ g A p s m args meth c) {rec48 : Int32 → Int32 → Int32 → (Nat → Int64) → Int64 → Int64 → Option (Int32 × (Nat → Int64) × Int64 × Int64)} (hrec48 : ∀ (x4 : Int32) (x5 : Int32) (x6 : Int32) (v_lw : Nat → Int64) (v_fr_upper : Int64) (v_fr_lower : Int64), rec48 x4 x5 x6 v_lw v_fr_upper v_fr_lower = some o → ∀ (H : Heap) (locs : List Loc) , va_P D vwCl (wo_X9_best cI cJ a_x a_la a_lc a_lr a_te a_ha a_as a_lo a_lt a_lw a_we a_ho a_fr a_pr v_x_trace v_lc v_lr v_lt v_lw v_fr_upper v_fr_lower v_pr) H → va_D A (wo_X9_best cI cJ a_x a_la a_lc a_lr a_te a_ha a_as a_lo a_lt a_lw a_we a_ho a_fr a_pr v_x_trace v_lc v_lr v_lt v_lw v_fr_upper v_fr_lower v_pr) → va_S A s.heap H locs → ∀ (ls : Array Slot), lv_has ls 8 [(0, .ref a_x), (1, .int x1), (2, .int x2), (3, .int x3), (4, .int x4), (5, .int x5), (6, .int x6)] → W p l e (headSpec wsX9_best rm_X9_best).room s m args below meth c H locs 0 0 (MQ below (va_Qi (fun r (_ : Unit) => r = o.1) (pa_QB D A (wo_X9_best cI cJ a_x a_la a_lc a_lr a_te a_ha a_as a_lo a_lt a_lw a_we a_ho a_fr a_pr v_x_trace v_lc v_lr v_lt o.2.1 o.2.2.1 o.2.2.2 v_pr)) A) args s 0 0 A) (F0 m 48 ls [])) (hf : f_X9_best_b75 rec48 x1 x2 x3 x4 x5 x6 s0 v_lc v_lr v_lt v_lw v_fr_upper v_fr_lower v_pr = some o) {H : Heap} {locs : List Loc} (hP : va_P D vwCl (wo_X9_best cI cJ a_x a_la a_lc a_lr a_te a_ha a_as a_lo a_lt a_lw a_we a_ho a_fr a_pr v_x_trace v_lc v_lr v_lt v_lw v_fr_upper v_fr_lower v_pr) H) (hD : va_D A (wo_X9_best cI cJ a_x a_la a_lc a_lr a_te a_ha a_as a_lo a_lt a_lw a_we a_ho a_fr a_pr v_x_trace v_lc v_lr v_lt v_lw v_fr_upper v_fr_lower v_pr)) (hS : va_S A s.heap H locs) {ls : Array Slot} (hl : lv_has ls 8 [(0, .ref a_x), (1, .int x1), (2, .int x2), (3, .int x3), (4, .int x4), (5, .int x5), (6, .int x6)]) : W p l e (headSpec wsX9_best rm_X9_best).room s m args below meth c H locs 0 0 (MQ below (va_Qi (fun r (_ : Unit) => r = o.1) (pa_QB D A (wo_X9_best cI cJ a_x a_la a_lc a_lr a_te a_ha a_as a_lo a_lt a_lw a_we a_ho a_fr a_pr v_x_trace v_lc v_lr v_lt o.2.1 o.2.2.1 o.2.2.2 v_pr)) A) args s 0 0 A) (F0 m 75 ls [.int s0]) := by
  obtain ⟨hx, hb, hr, hml, hown, hts, hK, hA, hG, hlk⟩ := id X
  delta f_X9_best_b75 at hf
  refine lv_istore (lv' := [(7, .int s0), (0, .ref a_x), (1, .int x1), (2, .int x2), (3, .int x3), (4, .int x4), (5, .int x5), (6, .int x6)]) hx hb dX9_best_75 hl (by decide) rfl (fun ls hl => ?_)
  refine lv_iload hx hb dX9_best_77 (lv_at hl 0 rfl) ?_
  refine lv_bipush (v := (-9 : Int32)) hx hb dX9_best_79 (by decide) ?_
  refine lv_icmp_eq (tgt := 106) hx hb dX9_best_81 (by decide) (fun c_1 => ?_) (fun c_1 => ?_)
  · have hf := (if_pos c_1).symm.trans hf
    refine lv_iinc (v := (x6 + (1 : Int32))) (lv' := [(6, .int (x6 + (1 : Int32))), (7, .int s0), (0, .ref a_x), (1, .int x1), (2, .int x2), (3, .int x3), (4, .int x4), (5, .int x5)]) hx hb dX9_best_106 hl (k := 7) rfl rfl (by decide) rfl (fun ls hl => ?_)
    refine lv_goto (tgt := 48) hx hb dX9_best_109 (by decide) ?_
    exact hrec48 _ _ _ _ _ _ hf _ _  hP hD hS _ (lv_sub hl [2, 3, 4, 5, 6, 7, 0] rfl)
  · have hf := (if_neg c_1).symm.trans hf
    refine lv_iload hx hb dX9_best_84 (lv_at hl 5 rfl) ?_
    refine lv_bipush (v := (-9 : Int32)) hx hb dX9_best_86 (by decide) ?_
    refine lv_icmp_eq (tgt := 98) hx hb dX9_best_88 (by decide) (fun c_2 => ?_) (fun c_2 => ?_)
    · have hf := (if_pos c_2).symm.trans hf
      refine lv_iload hx hb dX9_best_98 (lv_at hl 7 rfl) ?_
      refine lv_istore (lv' := [(4, .int x6), (7, .int s0), (0, .ref a_x), (1, .int x1), (2, .int x2), (3, .int x3), (5, .int x5), (6, .int x6)]) hx hb dX9_best_100 hl (by decide) rfl (fun ls hl => ?_)
      refine lv_iload hx hb dX9_best_102 (lv_at hl 1 rfl) ?_
      refine lv_istore (lv' := [(5, .int s0), (4, .int x6), (7, .int s0), (0, .ref a_x), (1, .int x1), (2, .int x2), (3, .int x3), (6, .int x6)]) hx hb dX9_best_104 hl (by decide) rfl (fun ls hl => ?_)
      refine lv_iinc (v := (x6 + (1 : Int32))) (lv' := [(6, .int (x6 + (1 : Int32))), (5, .int s0), (4, .int x6), (7, .int s0), (0, .ref a_x), (1, .int x1), (2, .int x2), (3, .int x3)]) hx hb dX9_best_106 hl (k := 7) rfl rfl (by decide) rfl (fun ls hl => ?_)
      refine lv_goto (tgt := 48) hx hb dX9_best_109 (by decide) ?_
      exact hrec48 _ _ _ _ _ _ hf _ _  hP hD hS _ (lv_sub hl [4, 5, 6, 7, 2, 1, 0] rfl)
    · have hf := (if_neg c_2).symm.trans hf
      refine lv_iload hx hb dX9_best_91 (lv_at hl 0 rfl) ?_
      refine lv_iload hx hb dX9_best_93 (lv_at hl 6 rfl) ?_
      refine lv_icmp_ge (tgt := 106) hx hb dX9_best_95 (by decide) (fun c_3 => ?_) (fun c_3 => ?_)
      · have hf := (if_pos c_3).symm.trans hf
        refine lv_iinc (v := (x6 + (1 : Int32))) (lv' := [(6, .int (x6 + (1 : Int32))), (7, .int s0), (0, .ref a_x), (1, .int x1), (2, .int x2), (3, .int x3), (4, .int x4), (5, .int x5)]) hx hb dX9_best_106 hl (k := 7) rfl rfl (by decide) rfl (fun ls hl => ?_)
        refine lv_goto (tgt := 48) hx hb dX9_best_109 (by decide) ?_
        exact hrec48 _ _ _ _ _ _ hf _ _  hP hD hS _ (lv_sub hl [2, 3, 4, 5, 6, 7, 0] rfl)
      · have hf := (if_neg c_3).symm.trans hf
        refine lv_iload hx hb dX9_best_98 (lv_at hl 7 rfl) ?_
        refine lv_istore (lv' := [(4, .int x6), (7, .int s0), (0, .ref a_x), (1, .int x1), (2, .int x2), (3, .int x3), (5, .int x5), (6, .int x6)]) hx hb dX9_best_100 hl (by decide) rfl (fun ls hl => ?_)
        refine lv_iload hx hb dX9_best_102 (lv_at hl 1 rfl) ?_
        refine lv_istore (lv' := [(5, .int s0), (4, .int x6), (7, .int s0), (0, .ref a_x), (1, .int x1), (2, .int x2), (3, .int x3), (6, .int x6)]) hx hb dX9_best_104 hl (by decide) rfl (fun ls hl => ?_)
        refine lv_iinc (v := (x6 + (1 : Int32))) (lv' := [(6, .int (x6 + (1 : Int32))), (5, .int s0), (4, .int x6), (7, .int s0), (0, .ref a_x), (1, .int x1), (2, .int x2), (3, .int x3)]) hx hb dX9_best_106 hl (k := 7) rfl rfl (by decide) rfl (fun ls hl => ?_)
        refine lv_goto (tgt := 48) hx hb dX9_best_109 (by decide) ?_
        exact hrec48 _ _ _ _ _ _ hf _ _  hP hD hS _ (lv_sub hl [4, 5, 6, 7, 2, 1, 0] rfl)
set_option maxHeartbeats 4000000 in
set_option maxRecDepth 100000 in
theorem w_X9_best_L48 {l : Launch} {D : va_G} {cI cJ : ClassId} {g : pa_GT} {a_x a_la a_lc a_lr a_te a_ha a_as a_lo a_lt a_lw a_we a_ho a_fr a_pr : Nat} {A : Nat → Prop} {p : Program} {e : Env} {s : State} {m : MethodId} {args : Array Value} {below : List Frame} {meth : Method} {c : Code} {x1 : Int32} {x2 : Int32} {x3 : Int32} {v_lc : Nat → Int32} {v_lr : Nat → Int32} {v_lt : Nat → Int64} {v_pr : Nat → Int32} {v_x_trace : Int64} {o : Int32 × (Nat → Int64) × Int64 × Int64} (X : pa_X cX9_best 8 (some .int) RX9 wsX9_best D cI cJ g A p s m args meth c)  : ∀ (n : Nat) (x4 : Int32) (x5 : Int32) (x6 : Int32) (v_lw : Nat → Int64) (v_fr_upper : Int64) (v_fr_lower : Int64), f_X9_best_L48 x1 x2 x3 v_lc v_lr v_lt v_pr n x4 x5 x6 v_lw v_fr_upper v_fr_lower = some o → ∀ (H : Heap) (locs : List Loc) , va_P D vwCl (wo_X9_best cI cJ a_x a_la a_lc a_lr a_te a_ha a_as a_lo a_lt a_lw a_we a_ho a_fr a_pr v_x_trace v_lc v_lr v_lt v_lw v_fr_upper v_fr_lower v_pr) H → va_D A (wo_X9_best cI cJ a_x a_la a_lc a_lr a_te a_ha a_as a_lo a_lt a_lw a_we a_ho a_fr a_pr v_x_trace v_lc v_lr v_lt v_lw v_fr_upper v_fr_lower v_pr) → va_S A s.heap H locs → ∀ (ls : Array Slot), lv_has ls 8 [(0, .ref a_x), (1, .int x1), (2, .int x2), (3, .int x3), (4, .int x4), (5, .int x5), (6, .int x6)] → W p l e (headSpec wsX9_best rm_X9_best).room s m args below meth c H locs 0 0 (MQ below (va_Qi (fun r (_ : Unit) => r = o.1) (pa_QB D A (wo_X9_best cI cJ a_x a_la a_lc a_lr a_te a_ha a_as a_lo a_lt a_lw a_we a_ho a_fr a_pr v_x_trace v_lc v_lr v_lt o.2.1 o.2.2.1 o.2.2.2 v_pr)) A) args s 0 0 A) (F0 m 48 ls []) := by
  obtain ⟨hx, hb, hr, hml, hown, hts, hK, hA, hG, hlk⟩ := id X
  intro n
  induction n with
  | zero =>
    intro x4 x5 x6 v_lw v_fr_upper v_fr_lower hf
    have hf : (none : Option (Int32 × (Nat → Int64) × Int64 × Int64)) = some o := hf
    cases hf
  | succ n hrec48 =>
    intro x4 x5 x6 v_lw v_fr_upper v_fr_lower hf H locs  hP hD hS ls hl
    have hf : f_X9_best_L48_body x1 x2 x3 v_lc v_lr v_lt v_pr (f_X9_best_L48 x1 x2 x3 v_lc v_lr v_lt v_pr n) x4 x5 x6 v_lw v_fr_upper v_fr_lower = some o := hf
    delta f_X9_best_L48_body at hf
    generalize hgr : f_X9_best_L48 x1 x2 x3 v_lc v_lr v_lt v_pr n = rec48 at hf hrec48
    refine lv_iload hx hb dX9_best_48 (lv_at hl 6 rfl) ?_
    refine lv_iload_n hx hb dX9_best_50 rfl (lv_at hl 3 rfl) ?_
    refine lv_icmp_gt (tgt := 112) hx hb dX9_best_51 (by decide) (fun c_4 => ?_) (fun c_4 => ?_)
    · have hf := (if_pos c_4).symm.trans hf
      refine lv_iload_n hx hb dX9_best_112 rfl (lv_at hl 2 rfl) ?_
      refine lv_if_ne (tgt := 121) hx hb dX9_best_113 (by decide) (fun c_5 => ?_) (fun c_5 => ?_)
      · have hf := (if_neg c_5).symm.trans hf
        refine lv_iload hx hb dX9_best_121 (lv_at hl 5 rfl) ?_
        obtain rfl := Option.some.inj hf
        exact pa_ei X hP hD hS dX9_best_123
      · have hf := (if_pos c_5).symm.trans hf
        refine lv_iload hx hb dX9_best_116 (lv_at hl 4 rfl) ?_
        refine lv_goto (tgt := 123) hx hb dX9_best_118 (by decide) ?_
        obtain rfl := Option.some.inj hf
        exact pa_ei X hP hD hS dX9_best_123
    · have hf := (if_neg c_4).symm.trans hf
      refine lv_aload_n hx hb dX9_best_54 rfl (lv_at hl 0 rfl) ?_
      refine lv_iload hx hb dX9_best_55 (lv_at hl 6 rfl) ?_
      refine lv_iload_n hx hb dX9_best_57 rfl (lv_at hl 1 rfl) ?_
      obtain ⟨u_6, hg_7, hf⟩ := pa_bd hf
      refine pa_ki (wc := (wo_X9_isPayable cI cJ a_x a_la a_lc a_lr a_te a_ha a_as a_lo a_we a_ho a_fr a_pr v_x_trace v_lc v_pr)) (wr := [(a_lr, .inl (cI, 8, .inl v_lr)), (a_lo, .inr (5, [.ref a_lt, .ref a_lw])), (a_lt, .inl (cJ, 1326, .inr (.inl v_lt))), (a_lw, .inl (cJ, 101, .inr (.inl v_lw))), (a_fr, .inr (1, [.long v_fr_upper, .long v_fr_lower]))]) (w1 := (wo_X9_isPayable cI cJ a_x a_la a_lc a_lr a_te a_ha a_as a_lo a_we a_ho a_fr a_pr v_x_trace v_lc v_pr)) (w2 := (wo_X9_best cI cJ a_x a_la a_lc a_lr a_te a_ha a_as a_lo a_lt a_lw a_we a_ho a_fr a_pr v_x_trace v_lc v_lr v_lt v_lw v_fr_upper v_fr_lower v_pr)) X hP hD hS [0, 1, 2, 8] [3, 4, 5, 6, 7] [5, 6, 7, 0, 1, 2, 3, 4, 8] rfl (pa_rV (As := [.int x6, .int x1]) (rest := []) (T := TX9) X hP hD hS [0, 1, 2, 8] rfl rfl (c_X9_isPayable hg_7 H.size) (cwV 2 hts gX9_best_X9_isPayable rfl rfl rfl (by decide +kernel) ⟨Nat.le_of_ble_eq_true rfl, Nat.le_of_ble_eq_true rfl⟩) (q0 := 0) rfl rfl rfl hl.1 rfl (Nat.le_of_ble_eq_true rfl) dX9_best_58 ⟨Nat.zero_le _, Nat.zero_le _⟩) rfl rfl (by decide) rfl rfl (fun H locs hP hD hS => ?_)
      refine lv_if_eq (tgt := 73) hx hb dX9_best_61 (by decide) (fun c_8 => ?_) (fun c_8 => ?_)
      · have hf := (if_pos c_8).symm.trans hf
        refine lv_bipush (v := (-9 : Int32)) hx hb dX9_best_73 (by decide) ?_
        exact w_X9_best_b75 X hrec48 hf hP hD hS (lv_sub hl [0, 1, 2, 3, 4, 5, 6] rfl)
      · have hf := (if_neg c_8).symm.trans hf
        refine lv_aload_n hx hb dX9_best_64 rfl (lv_at hl 0 rfl) ?_
        refine lv_iload hx hb dX9_best_65 (lv_at hl 6 rfl) ?_
        obtain ⟨u_9, hg_10, hf⟩ := pa_bd hf
        refine pa_ki (wc := (wo_X9_greatestMistake cI cJ a_x a_la a_lc a_lr a_te a_ha a_as a_lo a_lt a_lw a_we a_ho a_fr a_pr v_x_trace v_lc v_lr v_lt v_lw v_fr_upper v_fr_lower v_pr)) (wr := ([] : va_W)) (w1 := (wo_X9_greatestMistake cI cJ a_x a_la a_lc a_lr a_te a_ha a_as a_lo a_lt a_lw a_we a_ho a_fr a_pr v_x_trace v_lc v_lr v_lt u_9.2.1 u_9.2.2.1 u_9.2.2.2 v_pr)) (w2 := (wo_X9_best cI cJ a_x a_la a_lc a_lr a_te a_ha a_as a_lo a_lt a_lw a_we a_ho a_fr a_pr v_x_trace v_lc v_lr v_lt u_9.2.1 u_9.2.2.1 u_9.2.2.2 v_pr)) X hP hD hS [0, 1, 2, 3, 4, 5, 6, 7, 8] [] [0, 1, 2, 3, 4, 5, 6, 7, 8] rfl (pa_rV (As := [.int x6]) (rest := []) (T := TX9) X hP hD hS [0, 1, 2, 3, 4, 5, 6, 7, 8] rfl rfl (c_X9_greatestMistake hg_10 H.size) (cwV 1 hts gX9_best_X9_greatestMistake rfl rfl rfl (by decide +kernel) ⟨Nat.le_of_ble_eq_true rfl, Nat.le_of_ble_eq_true rfl⟩) (q0 := 0) rfl rfl rfl hl.1 rfl (Nat.le_of_ble_eq_true rfl) dX9_best_67 ⟨Nat.zero_le _, Nat.zero_le _⟩) rfl rfl (by decide) rfl rfl (fun H locs hP hD hS => ?_)
        refine lv_goto (tgt := 75) hx hb dX9_best_70 (by decide) ?_
        exact w_X9_best_b75 X hrec48 hf hP hD hS (lv_sub hl [0, 1, 2, 3, 4, 5, 6] rfl)
set_option maxHeartbeats 4000000 in
set_option maxRecDepth 100000 in
theorem w_X9_best_b0 {l : Launch} {D : va_G} {cI cJ : ClassId} {g : pa_GT} {a_x a_la a_lc a_lr a_te a_ha a_as a_lo a_lt a_lw a_we a_ho a_fr a_pr : Nat} {A : Nat → Prop} {p : Program} {e : Env} {s : State} {m : MethodId} {args : Array Value} {below : List Frame} {meth : Method} {c : Code} {x1 : Int32} {x2 : Int32} {v_lc : Nat → Int32} {v_lr : Nat → Int32} {v_lt : Nat → Int64} {v_lw : Nat → Int64} {v_fr_upper : Int64} {v_fr_lower : Int64} {v_pr : Nat → Int32} {v_x_trace : Int64} {o : Int32 × (Nat → Int64) × Int64 × Int64} (X : pa_X cX9_best 8 (some .int) RX9 wsX9_best D cI cJ g A p s m args meth c)  (hf : f_X9_best x1 x2 v_lc v_lr v_lt v_lw v_fr_upper v_fr_lower v_pr = some o) {H : Heap} {locs : List Loc} (hP : va_P D vwCl (wo_X9_best cI cJ a_x a_la a_lc a_lr a_te a_ha a_as a_lo a_lt a_lw a_we a_ho a_fr a_pr v_x_trace v_lc v_lr v_lt v_lw v_fr_upper v_fr_lower v_pr) H) (hD : va_D A (wo_X9_best cI cJ a_x a_la a_lc a_lr a_te a_ha a_as a_lo a_lt a_lw a_we a_ho a_fr a_pr v_x_trace v_lc v_lr v_lt v_lw v_fr_upper v_fr_lower v_pr)) (hS : va_S A s.heap H locs) {ls : Array Slot} (hl : lv_has ls 8 [(0, .ref a_x), (1, .int x1), (2, .int x2)]) : W p l e (headSpec wsX9_best rm_X9_best).room s m args below meth c H locs 0 0 (MQ below (va_Qi (fun r (_ : Unit) => r = o.1) (pa_QB D A (wo_X9_best cI cJ a_x a_la a_lc a_lr a_te a_ha a_as a_lo a_lt a_lw a_we a_ho a_fr a_pr v_x_trace v_lc v_lr v_lt o.2.1 o.2.2.1 o.2.2.2 v_pr)) A) args s 0 0 A) (F0 m 0 ls []) := by
  obtain ⟨hx, hb, hr, hml, hown, hts, hK, hA, hG, hlk⟩ := id X
  delta f_X9_best at hf
  refine lv_iload_n hx hb dX9_best_0 rfl (lv_at hl 1 rfl) ?_
  refine lv_iconst (v := (0 : Int32)) hx hb dX9_best_1 (by decide) ?_
  refine lv_sipush (v := (9999 : Int32)) hx hb dX9_best_2 (by decide) ?_
  obtain ⟨u_11, hg_12, hf⟩ := pa_bd hf
  refine pa_ki (wc := ([] : va_W)) (wr := [(a_x, .inr (8, [.ref a_la, .ref a_te, .ref a_ha, .ref a_as, .ref a_lo, .ref a_we, .ref a_ho, .ref a_fr, .ref a_pr, .long v_x_trace])), (a_la, .inr (4, [.ref a_lc, .ref a_lr])), (a_lc, .inl (cI, 32, .inl v_lc)), (a_lr, .inl (cI, 8, .inl v_lr)), (a_lo, .inr (5, [.ref a_lt, .ref a_lw])), (a_lt, .inl (cJ, 1326, .inr (.inl v_lt))), (a_lw, .inl (cJ, 101, .inr (.inl v_lw))), (a_fr, .inr (1, [.long v_fr_upper, .long v_fr_lower])), (a_pr, .inl (cI, 3, .inl v_pr))]) (w1 := ([] : va_W)) (w2 := (wo_X9_best cI cJ a_x a_la a_lc a_lr a_te a_ha a_as a_lo a_lt a_lw a_we a_ho a_fr a_pr v_x_trace v_lc v_lr v_lt v_lw v_fr_upper v_fr_lower v_pr)) X hP hD hS [] [0, 1, 2, 3, 4, 5, 6, 7, 8] [0, 1, 2, 3, 4, 5, 6, 7, 8] rfl (pa_rS (As := [.int x1, .int (0 : Int32), .int (9999 : Int32)]) (rest := []) X hP hD hS [] rfl rfl (c_X9_within hg_12 H.size) (va_cwS 3 hts gX9_best_X9_within rfl rfl rfl (by decide +kernel) ⟨Nat.le_of_ble_eq_true rfl, Nat.le_of_ble_eq_true rfl⟩) rfl hl.1 rfl (Nat.le_of_ble_eq_true rfl) dX9_best_5 ⟨Nat.zero_le _, Nat.zero_le _⟩) rfl rfl (by decide) rfl rfl (fun H locs hP hD hS => ?_)
  refine lv_if_eq (tgt := 20) hx hb dX9_best_8 (by decide) (fun c_13 => ?_) (fun c_13 => ?_)
  · have hf := (if_pos c_13).symm.trans hf
    refine lv_iconst (v := (-1 : Int32)) hx hb dX9_best_20 (by decide) ?_
    obtain rfl := Option.some.inj hf
    exact pa_ei X hP hD hS dX9_best_21
  · have hf := (if_neg c_13).symm.trans hf
    refine lv_iload_n hx hb dX9_best_11 rfl (lv_at hl 2 rfl) ?_
    refine lv_iconst (v := (0 : Int32)) hx hb dX9_best_12 (by decide) ?_
    refine lv_iconst (v := (1 : Int32)) hx hb dX9_best_13 (by decide) ?_
    obtain ⟨u_14, hg_15, hf⟩ := pa_bd hf
    refine pa_ki (wc := ([] : va_W)) (wr := [(a_x, .inr (8, [.ref a_la, .ref a_te, .ref a_ha, .ref a_as, .ref a_lo, .ref a_we, .ref a_ho, .ref a_fr, .ref a_pr, .long v_x_trace])), (a_la, .inr (4, [.ref a_lc, .ref a_lr])), (a_lc, .inl (cI, 32, .inl v_lc)), (a_lr, .inl (cI, 8, .inl v_lr)), (a_lo, .inr (5, [.ref a_lt, .ref a_lw])), (a_lt, .inl (cJ, 1326, .inr (.inl v_lt))), (a_lw, .inl (cJ, 101, .inr (.inl v_lw))), (a_fr, .inr (1, [.long v_fr_upper, .long v_fr_lower])), (a_pr, .inl (cI, 3, .inl v_pr))]) (w1 := ([] : va_W)) (w2 := (wo_X9_best cI cJ a_x a_la a_lc a_lr a_te a_ha a_as a_lo a_lt a_lw a_we a_ho a_fr a_pr v_x_trace v_lc v_lr v_lt v_lw v_fr_upper v_fr_lower v_pr)) X hP hD hS [] [0, 1, 2, 3, 4, 5, 6, 7, 8] [0, 1, 2, 3, 4, 5, 6, 7, 8] rfl (pa_rS (As := [.int x2, .int (0 : Int32), .int (1 : Int32)]) (rest := []) X hP hD hS [] rfl rfl (c_X9_within hg_15 H.size) (va_cwS 3 hts gX9_best_X9_within rfl rfl rfl (by decide +kernel) ⟨Nat.le_of_ble_eq_true rfl, Nat.le_of_ble_eq_true rfl⟩) rfl hl.1 rfl (Nat.le_of_ble_eq_true rfl) dX9_best_14 ⟨Nat.zero_le _, Nat.zero_le _⟩) rfl rfl (by decide) rfl rfl (fun H locs hP hD hS => ?_)
    refine lv_if_ne (tgt := 22) hx hb dX9_best_17 (by decide) (fun c_16 => ?_) (fun c_16 => ?_)
    · have hf := (if_neg c_16).symm.trans hf
      refine lv_aload_n hx hb dX9_best_22 rfl (lv_at hl 0 rfl) ?_
      refine va_get (D := D) (ci := 8) (v := .ref a_la) (C := RX9) (T := TX9) (N := 10) hx hb hts il_X9_best_X9 hown hK hP 0 rfl rfl 0 (by decide) (hts _ fk_X9_best_0) (fun _ h9 => h9) rfl dX9_best_23 ?_
      obtain ⟨u_17, hg_18, hf⟩ := pa_bd hf
      refine pa_ki (wc := (wo_X4_smallest cI cJ a_la a_lc a_lr v_lc)) (wr := [(a_x, .inr (8, [.ref a_la, .ref a_te, .ref a_ha, .ref a_as, .ref a_lo, .ref a_we, .ref a_ho, .ref a_fr, .ref a_pr, .long v_x_trace])), (a_lr, .inl (cI, 8, .inl v_lr)), (a_lo, .inr (5, [.ref a_lt, .ref a_lw])), (a_lt, .inl (cJ, 1326, .inr (.inl v_lt))), (a_lw, .inl (cJ, 101, .inr (.inl v_lw))), (a_fr, .inr (1, [.long v_fr_upper, .long v_fr_lower])), (a_pr, .inl (cI, 3, .inl v_pr))]) (w1 := (wo_X4_smallest cI cJ a_la a_lc a_lr v_lc)) (w2 := (wo_X9_best cI cJ a_x a_la a_lc a_lr a_te a_ha a_as a_lo a_lt a_lw a_we a_ho a_fr a_pr v_x_trace v_lc v_lr v_lt v_lw v_fr_upper v_fr_lower v_pr)) X hP hD hS [1, 2] [0, 3, 4, 5, 6, 7, 8] [0, 7, 8, 1, 2, 3, 4, 5, 6] rfl (pa_rV (As := []) (rest := []) (T := TX4) X hP hD hS [1, 2] rfl rfl (c_X4_smallest hg_18 H.size) (cwV 0 hts gX9_best_X4_smallest rfl rfl rfl (by decide +kernel) ⟨Nat.le_of_ble_eq_true rfl, Nat.le_of_ble_eq_true rfl⟩) (q0 := 1) rfl rfl rfl hl.1 rfl (Nat.le_of_ble_eq_true rfl) dX9_best_26 ⟨Nat.zero_le _, Nat.zero_le _⟩) rfl rfl (by decide) rfl rfl (fun H locs hP hD hS => ?_)
      refine lv_istore_n (lv' := [(3, .int u_17), (0, .ref a_x), (1, .int x1), (2, .int x2)]) hx hb dX9_best_29 rfl hl (by decide) rfl (fun ls hl => ?_)
      refine lv_iload_n hx hb dX9_best_30 rfl (lv_at hl 0 rfl) ?_
      refine lv_if_ne (tgt := 37) hx hb dX9_best_31 (by decide) (fun c_19 => ?_) (fun c_19 => ?_)
      · have hf := (if_neg c_19).symm.trans hf
        refine lv_bipush (v := (-9 : Int32)) hx hb dX9_best_37 (by decide) ?_
        refine lv_istore (lv' := [(4, .int (-9 : Int32)), (3, .int u_17), (0, .ref a_x), (1, .int x1), (2, .int x2)]) hx hb dX9_best_39 hl (by decide) rfl (fun ls hl => ?_)
        refine lv_bipush (v := (-9 : Int32)) hx hb dX9_best_41 (by decide) ?_
        refine lv_istore (lv' := [(5, .int (-9 : Int32)), (4, .int (-9 : Int32)), (3, .int u_17), (0, .ref a_x), (1, .int x1), (2, .int x2)]) hx hb dX9_best_43 hl (by decide) rfl (fun ls hl => ?_)
        refine lv_iconst (v := (0 : Int32)) hx hb dX9_best_45 (by decide) ?_
        refine lv_istore (lv' := [(6, .int (0 : Int32)), (5, .int (-9 : Int32)), (4, .int (-9 : Int32)), (3, .int u_17), (0, .ref a_x), (1, .int x1), (2, .int x2)]) hx hb dX9_best_46 hl (by decide) rfl (fun ls hl => ?_)
        exact w_X9_best_L48 X  _ _ _ _ _ _ _ hf _ _  hP hD hS _ (lv_sub hl [4, 5, 6, 3, 2, 1, 0] rfl)
      · have hf := (if_pos c_19).symm.trans hf
        refine lv_bipush (v := (-2 : Int32)) hx hb dX9_best_34 (by decide) ?_
        obtain rfl := Option.some.inj hf
        exact pa_ei X hP hD hS dX9_best_36
    · have hf := (if_pos c_16).symm.trans hf
      refine lv_iconst (v := (-1 : Int32)) hx hb dX9_best_20 (by decide) ?_
      obtain rfl := Option.some.inj hf
      exact pa_ei X hP hD hS dX9_best_21
set_option maxHeartbeats 4000000 in
set_option maxRecDepth 100000 in
theorem c_X9_best {l : Launch} {D : va_G} {cI cJ : ClassId} {g : pa_GT} {a_x a_la a_lc a_lr a_te a_ha a_as a_lo a_lt a_lw a_we a_ho a_fr a_pr : Nat} {x1 : Int32} {x2 : Int32} {v_x_trace : Int64} {v_lc : Nat → Int32} {v_lr : Nat → Int32} {v_lt : Nat → Int64} {v_lw : Nat → Int64} {v_fr_upper : Int64} {v_fr_lower : Int64} {v_pr : Nat → Int32} {o : Int32 × (Nat → Int64) × Int64 × Int64} (hf : f_X9_best x1 x2 v_lc v_lr v_lt v_lw v_fr_upper v_fr_lower v_pr = some o) : pa_Mi l yX9_best wsX9_best rm_X9_best D cI cJ g [.ref a_x, .int x1, .int x2] (wo_X9_best cI cJ a_x a_la a_lc a_lr a_te a_ha a_as a_lo a_lt a_lw a_we a_ho a_fr a_pr v_x_trace v_lc v_lr v_lt v_lw v_fr_upper v_fr_lower v_pr) (wo_X9_best cI cJ a_x a_la a_lc a_lr a_te a_ha a_as a_lo a_lt a_lw a_we a_ho a_fr a_pr v_x_trace v_lc v_lr v_lt o.2.1 o.2.2.1 o.2.2.2 v_pr) o.1 := by
  intro sz
  refine pa_met (cc := cX9_best) (maxL := 8) (ret := (some .int)) (lv := [(0, .ref a_x), (1, .int x1), (2, .int x2)]) (by decide) rfl (Nat.le_of_ble_eq_true rfl) rfl ?_
  intro p e s m below meth c X hsz hP hD ls hl
  subst hsz
  exact w_X9_best_b0 X hf hP hD va_S.rf hl
abbrev wo_X9_askingCost (cI cJ : ClassId) (a_x a_la a_te a_ha a_as a_lo a_we a_ho a_fr a_pr : Nat) (v_x_trace : Int64) : va_W := [(a_x, .inr (8, [.ref a_la, .ref a_te, .ref a_ha, .ref a_as, .ref a_lo, .ref a_we, .ref a_ho, .ref a_fr, .ref a_pr, .long v_x_trace]))]
abbrev rm_X9_askingCost : Room := { frames := 0, cells := 0, slots := 0, locals := 0 }
theorem il_X9_askingCost_X9 : ∀ w ∈ wsX90, w ∈ wsX9_askingCost := by decide +kernel
theorem fk_X9_askingCost_0 : Cond.fieldLink RX9 69 "PostedAsks" "trace" "J" ∈ wsX9_askingCost := by decide +kernel
def f_X9_askingCost (v_x_trace : Int64) : Option (Int32 × Int64) :=
  some ((2 : Int32), (v_x_trace + (1 : Int64)))
set_option maxHeartbeats 4000000 in
set_option maxRecDepth 100000 in
theorem w_X9_askingCost_b0 {l : Launch} {D : va_G} {cI cJ : ClassId} {g : pa_GT} {a_x a_la a_te a_ha a_as a_lo a_we a_ho a_fr a_pr : Nat} {A : Nat → Prop} {p : Program} {e : Env} {s : State} {m : MethodId} {args : Array Value} {below : List Frame} {meth : Method} {c : Code} {v_x_trace : Int64}  {o : Int32 × Int64} (X : pa_X cX9_askingCost 1 (some .int) RX9 wsX9_askingCost D cI cJ g A p s m args meth c)  (hf : f_X9_askingCost v_x_trace = some o) {H : Heap} {locs : List Loc} (hP : va_P D vwCl (wo_X9_askingCost cI cJ a_x a_la a_te a_ha a_as a_lo a_we a_ho a_fr a_pr v_x_trace) H) (hD : va_D A (wo_X9_askingCost cI cJ a_x a_la a_te a_ha a_as a_lo a_we a_ho a_fr a_pr v_x_trace)) (hS : va_S A s.heap H locs) {ls : Array Slot} (hl : lv_has ls 1 [(0, .ref a_x)]) : W p l e (headSpec wsX9_askingCost rm_X9_askingCost).room s m args below meth c H locs 0 0 (MQ below (va_Qi (fun r (_ : Unit) => r = o.1) (pa_QB D A (wo_X9_askingCost cI cJ a_x a_la a_te a_ha a_as a_lo a_we a_ho a_fr a_pr o.2)) A) args s 0 0 A) (F0 m 0 ls []) := by
  obtain ⟨hx, hb, hr, hml, hown, hts, hK, hA, hG, hlk⟩ := id X
  delta f_X9_askingCost at hf
  refine lv_aload_n hx hb dX9_askingCost_0 rfl (lv_at hl 0 rfl) ?_
  refine lv_dup hx hb dX9_askingCost_1 rfl ?_
  refine va_get (D := D) (ci := 8) (v := .long v_x_trace) (C := RX9) (T := TX9) (N := 10) hx hb hts il_X9_askingCost_X9 hown hK hP 0 rfl rfl 9 (by decide) (hts _ fk_X9_askingCost_0) (fun _ h9 => h9) rfl dX9_askingCost_2 ?_
  refine lv_lconst (v := (1 : Int64)) hx hb dX9_askingCost_5 (by decide) ?_
  refine lv_ladd hx hb dX9_askingCost_6 ?_
  refine va_put (D := D) (ci := 8) (v := .long (v_x_trace + (1 : Int64))) (ty := .long) (C := RX9) (T := TX9) (N := 10) hx hb hts il_X9_askingCost_X9 tyX9 tyX9_ok nmX9 hown hK hP hD hS 0 rfl rfl 9 (by decide) (hts _ fk_X9_askingCost_0) (fun _ h9 => h9) rfl (tyX9_ok 9 (by decide)) rfl rfl (Nat.le_of_ble_eq_true rfl) dX9_askingCost_7 (fun H locs hP hD hS => ?_)
  have hP : va_P D vwCl (wo_X9_askingCost cI cJ a_x a_la a_te a_ha a_as a_lo a_we a_ho a_fr a_pr (v_x_trace + (1 : Int64))) H := hP
  have hD : va_D A (wo_X9_askingCost cI cJ a_x a_la a_te a_ha a_as a_lo a_we a_ho a_fr a_pr (v_x_trace + (1 : Int64))) := hD
  refine lv_iconst (v := (2 : Int32)) hx hb dX9_askingCost_10 (by decide) ?_
  obtain rfl := Option.some.inj hf
  exact pa_ei X hP hD hS dX9_askingCost_11
set_option maxHeartbeats 4000000 in
set_option maxRecDepth 100000 in
theorem c_X9_askingCost {l : Launch} {D : va_G} {cI cJ : ClassId} {g : pa_GT} {a_x a_la a_te a_ha a_as a_lo a_we a_ho a_fr a_pr : Nat}  {v_x_trace : Int64} {o : Int32 × Int64} (hf : f_X9_askingCost v_x_trace = some o) : pa_Mi l yX9_askingCost wsX9_askingCost rm_X9_askingCost D cI cJ g [.ref a_x] (wo_X9_askingCost cI cJ a_x a_la a_te a_ha a_as a_lo a_we a_ho a_fr a_pr v_x_trace) (wo_X9_askingCost cI cJ a_x a_la a_te a_ha a_as a_lo a_we a_ho a_fr a_pr o.2) o.1 := by
  intro sz
  refine pa_met (cc := cX9_askingCost) (maxL := 1) (ret := (some .int)) (lv := [(0, .ref a_x)]) (by decide) rfl (Nat.le_of_ble_eq_true rfl) rfl ?_
  intro p e s m below meth c X hsz hP hD ls hl
  subst hsz
  exact w_X9_askingCost_b0 X hf hP hD va_S.rf hl
abbrev wo_X9_postedCost (cI cJ : ClassId) (a_x a_la a_lc a_lr a_te a_ha a_as a_lo a_we a_ho a_fr a_pr : Nat) (v_x_trace : Int64) (v_lc : Nat → Int32) (v_pr : Nat → Int32) : va_W := [(a_x, .inr (8, [.ref a_la, .ref a_te, .ref a_ha, .ref a_as, .ref a_lo, .ref a_we, .ref a_ho, .ref a_fr, .ref a_pr, .long v_x_trace])), (a_la, .inr (4, [.ref a_lc, .ref a_lr])), (a_lc, .inl (cI, 32, .inl v_lc)), (a_pr, .inl (cI, 3, .inl v_pr))]
abbrev rm_X9_postedCost : Room := { frames := 4, cells := 0, slots := 0, locals := 90 }
theorem il_X9_postedCost_X9 : ∀ w ∈ wsX90, w ∈ wsX9_postedCost := by decide +kernel
theorem fk_X9_postedCost_0 : Cond.fieldLink RX9 69 "PostedAsks" "trace" "J" ∈ wsX9_postedCost := by decide +kernel
theorem fk_X9_postedCost_1 : Cond.constantLong RX9 287 (10) ∈ wsX9_postedCost := by decide +kernel
def f_X9_postedCost (x1 : Int32) (v_x_trace : Int64) (v_lc : Nat → Int32) (v_pr : Nat → Int32) : Option (Int32 × Int64) :=
  (f_X9_askingCost (v_x_trace + (10 : Int64))).bind fun u_1 =>
  (f_X9_cards x1 v_lc v_pr).bind fun u_3 =>
  some ((u_1.1 + u_3), u_1.2)
set_option maxHeartbeats 4000000 in
set_option maxRecDepth 100000 in
theorem w_X9_postedCost_b0 {l : Launch} {D : va_G} {cI cJ : ClassId} {g : pa_GT} {a_x a_la a_lc a_lr a_te a_ha a_as a_lo a_we a_ho a_fr a_pr : Nat} {A : Nat → Prop} {p : Program} {e : Env} {s : State} {m : MethodId} {args : Array Value} {below : List Frame} {meth : Method} {c : Code} {x1 : Int32} {v_x_trace : Int64} {v_lc : Nat → Int32} {v_pr : Nat → Int32}  {o : Int32 × Int64} (X : pa_X cX9_postedCost 2 (some .int) RX9 wsX9_postedCost D cI cJ g A p s m args meth c)  (hf : f_X9_postedCost x1 v_x_trace v_lc v_pr = some o) {H : Heap} {locs : List Loc} (hP : va_P D vwCl (wo_X9_postedCost cI cJ a_x a_la a_lc a_lr a_te a_ha a_as a_lo a_we a_ho a_fr a_pr v_x_trace v_lc v_pr) H) (hD : va_D A (wo_X9_postedCost cI cJ a_x a_la a_lc a_lr a_te a_ha a_as a_lo a_we a_ho a_fr a_pr v_x_trace v_lc v_pr)) (hS : va_S A s.heap H locs) {ls : Array Slot} (hl : lv_has ls 2 [(0, .ref a_x), (1, .int x1)]) : W p l e (headSpec wsX9_postedCost rm_X9_postedCost).room s m args below meth c H locs 0 0 (MQ below (va_Qi (fun r (_ : Unit) => r = o.1) (pa_QB D A (wo_X9_postedCost cI cJ a_x a_la a_lc a_lr a_te a_ha a_as a_lo a_we a_ho a_fr a_pr o.2 v_lc v_pr)) A) args s 0 0 A) (F0 m 0 ls []) := by
  obtain ⟨hx, hb, hr, hml, hown, hts, hK, hA, hG, hlk⟩ := id X
  delta f_X9_postedCost at hf
  refine lv_aload_n hx hb dX9_postedCost_0 rfl (lv_at hl 0 rfl) ?_
  refine lv_dup hx hb dX9_postedCost_1 rfl ?_
  refine va_get (D := D) (ci := 8) (v := .long v_x_trace) (C := RX9) (T := TX9) (N := 10) hx hb hts il_X9_postedCost_X9 hown hK hP 0 rfl rfl 9 (by decide) (hts _ fk_X9_postedCost_0) (fun _ h9 => h9) rfl dX9_postedCost_2 ?_
  refine lv_ldc2 (v := (10 : Int64)) hx hb hown (hts _ fk_X9_postedCost_1) dX9_postedCost_5 ?_
  refine lv_ladd hx hb dX9_postedCost_8 ?_
  refine va_put (D := D) (ci := 8) (v := .long (v_x_trace + (10 : Int64))) (ty := .long) (C := RX9) (T := TX9) (N := 10) hx hb hts il_X9_postedCost_X9 tyX9 tyX9_ok nmX9 hown hK hP hD hS 0 rfl rfl 9 (by decide) (hts _ fk_X9_postedCost_0) (fun _ h9 => h9) rfl (tyX9_ok 9 (by decide)) rfl rfl (Nat.le_of_ble_eq_true rfl) dX9_postedCost_9 (fun H locs hP hD hS => ?_)
  have hP : va_P D vwCl (wo_X9_postedCost cI cJ a_x a_la a_lc a_lr a_te a_ha a_as a_lo a_we a_ho a_fr a_pr (v_x_trace + (10 : Int64)) v_lc v_pr) H := hP
  have hD : va_D A (wo_X9_postedCost cI cJ a_x a_la a_lc a_lr a_te a_ha a_as a_lo a_we a_ho a_fr a_pr (v_x_trace + (10 : Int64)) v_lc v_pr) := hD
  refine lv_aload_n hx hb dX9_postedCost_12 rfl (lv_at hl 0 rfl) ?_
  obtain ⟨u_1, hg_2, hf⟩ := pa_bd hf
  refine pa_ki (wc := (wo_X9_askingCost cI cJ a_x a_la a_te a_ha a_as a_lo a_we a_ho a_fr a_pr (v_x_trace + (10 : Int64)))) (wr := [(a_la, .inr (4, [.ref a_lc, .ref a_lr])), (a_lc, .inl (cI, 32, .inl v_lc)), (a_pr, .inl (cI, 3, .inl v_pr))]) (w1 := (wo_X9_askingCost cI cJ a_x a_la a_te a_ha a_as a_lo a_we a_ho a_fr a_pr u_1.2)) (w2 := (wo_X9_postedCost cI cJ a_x a_la a_lc a_lr a_te a_ha a_as a_lo a_we a_ho a_fr a_pr u_1.2 v_lc v_pr)) X hP hD hS [0] [1, 2, 3] [3, 0, 1, 2] rfl (pa_rV (As := []) (rest := []) (T := TX9) X hP hD hS [0] rfl rfl (c_X9_askingCost hg_2 H.size) (cwV 0 hts gX9_postedCost_X9_askingCost rfl rfl rfl (by decide +kernel) ⟨Nat.le_of_ble_eq_true rfl, Nat.le_of_ble_eq_true rfl⟩) (q0 := 0) rfl rfl rfl hl.1 rfl (Nat.le_of_ble_eq_true rfl) dX9_postedCost_13 ⟨Nat.zero_le _, Nat.zero_le _⟩) rfl rfl (by decide) rfl rfl (fun H locs hP hD hS => ?_)
  refine lv_aload_n hx hb dX9_postedCost_16 rfl (lv_at hl 0 rfl) ?_
  refine lv_iload_n hx hb dX9_postedCost_17 rfl (lv_at hl 1 rfl) ?_
  obtain ⟨u_3, hg_4, hf⟩ := pa_bd hf
  refine pa_ki (wc := (wo_X9_cards cI cJ a_x a_la a_lc a_lr a_te a_ha a_as a_lo a_we a_ho a_fr a_pr u_1.2 v_lc v_pr)) (wr := ([] : va_W)) (w1 := (wo_X9_cards cI cJ a_x a_la a_lc a_lr a_te a_ha a_as a_lo a_we a_ho a_fr a_pr u_1.2 v_lc v_pr)) (w2 := (wo_X9_postedCost cI cJ a_x a_la a_lc a_lr a_te a_ha a_as a_lo a_we a_ho a_fr a_pr u_1.2 v_lc v_pr)) X hP hD hS [0, 1, 2, 3] [] [0, 1, 2, 3] rfl (pa_rV (As := [.int x1]) (rest := [.int u_1.1]) (T := TX9) X hP hD hS [0, 1, 2, 3] rfl rfl (c_X9_cards hg_4 H.size) (cwV 1 hts gX9_postedCost_X9_cards rfl rfl rfl (by decide +kernel) ⟨Nat.le_of_ble_eq_true rfl, Nat.le_of_ble_eq_true rfl⟩) (q0 := 0) rfl rfl rfl hl.1 rfl (Nat.le_of_ble_eq_true rfl) dX9_postedCost_18 ⟨Nat.zero_le _, Nat.zero_le _⟩) rfl rfl (by decide) rfl rfl (fun H locs hP hD hS => ?_)
  refine lv_iadd hx hb dX9_postedCost_21 ?_
  obtain rfl := Option.some.inj hf
  exact pa_ei X hP hD hS dX9_postedCost_22
set_option maxHeartbeats 4000000 in
set_option maxRecDepth 100000 in
theorem c_X9_postedCost {l : Launch} {D : va_G} {cI cJ : ClassId} {g : pa_GT} {a_x a_la a_lc a_lr a_te a_ha a_as a_lo a_we a_ho a_fr a_pr : Nat} {x1 : Int32} {v_x_trace : Int64} {v_lc : Nat → Int32} {v_pr : Nat → Int32} {o : Int32 × Int64} (hf : f_X9_postedCost x1 v_x_trace v_lc v_pr = some o) : pa_Mi l yX9_postedCost wsX9_postedCost rm_X9_postedCost D cI cJ g [.ref a_x, .int x1] (wo_X9_postedCost cI cJ a_x a_la a_lc a_lr a_te a_ha a_as a_lo a_we a_ho a_fr a_pr v_x_trace v_lc v_pr) (wo_X9_postedCost cI cJ a_x a_la a_lc a_lr a_te a_ha a_as a_lo a_we a_ho a_fr a_pr o.2 v_lc v_pr) o.1 := by
  intro sz
  refine pa_met (cc := cX9_postedCost) (maxL := 2) (ret := (some .int)) (lv := [(0, .ref a_x), (1, .int x1)]) (by decide) rfl (Nat.le_of_ble_eq_true rfl) rfl ?_
  intro p e s m below meth c X hsz hP hD ls hl
  subst hsz
  exact w_X9_postedCost_b0 X hf hP hD va_S.rf hl
abbrev wo_X9_quotaCost (cI cJ : ClassId) (a_x a_la a_te a_ha a_hp a_hl a_hq a_hm a_as a_lo a_we a_ho a_fr a_pr : Nat) (v_x_trace : Int64) (v_ha_finds : Int32) : va_W := [(a_x, .inr (8, [.ref a_la, .ref a_te, .ref a_ha, .ref a_as, .ref a_lo, .ref a_we, .ref a_ho, .ref a_fr, .ref a_pr, .long v_x_trace])), (a_ha, .inr (2, [.ref a_hp, .ref a_hl, .ref a_hq, .ref a_hm, .int v_ha_finds]))]
abbrev rm_X9_quotaCost : Room := { frames := 1, cells := 0, slots := 0, locals := 20 }
theorem il_X9_quotaCost_X9 : ∀ w ∈ wsX90, w ∈ wsX9_quotaCost := by decide +kernel
theorem il_X9_quotaCost_X2 : ∀ w ∈ wsX20, w ∈ wsX9_quotaCost := by decide +kernel
theorem fk_X9_quotaCost_0 : Cond.fieldLink RX9 69 "PostedAsks" "trace" "J" ∈ wsX9_quotaCost := by decide +kernel
theorem fk_X9_quotaCost_1 : Cond.constantLong RX9 289 (100) ∈ wsX9_quotaCost := by decide +kernel
theorem fk_X9_quotaCost_2 : Cond.fieldLink RX9 26 "PostedAsks" "habit" "LPostedAsks$Habit;" ∈ wsX9_quotaCost := by decide +kernel
def f_X9_quotaCost (v_x_trace : Int64) (v_ha_finds : Int32) : Option (Int32 × Int64) :=
  (f_X9_askingCost (v_x_trace + (100 : Int64))).bind fun u_1 =>
  some ((u_1.1 + v_ha_finds), u_1.2)
set_option maxHeartbeats 4000000 in
set_option maxRecDepth 100000 in
theorem w_X9_quotaCost_b0 {l : Launch} {D : va_G} {cI cJ : ClassId} {g : pa_GT} {a_x a_la a_te a_ha a_hp a_hl a_hq a_hm a_as a_lo a_we a_ho a_fr a_pr : Nat} {A : Nat → Prop} {p : Program} {e : Env} {s : State} {m : MethodId} {args : Array Value} {below : List Frame} {meth : Method} {c : Code} {v_x_trace : Int64} {v_ha_finds : Int32}  {o : Int32 × Int64} (X : pa_X cX9_quotaCost 1 (some .int) RX9 wsX9_quotaCost D cI cJ g A p s m args meth c)  (hf : f_X9_quotaCost v_x_trace v_ha_finds = some o) {H : Heap} {locs : List Loc} (hP : va_P D vwCl (wo_X9_quotaCost cI cJ a_x a_la a_te a_ha a_hp a_hl a_hq a_hm a_as a_lo a_we a_ho a_fr a_pr v_x_trace v_ha_finds) H) (hD : va_D A (wo_X9_quotaCost cI cJ a_x a_la a_te a_ha a_hp a_hl a_hq a_hm a_as a_lo a_we a_ho a_fr a_pr v_x_trace v_ha_finds)) (hS : va_S A s.heap H locs) {ls : Array Slot} (hl : lv_has ls 1 [(0, .ref a_x)]) : W p l e (headSpec wsX9_quotaCost rm_X9_quotaCost).room s m args below meth c H locs 0 0 (MQ below (va_Qi (fun r (_ : Unit) => r = o.1) (pa_QB D A (wo_X9_quotaCost cI cJ a_x a_la a_te a_ha a_hp a_hl a_hq a_hm a_as a_lo a_we a_ho a_fr a_pr o.2 v_ha_finds)) A) args s 0 0 A) (F0 m 0 ls []) := by
  obtain ⟨hx, hb, hr, hml, hown, hts, hK, hA, hG, hlk⟩ := id X
  delta f_X9_quotaCost at hf
  refine lv_aload_n hx hb dX9_quotaCost_0 rfl (lv_at hl 0 rfl) ?_
  refine lv_dup hx hb dX9_quotaCost_1 rfl ?_
  refine va_get (D := D) (ci := 8) (v := .long v_x_trace) (C := RX9) (T := TX9) (N := 10) hx hb hts il_X9_quotaCost_X9 hown hK hP 0 rfl rfl 9 (by decide) (hts _ fk_X9_quotaCost_0) (fun _ h9 => h9) rfl dX9_quotaCost_2 ?_
  refine lv_ldc2 (v := (100 : Int64)) hx hb hown (hts _ fk_X9_quotaCost_1) dX9_quotaCost_5 ?_
  refine lv_ladd hx hb dX9_quotaCost_8 ?_
  refine va_put (D := D) (ci := 8) (v := .long (v_x_trace + (100 : Int64))) (ty := .long) (C := RX9) (T := TX9) (N := 10) hx hb hts il_X9_quotaCost_X9 tyX9 tyX9_ok nmX9 hown hK hP hD hS 0 rfl rfl 9 (by decide) (hts _ fk_X9_quotaCost_0) (fun _ h9 => h9) rfl (tyX9_ok 9 (by decide)) rfl rfl (Nat.le_of_ble_eq_true rfl) dX9_quotaCost_9 (fun H locs hP hD hS => ?_)
  have hP : va_P D vwCl (wo_X9_quotaCost cI cJ a_x a_la a_te a_ha a_hp a_hl a_hq a_hm a_as a_lo a_we a_ho a_fr a_pr (v_x_trace + (100 : Int64)) v_ha_finds) H := hP
  have hD : va_D A (wo_X9_quotaCost cI cJ a_x a_la a_te a_ha a_hp a_hl a_hq a_hm a_as a_lo a_we a_ho a_fr a_pr (v_x_trace + (100 : Int64)) v_ha_finds) := hD
  refine lv_aload_n hx hb dX9_quotaCost_12 rfl (lv_at hl 0 rfl) ?_
  obtain ⟨u_1, hg_2, hf⟩ := pa_bd hf
  refine pa_ki (wc := (wo_X9_askingCost cI cJ a_x a_la a_te a_ha a_as a_lo a_we a_ho a_fr a_pr (v_x_trace + (100 : Int64)))) (wr := [(a_ha, .inr (2, [.ref a_hp, .ref a_hl, .ref a_hq, .ref a_hm, .int v_ha_finds]))]) (w1 := (wo_X9_askingCost cI cJ a_x a_la a_te a_ha a_as a_lo a_we a_ho a_fr a_pr u_1.2)) (w2 := (wo_X9_quotaCost cI cJ a_x a_la a_te a_ha a_hp a_hl a_hq a_hm a_as a_lo a_we a_ho a_fr a_pr u_1.2 v_ha_finds)) X hP hD hS [0] [1] [1, 0] rfl (pa_rV (As := []) (rest := []) (T := TX9) X hP hD hS [0] rfl rfl (c_X9_askingCost hg_2 H.size) (cwV 0 hts gX9_quotaCost_X9_askingCost rfl rfl rfl (by decide +kernel) ⟨Nat.le_of_ble_eq_true rfl, Nat.le_of_ble_eq_true rfl⟩) (q0 := 0) rfl rfl rfl hl.1 rfl (Nat.le_of_ble_eq_true rfl) dX9_quotaCost_13 ⟨Nat.zero_le _, Nat.zero_le _⟩) rfl rfl (by decide) rfl rfl (fun H locs hP hD hS => ?_)
  refine lv_aload_n hx hb dX9_quotaCost_16 rfl (lv_at hl 0 rfl) ?_
  refine va_get (D := D) (ci := 8) (v := .ref a_ha) (C := RX9) (T := TX9) (N := 10) hx hb hts il_X9_quotaCost_X9 hown hK hP 0 rfl rfl 2 (by decide) (hts _ fk_X9_quotaCost_2) (fun _ h9 => h9) rfl dX9_quotaCost_17 ?_
  refine va_getN (D := D) (ci := 2) (v := .int v_ha_finds) (C := RX2) (T := TX2) (N := 5) hx hb hts il_X9_quotaCost_X2 hown hK hP 1 rfl rfl 4 (by decide) (va_Nw.use rfl (hG.1 _ (List.mem_of_getElem? (i := 9) rfl))) (fun _ h9 => h9) rfl dX9_quotaCost_20 ?_
  refine lv_iadd hx hb dX9_quotaCost_23 ?_
  obtain rfl := Option.some.inj hf
  exact pa_ei X hP hD hS dX9_quotaCost_24
set_option maxHeartbeats 4000000 in
set_option maxRecDepth 100000 in
theorem c_X9_quotaCost {l : Launch} {D : va_G} {cI cJ : ClassId} {g : pa_GT} {a_x a_la a_te a_ha a_hp a_hl a_hq a_hm a_as a_lo a_we a_ho a_fr a_pr : Nat}  {v_x_trace : Int64} {v_ha_finds : Int32} {o : Int32 × Int64} (hf : f_X9_quotaCost v_x_trace v_ha_finds = some o) : pa_Mi l yX9_quotaCost wsX9_quotaCost rm_X9_quotaCost D cI cJ g [.ref a_x] (wo_X9_quotaCost cI cJ a_x a_la a_te a_ha a_hp a_hl a_hq a_hm a_as a_lo a_we a_ho a_fr a_pr v_x_trace v_ha_finds) (wo_X9_quotaCost cI cJ a_x a_la a_te a_ha a_hp a_hl a_hq a_hm a_as a_lo a_we a_ho a_fr a_pr o.2 v_ha_finds) o.1 := by
  intro sz
  refine pa_met (cc := cX9_quotaCost) (maxL := 1) (ret := (some .int)) (lv := [(0, .ref a_x)]) (by decide) rfl (Nat.le_of_ble_eq_true rfl) rfl ?_
  intro p e s m below meth c X hsz hP hD ls hl
  subst hsz
  exact w_X9_quotaCost_b0 X hf hP hD va_S.rf hl
abbrev wo_X9_lotCost (cI cJ : ClassId) (a_x a_la a_lc a_lr a_te a_ha a_as a_lo a_we a_ho a_fr a_pr : Nat) (v_x_trace : Int64) (v_lc : Nat → Int32) (v_pr : Nat → Int32) : va_W := [(a_x, .inr (8, [.ref a_la, .ref a_te, .ref a_ha, .ref a_as, .ref a_lo, .ref a_we, .ref a_ho, .ref a_fr, .ref a_pr, .long v_x_trace])), (a_la, .inr (4, [.ref a_lc, .ref a_lr])), (a_lc, .inl (cI, 32, .inl v_lc)), (a_pr, .inl (cI, 3, .inl v_pr))]
abbrev rm_X9_lotCost : Room := { frames := 3, cells := 0, slots := 0, locals := 69 }
theorem il_X9_lotCost_X9 : ∀ w ∈ wsX90, w ∈ wsX9_lotCost := by decide +kernel
theorem fk_X9_lotCost_0 : Cond.fieldLink RX9 69 "PostedAsks" "trace" "J" ∈ wsX9_lotCost := by decide +kernel
theorem fk_X9_lotCost_1 : Cond.constantLong RX9 291 (1000) ∈ wsX9_lotCost := by decide +kernel
theorem fk_X9_lotCost_2 : Cond.fieldLink RX9 65 "PostedAsks" "prices" "[I" ∈ wsX9_lotCost := by decide +kernel
theorem fk_X9_lotCost_3 : Cond.fieldLink RX9 10 "PostedAsks" "lands" "LPostedAsks$Lands;" ∈ wsX9_lotCost := by decide +kernel
def f_X9_lotCost (x1 : Int32) (v_x_trace : Int64) (v_lc : Nat → Int32) (v_pr : Nat → Int32) : Option (Int32 × Int64) :=
  (f_X9_askingCost (v_x_trace + (1000 : Int64))).bind fun u_1 =>
  if pa_ib (1 : Int32) 3 = true then
    (f_X4_having x1 (0 : Int32) v_lc).bind fun u_4 =>
    some ((u_1.1 + ((v_pr (Int32.toNatClampNeg (1 : Int32))) * u_4)), u_1.2)
  else none
set_option maxHeartbeats 4000000 in
set_option maxRecDepth 100000 in
theorem w_X9_lotCost_b0 {l : Launch} {D : va_G} {cI cJ : ClassId} {g : pa_GT} {a_x a_la a_lc a_lr a_te a_ha a_as a_lo a_we a_ho a_fr a_pr : Nat} {A : Nat → Prop} {p : Program} {e : Env} {s : State} {m : MethodId} {args : Array Value} {below : List Frame} {meth : Method} {c : Code} {x1 : Int32} {v_x_trace : Int64} {v_lc : Nat → Int32} {v_pr : Nat → Int32}  {o : Int32 × Int64} (X : pa_X cX9_lotCost 2 (some .int) RX9 wsX9_lotCost D cI cJ g A p s m args meth c)  (hf : f_X9_lotCost x1 v_x_trace v_lc v_pr = some o) {H : Heap} {locs : List Loc} (hP : va_P D vwCl (wo_X9_lotCost cI cJ a_x a_la a_lc a_lr a_te a_ha a_as a_lo a_we a_ho a_fr a_pr v_x_trace v_lc v_pr) H) (hD : va_D A (wo_X9_lotCost cI cJ a_x a_la a_lc a_lr a_te a_ha a_as a_lo a_we a_ho a_fr a_pr v_x_trace v_lc v_pr)) (hS : va_S A s.heap H locs) {ls : Array Slot} (hl : lv_has ls 2 [(0, .ref a_x), (1, .int x1)]) : W p l e (headSpec wsX9_lotCost rm_X9_lotCost).room s m args below meth c H locs 0 0 (MQ below (va_Qi (fun r (_ : Unit) => r = o.1) (pa_QB D A (wo_X9_lotCost cI cJ a_x a_la a_lc a_lr a_te a_ha a_as a_lo a_we a_ho a_fr a_pr o.2 v_lc v_pr)) A) args s 0 0 A) (F0 m 0 ls []) := by
  obtain ⟨hx, hb, hr, hml, hown, hts, hK, hA, hG, hlk⟩ := id X
  delta f_X9_lotCost at hf
  refine lv_aload_n hx hb dX9_lotCost_0 rfl (lv_at hl 0 rfl) ?_
  refine lv_dup hx hb dX9_lotCost_1 rfl ?_
  refine va_get (D := D) (ci := 8) (v := .long v_x_trace) (C := RX9) (T := TX9) (N := 10) hx hb hts il_X9_lotCost_X9 hown hK hP 0 rfl rfl 9 (by decide) (hts _ fk_X9_lotCost_0) (fun _ h9 => h9) rfl dX9_lotCost_2 ?_
  refine lv_ldc2 (v := (1000 : Int64)) hx hb hown (hts _ fk_X9_lotCost_1) dX9_lotCost_5 ?_
  refine lv_ladd hx hb dX9_lotCost_8 ?_
  refine va_put (D := D) (ci := 8) (v := .long (v_x_trace + (1000 : Int64))) (ty := .long) (C := RX9) (T := TX9) (N := 10) hx hb hts il_X9_lotCost_X9 tyX9 tyX9_ok nmX9 hown hK hP hD hS 0 rfl rfl 9 (by decide) (hts _ fk_X9_lotCost_0) (fun _ h9 => h9) rfl (tyX9_ok 9 (by decide)) rfl rfl (Nat.le_of_ble_eq_true rfl) dX9_lotCost_9 (fun H locs hP hD hS => ?_)
  have hP : va_P D vwCl (wo_X9_lotCost cI cJ a_x a_la a_lc a_lr a_te a_ha a_as a_lo a_we a_ho a_fr a_pr (v_x_trace + (1000 : Int64)) v_lc v_pr) H := hP
  have hD : va_D A (wo_X9_lotCost cI cJ a_x a_la a_lc a_lr a_te a_ha a_as a_lo a_we a_ho a_fr a_pr (v_x_trace + (1000 : Int64)) v_lc v_pr) := hD
  refine lv_aload_n hx hb dX9_lotCost_12 rfl (lv_at hl 0 rfl) ?_
  obtain ⟨u_1, hg_2, hf⟩ := pa_bd hf
  refine pa_ki (wc := (wo_X9_askingCost cI cJ a_x a_la a_te a_ha a_as a_lo a_we a_ho a_fr a_pr (v_x_trace + (1000 : Int64)))) (wr := [(a_la, .inr (4, [.ref a_lc, .ref a_lr])), (a_lc, .inl (cI, 32, .inl v_lc)), (a_pr, .inl (cI, 3, .inl v_pr))]) (w1 := (wo_X9_askingCost cI cJ a_x a_la a_te a_ha a_as a_lo a_we a_ho a_fr a_pr u_1.2)) (w2 := (wo_X9_lotCost cI cJ a_x a_la a_lc a_lr a_te a_ha a_as a_lo a_we a_ho a_fr a_pr u_1.2 v_lc v_pr)) X hP hD hS [0] [1, 2, 3] [3, 0, 1, 2] rfl (pa_rV (As := []) (rest := []) (T := TX9) X hP hD hS [0] rfl rfl (c_X9_askingCost hg_2 H.size) (cwV 0 hts gX9_lotCost_X9_askingCost rfl rfl rfl (by decide +kernel) ⟨Nat.le_of_ble_eq_true rfl, Nat.le_of_ble_eq_true rfl⟩) (q0 := 0) rfl rfl rfl hl.1 rfl (Nat.le_of_ble_eq_true rfl) dX9_lotCost_13 ⟨Nat.zero_le _, Nat.zero_le _⟩) rfl rfl (by decide) rfl rfl (fun H locs hP hD hS => ?_)
  refine lv_aload_n hx hb dX9_lotCost_16 rfl (lv_at hl 0 rfl) ?_
  refine va_get (D := D) (ci := 8) (v := .ref a_pr) (C := RX9) (T := TX9) (N := 10) hx hb hts il_X9_lotCost_X9 hown hK hP 0 rfl rfl 8 (by decide) (hts _ fk_X9_lotCost_2) (fun _ h9 => h9) rfl dX9_lotCost_17 ?_
  refine lv_iconst (v := (1 : Int32)) hx hb dX9_lotCost_20 (by decide) ?_
  obtain ⟨hi_3, hf⟩ := pa_gd hf
  refine va_iald hx hb hK hP 3 0 rfl rfl hi_3 dX9_lotCost_21 ?_
  refine lv_aload_n hx hb dX9_lotCost_22 rfl (lv_at hl 0 rfl) ?_
  refine va_get (D := D) (ci := 8) (v := .ref a_la) (C := RX9) (T := TX9) (N := 10) hx hb hts il_X9_lotCost_X9 hown hK hP 0 rfl rfl 0 (by decide) (hts _ fk_X9_lotCost_3) (fun _ h9 => h9) rfl dX9_lotCost_23 ?_
  refine lv_iload_n hx hb dX9_lotCost_26 rfl (lv_at hl 1 rfl) ?_
  refine lv_iconst (v := (0 : Int32)) hx hb dX9_lotCost_27 (by decide) ?_
  obtain ⟨u_4, hg_5, hf⟩ := pa_bd hf
  refine pa_ki (wc := (wo_X4_having cI cJ a_la a_lc a_lr v_lc)) (wr := [(a_x, .inr (8, [.ref a_la, .ref a_te, .ref a_ha, .ref a_as, .ref a_lo, .ref a_we, .ref a_ho, .ref a_fr, .ref a_pr, .long u_1.2])), (a_pr, .inl (cI, 3, .inl v_pr))]) (w1 := (wo_X4_having cI cJ a_la a_lc a_lr v_lc)) (w2 := (wo_X9_lotCost cI cJ a_x a_la a_lc a_lr a_te a_ha a_as a_lo a_we a_ho a_fr a_pr u_1.2 v_lc v_pr)) X hP hD hS [1, 2] [0, 3] [0, 2, 3, 1] rfl (pa_rV (As := [.int x1, .int (0 : Int32)]) (rest := [.int (v_pr (Int32.toNatClampNeg (1 : Int32))), .int u_1.1]) (T := TX4) X hP hD hS [1, 2] rfl rfl (c_X4_having hg_5 H.size) (cwV 2 hts gX9_lotCost_X4_having rfl rfl rfl (by decide +kernel) ⟨Nat.le_of_ble_eq_true rfl, Nat.le_of_ble_eq_true rfl⟩) (q0 := 1) rfl rfl rfl hl.1 rfl (Nat.le_of_ble_eq_true rfl) dX9_lotCost_28 ⟨Nat.zero_le _, Nat.zero_le _⟩) rfl rfl (by decide) rfl rfl (fun H locs hP hD hS => ?_)
  refine lv_imul hx hb dX9_lotCost_31 ?_
  refine lv_iadd hx hb dX9_lotCost_32 ?_
  obtain rfl := Option.some.inj hf
  exact pa_ei X hP hD hS dX9_lotCost_33
set_option maxHeartbeats 4000000 in
set_option maxRecDepth 100000 in
theorem c_X9_lotCost {l : Launch} {D : va_G} {cI cJ : ClassId} {g : pa_GT} {a_x a_la a_lc a_lr a_te a_ha a_as a_lo a_we a_ho a_fr a_pr : Nat} {x1 : Int32} {v_x_trace : Int64} {v_lc : Nat → Int32} {v_pr : Nat → Int32} {o : Int32 × Int64} (hf : f_X9_lotCost x1 v_x_trace v_lc v_pr = some o) : pa_Mi l yX9_lotCost wsX9_lotCost rm_X9_lotCost D cI cJ g [.ref a_x, .int x1] (wo_X9_lotCost cI cJ a_x a_la a_lc a_lr a_te a_ha a_as a_lo a_we a_ho a_fr a_pr v_x_trace v_lc v_pr) (wo_X9_lotCost cI cJ a_x a_la a_lc a_lr a_te a_ha a_as a_lo a_we a_ho a_fr a_pr o.2 v_lc v_pr) o.1 := by
  intro sz
  refine pa_met (cc := cX9_lotCost) (maxL := 2) (ret := (some .int)) (lv := [(0, .ref a_x), (1, .int x1)]) (by decide) rfl (Nat.le_of_ble_eq_true rfl) rfl ?_
  intro p e s m below meth c X hsz hP hD ls hl
  subst hsz
  exact w_X9_lotCost_b0 X hf hP hD va_S.rf hl
abbrev wo_X9_calledCost (cI cJ : ClassId) (a_x a_la a_lc a_lr a_te a_ha a_as a_lo a_we a_ho a_fr a_pr : Nat) (v_x_trace : Int64) (v_lc : Nat → Int32) (v_pr : Nat → Int32) : va_W := [(a_x, .inr (8, [.ref a_la, .ref a_te, .ref a_ha, .ref a_as, .ref a_lo, .ref a_we, .ref a_ho, .ref a_fr, .ref a_pr, .long v_x_trace])), (a_la, .inr (4, [.ref a_lc, .ref a_lr])), (a_lc, .inl (cI, 32, .inl v_lc)), (a_pr, .inl (cI, 3, .inl v_pr))]
abbrev rm_X9_calledCost : Room := { frames := 4, cells := 0, slots := 0, locals := 90 }
theorem il_X9_calledCost_X9 : ∀ w ∈ wsX90, w ∈ wsX9_calledCost := by decide +kernel
theorem fk_X9_calledCost_0 : Cond.fieldLink RX9 69 "PostedAsks" "trace" "J" ∈ wsX9_calledCost := by decide +kernel
theorem fk_X9_calledCost_1 : Cond.constantLong RX9 293 (10000) ∈ wsX9_calledCost := by decide +kernel
def f_X9_calledCost (x1 : Int32) (v_x_trace : Int64) (v_lc : Nat → Int32) (v_pr : Nat → Int32) : Option (Int32 × Int64) :=
  (f_X9_lotCost x1 (v_x_trace + (10000 : Int64)) v_lc v_pr).bind fun u_1 =>
  some ((u_1.1 + (u_1.1 / (2 : Int32))), u_1.2)
set_option maxHeartbeats 4000000 in
set_option maxRecDepth 100000 in
theorem w_X9_calledCost_b0 {l : Launch} {D : va_G} {cI cJ : ClassId} {g : pa_GT} {a_x a_la a_lc a_lr a_te a_ha a_as a_lo a_we a_ho a_fr a_pr : Nat} {A : Nat → Prop} {p : Program} {e : Env} {s : State} {m : MethodId} {args : Array Value} {below : List Frame} {meth : Method} {c : Code} {x1 : Int32} {v_x_trace : Int64} {v_lc : Nat → Int32} {v_pr : Nat → Int32}  {o : Int32 × Int64} (X : pa_X cX9_calledCost 3 (some .int) RX9 wsX9_calledCost D cI cJ g A p s m args meth c)  (hf : f_X9_calledCost x1 v_x_trace v_lc v_pr = some o) {H : Heap} {locs : List Loc} (hP : va_P D vwCl (wo_X9_calledCost cI cJ a_x a_la a_lc a_lr a_te a_ha a_as a_lo a_we a_ho a_fr a_pr v_x_trace v_lc v_pr) H) (hD : va_D A (wo_X9_calledCost cI cJ a_x a_la a_lc a_lr a_te a_ha a_as a_lo a_we a_ho a_fr a_pr v_x_trace v_lc v_pr)) (hS : va_S A s.heap H locs) {ls : Array Slot} (hl : lv_has ls 3 [(0, .ref a_x), (1, .int x1)]) : W p l e (headSpec wsX9_calledCost rm_X9_calledCost).room s m args below meth c H locs 0 0 (MQ below (va_Qi (fun r (_ : Unit) => r = o.1) (pa_QB D A (wo_X9_calledCost cI cJ a_x a_la a_lc a_lr a_te a_ha a_as a_lo a_we a_ho a_fr a_pr o.2 v_lc v_pr)) A) args s 0 0 A) (F0 m 0 ls []) := by
  obtain ⟨hx, hb, hr, hml, hown, hts, hK, hA, hG, hlk⟩ := id X
  delta f_X9_calledCost at hf
  refine lv_aload_n hx hb dX9_calledCost_0 rfl (lv_at hl 0 rfl) ?_
  refine lv_dup hx hb dX9_calledCost_1 rfl ?_
  refine va_get (D := D) (ci := 8) (v := .long v_x_trace) (C := RX9) (T := TX9) (N := 10) hx hb hts il_X9_calledCost_X9 hown hK hP 0 rfl rfl 9 (by decide) (hts _ fk_X9_calledCost_0) (fun _ h9 => h9) rfl dX9_calledCost_2 ?_
  refine lv_ldc2 (v := (10000 : Int64)) hx hb hown (hts _ fk_X9_calledCost_1) dX9_calledCost_5 ?_
  refine lv_ladd hx hb dX9_calledCost_8 ?_
  refine va_put (D := D) (ci := 8) (v := .long (v_x_trace + (10000 : Int64))) (ty := .long) (C := RX9) (T := TX9) (N := 10) hx hb hts il_X9_calledCost_X9 tyX9 tyX9_ok nmX9 hown hK hP hD hS 0 rfl rfl 9 (by decide) (hts _ fk_X9_calledCost_0) (fun _ h9 => h9) rfl (tyX9_ok 9 (by decide)) rfl rfl (Nat.le_of_ble_eq_true rfl) dX9_calledCost_9 (fun H locs hP hD hS => ?_)
  have hP : va_P D vwCl (wo_X9_calledCost cI cJ a_x a_la a_lc a_lr a_te a_ha a_as a_lo a_we a_ho a_fr a_pr (v_x_trace + (10000 : Int64)) v_lc v_pr) H := hP
  have hD : va_D A (wo_X9_calledCost cI cJ a_x a_la a_lc a_lr a_te a_ha a_as a_lo a_we a_ho a_fr a_pr (v_x_trace + (10000 : Int64)) v_lc v_pr) := hD
  refine lv_aload_n hx hb dX9_calledCost_12 rfl (lv_at hl 0 rfl) ?_
  refine lv_iload_n hx hb dX9_calledCost_13 rfl (lv_at hl 1 rfl) ?_
  obtain ⟨u_1, hg_2, hf⟩ := pa_bd hf
  refine pa_ki (wc := (wo_X9_lotCost cI cJ a_x a_la a_lc a_lr a_te a_ha a_as a_lo a_we a_ho a_fr a_pr (v_x_trace + (10000 : Int64)) v_lc v_pr)) (wr := ([] : va_W)) (w1 := (wo_X9_lotCost cI cJ a_x a_la a_lc a_lr a_te a_ha a_as a_lo a_we a_ho a_fr a_pr u_1.2 v_lc v_pr)) (w2 := (wo_X9_calledCost cI cJ a_x a_la a_lc a_lr a_te a_ha a_as a_lo a_we a_ho a_fr a_pr u_1.2 v_lc v_pr)) X hP hD hS [0, 1, 2, 3] [] [0, 1, 2, 3] rfl (pa_rV (As := [.int x1]) (rest := []) (T := TX9) X hP hD hS [0, 1, 2, 3] rfl rfl (c_X9_lotCost hg_2 H.size) (cwV 1 hts gX9_calledCost_X9_lotCost rfl rfl rfl (by decide +kernel) ⟨Nat.le_of_ble_eq_true rfl, Nat.le_of_ble_eq_true rfl⟩) (q0 := 0) rfl rfl rfl hl.1 rfl (Nat.le_of_ble_eq_true rfl) dX9_calledCost_14 ⟨Nat.zero_le _, Nat.zero_le _⟩) rfl rfl (by decide) rfl rfl (fun H locs hP hD hS => ?_)
  refine lv_istore_n (lv' := [(2, .int u_1.1), (0, .ref a_x), (1, .int x1)]) hx hb dX9_calledCost_17 rfl hl (by decide) rfl (fun ls hl => ?_)
  refine lv_iload_n hx hb dX9_calledCost_18 rfl (lv_at hl 0 rfl) ?_
  refine lv_iload_n hx hb dX9_calledCost_19 rfl (lv_at hl 0 rfl) ?_
  refine lv_iconst (v := (2 : Int32)) hx hb dX9_calledCost_20 (by decide) ?_
  refine lv_idiv hx hb dX9_calledCost_21 (by decide) ?_
  refine lv_iadd hx hb dX9_calledCost_22 ?_
  obtain rfl := Option.some.inj hf
  exact pa_ei X hP hD hS dX9_calledCost_23
set_option maxHeartbeats 4000000 in
set_option maxRecDepth 100000 in
theorem c_X9_calledCost {l : Launch} {D : va_G} {cI cJ : ClassId} {g : pa_GT} {a_x a_la a_lc a_lr a_te a_ha a_as a_lo a_we a_ho a_fr a_pr : Nat} {x1 : Int32} {v_x_trace : Int64} {v_lc : Nat → Int32} {v_pr : Nat → Int32} {o : Int32 × Int64} (hf : f_X9_calledCost x1 v_x_trace v_lc v_pr = some o) : pa_Mi l yX9_calledCost wsX9_calledCost rm_X9_calledCost D cI cJ g [.ref a_x, .int x1] (wo_X9_calledCost cI cJ a_x a_la a_lc a_lr a_te a_ha a_as a_lo a_we a_ho a_fr a_pr v_x_trace v_lc v_pr) (wo_X9_calledCost cI cJ a_x a_la a_lc a_lr a_te a_ha a_as a_lo a_we a_ho a_fr a_pr o.2 v_lc v_pr) o.1 := by
  intro sz
  refine pa_met (cc := cX9_calledCost) (maxL := 3) (ret := (some .int)) (lv := [(0, .ref a_x), (1, .int x1)]) (by decide) rfl (Nat.le_of_ble_eq_true rfl) rfl ?_
  intro p e s m below meth c X hsz hP hD ls hl
  subst hsz
  exact w_X9_calledCost_b0 X hf hP hD va_S.rf hl
abbrev wo_X9_lateCost (cI cJ : ClassId) (a_x a_la a_te a_ha a_as a_lo a_we a_wh a_ho a_fr a_pr : Nat) (v_x_trace : Int64) (v_we_many : Int32) : va_W := [(a_x, .inr (8, [.ref a_la, .ref a_te, .ref a_ha, .ref a_as, .ref a_lo, .ref a_we, .ref a_ho, .ref a_fr, .ref a_pr, .long v_x_trace])), (a_we, .inr (7, [.ref a_wh, .int v_we_many]))]
abbrev rm_X9_lateCost : Room := { frames := 1, cells := 0, slots := 0, locals := 20 }
theorem il_X9_lateCost_X9 : ∀ w ∈ wsX90, w ∈ wsX9_lateCost := by decide +kernel
theorem il_X9_lateCost_X8 : ∀ w ∈ wsX80, w ∈ wsX9_lateCost := by decide +kernel
theorem fk_X9_lateCost_0 : Cond.fieldLink RX9 69 "PostedAsks" "trace" "J" ∈ wsX9_lateCost := by decide +kernel
theorem fk_X9_lateCost_1 : Cond.constantLong RX9 295 (100000) ∈ wsX9_lateCost := by decide +kernel
theorem fk_X9_lateCost_2 : Cond.fieldLink RX9 47 "PostedAsks" "weeks" "LPostedAsks$Weeks;" ∈ wsX9_lateCost := by decide +kernel
def f_X9_lateCost (v_x_trace : Int64) (v_we_many : Int32) : Option (Int32 × Int64) :=
  (f_X9_askingCost (v_x_trace + (100000 : Int64))).bind fun u_1 =>
  some ((u_1.1 + v_we_many), u_1.2)
set_option maxHeartbeats 4000000 in
set_option maxRecDepth 100000 in
theorem w_X9_lateCost_b0 {l : Launch} {D : va_G} {cI cJ : ClassId} {g : pa_GT} {a_x a_la a_te a_ha a_as a_lo a_we a_wh a_ho a_fr a_pr : Nat} {A : Nat → Prop} {p : Program} {e : Env} {s : State} {m : MethodId} {args : Array Value} {below : List Frame} {meth : Method} {c : Code} {v_x_trace : Int64} {v_we_many : Int32}  {o : Int32 × Int64} (X : pa_X cX9_lateCost 1 (some .int) RX9 wsX9_lateCost D cI cJ g A p s m args meth c)  (hf : f_X9_lateCost v_x_trace v_we_many = some o) {H : Heap} {locs : List Loc} (hP : va_P D vwCl (wo_X9_lateCost cI cJ a_x a_la a_te a_ha a_as a_lo a_we a_wh a_ho a_fr a_pr v_x_trace v_we_many) H) (hD : va_D A (wo_X9_lateCost cI cJ a_x a_la a_te a_ha a_as a_lo a_we a_wh a_ho a_fr a_pr v_x_trace v_we_many)) (hS : va_S A s.heap H locs) {ls : Array Slot} (hl : lv_has ls 1 [(0, .ref a_x)]) : W p l e (headSpec wsX9_lateCost rm_X9_lateCost).room s m args below meth c H locs 0 0 (MQ below (va_Qi (fun r (_ : Unit) => r = o.1) (pa_QB D A (wo_X9_lateCost cI cJ a_x a_la a_te a_ha a_as a_lo a_we a_wh a_ho a_fr a_pr o.2 v_we_many)) A) args s 0 0 A) (F0 m 0 ls []) := by
  obtain ⟨hx, hb, hr, hml, hown, hts, hK, hA, hG, hlk⟩ := id X
  delta f_X9_lateCost at hf
  refine lv_aload_n hx hb dX9_lateCost_0 rfl (lv_at hl 0 rfl) ?_
  refine lv_dup hx hb dX9_lateCost_1 rfl ?_
  refine va_get (D := D) (ci := 8) (v := .long v_x_trace) (C := RX9) (T := TX9) (N := 10) hx hb hts il_X9_lateCost_X9 hown hK hP 0 rfl rfl 9 (by decide) (hts _ fk_X9_lateCost_0) (fun _ h9 => h9) rfl dX9_lateCost_2 ?_
  refine lv_ldc2 (v := (100000 : Int64)) hx hb hown (hts _ fk_X9_lateCost_1) dX9_lateCost_5 ?_
  refine lv_ladd hx hb dX9_lateCost_8 ?_
  refine va_put (D := D) (ci := 8) (v := .long (v_x_trace + (100000 : Int64))) (ty := .long) (C := RX9) (T := TX9) (N := 10) hx hb hts il_X9_lateCost_X9 tyX9 tyX9_ok nmX9 hown hK hP hD hS 0 rfl rfl 9 (by decide) (hts _ fk_X9_lateCost_0) (fun _ h9 => h9) rfl (tyX9_ok 9 (by decide)) rfl rfl (Nat.le_of_ble_eq_true rfl) dX9_lateCost_9 (fun H locs hP hD hS => ?_)
  have hP : va_P D vwCl (wo_X9_lateCost cI cJ a_x a_la a_te a_ha a_as a_lo a_we a_wh a_ho a_fr a_pr (v_x_trace + (100000 : Int64)) v_we_many) H := hP
  have hD : va_D A (wo_X9_lateCost cI cJ a_x a_la a_te a_ha a_as a_lo a_we a_wh a_ho a_fr a_pr (v_x_trace + (100000 : Int64)) v_we_many) := hD
  refine lv_aload_n hx hb dX9_lateCost_12 rfl (lv_at hl 0 rfl) ?_
  obtain ⟨u_1, hg_2, hf⟩ := pa_bd hf
  refine pa_ki (wc := (wo_X9_askingCost cI cJ a_x a_la a_te a_ha a_as a_lo a_we a_ho a_fr a_pr (v_x_trace + (100000 : Int64)))) (wr := [(a_we, .inr (7, [.ref a_wh, .int v_we_many]))]) (w1 := (wo_X9_askingCost cI cJ a_x a_la a_te a_ha a_as a_lo a_we a_ho a_fr a_pr u_1.2)) (w2 := (wo_X9_lateCost cI cJ a_x a_la a_te a_ha a_as a_lo a_we a_wh a_ho a_fr a_pr u_1.2 v_we_many)) X hP hD hS [0] [1] [1, 0] rfl (pa_rV (As := []) (rest := []) (T := TX9) X hP hD hS [0] rfl rfl (c_X9_askingCost hg_2 H.size) (cwV 0 hts gX9_lateCost_X9_askingCost rfl rfl rfl (by decide +kernel) ⟨Nat.le_of_ble_eq_true rfl, Nat.le_of_ble_eq_true rfl⟩) (q0 := 0) rfl rfl rfl hl.1 rfl (Nat.le_of_ble_eq_true rfl) dX9_lateCost_13 ⟨Nat.zero_le _, Nat.zero_le _⟩) rfl rfl (by decide) rfl rfl (fun H locs hP hD hS => ?_)
  refine lv_aload_n hx hb dX9_lateCost_16 rfl (lv_at hl 0 rfl) ?_
  refine va_get (D := D) (ci := 8) (v := .ref a_we) (C := RX9) (T := TX9) (N := 10) hx hb hts il_X9_lateCost_X9 hown hK hP 0 rfl rfl 5 (by decide) (hts _ fk_X9_lateCost_2) (fun _ h9 => h9) rfl dX9_lateCost_17 ?_
  refine va_getN (D := D) (ci := 7) (v := .int v_we_many) (C := RX8) (T := TX8) (N := 2) hx hb hts il_X9_lateCost_X8 hown hK hP 1 rfl rfl 1 (by decide) (va_Nw.use rfl (hG.1 _ (List.mem_of_getElem? (i := 12) rfl))) (fun _ h9 => h9) rfl dX9_lateCost_20 ?_
  refine lv_iadd hx hb dX9_lateCost_23 ?_
  obtain rfl := Option.some.inj hf
  exact pa_ei X hP hD hS dX9_lateCost_24
set_option maxHeartbeats 4000000 in
set_option maxRecDepth 100000 in
theorem c_X9_lateCost {l : Launch} {D : va_G} {cI cJ : ClassId} {g : pa_GT} {a_x a_la a_te a_ha a_as a_lo a_we a_wh a_ho a_fr a_pr : Nat}  {v_x_trace : Int64} {v_we_many : Int32} {o : Int32 × Int64} (hf : f_X9_lateCost v_x_trace v_we_many = some o) : pa_Mi l yX9_lateCost wsX9_lateCost rm_X9_lateCost D cI cJ g [.ref a_x] (wo_X9_lateCost cI cJ a_x a_la a_te a_ha a_as a_lo a_we a_wh a_ho a_fr a_pr v_x_trace v_we_many) (wo_X9_lateCost cI cJ a_x a_la a_te a_ha a_as a_lo a_we a_wh a_ho a_fr a_pr o.2 v_we_many) o.1 := by
  intro sz
  refine pa_met (cc := cX9_lateCost) (maxL := 1) (ret := (some .int)) (lv := [(0, .ref a_x)]) (by decide) rfl (Nat.le_of_ble_eq_true rfl) rfl ?_
  intro p e s m below meth c X hsz hP hD ls hl
  subst hsz
  exact w_X9_lateCost_b0 X hf hP hD va_S.rf hl
abbrev wo_X9_shadowCost (cI cJ : ClassId) (a_x a_la a_lc a_lr a_te a_ha a_as a_lo a_we a_ho a_fr a_pr : Nat) (v_x_trace : Int64) (v_lc : Nat → Int32) (v_pr : Nat → Int32) : va_W := [(a_x, .inr (8, [.ref a_la, .ref a_te, .ref a_ha, .ref a_as, .ref a_lo, .ref a_we, .ref a_ho, .ref a_fr, .ref a_pr, .long v_x_trace])), (a_la, .inr (4, [.ref a_lc, .ref a_lr])), (a_lc, .inl (cI, 32, .inl v_lc)), (a_pr, .inl (cI, 3, .inl v_pr))]
abbrev rm_X9_shadowCost : Room := { frames := 5, cells := 0, slots := 0, locals := 111 }
theorem il_X9_shadowCost_X9 : ∀ w ∈ wsX90, w ∈ wsX9_shadowCost := by decide +kernel
theorem fk_X9_shadowCost_0 : Cond.fieldLink RX9 69 "PostedAsks" "trace" "J" ∈ wsX9_shadowCost := by decide +kernel
theorem fk_X9_shadowCost_1 : Cond.constantLong RX9 297 (1000000) ∈ wsX9_shadowCost := by decide +kernel
def f_X9_shadowCost (x1 : Int32) (v_x_trace : Int64) (v_lc : Nat → Int32) (v_pr : Nat → Int32) : Option (Int32 × Int64) :=
  (f_X9_postedCost x1 (v_x_trace + (1000000 : Int64)) v_lc v_pr).bind fun u_1 =>
  some (((u_1.1 + (9 : Int32)) / (10 : Int32)), u_1.2)
set_option maxHeartbeats 4000000 in
set_option maxRecDepth 100000 in
theorem w_X9_shadowCost_b0 {l : Launch} {D : va_G} {cI cJ : ClassId} {g : pa_GT} {a_x a_la a_lc a_lr a_te a_ha a_as a_lo a_we a_ho a_fr a_pr : Nat} {A : Nat → Prop} {p : Program} {e : Env} {s : State} {m : MethodId} {args : Array Value} {below : List Frame} {meth : Method} {c : Code} {x1 : Int32} {v_x_trace : Int64} {v_lc : Nat → Int32} {v_pr : Nat → Int32}  {o : Int32 × Int64} (X : pa_X cX9_shadowCost 2 (some .int) RX9 wsX9_shadowCost D cI cJ g A p s m args meth c)  (hf : f_X9_shadowCost x1 v_x_trace v_lc v_pr = some o) {H : Heap} {locs : List Loc} (hP : va_P D vwCl (wo_X9_shadowCost cI cJ a_x a_la a_lc a_lr a_te a_ha a_as a_lo a_we a_ho a_fr a_pr v_x_trace v_lc v_pr) H) (hD : va_D A (wo_X9_shadowCost cI cJ a_x a_la a_lc a_lr a_te a_ha a_as a_lo a_we a_ho a_fr a_pr v_x_trace v_lc v_pr)) (hS : va_S A s.heap H locs) {ls : Array Slot} (hl : lv_has ls 2 [(0, .ref a_x), (1, .int x1)]) : W p l e (headSpec wsX9_shadowCost rm_X9_shadowCost).room s m args below meth c H locs 0 0 (MQ below (va_Qi (fun r (_ : Unit) => r = o.1) (pa_QB D A (wo_X9_shadowCost cI cJ a_x a_la a_lc a_lr a_te a_ha a_as a_lo a_we a_ho a_fr a_pr o.2 v_lc v_pr)) A) args s 0 0 A) (F0 m 0 ls []) := by
  obtain ⟨hx, hb, hr, hml, hown, hts, hK, hA, hG, hlk⟩ := id X
  delta f_X9_shadowCost at hf
  refine lv_aload_n hx hb dX9_shadowCost_0 rfl (lv_at hl 0 rfl) ?_
  refine lv_dup hx hb dX9_shadowCost_1 rfl ?_
  refine va_get (D := D) (ci := 8) (v := .long v_x_trace) (C := RX9) (T := TX9) (N := 10) hx hb hts il_X9_shadowCost_X9 hown hK hP 0 rfl rfl 9 (by decide) (hts _ fk_X9_shadowCost_0) (fun _ h9 => h9) rfl dX9_shadowCost_2 ?_
  refine lv_ldc2 (v := (1000000 : Int64)) hx hb hown (hts _ fk_X9_shadowCost_1) dX9_shadowCost_5 ?_
  refine lv_ladd hx hb dX9_shadowCost_8 ?_
  refine va_put (D := D) (ci := 8) (v := .long (v_x_trace + (1000000 : Int64))) (ty := .long) (C := RX9) (T := TX9) (N := 10) hx hb hts il_X9_shadowCost_X9 tyX9 tyX9_ok nmX9 hown hK hP hD hS 0 rfl rfl 9 (by decide) (hts _ fk_X9_shadowCost_0) (fun _ h9 => h9) rfl (tyX9_ok 9 (by decide)) rfl rfl (Nat.le_of_ble_eq_true rfl) dX9_shadowCost_9 (fun H locs hP hD hS => ?_)
  have hP : va_P D vwCl (wo_X9_shadowCost cI cJ a_x a_la a_lc a_lr a_te a_ha a_as a_lo a_we a_ho a_fr a_pr (v_x_trace + (1000000 : Int64)) v_lc v_pr) H := hP
  have hD : va_D A (wo_X9_shadowCost cI cJ a_x a_la a_lc a_lr a_te a_ha a_as a_lo a_we a_ho a_fr a_pr (v_x_trace + (1000000 : Int64)) v_lc v_pr) := hD
  refine lv_aload_n hx hb dX9_shadowCost_12 rfl (lv_at hl 0 rfl) ?_
  refine lv_iload_n hx hb dX9_shadowCost_13 rfl (lv_at hl 1 rfl) ?_
  obtain ⟨u_1, hg_2, hf⟩ := pa_bd hf
  refine pa_ki (wc := (wo_X9_postedCost cI cJ a_x a_la a_lc a_lr a_te a_ha a_as a_lo a_we a_ho a_fr a_pr (v_x_trace + (1000000 : Int64)) v_lc v_pr)) (wr := ([] : va_W)) (w1 := (wo_X9_postedCost cI cJ a_x a_la a_lc a_lr a_te a_ha a_as a_lo a_we a_ho a_fr a_pr u_1.2 v_lc v_pr)) (w2 := (wo_X9_shadowCost cI cJ a_x a_la a_lc a_lr a_te a_ha a_as a_lo a_we a_ho a_fr a_pr u_1.2 v_lc v_pr)) X hP hD hS [0, 1, 2, 3] [] [0, 1, 2, 3] rfl (pa_rV (As := [.int x1]) (rest := []) (T := TX9) X hP hD hS [0, 1, 2, 3] rfl rfl (c_X9_postedCost hg_2 H.size) (cwV 1 hts gX9_shadowCost_X9_postedCost rfl rfl rfl (by decide +kernel) ⟨Nat.le_of_ble_eq_true rfl, Nat.le_of_ble_eq_true rfl⟩) (q0 := 0) rfl rfl rfl hl.1 rfl (Nat.le_of_ble_eq_true rfl) dX9_shadowCost_14 ⟨Nat.zero_le _, Nat.zero_le _⟩) rfl rfl (by decide) rfl rfl (fun H locs hP hD hS => ?_)
  refine lv_bipush (v := (9 : Int32)) hx hb dX9_shadowCost_17 (by decide) ?_
  refine lv_iadd hx hb dX9_shadowCost_19 ?_
  refine lv_bipush (v := (10 : Int32)) hx hb dX9_shadowCost_20 (by decide) ?_
  refine lv_idiv hx hb dX9_shadowCost_22 (by decide) ?_
  obtain rfl := Option.some.inj hf
  exact pa_ei X hP hD hS dX9_shadowCost_23
set_option maxHeartbeats 4000000 in
set_option maxRecDepth 100000 in
theorem c_X9_shadowCost {l : Launch} {D : va_G} {cI cJ : ClassId} {g : pa_GT} {a_x a_la a_lc a_lr a_te a_ha a_as a_lo a_we a_ho a_fr a_pr : Nat} {x1 : Int32} {v_x_trace : Int64} {v_lc : Nat → Int32} {v_pr : Nat → Int32} {o : Int32 × Int64} (hf : f_X9_shadowCost x1 v_x_trace v_lc v_pr = some o) : pa_Mi l yX9_shadowCost wsX9_shadowCost rm_X9_shadowCost D cI cJ g [.ref a_x, .int x1] (wo_X9_shadowCost cI cJ a_x a_la a_lc a_lr a_te a_ha a_as a_lo a_we a_ho a_fr a_pr v_x_trace v_lc v_pr) (wo_X9_shadowCost cI cJ a_x a_la a_lc a_lr a_te a_ha a_as a_lo a_we a_ho a_fr a_pr o.2 v_lc v_pr) o.1 := by
  intro sz
  refine pa_met (cc := cX9_shadowCost) (maxL := 2) (ret := (some .int)) (lv := [(0, .ref a_x), (1, .int x1)]) (by decide) rfl (Nat.le_of_ble_eq_true rfl) rfl ?_
  intro p e s m below meth c X hsz hP hD ls hl
  subst hsz
  exact w_X9_shadowCost_b0 X hf hP hD va_S.rf hl
abbrev wo_X9_cost (cI cJ : ClassId) (a_x a_la a_lc a_lr a_te a_ha a_hp a_hl a_hq a_hm a_as a_lo a_we a_wh a_ho a_fr a_pr : Nat) (v_x_trace : Int64) (v_lc : Nat → Int32) (v_ha_finds : Int32) (v_we_many : Int32) (v_pr : Nat → Int32) : va_W := [(a_x, .inr (8, [.ref a_la, .ref a_te, .ref a_ha, .ref a_as, .ref a_lo, .ref a_we, .ref a_ho, .ref a_fr, .ref a_pr, .long v_x_trace])), (a_la, .inr (4, [.ref a_lc, .ref a_lr])), (a_lc, .inl (cI, 32, .inl v_lc)), (a_ha, .inr (2, [.ref a_hp, .ref a_hl, .ref a_hq, .ref a_hm, .int v_ha_finds])), (a_we, .inr (7, [.ref a_wh, .int v_we_many])), (a_pr, .inl (cI, 3, .inl v_pr))]
abbrev rm_X9_cost : Room := { frames := 6, cells := 0, slots := 0, locals := 132 }
def f_X9_cost (x1 : Int32) (x2 : Int32) (v_x_trace : Int64) (v_lc : Nat → Int32) (v_ha_finds : Int32) (v_we_many : Int32) (v_pr : Nat → Int32) : Option (Int32 × Int64) :=
  (f_X9_isLand x2).bind fun u_1 =>
  if u_1 = 0 then
    some ((-1 : Int32), v_x_trace)
  else
    if x1 = (0 : Int32) then
      (f_X9_askingCost v_x_trace).bind fun u_5 =>
      some (u_5.1, u_5.2)
    else
      if x1 = (1 : Int32) then
        (f_X9_postedCost x2 v_x_trace v_lc v_pr).bind fun u_8 =>
        some (u_8.1, u_8.2)
      else
        if x1 = (2 : Int32) then
          (f_X9_quotaCost v_x_trace v_ha_finds).bind fun u_11 =>
          some (u_11.1, u_11.2)
        else
          if x1 = (3 : Int32) then
            (f_X9_lotCost x2 v_x_trace v_lc v_pr).bind fun u_14 =>
            some (u_14.1, u_14.2)
          else
            if x1 = (4 : Int32) then
              (f_X9_calledCost x2 v_x_trace v_lc v_pr).bind fun u_17 =>
              some (u_17.1, u_17.2)
            else
              if x1 = (5 : Int32) then
                (f_X9_lateCost v_x_trace v_we_many).bind fun u_20 =>
                some (u_20.1, u_20.2)
              else
                if x1 = (6 : Int32) then
                  (f_X9_shadowCost x2 v_x_trace v_lc v_pr).bind fun u_23 =>
                  some (u_23.1, u_23.2)
                else
                  some ((-1 : Int32), v_x_trace)
set_option maxHeartbeats 4000000 in
set_option maxRecDepth 100000 in
theorem w_X9_cost_b0 {l : Launch} {D : va_G} {cI cJ : ClassId} {g : pa_GT} {a_x a_la a_lc a_lr a_te a_ha a_hp a_hl a_hq a_hm a_as a_lo a_we a_wh a_ho a_fr a_pr : Nat} {A : Nat → Prop} {p : Program} {e : Env} {s : State} {m : MethodId} {args : Array Value} {below : List Frame} {meth : Method} {c : Code} {x1 : Int32} {x2 : Int32} {v_x_trace : Int64} {v_lc : Nat → Int32} {v_ha_finds : Int32} {v_we_many : Int32} {v_pr : Nat → Int32}  {o : Int32 × Int64} (X : pa_X cX9_cost 3 (some .int) RX9 wsX9_cost D cI cJ g A p s m args meth c)  (hf : f_X9_cost x1 x2 v_x_trace v_lc v_ha_finds v_we_many v_pr = some o) {H : Heap} {locs : List Loc} (hP : va_P D vwCl (wo_X9_cost cI cJ a_x a_la a_lc a_lr a_te a_ha a_hp a_hl a_hq a_hm a_as a_lo a_we a_wh a_ho a_fr a_pr v_x_trace v_lc v_ha_finds v_we_many v_pr) H) (hD : va_D A (wo_X9_cost cI cJ a_x a_la a_lc a_lr a_te a_ha a_hp a_hl a_hq a_hm a_as a_lo a_we a_wh a_ho a_fr a_pr v_x_trace v_lc v_ha_finds v_we_many v_pr)) (hS : va_S A s.heap H locs) {ls : Array Slot} (hl : lv_has ls 3 [(0, .ref a_x), (1, .int x1), (2, .int x2)]) : W p l e (headSpec wsX9_cost rm_X9_cost).room s m args below meth c H locs 0 0 (MQ below (va_Qi (fun r (_ : Unit) => r = o.1) (pa_QB D A (wo_X9_cost cI cJ a_x a_la a_lc a_lr a_te a_ha a_hp a_hl a_hq a_hm a_as a_lo a_we a_wh a_ho a_fr a_pr o.2 v_lc v_ha_finds v_we_many v_pr)) A) args s 0 0 A) (F0 m 0 ls []) := by
  obtain ⟨hx, hb, hr, hml, hown, hts, hK, hA, hG, hlk⟩ := id X
  delta f_X9_cost at hf
  refine lv_iload_n hx hb dX9_cost_0 rfl (lv_at hl 2 rfl) ?_
  obtain ⟨u_1, hg_2, hf⟩ := pa_bd hf
  refine pa_ki (wc := ([] : va_W)) (wr := [(a_x, .inr (8, [.ref a_la, .ref a_te, .ref a_ha, .ref a_as, .ref a_lo, .ref a_we, .ref a_ho, .ref a_fr, .ref a_pr, .long v_x_trace])), (a_la, .inr (4, [.ref a_lc, .ref a_lr])), (a_lc, .inl (cI, 32, .inl v_lc)), (a_ha, .inr (2, [.ref a_hp, .ref a_hl, .ref a_hq, .ref a_hm, .int v_ha_finds])), (a_we, .inr (7, [.ref a_wh, .int v_we_many])), (a_pr, .inl (cI, 3, .inl v_pr))]) (w1 := ([] : va_W)) (w2 := (wo_X9_cost cI cJ a_x a_la a_lc a_lr a_te a_ha a_hp a_hl a_hq a_hm a_as a_lo a_we a_wh a_ho a_fr a_pr v_x_trace v_lc v_ha_finds v_we_many v_pr)) X hP hD hS [] [0, 1, 2, 3, 4, 5] [0, 1, 2, 3, 4, 5] rfl (pa_rS (As := [.int x2]) (rest := []) X hP hD hS [] rfl rfl (c_X9_isLand hg_2 H.size) (va_cwS 1 hts gX9_cost_X9_isLand rfl rfl rfl (by decide +kernel) ⟨Nat.le_of_ble_eq_true rfl, Nat.le_of_ble_eq_true rfl⟩) rfl hl.1 rfl (Nat.le_of_ble_eq_true rfl) dX9_cost_1 ⟨Nat.zero_le _, Nat.zero_le _⟩) rfl rfl (by decide) rfl rfl (fun H locs hP hD hS => ?_)
  refine lv_if_ne (tgt := 9) hx hb dX9_cost_4 (by decide) (fun c_3 => ?_) (fun c_3 => ?_)
  · have hf := (if_neg c_3).symm.trans hf
    refine lv_iload_n hx hb dX9_cost_9 rfl (lv_at hl 1 rfl) ?_
    by_cases c_4 : x1 = (0 : Int32)
    · have hf := (if_pos c_4).symm.trans hf
      refine lv_tableIn (tgt := 52) (off := 42) hx hb dX9_cost_10 (by rw [c_4]; decide) (by rw [c_4]; decide) (by rw [c_4]; decide) (by decide) ?_
      refine lv_aload_n hx hb dX9_cost_52 rfl (lv_at hl 0 rfl) ?_
      obtain ⟨u_5, hg_6, hf⟩ := pa_bd hf
      refine pa_ki (wc := (wo_X9_askingCost cI cJ a_x a_la a_te a_ha a_as a_lo a_we a_ho a_fr a_pr v_x_trace)) (wr := [(a_la, .inr (4, [.ref a_lc, .ref a_lr])), (a_lc, .inl (cI, 32, .inl v_lc)), (a_ha, .inr (2, [.ref a_hp, .ref a_hl, .ref a_hq, .ref a_hm, .int v_ha_finds])), (a_we, .inr (7, [.ref a_wh, .int v_we_many])), (a_pr, .inl (cI, 3, .inl v_pr))]) (w1 := (wo_X9_askingCost cI cJ a_x a_la a_te a_ha a_as a_lo a_we a_ho a_fr a_pr u_5.2)) (w2 := (wo_X9_cost cI cJ a_x a_la a_lc a_lr a_te a_ha a_hp a_hl a_hq a_hm a_as a_lo a_we a_wh a_ho a_fr a_pr u_5.2 v_lc v_ha_finds v_we_many v_pr)) X hP hD hS [0] [1, 2, 3, 4, 5] [5, 0, 1, 2, 3, 4] rfl (pa_rV (As := []) (rest := []) (T := TX9) X hP hD hS [0] rfl rfl (c_X9_askingCost hg_6 H.size) (cwV 0 hts gX9_cost_X9_askingCost rfl rfl rfl (by decide +kernel) ⟨Nat.le_of_ble_eq_true rfl, Nat.le_of_ble_eq_true rfl⟩) (q0 := 0) rfl rfl rfl hl.1 rfl (Nat.le_of_ble_eq_true rfl) dX9_cost_53 ⟨Nat.zero_le _, Nat.zero_le _⟩) rfl rfl (by decide) rfl rfl (fun H locs hP hD hS => ?_)
      obtain rfl := Option.some.inj hf
      exact pa_ei X hP hD hS dX9_cost_56
    · have hf := (if_neg c_4).symm.trans hf
      by_cases c_7 : x1 = (1 : Int32)
      · have hf := (if_pos c_7).symm.trans hf
        refine lv_tableIn (tgt := 57) (off := 47) hx hb dX9_cost_10 (by rw [c_7]; decide) (by rw [c_7]; decide) (by rw [c_7]; decide) (by decide) ?_
        refine lv_aload_n hx hb dX9_cost_57 rfl (lv_at hl 0 rfl) ?_
        refine lv_iload_n hx hb dX9_cost_58 rfl (lv_at hl 2 rfl) ?_
        obtain ⟨u_8, hg_9, hf⟩ := pa_bd hf
        refine pa_ki (wc := (wo_X9_postedCost cI cJ a_x a_la a_lc a_lr a_te a_ha a_as a_lo a_we a_ho a_fr a_pr v_x_trace v_lc v_pr)) (wr := [(a_ha, .inr (2, [.ref a_hp, .ref a_hl, .ref a_hq, .ref a_hm, .int v_ha_finds])), (a_we, .inr (7, [.ref a_wh, .int v_we_many]))]) (w1 := (wo_X9_postedCost cI cJ a_x a_la a_lc a_lr a_te a_ha a_as a_lo a_we a_ho a_fr a_pr u_8.2 v_lc v_pr)) (w2 := (wo_X9_cost cI cJ a_x a_la a_lc a_lr a_te a_ha a_hp a_hl a_hq a_hm a_as a_lo a_we a_wh a_ho a_fr a_pr u_8.2 v_lc v_ha_finds v_we_many v_pr)) X hP hD hS [0, 1, 2, 5] [3, 4] [2, 3, 4, 0, 1, 5] rfl (pa_rV (As := [.int x2]) (rest := []) (T := TX9) X hP hD hS [0, 1, 2, 5] rfl rfl (c_X9_postedCost hg_9 H.size) (cwV 1 hts gX9_cost_X9_postedCost rfl rfl rfl (by decide +kernel) ⟨Nat.le_of_ble_eq_true rfl, Nat.le_of_ble_eq_true rfl⟩) (q0 := 0) rfl rfl rfl hl.1 rfl (Nat.le_of_ble_eq_true rfl) dX9_cost_59 ⟨Nat.zero_le _, Nat.zero_le _⟩) rfl rfl (by decide) rfl rfl (fun H locs hP hD hS => ?_)
        obtain rfl := Option.some.inj hf
        exact pa_ei X hP hD hS dX9_cost_62
      · have hf := (if_neg c_7).symm.trans hf
        by_cases c_10 : x1 = (2 : Int32)
        · have hf := (if_pos c_10).symm.trans hf
          refine lv_tableIn (tgt := 63) (off := 53) hx hb dX9_cost_10 (by rw [c_10]; decide) (by rw [c_10]; decide) (by rw [c_10]; decide) (by decide) ?_
          refine lv_aload_n hx hb dX9_cost_63 rfl (lv_at hl 0 rfl) ?_
          obtain ⟨u_11, hg_12, hf⟩ := pa_bd hf
          refine pa_ki (wc := (wo_X9_quotaCost cI cJ a_x a_la a_te a_ha a_hp a_hl a_hq a_hm a_as a_lo a_we a_ho a_fr a_pr v_x_trace v_ha_finds)) (wr := [(a_la, .inr (4, [.ref a_lc, .ref a_lr])), (a_lc, .inl (cI, 32, .inl v_lc)), (a_we, .inr (7, [.ref a_wh, .int v_we_many])), (a_pr, .inl (cI, 3, .inl v_pr))]) (w1 := (wo_X9_quotaCost cI cJ a_x a_la a_te a_ha a_hp a_hl a_hq a_hm a_as a_lo a_we a_ho a_fr a_pr u_11.2 v_ha_finds)) (w2 := (wo_X9_cost cI cJ a_x a_la a_lc a_lr a_te a_ha a_hp a_hl a_hq a_hm a_as a_lo a_we a_wh a_ho a_fr a_pr u_11.2 v_lc v_ha_finds v_we_many v_pr)) X hP hD hS [0, 3] [1, 2, 4, 5] [4, 0, 1, 5, 2, 3] rfl (pa_rV (As := []) (rest := []) (T := TX9) X hP hD hS [0, 3] rfl rfl (c_X9_quotaCost hg_12 H.size) (cwV 0 hts gX9_cost_X9_quotaCost rfl rfl rfl (by decide +kernel) ⟨Nat.le_of_ble_eq_true rfl, Nat.le_of_ble_eq_true rfl⟩) (q0 := 0) rfl rfl rfl hl.1 rfl (Nat.le_of_ble_eq_true rfl) dX9_cost_64 ⟨Nat.zero_le _, Nat.zero_le _⟩) rfl rfl (by decide) rfl rfl (fun H locs hP hD hS => ?_)
          obtain rfl := Option.some.inj hf
          exact pa_ei X hP hD hS dX9_cost_67
        · have hf := (if_neg c_10).symm.trans hf
          by_cases c_13 : x1 = (3 : Int32)
          · have hf := (if_pos c_13).symm.trans hf
            refine lv_tableIn (tgt := 68) (off := 58) hx hb dX9_cost_10 (by rw [c_13]; decide) (by rw [c_13]; decide) (by rw [c_13]; decide) (by decide) ?_
            refine lv_aload_n hx hb dX9_cost_68 rfl (lv_at hl 0 rfl) ?_
            refine lv_iload_n hx hb dX9_cost_69 rfl (lv_at hl 2 rfl) ?_
            obtain ⟨u_14, hg_15, hf⟩ := pa_bd hf
            refine pa_ki (wc := (wo_X9_lotCost cI cJ a_x a_la a_lc a_lr a_te a_ha a_as a_lo a_we a_ho a_fr a_pr v_x_trace v_lc v_pr)) (wr := [(a_ha, .inr (2, [.ref a_hp, .ref a_hl, .ref a_hq, .ref a_hm, .int v_ha_finds])), (a_we, .inr (7, [.ref a_wh, .int v_we_many]))]) (w1 := (wo_X9_lotCost cI cJ a_x a_la a_lc a_lr a_te a_ha a_as a_lo a_we a_ho a_fr a_pr u_14.2 v_lc v_pr)) (w2 := (wo_X9_cost cI cJ a_x a_la a_lc a_lr a_te a_ha a_hp a_hl a_hq a_hm a_as a_lo a_we a_wh a_ho a_fr a_pr u_14.2 v_lc v_ha_finds v_we_many v_pr)) X hP hD hS [0, 1, 2, 5] [3, 4] [2, 3, 4, 0, 1, 5] rfl (pa_rV (As := [.int x2]) (rest := []) (T := TX9) X hP hD hS [0, 1, 2, 5] rfl rfl (c_X9_lotCost hg_15 H.size) (cwV 1 hts gX9_cost_X9_lotCost rfl rfl rfl (by decide +kernel) ⟨Nat.le_of_ble_eq_true rfl, Nat.le_of_ble_eq_true rfl⟩) (q0 := 0) rfl rfl rfl hl.1 rfl (Nat.le_of_ble_eq_true rfl) dX9_cost_70 ⟨Nat.zero_le _, Nat.zero_le _⟩) rfl rfl (by decide) rfl rfl (fun H locs hP hD hS => ?_)
            obtain rfl := Option.some.inj hf
            exact pa_ei X hP hD hS dX9_cost_73
          · have hf := (if_neg c_13).symm.trans hf
            by_cases c_16 : x1 = (4 : Int32)
            · have hf := (if_pos c_16).symm.trans hf
              refine lv_tableIn (tgt := 74) (off := 64) hx hb dX9_cost_10 (by rw [c_16]; decide) (by rw [c_16]; decide) (by rw [c_16]; decide) (by decide) ?_
              refine lv_aload_n hx hb dX9_cost_74 rfl (lv_at hl 0 rfl) ?_
              refine lv_iload_n hx hb dX9_cost_75 rfl (lv_at hl 2 rfl) ?_
              obtain ⟨u_17, hg_18, hf⟩ := pa_bd hf
              refine pa_ki (wc := (wo_X9_calledCost cI cJ a_x a_la a_lc a_lr a_te a_ha a_as a_lo a_we a_ho a_fr a_pr v_x_trace v_lc v_pr)) (wr := [(a_ha, .inr (2, [.ref a_hp, .ref a_hl, .ref a_hq, .ref a_hm, .int v_ha_finds])), (a_we, .inr (7, [.ref a_wh, .int v_we_many]))]) (w1 := (wo_X9_calledCost cI cJ a_x a_la a_lc a_lr a_te a_ha a_as a_lo a_we a_ho a_fr a_pr u_17.2 v_lc v_pr)) (w2 := (wo_X9_cost cI cJ a_x a_la a_lc a_lr a_te a_ha a_hp a_hl a_hq a_hm a_as a_lo a_we a_wh a_ho a_fr a_pr u_17.2 v_lc v_ha_finds v_we_many v_pr)) X hP hD hS [0, 1, 2, 5] [3, 4] [2, 3, 4, 0, 1, 5] rfl (pa_rV (As := [.int x2]) (rest := []) (T := TX9) X hP hD hS [0, 1, 2, 5] rfl rfl (c_X9_calledCost hg_18 H.size) (cwV 1 hts gX9_cost_X9_calledCost rfl rfl rfl (by decide +kernel) ⟨Nat.le_of_ble_eq_true rfl, Nat.le_of_ble_eq_true rfl⟩) (q0 := 0) rfl rfl rfl hl.1 rfl (Nat.le_of_ble_eq_true rfl) dX9_cost_76 ⟨Nat.zero_le _, Nat.zero_le _⟩) rfl rfl (by decide) rfl rfl (fun H locs hP hD hS => ?_)
              obtain rfl := Option.some.inj hf
              exact pa_ei X hP hD hS dX9_cost_79
            · have hf := (if_neg c_16).symm.trans hf
              by_cases c_19 : x1 = (5 : Int32)
              · have hf := (if_pos c_19).symm.trans hf
                refine lv_tableIn (tgt := 80) (off := 70) hx hb dX9_cost_10 (by rw [c_19]; decide) (by rw [c_19]; decide) (by rw [c_19]; decide) (by decide) ?_
                refine lv_aload_n hx hb dX9_cost_80 rfl (lv_at hl 0 rfl) ?_
                obtain ⟨u_20, hg_21, hf⟩ := pa_bd hf
                refine pa_ki (wc := (wo_X9_lateCost cI cJ a_x a_la a_te a_ha a_as a_lo a_we a_wh a_ho a_fr a_pr v_x_trace v_we_many)) (wr := [(a_la, .inr (4, [.ref a_lc, .ref a_lr])), (a_lc, .inl (cI, 32, .inl v_lc)), (a_ha, .inr (2, [.ref a_hp, .ref a_hl, .ref a_hq, .ref a_hm, .int v_ha_finds])), (a_pr, .inl (cI, 3, .inl v_pr))]) (w1 := (wo_X9_lateCost cI cJ a_x a_la a_te a_ha a_as a_lo a_we a_wh a_ho a_fr a_pr u_20.2 v_we_many)) (w2 := (wo_X9_cost cI cJ a_x a_la a_lc a_lr a_te a_ha a_hp a_hl a_hq a_hm a_as a_lo a_we a_wh a_ho a_fr a_pr u_20.2 v_lc v_ha_finds v_we_many v_pr)) X hP hD hS [0, 4] [1, 2, 3, 5] [4, 0, 1, 2, 5, 3] rfl (pa_rV (As := []) (rest := []) (T := TX9) X hP hD hS [0, 4] rfl rfl (c_X9_lateCost hg_21 H.size) (cwV 0 hts gX9_cost_X9_lateCost rfl rfl rfl (by decide +kernel) ⟨Nat.le_of_ble_eq_true rfl, Nat.le_of_ble_eq_true rfl⟩) (q0 := 0) rfl rfl rfl hl.1 rfl (Nat.le_of_ble_eq_true rfl) dX9_cost_81 ⟨Nat.zero_le _, Nat.zero_le _⟩) rfl rfl (by decide) rfl rfl (fun H locs hP hD hS => ?_)
                obtain rfl := Option.some.inj hf
                exact pa_ei X hP hD hS dX9_cost_84
              · have hf := (if_neg c_19).symm.trans hf
                by_cases c_22 : x1 = (6 : Int32)
                · have hf := (if_pos c_22).symm.trans hf
                  refine lv_tableIn (tgt := 85) (off := 75) hx hb dX9_cost_10 (by rw [c_22]; decide) (by rw [c_22]; decide) (by rw [c_22]; decide) (by decide) ?_
                  refine lv_aload_n hx hb dX9_cost_85 rfl (lv_at hl 0 rfl) ?_
                  refine lv_iload_n hx hb dX9_cost_86 rfl (lv_at hl 2 rfl) ?_
                  obtain ⟨u_23, hg_24, hf⟩ := pa_bd hf
                  refine pa_ki (wc := (wo_X9_shadowCost cI cJ a_x a_la a_lc a_lr a_te a_ha a_as a_lo a_we a_ho a_fr a_pr v_x_trace v_lc v_pr)) (wr := [(a_ha, .inr (2, [.ref a_hp, .ref a_hl, .ref a_hq, .ref a_hm, .int v_ha_finds])), (a_we, .inr (7, [.ref a_wh, .int v_we_many]))]) (w1 := (wo_X9_shadowCost cI cJ a_x a_la a_lc a_lr a_te a_ha a_as a_lo a_we a_ho a_fr a_pr u_23.2 v_lc v_pr)) (w2 := (wo_X9_cost cI cJ a_x a_la a_lc a_lr a_te a_ha a_hp a_hl a_hq a_hm a_as a_lo a_we a_wh a_ho a_fr a_pr u_23.2 v_lc v_ha_finds v_we_many v_pr)) X hP hD hS [0, 1, 2, 5] [3, 4] [2, 3, 4, 0, 1, 5] rfl (pa_rV (As := [.int x2]) (rest := []) (T := TX9) X hP hD hS [0, 1, 2, 5] rfl rfl (c_X9_shadowCost hg_24 H.size) (cwV 1 hts gX9_cost_X9_shadowCost rfl rfl rfl (by decide +kernel) ⟨Nat.le_of_ble_eq_true rfl, Nat.le_of_ble_eq_true rfl⟩) (q0 := 0) rfl rfl rfl hl.1 rfl (Nat.le_of_ble_eq_true rfl) dX9_cost_87 ⟨Nat.zero_le _, Nat.zero_le _⟩) rfl rfl (by decide) rfl rfl (fun H locs hP hD hS => ?_)
                  obtain rfl := Option.some.inj hf
                  exact pa_ei X hP hD hS dX9_cost_90
                · have hf := (if_neg c_22).symm.trans hf
                  refine lv_tableOut (tgt := 91) hx hb dX9_cost_10 (pa_sw7 c_4 c_7 c_10 c_13 c_16 c_19 c_22) (by decide) ?_
                  refine lv_iconst (v := (-1 : Int32)) hx hb dX9_cost_91 (by decide) ?_
                  obtain rfl := Option.some.inj hf
                  exact pa_ei X hP hD hS dX9_cost_92
  · have hf := (if_pos c_3).symm.trans hf
    refine lv_iconst (v := (-1 : Int32)) hx hb dX9_cost_7 (by decide) ?_
    obtain rfl := Option.some.inj hf
    exact pa_ei X hP hD hS dX9_cost_8
set_option maxHeartbeats 4000000 in
set_option maxRecDepth 100000 in
theorem c_X9_cost {l : Launch} {D : va_G} {cI cJ : ClassId} {g : pa_GT} {a_x a_la a_lc a_lr a_te a_ha a_hp a_hl a_hq a_hm a_as a_lo a_we a_wh a_ho a_fr a_pr : Nat} {x1 : Int32} {x2 : Int32} {v_x_trace : Int64} {v_lc : Nat → Int32} {v_ha_finds : Int32} {v_we_many : Int32} {v_pr : Nat → Int32} {o : Int32 × Int64} (hf : f_X9_cost x1 x2 v_x_trace v_lc v_ha_finds v_we_many v_pr = some o) : pa_Mi l yX9_cost wsX9_cost rm_X9_cost D cI cJ g [.ref a_x, .int x1, .int x2] (wo_X9_cost cI cJ a_x a_la a_lc a_lr a_te a_ha a_hp a_hl a_hq a_hm a_as a_lo a_we a_wh a_ho a_fr a_pr v_x_trace v_lc v_ha_finds v_we_many v_pr) (wo_X9_cost cI cJ a_x a_la a_lc a_lr a_te a_ha a_hp a_hl a_hq a_hm a_as a_lo a_we a_wh a_ho a_fr a_pr o.2 v_lc v_ha_finds v_we_many v_pr) o.1 := by
  intro sz
  refine pa_met (cc := cX9_cost) (maxL := 3) (ret := (some .int)) (lv := [(0, .ref a_x), (1, .int x1), (2, .int x2)]) (by decide) rfl (Nat.le_of_ble_eq_true rfl) rfl ?_
  intro p e s m below meth c X hsz hP hD ls hl
  subst hsz
  exact w_X9_cost_b0 X hf hP hD va_S.rf hl
abbrev wo_X9_begin (cI cJ : ClassId) (a_x a_la a_lc a_lr a_te a_ha a_as a_lo a_we a_wh a_ho a_hn a_fr a_pr : Nat) (v_x_trace : Int64) (v_lc : Nat → Int32) (v_we_many : Int32) (v_ho_rows : Int32) : va_W := [(a_x, .inr (8, [.ref a_la, .ref a_te, .ref a_ha, .ref a_as, .ref a_lo, .ref a_we, .ref a_ho, .ref a_fr, .ref a_pr, .long v_x_trace])), (a_la, .inr (4, [.ref a_lc, .ref a_lr])), (a_lc, .inl (cI, 32, .inl v_lc)), (a_we, .inr (7, [.ref a_wh, .int v_we_many])), (a_ho, .inr (3, [.ref a_hn, .int v_ho_rows]))]
abbrev rm_X9_begin : Room := { frames := 4, cells := 0, slots := 0, locals := 91 }
theorem il_X9_begin_X9 : ∀ w ∈ wsX90, w ∈ wsX9_begin := by decide +kernel
theorem fk_X9_begin_0 : Cond.fieldLink RX9 10 "PostedAsks" "lands" "LPostedAsks$Lands;" ∈ wsX9_begin := by decide +kernel
theorem fk_X9_begin_1 : Cond.fieldLink RX9 47 "PostedAsks" "weeks" "LPostedAsks$Weeks;" ∈ wsX9_begin := by decide +kernel
theorem fk_X9_begin_2 : Cond.fieldLink RX9 54 "PostedAsks" "house" "LPostedAsks$House;" ∈ wsX9_begin := by decide +kernel
def f_X9_begin (v_lc : Nat → Int32) (v_we_many : Int32) (v_ho_rows : Int32) : Option (Int32 × (Nat → Int32) × Int32 × Int32) :=
  (f_X4_everybody v_lc).bind fun u_1 =>
  (f_X4_empty v_lc).bind fun u_3 =>
  (f_X8_empty).bind fun u_5 =>
  (f_X3_empty).bind fun u_7 =>
  some (u_1, u_3, u_5, u_7)
set_option maxHeartbeats 4000000 in
set_option maxRecDepth 100000 in
theorem w_X9_begin_b0 {l : Launch} {D : va_G} {cI cJ : ClassId} {g : pa_GT} {a_x a_la a_lc a_lr a_te a_ha a_as a_lo a_we a_wh a_ho a_hn a_fr a_pr : Nat} {A : Nat → Prop} {p : Program} {e : Env} {s : State} {m : MethodId} {args : Array Value} {below : List Frame} {meth : Method} {c : Code} {v_lc : Nat → Int32} {v_we_many : Int32} {v_ho_rows : Int32} {v_x_trace : Int64} {o : Int32 × (Nat → Int32) × Int32 × Int32} (X : pa_X cX9_begin 2 (some .int) RX9 wsX9_begin D cI cJ g A p s m args meth c)  (hf : f_X9_begin v_lc v_we_many v_ho_rows = some o) {H : Heap} {locs : List Loc} (hP : va_P D vwCl (wo_X9_begin cI cJ a_x a_la a_lc a_lr a_te a_ha a_as a_lo a_we a_wh a_ho a_hn a_fr a_pr v_x_trace v_lc v_we_many v_ho_rows) H) (hD : va_D A (wo_X9_begin cI cJ a_x a_la a_lc a_lr a_te a_ha a_as a_lo a_we a_wh a_ho a_hn a_fr a_pr v_x_trace v_lc v_we_many v_ho_rows)) (hS : va_S A s.heap H locs) {ls : Array Slot} (hl : lv_has ls 2 [(0, .ref a_x)]) : W p l e (headSpec wsX9_begin rm_X9_begin).room s m args below meth c H locs 0 0 (MQ below (va_Qi (fun r (_ : Unit) => r = o.1) (pa_QB D A (wo_X9_begin cI cJ a_x a_la a_lc a_lr a_te a_ha a_as a_lo a_we a_wh a_ho a_hn a_fr a_pr v_x_trace o.2.1 o.2.2.1 o.2.2.2)) A) args s 0 0 A) (F0 m 0 ls []) := by
  obtain ⟨hx, hb, hr, hml, hown, hts, hK, hA, hG, hlk⟩ := id X
  delta f_X9_begin at hf
  refine lv_aload_n hx hb dX9_begin_0 rfl (lv_at hl 0 rfl) ?_
  refine va_get (D := D) (ci := 8) (v := .ref a_la) (C := RX9) (T := TX9) (N := 10) hx hb hts il_X9_begin_X9 hown hK hP 0 rfl rfl 0 (by decide) (hts _ fk_X9_begin_0) (fun _ h9 => h9) rfl dX9_begin_1 ?_
  obtain ⟨u_1, hg_2, hf⟩ := pa_bd hf
  refine pa_ki (wc := (wo_X4_everybody cI cJ a_la a_lc a_lr v_lc)) (wr := [(a_x, .inr (8, [.ref a_la, .ref a_te, .ref a_ha, .ref a_as, .ref a_lo, .ref a_we, .ref a_ho, .ref a_fr, .ref a_pr, .long v_x_trace])), (a_we, .inr (7, [.ref a_wh, .int v_we_many])), (a_ho, .inr (3, [.ref a_hn, .int v_ho_rows]))]) (w1 := (wo_X4_everybody cI cJ a_la a_lc a_lr v_lc)) (w2 := (wo_X9_begin cI cJ a_x a_la a_lc a_lr a_te a_ha a_as a_lo a_we a_wh a_ho a_hn a_fr a_pr v_x_trace v_lc v_we_many v_ho_rows)) X hP hD hS [1, 2] [0, 3, 4] [0, 3, 4, 1, 2] rfl (pa_rV (As := []) (rest := []) (T := TX4) X hP hD hS [1, 2] rfl rfl (c_X4_everybody hg_2 H.size) (cwV 0 hts gX9_begin_X4_everybody rfl rfl rfl (by decide +kernel) ⟨Nat.le_of_ble_eq_true rfl, Nat.le_of_ble_eq_true rfl⟩) (q0 := 1) rfl rfl rfl hl.1 rfl (Nat.le_of_ble_eq_true rfl) dX9_begin_4 ⟨Nat.zero_le _, Nat.zero_le _⟩) rfl rfl (by decide) rfl rfl (fun H locs hP hD hS => ?_)
  refine lv_istore_n (lv' := [(1, .int u_1), (0, .ref a_x)]) hx hb dX9_begin_7 rfl hl (by decide) rfl (fun ls hl => ?_)
  refine lv_aload_n hx hb dX9_begin_8 rfl (lv_at hl 1 rfl) ?_
  refine va_get (D := D) (ci := 8) (v := .ref a_la) (C := RX9) (T := TX9) (N := 10) hx hb hts il_X9_begin_X9 hown hK hP 0 rfl rfl 0 (by decide) (hts _ fk_X9_begin_0) (fun _ h9 => h9) rfl dX9_begin_9 ?_
  obtain ⟨u_3, hg_4, hf⟩ := pa_bd hf
  refine pa_kv (wc := (wo_X4_empty cI cJ a_la a_lc a_lr v_lc)) (wr := [(a_x, .inr (8, [.ref a_la, .ref a_te, .ref a_ha, .ref a_as, .ref a_lo, .ref a_we, .ref a_ho, .ref a_fr, .ref a_pr, .long v_x_trace])), (a_we, .inr (7, [.ref a_wh, .int v_we_many])), (a_ho, .inr (3, [.ref a_hn, .int v_ho_rows]))]) (w1 := (wo_X4_empty cI cJ a_la a_lc a_lr u_3)) (w2 := (wo_X9_begin cI cJ a_x a_la a_lc a_lr a_te a_ha a_as a_lo a_we a_wh a_ho a_hn a_fr a_pr v_x_trace u_3 v_we_many v_ho_rows)) X hP hD hS [1, 2] [0, 3, 4] [0, 3, 4, 1, 2] rfl (pa_rV (As := []) (rest := []) (T := TX4) X hP hD hS [1, 2] rfl rfl (c_X4_empty hg_4 H.size) (cwV 0 hts gX9_begin_X4_empty rfl rfl rfl (by decide +kernel) ⟨Nat.le_of_ble_eq_true rfl, Nat.le_of_ble_eq_true rfl⟩) (q0 := 1) rfl rfl rfl hl.1 rfl (Nat.le_of_ble_eq_true rfl) dX9_begin_12 ⟨Nat.zero_le _, Nat.zero_le _⟩) rfl rfl (by decide) rfl rfl (fun H locs hP hD hS => ?_)
  refine lv_aload_n hx hb dX9_begin_15 rfl (lv_at hl 1 rfl) ?_
  refine va_get (D := D) (ci := 8) (v := .ref a_we) (C := RX9) (T := TX9) (N := 10) hx hb hts il_X9_begin_X9 hown hK hP 0 rfl rfl 5 (by decide) (hts _ fk_X9_begin_1) (fun _ h9 => h9) rfl dX9_begin_16 ?_
  obtain ⟨u_5, hg_6, hf⟩ := pa_bd hf
  refine pa_kv (wc := (wo_X8_empty cI cJ a_we a_wh v_we_many)) (wr := [(a_x, .inr (8, [.ref a_la, .ref a_te, .ref a_ha, .ref a_as, .ref a_lo, .ref a_we, .ref a_ho, .ref a_fr, .ref a_pr, .long v_x_trace])), (a_la, .inr (4, [.ref a_lc, .ref a_lr])), (a_lc, .inl (cI, 32, .inl u_3)), (a_ho, .inr (3, [.ref a_hn, .int v_ho_rows]))]) (w1 := (wo_X8_empty cI cJ a_we a_wh u_5)) (w2 := (wo_X9_begin cI cJ a_x a_la a_lc a_lr a_te a_ha a_as a_lo a_we a_wh a_ho a_hn a_fr a_pr v_x_trace u_3 u_5 v_ho_rows)) X hP hD hS [3] [0, 1, 2, 4] [0, 1, 2, 4, 3] rfl (pa_rV (As := []) (rest := []) (T := TX8) X hP hD hS [3] rfl rfl (c_X8_empty hg_6 H.size) (cwV 0 hts gX9_begin_X8_empty rfl rfl rfl (by decide +kernel) ⟨Nat.le_of_ble_eq_true rfl, Nat.le_of_ble_eq_true rfl⟩) (q0 := 3) rfl rfl rfl hl.1 rfl (Nat.le_of_ble_eq_true rfl) dX9_begin_19 ⟨Nat.zero_le _, Nat.zero_le _⟩) rfl rfl (by decide) rfl rfl (fun H locs hP hD hS => ?_)
  refine lv_aload_n hx hb dX9_begin_22 rfl (lv_at hl 1 rfl) ?_
  refine va_get (D := D) (ci := 8) (v := .ref a_ho) (C := RX9) (T := TX9) (N := 10) hx hb hts il_X9_begin_X9 hown hK hP 0 rfl rfl 6 (by decide) (hts _ fk_X9_begin_2) (fun _ h9 => h9) rfl dX9_begin_23 ?_
  obtain ⟨u_7, hg_8, hf⟩ := pa_bd hf
  refine pa_kv (wc := (wo_X3_empty cI cJ a_ho a_hn v_ho_rows)) (wr := [(a_x, .inr (8, [.ref a_la, .ref a_te, .ref a_ha, .ref a_as, .ref a_lo, .ref a_we, .ref a_ho, .ref a_fr, .ref a_pr, .long v_x_trace])), (a_la, .inr (4, [.ref a_lc, .ref a_lr])), (a_lc, .inl (cI, 32, .inl u_3)), (a_we, .inr (7, [.ref a_wh, .int u_5]))]) (w1 := (wo_X3_empty cI cJ a_ho a_hn u_7)) (w2 := (wo_X9_begin cI cJ a_x a_la a_lc a_lr a_te a_ha a_as a_lo a_we a_wh a_ho a_hn a_fr a_pr v_x_trace u_3 u_5 u_7)) X hP hD hS [4] [0, 1, 2, 3] [0, 1, 2, 3, 4] rfl (pa_rV (As := []) (rest := []) (T := TX3) X hP hD hS [4] rfl rfl (c_X3_empty hg_8 H.size) (cwV 0 hts gX9_begin_X3_empty rfl rfl rfl (by decide +kernel) ⟨Nat.le_of_ble_eq_true rfl, Nat.le_of_ble_eq_true rfl⟩) (q0 := 4) rfl rfl rfl hl.1 rfl (Nat.le_of_ble_eq_true rfl) dX9_begin_26 ⟨Nat.zero_le _, Nat.zero_le _⟩) rfl rfl (by decide) rfl rfl (fun H locs hP hD hS => ?_)
  refine lv_iload_n hx hb dX9_begin_29 rfl (lv_at hl 0 rfl) ?_
  obtain rfl := Option.some.inj hf
  exact pa_ei X hP hD hS dX9_begin_30
set_option maxHeartbeats 4000000 in
set_option maxRecDepth 100000 in
theorem c_X9_begin {l : Launch} {D : va_G} {cI cJ : ClassId} {g : pa_GT} {a_x a_la a_lc a_lr a_te a_ha a_as a_lo a_we a_wh a_ho a_hn a_fr a_pr : Nat}  {v_x_trace : Int64} {v_lc : Nat → Int32} {v_we_many : Int32} {v_ho_rows : Int32} {o : Int32 × (Nat → Int32) × Int32 × Int32} (hf : f_X9_begin v_lc v_we_many v_ho_rows = some o) : pa_Mi l yX9_begin wsX9_begin rm_X9_begin D cI cJ g [.ref a_x] (wo_X9_begin cI cJ a_x a_la a_lc a_lr a_te a_ha a_as a_lo a_we a_wh a_ho a_hn a_fr a_pr v_x_trace v_lc v_we_many v_ho_rows) (wo_X9_begin cI cJ a_x a_la a_lc a_lr a_te a_ha a_as a_lo a_we a_wh a_ho a_hn a_fr a_pr v_x_trace o.2.1 o.2.2.1 o.2.2.2) o.1 := by
  intro sz
  refine pa_met (cc := cX9_begin) (maxL := 2) (ret := (some .int)) (lv := [(0, .ref a_x)]) (by decide) rfl (Nat.le_of_ble_eq_true rfl) rfl ?_
  intro p e s m below meth c X hsz hP hD ls hl
  subst hsz
  exact w_X9_begin_b0 X hf hP hD va_S.rf hl
abbrev wo_X9_count (cI cJ : ClassId) (a_x a_la a_lc a_lr a_te a_tb a_ha a_hp a_hl a_hq a_hm a_as a_lo a_we a_wh a_ho a_hn a_fr a_pr : Nat) (v_x_trace : Int64) (v_lc : Nat → Int32) (v_te_length : Int32) (v_te_token : Nat) (v_te_place : Int32) (v_te_end : Int32) (v_te_value : Int32) (v_ha_finds : Int32) (v_we_many : Int32) (v_ho_rows : Int32) : va_W := [(a_x, .inr (8, [.ref a_la, .ref a_te, .ref a_ha, .ref a_as, .ref a_lo, .ref a_we, .ref a_ho, .ref a_fr, .ref a_pr, .long v_x_trace])), (a_la, .inr (4, [.ref a_lc, .ref a_lr])), (a_lc, .inl (cI, 32, .inl v_lc)), (a_te, .inr (6, [.ref a_tb, .int v_te_length, .ref v_te_token, .int v_te_place, .int v_te_end, .int v_te_value])), (a_ha, .inr (2, [.ref a_hp, .ref a_hl, .ref a_hq, .ref a_hm, .int v_ha_finds])), (a_we, .inr (7, [.ref a_wh, .int v_we_many])), (a_ho, .inr (3, [.ref a_hn, .int v_ho_rows]))]
abbrev rm_X9_count : Room := { frames := 4, cells := 0, slots := 0, locals := 91 }
theorem il_X9_count_X9 : ∀ w ∈ wsX90, w ∈ wsX9_count := by decide +kernel
theorem il_X9_count_X2 : ∀ w ∈ wsX20, w ∈ wsX9_count := by decide +kernel
theorem il_X9_count_X8 : ∀ w ∈ wsX80, w ∈ wsX9_count := by decide +kernel
theorem il_X9_count_X3 : ∀ w ∈ wsX30, w ∈ wsX9_count := by decide +kernel
theorem il_X9_count_X6 : ∀ w ∈ wsX60, w ∈ wsX9_count := by decide +kernel
theorem fk_X9_count_0 : Cond.fieldLink RX9 10 "PostedAsks" "lands" "LPostedAsks$Lands;" ∈ wsX9_count := by decide +kernel
theorem fk_X9_count_1 : Cond.fieldLink RX9 26 "PostedAsks" "habit" "LPostedAsks$Habit;" ∈ wsX9_count := by decide +kernel
theorem fk_X9_count_2 : Cond.fieldLink RX9 47 "PostedAsks" "weeks" "LPostedAsks$Weeks;" ∈ wsX9_count := by decide +kernel
theorem fk_X9_count_3 : Cond.fieldLink RX9 54 "PostedAsks" "house" "LPostedAsks$House;" ∈ wsX9_count := by decide +kernel
theorem fk_X9_count_4 : Cond.fieldLink RX9 19 "PostedAsks" "text" "LPostedAsks$Text;" ∈ wsX9_count := by decide +kernel
def f_X9_count (x1 : Int32) (v_lc : Nat → Int32) (v_te_length : Int32) (v_ha_finds : Int32) (v_we_many : Int32) (v_ho_rows : Int32) : Option (Int32) :=
  if x1 = (0 : Int32) then
    (f_X4_everybody v_lc).bind fun u_2 =>
    some (u_2)
  else
    if x1 = (1 : Int32) then
      some (v_ha_finds)
    else
      if x1 = (2 : Int32) then
        some (v_we_many)
      else
        if x1 = (3 : Int32) then
          some (v_ho_rows)
        else
          if x1 = (4 : Int32) then
            some (v_te_length)
          else
            some ((-1 : Int32))
set_option maxHeartbeats 4000000 in
set_option maxRecDepth 100000 in
theorem w_X9_count_b0 {l : Launch} {D : va_G} {cI cJ : ClassId} {g : pa_GT} {a_x a_la a_lc a_lr a_te a_tb a_ha a_hp a_hl a_hq a_hm a_as a_lo a_we a_wh a_ho a_hn a_fr a_pr : Nat} {A : Nat → Prop} {p : Program} {e : Env} {s : State} {m : MethodId} {args : Array Value} {below : List Frame} {meth : Method} {c : Code} {x1 : Int32} {v_lc : Nat → Int32} {v_te_length : Int32} {v_ha_finds : Int32} {v_we_many : Int32} {v_ho_rows : Int32} {v_x_trace : Int64} {v_te_token : Nat} {v_te_place : Int32} {v_te_end : Int32} {v_te_value : Int32} {o : Int32} (X : pa_X cX9_count 2 (some .int) RX9 wsX9_count D cI cJ g A p s m args meth c)  (hf : f_X9_count x1 v_lc v_te_length v_ha_finds v_we_many v_ho_rows = some o) {H : Heap} {locs : List Loc} (hP : va_P D vwCl (wo_X9_count cI cJ a_x a_la a_lc a_lr a_te a_tb a_ha a_hp a_hl a_hq a_hm a_as a_lo a_we a_wh a_ho a_hn a_fr a_pr v_x_trace v_lc v_te_length v_te_token v_te_place v_te_end v_te_value v_ha_finds v_we_many v_ho_rows) H) (hD : va_D A (wo_X9_count cI cJ a_x a_la a_lc a_lr a_te a_tb a_ha a_hp a_hl a_hq a_hm a_as a_lo a_we a_wh a_ho a_hn a_fr a_pr v_x_trace v_lc v_te_length v_te_token v_te_place v_te_end v_te_value v_ha_finds v_we_many v_ho_rows)) (hS : va_S A s.heap H locs) {ls : Array Slot} (hl : lv_has ls 2 [(0, .ref a_x), (1, .int x1)]) : W p l e (headSpec wsX9_count rm_X9_count).room s m args below meth c H locs 0 0 (MQ below (va_Qi (fun r (_ : Unit) => r = o) (pa_QB D A (wo_X9_count cI cJ a_x a_la a_lc a_lr a_te a_tb a_ha a_hp a_hl a_hq a_hm a_as a_lo a_we a_wh a_ho a_hn a_fr a_pr v_x_trace v_lc v_te_length v_te_token v_te_place v_te_end v_te_value v_ha_finds v_we_many v_ho_rows)) A) args s 0 0 A) (F0 m 0 ls []) := by
  obtain ⟨hx, hb, hr, hml, hown, hts, hK, hA, hG, hlk⟩ := id X
  delta f_X9_count at hf
  refine lv_iload_n hx hb dX9_count_0 rfl (lv_at hl 1 rfl) ?_
  by_cases c_1 : x1 = (0 : Int32)
  · have hf := (if_pos c_1).symm.trans hf
    refine lv_tableIn (tgt := 36) (off := 35) hx hb dX9_count_1 (by rw [c_1]; decide) (by rw [c_1]; decide) (by rw [c_1]; decide) (by decide) ?_
    refine lv_aload_n hx hb dX9_count_36 rfl (lv_at hl 0 rfl) ?_
    refine va_get (D := D) (ci := 8) (v := .ref a_la) (C := RX9) (T := TX9) (N := 10) hx hb hts il_X9_count_X9 hown hK hP 0 rfl rfl 0 (by decide) (hts _ fk_X9_count_0) (fun _ h9 => h9) rfl dX9_count_37 ?_
    obtain ⟨u_2, hg_3, hf⟩ := pa_bd hf
    refine pa_ki (wc := (wo_X4_everybody cI cJ a_la a_lc a_lr v_lc)) (wr := [(a_x, .inr (8, [.ref a_la, .ref a_te, .ref a_ha, .ref a_as, .ref a_lo, .ref a_we, .ref a_ho, .ref a_fr, .ref a_pr, .long v_x_trace])), (a_te, .inr (6, [.ref a_tb, .int v_te_length, .ref v_te_token, .int v_te_place, .int v_te_end, .int v_te_value])), (a_ha, .inr (2, [.ref a_hp, .ref a_hl, .ref a_hq, .ref a_hm, .int v_ha_finds])), (a_we, .inr (7, [.ref a_wh, .int v_we_many])), (a_ho, .inr (3, [.ref a_hn, .int v_ho_rows]))]) (w1 := (wo_X4_everybody cI cJ a_la a_lc a_lr v_lc)) (w2 := (wo_X9_count cI cJ a_x a_la a_lc a_lr a_te a_tb a_ha a_hp a_hl a_hq a_hm a_as a_lo a_we a_wh a_ho a_hn a_fr a_pr v_x_trace v_lc v_te_length v_te_token v_te_place v_te_end v_te_value v_ha_finds v_we_many v_ho_rows)) X hP hD hS [1, 2] [0, 3, 4, 5, 6] [0, 5, 6, 1, 2, 3, 4] rfl (pa_rV (As := []) (rest := []) (T := TX4) X hP hD hS [1, 2] rfl rfl (c_X4_everybody hg_3 H.size) (cwV 0 hts gX9_count_X4_everybody rfl rfl rfl (by decide +kernel) ⟨Nat.le_of_ble_eq_true rfl, Nat.le_of_ble_eq_true rfl⟩) (q0 := 1) rfl rfl rfl hl.1 rfl (Nat.le_of_ble_eq_true rfl) dX9_count_40 ⟨Nat.zero_le _, Nat.zero_le _⟩) rfl rfl (by decide) rfl rfl (fun H locs hP hD hS => ?_)
    obtain rfl := Option.some.inj hf
    exact pa_ei X hP hD hS dX9_count_43
  · have hf := (if_neg c_1).symm.trans hf
    by_cases c_4 : x1 = (1 : Int32)
    · have hf := (if_pos c_4).symm.trans hf
      refine lv_tableIn (tgt := 44) (off := 43) hx hb dX9_count_1 (by rw [c_4]; decide) (by rw [c_4]; decide) (by rw [c_4]; decide) (by decide) ?_
      refine lv_aload_n hx hb dX9_count_44 rfl (lv_at hl 0 rfl) ?_
      refine va_get (D := D) (ci := 8) (v := .ref a_ha) (C := RX9) (T := TX9) (N := 10) hx hb hts il_X9_count_X9 hown hK hP 0 rfl rfl 2 (by decide) (hts _ fk_X9_count_1) (fun _ h9 => h9) rfl dX9_count_45 ?_
      refine va_getN (D := D) (ci := 2) (v := .int v_ha_finds) (C := RX2) (T := TX2) (N := 5) hx hb hts il_X9_count_X2 hown hK hP 4 rfl rfl 4 (by decide) (va_Nw.use rfl (hG.1 _ (List.mem_of_getElem? (i := 9) rfl))) (fun _ h9 => h9) rfl dX9_count_48 ?_
      obtain rfl := Option.some.inj hf
      exact pa_ei X hP hD hS dX9_count_51
    · have hf := (if_neg c_4).symm.trans hf
      by_cases c_5 : x1 = (2 : Int32)
      · have hf := (if_pos c_5).symm.trans hf
        refine lv_tableIn (tgt := 52) (off := 51) hx hb dX9_count_1 (by rw [c_5]; decide) (by rw [c_5]; decide) (by rw [c_5]; decide) (by decide) ?_
        refine lv_aload_n hx hb dX9_count_52 rfl (lv_at hl 0 rfl) ?_
        refine va_get (D := D) (ci := 8) (v := .ref a_we) (C := RX9) (T := TX9) (N := 10) hx hb hts il_X9_count_X9 hown hK hP 0 rfl rfl 5 (by decide) (hts _ fk_X9_count_2) (fun _ h9 => h9) rfl dX9_count_53 ?_
        refine va_getN (D := D) (ci := 7) (v := .int v_we_many) (C := RX8) (T := TX8) (N := 2) hx hb hts il_X9_count_X8 hown hK hP 5 rfl rfl 1 (by decide) (va_Nw.use rfl (hG.1 _ (List.mem_of_getElem? (i := 12) rfl))) (fun _ h9 => h9) rfl dX9_count_56 ?_
        obtain rfl := Option.some.inj hf
        exact pa_ei X hP hD hS dX9_count_59
      · have hf := (if_neg c_5).symm.trans hf
        by_cases c_6 : x1 = (3 : Int32)
        · have hf := (if_pos c_6).symm.trans hf
          refine lv_tableIn (tgt := 60) (off := 59) hx hb dX9_count_1 (by rw [c_6]; decide) (by rw [c_6]; decide) (by rw [c_6]; decide) (by decide) ?_
          refine lv_aload_n hx hb dX9_count_60 rfl (lv_at hl 0 rfl) ?_
          refine va_get (D := D) (ci := 8) (v := .ref a_ho) (C := RX9) (T := TX9) (N := 10) hx hb hts il_X9_count_X9 hown hK hP 0 rfl rfl 6 (by decide) (hts _ fk_X9_count_3) (fun _ h9 => h9) rfl dX9_count_61 ?_
          refine va_getN (D := D) (ci := 3) (v := .int v_ho_rows) (C := RX3) (T := TX3) (N := 2) hx hb hts il_X9_count_X3 hown hK hP 6 rfl rfl 1 (by decide) (va_Nw.use rfl (hG.1 _ (List.mem_of_getElem? (i := 14) rfl))) (fun _ h9 => h9) rfl dX9_count_64 ?_
          obtain rfl := Option.some.inj hf
          exact pa_ei X hP hD hS dX9_count_67
        · have hf := (if_neg c_6).symm.trans hf
          by_cases c_7 : x1 = (4 : Int32)
          · have hf := (if_pos c_7).symm.trans hf
            refine lv_tableIn (tgt := 68) (off := 67) hx hb dX9_count_1 (by rw [c_7]; decide) (by rw [c_7]; decide) (by rw [c_7]; decide) (by decide) ?_
            refine lv_aload_n hx hb dX9_count_68 rfl (lv_at hl 0 rfl) ?_
            refine va_get (D := D) (ci := 8) (v := .ref a_te) (C := RX9) (T := TX9) (N := 10) hx hb hts il_X9_count_X9 hown hK hP 0 rfl rfl 1 (by decide) (hts _ fk_X9_count_4) (fun _ h9 => h9) rfl dX9_count_69 ?_
            refine va_getN (D := D) (ci := 6) (v := .int v_te_length) (C := RX6) (T := TX6) (N := 6) hx hb hts il_X9_count_X6 hown hK hP 3 rfl rfl 1 (by decide) (va_Nw.use rfl (hG.1 _ (List.mem_of_getElem? (i := 1) rfl))) (fun _ h9 => h9) rfl dX9_count_72 ?_
            obtain rfl := Option.some.inj hf
            exact pa_ei X hP hD hS dX9_count_75
          · have hf := (if_neg c_7).symm.trans hf
            refine lv_tableOut (tgt := 76) hx hb dX9_count_1 (pa_sw5 c_1 c_4 c_5 c_6 c_7) (by decide) ?_
            refine lv_iconst (v := (-1 : Int32)) hx hb dX9_count_76 (by decide) ?_
            obtain rfl := Option.some.inj hf
            exact pa_ei X hP hD hS dX9_count_77
set_option maxHeartbeats 4000000 in
set_option maxRecDepth 100000 in
theorem c_X9_count {l : Launch} {D : va_G} {cI cJ : ClassId} {g : pa_GT} {a_x a_la a_lc a_lr a_te a_tb a_ha a_hp a_hl a_hq a_hm a_as a_lo a_we a_wh a_ho a_hn a_fr a_pr : Nat} {x1 : Int32} {v_x_trace : Int64} {v_lc : Nat → Int32} {v_te_length : Int32} {v_te_token : Nat} {v_te_place : Int32} {v_te_end : Int32} {v_te_value : Int32} {v_ha_finds : Int32} {v_we_many : Int32} {v_ho_rows : Int32} {o : Int32} (hf : f_X9_count x1 v_lc v_te_length v_ha_finds v_we_many v_ho_rows = some o) : pa_Mi l yX9_count wsX9_count rm_X9_count D cI cJ g [.ref a_x, .int x1] (wo_X9_count cI cJ a_x a_la a_lc a_lr a_te a_tb a_ha a_hp a_hl a_hq a_hm a_as a_lo a_we a_wh a_ho a_hn a_fr a_pr v_x_trace v_lc v_te_length v_te_token v_te_place v_te_end v_te_value v_ha_finds v_we_many v_ho_rows) (wo_X9_count cI cJ a_x a_la a_lc a_lr a_te a_tb a_ha a_hp a_hl a_hq a_hm a_as a_lo a_we a_wh a_ho a_hn a_fr a_pr v_x_trace v_lc v_te_length v_te_token v_te_place v_te_end v_te_value v_ha_finds v_we_many v_ho_rows) o := by
  intro sz
  refine pa_met (cc := cX9_count) (maxL := 2) (ret := (some .int)) (lv := [(0, .ref a_x), (1, .int x1)]) (by decide) rfl (Nat.le_of_ble_eq_true rfl) rfl ?_
  intro p e s m below meth c X hsz hP hD ls hl
  subst hsz
  exact w_X9_count_b0 X hf hP hD va_S.rf hl
abbrev wo_X9_trace (cI cJ : ClassId) (a_x a_la a_te a_ha a_as a_lo a_we a_ho a_fr a_pr : Nat) (v_x_trace : Int64) : va_W := [(a_x, .inr (8, [.ref a_la, .ref a_te, .ref a_ha, .ref a_as, .ref a_lo, .ref a_we, .ref a_ho, .ref a_fr, .ref a_pr, .long v_x_trace]))]
abbrev rm_X9_trace : Room := { frames := 0, cells := 0, slots := 0, locals := 0 }
theorem il_X9_trace_X9 : ∀ w ∈ wsX90, w ∈ wsX9_trace := by decide +kernel
theorem fk_X9_trace_0 : Cond.fieldLink RX9 69 "PostedAsks" "trace" "J" ∈ wsX9_trace := by decide +kernel
def f_X9_trace (v_x_trace : Int64) : Option (Int64) :=
  some (v_x_trace)
set_option maxHeartbeats 4000000 in
set_option maxRecDepth 100000 in
theorem w_X9_trace_b0 {l : Launch} {D : va_G} {cI cJ : ClassId} {g : pa_GT} {a_x a_la a_te a_ha a_as a_lo a_we a_ho a_fr a_pr : Nat} {A : Nat → Prop} {p : Program} {e : Env} {s : State} {m : MethodId} {args : Array Value} {below : List Frame} {meth : Method} {c : Code} {v_x_trace : Int64}  {o : Int64} (X : pa_X cX9_trace 1 (some .long) RX9 wsX9_trace D cI cJ g A p s m args meth c)  (hf : f_X9_trace v_x_trace = some o) {H : Heap} {locs : List Loc} (hP : va_P D vwCl (wo_X9_trace cI cJ a_x a_la a_te a_ha a_as a_lo a_we a_ho a_fr a_pr v_x_trace) H) (hD : va_D A (wo_X9_trace cI cJ a_x a_la a_te a_ha a_as a_lo a_we a_ho a_fr a_pr v_x_trace)) (hS : va_S A s.heap H locs) {ls : Array Slot} (hl : lv_has ls 1 [(0, .ref a_x)]) : W p l e (headSpec wsX9_trace rm_X9_trace).room s m args below meth c H locs 0 0 (MQ below (va_Ql (fun r (_ : Unit) => r = o) (pa_QB D A (wo_X9_trace cI cJ a_x a_la a_te a_ha a_as a_lo a_we a_ho a_fr a_pr v_x_trace)) A) args s 0 0 A) (F0 m 0 ls []) := by
  obtain ⟨hx, hb, hr, hml, hown, hts, hK, hA, hG, hlk⟩ := id X
  delta f_X9_trace at hf
  refine lv_aload_n hx hb dX9_trace_0 rfl (lv_at hl 0 rfl) ?_
  refine va_get (D := D) (ci := 8) (v := .long v_x_trace) (C := RX9) (T := TX9) (N := 10) hx hb hts il_X9_trace_X9 hown hK hP 0 rfl rfl 9 (by decide) (hts _ fk_X9_trace_0) (fun _ h9 => h9) rfl dX9_trace_1 ?_
  obtain rfl := Option.some.inj hf
  exact pa_el X hP hD hS dX9_trace_4
set_option maxHeartbeats 4000000 in
set_option maxRecDepth 100000 in
theorem c_X9_trace {l : Launch} {D : va_G} {cI cJ : ClassId} {g : pa_GT} {a_x a_la a_te a_ha a_as a_lo a_we a_ho a_fr a_pr : Nat}  {v_x_trace : Int64} {o : Int64} (hf : f_X9_trace v_x_trace = some o) : pa_Ml l yX9_trace wsX9_trace rm_X9_trace D cI cJ g [.ref a_x] (wo_X9_trace cI cJ a_x a_la a_te a_ha a_as a_lo a_we a_ho a_fr a_pr v_x_trace) (wo_X9_trace cI cJ a_x a_la a_te a_ha a_as a_lo a_we a_ho a_fr a_pr v_x_trace) o := by
  intro sz
  refine pa_met (cc := cX9_trace) (maxL := 1) (ret := (some .long)) (lv := [(0, .ref a_x)]) (by decide) rfl (Nat.le_of_ble_eq_true rfl) rfl ?_
  intro p e s m below meth c X hsz hP hD ls hl
  subst hsz
  exact w_X9_trace_b0 X hf hP hD va_S.rf hl
