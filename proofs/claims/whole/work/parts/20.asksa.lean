abbrev rm_X9_isLand : Room := { frames := 1, cells := 0, slots := 0, locals := 22 }
def f_X9_isLand (x0 : Int32) : Option (Int32) :=
  (f_X9_within x0 (0 : Int32) (3 : Int32)).bind fun u_1 =>
  if u_1 = 0 ∨ u_1 = 1 then some (u_1) else none
set_option maxHeartbeats 4000000 in
set_option maxRecDepth 100000 in
theorem w_X9_isLand_b0 {l : Launch} {D : va_G} {cI cJ : ClassId} {g : pa_GT} {A : Nat → Prop} {p : Program} {e : Env} {s : State} {m : MethodId} {args : Array Value} {below : List Frame} {meth : Method} {c : Code} {x0 : Int32}  {o : Int32} (X : pa_X cX9_isLand 1 (some .boolean) RX9 wsX9_isLand D cI cJ g A p s m args meth c)  (hf : f_X9_isLand x0 = some o) {H : Heap} {locs : List Loc} (hP : va_P D vwCl ([] : va_W) H) (hD : va_D A ([] : va_W)) (hS : va_S A s.heap H locs) {ls : Array Slot} (hl : lv_has ls 1 [(0, .int x0)]) : W p l e (headSpec wsX9_isLand rm_X9_isLand).room s m args below meth c H locs 0 0 (MQ below (va_Qi (fun r (_ : Unit) => r = o) (pa_QB D A ([] : va_W)) A) args s 0 0 A) (F0 m 0 ls []) := by
  obtain ⟨hx, hb, hr, hml, hown, hts, hK, hA, hG, hlk⟩ := id X
  delta f_X9_isLand at hf
  refine lv_iload_n hx hb dX9_isLand_0 rfl (lv_at hl 0 rfl) ?_
  refine lv_iconst (v := (0 : Int32)) hx hb dX9_isLand_1 (by decide) ?_
  refine lv_iconst (v := (3 : Int32)) hx hb dX9_isLand_2 (by decide) ?_
  obtain ⟨u_1, hg_2, hf⟩ := pa_bd hf
  refine pa_ki (wc := ([] : va_W)) (wr := ([] : va_W)) (w1 := ([] : va_W)) (w2 := ([] : va_W)) X hP hD hS [] [] [] rfl (pa_rS (As := [.int x0, .int (0 : Int32), .int (3 : Int32)]) (rest := []) X hP hD hS [] rfl rfl (c_X9_within hg_2 H.size) (va_cwS 3 hts gX9_isLand_X9_within rfl rfl rfl (by decide +kernel) ⟨Nat.le_of_ble_eq_true rfl, Nat.le_of_ble_eq_true rfl⟩) rfl hl.1 rfl (Nat.le_of_ble_eq_true rfl) dX9_isLand_3 ⟨Nat.zero_le _, Nat.zero_le _⟩) rfl rfl (by decide) rfl rfl (fun H locs hP hD hS => ?_)
  obtain ⟨hb_3, hf⟩ := pa_bo hf
  obtain rfl := Option.some.inj hf
  exact pa_ez (v := u_1) X hP hD hS hb_3 dX9_isLand_6
set_option maxHeartbeats 4000000 in
set_option maxRecDepth 100000 in
theorem c_X9_isLand {l : Launch} {D : va_G} {cI cJ : ClassId} {g : pa_GT} {x0 : Int32}  {o : Int32} (hf : f_X9_isLand x0 = some o) : pa_Mi l yX9_isLand wsX9_isLand rm_X9_isLand D cI cJ g [.int x0] ([] : va_W) ([] : va_W) o := by
  intro sz
  refine pa_met (cc := cX9_isLand) (maxL := 1) (ret := (some .boolean)) (lv := [(0, .int x0)]) (by decide) rfl (Nat.le_of_ble_eq_true rfl) rfl ?_
  intro p e s m below meth c X hsz hP hD ls hl
  subst hsz
  exact w_X9_isLand_b0 X hf hP hD va_S.rf hl
abbrev rm_X9_isGroup : Room := { frames := 1, cells := 0, slots := 0, locals := 22 }
def f_X9_isGroup (x0 : Int32) : Option (Int32) :=
  (f_X9_within x0 (0 : Int32) (7 : Int32)).bind fun u_1 =>
  if u_1 = 0 ∨ u_1 = 1 then some (u_1) else none
set_option maxHeartbeats 4000000 in
set_option maxRecDepth 100000 in
theorem w_X9_isGroup_b0 {l : Launch} {D : va_G} {cI cJ : ClassId} {g : pa_GT} {A : Nat → Prop} {p : Program} {e : Env} {s : State} {m : MethodId} {args : Array Value} {below : List Frame} {meth : Method} {c : Code} {x0 : Int32}  {o : Int32} (X : pa_X cX9_isGroup 1 (some .boolean) RX9 wsX9_isGroup D cI cJ g A p s m args meth c)  (hf : f_X9_isGroup x0 = some o) {H : Heap} {locs : List Loc} (hP : va_P D vwCl ([] : va_W) H) (hD : va_D A ([] : va_W)) (hS : va_S A s.heap H locs) {ls : Array Slot} (hl : lv_has ls 1 [(0, .int x0)]) : W p l e (headSpec wsX9_isGroup rm_X9_isGroup).room s m args below meth c H locs 0 0 (MQ below (va_Qi (fun r (_ : Unit) => r = o) (pa_QB D A ([] : va_W)) A) args s 0 0 A) (F0 m 0 ls []) := by
  obtain ⟨hx, hb, hr, hml, hown, hts, hK, hA, hG, hlk⟩ := id X
  delta f_X9_isGroup at hf
  refine lv_iload_n hx hb dX9_isGroup_0 rfl (lv_at hl 0 rfl) ?_
  refine lv_iconst (v := (0 : Int32)) hx hb dX9_isGroup_1 (by decide) ?_
  refine lv_bipush (v := (7 : Int32)) hx hb dX9_isGroup_2 (by decide) ?_
  obtain ⟨u_1, hg_2, hf⟩ := pa_bd hf
  refine pa_ki (wc := ([] : va_W)) (wr := ([] : va_W)) (w1 := ([] : va_W)) (w2 := ([] : va_W)) X hP hD hS [] [] [] rfl (pa_rS (As := [.int x0, .int (0 : Int32), .int (7 : Int32)]) (rest := []) X hP hD hS [] rfl rfl (c_X9_within hg_2 H.size) (va_cwS 3 hts gX9_isGroup_X9_within rfl rfl rfl (by decide +kernel) ⟨Nat.le_of_ble_eq_true rfl, Nat.le_of_ble_eq_true rfl⟩) rfl hl.1 rfl (Nat.le_of_ble_eq_true rfl) dX9_isGroup_4 ⟨Nat.zero_le _, Nat.zero_le _⟩) rfl rfl (by decide) rfl rfl (fun H locs hP hD hS => ?_)
  obtain ⟨hb_3, hf⟩ := pa_bo hf
  obtain rfl := Option.some.inj hf
  exact pa_ez (v := u_1) X hP hD hS hb_3 dX9_isGroup_7
set_option maxHeartbeats 4000000 in
set_option maxRecDepth 100000 in
theorem c_X9_isGroup {l : Launch} {D : va_G} {cI cJ : ClassId} {g : pa_GT} {x0 : Int32}  {o : Int32} (hf : f_X9_isGroup x0 = some o) : pa_Mi l yX9_isGroup wsX9_isGroup rm_X9_isGroup D cI cJ g [.int x0] ([] : va_W) ([] : va_W) o := by
  intro sz
  refine pa_met (cc := cX9_isGroup) (maxL := 1) (ret := (some .boolean)) (lv := [(0, .int x0)]) (by decide) rfl (Nat.le_of_ble_eq_true rfl) rfl ?_
  intro p e s m below meth c X hsz hP hD ls hl
  subst hsz
  exact w_X9_isGroup_b0 X hf hP hD va_S.rf hl
abbrev wo_X9_land (cI cJ : ClassId) (a_x a_la a_lc a_lr a_te a_ha a_as a_lo a_we a_ho a_fr a_pr : Nat) (v_x_trace : Int64) (v_lc : Nat → Int32) : va_W := [(a_x, .inr (8, [.ref a_la, .ref a_te, .ref a_ha, .ref a_as, .ref a_lo, .ref a_we, .ref a_ho, .ref a_fr, .ref a_pr, .long v_x_trace])), (a_la, .inr (4, [.ref a_lc, .ref a_lr])), (a_lc, .inl (cI, 32, .inl v_lc))]
abbrev rm_X9_land : Room := { frames := 4, cells := 0, slots := 0, locals := 93 }
theorem il_X9_land_X9 : ∀ w ∈ wsX90, w ∈ wsX9_land := by decide +kernel
theorem fk_X9_land_0 : Cond.fieldLink RX9 10 "PostedAsks" "lands" "LPostedAsks$Lands;" ∈ wsX9_land := by decide +kernel
def f_X9_land (x1 : Int32) (x2 : Int32) (x3 : Int32) (v_lc : Nat → Int32) : Option (Int32 × (Nat → Int32)) :=
  (f_X9_isLand x1).bind fun u_1 =>
  if u_1 = 0 then
    some ((-1 : Int32), v_lc)
  else
    (f_X9_isGroup x2).bind fun u_4 =>
    if u_4 = 0 then
      some ((-1 : Int32), v_lc)
    else
      (f_X9_within x3 (0 : Int32) (50 : Int32)).bind fun u_7 =>
      if u_7 = 0 then
        some ((-1 : Int32), v_lc)
      else
        (f_X4_settle x1 x2 x3 v_lc).bind fun u_10 =>
        some (u_10.1, u_10.2)
set_option maxHeartbeats 4000000 in
set_option maxRecDepth 100000 in
theorem w_X9_land_b0 {l : Launch} {D : va_G} {cI cJ : ClassId} {g : pa_GT} {a_x a_la a_lc a_lr a_te a_ha a_as a_lo a_we a_ho a_fr a_pr : Nat} {A : Nat → Prop} {p : Program} {e : Env} {s : State} {m : MethodId} {args : Array Value} {below : List Frame} {meth : Method} {c : Code} {x1 : Int32} {x2 : Int32} {x3 : Int32} {v_lc : Nat → Int32} {v_x_trace : Int64} {o : Int32 × (Nat → Int32)} (X : pa_X cX9_land 4 (some .int) RX9 wsX9_land D cI cJ g A p s m args meth c)  (hf : f_X9_land x1 x2 x3 v_lc = some o) {H : Heap} {locs : List Loc} (hP : va_P D vwCl (wo_X9_land cI cJ a_x a_la a_lc a_lr a_te a_ha a_as a_lo a_we a_ho a_fr a_pr v_x_trace v_lc) H) (hD : va_D A (wo_X9_land cI cJ a_x a_la a_lc a_lr a_te a_ha a_as a_lo a_we a_ho a_fr a_pr v_x_trace v_lc)) (hS : va_S A s.heap H locs) {ls : Array Slot} (hl : lv_has ls 4 [(0, .ref a_x), (1, .int x1), (2, .int x2), (3, .int x3)]) : W p l e (headSpec wsX9_land rm_X9_land).room s m args below meth c H locs 0 0 (MQ below (va_Qi (fun r (_ : Unit) => r = o.1) (pa_QB D A (wo_X9_land cI cJ a_x a_la a_lc a_lr a_te a_ha a_as a_lo a_we a_ho a_fr a_pr v_x_trace o.2)) A) args s 0 0 A) (F0 m 0 ls []) := by
  obtain ⟨hx, hb, hr, hml, hown, hts, hK, hA, hG, hlk⟩ := id X
  delta f_X9_land at hf
  refine lv_iload_n hx hb dX9_land_0 rfl (lv_at hl 1 rfl) ?_
  obtain ⟨u_1, hg_2, hf⟩ := pa_bd hf
  refine pa_ki (wc := ([] : va_W)) (wr := [(a_x, .inr (8, [.ref a_la, .ref a_te, .ref a_ha, .ref a_as, .ref a_lo, .ref a_we, .ref a_ho, .ref a_fr, .ref a_pr, .long v_x_trace])), (a_la, .inr (4, [.ref a_lc, .ref a_lr])), (a_lc, .inl (cI, 32, .inl v_lc))]) (w1 := ([] : va_W)) (w2 := (wo_X9_land cI cJ a_x a_la a_lc a_lr a_te a_ha a_as a_lo a_we a_ho a_fr a_pr v_x_trace v_lc)) X hP hD hS [] [0, 1, 2] [0, 1, 2] rfl (pa_rS (As := [.int x1]) (rest := []) X hP hD hS [] rfl rfl (c_X9_isLand hg_2 H.size) (va_cwS 1 hts gX9_land_X9_isLand rfl rfl rfl (by decide +kernel) ⟨Nat.le_of_ble_eq_true rfl, Nat.le_of_ble_eq_true rfl⟩) rfl hl.1 rfl (Nat.le_of_ble_eq_true rfl) dX9_land_1 ⟨Nat.zero_le _, Nat.zero_le _⟩) rfl rfl (by decide) rfl rfl (fun H locs hP hD hS => ?_)
  refine lv_if_eq (tgt := 24) hx hb dX9_land_4 (by decide) (fun c_3 => ?_) (fun c_3 => ?_)
  · have hf := (if_pos c_3).symm.trans hf
    refine lv_iconst (v := (-1 : Int32)) hx hb dX9_land_24 (by decide) ?_
    obtain rfl := Option.some.inj hf
    exact pa_ei X hP hD hS dX9_land_25
  · have hf := (if_neg c_3).symm.trans hf
    refine lv_iload_n hx hb dX9_land_7 rfl (lv_at hl 2 rfl) ?_
    obtain ⟨u_4, hg_5, hf⟩ := pa_bd hf
    refine pa_ki (wc := ([] : va_W)) (wr := [(a_x, .inr (8, [.ref a_la, .ref a_te, .ref a_ha, .ref a_as, .ref a_lo, .ref a_we, .ref a_ho, .ref a_fr, .ref a_pr, .long v_x_trace])), (a_la, .inr (4, [.ref a_lc, .ref a_lr])), (a_lc, .inl (cI, 32, .inl v_lc))]) (w1 := ([] : va_W)) (w2 := (wo_X9_land cI cJ a_x a_la a_lc a_lr a_te a_ha a_as a_lo a_we a_ho a_fr a_pr v_x_trace v_lc)) X hP hD hS [] [0, 1, 2] [0, 1, 2] rfl (pa_rS (As := [.int x2]) (rest := []) X hP hD hS [] rfl rfl (c_X9_isGroup hg_5 H.size) (va_cwS 1 hts gX9_land_X9_isGroup rfl rfl rfl (by decide +kernel) ⟨Nat.le_of_ble_eq_true rfl, Nat.le_of_ble_eq_true rfl⟩) rfl hl.1 rfl (Nat.le_of_ble_eq_true rfl) dX9_land_8 ⟨Nat.zero_le _, Nat.zero_le _⟩) rfl rfl (by decide) rfl rfl (fun H locs hP hD hS => ?_)
    refine lv_if_eq (tgt := 24) hx hb dX9_land_11 (by decide) (fun c_6 => ?_) (fun c_6 => ?_)
    · have hf := (if_pos c_6).symm.trans hf
      refine lv_iconst (v := (-1 : Int32)) hx hb dX9_land_24 (by decide) ?_
      obtain rfl := Option.some.inj hf
      exact pa_ei X hP hD hS dX9_land_25
    · have hf := (if_neg c_6).symm.trans hf
      refine lv_iload_n hx hb dX9_land_14 rfl (lv_at hl 3 rfl) ?_
      refine lv_iconst (v := (0 : Int32)) hx hb dX9_land_15 (by decide) ?_
      refine lv_bipush (v := (50 : Int32)) hx hb dX9_land_16 (by decide) ?_
      obtain ⟨u_7, hg_8, hf⟩ := pa_bd hf
      refine pa_ki (wc := ([] : va_W)) (wr := [(a_x, .inr (8, [.ref a_la, .ref a_te, .ref a_ha, .ref a_as, .ref a_lo, .ref a_we, .ref a_ho, .ref a_fr, .ref a_pr, .long v_x_trace])), (a_la, .inr (4, [.ref a_lc, .ref a_lr])), (a_lc, .inl (cI, 32, .inl v_lc))]) (w1 := ([] : va_W)) (w2 := (wo_X9_land cI cJ a_x a_la a_lc a_lr a_te a_ha a_as a_lo a_we a_ho a_fr a_pr v_x_trace v_lc)) X hP hD hS [] [0, 1, 2] [0, 1, 2] rfl (pa_rS (As := [.int x3, .int (0 : Int32), .int (50 : Int32)]) (rest := []) X hP hD hS [] rfl rfl (c_X9_within hg_8 H.size) (va_cwS 3 hts gX9_land_X9_within rfl rfl rfl (by decide +kernel) ⟨Nat.le_of_ble_eq_true rfl, Nat.le_of_ble_eq_true rfl⟩) rfl hl.1 rfl (Nat.le_of_ble_eq_true rfl) dX9_land_18 ⟨Nat.zero_le _, Nat.zero_le _⟩) rfl rfl (by decide) rfl rfl (fun H locs hP hD hS => ?_)
      refine lv_if_ne (tgt := 26) hx hb dX9_land_21 (by decide) (fun c_9 => ?_) (fun c_9 => ?_)
      · have hf := (if_neg c_9).symm.trans hf
        refine lv_aload_n hx hb dX9_land_26 rfl (lv_at hl 0 rfl) ?_
        refine va_get (D := D) (ci := 8) (v := .ref a_la) (C := RX9) (T := TX9) (N := 10) hx hb hts il_X9_land_X9 hown hK hP 0 rfl rfl 0 (by decide) (hts _ fk_X9_land_0) (fun _ h9 => h9) rfl dX9_land_27 ?_
        refine lv_iload_n hx hb dX9_land_30 rfl (lv_at hl 1 rfl) ?_
        refine lv_iload_n hx hb dX9_land_31 rfl (lv_at hl 2 rfl) ?_
        refine lv_iload_n hx hb dX9_land_32 rfl (lv_at hl 3 rfl) ?_
        obtain ⟨u_10, hg_11, hf⟩ := pa_bd hf
        refine pa_ki (wc := (wo_X4_settle cI cJ a_la a_lc a_lr v_lc)) (wr := [(a_x, .inr (8, [.ref a_la, .ref a_te, .ref a_ha, .ref a_as, .ref a_lo, .ref a_we, .ref a_ho, .ref a_fr, .ref a_pr, .long v_x_trace]))]) (w1 := (wo_X4_settle cI cJ a_la a_lc a_lr u_10.2)) (w2 := (wo_X9_land cI cJ a_x a_la a_lc a_lr a_te a_ha a_as a_lo a_we a_ho a_fr a_pr v_x_trace u_10.2)) X hP hD hS [1, 2] [0] [0, 1, 2] rfl (pa_rV (As := [.int x1, .int x2, .int x3]) (rest := []) (T := TX4) X hP hD hS [1, 2] rfl rfl (c_X4_settle hg_11 H.size) (cwV 3 hts gX9_land_X4_settle rfl rfl rfl (by decide +kernel) ⟨Nat.le_of_ble_eq_true rfl, Nat.le_of_ble_eq_true rfl⟩) (q0 := 1) rfl rfl rfl hl.1 rfl (Nat.le_of_ble_eq_true rfl) dX9_land_33 ⟨Nat.zero_le _, Nat.zero_le _⟩) rfl rfl (by decide) rfl rfl (fun H locs hP hD hS => ?_)
        obtain rfl := Option.some.inj hf
        exact pa_ei X hP hD hS dX9_land_36
      · have hf := (if_pos c_9).symm.trans hf
        refine lv_iconst (v := (-1 : Int32)) hx hb dX9_land_24 (by decide) ?_
        obtain rfl := Option.some.inj hf
        exact pa_ei X hP hD hS dX9_land_25
set_option maxHeartbeats 4000000 in
set_option maxRecDepth 100000 in
theorem c_X9_land {l : Launch} {D : va_G} {cI cJ : ClassId} {g : pa_GT} {a_x a_la a_lc a_lr a_te a_ha a_as a_lo a_we a_ho a_fr a_pr : Nat} {x1 : Int32} {x2 : Int32} {x3 : Int32} {v_x_trace : Int64} {v_lc : Nat → Int32} {o : Int32 × (Nat → Int32)} (hf : f_X9_land x1 x2 x3 v_lc = some o) : pa_Mi l yX9_land wsX9_land rm_X9_land D cI cJ g [.ref a_x, .int x1, .int x2, .int x3] (wo_X9_land cI cJ a_x a_la a_lc a_lr a_te a_ha a_as a_lo a_we a_ho a_fr a_pr v_x_trace v_lc) (wo_X9_land cI cJ a_x a_la a_lc a_lr a_te a_ha a_as a_lo a_we a_ho a_fr a_pr v_x_trace o.2) o.1 := by
  intro sz
  refine pa_met (cc := cX9_land) (maxL := 4) (ret := (some .int)) (lv := [(0, .ref a_x), (1, .int x1), (2, .int x2), (3, .int x3)]) (by decide) rfl (Nat.le_of_ble_eq_true rfl) rfl ?_
  intro p e s m below meth c X hsz hP hD ls hl
  subst hsz
  exact w_X9_land_b0 X hf hP hD va_S.rf hl
abbrev wo_X9_rate (cI cJ : ClassId) (a_x a_la a_lc a_lr a_te a_ha a_as a_lo a_we a_ho a_fr a_pr : Nat) (v_x_trace : Int64) (v_lr : Nat → Int32) : va_W := [(a_x, .inr (8, [.ref a_la, .ref a_te, .ref a_ha, .ref a_as, .ref a_lo, .ref a_we, .ref a_ho, .ref a_fr, .ref a_pr, .long v_x_trace])), (a_la, .inr (4, [.ref a_lc, .ref a_lr])), (a_lr, .inl (cI, 8, .inl v_lr))]
abbrev rm_X9_rate : Room := { frames := 2, cells := 0, slots := 0, locals := 42 }
theorem il_X9_rate_X9 : ∀ w ∈ wsX90, w ∈ wsX9_rate := by decide +kernel
theorem fk_X9_rate_0 : Cond.fieldLink RX9 10 "PostedAsks" "lands" "LPostedAsks$Lands;" ∈ wsX9_rate := by decide +kernel
def f_X9_rate (x1 : Int32) (x2 : Int32) (v_lr : Nat → Int32) : Option (Int32 × (Nat → Int32)) :=
  (f_X9_isGroup x1).bind fun u_1 =>
  if u_1 = 0 then
    some ((-1 : Int32), v_lr)
  else
    (f_X9_within x2 (0 : Int32) (100 : Int32)).bind fun u_4 =>
    if u_4 = 0 then
      some ((-1 : Int32), v_lr)
    else
      (f_X4_changeRate x1 x2 v_lr).bind fun u_7 =>
      some (u_7.1, u_7.2)
set_option maxHeartbeats 4000000 in
set_option maxRecDepth 100000 in
theorem w_X9_rate_b0 {l : Launch} {D : va_G} {cI cJ : ClassId} {g : pa_GT} {a_x a_la a_lc a_lr a_te a_ha a_as a_lo a_we a_ho a_fr a_pr : Nat} {A : Nat → Prop} {p : Program} {e : Env} {s : State} {m : MethodId} {args : Array Value} {below : List Frame} {meth : Method} {c : Code} {x1 : Int32} {x2 : Int32} {v_lr : Nat → Int32} {v_x_trace : Int64} {o : Int32 × (Nat → Int32)} (X : pa_X cX9_rate 3 (some .int) RX9 wsX9_rate D cI cJ g A p s m args meth c)  (hf : f_X9_rate x1 x2 v_lr = some o) {H : Heap} {locs : List Loc} (hP : va_P D vwCl (wo_X9_rate cI cJ a_x a_la a_lc a_lr a_te a_ha a_as a_lo a_we a_ho a_fr a_pr v_x_trace v_lr) H) (hD : va_D A (wo_X9_rate cI cJ a_x a_la a_lc a_lr a_te a_ha a_as a_lo a_we a_ho a_fr a_pr v_x_trace v_lr)) (hS : va_S A s.heap H locs) {ls : Array Slot} (hl : lv_has ls 3 [(0, .ref a_x), (1, .int x1), (2, .int x2)]) : W p l e (headSpec wsX9_rate rm_X9_rate).room s m args below meth c H locs 0 0 (MQ below (va_Qi (fun r (_ : Unit) => r = o.1) (pa_QB D A (wo_X9_rate cI cJ a_x a_la a_lc a_lr a_te a_ha a_as a_lo a_we a_ho a_fr a_pr v_x_trace o.2)) A) args s 0 0 A) (F0 m 0 ls []) := by
  obtain ⟨hx, hb, hr, hml, hown, hts, hK, hA, hG, hlk⟩ := id X
  delta f_X9_rate at hf
  refine lv_iload_n hx hb dX9_rate_0 rfl (lv_at hl 1 rfl) ?_
  obtain ⟨u_1, hg_2, hf⟩ := pa_bd hf
  refine pa_ki (wc := ([] : va_W)) (wr := [(a_x, .inr (8, [.ref a_la, .ref a_te, .ref a_ha, .ref a_as, .ref a_lo, .ref a_we, .ref a_ho, .ref a_fr, .ref a_pr, .long v_x_trace])), (a_la, .inr (4, [.ref a_lc, .ref a_lr])), (a_lr, .inl (cI, 8, .inl v_lr))]) (w1 := ([] : va_W)) (w2 := (wo_X9_rate cI cJ a_x a_la a_lc a_lr a_te a_ha a_as a_lo a_we a_ho a_fr a_pr v_x_trace v_lr)) X hP hD hS [] [0, 1, 2] [0, 1, 2] rfl (pa_rS (As := [.int x1]) (rest := []) X hP hD hS [] rfl rfl (c_X9_isGroup hg_2 H.size) (va_cwS 1 hts gX9_rate_X9_isGroup rfl rfl rfl (by decide +kernel) ⟨Nat.le_of_ble_eq_true rfl, Nat.le_of_ble_eq_true rfl⟩) rfl hl.1 rfl (Nat.le_of_ble_eq_true rfl) dX9_rate_1 ⟨Nat.zero_le _, Nat.zero_le _⟩) rfl rfl (by decide) rfl rfl (fun H locs hP hD hS => ?_)
  refine lv_if_eq (tgt := 17) hx hb dX9_rate_4 (by decide) (fun c_3 => ?_) (fun c_3 => ?_)
  · have hf := (if_pos c_3).symm.trans hf
    refine lv_iconst (v := (-1 : Int32)) hx hb dX9_rate_17 (by decide) ?_
    obtain rfl := Option.some.inj hf
    exact pa_ei X hP hD hS dX9_rate_18
  · have hf := (if_neg c_3).symm.trans hf
    refine lv_iload_n hx hb dX9_rate_7 rfl (lv_at hl 2 rfl) ?_
    refine lv_iconst (v := (0 : Int32)) hx hb dX9_rate_8 (by decide) ?_
    refine lv_bipush (v := (100 : Int32)) hx hb dX9_rate_9 (by decide) ?_
    obtain ⟨u_4, hg_5, hf⟩ := pa_bd hf
    refine pa_ki (wc := ([] : va_W)) (wr := [(a_x, .inr (8, [.ref a_la, .ref a_te, .ref a_ha, .ref a_as, .ref a_lo, .ref a_we, .ref a_ho, .ref a_fr, .ref a_pr, .long v_x_trace])), (a_la, .inr (4, [.ref a_lc, .ref a_lr])), (a_lr, .inl (cI, 8, .inl v_lr))]) (w1 := ([] : va_W)) (w2 := (wo_X9_rate cI cJ a_x a_la a_lc a_lr a_te a_ha a_as a_lo a_we a_ho a_fr a_pr v_x_trace v_lr)) X hP hD hS [] [0, 1, 2] [0, 1, 2] rfl (pa_rS (As := [.int x2, .int (0 : Int32), .int (100 : Int32)]) (rest := []) X hP hD hS [] rfl rfl (c_X9_within hg_5 H.size) (va_cwS 3 hts gX9_rate_X9_within rfl rfl rfl (by decide +kernel) ⟨Nat.le_of_ble_eq_true rfl, Nat.le_of_ble_eq_true rfl⟩) rfl hl.1 rfl (Nat.le_of_ble_eq_true rfl) dX9_rate_11 ⟨Nat.zero_le _, Nat.zero_le _⟩) rfl rfl (by decide) rfl rfl (fun H locs hP hD hS => ?_)
    refine lv_if_ne (tgt := 19) hx hb dX9_rate_14 (by decide) (fun c_6 => ?_) (fun c_6 => ?_)
    · have hf := (if_neg c_6).symm.trans hf
      refine lv_aload_n hx hb dX9_rate_19 rfl (lv_at hl 0 rfl) ?_
      refine va_get (D := D) (ci := 8) (v := .ref a_la) (C := RX9) (T := TX9) (N := 10) hx hb hts il_X9_rate_X9 hown hK hP 0 rfl rfl 0 (by decide) (hts _ fk_X9_rate_0) (fun _ h9 => h9) rfl dX9_rate_20 ?_
      refine lv_iload_n hx hb dX9_rate_23 rfl (lv_at hl 1 rfl) ?_
      refine lv_iload_n hx hb dX9_rate_24 rfl (lv_at hl 2 rfl) ?_
      obtain ⟨u_7, hg_8, hf⟩ := pa_bd hf
      refine pa_ki (wc := (wo_X4_changeRate cI cJ a_la a_lc a_lr v_lr)) (wr := [(a_x, .inr (8, [.ref a_la, .ref a_te, .ref a_ha, .ref a_as, .ref a_lo, .ref a_we, .ref a_ho, .ref a_fr, .ref a_pr, .long v_x_trace]))]) (w1 := (wo_X4_changeRate cI cJ a_la a_lc a_lr u_7.2)) (w2 := (wo_X9_rate cI cJ a_x a_la a_lc a_lr a_te a_ha a_as a_lo a_we a_ho a_fr a_pr v_x_trace u_7.2)) X hP hD hS [1, 2] [0] [0, 1, 2] rfl (pa_rV (As := [.int x1, .int x2]) (rest := []) (T := TX4) X hP hD hS [1, 2] rfl rfl (c_X4_changeRate hg_8 H.size) (cwV 2 hts gX9_rate_X4_changeRate rfl rfl rfl (by decide +kernel) ⟨Nat.le_of_ble_eq_true rfl, Nat.le_of_ble_eq_true rfl⟩) (q0 := 1) rfl rfl rfl hl.1 rfl (Nat.le_of_ble_eq_true rfl) dX9_rate_25 ⟨Nat.zero_le _, Nat.zero_le _⟩) rfl rfl (by decide) rfl rfl (fun H locs hP hD hS => ?_)
      obtain rfl := Option.some.inj hf
      exact pa_ei X hP hD hS dX9_rate_28
    · have hf := (if_pos c_6).symm.trans hf
      refine lv_iconst (v := (-1 : Int32)) hx hb dX9_rate_17 (by decide) ?_
      obtain rfl := Option.some.inj hf
      exact pa_ei X hP hD hS dX9_rate_18
set_option maxHeartbeats 4000000 in
set_option maxRecDepth 100000 in
theorem c_X9_rate {l : Launch} {D : va_G} {cI cJ : ClassId} {g : pa_GT} {a_x a_la a_lc a_lr a_te a_ha a_as a_lo a_we a_ho a_fr a_pr : Nat} {x1 : Int32} {x2 : Int32} {v_x_trace : Int64} {v_lr : Nat → Int32} {o : Int32 × (Nat → Int32)} (hf : f_X9_rate x1 x2 v_lr = some o) : pa_Mi l yX9_rate wsX9_rate rm_X9_rate D cI cJ g [.ref a_x, .int x1, .int x2] (wo_X9_rate cI cJ a_x a_la a_lc a_lr a_te a_ha a_as a_lo a_we a_ho a_fr a_pr v_x_trace v_lr) (wo_X9_rate cI cJ a_x a_la a_lc a_lr a_te a_ha a_as a_lo a_we a_ho a_fr a_pr v_x_trace o.2) o.1 := by
  intro sz
  refine pa_met (cc := cX9_rate) (maxL := 3) (ret := (some .int)) (lv := [(0, .ref a_x), (1, .int x1), (2, .int x2)]) (by decide) rfl (Nat.le_of_ble_eq_true rfl) rfl ?_
  intro p e s m below meth c X hsz hP hD ls hl
  subst hsz
  exact w_X9_rate_b0 X hf hP hD va_S.rf hl
abbrev wo_X9_people (cI cJ : ClassId) (a_x a_la a_lc a_lr a_te a_ha a_as a_lo a_we a_ho a_fr a_pr : Nat) (v_x_trace : Int64) (v_lc : Nat → Int32) : va_W := [(a_x, .inr (8, [.ref a_la, .ref a_te, .ref a_ha, .ref a_as, .ref a_lo, .ref a_we, .ref a_ho, .ref a_fr, .ref a_pr, .long v_x_trace])), (a_la, .inr (4, [.ref a_lc, .ref a_lr])), (a_lc, .inl (cI, 32, .inl v_lc))]
abbrev rm_X9_people : Room := { frames := 3, cells := 0, slots := 0, locals := 69 }
theorem il_X9_people_X9 : ∀ w ∈ wsX90, w ∈ wsX9_people := by decide +kernel
theorem fk_X9_people_0 : Cond.fieldLink RX9 92 "PostedAsks" "PEOPLE" "[I" ∈ wsX9_people := by decide +kernel
theorem fk_X9_people_1 : Cond.fieldLink RX9 10 "PostedAsks" "lands" "LPostedAsks$Lands;" ∈ wsX9_people := by decide +kernel
def f_X9_people (x1 : Int32) (x2 : Int32) (v_lc : Nat → Int32) : Option (Int32) :=
  (f_X9_isLand x1).bind fun u_1 =>
  if u_1 = 0 then
    some ((-1 : Int32))
  else
    (f_X9_within x2 (0 : Int32) ((6 : Int32) - (1 : Int32))).bind fun u_4 =>
    if u_4 = 0 then
      some ((-1 : Int32))
    else
      if pa_ib x2 6 = true then
        (f_X4_having x1 (pa_peo (Int32.toNatClampNeg x2)) v_lc).bind fun u_8 =>
        some (u_8)
      else none
set_option maxHeartbeats 4000000 in
set_option maxRecDepth 100000 in
theorem w_X9_people_b0 {l : Launch} {D : va_G} {cI cJ : ClassId} {g : pa_GT} {a_x a_la a_lc a_lr a_te a_ha a_as a_lo a_we a_ho a_fr a_pr : Nat} {A : Nat → Prop} {p : Program} {e : Env} {s : State} {m : MethodId} {args : Array Value} {below : List Frame} {meth : Method} {c : Code} {x1 : Int32} {x2 : Int32} {v_lc : Nat → Int32} {v_x_trace : Int64} {o : Int32} (X : pa_X cX9_people 3 (some .int) RX9 wsX9_people D cI cJ g A p s m args meth c)  (hf : f_X9_people x1 x2 v_lc = some o) {H : Heap} {locs : List Loc} (hP : va_P D vwCl (wo_X9_people cI cJ a_x a_la a_lc a_lr a_te a_ha a_as a_lo a_we a_ho a_fr a_pr v_x_trace v_lc) H) (hD : va_D A (wo_X9_people cI cJ a_x a_la a_lc a_lr a_te a_ha a_as a_lo a_we a_ho a_fr a_pr v_x_trace v_lc)) (hS : va_S A s.heap H locs) {ls : Array Slot} (hl : lv_has ls 3 [(0, .ref a_x), (1, .int x1), (2, .int x2)]) : W p l e (headSpec wsX9_people rm_X9_people).room s m args below meth c H locs 0 0 (MQ below (va_Qi (fun r (_ : Unit) => r = o) (pa_QB D A (wo_X9_people cI cJ a_x a_la a_lc a_lr a_te a_ha a_as a_lo a_we a_ho a_fr a_pr v_x_trace v_lc)) A) args s 0 0 A) (F0 m 0 ls []) := by
  obtain ⟨hx, hb, hr, hml, hown, hts, hK, hA, hG, hlk⟩ := id X
  delta f_X9_people at hf
  refine lv_iload_n hx hb dX9_people_0 rfl (lv_at hl 1 rfl) ?_
  obtain ⟨u_1, hg_2, hf⟩ := pa_bd hf
  refine pa_ki (wc := ([] : va_W)) (wr := [(a_x, .inr (8, [.ref a_la, .ref a_te, .ref a_ha, .ref a_as, .ref a_lo, .ref a_we, .ref a_ho, .ref a_fr, .ref a_pr, .long v_x_trace])), (a_la, .inr (4, [.ref a_lc, .ref a_lr])), (a_lc, .inl (cI, 32, .inl v_lc))]) (w1 := ([] : va_W)) (w2 := (wo_X9_people cI cJ a_x a_la a_lc a_lr a_te a_ha a_as a_lo a_we a_ho a_fr a_pr v_x_trace v_lc)) X hP hD hS [] [0, 1, 2] [0, 1, 2] rfl (pa_rS (As := [.int x1]) (rest := []) X hP hD hS [] rfl rfl (c_X9_isLand hg_2 H.size) (va_cwS 1 hts gX9_people_X9_isLand rfl rfl rfl (by decide +kernel) ⟨Nat.le_of_ble_eq_true rfl, Nat.le_of_ble_eq_true rfl⟩) rfl hl.1 rfl (Nat.le_of_ble_eq_true rfl) dX9_people_1 ⟨Nat.zero_le _, Nat.zero_le _⟩) rfl rfl (by decide) rfl rfl (fun H locs hP hD hS => ?_)
  refine lv_if_eq (tgt := 21) hx hb dX9_people_4 (by decide) (fun c_3 => ?_) (fun c_3 => ?_)
  · have hf := (if_pos c_3).symm.trans hf
    refine lv_iconst (v := (-1 : Int32)) hx hb dX9_people_21 (by decide) ?_
    obtain rfl := Option.some.inj hf
    exact pa_ei X hP hD hS dX9_people_22
  · have hf := (if_neg c_3).symm.trans hf
    refine lv_iload_n hx hb dX9_people_7 rfl (lv_at hl 2 rfl) ?_
    refine lv_iconst (v := (0 : Int32)) hx hb dX9_people_8 (by decide) ?_
    refine va_gets (C := "PostedAsks") hx hb hG.2.2.1.1 hS hown (hts _ fk_X9_people_0) (fun _ h9 => h9) dX9_people_9 ?_
    refine va_tlen (v := (6 : Int32)) hx hb hG.2.2.1.2 hS (by decide) dX9_people_12 ?_
    refine lv_iconst (v := (1 : Int32)) hx hb dX9_people_13 (by decide) ?_
    refine lv_isub hx hb dX9_people_14 ?_
    obtain ⟨u_4, hg_5, hf⟩ := pa_bd hf
    refine pa_ki (wc := ([] : va_W)) (wr := [(a_x, .inr (8, [.ref a_la, .ref a_te, .ref a_ha, .ref a_as, .ref a_lo, .ref a_we, .ref a_ho, .ref a_fr, .ref a_pr, .long v_x_trace])), (a_la, .inr (4, [.ref a_lc, .ref a_lr])), (a_lc, .inl (cI, 32, .inl v_lc))]) (w1 := ([] : va_W)) (w2 := (wo_X9_people cI cJ a_x a_la a_lc a_lr a_te a_ha a_as a_lo a_we a_ho a_fr a_pr v_x_trace v_lc)) X hP hD hS [] [0, 1, 2] [0, 1, 2] rfl (pa_rS (As := [.int x2, .int (0 : Int32), .int ((6 : Int32) - (1 : Int32))]) (rest := []) X hP hD hS [] rfl rfl (c_X9_within hg_5 H.size) (va_cwS 3 hts gX9_people_X9_within rfl rfl rfl (by decide +kernel) ⟨Nat.le_of_ble_eq_true rfl, Nat.le_of_ble_eq_true rfl⟩) rfl hl.1 rfl (Nat.le_of_ble_eq_true rfl) dX9_people_15 ⟨Nat.zero_le _, Nat.zero_le _⟩) rfl rfl (by decide) rfl rfl (fun H locs hP hD hS => ?_)
    refine lv_if_ne (tgt := 23) hx hb dX9_people_18 (by decide) (fun c_6 => ?_) (fun c_6 => ?_)
    · have hf := (if_neg c_6).symm.trans hf
      refine lv_aload_n hx hb dX9_people_23 rfl (lv_at hl 0 rfl) ?_
      refine va_get (D := D) (ci := 8) (v := .ref a_la) (C := RX9) (T := TX9) (N := 10) hx hb hts il_X9_people_X9 hown hK hP 0 rfl rfl 0 (by decide) (hts _ fk_X9_people_1) (fun _ h9 => h9) rfl dX9_people_24 ?_
      refine lv_iload_n hx hb dX9_people_27 rfl (lv_at hl 1 rfl) ?_
      refine va_gets (C := "PostedAsks") hx hb hG.2.2.1.1 hS hown (hts _ fk_X9_people_0) (fun _ h9 => h9) dX9_people_28 ?_
      refine lv_iload_n hx hb dX9_people_31 rfl (lv_at hl 2 rfl) ?_
      obtain ⟨hi_7, hf⟩ := pa_gd hf
      refine va_ti (v := .int (pa_peo (Int32.toNatClampNeg x2))) hx hb hG.2.2.1.2 hS hi_7 rfl dX9_people_32 ?_
      obtain ⟨u_8, hg_9, hf⟩ := pa_bd hf
      refine pa_ki (wc := (wo_X4_having cI cJ a_la a_lc a_lr v_lc)) (wr := [(a_x, .inr (8, [.ref a_la, .ref a_te, .ref a_ha, .ref a_as, .ref a_lo, .ref a_we, .ref a_ho, .ref a_fr, .ref a_pr, .long v_x_trace]))]) (w1 := (wo_X4_having cI cJ a_la a_lc a_lr v_lc)) (w2 := (wo_X9_people cI cJ a_x a_la a_lc a_lr a_te a_ha a_as a_lo a_we a_ho a_fr a_pr v_x_trace v_lc)) X hP hD hS [1, 2] [0] [0, 1, 2] rfl (pa_rV (As := [.int x1, .int (pa_peo (Int32.toNatClampNeg x2))]) (rest := []) (T := TX4) X hP hD hS [1, 2] rfl rfl (c_X4_having hg_9 H.size) (cwV 2 hts gX9_people_X4_having rfl rfl rfl (by decide +kernel) ⟨Nat.le_of_ble_eq_true rfl, Nat.le_of_ble_eq_true rfl⟩) (q0 := 1) rfl rfl rfl hl.1 rfl (Nat.le_of_ble_eq_true rfl) dX9_people_33 ⟨Nat.zero_le _, Nat.zero_le _⟩) rfl rfl (by decide) rfl rfl (fun H locs hP hD hS => ?_)
      obtain rfl := Option.some.inj hf
      exact pa_ei X hP hD hS dX9_people_36
    · have hf := (if_pos c_6).symm.trans hf
      refine lv_iconst (v := (-1 : Int32)) hx hb dX9_people_21 (by decide) ?_
      obtain rfl := Option.some.inj hf
      exact pa_ei X hP hD hS dX9_people_22
set_option maxHeartbeats 4000000 in
set_option maxRecDepth 100000 in
theorem c_X9_people {l : Launch} {D : va_G} {cI cJ : ClassId} {g : pa_GT} {a_x a_la a_lc a_lr a_te a_ha a_as a_lo a_we a_ho a_fr a_pr : Nat} {x1 : Int32} {x2 : Int32} {v_x_trace : Int64} {v_lc : Nat → Int32} {o : Int32} (hf : f_X9_people x1 x2 v_lc = some o) : pa_Mi l yX9_people wsX9_people rm_X9_people D cI cJ g [.ref a_x, .int x1, .int x2] (wo_X9_people cI cJ a_x a_la a_lc a_lr a_te a_ha a_as a_lo a_we a_ho a_fr a_pr v_x_trace v_lc) (wo_X9_people cI cJ a_x a_la a_lc a_lr a_te a_ha a_as a_lo a_we a_ho a_fr a_pr v_x_trace v_lc) o := by
  intro sz
  refine pa_met (cc := cX9_people) (maxL := 3) (ret := (some .int)) (lv := [(0, .ref a_x), (1, .int x1), (2, .int x2)]) (by decide) rfl (Nat.le_of_ble_eq_true rfl) rfl ?_
  intro p e s m below meth c X hsz hP hD ls hl
  subst hsz
  exact w_X9_people_b0 X hf hP hD va_S.rf hl
abbrev wo_X9_shareBack (cI cJ : ClassId) (a_x a_la a_lc a_lr a_te a_ha a_as a_lo a_we a_ho a_fr a_pr : Nat) (v_x_trace : Int64) (v_lc : Nat → Int32) (v_lr : Nat → Int32) (v_fr_upper : Int64) (v_fr_lower : Int64) : va_W := [(a_x, .inr (8, [.ref a_la, .ref a_te, .ref a_ha, .ref a_as, .ref a_lo, .ref a_we, .ref a_ho, .ref a_fr, .ref a_pr, .long v_x_trace])), (a_la, .inr (4, [.ref a_lc, .ref a_lr])), (a_lc, .inl (cI, 32, .inl v_lc)), (a_lr, .inl (cI, 8, .inl v_lr)), (a_fr, .inr (1, [.long v_fr_upper, .long v_fr_lower]))]
abbrev rm_X9_shareBack : Room := { frames := 2, cells := 0, slots := 0, locals := 56 }
theorem il_X9_shareBack_X9 : ∀ w ∈ wsX90, w ∈ wsX9_shareBack := by decide +kernel
theorem fk_X9_shareBack_0 : Cond.fieldLink RX9 61 "PostedAsks" "fraction" "LPostedAsks$Fraction;" ∈ wsX9_shareBack := by decide +kernel
theorem fk_X9_shareBack_1 : Cond.fieldLink RX9 10 "PostedAsks" "lands" "LPostedAsks$Lands;" ∈ wsX9_shareBack := by decide +kernel
def f_X9_shareBack (x1 : Int32) (v_lc : Nat → Int32) (v_lr : Nat → Int32) (v_fr_upper : Int64) (v_fr_lower : Int64) : Option (Int64 × Int64) :=
  (f_X4_back x1 (1 : Int32) v_lc v_lr).bind fun u_1 =>
  (f_X4_back x1 (0 : Int32) v_lc v_lr).bind fun u_3 =>
  (f_X1_become (Int32.toInt64 u_1) (Int32.toInt64 u_3)).bind fun u_5 =>
  some (u_5.1, u_5.2)
set_option maxHeartbeats 4000000 in
set_option maxRecDepth 100000 in
theorem w_X9_shareBack_b0 {l : Launch} {D : va_G} {cI cJ : ClassId} {g : pa_GT} {a_x a_la a_lc a_lr a_te a_ha a_as a_lo a_we a_ho a_fr a_pr : Nat} {A : Nat → Prop} {p : Program} {e : Env} {s : State} {m : MethodId} {args : Array Value} {below : List Frame} {meth : Method} {c : Code} {x1 : Int32} {v_lc : Nat → Int32} {v_lr : Nat → Int32} {v_fr_upper : Int64} {v_fr_lower : Int64} {v_x_trace : Int64} {o : Int64 × Int64} (X : pa_X cX9_shareBack 2 none RX9 wsX9_shareBack D cI cJ g A p s m args meth c)  (hf : f_X9_shareBack x1 v_lc v_lr v_fr_upper v_fr_lower = some o) {H : Heap} {locs : List Loc} (hP : va_P D vwCl (wo_X9_shareBack cI cJ a_x a_la a_lc a_lr a_te a_ha a_as a_lo a_we a_ho a_fr a_pr v_x_trace v_lc v_lr v_fr_upper v_fr_lower) H) (hD : va_D A (wo_X9_shareBack cI cJ a_x a_la a_lc a_lr a_te a_ha a_as a_lo a_we a_ho a_fr a_pr v_x_trace v_lc v_lr v_fr_upper v_fr_lower)) (hS : va_S A s.heap H locs) {ls : Array Slot} (hl : lv_has ls 2 [(0, .ref a_x), (1, .int x1)]) : W p l e (headSpec wsX9_shareBack rm_X9_shareBack).room s m args below meth c H locs 0 0 (MQ below (va_Qv (fun (_ : Unit) => True) (pa_QB D A (wo_X9_shareBack cI cJ a_x a_la a_lc a_lr a_te a_ha a_as a_lo a_we a_ho a_fr a_pr v_x_trace v_lc v_lr o.1 o.2)) A) args s 0 0 A) (F0 m 0 ls []) := by
  obtain ⟨hx, hb, hr, hml, hown, hts, hK, hA, hG, hlk⟩ := id X
  delta f_X9_shareBack at hf
  refine lv_aload_n hx hb dX9_shareBack_0 rfl (lv_at hl 0 rfl) ?_
  refine va_get (D := D) (ci := 8) (v := .ref a_fr) (C := RX9) (T := TX9) (N := 10) hx hb hts il_X9_shareBack_X9 hown hK hP 0 rfl rfl 7 (by decide) (hts _ fk_X9_shareBack_0) (fun _ h9 => h9) rfl dX9_shareBack_1 ?_
  refine lv_aload_n hx hb dX9_shareBack_4 rfl (lv_at hl 0 rfl) ?_
  refine va_get (D := D) (ci := 8) (v := .ref a_la) (C := RX9) (T := TX9) (N := 10) hx hb hts il_X9_shareBack_X9 hown hK hP 0 rfl rfl 0 (by decide) (hts _ fk_X9_shareBack_1) (fun _ h9 => h9) rfl dX9_shareBack_5 ?_
  refine lv_iload_n hx hb dX9_shareBack_8 rfl (lv_at hl 1 rfl) ?_
  refine lv_iconst (v := (1 : Int32)) hx hb dX9_shareBack_9 (by decide) ?_
  obtain ⟨u_1, hg_2, hf⟩ := pa_bd hf
  refine pa_ki (wc := (wo_X4_back cI cJ a_la a_lc a_lr v_lc v_lr)) (wr := [(a_x, .inr (8, [.ref a_la, .ref a_te, .ref a_ha, .ref a_as, .ref a_lo, .ref a_we, .ref a_ho, .ref a_fr, .ref a_pr, .long v_x_trace])), (a_fr, .inr (1, [.long v_fr_upper, .long v_fr_lower]))]) (w1 := (wo_X4_back cI cJ a_la a_lc a_lr v_lc v_lr)) (w2 := (wo_X9_shareBack cI cJ a_x a_la a_lc a_lr a_te a_ha a_as a_lo a_we a_ho a_fr a_pr v_x_trace v_lc v_lr v_fr_upper v_fr_lower)) X hP hD hS [1, 2, 3] [0, 4] [0, 2, 3, 4, 1] rfl (pa_rV (As := [.int x1, .int (1 : Int32)]) (rest := [.ref a_fr]) (T := TX4) X hP hD hS [1, 2, 3] rfl rfl (c_X4_back hg_2 H.size) (cwV 2 hts gX9_shareBack_X4_back rfl rfl rfl (by decide +kernel) ⟨Nat.le_of_ble_eq_true rfl, Nat.le_of_ble_eq_true rfl⟩) (q0 := 1) rfl rfl rfl hl.1 rfl (Nat.le_of_ble_eq_true rfl) dX9_shareBack_10 ⟨Nat.zero_le _, Nat.zero_le _⟩) rfl rfl (by decide) rfl rfl (fun H locs hP hD hS => ?_)
  refine lv_i2l (v := (Int32.toInt64 u_1)) hx hb dX9_shareBack_13 rfl ?_
  refine lv_aload_n hx hb dX9_shareBack_14 rfl (lv_at hl 0 rfl) ?_
  refine va_get (D := D) (ci := 8) (v := .ref a_la) (C := RX9) (T := TX9) (N := 10) hx hb hts il_X9_shareBack_X9 hown hK hP 0 rfl rfl 0 (by decide) (hts _ fk_X9_shareBack_1) (fun _ h9 => h9) rfl dX9_shareBack_15 ?_
  refine lv_iload_n hx hb dX9_shareBack_18 rfl (lv_at hl 1 rfl) ?_
  refine lv_iconst (v := (0 : Int32)) hx hb dX9_shareBack_19 (by decide) ?_
  obtain ⟨u_3, hg_4, hf⟩ := pa_bd hf
  refine pa_ki (wc := (wo_X4_back cI cJ a_la a_lc a_lr v_lc v_lr)) (wr := [(a_x, .inr (8, [.ref a_la, .ref a_te, .ref a_ha, .ref a_as, .ref a_lo, .ref a_we, .ref a_ho, .ref a_fr, .ref a_pr, .long v_x_trace])), (a_fr, .inr (1, [.long v_fr_upper, .long v_fr_lower]))]) (w1 := (wo_X4_back cI cJ a_la a_lc a_lr v_lc v_lr)) (w2 := (wo_X9_shareBack cI cJ a_x a_la a_lc a_lr a_te a_ha a_as a_lo a_we a_ho a_fr a_pr v_x_trace v_lc v_lr v_fr_upper v_fr_lower)) X hP hD hS [1, 2, 3] [0, 4] [0, 2, 3, 4, 1] rfl (pa_rV (As := [.int x1, .int (0 : Int32)]) (rest := [.long (Int32.toInt64 u_1), .ref a_fr]) (T := TX4) X hP hD hS [1, 2, 3] rfl rfl (c_X4_back hg_4 H.size) (cwV 2 hts gX9_shareBack_X4_back rfl rfl rfl (by decide +kernel) ⟨Nat.le_of_ble_eq_true rfl, Nat.le_of_ble_eq_true rfl⟩) (q0 := 1) rfl rfl rfl hl.1 rfl (Nat.le_of_ble_eq_true rfl) dX9_shareBack_20 ⟨Nat.zero_le _, Nat.zero_le _⟩) rfl rfl (by decide) rfl rfl (fun H locs hP hD hS => ?_)
  refine lv_i2l (v := (Int32.toInt64 u_3)) hx hb dX9_shareBack_23 rfl ?_
  obtain ⟨u_5, hg_6, hf⟩ := pa_bd hf
  refine pa_kv (wc := (wo_X1_become cI cJ a_fr v_fr_upper v_fr_lower)) (wr := [(a_x, .inr (8, [.ref a_la, .ref a_te, .ref a_ha, .ref a_as, .ref a_lo, .ref a_we, .ref a_ho, .ref a_fr, .ref a_pr, .long v_x_trace])), (a_la, .inr (4, [.ref a_lc, .ref a_lr])), (a_lc, .inl (cI, 32, .inl v_lc)), (a_lr, .inl (cI, 8, .inl v_lr))]) (w1 := (wo_X1_become cI cJ a_fr u_5.1 u_5.2)) (w2 := (wo_X9_shareBack cI cJ a_x a_la a_lc a_lr a_te a_ha a_as a_lo a_we a_ho a_fr a_pr v_x_trace v_lc v_lr u_5.1 u_5.2)) X hP hD hS [4] [0, 1, 2, 3] [0, 1, 2, 3, 4] rfl (pa_rV (As := [.long (Int32.toInt64 u_1), .long (Int32.toInt64 u_3)]) (rest := []) (T := TX1) X hP hD hS [4] rfl rfl (c_X1_become hg_6 H.size) (cwV 2 hts gX9_shareBack_X1_become rfl rfl rfl (by decide +kernel) ⟨Nat.le_of_ble_eq_true rfl, Nat.le_of_ble_eq_true rfl⟩) (q0 := 4) rfl rfl rfl hl.1 rfl (Nat.le_of_ble_eq_true rfl) dX9_shareBack_24 ⟨Nat.zero_le _, Nat.zero_le _⟩) rfl rfl (by decide) rfl rfl (fun H locs hP hD hS => ?_)
  obtain rfl := Option.some.inj hf
  exact pa_ev X hP hD hS dX9_shareBack_27
set_option maxHeartbeats 4000000 in
set_option maxRecDepth 100000 in
theorem c_X9_shareBack {l : Launch} {D : va_G} {cI cJ : ClassId} {g : pa_GT} {a_x a_la a_lc a_lr a_te a_ha a_as a_lo a_we a_ho a_fr a_pr : Nat} {x1 : Int32} {v_x_trace : Int64} {v_lc : Nat → Int32} {v_lr : Nat → Int32} {v_fr_upper : Int64} {v_fr_lower : Int64} {o : Int64 × Int64} (hf : f_X9_shareBack x1 v_lc v_lr v_fr_upper v_fr_lower = some o) : pa_Mv l yX9_shareBack wsX9_shareBack rm_X9_shareBack D cI cJ g [.ref a_x, .int x1] (wo_X9_shareBack cI cJ a_x a_la a_lc a_lr a_te a_ha a_as a_lo a_we a_ho a_fr a_pr v_x_trace v_lc v_lr v_fr_upper v_fr_lower) (wo_X9_shareBack cI cJ a_x a_la a_lc a_lr a_te a_ha a_as a_lo a_we a_ho a_fr a_pr v_x_trace v_lc v_lr o.1 o.2) := by
  intro sz
  refine pa_met (cc := cX9_shareBack) (maxL := 2) (ret := none) (lv := [(0, .ref a_x), (1, .int x1)]) (by decide) rfl (Nat.le_of_ble_eq_true rfl) rfl ?_
  intro p e s m below meth c X hsz hP hD ls hl
  subst hsz
  exact w_X9_shareBack_b0 X hf hP hD va_S.rf hl
abbrev wo_X9_lean (cI cJ : ClassId) (a_x a_la a_lc a_lr a_te a_ha a_as a_lo a_we a_ho a_fr a_pr : Nat) (v_x_trace : Int64) (v_lc : Nat → Int32) (v_lr : Nat → Int32) (v_fr_upper : Int64) (v_fr_lower : Int64) : va_W := [(a_x, .inr (8, [.ref a_la, .ref a_te, .ref a_ha, .ref a_as, .ref a_lo, .ref a_we, .ref a_ho, .ref a_fr, .ref a_pr, .long v_x_trace])), (a_la, .inr (4, [.ref a_lc, .ref a_lr])), (a_lc, .inl (cI, 32, .inl v_lc)), (a_lr, .inl (cI, 8, .inl v_lr)), (a_fr, .inr (1, [.long v_fr_upper, .long v_fr_lower]))]
abbrev rm_X9_lean : Room := { frames := 3, cells := 0, slots := 0, locals := 80 }
theorem il_X9_lean_X9 : ∀ w ∈ wsX90, w ∈ wsX9_lean := by decide +kernel
theorem fk_X9_lean_0 : Cond.fieldLink RX9 61 "PostedAsks" "fraction" "LPostedAsks$Fraction;" ∈ wsX9_lean := by decide +kernel
theorem fk_X9_lean_1 : Cond.fieldLink RX9 10 "PostedAsks" "lands" "LPostedAsks$Lands;" ∈ wsX9_lean := by decide +kernel
def f_X9_lean (x1 : Int32) (v_lc : Nat → Int32) (v_lr : Nat → Int32) (v_fr_upper : Int64) (v_fr_lower : Int64) : Option (Int64 × Int64) :=
  (f_X9_shareBack x1 v_lc v_lr v_fr_upper v_fr_lower).bind fun u_1 =>
  (f_X4_having x1 (1 : Int32) v_lc).bind fun u_3 =>
  (f_X4_having x1 (0 : Int32) v_lc).bind fun u_5 =>
  (f_X1_add (Int32.toInt64 (-u_3)) (Int32.toInt64 u_5) u_1.1 u_1.2).bind fun u_7 =>
  some (u_7.1, u_7.2)
set_option maxHeartbeats 4000000 in
set_option maxRecDepth 100000 in
theorem w_X9_lean_b0 {l : Launch} {D : va_G} {cI cJ : ClassId} {g : pa_GT} {a_x a_la a_lc a_lr a_te a_ha a_as a_lo a_we a_ho a_fr a_pr : Nat} {A : Nat → Prop} {p : Program} {e : Env} {s : State} {m : MethodId} {args : Array Value} {below : List Frame} {meth : Method} {c : Code} {x1 : Int32} {v_lc : Nat → Int32} {v_lr : Nat → Int32} {v_fr_upper : Int64} {v_fr_lower : Int64} {v_x_trace : Int64} {o : Int64 × Int64} (X : pa_X cX9_lean 2 none RX9 wsX9_lean D cI cJ g A p s m args meth c)  (hf : f_X9_lean x1 v_lc v_lr v_fr_upper v_fr_lower = some o) {H : Heap} {locs : List Loc} (hP : va_P D vwCl (wo_X9_lean cI cJ a_x a_la a_lc a_lr a_te a_ha a_as a_lo a_we a_ho a_fr a_pr v_x_trace v_lc v_lr v_fr_upper v_fr_lower) H) (hD : va_D A (wo_X9_lean cI cJ a_x a_la a_lc a_lr a_te a_ha a_as a_lo a_we a_ho a_fr a_pr v_x_trace v_lc v_lr v_fr_upper v_fr_lower)) (hS : va_S A s.heap H locs) {ls : Array Slot} (hl : lv_has ls 2 [(0, .ref a_x), (1, .int x1)]) : W p l e (headSpec wsX9_lean rm_X9_lean).room s m args below meth c H locs 0 0 (MQ below (va_Qv (fun (_ : Unit) => True) (pa_QB D A (wo_X9_lean cI cJ a_x a_la a_lc a_lr a_te a_ha a_as a_lo a_we a_ho a_fr a_pr v_x_trace v_lc v_lr o.1 o.2)) A) args s 0 0 A) (F0 m 0 ls []) := by
  obtain ⟨hx, hb, hr, hml, hown, hts, hK, hA, hG, hlk⟩ := id X
  delta f_X9_lean at hf
  refine lv_aload_n hx hb dX9_lean_0 rfl (lv_at hl 0 rfl) ?_
  refine lv_iload_n hx hb dX9_lean_1 rfl (lv_at hl 1 rfl) ?_
  obtain ⟨u_1, hg_2, hf⟩ := pa_bd hf
  refine pa_kv (wc := (wo_X9_shareBack cI cJ a_x a_la a_lc a_lr a_te a_ha a_as a_lo a_we a_ho a_fr a_pr v_x_trace v_lc v_lr v_fr_upper v_fr_lower)) (wr := ([] : va_W)) (w1 := (wo_X9_shareBack cI cJ a_x a_la a_lc a_lr a_te a_ha a_as a_lo a_we a_ho a_fr a_pr v_x_trace v_lc v_lr u_1.1 u_1.2)) (w2 := (wo_X9_lean cI cJ a_x a_la a_lc a_lr a_te a_ha a_as a_lo a_we a_ho a_fr a_pr v_x_trace v_lc v_lr u_1.1 u_1.2)) X hP hD hS [0, 1, 2, 3, 4] [] [0, 1, 2, 3, 4] rfl (pa_rV (As := [.int x1]) (rest := []) (T := TX9) X hP hD hS [0, 1, 2, 3, 4] rfl rfl (c_X9_shareBack hg_2 H.size) (cwV 1 hts gX9_lean_X9_shareBack rfl rfl rfl (by decide +kernel) ⟨Nat.le_of_ble_eq_true rfl, Nat.le_of_ble_eq_true rfl⟩) (q0 := 0) rfl rfl rfl hl.1 rfl (Nat.le_of_ble_eq_true rfl) dX9_lean_2 ⟨Nat.zero_le _, Nat.zero_le _⟩) rfl rfl (by decide) rfl rfl (fun H locs hP hD hS => ?_)
  refine lv_aload_n hx hb dX9_lean_5 rfl (lv_at hl 0 rfl) ?_
  refine va_get (D := D) (ci := 8) (v := .ref a_fr) (C := RX9) (T := TX9) (N := 10) hx hb hts il_X9_lean_X9 hown hK hP 0 rfl rfl 7 (by decide) (hts _ fk_X9_lean_0) (fun _ h9 => h9) rfl dX9_lean_6 ?_
  refine lv_aload_n hx hb dX9_lean_9 rfl (lv_at hl 0 rfl) ?_
  refine va_get (D := D) (ci := 8) (v := .ref a_la) (C := RX9) (T := TX9) (N := 10) hx hb hts il_X9_lean_X9 hown hK hP 0 rfl rfl 0 (by decide) (hts _ fk_X9_lean_1) (fun _ h9 => h9) rfl dX9_lean_10 ?_
  refine lv_iload_n hx hb dX9_lean_13 rfl (lv_at hl 1 rfl) ?_
  refine lv_iconst (v := (1 : Int32)) hx hb dX9_lean_14 (by decide) ?_
  obtain ⟨u_3, hg_4, hf⟩ := pa_bd hf
  refine pa_ki (wc := (wo_X4_having cI cJ a_la a_lc a_lr v_lc)) (wr := [(a_x, .inr (8, [.ref a_la, .ref a_te, .ref a_ha, .ref a_as, .ref a_lo, .ref a_we, .ref a_ho, .ref a_fr, .ref a_pr, .long v_x_trace])), (a_lr, .inl (cI, 8, .inl v_lr)), (a_fr, .inr (1, [.long u_1.1, .long u_1.2]))]) (w1 := (wo_X4_having cI cJ a_la a_lc a_lr v_lc)) (w2 := (wo_X9_lean cI cJ a_x a_la a_lc a_lr a_te a_ha a_as a_lo a_we a_ho a_fr a_pr v_x_trace v_lc v_lr u_1.1 u_1.2)) X hP hD hS [1, 2] [0, 3, 4] [0, 3, 4, 1, 2] rfl (pa_rV (As := [.int x1, .int (1 : Int32)]) (rest := [.ref a_fr]) (T := TX4) X hP hD hS [1, 2] rfl rfl (c_X4_having hg_4 H.size) (cwV 2 hts gX9_lean_X4_having rfl rfl rfl (by decide +kernel) ⟨Nat.le_of_ble_eq_true rfl, Nat.le_of_ble_eq_true rfl⟩) (q0 := 1) rfl rfl rfl hl.1 rfl (Nat.le_of_ble_eq_true rfl) dX9_lean_15 ⟨Nat.zero_le _, Nat.zero_le _⟩) rfl rfl (by decide) rfl rfl (fun H locs hP hD hS => ?_)
  refine lv_ineg hx hb dX9_lean_18 ?_
  refine lv_i2l (v := (Int32.toInt64 (-u_3))) hx hb dX9_lean_19 rfl ?_
  refine lv_aload_n hx hb dX9_lean_20 rfl (lv_at hl 0 rfl) ?_
  refine va_get (D := D) (ci := 8) (v := .ref a_la) (C := RX9) (T := TX9) (N := 10) hx hb hts il_X9_lean_X9 hown hK hP 0 rfl rfl 0 (by decide) (hts _ fk_X9_lean_1) (fun _ h9 => h9) rfl dX9_lean_21 ?_
  refine lv_iload_n hx hb dX9_lean_24 rfl (lv_at hl 1 rfl) ?_
  refine lv_iconst (v := (0 : Int32)) hx hb dX9_lean_25 (by decide) ?_
  obtain ⟨u_5, hg_6, hf⟩ := pa_bd hf
  refine pa_ki (wc := (wo_X4_having cI cJ a_la a_lc a_lr v_lc)) (wr := [(a_x, .inr (8, [.ref a_la, .ref a_te, .ref a_ha, .ref a_as, .ref a_lo, .ref a_we, .ref a_ho, .ref a_fr, .ref a_pr, .long v_x_trace])), (a_lr, .inl (cI, 8, .inl v_lr)), (a_fr, .inr (1, [.long u_1.1, .long u_1.2]))]) (w1 := (wo_X4_having cI cJ a_la a_lc a_lr v_lc)) (w2 := (wo_X9_lean cI cJ a_x a_la a_lc a_lr a_te a_ha a_as a_lo a_we a_ho a_fr a_pr v_x_trace v_lc v_lr u_1.1 u_1.2)) X hP hD hS [1, 2] [0, 3, 4] [0, 3, 4, 1, 2] rfl (pa_rV (As := [.int x1, .int (0 : Int32)]) (rest := [.long (Int32.toInt64 (-u_3)), .ref a_fr]) (T := TX4) X hP hD hS [1, 2] rfl rfl (c_X4_having hg_6 H.size) (cwV 2 hts gX9_lean_X4_having rfl rfl rfl (by decide +kernel) ⟨Nat.le_of_ble_eq_true rfl, Nat.le_of_ble_eq_true rfl⟩) (q0 := 1) rfl rfl rfl hl.1 rfl (Nat.le_of_ble_eq_true rfl) dX9_lean_26 ⟨Nat.zero_le _, Nat.zero_le _⟩) rfl rfl (by decide) rfl rfl (fun H locs hP hD hS => ?_)
  refine lv_i2l (v := (Int32.toInt64 u_5)) hx hb dX9_lean_29 rfl ?_
  obtain ⟨u_7, hg_8, hf⟩ := pa_bd hf
  refine pa_kv (wc := (wo_X1_add cI cJ a_fr u_1.1 u_1.2)) (wr := [(a_x, .inr (8, [.ref a_la, .ref a_te, .ref a_ha, .ref a_as, .ref a_lo, .ref a_we, .ref a_ho, .ref a_fr, .ref a_pr, .long v_x_trace])), (a_la, .inr (4, [.ref a_lc, .ref a_lr])), (a_lc, .inl (cI, 32, .inl v_lc)), (a_lr, .inl (cI, 8, .inl v_lr))]) (w1 := (wo_X1_add cI cJ a_fr u_7.1 u_7.2)) (w2 := (wo_X9_lean cI cJ a_x a_la a_lc a_lr a_te a_ha a_as a_lo a_we a_ho a_fr a_pr v_x_trace v_lc v_lr u_7.1 u_7.2)) X hP hD hS [4] [0, 1, 2, 3] [0, 1, 2, 3, 4] rfl (pa_rV (As := [.long (Int32.toInt64 (-u_3)), .long (Int32.toInt64 u_5)]) (rest := []) (T := TX1) X hP hD hS [4] rfl rfl (c_X1_add hg_8 H.size) (cwV 2 hts gX9_lean_X1_add rfl rfl rfl (by decide +kernel) ⟨Nat.le_of_ble_eq_true rfl, Nat.le_of_ble_eq_true rfl⟩) (q0 := 4) rfl rfl rfl hl.1 rfl (Nat.le_of_ble_eq_true rfl) dX9_lean_30 ⟨Nat.zero_le _, Nat.zero_le _⟩) rfl rfl (by decide) rfl rfl (fun H locs hP hD hS => ?_)
  obtain rfl := Option.some.inj hf
  exact pa_ev X hP hD hS dX9_lean_33
set_option maxHeartbeats 4000000 in
set_option maxRecDepth 100000 in
theorem c_X9_lean {l : Launch} {D : va_G} {cI cJ : ClassId} {g : pa_GT} {a_x a_la a_lc a_lr a_te a_ha a_as a_lo a_we a_ho a_fr a_pr : Nat} {x1 : Int32} {v_x_trace : Int64} {v_lc : Nat → Int32} {v_lr : Nat → Int32} {v_fr_upper : Int64} {v_fr_lower : Int64} {o : Int64 × Int64} (hf : f_X9_lean x1 v_lc v_lr v_fr_upper v_fr_lower = some o) : pa_Mv l yX9_lean wsX9_lean rm_X9_lean D cI cJ g [.ref a_x, .int x1] (wo_X9_lean cI cJ a_x a_la a_lc a_lr a_te a_ha a_as a_lo a_we a_ho a_fr a_pr v_x_trace v_lc v_lr v_fr_upper v_fr_lower) (wo_X9_lean cI cJ a_x a_la a_lc a_lr a_te a_ha a_as a_lo a_we a_ho a_fr a_pr v_x_trace v_lc v_lr o.1 o.2) := by
  intro sz
  refine pa_met (cc := cX9_lean) (maxL := 2) (ret := none) (lv := [(0, .ref a_x), (1, .int x1)]) (by decide) rfl (Nat.le_of_ble_eq_true rfl) rfl ?_
  intro p e s m below meth c X hsz hP hD ls hl
  subst hsz
  exact w_X9_lean_b0 X hf hP hD va_S.rf hl
abbrev wo_X9_posted (cI cJ : ClassId) (a_x a_la a_lc a_lr a_te a_ha a_as a_lo a_we a_ho a_fr a_pr : Nat) (v_x_trace : Int64) (v_lc : Nat → Int32) (v_lr : Nat → Int32) (v_fr_upper : Int64) (v_fr_lower : Int64) : va_W := [(a_x, .inr (8, [.ref a_la, .ref a_te, .ref a_ha, .ref a_as, .ref a_lo, .ref a_we, .ref a_ho, .ref a_fr, .ref a_pr, .long v_x_trace])), (a_la, .inr (4, [.ref a_lc, .ref a_lr])), (a_lc, .inl (cI, 32, .inl v_lc)), (a_lr, .inl (cI, 8, .inl v_lr)), (a_fr, .inr (1, [.long v_fr_upper, .long v_fr_lower]))]
abbrev rm_X9_posted : Room := { frames := 4, cells := 0, slots := 0, locals := 101 }
theorem il_X9_posted_X9 : ∀ w ∈ wsX90, w ∈ wsX9_posted := by decide +kernel
theorem fk_X9_posted_0 : Cond.constantLong RX9 98 (-1000000000000000000) ∈ wsX9_posted := by decide +kernel
theorem fk_X9_posted_1 : Cond.fieldLink RX9 61 "PostedAsks" "fraction" "LPostedAsks$Fraction;" ∈ wsX9_posted := by decide +kernel
theorem fk_X9_posted_2 : Cond.fieldLink RX9 10 "PostedAsks" "lands" "LPostedAsks$Lands;" ∈ wsX9_posted := by decide +kernel
def f_X9_posted (x1 : Int32) (x2 : Int32) (v_lc : Nat → Int32) (v_lr : Nat → Int32) (v_fr_upper : Int64) (v_fr_lower : Int64) : Option (Int64 × Int64 × Int64) :=
  (f_X9_isLand x1).bind fun u_1 =>
  if u_1 = 0 then
    some ((-1000000000000000000 : Int64), v_fr_upper, v_fr_lower)
  else
    (f_X9_within x2 (0 : Int32) (5 : Int32)).bind fun u_4 =>
    if u_4 = 0 then
      some ((-1000000000000000000 : Int64), v_fr_upper, v_fr_lower)
    else
      if x2 = 0 then
        (f_X4_back x1 (0 : Int32) v_lc v_lr).bind fun u_20 =>
        some ((Int32.toInt64 u_20), v_fr_upper, v_fr_lower)
      else
        if x2 = (1 : Int32) then
          (f_X4_back x1 (1 : Int32) v_lc v_lr).bind fun u_18 =>
          some ((Int32.toInt64 u_18), v_fr_upper, v_fr_lower)
        else
          if (3 : Int32) < x2 then
            (f_X9_lean x1 v_lc v_lr v_fr_upper v_fr_lower).bind fun u_10 =>
            (f_X1_part (x2 - (4 : Int32)) u_10.1 u_10.2).bind fun u_12 =>
            some (u_12, u_10.1, u_10.2)
          else
            (f_X9_shareBack x1 v_lc v_lr v_fr_upper v_fr_lower).bind fun u_14 =>
            (f_X1_part (x2 - (2 : Int32)) u_14.1 u_14.2).bind fun u_16 =>
            some (u_16, u_14.1, u_14.2)
set_option maxHeartbeats 4000000 in
set_option maxRecDepth 100000 in
theorem w_X9_posted_b0 {l : Launch} {D : va_G} {cI cJ : ClassId} {g : pa_GT} {a_x a_la a_lc a_lr a_te a_ha a_as a_lo a_we a_ho a_fr a_pr : Nat} {A : Nat → Prop} {p : Program} {e : Env} {s : State} {m : MethodId} {args : Array Value} {below : List Frame} {meth : Method} {c : Code} {x1 : Int32} {x2 : Int32} {v_lc : Nat → Int32} {v_lr : Nat → Int32} {v_fr_upper : Int64} {v_fr_lower : Int64} {v_x_trace : Int64} {o : Int64 × Int64 × Int64} (X : pa_X cX9_posted 3 (some .long) RX9 wsX9_posted D cI cJ g A p s m args meth c)  (hf : f_X9_posted x1 x2 v_lc v_lr v_fr_upper v_fr_lower = some o) {H : Heap} {locs : List Loc} (hP : va_P D vwCl (wo_X9_posted cI cJ a_x a_la a_lc a_lr a_te a_ha a_as a_lo a_we a_ho a_fr a_pr v_x_trace v_lc v_lr v_fr_upper v_fr_lower) H) (hD : va_D A (wo_X9_posted cI cJ a_x a_la a_lc a_lr a_te a_ha a_as a_lo a_we a_ho a_fr a_pr v_x_trace v_lc v_lr v_fr_upper v_fr_lower)) (hS : va_S A s.heap H locs) {ls : Array Slot} (hl : lv_has ls 3 [(0, .ref a_x), (1, .int x1), (2, .int x2)]) : W p l e (headSpec wsX9_posted rm_X9_posted).room s m args below meth c H locs 0 0 (MQ below (va_Ql (fun r (_ : Unit) => r = o.1) (pa_QB D A (wo_X9_posted cI cJ a_x a_la a_lc a_lr a_te a_ha a_as a_lo a_we a_ho a_fr a_pr v_x_trace v_lc v_lr o.2.1 o.2.2)) A) args s 0 0 A) (F0 m 0 ls []) := by
  obtain ⟨hx, hb, hr, hml, hown, hts, hK, hA, hG, hlk⟩ := id X
  delta f_X9_posted at hf
  refine lv_iload_n hx hb dX9_posted_0 rfl (lv_at hl 1 rfl) ?_
  obtain ⟨u_1, hg_2, hf⟩ := pa_bd hf
  refine pa_ki (wc := ([] : va_W)) (wr := [(a_x, .inr (8, [.ref a_la, .ref a_te, .ref a_ha, .ref a_as, .ref a_lo, .ref a_we, .ref a_ho, .ref a_fr, .ref a_pr, .long v_x_trace])), (a_la, .inr (4, [.ref a_lc, .ref a_lr])), (a_lc, .inl (cI, 32, .inl v_lc)), (a_lr, .inl (cI, 8, .inl v_lr)), (a_fr, .inr (1, [.long v_fr_upper, .long v_fr_lower]))]) (w1 := ([] : va_W)) (w2 := (wo_X9_posted cI cJ a_x a_la a_lc a_lr a_te a_ha a_as a_lo a_we a_ho a_fr a_pr v_x_trace v_lc v_lr v_fr_upper v_fr_lower)) X hP hD hS [] [0, 1, 2, 3, 4] [0, 1, 2, 3, 4] rfl (pa_rS (As := [.int x1]) (rest := []) X hP hD hS [] rfl rfl (c_X9_isLand hg_2 H.size) (va_cwS 1 hts gX9_posted_X9_isLand rfl rfl rfl (by decide +kernel) ⟨Nat.le_of_ble_eq_true rfl, Nat.le_of_ble_eq_true rfl⟩) rfl hl.1 rfl (Nat.le_of_ble_eq_true rfl) dX9_posted_1 ⟨Nat.zero_le _, Nat.zero_le _⟩) rfl rfl (by decide) rfl rfl (fun H locs hP hD hS => ?_)
  refine lv_if_eq (tgt := 16) hx hb dX9_posted_4 (by decide) (fun c_3 => ?_) (fun c_3 => ?_)
  · have hf := (if_pos c_3).symm.trans hf
    refine lv_ldc2 (v := (-1000000000000000000 : Int64)) hx hb hown (hts _ fk_X9_posted_0) dX9_posted_16 ?_
    obtain rfl := Option.some.inj hf
    exact pa_el X hP hD hS dX9_posted_19
  · have hf := (if_neg c_3).symm.trans hf
    refine lv_iload_n hx hb dX9_posted_7 rfl (lv_at hl 2 rfl) ?_
    refine lv_iconst (v := (0 : Int32)) hx hb dX9_posted_8 (by decide) ?_
    refine lv_iconst (v := (5 : Int32)) hx hb dX9_posted_9 (by decide) ?_
    obtain ⟨u_4, hg_5, hf⟩ := pa_bd hf
    refine pa_ki (wc := ([] : va_W)) (wr := [(a_x, .inr (8, [.ref a_la, .ref a_te, .ref a_ha, .ref a_as, .ref a_lo, .ref a_we, .ref a_ho, .ref a_fr, .ref a_pr, .long v_x_trace])), (a_la, .inr (4, [.ref a_lc, .ref a_lr])), (a_lc, .inl (cI, 32, .inl v_lc)), (a_lr, .inl (cI, 8, .inl v_lr)), (a_fr, .inr (1, [.long v_fr_upper, .long v_fr_lower]))]) (w1 := ([] : va_W)) (w2 := (wo_X9_posted cI cJ a_x a_la a_lc a_lr a_te a_ha a_as a_lo a_we a_ho a_fr a_pr v_x_trace v_lc v_lr v_fr_upper v_fr_lower)) X hP hD hS [] [0, 1, 2, 3, 4] [0, 1, 2, 3, 4] rfl (pa_rS (As := [.int x2, .int (0 : Int32), .int (5 : Int32)]) (rest := []) X hP hD hS [] rfl rfl (c_X9_within hg_5 H.size) (va_cwS 3 hts gX9_posted_X9_within rfl rfl rfl (by decide +kernel) ⟨Nat.le_of_ble_eq_true rfl, Nat.le_of_ble_eq_true rfl⟩) rfl hl.1 rfl (Nat.le_of_ble_eq_true rfl) dX9_posted_10 ⟨Nat.zero_le _, Nat.zero_le _⟩) rfl rfl (by decide) rfl rfl (fun H locs hP hD hS => ?_)
    refine lv_if_ne (tgt := 20) hx hb dX9_posted_13 (by decide) (fun c_6 => ?_) (fun c_6 => ?_)
    · have hf := (if_neg c_6).symm.trans hf
      refine lv_iload_n hx hb dX9_posted_20 rfl (lv_at hl 2 rfl) ?_
      refine lv_if_ne (tgt := 35) hx hb dX9_posted_21 (by decide) (fun c_7 => ?_) (fun c_7 => ?_)
      · have hf := (if_neg c_7).symm.trans hf
        refine lv_iload_n hx hb dX9_posted_35 rfl (lv_at hl 2 rfl) ?_
        refine lv_iconst (v := (1 : Int32)) hx hb dX9_posted_36 (by decide) ?_
        refine lv_icmp_ne (tgt := 51) hx hb dX9_posted_37 (by decide) (fun c_8 => ?_) (fun c_8 => ?_)
        · have hf := (if_neg c_8).symm.trans hf
          refine lv_iload_n hx hb dX9_posted_51 rfl (lv_at hl 2 rfl) ?_
          refine lv_iconst (v := (3 : Int32)) hx hb dX9_posted_52 (by decide) ?_
          refine lv_icmp_gt (tgt := 72) hx hb dX9_posted_53 (by decide) (fun c_9 => ?_) (fun c_9 => ?_)
          · have hf := (if_pos c_9).symm.trans hf
            refine lv_aload_n hx hb dX9_posted_72 rfl (lv_at hl 0 rfl) ?_
            refine lv_iload_n hx hb dX9_posted_73 rfl (lv_at hl 1 rfl) ?_
            obtain ⟨u_10, hg_11, hf⟩ := pa_bd hf
            refine pa_kv (wc := (wo_X9_lean cI cJ a_x a_la a_lc a_lr a_te a_ha a_as a_lo a_we a_ho a_fr a_pr v_x_trace v_lc v_lr v_fr_upper v_fr_lower)) (wr := ([] : va_W)) (w1 := (wo_X9_lean cI cJ a_x a_la a_lc a_lr a_te a_ha a_as a_lo a_we a_ho a_fr a_pr v_x_trace v_lc v_lr u_10.1 u_10.2)) (w2 := (wo_X9_posted cI cJ a_x a_la a_lc a_lr a_te a_ha a_as a_lo a_we a_ho a_fr a_pr v_x_trace v_lc v_lr u_10.1 u_10.2)) X hP hD hS [0, 1, 2, 3, 4] [] [0, 1, 2, 3, 4] rfl (pa_rV (As := [.int x1]) (rest := []) (T := TX9) X hP hD hS [0, 1, 2, 3, 4] rfl rfl (c_X9_lean hg_11 H.size) (cwV 1 hts gX9_posted_X9_lean rfl rfl rfl (by decide +kernel) ⟨Nat.le_of_ble_eq_true rfl, Nat.le_of_ble_eq_true rfl⟩) (q0 := 0) rfl rfl rfl hl.1 rfl (Nat.le_of_ble_eq_true rfl) dX9_posted_74 ⟨Nat.zero_le _, Nat.zero_le _⟩) rfl rfl (by decide) rfl rfl (fun H locs hP hD hS => ?_)
            refine lv_aload_n hx hb dX9_posted_77 rfl (lv_at hl 0 rfl) ?_
            refine va_get (D := D) (ci := 8) (v := .ref a_fr) (C := RX9) (T := TX9) (N := 10) hx hb hts il_X9_posted_X9 hown hK hP 0 rfl rfl 7 (by decide) (hts _ fk_X9_posted_1) (fun _ h9 => h9) rfl dX9_posted_78 ?_
            refine lv_iload_n hx hb dX9_posted_81 rfl (lv_at hl 2 rfl) ?_
            refine lv_iconst (v := (4 : Int32)) hx hb dX9_posted_82 (by decide) ?_
            refine lv_isub hx hb dX9_posted_83 ?_
            obtain ⟨u_12, hg_13, hf⟩ := pa_bd hf
            refine pa_kl (wc := (wo_X1_part cI cJ a_fr u_10.1 u_10.2)) (wr := [(a_x, .inr (8, [.ref a_la, .ref a_te, .ref a_ha, .ref a_as, .ref a_lo, .ref a_we, .ref a_ho, .ref a_fr, .ref a_pr, .long v_x_trace])), (a_la, .inr (4, [.ref a_lc, .ref a_lr])), (a_lc, .inl (cI, 32, .inl v_lc)), (a_lr, .inl (cI, 8, .inl v_lr))]) (w1 := (wo_X1_part cI cJ a_fr u_10.1 u_10.2)) (w2 := (wo_X9_posted cI cJ a_x a_la a_lc a_lr a_te a_ha a_as a_lo a_we a_ho a_fr a_pr v_x_trace v_lc v_lr u_10.1 u_10.2)) X hP hD hS [4] [0, 1, 2, 3] [0, 1, 2, 3, 4] rfl (pa_rV (As := [.int (x2 - (4 : Int32))]) (rest := []) (T := TX1) X hP hD hS [4] rfl rfl (c_X1_part hg_13 H.size) (cwV 1 hts gX9_posted_X1_part rfl rfl rfl (by decide +kernel) ⟨Nat.le_of_ble_eq_true rfl, Nat.le_of_ble_eq_true rfl⟩) (q0 := 4) rfl rfl rfl hl.1 rfl (Nat.le_of_ble_eq_true rfl) dX9_posted_84 ⟨Nat.zero_le _, Nat.zero_le _⟩) rfl rfl (by decide) rfl rfl (fun H locs hP hD hS => ?_)
            obtain rfl := Option.some.inj hf
            exact pa_el X hP hD hS dX9_posted_87
          · have hf := (if_neg c_9).symm.trans hf
            refine lv_aload_n hx hb dX9_posted_56 rfl (lv_at hl 0 rfl) ?_
            refine lv_iload_n hx hb dX9_posted_57 rfl (lv_at hl 1 rfl) ?_
            obtain ⟨u_14, hg_15, hf⟩ := pa_bd hf
            refine pa_kv (wc := (wo_X9_shareBack cI cJ a_x a_la a_lc a_lr a_te a_ha a_as a_lo a_we a_ho a_fr a_pr v_x_trace v_lc v_lr v_fr_upper v_fr_lower)) (wr := ([] : va_W)) (w1 := (wo_X9_shareBack cI cJ a_x a_la a_lc a_lr a_te a_ha a_as a_lo a_we a_ho a_fr a_pr v_x_trace v_lc v_lr u_14.1 u_14.2)) (w2 := (wo_X9_posted cI cJ a_x a_la a_lc a_lr a_te a_ha a_as a_lo a_we a_ho a_fr a_pr v_x_trace v_lc v_lr u_14.1 u_14.2)) X hP hD hS [0, 1, 2, 3, 4] [] [0, 1, 2, 3, 4] rfl (pa_rV (As := [.int x1]) (rest := []) (T := TX9) X hP hD hS [0, 1, 2, 3, 4] rfl rfl (c_X9_shareBack hg_15 H.size) (cwV 1 hts gX9_posted_X9_shareBack rfl rfl rfl (by decide +kernel) ⟨Nat.le_of_ble_eq_true rfl, Nat.le_of_ble_eq_true rfl⟩) (q0 := 0) rfl rfl rfl hl.1 rfl (Nat.le_of_ble_eq_true rfl) dX9_posted_58 ⟨Nat.zero_le _, Nat.zero_le _⟩) rfl rfl (by decide) rfl rfl (fun H locs hP hD hS => ?_)
            refine lv_aload_n hx hb dX9_posted_61 rfl (lv_at hl 0 rfl) ?_
            refine va_get (D := D) (ci := 8) (v := .ref a_fr) (C := RX9) (T := TX9) (N := 10) hx hb hts il_X9_posted_X9 hown hK hP 0 rfl rfl 7 (by decide) (hts _ fk_X9_posted_1) (fun _ h9 => h9) rfl dX9_posted_62 ?_
            refine lv_iload_n hx hb dX9_posted_65 rfl (lv_at hl 2 rfl) ?_
            refine lv_iconst (v := (2 : Int32)) hx hb dX9_posted_66 (by decide) ?_
            refine lv_isub hx hb dX9_posted_67 ?_
            obtain ⟨u_16, hg_17, hf⟩ := pa_bd hf
            refine pa_kl (wc := (wo_X1_part cI cJ a_fr u_14.1 u_14.2)) (wr := [(a_x, .inr (8, [.ref a_la, .ref a_te, .ref a_ha, .ref a_as, .ref a_lo, .ref a_we, .ref a_ho, .ref a_fr, .ref a_pr, .long v_x_trace])), (a_la, .inr (4, [.ref a_lc, .ref a_lr])), (a_lc, .inl (cI, 32, .inl v_lc)), (a_lr, .inl (cI, 8, .inl v_lr))]) (w1 := (wo_X1_part cI cJ a_fr u_14.1 u_14.2)) (w2 := (wo_X9_posted cI cJ a_x a_la a_lc a_lr a_te a_ha a_as a_lo a_we a_ho a_fr a_pr v_x_trace v_lc v_lr u_14.1 u_14.2)) X hP hD hS [4] [0, 1, 2, 3] [0, 1, 2, 3, 4] rfl (pa_rV (As := [.int (x2 - (2 : Int32))]) (rest := []) (T := TX1) X hP hD hS [4] rfl rfl (c_X1_part hg_17 H.size) (cwV 1 hts gX9_posted_X1_part rfl rfl rfl (by decide +kernel) ⟨Nat.le_of_ble_eq_true rfl, Nat.le_of_ble_eq_true rfl⟩) (q0 := 4) rfl rfl rfl hl.1 rfl (Nat.le_of_ble_eq_true rfl) dX9_posted_68 ⟨Nat.zero_le _, Nat.zero_le _⟩) rfl rfl (by decide) rfl rfl (fun H locs hP hD hS => ?_)
            obtain rfl := Option.some.inj hf
            exact pa_el X hP hD hS dX9_posted_71
        · have hf := (if_pos c_8).symm.trans hf
          refine lv_aload_n hx hb dX9_posted_40 rfl (lv_at hl 0 rfl) ?_
          refine va_get (D := D) (ci := 8) (v := .ref a_la) (C := RX9) (T := TX9) (N := 10) hx hb hts il_X9_posted_X9 hown hK hP 0 rfl rfl 0 (by decide) (hts _ fk_X9_posted_2) (fun _ h9 => h9) rfl dX9_posted_41 ?_
          refine lv_iload_n hx hb dX9_posted_44 rfl (lv_at hl 1 rfl) ?_
          refine lv_iconst (v := (1 : Int32)) hx hb dX9_posted_45 (by decide) ?_
          obtain ⟨u_18, hg_19, hf⟩ := pa_bd hf
          refine pa_ki (wc := (wo_X4_back cI cJ a_la a_lc a_lr v_lc v_lr)) (wr := [(a_x, .inr (8, [.ref a_la, .ref a_te, .ref a_ha, .ref a_as, .ref a_lo, .ref a_we, .ref a_ho, .ref a_fr, .ref a_pr, .long v_x_trace])), (a_fr, .inr (1, [.long v_fr_upper, .long v_fr_lower]))]) (w1 := (wo_X4_back cI cJ a_la a_lc a_lr v_lc v_lr)) (w2 := (wo_X9_posted cI cJ a_x a_la a_lc a_lr a_te a_ha a_as a_lo a_we a_ho a_fr a_pr v_x_trace v_lc v_lr v_fr_upper v_fr_lower)) X hP hD hS [1, 2, 3] [0, 4] [0, 2, 3, 4, 1] rfl (pa_rV (As := [.int x1, .int (1 : Int32)]) (rest := []) (T := TX4) X hP hD hS [1, 2, 3] rfl rfl (c_X4_back hg_19 H.size) (cwV 2 hts gX9_posted_X4_back rfl rfl rfl (by decide +kernel) ⟨Nat.le_of_ble_eq_true rfl, Nat.le_of_ble_eq_true rfl⟩) (q0 := 1) rfl rfl rfl hl.1 rfl (Nat.le_of_ble_eq_true rfl) dX9_posted_46 ⟨Nat.zero_le _, Nat.zero_le _⟩) rfl rfl (by decide) rfl rfl (fun H locs hP hD hS => ?_)
          refine lv_i2l (v := (Int32.toInt64 u_18)) hx hb dX9_posted_49 rfl ?_
          obtain rfl := Option.some.inj hf
          exact pa_el X hP hD hS dX9_posted_50
      · have hf := (if_pos c_7).symm.trans hf
        refine lv_aload_n hx hb dX9_posted_24 rfl (lv_at hl 0 rfl) ?_
        refine va_get (D := D) (ci := 8) (v := .ref a_la) (C := RX9) (T := TX9) (N := 10) hx hb hts il_X9_posted_X9 hown hK hP 0 rfl rfl 0 (by decide) (hts _ fk_X9_posted_2) (fun _ h9 => h9) rfl dX9_posted_25 ?_
        refine lv_iload_n hx hb dX9_posted_28 rfl (lv_at hl 1 rfl) ?_
        refine lv_iconst (v := (0 : Int32)) hx hb dX9_posted_29 (by decide) ?_
        obtain ⟨u_20, hg_21, hf⟩ := pa_bd hf
        refine pa_ki (wc := (wo_X4_back cI cJ a_la a_lc a_lr v_lc v_lr)) (wr := [(a_x, .inr (8, [.ref a_la, .ref a_te, .ref a_ha, .ref a_as, .ref a_lo, .ref a_we, .ref a_ho, .ref a_fr, .ref a_pr, .long v_x_trace])), (a_fr, .inr (1, [.long v_fr_upper, .long v_fr_lower]))]) (w1 := (wo_X4_back cI cJ a_la a_lc a_lr v_lc v_lr)) (w2 := (wo_X9_posted cI cJ a_x a_la a_lc a_lr a_te a_ha a_as a_lo a_we a_ho a_fr a_pr v_x_trace v_lc v_lr v_fr_upper v_fr_lower)) X hP hD hS [1, 2, 3] [0, 4] [0, 2, 3, 4, 1] rfl (pa_rV (As := [.int x1, .int (0 : Int32)]) (rest := []) (T := TX4) X hP hD hS [1, 2, 3] rfl rfl (c_X4_back hg_21 H.size) (cwV 2 hts gX9_posted_X4_back rfl rfl rfl (by decide +kernel) ⟨Nat.le_of_ble_eq_true rfl, Nat.le_of_ble_eq_true rfl⟩) (q0 := 1) rfl rfl rfl hl.1 rfl (Nat.le_of_ble_eq_true rfl) dX9_posted_30 ⟨Nat.zero_le _, Nat.zero_le _⟩) rfl rfl (by decide) rfl rfl (fun H locs hP hD hS => ?_)
        refine lv_i2l (v := (Int32.toInt64 u_20)) hx hb dX9_posted_33 rfl ?_
        obtain rfl := Option.some.inj hf
        exact pa_el X hP hD hS dX9_posted_34
    · have hf := (if_pos c_6).symm.trans hf
      refine lv_ldc2 (v := (-1000000000000000000 : Int64)) hx hb hown (hts _ fk_X9_posted_0) dX9_posted_16 ?_
      obtain rfl := Option.some.inj hf
      exact pa_el X hP hD hS dX9_posted_19
set_option maxHeartbeats 4000000 in
set_option maxRecDepth 100000 in
theorem c_X9_posted {l : Launch} {D : va_G} {cI cJ : ClassId} {g : pa_GT} {a_x a_la a_lc a_lr a_te a_ha a_as a_lo a_we a_ho a_fr a_pr : Nat} {x1 : Int32} {x2 : Int32} {v_x_trace : Int64} {v_lc : Nat → Int32} {v_lr : Nat → Int32} {v_fr_upper : Int64} {v_fr_lower : Int64} {o : Int64 × Int64 × Int64} (hf : f_X9_posted x1 x2 v_lc v_lr v_fr_upper v_fr_lower = some o) : pa_Ml l yX9_posted wsX9_posted rm_X9_posted D cI cJ g [.ref a_x, .int x1, .int x2] (wo_X9_posted cI cJ a_x a_la a_lc a_lr a_te a_ha a_as a_lo a_we a_ho a_fr a_pr v_x_trace v_lc v_lr v_fr_upper v_fr_lower) (wo_X9_posted cI cJ a_x a_la a_lc a_lr a_te a_ha a_as a_lo a_we a_ho a_fr a_pr v_x_trace v_lc v_lr o.2.1 o.2.2) o.1 := by
  intro sz
  refine pa_met (cc := cX9_posted) (maxL := 3) (ret := (some .long)) (lv := [(0, .ref a_x), (1, .int x1), (2, .int x2)]) (by decide) rfl (Nat.le_of_ble_eq_true rfl) rfl ?_
  intro p e s m below meth c X hsz hP hD ls hl
  subst hsz
  exact w_X9_posted_b0 X hf hP hD va_S.rf hl
abbrev wo_X9_type (cI cJ : ClassId) (a_x a_la a_te a_tb a_ha a_as a_lo a_we a_ho a_fr a_pr : Nat) (v_x_trace : Int64) (v_te_length : Int32) (v_te_token : Nat) (v_te_place : Int32) (v_te_end : Int32) (v_te_value : Int32) (v_tb : Nat → Int32) : va_W := [(a_x, .inr (8, [.ref a_la, .ref a_te, .ref a_ha, .ref a_as, .ref a_lo, .ref a_we, .ref a_ho, .ref a_fr, .ref a_pr, .long v_x_trace])), (a_te, .inr (6, [.ref a_tb, .int v_te_length, .ref v_te_token, .int v_te_place, .int v_te_end, .int v_te_value])), (a_tb, .inl (cI, 300, .inl v_tb))]
abbrev rm_X9_type : Room := { frames := 1, cells := 0, slots := 0, locals := 24 }
theorem il_X9_type_X9 : ∀ w ∈ wsX90, w ∈ wsX9_type := by decide +kernel
theorem fk_X9_type_0 : Cond.fieldLink RX9 19 "PostedAsks" "text" "LPostedAsks$Text;" ∈ wsX9_type := by decide +kernel
def f_X9_type (x1 : Int64) (x3 : Int32) (v_te_length : Int32) (v_tb : Nat → Int32) : Option (Int32 × Int32 × (Nat → Int32)) :=
  (f_X9_within x3 (1 : Int32) (8 : Int32)).bind fun u_1 =>
  if u_1 = 0 then
    some ((-1 : Int32), v_te_length, v_tb)
  else
    (f_X6_append x1 x3 v_te_length v_tb).bind fun u_4 =>
    some (u_4.1, u_4.2.1, u_4.2.2)
set_option maxHeartbeats 4000000 in
set_option maxRecDepth 100000 in
theorem w_X9_type_b0 {l : Launch} {D : va_G} {cI cJ : ClassId} {g : pa_GT} {a_x a_la a_te a_tb a_ha a_as a_lo a_we a_ho a_fr a_pr : Nat} {A : Nat → Prop} {p : Program} {e : Env} {s : State} {m : MethodId} {args : Array Value} {below : List Frame} {meth : Method} {c : Code} {x1 : Int64} {x3 : Int32} {v_te_length : Int32} {v_tb : Nat → Int32} {v_x_trace : Int64} {v_te_token : Nat} {v_te_place : Int32} {v_te_end : Int32} {v_te_value : Int32} {o : Int32 × Int32 × (Nat → Int32)} (X : pa_X cX9_type 4 (some .int) RX9 wsX9_type D cI cJ g A p s m args meth c)  (hf : f_X9_type x1 x3 v_te_length v_tb = some o) {H : Heap} {locs : List Loc} (hP : va_P D vwCl (wo_X9_type cI cJ a_x a_la a_te a_tb a_ha a_as a_lo a_we a_ho a_fr a_pr v_x_trace v_te_length v_te_token v_te_place v_te_end v_te_value v_tb) H) (hD : va_D A (wo_X9_type cI cJ a_x a_la a_te a_tb a_ha a_as a_lo a_we a_ho a_fr a_pr v_x_trace v_te_length v_te_token v_te_place v_te_end v_te_value v_tb)) (hS : va_S A s.heap H locs) {ls : Array Slot} (hl : lv_has ls 4 [(0, .ref a_x), (1, .long x1), (3, .int x3)]) : W p l e (headSpec wsX9_type rm_X9_type).room s m args below meth c H locs 0 0 (MQ below (va_Qi (fun r (_ : Unit) => r = o.1) (pa_QB D A (wo_X9_type cI cJ a_x a_la a_te a_tb a_ha a_as a_lo a_we a_ho a_fr a_pr v_x_trace o.2.1 v_te_token v_te_place v_te_end v_te_value o.2.2)) A) args s 0 0 A) (F0 m 0 ls []) := by
  obtain ⟨hx, hb, hr, hml, hown, hts, hK, hA, hG, hlk⟩ := id X
  delta f_X9_type at hf
  refine lv_iload_n hx hb dX9_type_0 rfl (lv_at hl 2 rfl) ?_
  refine lv_iconst (v := (1 : Int32)) hx hb dX9_type_1 (by decide) ?_
  refine lv_bipush (v := (8 : Int32)) hx hb dX9_type_2 (by decide) ?_
  obtain ⟨u_1, hg_2, hf⟩ := pa_bd hf
  refine pa_ki (wc := ([] : va_W)) (wr := [(a_x, .inr (8, [.ref a_la, .ref a_te, .ref a_ha, .ref a_as, .ref a_lo, .ref a_we, .ref a_ho, .ref a_fr, .ref a_pr, .long v_x_trace])), (a_te, .inr (6, [.ref a_tb, .int v_te_length, .ref v_te_token, .int v_te_place, .int v_te_end, .int v_te_value])), (a_tb, .inl (cI, 300, .inl v_tb))]) (w1 := ([] : va_W)) (w2 := (wo_X9_type cI cJ a_x a_la a_te a_tb a_ha a_as a_lo a_we a_ho a_fr a_pr v_x_trace v_te_length v_te_token v_te_place v_te_end v_te_value v_tb)) X hP hD hS [] [0, 1, 2] [0, 1, 2] rfl (pa_rS (As := [.int x3, .int (1 : Int32), .int (8 : Int32)]) (rest := []) X hP hD hS [] rfl rfl (c_X9_within hg_2 H.size) (va_cwS 3 hts gX9_type_X9_within rfl rfl rfl (by decide +kernel) ⟨Nat.le_of_ble_eq_true rfl, Nat.le_of_ble_eq_true rfl⟩) rfl hl.1 rfl (Nat.le_of_ble_eq_true rfl) dX9_type_4 ⟨Nat.zero_le _, Nat.zero_le _⟩) rfl rfl (by decide) rfl rfl (fun H locs hP hD hS => ?_)
  refine lv_if_ne (tgt := 12) hx hb dX9_type_7 (by decide) (fun c_3 => ?_) (fun c_3 => ?_)
  · have hf := (if_neg c_3).symm.trans hf
    refine lv_aload_n hx hb dX9_type_12 rfl (lv_at hl 0 rfl) ?_
    refine va_get (D := D) (ci := 8) (v := .ref a_te) (C := RX9) (T := TX9) (N := 10) hx hb hts il_X9_type_X9 hown hK hP 0 rfl rfl 1 (by decide) (hts _ fk_X9_type_0) (fun _ h9 => h9) rfl dX9_type_13 ?_
    refine lv_lload_n hx hb dX9_type_16 rfl (lv_at hl 1 rfl) ?_
    refine lv_iload_n hx hb dX9_type_17 rfl (lv_at hl 2 rfl) ?_
    obtain ⟨u_4, hg_5, hf⟩ := pa_bd hf
    refine pa_ki (wc := (wo_X6_append cI cJ a_te a_tb v_te_length v_te_token v_te_place v_te_end v_te_value v_tb)) (wr := [(a_x, .inr (8, [.ref a_la, .ref a_te, .ref a_ha, .ref a_as, .ref a_lo, .ref a_we, .ref a_ho, .ref a_fr, .ref a_pr, .long v_x_trace]))]) (w1 := (wo_X6_append cI cJ a_te a_tb u_4.2.1 v_te_token v_te_place v_te_end v_te_value u_4.2.2)) (w2 := (wo_X9_type cI cJ a_x a_la a_te a_tb a_ha a_as a_lo a_we a_ho a_fr a_pr v_x_trace u_4.2.1 v_te_token v_te_place v_te_end v_te_value u_4.2.2)) X hP hD hS [1, 2] [0] [0, 1, 2] rfl (pa_rV (As := [.long x1, .int x3]) (rest := []) (T := TX6) X hP hD hS [1, 2] rfl rfl (c_X6_append hg_5 H.size) (cwV 2 hts gX9_type_X6_append rfl rfl rfl (by decide +kernel) ⟨Nat.le_of_ble_eq_true rfl, Nat.le_of_ble_eq_true rfl⟩) (q0 := 1) rfl rfl rfl hl.1 rfl (Nat.le_of_ble_eq_true rfl) dX9_type_18 ⟨Nat.zero_le _, Nat.zero_le _⟩) rfl rfl (by decide) rfl rfl (fun H locs hP hD hS => ?_)
    obtain rfl := Option.some.inj hf
    exact pa_ei X hP hD hS dX9_type_21
  · have hf := (if_pos c_3).symm.trans hf
    refine lv_iconst (v := (-1 : Int32)) hx hb dX9_type_10 (by decide) ?_
    obtain rfl := Option.some.inj hf
    exact pa_ei X hP hD hS dX9_type_11
set_option maxHeartbeats 4000000 in
set_option maxRecDepth 100000 in
theorem c_X9_type {l : Launch} {D : va_G} {cI cJ : ClassId} {g : pa_GT} {a_x a_la a_te a_tb a_ha a_as a_lo a_we a_ho a_fr a_pr : Nat} {x1 : Int64} {x3 : Int32} {v_x_trace : Int64} {v_te_length : Int32} {v_te_token : Nat} {v_te_place : Int32} {v_te_end : Int32} {v_te_value : Int32} {v_tb : Nat → Int32} {o : Int32 × Int32 × (Nat → Int32)} (hf : f_X9_type x1 x3 v_te_length v_tb = some o) : pa_Mi l yX9_type wsX9_type rm_X9_type D cI cJ g [.ref a_x, .long x1, .int x3] (wo_X9_type cI cJ a_x a_la a_te a_tb a_ha a_as a_lo a_we a_ho a_fr a_pr v_x_trace v_te_length v_te_token v_te_place v_te_end v_te_value v_tb) (wo_X9_type cI cJ a_x a_la a_te a_tb a_ha a_as a_lo a_we a_ho a_fr a_pr v_x_trace o.2.1 v_te_token v_te_place v_te_end v_te_value o.2.2) o.1 := by
  intro sz
  refine pa_met (cc := cX9_type) (maxL := 4) (ret := (some .int)) (lv := [(0, .ref a_x), (1, .long x1), (3, .int x3)]) (by decide) rfl (Nat.le_of_ble_eq_true rfl) rfl ?_
  intro p e s m below meth c X hsz hP hD ls hl
  subst hsz
  exact w_X9_type_b0 X hf hP hD va_S.rf hl
abbrev wo_X9_clear (cI cJ : ClassId) (a_x a_la a_te a_tb a_ha a_as a_lo a_we a_ho a_fr a_pr : Nat) (v_x_trace : Int64) (v_te_length : Int32) (v_te_token : Nat) (v_te_place : Int32) (v_te_end : Int32) (v_te_value : Int32) : va_W := [(a_x, .inr (8, [.ref a_la, .ref a_te, .ref a_ha, .ref a_as, .ref a_lo, .ref a_we, .ref a_ho, .ref a_fr, .ref a_pr, .long v_x_trace])), (a_te, .inr (6, [.ref a_tb, .int v_te_length, .ref v_te_token, .int v_te_place, .int v_te_end, .int v_te_value]))]
abbrev rm_X9_clear : Room := { frames := 1, cells := 0, slots := 0, locals := 21 }
theorem il_X9_clear_X9 : ∀ w ∈ wsX90, w ∈ wsX9_clear := by decide +kernel
theorem fk_X9_clear_0 : Cond.fieldLink RX9 19 "PostedAsks" "text" "LPostedAsks$Text;" ∈ wsX9_clear := by decide +kernel
def f_X9_clear (v_te_length : Int32) : Option (Int32 × Int32) :=
  (f_X6_empty v_te_length).bind fun u_1 =>
  some (u_1.1, u_1.2)
set_option maxHeartbeats 4000000 in
set_option maxRecDepth 100000 in
theorem w_X9_clear_b0 {l : Launch} {D : va_G} {cI cJ : ClassId} {g : pa_GT} {a_x a_la a_te a_tb a_ha a_as a_lo a_we a_ho a_fr a_pr : Nat} {A : Nat → Prop} {p : Program} {e : Env} {s : State} {m : MethodId} {args : Array Value} {below : List Frame} {meth : Method} {c : Code} {v_te_length : Int32} {v_x_trace : Int64} {v_te_token : Nat} {v_te_place : Int32} {v_te_end : Int32} {v_te_value : Int32} {o : Int32 × Int32} (X : pa_X cX9_clear 1 (some .int) RX9 wsX9_clear D cI cJ g A p s m args meth c)  (hf : f_X9_clear v_te_length = some o) {H : Heap} {locs : List Loc} (hP : va_P D vwCl (wo_X9_clear cI cJ a_x a_la a_te a_tb a_ha a_as a_lo a_we a_ho a_fr a_pr v_x_trace v_te_length v_te_token v_te_place v_te_end v_te_value) H) (hD : va_D A (wo_X9_clear cI cJ a_x a_la a_te a_tb a_ha a_as a_lo a_we a_ho a_fr a_pr v_x_trace v_te_length v_te_token v_te_place v_te_end v_te_value)) (hS : va_S A s.heap H locs) {ls : Array Slot} (hl : lv_has ls 1 [(0, .ref a_x)]) : W p l e (headSpec wsX9_clear rm_X9_clear).room s m args below meth c H locs 0 0 (MQ below (va_Qi (fun r (_ : Unit) => r = o.1) (pa_QB D A (wo_X9_clear cI cJ a_x a_la a_te a_tb a_ha a_as a_lo a_we a_ho a_fr a_pr v_x_trace o.2 v_te_token v_te_place v_te_end v_te_value)) A) args s 0 0 A) (F0 m 0 ls []) := by
  obtain ⟨hx, hb, hr, hml, hown, hts, hK, hA, hG, hlk⟩ := id X
  delta f_X9_clear at hf
  refine lv_aload_n hx hb dX9_clear_0 rfl (lv_at hl 0 rfl) ?_
  refine va_get (D := D) (ci := 8) (v := .ref a_te) (C := RX9) (T := TX9) (N := 10) hx hb hts il_X9_clear_X9 hown hK hP 0 rfl rfl 1 (by decide) (hts _ fk_X9_clear_0) (fun _ h9 => h9) rfl dX9_clear_1 ?_
  obtain ⟨u_1, hg_2, hf⟩ := pa_bd hf
  refine pa_ki (wc := (wo_X6_empty cI cJ a_te a_tb v_te_length v_te_token v_te_place v_te_end v_te_value)) (wr := [(a_x, .inr (8, [.ref a_la, .ref a_te, .ref a_ha, .ref a_as, .ref a_lo, .ref a_we, .ref a_ho, .ref a_fr, .ref a_pr, .long v_x_trace]))]) (w1 := (wo_X6_empty cI cJ a_te a_tb u_1.2 v_te_token v_te_place v_te_end v_te_value)) (w2 := (wo_X9_clear cI cJ a_x a_la a_te a_tb a_ha a_as a_lo a_we a_ho a_fr a_pr v_x_trace u_1.2 v_te_token v_te_place v_te_end v_te_value)) X hP hD hS [1] [0] [0, 1] rfl (pa_rV (As := []) (rest := []) (T := TX6) X hP hD hS [1] rfl rfl (c_X6_empty hg_2 H.size) (cwV 0 hts gX9_clear_X6_empty rfl rfl rfl (by decide +kernel) ⟨Nat.le_of_ble_eq_true rfl, Nat.le_of_ble_eq_true rfl⟩) (q0 := 1) rfl rfl rfl hl.1 rfl (Nat.le_of_ble_eq_true rfl) dX9_clear_4 ⟨Nat.zero_le _, Nat.zero_le _⟩) rfl rfl (by decide) rfl rfl (fun H locs hP hD hS => ?_)
  obtain rfl := Option.some.inj hf
  exact pa_ei X hP hD hS dX9_clear_7
set_option maxHeartbeats 4000000 in
set_option maxRecDepth 100000 in
theorem c_X9_clear {l : Launch} {D : va_G} {cI cJ : ClassId} {g : pa_GT} {a_x a_la a_te a_tb a_ha a_as a_lo a_we a_ho a_fr a_pr : Nat}  {v_x_trace : Int64} {v_te_length : Int32} {v_te_token : Nat} {v_te_place : Int32} {v_te_end : Int32} {v_te_value : Int32} {o : Int32 × Int32} (hf : f_X9_clear v_te_length = some o) : pa_Mi l yX9_clear wsX9_clear rm_X9_clear D cI cJ g [.ref a_x] (wo_X9_clear cI cJ a_x a_la a_te a_tb a_ha a_as a_lo a_we a_ho a_fr a_pr v_x_trace v_te_length v_te_token v_te_place v_te_end v_te_value) (wo_X9_clear cI cJ a_x a_la a_te a_tb a_ha a_as a_lo a_we a_ho a_fr a_pr v_x_trace o.2 v_te_token v_te_place v_te_end v_te_value) o.1 := by
  intro sz
  refine pa_met (cc := cX9_clear) (maxL := 1) (ret := (some .int)) (lv := [(0, .ref a_x)]) (by decide) rfl (Nat.le_of_ble_eq_true rfl) rfl ?_
  intro p e s m below meth c X hsz hP hD ls hl
  subst hsz
  exact w_X9_clear_b0 X hf hP hD va_S.rf hl
abbrev wo_X9_habit (cI cJ : ClassId) (a_x a_la a_te a_tb a_ha a_hp a_hl a_hq a_hm a_as a_lo a_we a_ho a_fr a_pr : Nat) (v_x_trace : Int64) (v_te_length : Int32) (v_te_token : Nat) (v_te_place : Int32) (v_te_end : Int32) (v_te_value : Int32) (v_tb : Nat → Int32) (v_ha_finds : Int32) (v_hp : Nat → Int32) (v_hl : Nat → Int32) (v_hq : Nat → Int32) (v_hm : Nat → Int32) : va_W := [(a_x, .inr (8, [.ref a_la, .ref a_te, .ref a_ha, .ref a_as, .ref a_lo, .ref a_we, .ref a_ho, .ref a_fr, .ref a_pr, .long v_x_trace])), (a_te, .inr (6, [.ref a_tb, .int v_te_length, .ref v_te_token, .int v_te_place, .int v_te_end, .int v_te_value])), (a_tb, .inl (cI, 300, .inl v_tb)), (a_ha, .inr (2, [.ref a_hp, .ref a_hl, .ref a_hq, .ref a_hm, .int v_ha_finds])), (a_hp, .inl (cI, 12, .inl v_hp)), (a_hl, .inl (cI, 12, .inl v_hl)), (a_hq, .inl (cI, 12, .inl v_hq)), (a_hm, .inl (cI, 12, .inl v_hm))]
abbrev rm_X9_habit : Room := { frames := 9, cells := 0, slots := 0, locals := 192 }
theorem il_X9_habit_X9 : ∀ w ∈ wsX90, w ∈ wsX9_habit := by decide +kernel
theorem fk_X9_habit_0 : Cond.fieldLink RX9 26 "PostedAsks" "habit" "LPostedAsks$Habit;" ∈ wsX9_habit := by decide +kernel
theorem fk_X9_habit_1 : Cond.fieldLink RX9 19 "PostedAsks" "text" "LPostedAsks$Text;" ∈ wsX9_habit := by decide +kernel
def f_X9_habit (g : pa_GT) (v_te_length : Int32) (v_te_token : Nat) (v_te_place : Int32) (v_te_end : Int32) (v_te_value : Int32) (v_tb : Nat → Int32) (v_ha_finds : Int32) (v_hp : Nat → Int32) (v_hl : Nat → Int32) (v_hq : Nat → Int32) (v_hm : Nat → Int32) : Option (Int32 × Int32 × Nat × Int32 × Int32 × Int32 × Int32 × (Nat → Int32) × (Nat → Int32) × (Nat → Int32) × (Nat → Int32)) :=
  (f_X2_learn g v_te_length v_te_token v_te_place v_te_end v_te_value v_tb v_ha_finds v_hp v_hl v_hq v_hm).bind fun u_1 =>
  some (u_1.1, u_1.2.1, u_1.2.2.1, u_1.2.2.2.1, u_1.2.2.2.2.1, u_1.2.2.2.2.2.1, u_1.2.2.2.2.2.2.1, u_1.2.2.2.2.2.2.2.1, u_1.2.2.2.2.2.2.2.2.1, u_1.2.2.2.2.2.2.2.2.2.1, u_1.2.2.2.2.2.2.2.2.2.2)
set_option maxHeartbeats 4000000 in
set_option maxRecDepth 100000 in
theorem w_X9_habit_b0 {l : Launch} {D : va_G} {cI cJ : ClassId} {g : pa_GT} {a_x a_la a_te a_tb a_ha a_hp a_hl a_hq a_hm a_as a_lo a_we a_ho a_fr a_pr : Nat} {A : Nat → Prop} {p : Program} {e : Env} {s : State} {m : MethodId} {args : Array Value} {below : List Frame} {meth : Method} {c : Code} {v_te_length : Int32} {v_te_token : Nat} {v_te_place : Int32} {v_te_end : Int32} {v_te_value : Int32} {v_tb : Nat → Int32} {v_ha_finds : Int32} {v_hp : Nat → Int32} {v_hl : Nat → Int32} {v_hq : Nat → Int32} {v_hm : Nat → Int32} {v_x_trace : Int64} {o : Int32 × Int32 × Nat × Int32 × Int32 × Int32 × Int32 × (Nat → Int32) × (Nat → Int32) × (Nat → Int32) × (Nat → Int32)} (X : pa_X cX9_habit 1 (some .int) RX9 wsX9_habit D cI cJ g A p s m args meth c)  (hf : f_X9_habit g v_te_length v_te_token v_te_place v_te_end v_te_value v_tb v_ha_finds v_hp v_hl v_hq v_hm = some o) {H : Heap} {locs : List Loc} (hP : va_P D vwCl (wo_X9_habit cI cJ a_x a_la a_te a_tb a_ha a_hp a_hl a_hq a_hm a_as a_lo a_we a_ho a_fr a_pr v_x_trace v_te_length v_te_token v_te_place v_te_end v_te_value v_tb v_ha_finds v_hp v_hl v_hq v_hm) H) (hD : va_D A (wo_X9_habit cI cJ a_x a_la a_te a_tb a_ha a_hp a_hl a_hq a_hm a_as a_lo a_we a_ho a_fr a_pr v_x_trace v_te_length v_te_token v_te_place v_te_end v_te_value v_tb v_ha_finds v_hp v_hl v_hq v_hm)) (hS : va_S A s.heap H locs) {ls : Array Slot} (hl : lv_has ls 1 [(0, .ref a_x)]) : W p l e (headSpec wsX9_habit rm_X9_habit).room s m args below meth c H locs 0 0 (MQ below (va_Qi (fun r (_ : Unit) => r = o.1) (pa_QB D A (wo_X9_habit cI cJ a_x a_la a_te a_tb a_ha a_hp a_hl a_hq a_hm a_as a_lo a_we a_ho a_fr a_pr v_x_trace o.2.1 o.2.2.1 o.2.2.2.1 o.2.2.2.2.1 o.2.2.2.2.2.1 v_tb o.2.2.2.2.2.2.1 o.2.2.2.2.2.2.2.1 o.2.2.2.2.2.2.2.2.1 o.2.2.2.2.2.2.2.2.2.1 o.2.2.2.2.2.2.2.2.2.2)) A) args s 0 0 A) (F0 m 0 ls []) := by
  obtain ⟨hx, hb, hr, hml, hown, hts, hK, hA, hG, hlk⟩ := id X
  delta f_X9_habit at hf
  refine lv_aload_n hx hb dX9_habit_0 rfl (lv_at hl 0 rfl) ?_
  refine va_get (D := D) (ci := 8) (v := .ref a_ha) (C := RX9) (T := TX9) (N := 10) hx hb hts il_X9_habit_X9 hown hK hP 0 rfl rfl 2 (by decide) (hts _ fk_X9_habit_0) (fun _ h9 => h9) rfl dX9_habit_1 ?_
  refine lv_aload_n hx hb dX9_habit_4 rfl (lv_at hl 0 rfl) ?_
  refine va_get (D := D) (ci := 8) (v := .ref a_te) (C := RX9) (T := TX9) (N := 10) hx hb hts il_X9_habit_X9 hown hK hP 0 rfl rfl 1 (by decide) (hts _ fk_X9_habit_1) (fun _ h9 => h9) rfl dX9_habit_5 ?_
  obtain ⟨u_1, hg_2, hf⟩ := pa_bd hf
  refine pa_ki (wc := (wo_X2_learn cI cJ a_te a_tb a_ha a_hp a_hl a_hq a_hm v_te_length v_te_token v_te_place v_te_end v_te_value v_tb v_ha_finds v_hp v_hl v_hq v_hm)) (wr := [(a_x, .inr (8, [.ref a_la, .ref a_te, .ref a_ha, .ref a_as, .ref a_lo, .ref a_we, .ref a_ho, .ref a_fr, .ref a_pr, .long v_x_trace]))]) (w1 := (wo_X2_learn cI cJ a_te a_tb a_ha a_hp a_hl a_hq a_hm u_1.2.1 u_1.2.2.1 u_1.2.2.2.1 u_1.2.2.2.2.1 u_1.2.2.2.2.2.1 v_tb u_1.2.2.2.2.2.2.1 u_1.2.2.2.2.2.2.2.1 u_1.2.2.2.2.2.2.2.2.1 u_1.2.2.2.2.2.2.2.2.2.1 u_1.2.2.2.2.2.2.2.2.2.2)) (w2 := (wo_X9_habit cI cJ a_x a_la a_te a_tb a_ha a_hp a_hl a_hq a_hm a_as a_lo a_we a_ho a_fr a_pr v_x_trace u_1.2.1 u_1.2.2.1 u_1.2.2.2.1 u_1.2.2.2.2.1 u_1.2.2.2.2.2.1 v_tb u_1.2.2.2.2.2.2.1 u_1.2.2.2.2.2.2.2.1 u_1.2.2.2.2.2.2.2.2.1 u_1.2.2.2.2.2.2.2.2.2.1 u_1.2.2.2.2.2.2.2.2.2.2)) X hP hD hS [1, 2, 3, 4, 5, 6, 7] [0] [0, 1, 2, 3, 4, 5, 6, 7] rfl (pa_rV (As := [.ref a_te]) (rest := []) (T := TX2) X hP hD hS [1, 2, 3, 4, 5, 6, 7] rfl rfl (c_X2_learn hg_2 H.size) (cwV 1 hts gX9_habit_X2_learn rfl rfl rfl (by decide +kernel) ⟨Nat.le_of_ble_eq_true rfl, Nat.le_of_ble_eq_true rfl⟩) (q0 := 3) rfl rfl rfl hl.1 rfl (Nat.le_of_ble_eq_true rfl) dX9_habit_8 ⟨Nat.zero_le _, Nat.zero_le _⟩) rfl rfl (by decide) rfl rfl (fun H locs hP hD hS => ?_)
  obtain rfl := Option.some.inj hf
  exact pa_ei X hP hD hS dX9_habit_11
set_option maxHeartbeats 4000000 in
set_option maxRecDepth 100000 in
theorem c_X9_habit {l : Launch} {D : va_G} {cI cJ : ClassId} {g : pa_GT} {a_x a_la a_te a_tb a_ha a_hp a_hl a_hq a_hm a_as a_lo a_we a_ho a_fr a_pr : Nat}  {v_x_trace : Int64} {v_te_length : Int32} {v_te_token : Nat} {v_te_place : Int32} {v_te_end : Int32} {v_te_value : Int32} {v_tb : Nat → Int32} {v_ha_finds : Int32} {v_hp : Nat → Int32} {v_hl : Nat → Int32} {v_hq : Nat → Int32} {v_hm : Nat → Int32} {o : Int32 × Int32 × Nat × Int32 × Int32 × Int32 × Int32 × (Nat → Int32) × (Nat → Int32) × (Nat → Int32) × (Nat → Int32)} (hf : f_X9_habit g v_te_length v_te_token v_te_place v_te_end v_te_value v_tb v_ha_finds v_hp v_hl v_hq v_hm = some o) : pa_Mi l yX9_habit wsX9_habit rm_X9_habit D cI cJ g [.ref a_x] (wo_X9_habit cI cJ a_x a_la a_te a_tb a_ha a_hp a_hl a_hq a_hm a_as a_lo a_we a_ho a_fr a_pr v_x_trace v_te_length v_te_token v_te_place v_te_end v_te_value v_tb v_ha_finds v_hp v_hl v_hq v_hm) (wo_X9_habit cI cJ a_x a_la a_te a_tb a_ha a_hp a_hl a_hq a_hm a_as a_lo a_we a_ho a_fr a_pr v_x_trace o.2.1 o.2.2.1 o.2.2.2.1 o.2.2.2.2.1 o.2.2.2.2.2.1 v_tb o.2.2.2.2.2.2.1 o.2.2.2.2.2.2.2.1 o.2.2.2.2.2.2.2.2.1 o.2.2.2.2.2.2.2.2.2.1 o.2.2.2.2.2.2.2.2.2.2) o.1 := by
  intro sz
  refine pa_met (cc := cX9_habit) (maxL := 1) (ret := (some .int)) (lv := [(0, .ref a_x)]) (by decide) rfl (Nat.le_of_ble_eq_true rfl) rfl ?_
  intro p e s m below meth c X hsz hP hD ls hl
  subst hsz
  exact w_X9_habit_b0 X hf hP hD va_S.rf hl
abbrev rm_X9_isAsking : Room := { frames := 2, cells := 0, slots := 0, locals := 42 }
def f_X9_isAsking (x0 : Int32) (x1 : Int32) (x2 : Int32) : Option (Int32) :=
  (f_X9_isLand x0).bind fun u_1 =>
  if u_1 = 0 then
    some ((0 : Int32))
  else
    (f_X9_within x1 (0 : Int32) (50 : Int32)).bind fun u_4 =>
    if u_4 = 0 then
      some ((0 : Int32))
    else
      (f_X9_within x2 (0 : Int32) (50 : Int32)).bind fun u_7 =>
      if u_7 = 0 then
        some ((0 : Int32))
      else
        some ((1 : Int32))
set_option maxHeartbeats 4000000 in
set_option maxRecDepth 100000 in
theorem w_X9_isAsking_b0 {l : Launch} {D : va_G} {cI cJ : ClassId} {g : pa_GT} {A : Nat → Prop} {p : Program} {e : Env} {s : State} {m : MethodId} {args : Array Value} {below : List Frame} {meth : Method} {c : Code} {x0 : Int32} {x1 : Int32} {x2 : Int32}  {o : Int32} (X : pa_X cX9_isAsking 3 (some .boolean) RX9 wsX9_isAsking D cI cJ g A p s m args meth c)  (hf : f_X9_isAsking x0 x1 x2 = some o) {H : Heap} {locs : List Loc} (hP : va_P D vwCl ([] : va_W) H) (hD : va_D A ([] : va_W)) (hS : va_S A s.heap H locs) {ls : Array Slot} (hl : lv_has ls 3 [(0, .int x0), (1, .int x1), (2, .int x2)]) : W p l e (headSpec wsX9_isAsking rm_X9_isAsking).room s m args below meth c H locs 0 0 (MQ below (va_Qi (fun r (_ : Unit) => r = o) (pa_QB D A ([] : va_W)) A) args s 0 0 A) (F0 m 0 ls []) := by
  obtain ⟨hx, hb, hr, hml, hown, hts, hK, hA, hG, hlk⟩ := id X
  delta f_X9_isAsking at hf
  refine lv_iload_n hx hb dX9_isAsking_0 rfl (lv_at hl 0 rfl) ?_
  obtain ⟨u_1, hg_2, hf⟩ := pa_bd hf
  refine pa_ki (wc := ([] : va_W)) (wr := ([] : va_W)) (w1 := ([] : va_W)) (w2 := ([] : va_W)) X hP hD hS [] [] [] rfl (pa_rS (As := [.int x0]) (rest := []) X hP hD hS [] rfl rfl (c_X9_isLand hg_2 H.size) (va_cwS 1 hts gX9_isAsking_X9_isLand rfl rfl rfl (by decide +kernel) ⟨Nat.le_of_ble_eq_true rfl, Nat.le_of_ble_eq_true rfl⟩) rfl hl.1 rfl (Nat.le_of_ble_eq_true rfl) dX9_isAsking_1 ⟨Nat.zero_le _, Nat.zero_le _⟩) rfl rfl (by decide) rfl rfl (fun H locs hP hD hS => ?_)
  refine lv_if_eq (tgt := 31) hx hb dX9_isAsking_4 (by decide) (fun c_3 => ?_) (fun c_3 => ?_)
  · have hf := (if_pos c_3).symm.trans hf
    refine lv_iconst (v := (0 : Int32)) hx hb dX9_isAsking_31 (by decide) ?_
    obtain rfl := Option.some.inj hf
    exact pa_ez (v := (0 : Int32)) X hP hD hS rfl dX9_isAsking_32
  · have hf := (if_neg c_3).symm.trans hf
    refine lv_iload_n hx hb dX9_isAsking_7 rfl (lv_at hl 1 rfl) ?_
    refine lv_iconst (v := (0 : Int32)) hx hb dX9_isAsking_8 (by decide) ?_
    refine lv_bipush (v := (50 : Int32)) hx hb dX9_isAsking_9 (by decide) ?_
    obtain ⟨u_4, hg_5, hf⟩ := pa_bd hf
    refine pa_ki (wc := ([] : va_W)) (wr := ([] : va_W)) (w1 := ([] : va_W)) (w2 := ([] : va_W)) X hP hD hS [] [] [] rfl (pa_rS (As := [.int x1, .int (0 : Int32), .int (50 : Int32)]) (rest := []) X hP hD hS [] rfl rfl (c_X9_within hg_5 H.size) (va_cwS 3 hts gX9_isAsking_X9_within rfl rfl rfl (by decide +kernel) ⟨Nat.le_of_ble_eq_true rfl, Nat.le_of_ble_eq_true rfl⟩) rfl hl.1 rfl (Nat.le_of_ble_eq_true rfl) dX9_isAsking_11 ⟨Nat.zero_le _, Nat.zero_le _⟩) rfl rfl (by decide) rfl rfl (fun H locs hP hD hS => ?_)
    refine lv_if_eq (tgt := 31) hx hb dX9_isAsking_14 (by decide) (fun c_6 => ?_) (fun c_6 => ?_)
    · have hf := (if_pos c_6).symm.trans hf
      refine lv_iconst (v := (0 : Int32)) hx hb dX9_isAsking_31 (by decide) ?_
      obtain rfl := Option.some.inj hf
      exact pa_ez (v := (0 : Int32)) X hP hD hS rfl dX9_isAsking_32
    · have hf := (if_neg c_6).symm.trans hf
      refine lv_iload_n hx hb dX9_isAsking_17 rfl (lv_at hl 2 rfl) ?_
      refine lv_iconst (v := (0 : Int32)) hx hb dX9_isAsking_18 (by decide) ?_
      refine lv_bipush (v := (50 : Int32)) hx hb dX9_isAsking_19 (by decide) ?_
      obtain ⟨u_7, hg_8, hf⟩ := pa_bd hf
      refine pa_ki (wc := ([] : va_W)) (wr := ([] : va_W)) (w1 := ([] : va_W)) (w2 := ([] : va_W)) X hP hD hS [] [] [] rfl (pa_rS (As := [.int x2, .int (0 : Int32), .int (50 : Int32)]) (rest := []) X hP hD hS [] rfl rfl (c_X9_within hg_8 H.size) (va_cwS 3 hts gX9_isAsking_X9_within rfl rfl rfl (by decide +kernel) ⟨Nat.le_of_ble_eq_true rfl, Nat.le_of_ble_eq_true rfl⟩) rfl hl.1 rfl (Nat.le_of_ble_eq_true rfl) dX9_isAsking_21 ⟨Nat.zero_le _, Nat.zero_le _⟩) rfl rfl (by decide) rfl rfl (fun H locs hP hD hS => ?_)
      refine lv_if_eq (tgt := 31) hx hb dX9_isAsking_24 (by decide) (fun c_9 => ?_) (fun c_9 => ?_)
      · have hf := (if_pos c_9).symm.trans hf
        refine lv_iconst (v := (0 : Int32)) hx hb dX9_isAsking_31 (by decide) ?_
        obtain rfl := Option.some.inj hf
        exact pa_ez (v := (0 : Int32)) X hP hD hS rfl dX9_isAsking_32
      · have hf := (if_neg c_9).symm.trans hf
        refine lv_iconst (v := (1 : Int32)) hx hb dX9_isAsking_27 (by decide) ?_
        refine lv_goto (tgt := 32) hx hb dX9_isAsking_28 (by decide) ?_
        obtain rfl := Option.some.inj hf
        exact pa_ez (v := (1 : Int32)) X hP hD hS rfl dX9_isAsking_32
set_option maxHeartbeats 4000000 in
set_option maxRecDepth 100000 in
theorem c_X9_isAsking {l : Launch} {D : va_G} {cI cJ : ClassId} {g : pa_GT} {x0 : Int32} {x1 : Int32} {x2 : Int32}  {o : Int32} (hf : f_X9_isAsking x0 x1 x2 = some o) : pa_Mi l yX9_isAsking wsX9_isAsking rm_X9_isAsking D cI cJ g [.int x0, .int x1, .int x2] ([] : va_W) ([] : va_W) o := by
  intro sz
  refine pa_met (cc := cX9_isAsking) (maxL := 3) (ret := (some .boolean)) (lv := [(0, .int x0), (1, .int x1), (2, .int x2)]) (by decide) rfl (Nat.le_of_ble_eq_true rfl) rfl ?_
  intro p e s m below meth c X hsz hP hD ls hl
  subst hsz
  exact w_X9_isAsking_b0 X hf hP hD va_S.rf hl
abbrev wo_X9_found (cI cJ : ClassId) (a_x a_la a_lc a_lr a_te a_ha a_hp a_hl a_hq a_hm a_as a_am a_lo a_we a_ho a_fr a_pr : Nat) (v_x_trace : Int64) (v_lc : Nat → Int32) (v_ha_finds : Int32) (v_hp : Nat → Int32) (v_hl : Nat → Int32) (v_as_wantedPoor : Int32) (v_as_wantedRich : Int32) (v_am : Nat → Int32) : va_W := [(a_x, .inr (8, [.ref a_la, .ref a_te, .ref a_ha, .ref a_as, .ref a_lo, .ref a_we, .ref a_ho, .ref a_fr, .ref a_pr, .long v_x_trace])), (a_la, .inr (4, [.ref a_lc, .ref a_lr])), (a_lc, .inl (cI, 32, .inl v_lc)), (a_ha, .inr (2, [.ref a_hp, .ref a_hl, .ref a_hq, .ref a_hm, .int v_ha_finds])), (a_hp, .inl (cI, 12, .inl v_hp)), (a_hl, .inl (cI, 12, .inl v_hl)), (a_as, .inr (0, [.ref a_am, .int v_as_wantedPoor, .int v_as_wantedRich])), (a_am, .inl (cI, 8, .inl v_am))]
abbrev rm_X9_found : Room := { frames := 4, cells := 0, slots := 0, locals := 91 }
theorem il_X9_found_X9 : ∀ w ∈ wsX90, w ∈ wsX9_found := by decide +kernel
theorem fk_X9_found_0 : Cond.fieldLink RX9 33 "PostedAsks" "asker" "LPostedAsks$Asker;" ∈ wsX9_found := by decide +kernel
theorem fk_X9_found_1 : Cond.fieldLink RX9 10 "PostedAsks" "lands" "LPostedAsks$Lands;" ∈ wsX9_found := by decide +kernel
theorem fk_X9_found_2 : Cond.fieldLink RX9 26 "PostedAsks" "habit" "LPostedAsks$Habit;" ∈ wsX9_found := by decide +kernel
def f_X9_found (x1 : Int32) (x2 : Int32) (x3 : Int32) (x4 : Int32) (v_lc : Nat → Int32) (v_ha_finds : Int32) (v_hp : Nat → Int32) (v_hl : Nat → Int32) (v_as_wantedPoor : Int32) (v_as_wantedRich : Int32) (v_am : Nat → Int32) : Option (Int32 × Int32 × Int32 × (Nat → Int32)) :=
  (f_X9_isAsking x1 x2 x3).bind fun u_1 =>
  if u_1 = 0 then
    some ((-1 : Int32), v_as_wantedPoor, v_as_wantedRich, v_am)
  else
    (f_X9_within x4 (0 : Int32) (8 : Int32)).bind fun u_4 =>
    if u_4 = 0 then
      some ((-1 : Int32), v_as_wantedPoor, v_as_wantedRich, v_am)
    else
      (f_X0_ask x1 x2 x3 v_lc v_ha_finds v_hp v_hl v_am).bind fun u_7 =>
      if x4 = (8 : Int32) then
        (f_X0_met (0 : Int32) (0 : Int32) u_7.2.2).bind fun u_12 =>
        some (u_12, u_7.1, u_7.2.1, u_7.2.2)
      else
        (f_X0_metOfGroup x4 u_7.2.2).bind fun u_10 =>
        some (u_10, u_7.1, u_7.2.1, u_7.2.2)
set_option maxHeartbeats 4000000 in
set_option maxRecDepth 100000 in
theorem w_X9_found_b0 {l : Launch} {D : va_G} {cI cJ : ClassId} {g : pa_GT} {a_x a_la a_lc a_lr a_te a_ha a_hp a_hl a_hq a_hm a_as a_am a_lo a_we a_ho a_fr a_pr : Nat} {A : Nat → Prop} {p : Program} {e : Env} {s : State} {m : MethodId} {args : Array Value} {below : List Frame} {meth : Method} {c : Code} {x1 : Int32} {x2 : Int32} {x3 : Int32} {x4 : Int32} {v_lc : Nat → Int32} {v_ha_finds : Int32} {v_hp : Nat → Int32} {v_hl : Nat → Int32} {v_as_wantedPoor : Int32} {v_as_wantedRich : Int32} {v_am : Nat → Int32} {v_x_trace : Int64} {o : Int32 × Int32 × Int32 × (Nat → Int32)} (X : pa_X cX9_found 5 (some .int) RX9 wsX9_found D cI cJ g A p s m args meth c)  (hf : f_X9_found x1 x2 x3 x4 v_lc v_ha_finds v_hp v_hl v_as_wantedPoor v_as_wantedRich v_am = some o) {H : Heap} {locs : List Loc} (hP : va_P D vwCl (wo_X9_found cI cJ a_x a_la a_lc a_lr a_te a_ha a_hp a_hl a_hq a_hm a_as a_am a_lo a_we a_ho a_fr a_pr v_x_trace v_lc v_ha_finds v_hp v_hl v_as_wantedPoor v_as_wantedRich v_am) H) (hD : va_D A (wo_X9_found cI cJ a_x a_la a_lc a_lr a_te a_ha a_hp a_hl a_hq a_hm a_as a_am a_lo a_we a_ho a_fr a_pr v_x_trace v_lc v_ha_finds v_hp v_hl v_as_wantedPoor v_as_wantedRich v_am)) (hS : va_S A s.heap H locs) {ls : Array Slot} (hl : lv_has ls 5 [(0, .ref a_x), (1, .int x1), (2, .int x2), (3, .int x3), (4, .int x4)]) : W p l e (headSpec wsX9_found rm_X9_found).room s m args below meth c H locs 0 0 (MQ below (va_Qi (fun r (_ : Unit) => r = o.1) (pa_QB D A (wo_X9_found cI cJ a_x a_la a_lc a_lr a_te a_ha a_hp a_hl a_hq a_hm a_as a_am a_lo a_we a_ho a_fr a_pr v_x_trace v_lc v_ha_finds v_hp v_hl o.2.1 o.2.2.1 o.2.2.2)) A) args s 0 0 A) (F0 m 0 ls []) := by
  obtain ⟨hx, hb, hr, hml, hown, hts, hK, hA, hG, hlk⟩ := id X
  delta f_X9_found at hf
  refine lv_iload_n hx hb dX9_found_0 rfl (lv_at hl 1 rfl) ?_
  refine lv_iload_n hx hb dX9_found_1 rfl (lv_at hl 2 rfl) ?_
  refine lv_iload_n hx hb dX9_found_2 rfl (lv_at hl 3 rfl) ?_
  obtain ⟨u_1, hg_2, hf⟩ := pa_bd hf
  refine pa_ki (wc := ([] : va_W)) (wr := [(a_x, .inr (8, [.ref a_la, .ref a_te, .ref a_ha, .ref a_as, .ref a_lo, .ref a_we, .ref a_ho, .ref a_fr, .ref a_pr, .long v_x_trace])), (a_la, .inr (4, [.ref a_lc, .ref a_lr])), (a_lc, .inl (cI, 32, .inl v_lc)), (a_ha, .inr (2, [.ref a_hp, .ref a_hl, .ref a_hq, .ref a_hm, .int v_ha_finds])), (a_hp, .inl (cI, 12, .inl v_hp)), (a_hl, .inl (cI, 12, .inl v_hl)), (a_as, .inr (0, [.ref a_am, .int v_as_wantedPoor, .int v_as_wantedRich])), (a_am, .inl (cI, 8, .inl v_am))]) (w1 := ([] : va_W)) (w2 := (wo_X9_found cI cJ a_x a_la a_lc a_lr a_te a_ha a_hp a_hl a_hq a_hm a_as a_am a_lo a_we a_ho a_fr a_pr v_x_trace v_lc v_ha_finds v_hp v_hl v_as_wantedPoor v_as_wantedRich v_am)) X hP hD hS [] [0, 1, 2, 3, 4, 5, 6, 7] [0, 1, 2, 3, 4, 5, 6, 7] rfl (pa_rS (As := [.int x1, .int x2, .int x3]) (rest := []) X hP hD hS [] rfl rfl (c_X9_isAsking hg_2 H.size) (va_cwS 3 hts gX9_found_X9_isAsking rfl rfl rfl (by decide +kernel) ⟨Nat.le_of_ble_eq_true rfl, Nat.le_of_ble_eq_true rfl⟩) rfl hl.1 rfl (Nat.le_of_ble_eq_true rfl) dX9_found_3 ⟨Nat.zero_le _, Nat.zero_le _⟩) rfl rfl (by decide) rfl rfl (fun H locs hP hD hS => ?_)
  refine lv_if_eq (tgt := 20) hx hb dX9_found_6 (by decide) (fun c_3 => ?_) (fun c_3 => ?_)
  · have hf := (if_pos c_3).symm.trans hf
    refine lv_iconst (v := (-1 : Int32)) hx hb dX9_found_20 (by decide) ?_
    obtain rfl := Option.some.inj hf
    exact pa_ei X hP hD hS dX9_found_21
  · have hf := (if_neg c_3).symm.trans hf
    refine lv_iload hx hb dX9_found_9 (lv_at hl 4 rfl) ?_
    refine lv_iconst (v := (0 : Int32)) hx hb dX9_found_11 (by decide) ?_
    refine lv_bipush (v := (8 : Int32)) hx hb dX9_found_12 (by decide) ?_
    obtain ⟨u_4, hg_5, hf⟩ := pa_bd hf
    refine pa_ki (wc := ([] : va_W)) (wr := [(a_x, .inr (8, [.ref a_la, .ref a_te, .ref a_ha, .ref a_as, .ref a_lo, .ref a_we, .ref a_ho, .ref a_fr, .ref a_pr, .long v_x_trace])), (a_la, .inr (4, [.ref a_lc, .ref a_lr])), (a_lc, .inl (cI, 32, .inl v_lc)), (a_ha, .inr (2, [.ref a_hp, .ref a_hl, .ref a_hq, .ref a_hm, .int v_ha_finds])), (a_hp, .inl (cI, 12, .inl v_hp)), (a_hl, .inl (cI, 12, .inl v_hl)), (a_as, .inr (0, [.ref a_am, .int v_as_wantedPoor, .int v_as_wantedRich])), (a_am, .inl (cI, 8, .inl v_am))]) (w1 := ([] : va_W)) (w2 := (wo_X9_found cI cJ a_x a_la a_lc a_lr a_te a_ha a_hp a_hl a_hq a_hm a_as a_am a_lo a_we a_ho a_fr a_pr v_x_trace v_lc v_ha_finds v_hp v_hl v_as_wantedPoor v_as_wantedRich v_am)) X hP hD hS [] [0, 1, 2, 3, 4, 5, 6, 7] [0, 1, 2, 3, 4, 5, 6, 7] rfl (pa_rS (As := [.int x4, .int (0 : Int32), .int (8 : Int32)]) (rest := []) X hP hD hS [] rfl rfl (c_X9_within hg_5 H.size) (va_cwS 3 hts gX9_found_X9_within rfl rfl rfl (by decide +kernel) ⟨Nat.le_of_ble_eq_true rfl, Nat.le_of_ble_eq_true rfl⟩) rfl hl.1 rfl (Nat.le_of_ble_eq_true rfl) dX9_found_14 ⟨Nat.zero_le _, Nat.zero_le _⟩) rfl rfl (by decide) rfl rfl (fun H locs hP hD hS => ?_)
    refine lv_if_ne (tgt := 22) hx hb dX9_found_17 (by decide) (fun c_6 => ?_) (fun c_6 => ?_)
    · have hf := (if_neg c_6).symm.trans hf
      refine lv_aload_n hx hb dX9_found_22 rfl (lv_at hl 0 rfl) ?_
      refine va_get (D := D) (ci := 8) (v := .ref a_as) (C := RX9) (T := TX9) (N := 10) hx hb hts il_X9_found_X9 hown hK hP 0 rfl rfl 3 (by decide) (hts _ fk_X9_found_0) (fun _ h9 => h9) rfl dX9_found_23 ?_
      refine lv_aload_n hx hb dX9_found_26 rfl (lv_at hl 0 rfl) ?_
      refine va_get (D := D) (ci := 8) (v := .ref a_la) (C := RX9) (T := TX9) (N := 10) hx hb hts il_X9_found_X9 hown hK hP 0 rfl rfl 0 (by decide) (hts _ fk_X9_found_1) (fun _ h9 => h9) rfl dX9_found_27 ?_
      refine lv_iload_n hx hb dX9_found_30 rfl (lv_at hl 1 rfl) ?_
      refine lv_aload_n hx hb dX9_found_31 rfl (lv_at hl 0 rfl) ?_
      refine va_get (D := D) (ci := 8) (v := .ref a_ha) (C := RX9) (T := TX9) (N := 10) hx hb hts il_X9_found_X9 hown hK hP 0 rfl rfl 2 (by decide) (hts _ fk_X9_found_2) (fun _ h9 => h9) rfl dX9_found_32 ?_
      refine lv_iload_n hx hb dX9_found_35 rfl (lv_at hl 2 rfl) ?_
      refine lv_iload_n hx hb dX9_found_36 rfl (lv_at hl 3 rfl) ?_
      obtain ⟨u_7, hg_8, hf⟩ := pa_bd hf
      refine pa_kv (wc := (wo_X0_ask cI cJ a_la a_lc a_lr a_ha a_hp a_hl a_hq a_hm a_as a_am v_lc v_ha_finds v_hp v_hl v_as_wantedPoor v_as_wantedRich v_am)) (wr := [(a_x, .inr (8, [.ref a_la, .ref a_te, .ref a_ha, .ref a_as, .ref a_lo, .ref a_we, .ref a_ho, .ref a_fr, .ref a_pr, .long v_x_trace]))]) (w1 := (wo_X0_ask cI cJ a_la a_lc a_lr a_ha a_hp a_hl a_hq a_hm a_as a_am v_lc v_ha_finds v_hp v_hl u_7.1 u_7.2.1 u_7.2.2)) (w2 := (wo_X9_found cI cJ a_x a_la a_lc a_lr a_te a_ha a_hp a_hl a_hq a_hm a_as a_am a_lo a_we a_ho a_fr a_pr v_x_trace v_lc v_ha_finds v_hp v_hl u_7.1 u_7.2.1 u_7.2.2)) X hP hD hS [1, 2, 3, 4, 5, 6, 7] [0] [0, 1, 2, 3, 4, 5, 6, 7] rfl (pa_rV (As := [.ref a_la, .int x1, .ref a_ha, .int x2, .int x3]) (rest := []) (T := TX0) X hP hD hS [1, 2, 3, 4, 5, 6, 7] rfl rfl (c_X0_ask hg_8 H.size) (cwV 5 hts gX9_found_X0_ask rfl rfl rfl (by decide +kernel) ⟨Nat.le_of_ble_eq_true rfl, Nat.le_of_ble_eq_true rfl⟩) (q0 := 6) rfl rfl rfl hl.1 rfl (Nat.le_of_ble_eq_true rfl) dX9_found_37 ⟨Nat.zero_le _, Nat.zero_le _⟩) rfl rfl (by decide) rfl rfl (fun H locs hP hD hS => ?_)
      refine lv_iload hx hb dX9_found_40 (lv_at hl 4 rfl) ?_
      refine lv_bipush (v := (8 : Int32)) hx hb dX9_found_42 (by decide) ?_
      refine lv_icmp_ne (tgt := 59) hx hb dX9_found_44 (by decide) (fun c_9 => ?_) (fun c_9 => ?_)
      · have hf := (if_neg c_9).symm.trans hf
        refine lv_aload_n hx hb dX9_found_59 rfl (lv_at hl 0 rfl) ?_
        refine va_get (D := D) (ci := 8) (v := .ref a_as) (C := RX9) (T := TX9) (N := 10) hx hb hts il_X9_found_X9 hown hK hP 0 rfl rfl 3 (by decide) (hts _ fk_X9_found_0) (fun _ h9 => h9) rfl dX9_found_60 ?_
        refine lv_iload hx hb dX9_found_63 (lv_at hl 4 rfl) ?_
        obtain ⟨u_10, hg_11, hf⟩ := pa_bd hf
        refine pa_ki (wc := (wo_X0_metOfGroup cI cJ a_as a_am u_7.1 u_7.2.1 u_7.2.2)) (wr := [(a_x, .inr (8, [.ref a_la, .ref a_te, .ref a_ha, .ref a_as, .ref a_lo, .ref a_we, .ref a_ho, .ref a_fr, .ref a_pr, .long v_x_trace])), (a_la, .inr (4, [.ref a_lc, .ref a_lr])), (a_lc, .inl (cI, 32, .inl v_lc)), (a_ha, .inr (2, [.ref a_hp, .ref a_hl, .ref a_hq, .ref a_hm, .int v_ha_finds])), (a_hp, .inl (cI, 12, .inl v_hp)), (a_hl, .inl (cI, 12, .inl v_hl))]) (w1 := (wo_X0_metOfGroup cI cJ a_as a_am u_7.1 u_7.2.1 u_7.2.2)) (w2 := (wo_X9_found cI cJ a_x a_la a_lc a_lr a_te a_ha a_hp a_hl a_hq a_hm a_as a_am a_lo a_we a_ho a_fr a_pr v_x_trace v_lc v_ha_finds v_hp v_hl u_7.1 u_7.2.1 u_7.2.2)) X hP hD hS [6, 7] [0, 1, 2, 3, 4, 5] [0, 1, 2, 3, 4, 5, 6, 7] rfl (pa_rV (As := [.int x4]) (rest := []) (T := TX0) X hP hD hS [6, 7] rfl rfl (c_X0_metOfGroup hg_11 H.size) (cwV 1 hts gX9_found_X0_metOfGroup rfl rfl rfl (by decide +kernel) ⟨Nat.le_of_ble_eq_true rfl, Nat.le_of_ble_eq_true rfl⟩) (q0 := 6) rfl rfl rfl hl.1 rfl (Nat.le_of_ble_eq_true rfl) dX9_found_65 ⟨Nat.zero_le _, Nat.zero_le _⟩) rfl rfl (by decide) rfl rfl (fun H locs hP hD hS => ?_)
        obtain rfl := Option.some.inj hf
        exact pa_ei X hP hD hS dX9_found_68
      · have hf := (if_pos c_9).symm.trans hf
        refine lv_aload_n hx hb dX9_found_47 rfl (lv_at hl 0 rfl) ?_
        refine va_get (D := D) (ci := 8) (v := .ref a_as) (C := RX9) (T := TX9) (N := 10) hx hb hts il_X9_found_X9 hown hK hP 0 rfl rfl 3 (by decide) (hts _ fk_X9_found_0) (fun _ h9 => h9) rfl dX9_found_48 ?_
        refine lv_iconst (v := (0 : Int32)) hx hb dX9_found_51 (by decide) ?_
        refine lv_iconst (v := (0 : Int32)) hx hb dX9_found_52 (by decide) ?_
        obtain ⟨u_12, hg_13, hf⟩ := pa_bd hf
        refine pa_ki (wc := (wo_X0_met cI cJ a_as a_am u_7.1 u_7.2.1 u_7.2.2)) (wr := [(a_x, .inr (8, [.ref a_la, .ref a_te, .ref a_ha, .ref a_as, .ref a_lo, .ref a_we, .ref a_ho, .ref a_fr, .ref a_pr, .long v_x_trace])), (a_la, .inr (4, [.ref a_lc, .ref a_lr])), (a_lc, .inl (cI, 32, .inl v_lc)), (a_ha, .inr (2, [.ref a_hp, .ref a_hl, .ref a_hq, .ref a_hm, .int v_ha_finds])), (a_hp, .inl (cI, 12, .inl v_hp)), (a_hl, .inl (cI, 12, .inl v_hl))]) (w1 := (wo_X0_met cI cJ a_as a_am u_7.1 u_7.2.1 u_7.2.2)) (w2 := (wo_X9_found cI cJ a_x a_la a_lc a_lr a_te a_ha a_hp a_hl a_hq a_hm a_as a_am a_lo a_we a_ho a_fr a_pr v_x_trace v_lc v_ha_finds v_hp v_hl u_7.1 u_7.2.1 u_7.2.2)) X hP hD hS [6, 7] [0, 1, 2, 3, 4, 5] [0, 1, 2, 3, 4, 5, 6, 7] rfl (pa_rV (As := [.int (0 : Int32), .int (0 : Int32)]) (rest := []) (T := TX0) X hP hD hS [6, 7] rfl rfl (c_X0_met hg_13 H.size) (cwV 2 hts gX9_found_X0_met rfl rfl rfl (by decide +kernel) ⟨Nat.le_of_ble_eq_true rfl, Nat.le_of_ble_eq_true rfl⟩) (q0 := 6) rfl rfl rfl hl.1 rfl (Nat.le_of_ble_eq_true rfl) dX9_found_53 ⟨Nat.zero_le _, Nat.zero_le _⟩) rfl rfl (by decide) rfl rfl (fun H locs hP hD hS => ?_)
        refine lv_goto (tgt := 68) hx hb dX9_found_56 (by decide) ?_
        obtain rfl := Option.some.inj hf
        exact pa_ei X hP hD hS dX9_found_68
    · have hf := (if_pos c_6).symm.trans hf
      refine lv_iconst (v := (-1 : Int32)) hx hb dX9_found_20 (by decide) ?_
      obtain rfl := Option.some.inj hf
      exact pa_ei X hP hD hS dX9_found_21
set_option maxHeartbeats 4000000 in
set_option maxRecDepth 100000 in
theorem c_X9_found {l : Launch} {D : va_G} {cI cJ : ClassId} {g : pa_GT} {a_x a_la a_lc a_lr a_te a_ha a_hp a_hl a_hq a_hm a_as a_am a_lo a_we a_ho a_fr a_pr : Nat} {x1 : Int32} {x2 : Int32} {x3 : Int32} {x4 : Int32} {v_x_trace : Int64} {v_lc : Nat → Int32} {v_ha_finds : Int32} {v_hp : Nat → Int32} {v_hl : Nat → Int32} {v_as_wantedPoor : Int32} {v_as_wantedRich : Int32} {v_am : Nat → Int32} {o : Int32 × Int32 × Int32 × (Nat → Int32)} (hf : f_X9_found x1 x2 x3 x4 v_lc v_ha_finds v_hp v_hl v_as_wantedPoor v_as_wantedRich v_am = some o) : pa_Mi l yX9_found wsX9_found rm_X9_found D cI cJ g [.ref a_x, .int x1, .int x2, .int x3, .int x4] (wo_X9_found cI cJ a_x a_la a_lc a_lr a_te a_ha a_hp a_hl a_hq a_hm a_as a_am a_lo a_we a_ho a_fr a_pr v_x_trace v_lc v_ha_finds v_hp v_hl v_as_wantedPoor v_as_wantedRich v_am) (wo_X9_found cI cJ a_x a_la a_lc a_lr a_te a_ha a_hp a_hl a_hq a_hm a_as a_am a_lo a_we a_ho a_fr a_pr v_x_trace v_lc v_ha_finds v_hp v_hl o.2.1 o.2.2.1 o.2.2.2) o.1 := by
  intro sz
  refine pa_met (cc := cX9_found) (maxL := 5) (ret := (some .int)) (lv := [(0, .ref a_x), (1, .int x1), (2, .int x2), (3, .int x3), (4, .int x4)]) (by decide) rfl (Nat.le_of_ble_eq_true rfl) rfl ?_
  intro p e s m below meth c X hsz hP hD ls hl
  subst hsz
  exact w_X9_found_b0 X hf hP hD va_S.rf hl
abbrev wo_X9_weighMeans (cI cJ : ClassId) (a_x a_la a_lc a_lr a_te a_ha a_as a_am a_lo a_we a_ho a_fr a_pr : Nat) (v_x_trace : Int64) (v_lc : Nat → Int32) (v_as_wantedPoor : Int32) (v_as_wantedRich : Int32) (v_am : Nat → Int32) (v_fr_upper : Int64) (v_fr_lower : Int64) : va_W := [(a_x, .inr (8, [.ref a_la, .ref a_te, .ref a_ha, .ref a_as, .ref a_lo, .ref a_we, .ref a_ho, .ref a_fr, .ref a_pr, .long v_x_trace])), (a_la, .inr (4, [.ref a_lc, .ref a_lr])), (a_lc, .inl (cI, 32, .inl v_lc)), (a_as, .inr (0, [.ref a_am, .int v_as_wantedPoor, .int v_as_wantedRich])), (a_am, .inl (cI, 8, .inl v_am)), (a_fr, .inr (1, [.long v_fr_upper, .long v_fr_lower]))]
abbrev rm_X9_weighMeans : Room := { frames := 3, cells := 0, slots := 0, locals := 80 }
theorem il_X9_weighMeans_X9 : ∀ w ∈ wsX90, w ∈ wsX9_weighMeans := by decide +kernel
theorem fk_X9_weighMeans_0 : Cond.fieldLink RX9 10 "PostedAsks" "lands" "LPostedAsks$Lands;" ∈ wsX9_weighMeans := by decide +kernel
theorem fk_X9_weighMeans_1 : Cond.fieldLink RX9 33 "PostedAsks" "asker" "LPostedAsks$Asker;" ∈ wsX9_weighMeans := by decide +kernel
theorem fk_X9_weighMeans_2 : Cond.fieldLink RX9 61 "PostedAsks" "fraction" "LPostedAsks$Fraction;" ∈ wsX9_weighMeans := by decide +kernel
def f_X9_weighMeans (x1 : Int32) (x2 : Int32) (v_lc : Nat → Int32) (v_am : Nat → Int32) (v_fr_upper : Int64) (v_fr_lower : Int64) : Option (Int64 × Int64) :=
  (f_X4_matching x1 (2 : Int32) x2 v_lc).bind fun u_1 =>
  if (lg_cmp (Int32.toInt64 u_1) (0 : Int64)) ≤ 0 then
    some (v_fr_upper, v_fr_lower)
  else
    (f_X0_met (3 : Int32) (x2 ||| (1 : Int32)) v_am).bind fun u_4 =>
    (f_X0_met (2 : Int32) x2 v_am).bind fun u_6 =>
    (f_X4_having x1 (0 : Int32) v_lc).bind fun u_8 =>
    (f_X1_add ((Int32.toInt64 u_4) * (Int32.toInt64 u_1)) ((Int32.toInt64 u_6) * (Int32.toInt64 u_8)) v_fr_upper v_fr_lower).bind fun u_10 =>
    some (u_10.1, u_10.2)
set_option maxHeartbeats 4000000 in
set_option maxRecDepth 100000 in
theorem w_X9_weighMeans_b0 {l : Launch} {D : va_G} {cI cJ : ClassId} {g : pa_GT} {a_x a_la a_lc a_lr a_te a_ha a_as a_am a_lo a_we a_ho a_fr a_pr : Nat} {A : Nat → Prop} {p : Program} {e : Env} {s : State} {m : MethodId} {args : Array Value} {below : List Frame} {meth : Method} {c : Code} {x1 : Int32} {x2 : Int32} {v_lc : Nat → Int32} {v_am : Nat → Int32} {v_fr_upper : Int64} {v_fr_lower : Int64} {v_x_trace : Int64} {v_as_wantedPoor : Int32} {v_as_wantedRich : Int32} {o : Int64 × Int64} (X : pa_X cX9_weighMeans 9 none RX9 wsX9_weighMeans D cI cJ g A p s m args meth c)  (hf : f_X9_weighMeans x1 x2 v_lc v_am v_fr_upper v_fr_lower = some o) {H : Heap} {locs : List Loc} (hP : va_P D vwCl (wo_X9_weighMeans cI cJ a_x a_la a_lc a_lr a_te a_ha a_as a_am a_lo a_we a_ho a_fr a_pr v_x_trace v_lc v_as_wantedPoor v_as_wantedRich v_am v_fr_upper v_fr_lower) H) (hD : va_D A (wo_X9_weighMeans cI cJ a_x a_la a_lc a_lr a_te a_ha a_as a_am a_lo a_we a_ho a_fr a_pr v_x_trace v_lc v_as_wantedPoor v_as_wantedRich v_am v_fr_upper v_fr_lower)) (hS : va_S A s.heap H locs) {ls : Array Slot} (hl : lv_has ls 9 [(0, .ref a_x), (1, .int x1), (2, .int x2)]) : W p l e (headSpec wsX9_weighMeans rm_X9_weighMeans).room s m args below meth c H locs 0 0 (MQ below (va_Qv (fun (_ : Unit) => True) (pa_QB D A (wo_X9_weighMeans cI cJ a_x a_la a_lc a_lr a_te a_ha a_as a_am a_lo a_we a_ho a_fr a_pr v_x_trace v_lc v_as_wantedPoor v_as_wantedRich v_am o.1 o.2)) A) args s 0 0 A) (F0 m 0 ls []) := by
  obtain ⟨hx, hb, hr, hml, hown, hts, hK, hA, hG, hlk⟩ := id X
  delta f_X9_weighMeans at hf
  refine lv_aload_n hx hb dX9_weighMeans_0 rfl (lv_at hl 0 rfl) ?_
  refine va_get (D := D) (ci := 8) (v := .ref a_la) (C := RX9) (T := TX9) (N := 10) hx hb hts il_X9_weighMeans_X9 hown hK hP 0 rfl rfl 0 (by decide) (hts _ fk_X9_weighMeans_0) (fun _ h9 => h9) rfl dX9_weighMeans_1 ?_
  refine lv_iload_n hx hb dX9_weighMeans_4 rfl (lv_at hl 1 rfl) ?_
  refine lv_iconst (v := (2 : Int32)) hx hb dX9_weighMeans_5 (by decide) ?_
  refine lv_iload_n hx hb dX9_weighMeans_6 rfl (lv_at hl 2 rfl) ?_
  obtain ⟨u_1, hg_2, hf⟩ := pa_bd hf
  refine pa_ki (wc := (wo_X4_matching cI cJ a_la a_lc a_lr v_lc)) (wr := [(a_x, .inr (8, [.ref a_la, .ref a_te, .ref a_ha, .ref a_as, .ref a_lo, .ref a_we, .ref a_ho, .ref a_fr, .ref a_pr, .long v_x_trace])), (a_as, .inr (0, [.ref a_am, .int v_as_wantedPoor, .int v_as_wantedRich])), (a_am, .inl (cI, 8, .inl v_am)), (a_fr, .inr (1, [.long v_fr_upper, .long v_fr_lower]))]) (w1 := (wo_X4_matching cI cJ a_la a_lc a_lr v_lc)) (w2 := (wo_X9_weighMeans cI cJ a_x a_la a_lc a_lr a_te a_ha a_as a_am a_lo a_we a_ho a_fr a_pr v_x_trace v_lc v_as_wantedPoor v_as_wantedRich v_am v_fr_upper v_fr_lower)) X hP hD hS [1, 2] [0, 3, 4, 5] [0, 4, 5, 1, 2, 3] rfl (pa_rV (As := [.int x1, .int (2 : Int32), .int x2]) (rest := []) (T := TX4) X hP hD hS [1, 2] rfl rfl (c_X4_matching hg_2 H.size) (cwV 3 hts gX9_weighMeans_X4_matching rfl rfl rfl (by decide +kernel) ⟨Nat.le_of_ble_eq_true rfl, Nat.le_of_ble_eq_true rfl⟩) (q0 := 1) rfl rfl rfl hl.1 rfl (Nat.le_of_ble_eq_true rfl) dX9_weighMeans_7 ⟨Nat.zero_le _, Nat.zero_le _⟩) rfl rfl (by decide) rfl rfl (fun H locs hP hD hS => ?_)
  refine lv_i2l (v := (Int32.toInt64 u_1)) hx hb dX9_weighMeans_10 rfl ?_
  refine lv_lstore_n (lv' := [(3, .long (Int32.toInt64 u_1)), (0, .ref a_x), (1, .int x1), (2, .int x2)]) hx hb dX9_weighMeans_11 rfl hl (by decide) rfl (fun ls hl => ?_)
  refine lv_lload_n hx hb dX9_weighMeans_12 rfl (lv_at hl 0 rfl) ?_
  refine lv_lconst (v := (0 : Int64)) hx hb dX9_weighMeans_13 (by decide) ?_
  refine W.lcmp hx hb dX9_weighMeans_14 ?_
  refine lv_if_le (tgt := 68) hx hb dX9_weighMeans_15 (by decide) (fun c_3 => ?_) (fun c_3 => ?_)
  · have hf := (if_pos c_3).symm.trans hf
    obtain rfl := Option.some.inj hf
    exact pa_ev X hP hD hS dX9_weighMeans_68
  · have hf := (if_neg c_3).symm.trans hf
    refine lv_aload_n hx hb dX9_weighMeans_18 rfl (lv_at hl 1 rfl) ?_
    refine va_get (D := D) (ci := 8) (v := .ref a_as) (C := RX9) (T := TX9) (N := 10) hx hb hts il_X9_weighMeans_X9 hown hK hP 0 rfl rfl 3 (by decide) (hts _ fk_X9_weighMeans_1) (fun _ h9 => h9) rfl dX9_weighMeans_19 ?_
    refine lv_iconst (v := (3 : Int32)) hx hb dX9_weighMeans_22 (by decide) ?_
    refine lv_iload_n hx hb dX9_weighMeans_23 rfl (lv_at hl 3 rfl) ?_
    refine lv_iconst (v := (1 : Int32)) hx hb dX9_weighMeans_24 (by decide) ?_
    refine lv_ior hx hb dX9_weighMeans_25 ?_
    obtain ⟨u_4, hg_5, hf⟩ := pa_bd hf
    refine pa_ki (wc := (wo_X0_met cI cJ a_as a_am v_as_wantedPoor v_as_wantedRich v_am)) (wr := [(a_x, .inr (8, [.ref a_la, .ref a_te, .ref a_ha, .ref a_as, .ref a_lo, .ref a_we, .ref a_ho, .ref a_fr, .ref a_pr, .long v_x_trace])), (a_la, .inr (4, [.ref a_lc, .ref a_lr])), (a_lc, .inl (cI, 32, .inl v_lc)), (a_fr, .inr (1, [.long v_fr_upper, .long v_fr_lower]))]) (w1 := (wo_X0_met cI cJ a_as a_am v_as_wantedPoor v_as_wantedRich v_am)) (w2 := (wo_X9_weighMeans cI cJ a_x a_la a_lc a_lr a_te a_ha a_as a_am a_lo a_we a_ho a_fr a_pr v_x_trace v_lc v_as_wantedPoor v_as_wantedRich v_am v_fr_upper v_fr_lower)) X hP hD hS [3, 4] [0, 1, 2, 5] [0, 1, 2, 4, 5, 3] rfl (pa_rV (As := [.int (3 : Int32), .int (x2 ||| (1 : Int32))]) (rest := []) (T := TX0) X hP hD hS [3, 4] rfl rfl (c_X0_met hg_5 H.size) (cwV 2 hts gX9_weighMeans_X0_met rfl rfl rfl (by decide +kernel) ⟨Nat.le_of_ble_eq_true rfl, Nat.le_of_ble_eq_true rfl⟩) (q0 := 3) rfl rfl rfl hl.1 rfl (Nat.le_of_ble_eq_true rfl) dX9_weighMeans_26 ⟨Nat.zero_le _, Nat.zero_le _⟩) rfl rfl (by decide) rfl rfl (fun H locs hP hD hS => ?_)
    refine lv_i2l (v := (Int32.toInt64 u_4)) hx hb dX9_weighMeans_29 rfl ?_
    refine lv_lstore (lv' := [(5, .long (Int32.toInt64 u_4)), (3, .long (Int32.toInt64 u_1)), (0, .ref a_x), (1, .int x1), (2, .int x2)]) hx hb dX9_weighMeans_30 hl (by decide) rfl (fun ls hl => ?_)
    refine lv_aload_n hx hb dX9_weighMeans_32 rfl (lv_at hl 2 rfl) ?_
    refine va_get (D := D) (ci := 8) (v := .ref a_as) (C := RX9) (T := TX9) (N := 10) hx hb hts il_X9_weighMeans_X9 hown hK hP 0 rfl rfl 3 (by decide) (hts _ fk_X9_weighMeans_1) (fun _ h9 => h9) rfl dX9_weighMeans_33 ?_
    refine lv_iconst (v := (2 : Int32)) hx hb dX9_weighMeans_36 (by decide) ?_
    refine lv_iload_n hx hb dX9_weighMeans_37 rfl (lv_at hl 4 rfl) ?_
    obtain ⟨u_6, hg_7, hf⟩ := pa_bd hf
    refine pa_ki (wc := (wo_X0_met cI cJ a_as a_am v_as_wantedPoor v_as_wantedRich v_am)) (wr := [(a_x, .inr (8, [.ref a_la, .ref a_te, .ref a_ha, .ref a_as, .ref a_lo, .ref a_we, .ref a_ho, .ref a_fr, .ref a_pr, .long v_x_trace])), (a_la, .inr (4, [.ref a_lc, .ref a_lr])), (a_lc, .inl (cI, 32, .inl v_lc)), (a_fr, .inr (1, [.long v_fr_upper, .long v_fr_lower]))]) (w1 := (wo_X0_met cI cJ a_as a_am v_as_wantedPoor v_as_wantedRich v_am)) (w2 := (wo_X9_weighMeans cI cJ a_x a_la a_lc a_lr a_te a_ha a_as a_am a_lo a_we a_ho a_fr a_pr v_x_trace v_lc v_as_wantedPoor v_as_wantedRich v_am v_fr_upper v_fr_lower)) X hP hD hS [3, 4] [0, 1, 2, 5] [0, 1, 2, 4, 5, 3] rfl (pa_rV (As := [.int (2 : Int32), .int x2]) (rest := []) (T := TX0) X hP hD hS [3, 4] rfl rfl (c_X0_met hg_7 H.size) (cwV 2 hts gX9_weighMeans_X0_met rfl rfl rfl (by decide +kernel) ⟨Nat.le_of_ble_eq_true rfl, Nat.le_of_ble_eq_true rfl⟩) (q0 := 3) rfl rfl rfl hl.1 rfl (Nat.le_of_ble_eq_true rfl) dX9_weighMeans_38 ⟨Nat.zero_le _, Nat.zero_le _⟩) rfl rfl (by decide) rfl rfl (fun H locs hP hD hS => ?_)
    refine lv_i2l (v := (Int32.toInt64 u_6)) hx hb dX9_weighMeans_41 rfl ?_
    refine lv_lstore (lv' := [(7, .long (Int32.toInt64 u_6)), (5, .long (Int32.toInt64 u_4)), (3, .long (Int32.toInt64 u_1)), (0, .ref a_x), (1, .int x1), (2, .int x2)]) hx hb dX9_weighMeans_42 hl (by decide) rfl (fun ls hl => ?_)
    refine lv_aload_n hx hb dX9_weighMeans_44 rfl (lv_at hl 3 rfl) ?_
    refine va_get (D := D) (ci := 8) (v := .ref a_fr) (C := RX9) (T := TX9) (N := 10) hx hb hts il_X9_weighMeans_X9 hown hK hP 0 rfl rfl 7 (by decide) (hts _ fk_X9_weighMeans_2) (fun _ h9 => h9) rfl dX9_weighMeans_45 ?_
    refine lv_lload hx hb dX9_weighMeans_48 (lv_at hl 1 rfl) ?_
    refine lv_lload_n hx hb dX9_weighMeans_50 rfl (lv_at hl 2 rfl) ?_
    refine lv_lmul hx hb dX9_weighMeans_51 ?_
    refine lv_lload hx hb dX9_weighMeans_52 (lv_at hl 0 rfl) ?_
    refine lv_aload_n hx hb dX9_weighMeans_54 rfl (lv_at hl 3 rfl) ?_
    refine va_get (D := D) (ci := 8) (v := .ref a_la) (C := RX9) (T := TX9) (N := 10) hx hb hts il_X9_weighMeans_X9 hown hK hP 0 rfl rfl 0 (by decide) (hts _ fk_X9_weighMeans_0) (fun _ h9 => h9) rfl dX9_weighMeans_55 ?_
    refine lv_iload_n hx hb dX9_weighMeans_58 rfl (lv_at hl 4 rfl) ?_
    refine lv_iconst (v := (0 : Int32)) hx hb dX9_weighMeans_59 (by decide) ?_
    obtain ⟨u_8, hg_9, hf⟩ := pa_bd hf
    refine pa_ki (wc := (wo_X4_having cI cJ a_la a_lc a_lr v_lc)) (wr := [(a_x, .inr (8, [.ref a_la, .ref a_te, .ref a_ha, .ref a_as, .ref a_lo, .ref a_we, .ref a_ho, .ref a_fr, .ref a_pr, .long v_x_trace])), (a_as, .inr (0, [.ref a_am, .int v_as_wantedPoor, .int v_as_wantedRich])), (a_am, .inl (cI, 8, .inl v_am)), (a_fr, .inr (1, [.long v_fr_upper, .long v_fr_lower]))]) (w1 := (wo_X4_having cI cJ a_la a_lc a_lr v_lc)) (w2 := (wo_X9_weighMeans cI cJ a_x a_la a_lc a_lr a_te a_ha a_as a_am a_lo a_we a_ho a_fr a_pr v_x_trace v_lc v_as_wantedPoor v_as_wantedRich v_am v_fr_upper v_fr_lower)) X hP hD hS [1, 2] [0, 3, 4, 5] [0, 4, 5, 1, 2, 3] rfl (pa_rV (As := [.int x1, .int (0 : Int32)]) (rest := [.long (Int32.toInt64 u_6), .long ((Int32.toInt64 u_4) * (Int32.toInt64 u_1)), .ref a_fr]) (T := TX4) X hP hD hS [1, 2] rfl rfl (c_X4_having hg_9 H.size) (cwV 2 hts gX9_weighMeans_X4_having rfl rfl rfl (by decide +kernel) ⟨Nat.le_of_ble_eq_true rfl, Nat.le_of_ble_eq_true rfl⟩) (q0 := 1) rfl rfl rfl hl.1 rfl (Nat.le_of_ble_eq_true rfl) dX9_weighMeans_60 ⟨Nat.zero_le _, Nat.zero_le _⟩) rfl rfl (by decide) rfl rfl (fun H locs hP hD hS => ?_)
    refine lv_i2l (v := (Int32.toInt64 u_8)) hx hb dX9_weighMeans_63 rfl ?_
    refine lv_lmul hx hb dX9_weighMeans_64 ?_
    obtain ⟨u_10, hg_11, hf⟩ := pa_bd hf
    refine pa_kv (wc := (wo_X1_add cI cJ a_fr v_fr_upper v_fr_lower)) (wr := [(a_x, .inr (8, [.ref a_la, .ref a_te, .ref a_ha, .ref a_as, .ref a_lo, .ref a_we, .ref a_ho, .ref a_fr, .ref a_pr, .long v_x_trace])), (a_la, .inr (4, [.ref a_lc, .ref a_lr])), (a_lc, .inl (cI, 32, .inl v_lc)), (a_as, .inr (0, [.ref a_am, .int v_as_wantedPoor, .int v_as_wantedRich])), (a_am, .inl (cI, 8, .inl v_am))]) (w1 := (wo_X1_add cI cJ a_fr u_10.1 u_10.2)) (w2 := (wo_X9_weighMeans cI cJ a_x a_la a_lc a_lr a_te a_ha a_as a_am a_lo a_we a_ho a_fr a_pr v_x_trace v_lc v_as_wantedPoor v_as_wantedRich v_am u_10.1 u_10.2)) X hP hD hS [5] [0, 1, 2, 3, 4] [0, 1, 2, 3, 4, 5] rfl (pa_rV (As := [.long ((Int32.toInt64 u_4) * (Int32.toInt64 u_1)), .long ((Int32.toInt64 u_6) * (Int32.toInt64 u_8))]) (rest := []) (T := TX1) X hP hD hS [5] rfl rfl (c_X1_add hg_11 H.size) (cwV 2 hts gX9_weighMeans_X1_add rfl rfl rfl (by decide +kernel) ⟨Nat.le_of_ble_eq_true rfl, Nat.le_of_ble_eq_true rfl⟩) (q0 := 5) rfl rfl rfl hl.1 rfl (Nat.le_of_ble_eq_true rfl) dX9_weighMeans_65 ⟨Nat.zero_le _, Nat.zero_le _⟩) rfl rfl (by decide) rfl rfl (fun H locs hP hD hS => ?_)
    obtain rfl := Option.some.inj hf
    exact pa_ev X hP hD hS dX9_weighMeans_68
set_option maxHeartbeats 4000000 in
set_option maxRecDepth 100000 in
theorem c_X9_weighMeans {l : Launch} {D : va_G} {cI cJ : ClassId} {g : pa_GT} {a_x a_la a_lc a_lr a_te a_ha a_as a_am a_lo a_we a_ho a_fr a_pr : Nat} {x1 : Int32} {x2 : Int32} {v_x_trace : Int64} {v_lc : Nat → Int32} {v_as_wantedPoor : Int32} {v_as_wantedRich : Int32} {v_am : Nat → Int32} {v_fr_upper : Int64} {v_fr_lower : Int64} {o : Int64 × Int64} (hf : f_X9_weighMeans x1 x2 v_lc v_am v_fr_upper v_fr_lower = some o) : pa_Mv l yX9_weighMeans wsX9_weighMeans rm_X9_weighMeans D cI cJ g [.ref a_x, .int x1, .int x2] (wo_X9_weighMeans cI cJ a_x a_la a_lc a_lr a_te a_ha a_as a_am a_lo a_we a_ho a_fr a_pr v_x_trace v_lc v_as_wantedPoor v_as_wantedRich v_am v_fr_upper v_fr_lower) (wo_X9_weighMeans cI cJ a_x a_la a_lc a_lr a_te a_ha a_as a_am a_lo a_we a_ho a_fr a_pr v_x_trace v_lc v_as_wantedPoor v_as_wantedRich v_am o.1 o.2) := by
  intro sz
  refine pa_met (cc := cX9_weighMeans) (maxL := 9) (ret := none) (lv := [(0, .ref a_x), (1, .int x1), (2, .int x2)]) (by decide) rfl (Nat.le_of_ble_eq_true rfl) rfl ?_
  intro p e s m below meth c X hsz hP hD ls hl
  subst hsz
  exact w_X9_weighMeans_b0 X hf hP hD va_S.rf hl
abbrev wo_X9_weigh (cI cJ : ClassId) (a_x a_la a_lc a_lr a_te a_ha a_as a_am a_lo a_we a_ho a_fr a_pr : Nat) (v_x_trace : Int64) (v_lc : Nat → Int32) (v_as_wantedPoor : Int32) (v_as_wantedRich : Int32) (v_am : Nat → Int32) (v_fr_upper : Int64) (v_fr_lower : Int64) : va_W := [(a_x, .inr (8, [.ref a_la, .ref a_te, .ref a_ha, .ref a_as, .ref a_lo, .ref a_we, .ref a_ho, .ref a_fr, .ref a_pr, .long v_x_trace])), (a_la, .inr (4, [.ref a_lc, .ref a_lr])), (a_lc, .inl (cI, 32, .inl v_lc)), (a_as, .inr (0, [.ref a_am, .int v_as_wantedPoor, .int v_as_wantedRich])), (a_am, .inl (cI, 8, .inl v_am)), (a_fr, .inr (1, [.long v_fr_upper, .long v_fr_lower]))]
abbrev rm_X9_weigh : Room := { frames := 4, cells := 0, slots := 0, locals := 108 }
theorem il_X9_weigh_X9 : ∀ w ∈ wsX90, w ∈ wsX9_weigh := by decide +kernel
theorem fk_X9_weigh_0 : Cond.fieldLink RX9 61 "PostedAsks" "fraction" "LPostedAsks$Fraction;" ∈ wsX9_weigh := by decide +kernel
theorem fk_X9_weigh_1 : Cond.fieldLink RX9 10 "PostedAsks" "lands" "LPostedAsks$Lands;" ∈ wsX9_weigh := by decide +kernel
def f_X9_weigh (x1 : Int32) (v_lc : Nat → Int32) (v_am : Nat → Int32) (v_fr_upper : Int64) (v_fr_lower : Int64) : Option (Int64 × Int64) :=
  (f_X4_having x1 (0 : Int32) v_lc).bind fun u_1 =>
  (f_X1_become (0 : Int64) (Int32.toInt64 u_1)).bind fun u_3 =>
  (f_X9_weighMeans x1 (0 : Int32) v_lc v_am u_3.1 u_3.2).bind fun u_5 =>
  (f_X9_weighMeans x1 (2 : Int32) v_lc v_am u_5.1 u_5.2).bind fun u_7 =>
  some (u_7.1, u_7.2)
set_option maxHeartbeats 4000000 in
set_option maxRecDepth 100000 in
theorem w_X9_weigh_b0 {l : Launch} {D : va_G} {cI cJ : ClassId} {g : pa_GT} {a_x a_la a_lc a_lr a_te a_ha a_as a_am a_lo a_we a_ho a_fr a_pr : Nat} {A : Nat → Prop} {p : Program} {e : Env} {s : State} {m : MethodId} {args : Array Value} {below : List Frame} {meth : Method} {c : Code} {x1 : Int32} {v_lc : Nat → Int32} {v_am : Nat → Int32} {v_fr_upper : Int64} {v_fr_lower : Int64} {v_x_trace : Int64} {v_as_wantedPoor : Int32} {v_as_wantedRich : Int32} {o : Int64 × Int64} (X : pa_X cX9_weigh 2 none RX9 wsX9_weigh D cI cJ g A p s m args meth c)  (hf : f_X9_weigh x1 v_lc v_am v_fr_upper v_fr_lower = some o) {H : Heap} {locs : List Loc} (hP : va_P D vwCl (wo_X9_weigh cI cJ a_x a_la a_lc a_lr a_te a_ha a_as a_am a_lo a_we a_ho a_fr a_pr v_x_trace v_lc v_as_wantedPoor v_as_wantedRich v_am v_fr_upper v_fr_lower) H) (hD : va_D A (wo_X9_weigh cI cJ a_x a_la a_lc a_lr a_te a_ha a_as a_am a_lo a_we a_ho a_fr a_pr v_x_trace v_lc v_as_wantedPoor v_as_wantedRich v_am v_fr_upper v_fr_lower)) (hS : va_S A s.heap H locs) {ls : Array Slot} (hl : lv_has ls 2 [(0, .ref a_x), (1, .int x1)]) : W p l e (headSpec wsX9_weigh rm_X9_weigh).room s m args below meth c H locs 0 0 (MQ below (va_Qv (fun (_ : Unit) => True) (pa_QB D A (wo_X9_weigh cI cJ a_x a_la a_lc a_lr a_te a_ha a_as a_am a_lo a_we a_ho a_fr a_pr v_x_trace v_lc v_as_wantedPoor v_as_wantedRich v_am o.1 o.2)) A) args s 0 0 A) (F0 m 0 ls []) := by
  obtain ⟨hx, hb, hr, hml, hown, hts, hK, hA, hG, hlk⟩ := id X
  delta f_X9_weigh at hf
  refine lv_aload_n hx hb dX9_weigh_0 rfl (lv_at hl 0 rfl) ?_
  refine va_get (D := D) (ci := 8) (v := .ref a_fr) (C := RX9) (T := TX9) (N := 10) hx hb hts il_X9_weigh_X9 hown hK hP 0 rfl rfl 7 (by decide) (hts _ fk_X9_weigh_0) (fun _ h9 => h9) rfl dX9_weigh_1 ?_
  refine lv_lconst (v := (0 : Int64)) hx hb dX9_weigh_4 (by decide) ?_
  refine lv_aload_n hx hb dX9_weigh_5 rfl (lv_at hl 0 rfl) ?_
  refine va_get (D := D) (ci := 8) (v := .ref a_la) (C := RX9) (T := TX9) (N := 10) hx hb hts il_X9_weigh_X9 hown hK hP 0 rfl rfl 0 (by decide) (hts _ fk_X9_weigh_1) (fun _ h9 => h9) rfl dX9_weigh_6 ?_
  refine lv_iload_n hx hb dX9_weigh_9 rfl (lv_at hl 1 rfl) ?_
  refine lv_iconst (v := (0 : Int32)) hx hb dX9_weigh_10 (by decide) ?_
  obtain ⟨u_1, hg_2, hf⟩ := pa_bd hf
  refine pa_ki (wc := (wo_X4_having cI cJ a_la a_lc a_lr v_lc)) (wr := [(a_x, .inr (8, [.ref a_la, .ref a_te, .ref a_ha, .ref a_as, .ref a_lo, .ref a_we, .ref a_ho, .ref a_fr, .ref a_pr, .long v_x_trace])), (a_as, .inr (0, [.ref a_am, .int v_as_wantedPoor, .int v_as_wantedRich])), (a_am, .inl (cI, 8, .inl v_am)), (a_fr, .inr (1, [.long v_fr_upper, .long v_fr_lower]))]) (w1 := (wo_X4_having cI cJ a_la a_lc a_lr v_lc)) (w2 := (wo_X9_weigh cI cJ a_x a_la a_lc a_lr a_te a_ha a_as a_am a_lo a_we a_ho a_fr a_pr v_x_trace v_lc v_as_wantedPoor v_as_wantedRich v_am v_fr_upper v_fr_lower)) X hP hD hS [1, 2] [0, 3, 4, 5] [0, 4, 5, 1, 2, 3] rfl (pa_rV (As := [.int x1, .int (0 : Int32)]) (rest := [.long (0 : Int64), .ref a_fr]) (T := TX4) X hP hD hS [1, 2] rfl rfl (c_X4_having hg_2 H.size) (cwV 2 hts gX9_weigh_X4_having rfl rfl rfl (by decide +kernel) ⟨Nat.le_of_ble_eq_true rfl, Nat.le_of_ble_eq_true rfl⟩) (q0 := 1) rfl rfl rfl hl.1 rfl (Nat.le_of_ble_eq_true rfl) dX9_weigh_11 ⟨Nat.zero_le _, Nat.zero_le _⟩) rfl rfl (by decide) rfl rfl (fun H locs hP hD hS => ?_)
  refine lv_i2l (v := (Int32.toInt64 u_1)) hx hb dX9_weigh_14 rfl ?_
  obtain ⟨u_3, hg_4, hf⟩ := pa_bd hf
  refine pa_kv (wc := (wo_X1_become cI cJ a_fr v_fr_upper v_fr_lower)) (wr := [(a_x, .inr (8, [.ref a_la, .ref a_te, .ref a_ha, .ref a_as, .ref a_lo, .ref a_we, .ref a_ho, .ref a_fr, .ref a_pr, .long v_x_trace])), (a_la, .inr (4, [.ref a_lc, .ref a_lr])), (a_lc, .inl (cI, 32, .inl v_lc)), (a_as, .inr (0, [.ref a_am, .int v_as_wantedPoor, .int v_as_wantedRich])), (a_am, .inl (cI, 8, .inl v_am))]) (w1 := (wo_X1_become cI cJ a_fr u_3.1 u_3.2)) (w2 := (wo_X9_weigh cI cJ a_x a_la a_lc a_lr a_te a_ha a_as a_am a_lo a_we a_ho a_fr a_pr v_x_trace v_lc v_as_wantedPoor v_as_wantedRich v_am u_3.1 u_3.2)) X hP hD hS [5] [0, 1, 2, 3, 4] [0, 1, 2, 3, 4, 5] rfl (pa_rV (As := [.long (0 : Int64), .long (Int32.toInt64 u_1)]) (rest := []) (T := TX1) X hP hD hS [5] rfl rfl (c_X1_become hg_4 H.size) (cwV 2 hts gX9_weigh_X1_become rfl rfl rfl (by decide +kernel) ⟨Nat.le_of_ble_eq_true rfl, Nat.le_of_ble_eq_true rfl⟩) (q0 := 5) rfl rfl rfl hl.1 rfl (Nat.le_of_ble_eq_true rfl) dX9_weigh_15 ⟨Nat.zero_le _, Nat.zero_le _⟩) rfl rfl (by decide) rfl rfl (fun H locs hP hD hS => ?_)
  refine lv_aload_n hx hb dX9_weigh_18 rfl (lv_at hl 0 rfl) ?_
  refine lv_iload_n hx hb dX9_weigh_19 rfl (lv_at hl 1 rfl) ?_
  refine lv_iconst (v := (0 : Int32)) hx hb dX9_weigh_20 (by decide) ?_
  obtain ⟨u_5, hg_6, hf⟩ := pa_bd hf
  refine pa_kv (wc := (wo_X9_weighMeans cI cJ a_x a_la a_lc a_lr a_te a_ha a_as a_am a_lo a_we a_ho a_fr a_pr v_x_trace v_lc v_as_wantedPoor v_as_wantedRich v_am u_3.1 u_3.2)) (wr := ([] : va_W)) (w1 := (wo_X9_weighMeans cI cJ a_x a_la a_lc a_lr a_te a_ha a_as a_am a_lo a_we a_ho a_fr a_pr v_x_trace v_lc v_as_wantedPoor v_as_wantedRich v_am u_5.1 u_5.2)) (w2 := (wo_X9_weigh cI cJ a_x a_la a_lc a_lr a_te a_ha a_as a_am a_lo a_we a_ho a_fr a_pr v_x_trace v_lc v_as_wantedPoor v_as_wantedRich v_am u_5.1 u_5.2)) X hP hD hS [0, 1, 2, 3, 4, 5] [] [0, 1, 2, 3, 4, 5] rfl (pa_rV (As := [.int x1, .int (0 : Int32)]) (rest := []) (T := TX9) X hP hD hS [0, 1, 2, 3, 4, 5] rfl rfl (c_X9_weighMeans hg_6 H.size) (cwV 2 hts gX9_weigh_X9_weighMeans rfl rfl rfl (by decide +kernel) ⟨Nat.le_of_ble_eq_true rfl, Nat.le_of_ble_eq_true rfl⟩) (q0 := 0) rfl rfl rfl hl.1 rfl (Nat.le_of_ble_eq_true rfl) dX9_weigh_21 ⟨Nat.zero_le _, Nat.zero_le _⟩) rfl rfl (by decide) rfl rfl (fun H locs hP hD hS => ?_)
  refine lv_aload_n hx hb dX9_weigh_24 rfl (lv_at hl 0 rfl) ?_
  refine lv_iload_n hx hb dX9_weigh_25 rfl (lv_at hl 1 rfl) ?_
  refine lv_iconst (v := (2 : Int32)) hx hb dX9_weigh_26 (by decide) ?_
  obtain ⟨u_7, hg_8, hf⟩ := pa_bd hf
  refine pa_kv (wc := (wo_X9_weighMeans cI cJ a_x a_la a_lc a_lr a_te a_ha a_as a_am a_lo a_we a_ho a_fr a_pr v_x_trace v_lc v_as_wantedPoor v_as_wantedRich v_am u_5.1 u_5.2)) (wr := ([] : va_W)) (w1 := (wo_X9_weighMeans cI cJ a_x a_la a_lc a_lr a_te a_ha a_as a_am a_lo a_we a_ho a_fr a_pr v_x_trace v_lc v_as_wantedPoor v_as_wantedRich v_am u_7.1 u_7.2)) (w2 := (wo_X9_weigh cI cJ a_x a_la a_lc a_lr a_te a_ha a_as a_am a_lo a_we a_ho a_fr a_pr v_x_trace v_lc v_as_wantedPoor v_as_wantedRich v_am u_7.1 u_7.2)) X hP hD hS [0, 1, 2, 3, 4, 5] [] [0, 1, 2, 3, 4, 5] rfl (pa_rV (As := [.int x1, .int (2 : Int32)]) (rest := []) (T := TX9) X hP hD hS [0, 1, 2, 3, 4, 5] rfl rfl (c_X9_weighMeans hg_8 H.size) (cwV 2 hts gX9_weigh_X9_weighMeans rfl rfl rfl (by decide +kernel) ⟨Nat.le_of_ble_eq_true rfl, Nat.le_of_ble_eq_true rfl⟩) (q0 := 0) rfl rfl rfl hl.1 rfl (Nat.le_of_ble_eq_true rfl) dX9_weigh_27 ⟨Nat.zero_le _, Nat.zero_le _⟩) rfl rfl (by decide) rfl rfl (fun H locs hP hD hS => ?_)
  obtain rfl := Option.some.inj hf
  exact pa_ev X hP hD hS dX9_weigh_30
set_option maxHeartbeats 4000000 in
set_option maxRecDepth 100000 in
theorem c_X9_weigh {l : Launch} {D : va_G} {cI cJ : ClassId} {g : pa_GT} {a_x a_la a_lc a_lr a_te a_ha a_as a_am a_lo a_we a_ho a_fr a_pr : Nat} {x1 : Int32} {v_x_trace : Int64} {v_lc : Nat → Int32} {v_as_wantedPoor : Int32} {v_as_wantedRich : Int32} {v_am : Nat → Int32} {v_fr_upper : Int64} {v_fr_lower : Int64} {o : Int64 × Int64} (hf : f_X9_weigh x1 v_lc v_am v_fr_upper v_fr_lower = some o) : pa_Mv l yX9_weigh wsX9_weigh rm_X9_weigh D cI cJ g [.ref a_x, .int x1] (wo_X9_weigh cI cJ a_x a_la a_lc a_lr a_te a_ha a_as a_am a_lo a_we a_ho a_fr a_pr v_x_trace v_lc v_as_wantedPoor v_as_wantedRich v_am v_fr_upper v_fr_lower) (wo_X9_weigh cI cJ a_x a_la a_lc a_lr a_te a_ha a_as a_am a_lo a_we a_ho a_fr a_pr v_x_trace v_lc v_as_wantedPoor v_as_wantedRich v_am o.1 o.2) := by
  intro sz
  refine pa_met (cc := cX9_weigh) (maxL := 2) (ret := none) (lv := [(0, .ref a_x), (1, .int x1)]) (by decide) rfl (Nat.le_of_ble_eq_true rfl) rfl ?_
  intro p e s m below meth c X hsz hP hD ls hl
  subst hsz
  exact w_X9_weigh_b0 X hf hP hD va_S.rf hl
abbrev wo_X9_weighed (cI cJ : ClassId) (a_x a_la a_lc a_lr a_te a_ha a_hp a_hl a_hq a_hm a_as a_am a_lo a_we a_ho a_fr a_pr : Nat) (v_x_trace : Int64) (v_lc : Nat → Int32) (v_ha_finds : Int32) (v_hp : Nat → Int32) (v_hl : Nat → Int32) (v_as_wantedPoor : Int32) (v_as_wantedRich : Int32) (v_am : Nat → Int32) (v_fr_upper : Int64) (v_fr_lower : Int64) : va_W := [(a_x, .inr (8, [.ref a_la, .ref a_te, .ref a_ha, .ref a_as, .ref a_lo, .ref a_we, .ref a_ho, .ref a_fr, .ref a_pr, .long v_x_trace])), (a_la, .inr (4, [.ref a_lc, .ref a_lr])), (a_lc, .inl (cI, 32, .inl v_lc)), (a_ha, .inr (2, [.ref a_hp, .ref a_hl, .ref a_hq, .ref a_hm, .int v_ha_finds])), (a_hp, .inl (cI, 12, .inl v_hp)), (a_hl, .inl (cI, 12, .inl v_hl)), (a_as, .inr (0, [.ref a_am, .int v_as_wantedPoor, .int v_as_wantedRich])), (a_am, .inl (cI, 8, .inl v_am)), (a_fr, .inr (1, [.long v_fr_upper, .long v_fr_lower]))]
abbrev rm_X9_weighed : Room := { frames := 5, cells := 0, slots := 0, locals := 129 }
theorem il_X9_weighed_X9 : ∀ w ∈ wsX90, w ∈ wsX9_weighed := by decide +kernel
theorem fk_X9_weighed_0 : Cond.constantLong RX9 98 (-1000000000000000000) ∈ wsX9_weighed := by decide +kernel
theorem fk_X9_weighed_1 : Cond.fieldLink RX9 33 "PostedAsks" "asker" "LPostedAsks$Asker;" ∈ wsX9_weighed := by decide +kernel
theorem fk_X9_weighed_2 : Cond.fieldLink RX9 10 "PostedAsks" "lands" "LPostedAsks$Lands;" ∈ wsX9_weighed := by decide +kernel
theorem fk_X9_weighed_3 : Cond.fieldLink RX9 26 "PostedAsks" "habit" "LPostedAsks$Habit;" ∈ wsX9_weighed := by decide +kernel
theorem fk_X9_weighed_4 : Cond.fieldLink RX9 61 "PostedAsks" "fraction" "LPostedAsks$Fraction;" ∈ wsX9_weighed := by decide +kernel
def f_X9_weighed (x1 : Int32) (x2 : Int32) (x3 : Int32) (x4 : Int32) (v_lc : Nat → Int32) (v_ha_finds : Int32) (v_hp : Nat → Int32) (v_hl : Nat → Int32) (v_as_wantedPoor : Int32) (v_as_wantedRich : Int32) (v_am : Nat → Int32) (v_fr_upper : Int64) (v_fr_lower : Int64) : Option (Int64 × Int32 × Int32 × (Nat → Int32) × Int64 × Int64) :=
  (f_X9_isAsking x1 x2 x3).bind fun u_1 =>
  if u_1 = 0 then
    some ((-1000000000000000000 : Int64), v_as_wantedPoor, v_as_wantedRich, v_am, v_fr_upper, v_fr_lower)
  else
    (f_X9_within x4 (0 : Int32) (1 : Int32)).bind fun u_4 =>
    if u_4 = 0 then
      some ((-1000000000000000000 : Int64), v_as_wantedPoor, v_as_wantedRich, v_am, v_fr_upper, v_fr_lower)
    else
      (f_X0_ask x1 x2 x3 v_lc v_ha_finds v_hp v_hl v_am).bind fun u_7 =>
      (f_X9_weigh x1 v_lc u_7.2.2 v_fr_upper v_fr_lower).bind fun u_9 =>
      (f_X1_part x4 u_9.1 u_9.2).bind fun u_11 =>
      some (u_11, u_7.1, u_7.2.1, u_7.2.2, u_9.1, u_9.2)
set_option maxHeartbeats 4000000 in
set_option maxRecDepth 100000 in
theorem w_X9_weighed_b0 {l : Launch} {D : va_G} {cI cJ : ClassId} {g : pa_GT} {a_x a_la a_lc a_lr a_te a_ha a_hp a_hl a_hq a_hm a_as a_am a_lo a_we a_ho a_fr a_pr : Nat} {A : Nat → Prop} {p : Program} {e : Env} {s : State} {m : MethodId} {args : Array Value} {below : List Frame} {meth : Method} {c : Code} {x1 : Int32} {x2 : Int32} {x3 : Int32} {x4 : Int32} {v_lc : Nat → Int32} {v_ha_finds : Int32} {v_hp : Nat → Int32} {v_hl : Nat → Int32} {v_as_wantedPoor : Int32} {v_as_wantedRich : Int32} {v_am : Nat → Int32} {v_fr_upper : Int64} {v_fr_lower : Int64} {v_x_trace : Int64} {o : Int64 × Int32 × Int32 × (Nat → Int32) × Int64 × Int64} (X : pa_X cX9_weighed 5 (some .long) RX9 wsX9_weighed D cI cJ g A p s m args meth c)  (hf : f_X9_weighed x1 x2 x3 x4 v_lc v_ha_finds v_hp v_hl v_as_wantedPoor v_as_wantedRich v_am v_fr_upper v_fr_lower = some o) {H : Heap} {locs : List Loc} (hP : va_P D vwCl (wo_X9_weighed cI cJ a_x a_la a_lc a_lr a_te a_ha a_hp a_hl a_hq a_hm a_as a_am a_lo a_we a_ho a_fr a_pr v_x_trace v_lc v_ha_finds v_hp v_hl v_as_wantedPoor v_as_wantedRich v_am v_fr_upper v_fr_lower) H) (hD : va_D A (wo_X9_weighed cI cJ a_x a_la a_lc a_lr a_te a_ha a_hp a_hl a_hq a_hm a_as a_am a_lo a_we a_ho a_fr a_pr v_x_trace v_lc v_ha_finds v_hp v_hl v_as_wantedPoor v_as_wantedRich v_am v_fr_upper v_fr_lower)) (hS : va_S A s.heap H locs) {ls : Array Slot} (hl : lv_has ls 5 [(0, .ref a_x), (1, .int x1), (2, .int x2), (3, .int x3), (4, .int x4)]) : W p l e (headSpec wsX9_weighed rm_X9_weighed).room s m args below meth c H locs 0 0 (MQ below (va_Ql (fun r (_ : Unit) => r = o.1) (pa_QB D A (wo_X9_weighed cI cJ a_x a_la a_lc a_lr a_te a_ha a_hp a_hl a_hq a_hm a_as a_am a_lo a_we a_ho a_fr a_pr v_x_trace v_lc v_ha_finds v_hp v_hl o.2.1 o.2.2.1 o.2.2.2.1 o.2.2.2.2.1 o.2.2.2.2.2)) A) args s 0 0 A) (F0 m 0 ls []) := by
  obtain ⟨hx, hb, hr, hml, hown, hts, hK, hA, hG, hlk⟩ := id X
  delta f_X9_weighed at hf
  refine lv_iload_n hx hb dX9_weighed_0 rfl (lv_at hl 1 rfl) ?_
  refine lv_iload_n hx hb dX9_weighed_1 rfl (lv_at hl 2 rfl) ?_
  refine lv_iload_n hx hb dX9_weighed_2 rfl (lv_at hl 3 rfl) ?_
  obtain ⟨u_1, hg_2, hf⟩ := pa_bd hf
  refine pa_ki (wc := ([] : va_W)) (wr := [(a_x, .inr (8, [.ref a_la, .ref a_te, .ref a_ha, .ref a_as, .ref a_lo, .ref a_we, .ref a_ho, .ref a_fr, .ref a_pr, .long v_x_trace])), (a_la, .inr (4, [.ref a_lc, .ref a_lr])), (a_lc, .inl (cI, 32, .inl v_lc)), (a_ha, .inr (2, [.ref a_hp, .ref a_hl, .ref a_hq, .ref a_hm, .int v_ha_finds])), (a_hp, .inl (cI, 12, .inl v_hp)), (a_hl, .inl (cI, 12, .inl v_hl)), (a_as, .inr (0, [.ref a_am, .int v_as_wantedPoor, .int v_as_wantedRich])), (a_am, .inl (cI, 8, .inl v_am)), (a_fr, .inr (1, [.long v_fr_upper, .long v_fr_lower]))]) (w1 := ([] : va_W)) (w2 := (wo_X9_weighed cI cJ a_x a_la a_lc a_lr a_te a_ha a_hp a_hl a_hq a_hm a_as a_am a_lo a_we a_ho a_fr a_pr v_x_trace v_lc v_ha_finds v_hp v_hl v_as_wantedPoor v_as_wantedRich v_am v_fr_upper v_fr_lower)) X hP hD hS [] [0, 1, 2, 3, 4, 5, 6, 7, 8] [0, 1, 2, 3, 4, 5, 6, 7, 8] rfl (pa_rS (As := [.int x1, .int x2, .int x3]) (rest := []) X hP hD hS [] rfl rfl (c_X9_isAsking hg_2 H.size) (va_cwS 3 hts gX9_weighed_X9_isAsking rfl rfl rfl (by decide +kernel) ⟨Nat.le_of_ble_eq_true rfl, Nat.le_of_ble_eq_true rfl⟩) rfl hl.1 rfl (Nat.le_of_ble_eq_true rfl) dX9_weighed_3 ⟨Nat.zero_le _, Nat.zero_le _⟩) rfl rfl (by decide) rfl rfl (fun H locs hP hD hS => ?_)
  refine lv_if_eq (tgt := 19) hx hb dX9_weighed_6 (by decide) (fun c_3 => ?_) (fun c_3 => ?_)
  · have hf := (if_pos c_3).symm.trans hf
    refine lv_ldc2 (v := (-1000000000000000000 : Int64)) hx hb hown (hts _ fk_X9_weighed_0) dX9_weighed_19 ?_
    obtain rfl := Option.some.inj hf
    exact pa_el X hP hD hS dX9_weighed_22
  · have hf := (if_neg c_3).symm.trans hf
    refine lv_iload hx hb dX9_weighed_9 (lv_at hl 4 rfl) ?_
    refine lv_iconst (v := (0 : Int32)) hx hb dX9_weighed_11 (by decide) ?_
    refine lv_iconst (v := (1 : Int32)) hx hb dX9_weighed_12 (by decide) ?_
    obtain ⟨u_4, hg_5, hf⟩ := pa_bd hf
    refine pa_ki (wc := ([] : va_W)) (wr := [(a_x, .inr (8, [.ref a_la, .ref a_te, .ref a_ha, .ref a_as, .ref a_lo, .ref a_we, .ref a_ho, .ref a_fr, .ref a_pr, .long v_x_trace])), (a_la, .inr (4, [.ref a_lc, .ref a_lr])), (a_lc, .inl (cI, 32, .inl v_lc)), (a_ha, .inr (2, [.ref a_hp, .ref a_hl, .ref a_hq, .ref a_hm, .int v_ha_finds])), (a_hp, .inl (cI, 12, .inl v_hp)), (a_hl, .inl (cI, 12, .inl v_hl)), (a_as, .inr (0, [.ref a_am, .int v_as_wantedPoor, .int v_as_wantedRich])), (a_am, .inl (cI, 8, .inl v_am)), (a_fr, .inr (1, [.long v_fr_upper, .long v_fr_lower]))]) (w1 := ([] : va_W)) (w2 := (wo_X9_weighed cI cJ a_x a_la a_lc a_lr a_te a_ha a_hp a_hl a_hq a_hm a_as a_am a_lo a_we a_ho a_fr a_pr v_x_trace v_lc v_ha_finds v_hp v_hl v_as_wantedPoor v_as_wantedRich v_am v_fr_upper v_fr_lower)) X hP hD hS [] [0, 1, 2, 3, 4, 5, 6, 7, 8] [0, 1, 2, 3, 4, 5, 6, 7, 8] rfl (pa_rS (As := [.int x4, .int (0 : Int32), .int (1 : Int32)]) (rest := []) X hP hD hS [] rfl rfl (c_X9_within hg_5 H.size) (va_cwS 3 hts gX9_weighed_X9_within rfl rfl rfl (by decide +kernel) ⟨Nat.le_of_ble_eq_true rfl, Nat.le_of_ble_eq_true rfl⟩) rfl hl.1 rfl (Nat.le_of_ble_eq_true rfl) dX9_weighed_13 ⟨Nat.zero_le _, Nat.zero_le _⟩) rfl rfl (by decide) rfl rfl (fun H locs hP hD hS => ?_)
    refine lv_if_ne (tgt := 23) hx hb dX9_weighed_16 (by decide) (fun c_6 => ?_) (fun c_6 => ?_)
    · have hf := (if_neg c_6).symm.trans hf
      refine lv_aload_n hx hb dX9_weighed_23 rfl (lv_at hl 0 rfl) ?_
      refine va_get (D := D) (ci := 8) (v := .ref a_as) (C := RX9) (T := TX9) (N := 10) hx hb hts il_X9_weighed_X9 hown hK hP 0 rfl rfl 3 (by decide) (hts _ fk_X9_weighed_1) (fun _ h9 => h9) rfl dX9_weighed_24 ?_
      refine lv_aload_n hx hb dX9_weighed_27 rfl (lv_at hl 0 rfl) ?_
      refine va_get (D := D) (ci := 8) (v := .ref a_la) (C := RX9) (T := TX9) (N := 10) hx hb hts il_X9_weighed_X9 hown hK hP 0 rfl rfl 0 (by decide) (hts _ fk_X9_weighed_2) (fun _ h9 => h9) rfl dX9_weighed_28 ?_
      refine lv_iload_n hx hb dX9_weighed_31 rfl (lv_at hl 1 rfl) ?_
      refine lv_aload_n hx hb dX9_weighed_32 rfl (lv_at hl 0 rfl) ?_
      refine va_get (D := D) (ci := 8) (v := .ref a_ha) (C := RX9) (T := TX9) (N := 10) hx hb hts il_X9_weighed_X9 hown hK hP 0 rfl rfl 2 (by decide) (hts _ fk_X9_weighed_3) (fun _ h9 => h9) rfl dX9_weighed_33 ?_
      refine lv_iload_n hx hb dX9_weighed_36 rfl (lv_at hl 2 rfl) ?_
      refine lv_iload_n hx hb dX9_weighed_37 rfl (lv_at hl 3 rfl) ?_
      obtain ⟨u_7, hg_8, hf⟩ := pa_bd hf
      refine pa_kv (wc := (wo_X0_ask cI cJ a_la a_lc a_lr a_ha a_hp a_hl a_hq a_hm a_as a_am v_lc v_ha_finds v_hp v_hl v_as_wantedPoor v_as_wantedRich v_am)) (wr := [(a_x, .inr (8, [.ref a_la, .ref a_te, .ref a_ha, .ref a_as, .ref a_lo, .ref a_we, .ref a_ho, .ref a_fr, .ref a_pr, .long v_x_trace])), (a_fr, .inr (1, [.long v_fr_upper, .long v_fr_lower]))]) (w1 := (wo_X0_ask cI cJ a_la a_lc a_lr a_ha a_hp a_hl a_hq a_hm a_as a_am v_lc v_ha_finds v_hp v_hl u_7.1 u_7.2.1 u_7.2.2)) (w2 := (wo_X9_weighed cI cJ a_x a_la a_lc a_lr a_te a_ha a_hp a_hl a_hq a_hm a_as a_am a_lo a_we a_ho a_fr a_pr v_x_trace v_lc v_ha_finds v_hp v_hl u_7.1 u_7.2.1 u_7.2.2 v_fr_upper v_fr_lower)) X hP hD hS [1, 2, 3, 4, 5, 6, 7] [0, 8] [0, 2, 3, 4, 5, 6, 7, 8, 1] rfl (pa_rV (As := [.ref a_la, .int x1, .ref a_ha, .int x2, .int x3]) (rest := []) (T := TX0) X hP hD hS [1, 2, 3, 4, 5, 6, 7] rfl rfl (c_X0_ask hg_8 H.size) (cwV 5 hts gX9_weighed_X0_ask rfl rfl rfl (by decide +kernel) ⟨Nat.le_of_ble_eq_true rfl, Nat.le_of_ble_eq_true rfl⟩) (q0 := 6) rfl rfl rfl hl.1 rfl (Nat.le_of_ble_eq_true rfl) dX9_weighed_38 ⟨Nat.zero_le _, Nat.zero_le _⟩) rfl rfl (by decide) rfl rfl (fun H locs hP hD hS => ?_)
      refine lv_aload_n hx hb dX9_weighed_41 rfl (lv_at hl 0 rfl) ?_
      refine lv_iload_n hx hb dX9_weighed_42 rfl (lv_at hl 1 rfl) ?_
      obtain ⟨u_9, hg_10, hf⟩ := pa_bd hf
      refine pa_kv (wc := (wo_X9_weigh cI cJ a_x a_la a_lc a_lr a_te a_ha a_as a_am a_lo a_we a_ho a_fr a_pr v_x_trace v_lc u_7.1 u_7.2.1 u_7.2.2 v_fr_upper v_fr_lower)) (wr := [(a_ha, .inr (2, [.ref a_hp, .ref a_hl, .ref a_hq, .ref a_hm, .int v_ha_finds])), (a_hp, .inl (cI, 12, .inl v_hp)), (a_hl, .inl (cI, 12, .inl v_hl))]) (w1 := (wo_X9_weigh cI cJ a_x a_la a_lc a_lr a_te a_ha a_as a_am a_lo a_we a_ho a_fr a_pr v_x_trace v_lc u_7.1 u_7.2.1 u_7.2.2 u_9.1 u_9.2)) (w2 := (wo_X9_weighed cI cJ a_x a_la a_lc a_lr a_te a_ha a_hp a_hl a_hq a_hm a_as a_am a_lo a_we a_ho a_fr a_pr v_x_trace v_lc v_ha_finds v_hp v_hl u_7.1 u_7.2.1 u_7.2.2 u_9.1 u_9.2)) X hP hD hS [0, 1, 2, 6, 7, 8] [3, 4, 5] [3, 4, 5, 0, 1, 2, 6, 7, 8] rfl (pa_rV (As := [.int x1]) (rest := []) (T := TX9) X hP hD hS [0, 1, 2, 6, 7, 8] rfl rfl (c_X9_weigh hg_10 H.size) (cwV 1 hts gX9_weighed_X9_weigh rfl rfl rfl (by decide +kernel) ⟨Nat.le_of_ble_eq_true rfl, Nat.le_of_ble_eq_true rfl⟩) (q0 := 0) rfl rfl rfl hl.1 rfl (Nat.le_of_ble_eq_true rfl) dX9_weighed_43 ⟨Nat.zero_le _, Nat.zero_le _⟩) rfl rfl (by decide) rfl rfl (fun H locs hP hD hS => ?_)
      refine lv_aload_n hx hb dX9_weighed_46 rfl (lv_at hl 0 rfl) ?_
      refine va_get (D := D) (ci := 8) (v := .ref a_fr) (C := RX9) (T := TX9) (N := 10) hx hb hts il_X9_weighed_X9 hown hK hP 0 rfl rfl 7 (by decide) (hts _ fk_X9_weighed_4) (fun _ h9 => h9) rfl dX9_weighed_47 ?_
      refine lv_iload hx hb dX9_weighed_50 (lv_at hl 4 rfl) ?_
      obtain ⟨u_11, hg_12, hf⟩ := pa_bd hf
      refine pa_kl (wc := (wo_X1_part cI cJ a_fr u_9.1 u_9.2)) (wr := [(a_x, .inr (8, [.ref a_la, .ref a_te, .ref a_ha, .ref a_as, .ref a_lo, .ref a_we, .ref a_ho, .ref a_fr, .ref a_pr, .long v_x_trace])), (a_la, .inr (4, [.ref a_lc, .ref a_lr])), (a_lc, .inl (cI, 32, .inl v_lc)), (a_ha, .inr (2, [.ref a_hp, .ref a_hl, .ref a_hq, .ref a_hm, .int v_ha_finds])), (a_hp, .inl (cI, 12, .inl v_hp)), (a_hl, .inl (cI, 12, .inl v_hl)), (a_as, .inr (0, [.ref a_am, .int u_7.1, .int u_7.2.1])), (a_am, .inl (cI, 8, .inl u_7.2.2))]) (w1 := (wo_X1_part cI cJ a_fr u_9.1 u_9.2)) (w2 := (wo_X9_weighed cI cJ a_x a_la a_lc a_lr a_te a_ha a_hp a_hl a_hq a_hm a_as a_am a_lo a_we a_ho a_fr a_pr v_x_trace v_lc v_ha_finds v_hp v_hl u_7.1 u_7.2.1 u_7.2.2 u_9.1 u_9.2)) X hP hD hS [8] [0, 1, 2, 3, 4, 5, 6, 7] [0, 1, 2, 3, 4, 5, 6, 7, 8] rfl (pa_rV (As := [.int x4]) (rest := []) (T := TX1) X hP hD hS [8] rfl rfl (c_X1_part hg_12 H.size) (cwV 1 hts gX9_weighed_X1_part rfl rfl rfl (by decide +kernel) ⟨Nat.le_of_ble_eq_true rfl, Nat.le_of_ble_eq_true rfl⟩) (q0 := 8) rfl rfl rfl hl.1 rfl (Nat.le_of_ble_eq_true rfl) dX9_weighed_52 ⟨Nat.zero_le _, Nat.zero_le _⟩) rfl rfl (by decide) rfl rfl (fun H locs hP hD hS => ?_)
      obtain rfl := Option.some.inj hf
      exact pa_el X hP hD hS dX9_weighed_55
    · have hf := (if_pos c_6).symm.trans hf
      refine lv_ldc2 (v := (-1000000000000000000 : Int64)) hx hb hown (hts _ fk_X9_weighed_0) dX9_weighed_19 ?_
      obtain rfl := Option.some.inj hf
      exact pa_el X hP hD hS dX9_weighed_22
set_option maxHeartbeats 4000000 in
set_option maxRecDepth 100000 in
theorem c_X9_weighed {l : Launch} {D : va_G} {cI cJ : ClassId} {g : pa_GT} {a_x a_la a_lc a_lr a_te a_ha a_hp a_hl a_hq a_hm a_as a_am a_lo a_we a_ho a_fr a_pr : Nat} {x1 : Int32} {x2 : Int32} {x3 : Int32} {x4 : Int32} {v_x_trace : Int64} {v_lc : Nat → Int32} {v_ha_finds : Int32} {v_hp : Nat → Int32} {v_hl : Nat → Int32} {v_as_wantedPoor : Int32} {v_as_wantedRich : Int32} {v_am : Nat → Int32} {v_fr_upper : Int64} {v_fr_lower : Int64} {o : Int64 × Int32 × Int32 × (Nat → Int32) × Int64 × Int64} (hf : f_X9_weighed x1 x2 x3 x4 v_lc v_ha_finds v_hp v_hl v_as_wantedPoor v_as_wantedRich v_am v_fr_upper v_fr_lower = some o) : pa_Ml l yX9_weighed wsX9_weighed rm_X9_weighed D cI cJ g [.ref a_x, .int x1, .int x2, .int x3, .int x4] (wo_X9_weighed cI cJ a_x a_la a_lc a_lr a_te a_ha a_hp a_hl a_hq a_hm a_as a_am a_lo a_we a_ho a_fr a_pr v_x_trace v_lc v_ha_finds v_hp v_hl v_as_wantedPoor v_as_wantedRich v_am v_fr_upper v_fr_lower) (wo_X9_weighed cI cJ a_x a_la a_lc a_lr a_te a_ha a_hp a_hl a_hq a_hm a_as a_am a_lo a_we a_ho a_fr a_pr v_x_trace v_lc v_ha_finds v_hp v_hl o.2.1 o.2.2.1 o.2.2.2.1 o.2.2.2.2.1 o.2.2.2.2.2) o.1 := by
  intro sz
  refine pa_met (cc := cX9_weighed) (maxL := 5) (ret := (some .long)) (lv := [(0, .ref a_x), (1, .int x1), (2, .int x2), (3, .int x3), (4, .int x4)]) (by decide) rfl (Nat.le_of_ble_eq_true rfl) rfl ?_
  intro p e s m below meth c X hsz hP hD ls hl
  subst hsz
  exact w_X9_weighed_b0 X hf hP hD va_S.rf hl
abbrev wo_X9_mends (cI cJ : ClassId) (a_x a_la a_lc a_lr a_te a_ha a_hp a_hl a_hq a_hm a_as a_am a_lo a_we a_ho a_fr a_pr : Nat) (v_x_trace : Int64) (v_lc : Nat → Int32) (v_ha_finds : Int32) (v_hp : Nat → Int32) (v_hl : Nat → Int32) (v_as_wantedPoor : Int32) (v_as_wantedRich : Int32) (v_am : Nat → Int32) (v_fr_upper : Int64) (v_fr_lower : Int64) : va_W := [(a_x, .inr (8, [.ref a_la, .ref a_te, .ref a_ha, .ref a_as, .ref a_lo, .ref a_we, .ref a_ho, .ref a_fr, .ref a_pr, .long v_x_trace])), (a_la, .inr (4, [.ref a_lc, .ref a_lr])), (a_lc, .inl (cI, 32, .inl v_lc)), (a_ha, .inr (2, [.ref a_hp, .ref a_hl, .ref a_hq, .ref a_hm, .int v_ha_finds])), (a_hp, .inl (cI, 12, .inl v_hp)), (a_hl, .inl (cI, 12, .inl v_hl)), (a_as, .inr (0, [.ref a_am, .int v_as_wantedPoor, .int v_as_wantedRich])), (a_am, .inl (cI, 8, .inl v_am)), (a_fr, .inr (1, [.long v_fr_upper, .long v_fr_lower]))]
abbrev rm_X9_mends : Room := { frames := 5, cells := 0, slots := 0, locals := 129 }
theorem il_X9_mends_X9 : ∀ w ∈ wsX90, w ∈ wsX9_mends := by decide +kernel
theorem il_X9_mends_X1 : ∀ w ∈ wsX10, w ∈ wsX9_mends := by decide +kernel
theorem fk_X9_mends_0 : Cond.fieldLink RX9 33 "PostedAsks" "asker" "LPostedAsks$Asker;" ∈ wsX9_mends := by decide +kernel
theorem fk_X9_mends_1 : Cond.fieldLink RX9 10 "PostedAsks" "lands" "LPostedAsks$Lands;" ∈ wsX9_mends := by decide +kernel
theorem fk_X9_mends_2 : Cond.fieldLink RX9 26 "PostedAsks" "habit" "LPostedAsks$Habit;" ∈ wsX9_mends := by decide +kernel
theorem fk_X9_mends_3 : Cond.fieldLink RX9 61 "PostedAsks" "fraction" "LPostedAsks$Fraction;" ∈ wsX9_mends := by decide +kernel
theorem fk_X9_mends_4 : Cond.methodLink RX9 153 Lib.MathLoose.abs_long.x ∈ wsX9_mends := by decide +kernel
theorem fk_X9_mends_5 : Cond.static Lib.MathLoose.abs_long.x ∈ wsX9_mends := by decide +kernel
theorem fk_X9_mends_6 : Cond.initialized "java/lang/Math" ∈ wsX9_mends := by decide +kernel
theorem fk_X9_mends_7 : Cond.code Lib.MathLoose.abs_long.x Lib.MathLoose.abs_long.code 2 (some .long) ∈ wsX9_mends := by decide +kernel
def f_X9_mends (x1 : Int32) (x2 : Int32) (x3 : Int32) (v_lc : Nat → Int32) (v_ha_finds : Int32) (v_hp : Nat → Int32) (v_hl : Nat → Int32) (v_as_wantedPoor : Int32) (v_as_wantedRich : Int32) (v_am : Nat → Int32) (v_fr_upper : Int64) (v_fr_lower : Int64) : Option (Int32 × Int32 × Int32 × (Nat → Int32) × Int64 × Int64) :=
  (f_X9_isAsking x1 x2 x3).bind fun u_1 =>
  if u_1 = 0 then
    some ((-9 : Int32), v_as_wantedPoor, v_as_wantedRich, v_am, v_fr_upper, v_fr_lower)
  else
    (f_X0_ask x1 x2 x3 v_lc v_ha_finds v_hp v_hl v_am).bind fun u_4 =>
    (f_X9_weigh x1 v_lc u_4.2.2 v_fr_upper v_fr_lower).bind fun u_6 =>
    (f_X0_met (0 : Int32) (0 : Int32) u_4.2.2).bind fun u_8 =>
    (f_X1_isThere u_6.2).bind fun u_10 =>
    if u_10 = 0 then
      some ((-9 : Int32), u_4.1, u_4.2.1, u_4.2.2, u_6.1, u_6.2)
    else
      if (lg_cmp (Int32.toInt64 u_8) (0 : Int64)) = 0 then
        some ((-9 : Int32), u_4.1, u_4.2.1, u_4.2.2, u_6.1, u_6.2)
      else
        (f_X4_having x1 (0 : Int32) v_lc).bind fun u_14 =>
        (f_X4_having x1 (1 : Int32) v_lc).bind fun u_16 =>
        (f_X0_met (1 : Int32) (1 : Int32) u_4.2.2).bind fun u_18 =>
        if (lg_cmp ((if 0 < ((u_6.1 * (Int32.toInt64 u_14)) - ((Int32.toInt64 u_16) * u_6.2)) then ((u_6.1 * (Int32.toInt64 u_14)) - ((Int32.toInt64 u_16) * u_6.2)) else -((u_6.1 * (Int32.toInt64 u_14)) - ((Int32.toInt64 u_16) * u_6.2))) * (Int32.toInt64 u_8)) ((if 0 < (((Int32.toInt64 u_18) * (Int32.toInt64 u_14)) - ((Int32.toInt64 u_16) * (Int32.toInt64 u_8))) then (((Int32.toInt64 u_18) * (Int32.toInt64 u_14)) - ((Int32.toInt64 u_16) * (Int32.toInt64 u_8))) else -(((Int32.toInt64 u_18) * (Int32.toInt64 u_14)) - ((Int32.toInt64 u_16) * (Int32.toInt64 u_8)))) * u_6.2)) = 0 then
          some ((0 : Int32), u_4.1, u_4.2.1, u_4.2.2, u_6.1, u_6.2)
        else
          if 0 ≤ (lg_cmp ((if 0 < ((u_6.1 * (Int32.toInt64 u_14)) - ((Int32.toInt64 u_16) * u_6.2)) then ((u_6.1 * (Int32.toInt64 u_14)) - ((Int32.toInt64 u_16) * u_6.2)) else -((u_6.1 * (Int32.toInt64 u_14)) - ((Int32.toInt64 u_16) * u_6.2))) * (Int32.toInt64 u_8)) ((if 0 < (((Int32.toInt64 u_18) * (Int32.toInt64 u_14)) - ((Int32.toInt64 u_16) * (Int32.toInt64 u_8))) then (((Int32.toInt64 u_18) * (Int32.toInt64 u_14)) - ((Int32.toInt64 u_16) * (Int32.toInt64 u_8))) else -(((Int32.toInt64 u_18) * (Int32.toInt64 u_14)) - ((Int32.toInt64 u_16) * (Int32.toInt64 u_8)))) * u_6.2)) then
            some ((-1 : Int32), u_4.1, u_4.2.1, u_4.2.2, u_6.1, u_6.2)
          else
            some ((1 : Int32), u_4.1, u_4.2.1, u_4.2.2, u_6.1, u_6.2)
set_option maxHeartbeats 4000000 in
set_option maxRecDepth 100000 in
theorem w_X9_mends_b0 {l : Launch} {D : va_G} {cI cJ : ClassId} {g : pa_GT} {a_x a_la a_lc a_lr a_te a_ha a_hp a_hl a_hq a_hm a_as a_am a_lo a_we a_ho a_fr a_pr : Nat} {A : Nat → Prop} {p : Program} {e : Env} {s : State} {m : MethodId} {args : Array Value} {below : List Frame} {meth : Method} {c : Code} {x1 : Int32} {x2 : Int32} {x3 : Int32} {v_lc : Nat → Int32} {v_ha_finds : Int32} {v_hp : Nat → Int32} {v_hl : Nat → Int32} {v_as_wantedPoor : Int32} {v_as_wantedRich : Int32} {v_am : Nat → Int32} {v_fr_upper : Int64} {v_fr_lower : Int64} {v_x_trace : Int64} {o : Int32 × Int32 × Int32 × (Nat → Int32) × Int64 × Int64} (X : pa_X cX9_mends 14 (some .int) RX9 wsX9_mends D cI cJ g A p s m args meth c)  (hf : f_X9_mends x1 x2 x3 v_lc v_ha_finds v_hp v_hl v_as_wantedPoor v_as_wantedRich v_am v_fr_upper v_fr_lower = some o) {H : Heap} {locs : List Loc} (hP : va_P D vwCl (wo_X9_mends cI cJ a_x a_la a_lc a_lr a_te a_ha a_hp a_hl a_hq a_hm a_as a_am a_lo a_we a_ho a_fr a_pr v_x_trace v_lc v_ha_finds v_hp v_hl v_as_wantedPoor v_as_wantedRich v_am v_fr_upper v_fr_lower) H) (hD : va_D A (wo_X9_mends cI cJ a_x a_la a_lc a_lr a_te a_ha a_hp a_hl a_hq a_hm a_as a_am a_lo a_we a_ho a_fr a_pr v_x_trace v_lc v_ha_finds v_hp v_hl v_as_wantedPoor v_as_wantedRich v_am v_fr_upper v_fr_lower)) (hS : va_S A s.heap H locs) {ls : Array Slot} (hl : lv_has ls 14 [(0, .ref a_x), (1, .int x1), (2, .int x2), (3, .int x3)]) : W p l e (headSpec wsX9_mends rm_X9_mends).room s m args below meth c H locs 0 0 (MQ below (va_Qi (fun r (_ : Unit) => r = o.1) (pa_QB D A (wo_X9_mends cI cJ a_x a_la a_lc a_lr a_te a_ha a_hp a_hl a_hq a_hm a_as a_am a_lo a_we a_ho a_fr a_pr v_x_trace v_lc v_ha_finds v_hp v_hl o.2.1 o.2.2.1 o.2.2.2.1 o.2.2.2.2.1 o.2.2.2.2.2)) A) args s 0 0 A) (F0 m 0 ls []) := by
  obtain ⟨hx, hb, hr, hml, hown, hts, hK, hA, hG, hlk⟩ := id X
  delta f_X9_mends at hf
  refine lv_iload_n hx hb dX9_mends_0 rfl (lv_at hl 1 rfl) ?_
  refine lv_iload_n hx hb dX9_mends_1 rfl (lv_at hl 2 rfl) ?_
  refine lv_iload_n hx hb dX9_mends_2 rfl (lv_at hl 3 rfl) ?_
  obtain ⟨u_1, hg_2, hf⟩ := pa_bd hf
  refine pa_ki (wc := ([] : va_W)) (wr := [(a_x, .inr (8, [.ref a_la, .ref a_te, .ref a_ha, .ref a_as, .ref a_lo, .ref a_we, .ref a_ho, .ref a_fr, .ref a_pr, .long v_x_trace])), (a_la, .inr (4, [.ref a_lc, .ref a_lr])), (a_lc, .inl (cI, 32, .inl v_lc)), (a_ha, .inr (2, [.ref a_hp, .ref a_hl, .ref a_hq, .ref a_hm, .int v_ha_finds])), (a_hp, .inl (cI, 12, .inl v_hp)), (a_hl, .inl (cI, 12, .inl v_hl)), (a_as, .inr (0, [.ref a_am, .int v_as_wantedPoor, .int v_as_wantedRich])), (a_am, .inl (cI, 8, .inl v_am)), (a_fr, .inr (1, [.long v_fr_upper, .long v_fr_lower]))]) (w1 := ([] : va_W)) (w2 := (wo_X9_mends cI cJ a_x a_la a_lc a_lr a_te a_ha a_hp a_hl a_hq a_hm a_as a_am a_lo a_we a_ho a_fr a_pr v_x_trace v_lc v_ha_finds v_hp v_hl v_as_wantedPoor v_as_wantedRich v_am v_fr_upper v_fr_lower)) X hP hD hS [] [0, 1, 2, 3, 4, 5, 6, 7, 8] [0, 1, 2, 3, 4, 5, 6, 7, 8] rfl (pa_rS (As := [.int x1, .int x2, .int x3]) (rest := []) X hP hD hS [] rfl rfl (c_X9_isAsking hg_2 H.size) (va_cwS 3 hts gX9_mends_X9_isAsking rfl rfl rfl (by decide +kernel) ⟨Nat.le_of_ble_eq_true rfl, Nat.le_of_ble_eq_true rfl⟩) rfl hl.1 rfl (Nat.le_of_ble_eq_true rfl) dX9_mends_3 ⟨Nat.zero_le _, Nat.zero_le _⟩) rfl rfl (by decide) rfl rfl (fun H locs hP hD hS => ?_)
  refine lv_if_ne (tgt := 12) hx hb dX9_mends_6 (by decide) (fun c_3 => ?_) (fun c_3 => ?_)
  · have hf := (if_neg c_3).symm.trans hf
    refine lv_aload_n hx hb dX9_mends_12 rfl (lv_at hl 0 rfl) ?_
    refine va_get (D := D) (ci := 8) (v := .ref a_as) (C := RX9) (T := TX9) (N := 10) hx hb hts il_X9_mends_X9 hown hK hP 0 rfl rfl 3 (by decide) (hts _ fk_X9_mends_0) (fun _ h9 => h9) rfl dX9_mends_13 ?_
    refine lv_aload_n hx hb dX9_mends_16 rfl (lv_at hl 0 rfl) ?_
    refine va_get (D := D) (ci := 8) (v := .ref a_la) (C := RX9) (T := TX9) (N := 10) hx hb hts il_X9_mends_X9 hown hK hP 0 rfl rfl 0 (by decide) (hts _ fk_X9_mends_1) (fun _ h9 => h9) rfl dX9_mends_17 ?_
    refine lv_iload_n hx hb dX9_mends_20 rfl (lv_at hl 1 rfl) ?_
    refine lv_aload_n hx hb dX9_mends_21 rfl (lv_at hl 0 rfl) ?_
    refine va_get (D := D) (ci := 8) (v := .ref a_ha) (C := RX9) (T := TX9) (N := 10) hx hb hts il_X9_mends_X9 hown hK hP 0 rfl rfl 2 (by decide) (hts _ fk_X9_mends_2) (fun _ h9 => h9) rfl dX9_mends_22 ?_
    refine lv_iload_n hx hb dX9_mends_25 rfl (lv_at hl 2 rfl) ?_
    refine lv_iload_n hx hb dX9_mends_26 rfl (lv_at hl 3 rfl) ?_
    obtain ⟨u_4, hg_5, hf⟩ := pa_bd hf
    refine pa_kv (wc := (wo_X0_ask cI cJ a_la a_lc a_lr a_ha a_hp a_hl a_hq a_hm a_as a_am v_lc v_ha_finds v_hp v_hl v_as_wantedPoor v_as_wantedRich v_am)) (wr := [(a_x, .inr (8, [.ref a_la, .ref a_te, .ref a_ha, .ref a_as, .ref a_lo, .ref a_we, .ref a_ho, .ref a_fr, .ref a_pr, .long v_x_trace])), (a_fr, .inr (1, [.long v_fr_upper, .long v_fr_lower]))]) (w1 := (wo_X0_ask cI cJ a_la a_lc a_lr a_ha a_hp a_hl a_hq a_hm a_as a_am v_lc v_ha_finds v_hp v_hl u_4.1 u_4.2.1 u_4.2.2)) (w2 := (wo_X9_mends cI cJ a_x a_la a_lc a_lr a_te a_ha a_hp a_hl a_hq a_hm a_as a_am a_lo a_we a_ho a_fr a_pr v_x_trace v_lc v_ha_finds v_hp v_hl u_4.1 u_4.2.1 u_4.2.2 v_fr_upper v_fr_lower)) X hP hD hS [1, 2, 3, 4, 5, 6, 7] [0, 8] [0, 2, 3, 4, 5, 6, 7, 8, 1] rfl (pa_rV (As := [.ref a_la, .int x1, .ref a_ha, .int x2, .int x3]) (rest := []) (T := TX0) X hP hD hS [1, 2, 3, 4, 5, 6, 7] rfl rfl (c_X0_ask hg_5 H.size) (cwV 5 hts gX9_mends_X0_ask rfl rfl rfl (by decide +kernel) ⟨Nat.le_of_ble_eq_true rfl, Nat.le_of_ble_eq_true rfl⟩) (q0 := 6) rfl rfl rfl hl.1 rfl (Nat.le_of_ble_eq_true rfl) dX9_mends_27 ⟨Nat.zero_le _, Nat.zero_le _⟩) rfl rfl (by decide) rfl rfl (fun H locs hP hD hS => ?_)
    refine lv_aload_n hx hb dX9_mends_30 rfl (lv_at hl 0 rfl) ?_
    refine lv_iload_n hx hb dX9_mends_31 rfl (lv_at hl 1 rfl) ?_
    obtain ⟨u_6, hg_7, hf⟩ := pa_bd hf
    refine pa_kv (wc := (wo_X9_weigh cI cJ a_x a_la a_lc a_lr a_te a_ha a_as a_am a_lo a_we a_ho a_fr a_pr v_x_trace v_lc u_4.1 u_4.2.1 u_4.2.2 v_fr_upper v_fr_lower)) (wr := [(a_ha, .inr (2, [.ref a_hp, .ref a_hl, .ref a_hq, .ref a_hm, .int v_ha_finds])), (a_hp, .inl (cI, 12, .inl v_hp)), (a_hl, .inl (cI, 12, .inl v_hl))]) (w1 := (wo_X9_weigh cI cJ a_x a_la a_lc a_lr a_te a_ha a_as a_am a_lo a_we a_ho a_fr a_pr v_x_trace v_lc u_4.1 u_4.2.1 u_4.2.2 u_6.1 u_6.2)) (w2 := (wo_X9_mends cI cJ a_x a_la a_lc a_lr a_te a_ha a_hp a_hl a_hq a_hm a_as a_am a_lo a_we a_ho a_fr a_pr v_x_trace v_lc v_ha_finds v_hp v_hl u_4.1 u_4.2.1 u_4.2.2 u_6.1 u_6.2)) X hP hD hS [0, 1, 2, 6, 7, 8] [3, 4, 5] [3, 4, 5, 0, 1, 2, 6, 7, 8] rfl (pa_rV (As := [.int x1]) (rest := []) (T := TX9) X hP hD hS [0, 1, 2, 6, 7, 8] rfl rfl (c_X9_weigh hg_7 H.size) (cwV 1 hts gX9_mends_X9_weigh rfl rfl rfl (by decide +kernel) ⟨Nat.le_of_ble_eq_true rfl, Nat.le_of_ble_eq_true rfl⟩) (q0 := 0) rfl rfl rfl hl.1 rfl (Nat.le_of_ble_eq_true rfl) dX9_mends_32 ⟨Nat.zero_le _, Nat.zero_le _⟩) rfl rfl (by decide) rfl rfl (fun H locs hP hD hS => ?_)
    refine lv_aload_n hx hb dX9_mends_35 rfl (lv_at hl 0 rfl) ?_
    refine va_get (D := D) (ci := 8) (v := .ref a_as) (C := RX9) (T := TX9) (N := 10) hx hb hts il_X9_mends_X9 hown hK hP 0 rfl rfl 3 (by decide) (hts _ fk_X9_mends_0) (fun _ h9 => h9) rfl dX9_mends_36 ?_
    refine lv_iconst (v := (0 : Int32)) hx hb dX9_mends_39 (by decide) ?_
    refine lv_iconst (v := (0 : Int32)) hx hb dX9_mends_40 (by decide) ?_
    obtain ⟨u_8, hg_9, hf⟩ := pa_bd hf
    refine pa_ki (wc := (wo_X0_met cI cJ a_as a_am u_4.1 u_4.2.1 u_4.2.2)) (wr := [(a_x, .inr (8, [.ref a_la, .ref a_te, .ref a_ha, .ref a_as, .ref a_lo, .ref a_we, .ref a_ho, .ref a_fr, .ref a_pr, .long v_x_trace])), (a_la, .inr (4, [.ref a_lc, .ref a_lr])), (a_lc, .inl (cI, 32, .inl v_lc)), (a_ha, .inr (2, [.ref a_hp, .ref a_hl, .ref a_hq, .ref a_hm, .int v_ha_finds])), (a_hp, .inl (cI, 12, .inl v_hp)), (a_hl, .inl (cI, 12, .inl v_hl)), (a_fr, .inr (1, [.long u_6.1, .long u_6.2]))]) (w1 := (wo_X0_met cI cJ a_as a_am u_4.1 u_4.2.1 u_4.2.2)) (w2 := (wo_X9_mends cI cJ a_x a_la a_lc a_lr a_te a_ha a_hp a_hl a_hq a_hm a_as a_am a_lo a_we a_ho a_fr a_pr v_x_trace v_lc v_ha_finds v_hp v_hl u_4.1 u_4.2.1 u_4.2.2 u_6.1 u_6.2)) X hP hD hS [6, 7] [0, 1, 2, 3, 4, 5, 8] [0, 1, 2, 3, 4, 5, 7, 8, 6] rfl (pa_rV (As := [.int (0 : Int32), .int (0 : Int32)]) (rest := []) (T := TX0) X hP hD hS [6, 7] rfl rfl (c_X0_met hg_9 H.size) (cwV 2 hts gX9_mends_X0_met rfl rfl rfl (by decide +kernel) ⟨Nat.le_of_ble_eq_true rfl, Nat.le_of_ble_eq_true rfl⟩) (q0 := 6) rfl rfl rfl hl.1 rfl (Nat.le_of_ble_eq_true rfl) dX9_mends_41 ⟨Nat.zero_le _, Nat.zero_le _⟩) rfl rfl (by decide) rfl rfl (fun H locs hP hD hS => ?_)
    refine lv_i2l (v := (Int32.toInt64 u_8)) hx hb dX9_mends_44 rfl ?_
    refine lv_lstore (lv' := [(4, .long (Int32.toInt64 u_8)), (0, .ref a_x), (1, .int x1), (2, .int x2), (3, .int x3)]) hx hb dX9_mends_45 hl (by decide) rfl (fun ls hl => ?_)
    refine lv_aload_n hx hb dX9_mends_47 rfl (lv_at hl 1 rfl) ?_
    refine va_get (D := D) (ci := 8) (v := .ref a_fr) (C := RX9) (T := TX9) (N := 10) hx hb hts il_X9_mends_X9 hown hK hP 0 rfl rfl 7 (by decide) (hts _ fk_X9_mends_3) (fun _ h9 => h9) rfl dX9_mends_48 ?_
    obtain ⟨u_10, hg_11, hf⟩ := pa_bd hf
    refine pa_ki (wc := (wo_X1_isThere cI cJ a_fr u_6.1 u_6.2)) (wr := [(a_x, .inr (8, [.ref a_la, .ref a_te, .ref a_ha, .ref a_as, .ref a_lo, .ref a_we, .ref a_ho, .ref a_fr, .ref a_pr, .long v_x_trace])), (a_la, .inr (4, [.ref a_lc, .ref a_lr])), (a_lc, .inl (cI, 32, .inl v_lc)), (a_ha, .inr (2, [.ref a_hp, .ref a_hl, .ref a_hq, .ref a_hm, .int v_ha_finds])), (a_hp, .inl (cI, 12, .inl v_hp)), (a_hl, .inl (cI, 12, .inl v_hl)), (a_as, .inr (0, [.ref a_am, .int u_4.1, .int u_4.2.1])), (a_am, .inl (cI, 8, .inl u_4.2.2))]) (w1 := (wo_X1_isThere cI cJ a_fr u_6.1 u_6.2)) (w2 := (wo_X9_mends cI cJ a_x a_la a_lc a_lr a_te a_ha a_hp a_hl a_hq a_hm a_as a_am a_lo a_we a_ho a_fr a_pr v_x_trace v_lc v_ha_finds v_hp v_hl u_4.1 u_4.2.1 u_4.2.2 u_6.1 u_6.2)) X hP hD hS [8] [0, 1, 2, 3, 4, 5, 6, 7] [0, 1, 2, 3, 4, 5, 6, 7, 8] rfl (pa_rV (As := []) (rest := []) (T := TX1) X hP hD hS [8] rfl rfl (c_X1_isThere hg_11 H.size) (cwV 0 hts gX9_mends_X1_isThere rfl rfl rfl (by decide +kernel) ⟨Nat.le_of_ble_eq_true rfl, Nat.le_of_ble_eq_true rfl⟩) (q0 := 8) rfl rfl rfl hl.1 rfl (Nat.le_of_ble_eq_true rfl) dX9_mends_51 ⟨Nat.zero_le _, Nat.zero_le _⟩) rfl rfl (by decide) rfl rfl (fun H locs hP hD hS => ?_)
    refine lv_if_eq (tgt := 64) hx hb dX9_mends_54 (by decide) (fun c_12 => ?_) (fun c_12 => ?_)
    · have hf := (if_pos c_12).symm.trans hf
      refine lv_bipush (v := (-9 : Int32)) hx hb dX9_mends_64 (by decide) ?_
      obtain rfl := Option.some.inj hf
      exact pa_ei X hP hD hS dX9_mends_66
    · have hf := (if_neg c_12).symm.trans hf
      refine lv_lload hx hb dX9_mends_57 (lv_at hl 0 rfl) ?_
      refine lv_lconst (v := (0 : Int64)) hx hb dX9_mends_59 (by decide) ?_
      refine W.lcmp hx hb dX9_mends_60 ?_
      refine lv_if_ne (tgt := 67) hx hb dX9_mends_61 (by decide) (fun c_13 => ?_) (fun c_13 => ?_)
      · have hf := (if_neg c_13).symm.trans hf
        refine lv_aload_n hx hb dX9_mends_67 rfl (lv_at hl 1 rfl) ?_
        refine va_get (D := D) (ci := 8) (v := .ref a_la) (C := RX9) (T := TX9) (N := 10) hx hb hts il_X9_mends_X9 hown hK hP 0 rfl rfl 0 (by decide) (hts _ fk_X9_mends_1) (fun _ h9 => h9) rfl dX9_mends_68 ?_
        refine lv_iload_n hx hb dX9_mends_71 rfl (lv_at hl 2 rfl) ?_
        refine lv_iconst (v := (0 : Int32)) hx hb dX9_mends_72 (by decide) ?_
        obtain ⟨u_14, hg_15, hf⟩ := pa_bd hf
        refine pa_ki (wc := (wo_X4_having cI cJ a_la a_lc a_lr v_lc)) (wr := [(a_x, .inr (8, [.ref a_la, .ref a_te, .ref a_ha, .ref a_as, .ref a_lo, .ref a_we, .ref a_ho, .ref a_fr, .ref a_pr, .long v_x_trace])), (a_ha, .inr (2, [.ref a_hp, .ref a_hl, .ref a_hq, .ref a_hm, .int v_ha_finds])), (a_hp, .inl (cI, 12, .inl v_hp)), (a_hl, .inl (cI, 12, .inl v_hl)), (a_as, .inr (0, [.ref a_am, .int u_4.1, .int u_4.2.1])), (a_am, .inl (cI, 8, .inl u_4.2.2)), (a_fr, .inr (1, [.long u_6.1, .long u_6.2]))]) (w1 := (wo_X4_having cI cJ a_la a_lc a_lr v_lc)) (w2 := (wo_X9_mends cI cJ a_x a_la a_lc a_lr a_te a_ha a_hp a_hl a_hq a_hm a_as a_am a_lo a_we a_ho a_fr a_pr v_x_trace v_lc v_ha_finds v_hp v_hl u_4.1 u_4.2.1 u_4.2.2 u_6.1 u_6.2)) X hP hD hS [1, 2] [0, 3, 4, 5, 6, 7, 8] [0, 7, 8, 1, 2, 3, 4, 5, 6] rfl (pa_rV (As := [.int x1, .int (0 : Int32)]) (rest := []) (T := TX4) X hP hD hS [1, 2] rfl rfl (c_X4_having hg_15 H.size) (cwV 2 hts gX9_mends_X4_having rfl rfl rfl (by decide +kernel) ⟨Nat.le_of_ble_eq_true rfl, Nat.le_of_ble_eq_true rfl⟩) (q0 := 1) rfl rfl rfl hl.1 rfl (Nat.le_of_ble_eq_true rfl) dX9_mends_73 ⟨Nat.zero_le _, Nat.zero_le _⟩) rfl rfl (by decide) rfl rfl (fun H locs hP hD hS => ?_)
        refine lv_i2l (v := (Int32.toInt64 u_14)) hx hb dX9_mends_76 rfl ?_
        refine lv_lstore (lv' := [(6, .long (Int32.toInt64 u_14)), (4, .long (Int32.toInt64 u_8)), (0, .ref a_x), (1, .int x1), (2, .int x2), (3, .int x3)]) hx hb dX9_mends_77 hl (by decide) rfl (fun ls hl => ?_)
        refine lv_aload_n hx hb dX9_mends_79 rfl (lv_at hl 2 rfl) ?_
        refine va_get (D := D) (ci := 8) (v := .ref a_la) (C := RX9) (T := TX9) (N := 10) hx hb hts il_X9_mends_X9 hown hK hP 0 rfl rfl 0 (by decide) (hts _ fk_X9_mends_1) (fun _ h9 => h9) rfl dX9_mends_80 ?_
        refine lv_iload_n hx hb dX9_mends_83 rfl (lv_at hl 3 rfl) ?_
        refine lv_iconst (v := (1 : Int32)) hx hb dX9_mends_84 (by decide) ?_
        obtain ⟨u_16, hg_17, hf⟩ := pa_bd hf
        refine pa_ki (wc := (wo_X4_having cI cJ a_la a_lc a_lr v_lc)) (wr := [(a_x, .inr (8, [.ref a_la, .ref a_te, .ref a_ha, .ref a_as, .ref a_lo, .ref a_we, .ref a_ho, .ref a_fr, .ref a_pr, .long v_x_trace])), (a_ha, .inr (2, [.ref a_hp, .ref a_hl, .ref a_hq, .ref a_hm, .int v_ha_finds])), (a_hp, .inl (cI, 12, .inl v_hp)), (a_hl, .inl (cI, 12, .inl v_hl)), (a_as, .inr (0, [.ref a_am, .int u_4.1, .int u_4.2.1])), (a_am, .inl (cI, 8, .inl u_4.2.2)), (a_fr, .inr (1, [.long u_6.1, .long u_6.2]))]) (w1 := (wo_X4_having cI cJ a_la a_lc a_lr v_lc)) (w2 := (wo_X9_mends cI cJ a_x a_la a_lc a_lr a_te a_ha a_hp a_hl a_hq a_hm a_as a_am a_lo a_we a_ho a_fr a_pr v_x_trace v_lc v_ha_finds v_hp v_hl u_4.1 u_4.2.1 u_4.2.2 u_6.1 u_6.2)) X hP hD hS [1, 2] [0, 3, 4, 5, 6, 7, 8] [0, 7, 8, 1, 2, 3, 4, 5, 6] rfl (pa_rV (As := [.int x1, .int (1 : Int32)]) (rest := []) (T := TX4) X hP hD hS [1, 2] rfl rfl (c_X4_having hg_17 H.size) (cwV 2 hts gX9_mends_X4_having rfl rfl rfl (by decide +kernel) ⟨Nat.le_of_ble_eq_true rfl, Nat.le_of_ble_eq_true rfl⟩) (q0 := 1) rfl rfl rfl hl.1 rfl (Nat.le_of_ble_eq_true rfl) dX9_mends_85 ⟨Nat.zero_le _, Nat.zero_le _⟩) rfl rfl (by decide) rfl rfl (fun H locs hP hD hS => ?_)
        refine lv_i2l (v := (Int32.toInt64 u_16)) hx hb dX9_mends_88 rfl ?_
        refine lv_lstore (lv' := [(8, .long (Int32.toInt64 u_16)), (6, .long (Int32.toInt64 u_14)), (4, .long (Int32.toInt64 u_8)), (0, .ref a_x), (1, .int x1), (2, .int x2), (3, .int x3)]) hx hb dX9_mends_89 hl (by decide) rfl (fun ls hl => ?_)
        refine lv_aload_n hx hb dX9_mends_91 rfl (lv_at hl 3 rfl) ?_
        refine va_get (D := D) (ci := 8) (v := .ref a_fr) (C := RX9) (T := TX9) (N := 10) hx hb hts il_X9_mends_X9 hown hK hP 0 rfl rfl 7 (by decide) (hts _ fk_X9_mends_3) (fun _ h9 => h9) rfl dX9_mends_92 ?_
        refine va_getN (D := D) (ci := 1) (v := .long u_6.1) (C := RX1) (T := TX1) (N := 2) hx hb hts il_X9_mends_X1 hown hK hP 8 rfl rfl 0 (by decide) (va_Nw.use rfl (hG.1 _ (List.mem_of_getElem? (i := 16) rfl))) (fun _ h9 => h9) rfl dX9_mends_95 ?_
        refine lv_lload hx hb dX9_mends_98 (lv_at hl 1 rfl) ?_
        refine lv_lmul hx hb dX9_mends_100 ?_
        refine lv_lload hx hb dX9_mends_101 (lv_at hl 0 rfl) ?_
        refine lv_aload_n hx hb dX9_mends_103 rfl (lv_at hl 3 rfl) ?_
        refine va_get (D := D) (ci := 8) (v := .ref a_fr) (C := RX9) (T := TX9) (N := 10) hx hb hts il_X9_mends_X9 hown hK hP 0 rfl rfl 7 (by decide) (hts _ fk_X9_mends_3) (fun _ h9 => h9) rfl dX9_mends_104 ?_
        refine va_getN (D := D) (ci := 1) (v := .long u_6.2) (C := RX1) (T := TX1) (N := 2) hx hb hts il_X9_mends_X1 hown hK hP 8 rfl rfl 1 (by decide) (va_Nw.use rfl (hG.1 _ (List.mem_of_getElem? (i := 17) rfl))) (fun _ h9 => h9) rfl dX9_mends_107 ?_
        refine lv_lmul hx hb dX9_mends_110 ?_
        refine lv_lsub hx hb dX9_mends_111 ?_
        refine va_mabs_long hx hb (hml.trans hl.1.symm) hown (hts _ fk_X9_mends_4) (hts _ fk_X9_mends_5) (hts _ fk_X9_mends_6) (hts _ fk_X9_mends_7) (Nat.le_of_ble_eq_true rfl) (Nat.le_of_ble_eq_true rfl) (Nat.zero_le _) (Nat.zero_le _) dX9_mends_112 ?_
        refine lv_lload hx hb dX9_mends_115 (lv_at hl 2 rfl) ?_
        refine lv_lmul hx hb dX9_mends_117 ?_
        refine lv_lstore (lv' := [(10, .long ((if 0 < ((u_6.1 * (Int32.toInt64 u_14)) - ((Int32.toInt64 u_16) * u_6.2)) then ((u_6.1 * (Int32.toInt64 u_14)) - ((Int32.toInt64 u_16) * u_6.2)) else -((u_6.1 * (Int32.toInt64 u_14)) - ((Int32.toInt64 u_16) * u_6.2))) * (Int32.toInt64 u_8))), (8, .long (Int32.toInt64 u_16)), (6, .long (Int32.toInt64 u_14)), (4, .long (Int32.toInt64 u_8)), (0, .ref a_x), (1, .int x1), (2, .int x2), (3, .int x3)]) hx hb dX9_mends_118 hl (by decide) rfl (fun ls hl => ?_)
        refine lv_aload_n hx hb dX9_mends_120 rfl (lv_at hl 4 rfl) ?_
        refine va_get (D := D) (ci := 8) (v := .ref a_as) (C := RX9) (T := TX9) (N := 10) hx hb hts il_X9_mends_X9 hown hK hP 0 rfl rfl 3 (by decide) (hts _ fk_X9_mends_0) (fun _ h9 => h9) rfl dX9_mends_121 ?_
        refine lv_iconst (v := (1 : Int32)) hx hb dX9_mends_124 (by decide) ?_
        refine lv_iconst (v := (1 : Int32)) hx hb dX9_mends_125 (by decide) ?_
        obtain ⟨u_18, hg_19, hf⟩ := pa_bd hf
        refine pa_ki (wc := (wo_X0_met cI cJ a_as a_am u_4.1 u_4.2.1 u_4.2.2)) (wr := [(a_x, .inr (8, [.ref a_la, .ref a_te, .ref a_ha, .ref a_as, .ref a_lo, .ref a_we, .ref a_ho, .ref a_fr, .ref a_pr, .long v_x_trace])), (a_la, .inr (4, [.ref a_lc, .ref a_lr])), (a_lc, .inl (cI, 32, .inl v_lc)), (a_ha, .inr (2, [.ref a_hp, .ref a_hl, .ref a_hq, .ref a_hm, .int v_ha_finds])), (a_hp, .inl (cI, 12, .inl v_hp)), (a_hl, .inl (cI, 12, .inl v_hl)), (a_fr, .inr (1, [.long u_6.1, .long u_6.2]))]) (w1 := (wo_X0_met cI cJ a_as a_am u_4.1 u_4.2.1 u_4.2.2)) (w2 := (wo_X9_mends cI cJ a_x a_la a_lc a_lr a_te a_ha a_hp a_hl a_hq a_hm a_as a_am a_lo a_we a_ho a_fr a_pr v_x_trace v_lc v_ha_finds v_hp v_hl u_4.1 u_4.2.1 u_4.2.2 u_6.1 u_6.2)) X hP hD hS [6, 7] [0, 1, 2, 3, 4, 5, 8] [0, 1, 2, 3, 4, 5, 7, 8, 6] rfl (pa_rV (As := [.int (1 : Int32), .int (1 : Int32)]) (rest := []) (T := TX0) X hP hD hS [6, 7] rfl rfl (c_X0_met hg_19 H.size) (cwV 2 hts gX9_mends_X0_met rfl rfl rfl (by decide +kernel) ⟨Nat.le_of_ble_eq_true rfl, Nat.le_of_ble_eq_true rfl⟩) (q0 := 6) rfl rfl rfl hl.1 rfl (Nat.le_of_ble_eq_true rfl) dX9_mends_126 ⟨Nat.zero_le _, Nat.zero_le _⟩) rfl rfl (by decide) rfl rfl (fun H locs hP hD hS => ?_)
        refine lv_i2l (v := (Int32.toInt64 u_18)) hx hb dX9_mends_129 rfl ?_
        refine lv_lload hx hb dX9_mends_130 (lv_at hl 2 rfl) ?_
        refine lv_lmul hx hb dX9_mends_132 ?_
        refine lv_lload hx hb dX9_mends_133 (lv_at hl 1 rfl) ?_
        refine lv_lload hx hb dX9_mends_135 (lv_at hl 3 rfl) ?_
        refine lv_lmul hx hb dX9_mends_137 ?_
        refine lv_lsub hx hb dX9_mends_138 ?_
        refine va_mabs_long hx hb (hml.trans hl.1.symm) hown (hts _ fk_X9_mends_4) (hts _ fk_X9_mends_5) (hts _ fk_X9_mends_6) (hts _ fk_X9_mends_7) (Nat.le_of_ble_eq_true rfl) (Nat.le_of_ble_eq_true rfl) (Nat.zero_le _) (Nat.zero_le _) dX9_mends_139 ?_
        refine lv_aload_n hx hb dX9_mends_142 rfl (lv_at hl 4 rfl) ?_
        refine va_get (D := D) (ci := 8) (v := .ref a_fr) (C := RX9) (T := TX9) (N := 10) hx hb hts il_X9_mends_X9 hown hK hP 0 rfl rfl 7 (by decide) (hts _ fk_X9_mends_3) (fun _ h9 => h9) rfl dX9_mends_143 ?_
        refine va_getN (D := D) (ci := 1) (v := .long u_6.2) (C := RX1) (T := TX1) (N := 2) hx hb hts il_X9_mends_X1 hown hK hP 8 rfl rfl 1 (by decide) (va_Nw.use rfl (hG.1 _ (List.mem_of_getElem? (i := 17) rfl))) (fun _ h9 => h9) rfl dX9_mends_146 ?_
        refine lv_lmul hx hb dX9_mends_149 ?_
        refine lv_lstore (lv' := [(12, .long ((if 0 < (((Int32.toInt64 u_18) * (Int32.toInt64 u_14)) - ((Int32.toInt64 u_16) * (Int32.toInt64 u_8))) then (((Int32.toInt64 u_18) * (Int32.toInt64 u_14)) - ((Int32.toInt64 u_16) * (Int32.toInt64 u_8))) else -(((Int32.toInt64 u_18) * (Int32.toInt64 u_14)) - ((Int32.toInt64 u_16) * (Int32.toInt64 u_8)))) * u_6.2)), (10, .long ((if 0 < ((u_6.1 * (Int32.toInt64 u_14)) - ((Int32.toInt64 u_16) * u_6.2)) then ((u_6.1 * (Int32.toInt64 u_14)) - ((Int32.toInt64 u_16) * u_6.2)) else -((u_6.1 * (Int32.toInt64 u_14)) - ((Int32.toInt64 u_16) * u_6.2))) * (Int32.toInt64 u_8))), (8, .long (Int32.toInt64 u_16)), (6, .long (Int32.toInt64 u_14)), (4, .long (Int32.toInt64 u_8)), (0, .ref a_x), (1, .int x1), (2, .int x2), (3, .int x3)]) hx hb dX9_mends_150 hl (by decide) rfl (fun ls hl => ?_)
        refine lv_lload hx hb dX9_mends_152 (lv_at hl 1 rfl) ?_
        refine lv_lload hx hb dX9_mends_154 (lv_at hl 0 rfl) ?_
        refine W.lcmp hx hb dX9_mends_156 ?_
        refine lv_if_ne (tgt := 162) hx hb dX9_mends_157 (by decide) (fun c_20 => ?_) (fun c_20 => ?_)
        · have hf := (if_neg c_20).symm.trans hf
          refine lv_lload hx hb dX9_mends_162 (lv_at hl 1 rfl) ?_
          refine lv_lload hx hb dX9_mends_164 (lv_at hl 0 rfl) ?_
          refine W.lcmp hx hb dX9_mends_166 ?_
          refine lv_if_ge (tgt := 174) hx hb dX9_mends_167 (by decide) (fun c_21 => ?_) (fun c_21 => ?_)
          · have hf := (if_pos c_21).symm.trans hf
            refine lv_iconst (v := (-1 : Int32)) hx hb dX9_mends_174 (by decide) ?_
            obtain rfl := Option.some.inj hf
            exact pa_ei X hP hD hS dX9_mends_175
          · have hf := (if_neg c_21).symm.trans hf
            refine lv_iconst (v := (1 : Int32)) hx hb dX9_mends_170 (by decide) ?_
            refine lv_goto (tgt := 175) hx hb dX9_mends_171 (by decide) ?_
            obtain rfl := Option.some.inj hf
            exact pa_ei X hP hD hS dX9_mends_175
        · have hf := (if_pos c_20).symm.trans hf
          refine lv_iconst (v := (0 : Int32)) hx hb dX9_mends_160 (by decide) ?_
          obtain rfl := Option.some.inj hf
          exact pa_ei X hP hD hS dX9_mends_161
      · have hf := (if_pos c_13).symm.trans hf
        refine lv_bipush (v := (-9 : Int32)) hx hb dX9_mends_64 (by decide) ?_
        obtain rfl := Option.some.inj hf
        exact pa_ei X hP hD hS dX9_mends_66
  · have hf := (if_pos c_3).symm.trans hf
    refine lv_bipush (v := (-9 : Int32)) hx hb dX9_mends_9 (by decide) ?_
    obtain rfl := Option.some.inj hf
    exact pa_ei X hP hD hS dX9_mends_11
set_option maxHeartbeats 4000000 in
set_option maxRecDepth 100000 in
theorem c_X9_mends {l : Launch} {D : va_G} {cI cJ : ClassId} {g : pa_GT} {a_x a_la a_lc a_lr a_te a_ha a_hp a_hl a_hq a_hm a_as a_am a_lo a_we a_ho a_fr a_pr : Nat} {x1 : Int32} {x2 : Int32} {x3 : Int32} {v_x_trace : Int64} {v_lc : Nat → Int32} {v_ha_finds : Int32} {v_hp : Nat → Int32} {v_hl : Nat → Int32} {v_as_wantedPoor : Int32} {v_as_wantedRich : Int32} {v_am : Nat → Int32} {v_fr_upper : Int64} {v_fr_lower : Int64} {o : Int32 × Int32 × Int32 × (Nat → Int32) × Int64 × Int64} (hf : f_X9_mends x1 x2 x3 v_lc v_ha_finds v_hp v_hl v_as_wantedPoor v_as_wantedRich v_am v_fr_upper v_fr_lower = some o) : pa_Mi l yX9_mends wsX9_mends rm_X9_mends D cI cJ g [.ref a_x, .int x1, .int x2, .int x3] (wo_X9_mends cI cJ a_x a_la a_lc a_lr a_te a_ha a_hp a_hl a_hq a_hm a_as a_am a_lo a_we a_ho a_fr a_pr v_x_trace v_lc v_ha_finds v_hp v_hl v_as_wantedPoor v_as_wantedRich v_am v_fr_upper v_fr_lower) (wo_X9_mends cI cJ a_x a_la a_lc a_lr a_te a_ha a_hp a_hl a_hq a_hm a_as a_am a_lo a_we a_ho a_fr a_pr v_x_trace v_lc v_ha_finds v_hp v_hl o.2.1 o.2.2.1 o.2.2.2.1 o.2.2.2.2.1 o.2.2.2.2.2) o.1 := by
  intro sz
  refine pa_met (cc := cX9_mends) (maxL := 14) (ret := (some .int)) (lv := [(0, .ref a_x), (1, .int x1), (2, .int x2), (3, .int x3)]) (by decide) rfl (Nat.le_of_ble_eq_true rfl) rfl ?_
  intro p e s m below meth c X hsz hP hD ls hl
  subst hsz
  exact w_X9_mends_b0 X hf hP hD va_S.rf hl
abbrev rm_X9_isLot : Room := { frames := 1, cells := 0, slots := 0, locals := 22 }
def f_X9_isLot (x0 : Int32) (x1 : Int32) : Option (Int32) :=
  (f_X9_within x0 (1 : Int32) (50 : Int32)).bind fun u_1 =>
  if u_1 = 0 then
    some ((0 : Int32))
  else
    (f_X9_within x1 (0 : Int32) x0).bind fun u_4 =>
    if u_4 = 0 then
      some ((0 : Int32))
    else
      some ((1 : Int32))
set_option maxHeartbeats 4000000 in
set_option maxRecDepth 100000 in
theorem w_X9_isLot_b0 {l : Launch} {D : va_G} {cI cJ : ClassId} {g : pa_GT} {A : Nat → Prop} {p : Program} {e : Env} {s : State} {m : MethodId} {args : Array Value} {below : List Frame} {meth : Method} {c : Code} {x0 : Int32} {x1 : Int32}  {o : Int32} (X : pa_X cX9_isLot 2 (some .boolean) RX9 wsX9_isLot D cI cJ g A p s m args meth c)  (hf : f_X9_isLot x0 x1 = some o) {H : Heap} {locs : List Loc} (hP : va_P D vwCl ([] : va_W) H) (hD : va_D A ([] : va_W)) (hS : va_S A s.heap H locs) {ls : Array Slot} (hl : lv_has ls 2 [(0, .int x0), (1, .int x1)]) : W p l e (headSpec wsX9_isLot rm_X9_isLot).room s m args below meth c H locs 0 0 (MQ below (va_Qi (fun r (_ : Unit) => r = o) (pa_QB D A ([] : va_W)) A) args s 0 0 A) (F0 m 0 ls []) := by
  obtain ⟨hx, hb, hr, hml, hown, hts, hK, hA, hG, hlk⟩ := id X
  delta f_X9_isLot at hf
  refine lv_iload_n hx hb dX9_isLot_0 rfl (lv_at hl 0 rfl) ?_
  refine lv_iconst (v := (1 : Int32)) hx hb dX9_isLot_1 (by decide) ?_
  refine lv_bipush (v := (50 : Int32)) hx hb dX9_isLot_2 (by decide) ?_
  obtain ⟨u_1, hg_2, hf⟩ := pa_bd hf
  refine pa_ki (wc := ([] : va_W)) (wr := ([] : va_W)) (w1 := ([] : va_W)) (w2 := ([] : va_W)) X hP hD hS [] [] [] rfl (pa_rS (As := [.int x0, .int (1 : Int32), .int (50 : Int32)]) (rest := []) X hP hD hS [] rfl rfl (c_X9_within hg_2 H.size) (va_cwS 3 hts gX9_isLot_X9_within rfl rfl rfl (by decide +kernel) ⟨Nat.le_of_ble_eq_true rfl, Nat.le_of_ble_eq_true rfl⟩) rfl hl.1 rfl (Nat.le_of_ble_eq_true rfl) dX9_isLot_4 ⟨Nat.zero_le _, Nat.zero_le _⟩) rfl rfl (by decide) rfl rfl (fun H locs hP hD hS => ?_)
  refine lv_if_eq (tgt := 23) hx hb dX9_isLot_7 (by decide) (fun c_3 => ?_) (fun c_3 => ?_)
  · have hf := (if_pos c_3).symm.trans hf
    refine lv_iconst (v := (0 : Int32)) hx hb dX9_isLot_23 (by decide) ?_
    obtain rfl := Option.some.inj hf
    exact pa_ez (v := (0 : Int32)) X hP hD hS rfl dX9_isLot_24
  · have hf := (if_neg c_3).symm.trans hf
    refine lv_iload_n hx hb dX9_isLot_10 rfl (lv_at hl 1 rfl) ?_
    refine lv_iconst (v := (0 : Int32)) hx hb dX9_isLot_11 (by decide) ?_
    refine lv_iload_n hx hb dX9_isLot_12 rfl (lv_at hl 0 rfl) ?_
    obtain ⟨u_4, hg_5, hf⟩ := pa_bd hf
    refine pa_ki (wc := ([] : va_W)) (wr := ([] : va_W)) (w1 := ([] : va_W)) (w2 := ([] : va_W)) X hP hD hS [] [] [] rfl (pa_rS (As := [.int x1, .int (0 : Int32), .int x0]) (rest := []) X hP hD hS [] rfl rfl (c_X9_within hg_5 H.size) (va_cwS 3 hts gX9_isLot_X9_within rfl rfl rfl (by decide +kernel) ⟨Nat.le_of_ble_eq_true rfl, Nat.le_of_ble_eq_true rfl⟩) rfl hl.1 rfl (Nat.le_of_ble_eq_true rfl) dX9_isLot_13 ⟨Nat.zero_le _, Nat.zero_le _⟩) rfl rfl (by decide) rfl rfl (fun H locs hP hD hS => ?_)
    refine lv_if_eq (tgt := 23) hx hb dX9_isLot_16 (by decide) (fun c_6 => ?_) (fun c_6 => ?_)
    · have hf := (if_pos c_6).symm.trans hf
      refine lv_iconst (v := (0 : Int32)) hx hb dX9_isLot_23 (by decide) ?_
      obtain rfl := Option.some.inj hf
      exact pa_ez (v := (0 : Int32)) X hP hD hS rfl dX9_isLot_24
    · have hf := (if_neg c_6).symm.trans hf
      refine lv_iconst (v := (1 : Int32)) hx hb dX9_isLot_19 (by decide) ?_
      refine lv_goto (tgt := 24) hx hb dX9_isLot_20 (by decide) ?_
      obtain rfl := Option.some.inj hf
      exact pa_ez (v := (1 : Int32)) X hP hD hS rfl dX9_isLot_24
set_option maxHeartbeats 4000000 in
set_option maxRecDepth 100000 in
theorem c_X9_isLot {l : Launch} {D : va_G} {cI cJ : ClassId} {g : pa_GT} {x0 : Int32} {x1 : Int32}  {o : Int32} (hf : f_X9_isLot x0 x1 = some o) : pa_Mi l yX9_isLot wsX9_isLot rm_X9_isLot D cI cJ g [.int x0, .int x1] ([] : va_W) ([] : va_W) o := by
  intro sz
  refine pa_met (cc := cX9_isLot) (maxL := 2) (ret := (some .boolean)) (lv := [(0, .int x0), (1, .int x1)]) (by decide) rfl (Nat.le_of_ble_eq_true rfl) rfl ?_
  intro p e s m below meth c X hsz hP hD ls hl
  subst hsz
  exact w_X9_isLot_b0 X hf hP hD va_S.rf hl
abbrev wo_X9_ways (cI cJ : ClassId) (a_x a_la a_te a_ha a_as a_lo a_lt a_lw a_we a_ho a_fr a_pr : Nat) (v_x_trace : Int64) (v_lt : Nat → Int64) : va_W := [(a_x, .inr (8, [.ref a_la, .ref a_te, .ref a_ha, .ref a_as, .ref a_lo, .ref a_we, .ref a_ho, .ref a_fr, .ref a_pr, .long v_x_trace])), (a_lo, .inr (5, [.ref a_lt, .ref a_lw])), (a_lt, .inl (cJ, 1326, .inr (.inl v_lt)))]
abbrev rm_X9_ways : Room := { frames := 4, cells := 0, slots := 0, locals := 95 }
theorem il_X9_ways_X9 : ∀ w ∈ wsX90, w ∈ wsX9_ways := by decide +kernel
theorem fk_X9_ways_0 : Cond.constantLong RX9 98 (-1000000000000000000) ∈ wsX9_ways := by decide +kernel
theorem fk_X9_ways_1 : Cond.fieldLink RX9 40 "PostedAsks" "lots" "LPostedAsks$Lots;" ∈ wsX9_ways := by decide +kernel
def f_X9_ways (x1 : Int32) (x2 : Int32) (x3 : Int32) (x4 : Int32) (x5 : Int32) (v_lt : Nat → Int64) : Option (Int64) :=
  (f_X9_isLot x1 x2).bind fun u_1 =>
  if u_1 = 0 then
    some ((-1000000000000000000 : Int64))
  else
    (f_X9_within x3 (1 : Int32) x1).bind fun u_4 =>
    if u_4 = 0 then
      some ((-1000000000000000000 : Int64))
    else
      (f_X9_within x4 (0 : Int32) (100 : Int32)).bind fun u_7 =>
      if u_7 = 0 then
        some ((-1000000000000000000 : Int64))
      else
        (f_X9_within x5 (0 : Int32) (1 : Int32)).bind fun u_10 =>
        if u_10 = 0 then
          some ((-1000000000000000000 : Int64))
        else
          if x5 = 0 then
            (f_X5_near x1 x2 x3 x4 v_lt).bind fun u_16 =>
            some (u_16)
          else
            (f_X5_choose x1 x3 v_lt).bind fun u_14 =>
            some (u_14)
set_option maxHeartbeats 4000000 in
set_option maxRecDepth 100000 in
theorem w_X9_ways_b0 {l : Launch} {D : va_G} {cI cJ : ClassId} {g : pa_GT} {a_x a_la a_te a_ha a_as a_lo a_lt a_lw a_we a_ho a_fr a_pr : Nat} {A : Nat → Prop} {p : Program} {e : Env} {s : State} {m : MethodId} {args : Array Value} {below : List Frame} {meth : Method} {c : Code} {x1 : Int32} {x2 : Int32} {x3 : Int32} {x4 : Int32} {x5 : Int32} {v_lt : Nat → Int64} {v_x_trace : Int64} {o : Int64} (X : pa_X cX9_ways 6 (some .long) RX9 wsX9_ways D cI cJ g A p s m args meth c)  (hf : f_X9_ways x1 x2 x3 x4 x5 v_lt = some o) {H : Heap} {locs : List Loc} (hP : va_P D vwCl (wo_X9_ways cI cJ a_x a_la a_te a_ha a_as a_lo a_lt a_lw a_we a_ho a_fr a_pr v_x_trace v_lt) H) (hD : va_D A (wo_X9_ways cI cJ a_x a_la a_te a_ha a_as a_lo a_lt a_lw a_we a_ho a_fr a_pr v_x_trace v_lt)) (hS : va_S A s.heap H locs) {ls : Array Slot} (hl : lv_has ls 6 [(0, .ref a_x), (1, .int x1), (2, .int x2), (3, .int x3), (4, .int x4), (5, .int x5)]) : W p l e (headSpec wsX9_ways rm_X9_ways).room s m args below meth c H locs 0 0 (MQ below (va_Ql (fun r (_ : Unit) => r = o) (pa_QB D A (wo_X9_ways cI cJ a_x a_la a_te a_ha a_as a_lo a_lt a_lw a_we a_ho a_fr a_pr v_x_trace v_lt)) A) args s 0 0 A) (F0 m 0 ls []) := by
  obtain ⟨hx, hb, hr, hml, hown, hts, hK, hA, hG, hlk⟩ := id X
  delta f_X9_ways at hf
  refine lv_iload_n hx hb dX9_ways_0 rfl (lv_at hl 1 rfl) ?_
  refine lv_iload_n hx hb dX9_ways_1 rfl (lv_at hl 2 rfl) ?_
  obtain ⟨u_1, hg_2, hf⟩ := pa_bd hf
  refine pa_ki (wc := ([] : va_W)) (wr := [(a_x, .inr (8, [.ref a_la, .ref a_te, .ref a_ha, .ref a_as, .ref a_lo, .ref a_we, .ref a_ho, .ref a_fr, .ref a_pr, .long v_x_trace])), (a_lo, .inr (5, [.ref a_lt, .ref a_lw])), (a_lt, .inl (cJ, 1326, .inr (.inl v_lt)))]) (w1 := ([] : va_W)) (w2 := (wo_X9_ways cI cJ a_x a_la a_te a_ha a_as a_lo a_lt a_lw a_we a_ho a_fr a_pr v_x_trace v_lt)) X hP hD hS [] [0, 1, 2] [0, 1, 2] rfl (pa_rS (As := [.int x1, .int x2]) (rest := []) X hP hD hS [] rfl rfl (c_X9_isLot hg_2 H.size) (va_cwS 2 hts gX9_ways_X9_isLot rfl rfl rfl (by decide +kernel) ⟨Nat.le_of_ble_eq_true rfl, Nat.le_of_ble_eq_true rfl⟩) rfl hl.1 rfl (Nat.le_of_ble_eq_true rfl) dX9_ways_2 ⟨Nat.zero_le _, Nat.zero_le _⟩) rfl rfl (by decide) rfl rfl (fun H locs hP hD hS => ?_)
  refine lv_if_eq (tgt := 38) hx hb dX9_ways_5 (by decide) (fun c_3 => ?_) (fun c_3 => ?_)
  · have hf := (if_pos c_3).symm.trans hf
    refine lv_ldc2 (v := (-1000000000000000000 : Int64)) hx hb hown (hts _ fk_X9_ways_0) dX9_ways_38 ?_
    obtain rfl := Option.some.inj hf
    exact pa_el X hP hD hS dX9_ways_41
  · have hf := (if_neg c_3).symm.trans hf
    refine lv_iload_n hx hb dX9_ways_8 rfl (lv_at hl 3 rfl) ?_
    refine lv_iconst (v := (1 : Int32)) hx hb dX9_ways_9 (by decide) ?_
    refine lv_iload_n hx hb dX9_ways_10 rfl (lv_at hl 1 rfl) ?_
    obtain ⟨u_4, hg_5, hf⟩ := pa_bd hf
    refine pa_ki (wc := ([] : va_W)) (wr := [(a_x, .inr (8, [.ref a_la, .ref a_te, .ref a_ha, .ref a_as, .ref a_lo, .ref a_we, .ref a_ho, .ref a_fr, .ref a_pr, .long v_x_trace])), (a_lo, .inr (5, [.ref a_lt, .ref a_lw])), (a_lt, .inl (cJ, 1326, .inr (.inl v_lt)))]) (w1 := ([] : va_W)) (w2 := (wo_X9_ways cI cJ a_x a_la a_te a_ha a_as a_lo a_lt a_lw a_we a_ho a_fr a_pr v_x_trace v_lt)) X hP hD hS [] [0, 1, 2] [0, 1, 2] rfl (pa_rS (As := [.int x3, .int (1 : Int32), .int x1]) (rest := []) X hP hD hS [] rfl rfl (c_X9_within hg_5 H.size) (va_cwS 3 hts gX9_ways_X9_within rfl rfl rfl (by decide +kernel) ⟨Nat.le_of_ble_eq_true rfl, Nat.le_of_ble_eq_true rfl⟩) rfl hl.1 rfl (Nat.le_of_ble_eq_true rfl) dX9_ways_11 ⟨Nat.zero_le _, Nat.zero_le _⟩) rfl rfl (by decide) rfl rfl (fun H locs hP hD hS => ?_)
    refine lv_if_eq (tgt := 38) hx hb dX9_ways_14 (by decide) (fun c_6 => ?_) (fun c_6 => ?_)
    · have hf := (if_pos c_6).symm.trans hf
      refine lv_ldc2 (v := (-1000000000000000000 : Int64)) hx hb hown (hts _ fk_X9_ways_0) dX9_ways_38 ?_
      obtain rfl := Option.some.inj hf
      exact pa_el X hP hD hS dX9_ways_41
    · have hf := (if_neg c_6).symm.trans hf
      refine lv_iload hx hb dX9_ways_17 (lv_at hl 4 rfl) ?_
      refine lv_iconst (v := (0 : Int32)) hx hb dX9_ways_19 (by decide) ?_
      refine lv_bipush (v := (100 : Int32)) hx hb dX9_ways_20 (by decide) ?_
      obtain ⟨u_7, hg_8, hf⟩ := pa_bd hf
      refine pa_ki (wc := ([] : va_W)) (wr := [(a_x, .inr (8, [.ref a_la, .ref a_te, .ref a_ha, .ref a_as, .ref a_lo, .ref a_we, .ref a_ho, .ref a_fr, .ref a_pr, .long v_x_trace])), (a_lo, .inr (5, [.ref a_lt, .ref a_lw])), (a_lt, .inl (cJ, 1326, .inr (.inl v_lt)))]) (w1 := ([] : va_W)) (w2 := (wo_X9_ways cI cJ a_x a_la a_te a_ha a_as a_lo a_lt a_lw a_we a_ho a_fr a_pr v_x_trace v_lt)) X hP hD hS [] [0, 1, 2] [0, 1, 2] rfl (pa_rS (As := [.int x4, .int (0 : Int32), .int (100 : Int32)]) (rest := []) X hP hD hS [] rfl rfl (c_X9_within hg_8 H.size) (va_cwS 3 hts gX9_ways_X9_within rfl rfl rfl (by decide +kernel) ⟨Nat.le_of_ble_eq_true rfl, Nat.le_of_ble_eq_true rfl⟩) rfl hl.1 rfl (Nat.le_of_ble_eq_true rfl) dX9_ways_22 ⟨Nat.zero_le _, Nat.zero_le _⟩) rfl rfl (by decide) rfl rfl (fun H locs hP hD hS => ?_)
      refine lv_if_eq (tgt := 38) hx hb dX9_ways_25 (by decide) (fun c_9 => ?_) (fun c_9 => ?_)
      · have hf := (if_pos c_9).symm.trans hf
        refine lv_ldc2 (v := (-1000000000000000000 : Int64)) hx hb hown (hts _ fk_X9_ways_0) dX9_ways_38 ?_
        obtain rfl := Option.some.inj hf
        exact pa_el X hP hD hS dX9_ways_41
      · have hf := (if_neg c_9).symm.trans hf
        refine lv_iload hx hb dX9_ways_28 (lv_at hl 5 rfl) ?_
        refine lv_iconst (v := (0 : Int32)) hx hb dX9_ways_30 (by decide) ?_
        refine lv_iconst (v := (1 : Int32)) hx hb dX9_ways_31 (by decide) ?_
        obtain ⟨u_10, hg_11, hf⟩ := pa_bd hf
        refine pa_ki (wc := ([] : va_W)) (wr := [(a_x, .inr (8, [.ref a_la, .ref a_te, .ref a_ha, .ref a_as, .ref a_lo, .ref a_we, .ref a_ho, .ref a_fr, .ref a_pr, .long v_x_trace])), (a_lo, .inr (5, [.ref a_lt, .ref a_lw])), (a_lt, .inl (cJ, 1326, .inr (.inl v_lt)))]) (w1 := ([] : va_W)) (w2 := (wo_X9_ways cI cJ a_x a_la a_te a_ha a_as a_lo a_lt a_lw a_we a_ho a_fr a_pr v_x_trace v_lt)) X hP hD hS [] [0, 1, 2] [0, 1, 2] rfl (pa_rS (As := [.int x5, .int (0 : Int32), .int (1 : Int32)]) (rest := []) X hP hD hS [] rfl rfl (c_X9_within hg_11 H.size) (va_cwS 3 hts gX9_ways_X9_within rfl rfl rfl (by decide +kernel) ⟨Nat.le_of_ble_eq_true rfl, Nat.le_of_ble_eq_true rfl⟩) rfl hl.1 rfl (Nat.le_of_ble_eq_true rfl) dX9_ways_32 ⟨Nat.zero_le _, Nat.zero_le _⟩) rfl rfl (by decide) rfl rfl (fun H locs hP hD hS => ?_)
        refine lv_if_ne (tgt := 42) hx hb dX9_ways_35 (by decide) (fun c_12 => ?_) (fun c_12 => ?_)
        · have hf := (if_neg c_12).symm.trans hf
          refine lv_iload hx hb dX9_ways_42 (lv_at hl 5 rfl) ?_
          refine lv_if_ne (tgt := 62) hx hb dX9_ways_44 (by decide) (fun c_13 => ?_) (fun c_13 => ?_)
          · have hf := (if_neg c_13).symm.trans hf
            refine lv_aload_n hx hb dX9_ways_62 rfl (lv_at hl 0 rfl) ?_
            refine va_get (D := D) (ci := 8) (v := .ref a_lo) (C := RX9) (T := TX9) (N := 10) hx hb hts il_X9_ways_X9 hown hK hP 0 rfl rfl 4 (by decide) (hts _ fk_X9_ways_1) (fun _ h9 => h9) rfl dX9_ways_63 ?_
            refine lv_iload_n hx hb dX9_ways_66 rfl (lv_at hl 1 rfl) ?_
            refine lv_iload_n hx hb dX9_ways_67 rfl (lv_at hl 3 rfl) ?_
            obtain ⟨u_14, hg_15, hf⟩ := pa_bd hf
            refine pa_kl (wc := (wo_X5_choose cI cJ a_lo a_lt a_lw v_lt)) (wr := [(a_x, .inr (8, [.ref a_la, .ref a_te, .ref a_ha, .ref a_as, .ref a_lo, .ref a_we, .ref a_ho, .ref a_fr, .ref a_pr, .long v_x_trace]))]) (w1 := (wo_X5_choose cI cJ a_lo a_lt a_lw v_lt)) (w2 := (wo_X9_ways cI cJ a_x a_la a_te a_ha a_as a_lo a_lt a_lw a_we a_ho a_fr a_pr v_x_trace v_lt)) X hP hD hS [1, 2] [0] [0, 1, 2] rfl (pa_rV (As := [.int x1, .int x3]) (rest := []) (T := TX5) X hP hD hS [1, 2] rfl rfl (c_X5_choose hg_15 H.size) (cwV 2 hts gX9_ways_X5_choose rfl rfl rfl (by decide +kernel) ⟨Nat.le_of_ble_eq_true rfl, Nat.le_of_ble_eq_true rfl⟩) (q0 := 1) rfl rfl rfl hl.1 rfl (Nat.le_of_ble_eq_true rfl) dX9_ways_68 ⟨Nat.zero_le _, Nat.zero_le _⟩) rfl rfl (by decide) rfl rfl (fun H locs hP hD hS => ?_)
            obtain rfl := Option.some.inj hf
            exact pa_el X hP hD hS dX9_ways_71
          · have hf := (if_pos c_13).symm.trans hf
            refine lv_aload_n hx hb dX9_ways_47 rfl (lv_at hl 0 rfl) ?_
            refine va_get (D := D) (ci := 8) (v := .ref a_lo) (C := RX9) (T := TX9) (N := 10) hx hb hts il_X9_ways_X9 hown hK hP 0 rfl rfl 4 (by decide) (hts _ fk_X9_ways_1) (fun _ h9 => h9) rfl dX9_ways_48 ?_
            refine lv_iload_n hx hb dX9_ways_51 rfl (lv_at hl 1 rfl) ?_
            refine lv_iload_n hx hb dX9_ways_52 rfl (lv_at hl 2 rfl) ?_
            refine lv_iload_n hx hb dX9_ways_53 rfl (lv_at hl 3 rfl) ?_
            refine lv_iload hx hb dX9_ways_54 (lv_at hl 4 rfl) ?_
            obtain ⟨u_16, hg_17, hf⟩ := pa_bd hf
            refine pa_kl (wc := (wo_X5_near cI cJ a_lo a_lt a_lw v_lt)) (wr := [(a_x, .inr (8, [.ref a_la, .ref a_te, .ref a_ha, .ref a_as, .ref a_lo, .ref a_we, .ref a_ho, .ref a_fr, .ref a_pr, .long v_x_trace]))]) (w1 := (wo_X5_near cI cJ a_lo a_lt a_lw v_lt)) (w2 := (wo_X9_ways cI cJ a_x a_la a_te a_ha a_as a_lo a_lt a_lw a_we a_ho a_fr a_pr v_x_trace v_lt)) X hP hD hS [1, 2] [0] [0, 1, 2] rfl (pa_rV (As := [.int x1, .int x2, .int x3, .int x4]) (rest := []) (T := TX5) X hP hD hS [1, 2] rfl rfl (c_X5_near hg_17 H.size) (cwV 4 hts gX9_ways_X5_near rfl rfl rfl (by decide +kernel) ⟨Nat.le_of_ble_eq_true rfl, Nat.le_of_ble_eq_true rfl⟩) (q0 := 1) rfl rfl rfl hl.1 rfl (Nat.le_of_ble_eq_true rfl) dX9_ways_56 ⟨Nat.zero_le _, Nat.zero_le _⟩) rfl rfl (by decide) rfl rfl (fun H locs hP hD hS => ?_)
            refine lv_goto (tgt := 71) hx hb dX9_ways_59 (by decide) ?_
            obtain rfl := Option.some.inj hf
            exact pa_el X hP hD hS dX9_ways_71
        · have hf := (if_pos c_12).symm.trans hf
          refine lv_ldc2 (v := (-1000000000000000000 : Int64)) hx hb hown (hts _ fk_X9_ways_0) dX9_ways_38 ?_
          obtain rfl := Option.some.inj hf
          exact pa_el X hP hD hS dX9_ways_41
set_option maxHeartbeats 4000000 in
set_option maxRecDepth 100000 in
theorem c_X9_ways {l : Launch} {D : va_G} {cI cJ : ClassId} {g : pa_GT} {a_x a_la a_te a_ha a_as a_lo a_lt a_lw a_we a_ho a_fr a_pr : Nat} {x1 : Int32} {x2 : Int32} {x3 : Int32} {x4 : Int32} {x5 : Int32} {v_x_trace : Int64} {v_lt : Nat → Int64} {o : Int64} (hf : f_X9_ways x1 x2 x3 x4 x5 v_lt = some o) : pa_Ml l yX9_ways wsX9_ways rm_X9_ways D cI cJ g [.ref a_x, .int x1, .int x2, .int x3, .int x4, .int x5] (wo_X9_ways cI cJ a_x a_la a_te a_ha a_as a_lo a_lt a_lw a_we a_ho a_fr a_pr v_x_trace v_lt) (wo_X9_ways cI cJ a_x a_la a_te a_ha a_as a_lo a_lt a_lw a_we a_ho a_fr a_pr v_x_trace v_lt) o := by
  intro sz
  refine pa_met (cc := cX9_ways) (maxL := 6) (ret := (some .long)) (lv := [(0, .ref a_x), (1, .int x1), (2, .int x2), (3, .int x3), (4, .int x4), (5, .int x5)]) (by decide) rfl (Nat.le_of_ble_eq_true rfl) rfl ?_
  intro p e s m below meth c X hsz hP hD ls hl
  subst hsz
  exact w_X9_ways_b0 X hf hP hD va_S.rf hl
abbrev wo_X9_few (cI cJ : ClassId) (a_x a_la a_te a_ha a_as a_lo a_lt a_lw a_we a_ho a_fr a_pr : Nat) (v_x_trace : Int64) (v_lt : Nat → Int64) : va_W := [(a_x, .inr (8, [.ref a_la, .ref a_te, .ref a_ha, .ref a_as, .ref a_lo, .ref a_we, .ref a_ho, .ref a_fr, .ref a_pr, .long v_x_trace])), (a_lo, .inr (5, [.ref a_lt, .ref a_lw])), (a_lt, .inl (cJ, 1326, .inr (.inl v_lt)))]
abbrev rm_X9_few : Room := { frames := 5, cells := 0, slots := 0, locals := 120 }
theorem il_X9_few_X9 : ∀ w ∈ wsX90, w ∈ wsX9_few := by decide +kernel
theorem fk_X9_few_0 : Cond.fieldLink RX9 40 "PostedAsks" "lots" "LPostedAsks$Lots;" ∈ wsX9_few := by decide +kernel
def f_X9_few (x1 : Int32) (x2 : Int32) (x3 : Int32) (x4 : Int32) (v_lt : Nat → Int64) : Option (Int32) :=
  (f_X9_isLot x1 x2).bind fun u_1 =>
  if u_1 = 0 then
    some ((-1 : Int32))
  else
    (f_X9_within x3 (0 : Int32) (100 : Int32)).bind fun u_4 =>
    if u_4 = 0 then
      some ((-1 : Int32))
    else
      (f_X9_within x4 (1 : Int32) (100 : Int32)).bind fun u_7 =>
      if u_7 = 0 then
        some ((-1 : Int32))
      else
        (f_X5_fewest x1 x2 x3 x4 v_lt).bind fun u_10 =>
        some (u_10)
set_option maxHeartbeats 4000000 in
set_option maxRecDepth 100000 in
theorem w_X9_few_b0 {l : Launch} {D : va_G} {cI cJ : ClassId} {g : pa_GT} {a_x a_la a_te a_ha a_as a_lo a_lt a_lw a_we a_ho a_fr a_pr : Nat} {A : Nat → Prop} {p : Program} {e : Env} {s : State} {m : MethodId} {args : Array Value} {below : List Frame} {meth : Method} {c : Code} {x1 : Int32} {x2 : Int32} {x3 : Int32} {x4 : Int32} {v_lt : Nat → Int64} {v_x_trace : Int64} {o : Int32} (X : pa_X cX9_few 5 (some .int) RX9 wsX9_few D cI cJ g A p s m args meth c)  (hf : f_X9_few x1 x2 x3 x4 v_lt = some o) {H : Heap} {locs : List Loc} (hP : va_P D vwCl (wo_X9_few cI cJ a_x a_la a_te a_ha a_as a_lo a_lt a_lw a_we a_ho a_fr a_pr v_x_trace v_lt) H) (hD : va_D A (wo_X9_few cI cJ a_x a_la a_te a_ha a_as a_lo a_lt a_lw a_we a_ho a_fr a_pr v_x_trace v_lt)) (hS : va_S A s.heap H locs) {ls : Array Slot} (hl : lv_has ls 5 [(0, .ref a_x), (1, .int x1), (2, .int x2), (3, .int x3), (4, .int x4)]) : W p l e (headSpec wsX9_few rm_X9_few).room s m args below meth c H locs 0 0 (MQ below (va_Qi (fun r (_ : Unit) => r = o) (pa_QB D A (wo_X9_few cI cJ a_x a_la a_te a_ha a_as a_lo a_lt a_lw a_we a_ho a_fr a_pr v_x_trace v_lt)) A) args s 0 0 A) (F0 m 0 ls []) := by
  obtain ⟨hx, hb, hr, hml, hown, hts, hK, hA, hG, hlk⟩ := id X
  delta f_X9_few at hf
  refine lv_iload_n hx hb dX9_few_0 rfl (lv_at hl 1 rfl) ?_
  refine lv_iload_n hx hb dX9_few_1 rfl (lv_at hl 2 rfl) ?_
  obtain ⟨u_1, hg_2, hf⟩ := pa_bd hf
  refine pa_ki (wc := ([] : va_W)) (wr := [(a_x, .inr (8, [.ref a_la, .ref a_te, .ref a_ha, .ref a_as, .ref a_lo, .ref a_we, .ref a_ho, .ref a_fr, .ref a_pr, .long v_x_trace])), (a_lo, .inr (5, [.ref a_lt, .ref a_lw])), (a_lt, .inl (cJ, 1326, .inr (.inl v_lt)))]) (w1 := ([] : va_W)) (w2 := (wo_X9_few cI cJ a_x a_la a_te a_ha a_as a_lo a_lt a_lw a_we a_ho a_fr a_pr v_x_trace v_lt)) X hP hD hS [] [0, 1, 2] [0, 1, 2] rfl (pa_rS (As := [.int x1, .int x2]) (rest := []) X hP hD hS [] rfl rfl (c_X9_isLot hg_2 H.size) (va_cwS 2 hts gX9_few_X9_isLot rfl rfl rfl (by decide +kernel) ⟨Nat.le_of_ble_eq_true rfl, Nat.le_of_ble_eq_true rfl⟩) rfl hl.1 rfl (Nat.le_of_ble_eq_true rfl) dX9_few_2 ⟨Nat.zero_le _, Nat.zero_le _⟩) rfl rfl (by decide) rfl rfl (fun H locs hP hD hS => ?_)
  refine lv_if_eq (tgt := 29) hx hb dX9_few_5 (by decide) (fun c_3 => ?_) (fun c_3 => ?_)
  · have hf := (if_pos c_3).symm.trans hf
    refine lv_iconst (v := (-1 : Int32)) hx hb dX9_few_29 (by decide) ?_
    obtain rfl := Option.some.inj hf
    exact pa_ei X hP hD hS dX9_few_30
  · have hf := (if_neg c_3).symm.trans hf
    refine lv_iload_n hx hb dX9_few_8 rfl (lv_at hl 3 rfl) ?_
    refine lv_iconst (v := (0 : Int32)) hx hb dX9_few_9 (by decide) ?_
    refine lv_bipush (v := (100 : Int32)) hx hb dX9_few_10 (by decide) ?_
    obtain ⟨u_4, hg_5, hf⟩ := pa_bd hf
    refine pa_ki (wc := ([] : va_W)) (wr := [(a_x, .inr (8, [.ref a_la, .ref a_te, .ref a_ha, .ref a_as, .ref a_lo, .ref a_we, .ref a_ho, .ref a_fr, .ref a_pr, .long v_x_trace])), (a_lo, .inr (5, [.ref a_lt, .ref a_lw])), (a_lt, .inl (cJ, 1326, .inr (.inl v_lt)))]) (w1 := ([] : va_W)) (w2 := (wo_X9_few cI cJ a_x a_la a_te a_ha a_as a_lo a_lt a_lw a_we a_ho a_fr a_pr v_x_trace v_lt)) X hP hD hS [] [0, 1, 2] [0, 1, 2] rfl (pa_rS (As := [.int x3, .int (0 : Int32), .int (100 : Int32)]) (rest := []) X hP hD hS [] rfl rfl (c_X9_within hg_5 H.size) (va_cwS 3 hts gX9_few_X9_within rfl rfl rfl (by decide +kernel) ⟨Nat.le_of_ble_eq_true rfl, Nat.le_of_ble_eq_true rfl⟩) rfl hl.1 rfl (Nat.le_of_ble_eq_true rfl) dX9_few_12 ⟨Nat.zero_le _, Nat.zero_le _⟩) rfl rfl (by decide) rfl rfl (fun H locs hP hD hS => ?_)
    refine lv_if_eq (tgt := 29) hx hb dX9_few_15 (by decide) (fun c_6 => ?_) (fun c_6 => ?_)
    · have hf := (if_pos c_6).symm.trans hf
      refine lv_iconst (v := (-1 : Int32)) hx hb dX9_few_29 (by decide) ?_
      obtain rfl := Option.some.inj hf
      exact pa_ei X hP hD hS dX9_few_30
    · have hf := (if_neg c_6).symm.trans hf
      refine lv_iload hx hb dX9_few_18 (lv_at hl 4 rfl) ?_
      refine lv_iconst (v := (1 : Int32)) hx hb dX9_few_20 (by decide) ?_
      refine lv_bipush (v := (100 : Int32)) hx hb dX9_few_21 (by decide) ?_
      obtain ⟨u_7, hg_8, hf⟩ := pa_bd hf
      refine pa_ki (wc := ([] : va_W)) (wr := [(a_x, .inr (8, [.ref a_la, .ref a_te, .ref a_ha, .ref a_as, .ref a_lo, .ref a_we, .ref a_ho, .ref a_fr, .ref a_pr, .long v_x_trace])), (a_lo, .inr (5, [.ref a_lt, .ref a_lw])), (a_lt, .inl (cJ, 1326, .inr (.inl v_lt)))]) (w1 := ([] : va_W)) (w2 := (wo_X9_few cI cJ a_x a_la a_te a_ha a_as a_lo a_lt a_lw a_we a_ho a_fr a_pr v_x_trace v_lt)) X hP hD hS [] [0, 1, 2] [0, 1, 2] rfl (pa_rS (As := [.int x4, .int (1 : Int32), .int (100 : Int32)]) (rest := []) X hP hD hS [] rfl rfl (c_X9_within hg_8 H.size) (va_cwS 3 hts gX9_few_X9_within rfl rfl rfl (by decide +kernel) ⟨Nat.le_of_ble_eq_true rfl, Nat.le_of_ble_eq_true rfl⟩) rfl hl.1 rfl (Nat.le_of_ble_eq_true rfl) dX9_few_23 ⟨Nat.zero_le _, Nat.zero_le _⟩) rfl rfl (by decide) rfl rfl (fun H locs hP hD hS => ?_)
      refine lv_if_ne (tgt := 31) hx hb dX9_few_26 (by decide) (fun c_9 => ?_) (fun c_9 => ?_)
      · have hf := (if_neg c_9).symm.trans hf
        refine lv_aload_n hx hb dX9_few_31 rfl (lv_at hl 0 rfl) ?_
        refine va_get (D := D) (ci := 8) (v := .ref a_lo) (C := RX9) (T := TX9) (N := 10) hx hb hts il_X9_few_X9 hown hK hP 0 rfl rfl 4 (by decide) (hts _ fk_X9_few_0) (fun _ h9 => h9) rfl dX9_few_32 ?_
        refine lv_iload_n hx hb dX9_few_35 rfl (lv_at hl 1 rfl) ?_
        refine lv_iload_n hx hb dX9_few_36 rfl (lv_at hl 2 rfl) ?_
        refine lv_iload_n hx hb dX9_few_37 rfl (lv_at hl 3 rfl) ?_
        refine lv_iload hx hb dX9_few_38 (lv_at hl 4 rfl) ?_
        obtain ⟨u_10, hg_11, hf⟩ := pa_bd hf
        refine pa_ki (wc := (wo_X5_fewest cI cJ a_lo a_lt a_lw v_lt)) (wr := [(a_x, .inr (8, [.ref a_la, .ref a_te, .ref a_ha, .ref a_as, .ref a_lo, .ref a_we, .ref a_ho, .ref a_fr, .ref a_pr, .long v_x_trace]))]) (w1 := (wo_X5_fewest cI cJ a_lo a_lt a_lw v_lt)) (w2 := (wo_X9_few cI cJ a_x a_la a_te a_ha a_as a_lo a_lt a_lw a_we a_ho a_fr a_pr v_x_trace v_lt)) X hP hD hS [1, 2] [0] [0, 1, 2] rfl (pa_rV (As := [.int x1, .int x2, .int x3, .int x4]) (rest := []) (T := TX5) X hP hD hS [1, 2] rfl rfl (c_X5_fewest hg_11 H.size) (cwV 4 hts gX9_few_X5_fewest rfl rfl rfl (by decide +kernel) ⟨Nat.le_of_ble_eq_true rfl, Nat.le_of_ble_eq_true rfl⟩) (q0 := 1) rfl rfl rfl hl.1 rfl (Nat.le_of_ble_eq_true rfl) dX9_few_40 ⟨Nat.zero_le _, Nat.zero_le _⟩) rfl rfl (by decide) rfl rfl (fun H locs hP hD hS => ?_)
        obtain rfl := Option.some.inj hf
        exact pa_ei X hP hD hS dX9_few_43
      · have hf := (if_pos c_9).symm.trans hf
        refine lv_iconst (v := (-1 : Int32)) hx hb dX9_few_29 (by decide) ?_
        obtain rfl := Option.some.inj hf
        exact pa_ei X hP hD hS dX9_few_30
set_option maxHeartbeats 4000000 in
set_option maxRecDepth 100000 in
theorem c_X9_few {l : Launch} {D : va_G} {cI cJ : ClassId} {g : pa_GT} {a_x a_la a_te a_ha a_as a_lo a_lt a_lw a_we a_ho a_fr a_pr : Nat} {x1 : Int32} {x2 : Int32} {x3 : Int32} {x4 : Int32} {v_x_trace : Int64} {v_lt : Nat → Int64} {o : Int32} (hf : f_X9_few x1 x2 x3 x4 v_lt = some o) : pa_Mi l yX9_few wsX9_few rm_X9_few D cI cJ g [.ref a_x, .int x1, .int x2, .int x3, .int x4] (wo_X9_few cI cJ a_x a_la a_te a_ha a_as a_lo a_lt a_lw a_we a_ho a_fr a_pr v_x_trace v_lt) (wo_X9_few cI cJ a_x a_la a_te a_ha a_as a_lo a_lt a_lw a_we a_ho a_fr a_pr v_x_trace v_lt) o := by
  intro sz
  refine pa_met (cc := cX9_few) (maxL := 5) (ret := (some .int)) (lv := [(0, .ref a_x), (1, .int x1), (2, .int x2), (3, .int x3), (4, .int x4)]) (by decide) rfl (Nat.le_of_ble_eq_true rfl) rfl ?_
  intro p e s m below meth c X hsz hP hD ls hl
  subst hsz
  exact w_X9_few_b0 X hf hP hD va_S.rf hl
abbrev wo_X9_may (cI cJ : ClassId) (a_x a_la a_te a_ha a_as a_lo a_lt a_lw a_we a_ho a_fr a_pr : Nat) (v_x_trace : Int64) (v_lt : Nat → Int64) : va_W := [(a_x, .inr (8, [.ref a_la, .ref a_te, .ref a_ha, .ref a_as, .ref a_lo, .ref a_we, .ref a_ho, .ref a_fr, .ref a_pr, .long v_x_trace])), (a_lo, .inr (5, [.ref a_lt, .ref a_lw])), (a_lt, .inl (cJ, 1326, .inr (.inl v_lt)))]
abbrev rm_X9_may : Room := { frames := 5, cells := 0, slots := 0, locals := 120 }
theorem il_X9_may_X9 : ∀ w ∈ wsX90, w ∈ wsX9_may := by decide +kernel
theorem fk_X9_may_0 : Cond.fieldLink RX9 40 "PostedAsks" "lots" "LPostedAsks$Lots;" ∈ wsX9_may := by decide +kernel
def f_X9_may (x1 : Int32) (x2 : Int32) (x3 : Int32) (x4 : Int32) (v_lt : Nat → Int64) : Option (Int32) :=
  (f_X9_within x1 (1 : Int32) (50 : Int32)).bind fun u_1 =>
  if u_1 = 0 then
    some ((-1 : Int32))
  else
    (f_X9_within x2 (1 : Int32) x1).bind fun u_4 =>
    if u_4 = 0 then
      some ((-1 : Int32))
    else
      (f_X9_within x3 (0 : Int32) x2).bind fun u_7 =>
      if u_7 = 0 then
        some ((-1 : Int32))
      else
        (f_X9_within x4 (0 : Int32) (2 : Int32)).bind fun u_10 =>
        if u_10 = 0 then
          some ((-1 : Int32))
        else
          (f_X5_likeliest x1 x2 x3 v_lt).bind fun u_13 =>
          if x4 = 0 then
            some (u_13)
          else
            (f_X5_just x1 u_13 x2 x3 v_lt).bind fun u_16 =>
            if x4 = (1 : Int32) then
              (f_X5_leastTruth x1 x2 x3 u_16 v_lt).bind fun u_21 =>
              some (u_21)
            else
              (f_X5_mostTruth x1 x2 x3 u_16 v_lt).bind fun u_19 =>
              some (u_19)
set_option maxHeartbeats 4000000 in
set_option maxRecDepth 100000 in
theorem w_X9_may_b0 {l : Launch} {D : va_G} {cI cJ : ClassId} {g : pa_GT} {a_x a_la a_te a_ha a_as a_lo a_lt a_lw a_we a_ho a_fr a_pr : Nat} {A : Nat → Prop} {p : Program} {e : Env} {s : State} {m : MethodId} {args : Array Value} {below : List Frame} {meth : Method} {c : Code} {x1 : Int32} {x2 : Int32} {x3 : Int32} {x4 : Int32} {v_lt : Nat → Int64} {v_x_trace : Int64} {o : Int32} (X : pa_X cX9_may 8 (some .int) RX9 wsX9_may D cI cJ g A p s m args meth c)  (hf : f_X9_may x1 x2 x3 x4 v_lt = some o) {H : Heap} {locs : List Loc} (hP : va_P D vwCl (wo_X9_may cI cJ a_x a_la a_te a_ha a_as a_lo a_lt a_lw a_we a_ho a_fr a_pr v_x_trace v_lt) H) (hD : va_D A (wo_X9_may cI cJ a_x a_la a_te a_ha a_as a_lo a_lt a_lw a_we a_ho a_fr a_pr v_x_trace v_lt)) (hS : va_S A s.heap H locs) {ls : Array Slot} (hl : lv_has ls 8 [(0, .ref a_x), (1, .int x1), (2, .int x2), (3, .int x3), (4, .int x4)]) : W p l e (headSpec wsX9_may rm_X9_may).room s m args below meth c H locs 0 0 (MQ below (va_Qi (fun r (_ : Unit) => r = o) (pa_QB D A (wo_X9_may cI cJ a_x a_la a_te a_ha a_as a_lo a_lt a_lw a_we a_ho a_fr a_pr v_x_trace v_lt)) A) args s 0 0 A) (F0 m 0 ls []) := by
  obtain ⟨hx, hb, hr, hml, hown, hts, hK, hA, hG, hlk⟩ := id X
  delta f_X9_may at hf
  refine lv_iload_n hx hb dX9_may_0 rfl (lv_at hl 1 rfl) ?_
  refine lv_iconst (v := (1 : Int32)) hx hb dX9_may_1 (by decide) ?_
  refine lv_bipush (v := (50 : Int32)) hx hb dX9_may_2 (by decide) ?_
  obtain ⟨u_1, hg_2, hf⟩ := pa_bd hf
  refine pa_ki (wc := ([] : va_W)) (wr := [(a_x, .inr (8, [.ref a_la, .ref a_te, .ref a_ha, .ref a_as, .ref a_lo, .ref a_we, .ref a_ho, .ref a_fr, .ref a_pr, .long v_x_trace])), (a_lo, .inr (5, [.ref a_lt, .ref a_lw])), (a_lt, .inl (cJ, 1326, .inr (.inl v_lt)))]) (w1 := ([] : va_W)) (w2 := (wo_X9_may cI cJ a_x a_la a_te a_ha a_as a_lo a_lt a_lw a_we a_ho a_fr a_pr v_x_trace v_lt)) X hP hD hS [] [0, 1, 2] [0, 1, 2] rfl (pa_rS (As := [.int x1, .int (1 : Int32), .int (50 : Int32)]) (rest := []) X hP hD hS [] rfl rfl (c_X9_within hg_2 H.size) (va_cwS 3 hts gX9_may_X9_within rfl rfl rfl (by decide +kernel) ⟨Nat.le_of_ble_eq_true rfl, Nat.le_of_ble_eq_true rfl⟩) rfl hl.1 rfl (Nat.le_of_ble_eq_true rfl) dX9_may_4 ⟨Nat.zero_le _, Nat.zero_le _⟩) rfl rfl (by decide) rfl rfl (fun H locs hP hD hS => ?_)
  refine lv_if_eq (tgt := 38) hx hb dX9_may_7 (by decide) (fun c_3 => ?_) (fun c_3 => ?_)
  · have hf := (if_pos c_3).symm.trans hf
    refine lv_iconst (v := (-1 : Int32)) hx hb dX9_may_38 (by decide) ?_
    obtain rfl := Option.some.inj hf
    exact pa_ei X hP hD hS dX9_may_39
  · have hf := (if_neg c_3).symm.trans hf
    refine lv_iload_n hx hb dX9_may_10 rfl (lv_at hl 2 rfl) ?_
    refine lv_iconst (v := (1 : Int32)) hx hb dX9_may_11 (by decide) ?_
    refine lv_iload_n hx hb dX9_may_12 rfl (lv_at hl 1 rfl) ?_
    obtain ⟨u_4, hg_5, hf⟩ := pa_bd hf
    refine pa_ki (wc := ([] : va_W)) (wr := [(a_x, .inr (8, [.ref a_la, .ref a_te, .ref a_ha, .ref a_as, .ref a_lo, .ref a_we, .ref a_ho, .ref a_fr, .ref a_pr, .long v_x_trace])), (a_lo, .inr (5, [.ref a_lt, .ref a_lw])), (a_lt, .inl (cJ, 1326, .inr (.inl v_lt)))]) (w1 := ([] : va_W)) (w2 := (wo_X9_may cI cJ a_x a_la a_te a_ha a_as a_lo a_lt a_lw a_we a_ho a_fr a_pr v_x_trace v_lt)) X hP hD hS [] [0, 1, 2] [0, 1, 2] rfl (pa_rS (As := [.int x2, .int (1 : Int32), .int x1]) (rest := []) X hP hD hS [] rfl rfl (c_X9_within hg_5 H.size) (va_cwS 3 hts gX9_may_X9_within rfl rfl rfl (by decide +kernel) ⟨Nat.le_of_ble_eq_true rfl, Nat.le_of_ble_eq_true rfl⟩) rfl hl.1 rfl (Nat.le_of_ble_eq_true rfl) dX9_may_13 ⟨Nat.zero_le _, Nat.zero_le _⟩) rfl rfl (by decide) rfl rfl (fun H locs hP hD hS => ?_)
    refine lv_if_eq (tgt := 38) hx hb dX9_may_16 (by decide) (fun c_6 => ?_) (fun c_6 => ?_)
    · have hf := (if_pos c_6).symm.trans hf
      refine lv_iconst (v := (-1 : Int32)) hx hb dX9_may_38 (by decide) ?_
      obtain rfl := Option.some.inj hf
      exact pa_ei X hP hD hS dX9_may_39
    · have hf := (if_neg c_6).symm.trans hf
      refine lv_iload_n hx hb dX9_may_19 rfl (lv_at hl 3 rfl) ?_
      refine lv_iconst (v := (0 : Int32)) hx hb dX9_may_20 (by decide) ?_
      refine lv_iload_n hx hb dX9_may_21 rfl (lv_at hl 2 rfl) ?_
      obtain ⟨u_7, hg_8, hf⟩ := pa_bd hf
      refine pa_ki (wc := ([] : va_W)) (wr := [(a_x, .inr (8, [.ref a_la, .ref a_te, .ref a_ha, .ref a_as, .ref a_lo, .ref a_we, .ref a_ho, .ref a_fr, .ref a_pr, .long v_x_trace])), (a_lo, .inr (5, [.ref a_lt, .ref a_lw])), (a_lt, .inl (cJ, 1326, .inr (.inl v_lt)))]) (w1 := ([] : va_W)) (w2 := (wo_X9_may cI cJ a_x a_la a_te a_ha a_as a_lo a_lt a_lw a_we a_ho a_fr a_pr v_x_trace v_lt)) X hP hD hS [] [0, 1, 2] [0, 1, 2] rfl (pa_rS (As := [.int x3, .int (0 : Int32), .int x2]) (rest := []) X hP hD hS [] rfl rfl (c_X9_within hg_8 H.size) (va_cwS 3 hts gX9_may_X9_within rfl rfl rfl (by decide +kernel) ⟨Nat.le_of_ble_eq_true rfl, Nat.le_of_ble_eq_true rfl⟩) rfl hl.1 rfl (Nat.le_of_ble_eq_true rfl) dX9_may_22 ⟨Nat.zero_le _, Nat.zero_le _⟩) rfl rfl (by decide) rfl rfl (fun H locs hP hD hS => ?_)
      refine lv_if_eq (tgt := 38) hx hb dX9_may_25 (by decide) (fun c_9 => ?_) (fun c_9 => ?_)
      · have hf := (if_pos c_9).symm.trans hf
        refine lv_iconst (v := (-1 : Int32)) hx hb dX9_may_38 (by decide) ?_
        obtain rfl := Option.some.inj hf
        exact pa_ei X hP hD hS dX9_may_39
      · have hf := (if_neg c_9).symm.trans hf
        refine lv_iload hx hb dX9_may_28 (lv_at hl 4 rfl) ?_
        refine lv_iconst (v := (0 : Int32)) hx hb dX9_may_30 (by decide) ?_
        refine lv_iconst (v := (2 : Int32)) hx hb dX9_may_31 (by decide) ?_
        obtain ⟨u_10, hg_11, hf⟩ := pa_bd hf
        refine pa_ki (wc := ([] : va_W)) (wr := [(a_x, .inr (8, [.ref a_la, .ref a_te, .ref a_ha, .ref a_as, .ref a_lo, .ref a_we, .ref a_ho, .ref a_fr, .ref a_pr, .long v_x_trace])), (a_lo, .inr (5, [.ref a_lt, .ref a_lw])), (a_lt, .inl (cJ, 1326, .inr (.inl v_lt)))]) (w1 := ([] : va_W)) (w2 := (wo_X9_may cI cJ a_x a_la a_te a_ha a_as a_lo a_lt a_lw a_we a_ho a_fr a_pr v_x_trace v_lt)) X hP hD hS [] [0, 1, 2] [0, 1, 2] rfl (pa_rS (As := [.int x4, .int (0 : Int32), .int (2 : Int32)]) (rest := []) X hP hD hS [] rfl rfl (c_X9_within hg_11 H.size) (va_cwS 3 hts gX9_may_X9_within rfl rfl rfl (by decide +kernel) ⟨Nat.le_of_ble_eq_true rfl, Nat.le_of_ble_eq_true rfl⟩) rfl hl.1 rfl (Nat.le_of_ble_eq_true rfl) dX9_may_32 ⟨Nat.zero_le _, Nat.zero_le _⟩) rfl rfl (by decide) rfl rfl (fun H locs hP hD hS => ?_)
        refine lv_if_ne (tgt := 40) hx hb dX9_may_35 (by decide) (fun c_12 => ?_) (fun c_12 => ?_)
        · have hf := (if_neg c_12).symm.trans hf
          refine lv_aload_n hx hb dX9_may_40 rfl (lv_at hl 0 rfl) ?_
          refine va_get (D := D) (ci := 8) (v := .ref a_lo) (C := RX9) (T := TX9) (N := 10) hx hb hts il_X9_may_X9 hown hK hP 0 rfl rfl 4 (by decide) (hts _ fk_X9_may_0) (fun _ h9 => h9) rfl dX9_may_41 ?_
          refine lv_iload_n hx hb dX9_may_44 rfl (lv_at hl 1 rfl) ?_
          refine lv_iload_n hx hb dX9_may_45 rfl (lv_at hl 2 rfl) ?_
          refine lv_iload_n hx hb dX9_may_46 rfl (lv_at hl 3 rfl) ?_
          obtain ⟨u_13, hg_14, hf⟩ := pa_bd hf
          refine pa_ki (wc := (wo_X5_likeliest cI cJ a_lo a_lt a_lw v_lt)) (wr := [(a_x, .inr (8, [.ref a_la, .ref a_te, .ref a_ha, .ref a_as, .ref a_lo, .ref a_we, .ref a_ho, .ref a_fr, .ref a_pr, .long v_x_trace]))]) (w1 := (wo_X5_likeliest cI cJ a_lo a_lt a_lw v_lt)) (w2 := (wo_X9_may cI cJ a_x a_la a_te a_ha a_as a_lo a_lt a_lw a_we a_ho a_fr a_pr v_x_trace v_lt)) X hP hD hS [1, 2] [0] [0, 1, 2] rfl (pa_rV (As := [.int x1, .int x2, .int x3]) (rest := []) (T := TX5) X hP hD hS [1, 2] rfl rfl (c_X5_likeliest hg_14 H.size) (cwV 3 hts gX9_may_X5_likeliest rfl rfl rfl (by decide +kernel) ⟨Nat.le_of_ble_eq_true rfl, Nat.le_of_ble_eq_true rfl⟩) (q0 := 1) rfl rfl rfl hl.1 rfl (Nat.le_of_ble_eq_true rfl) dX9_may_47 ⟨Nat.zero_le _, Nat.zero_le _⟩) rfl rfl (by decide) rfl rfl (fun H locs hP hD hS => ?_)
          refine lv_istore (lv' := [(5, .int u_13), (0, .ref a_x), (1, .int x1), (2, .int x2), (3, .int x3), (4, .int x4)]) hx hb dX9_may_50 hl (by decide) rfl (fun ls hl => ?_)
          refine lv_iload hx hb dX9_may_52 (lv_at hl 5 rfl) ?_
          refine lv_if_ne (tgt := 60) hx hb dX9_may_54 (by decide) (fun c_15 => ?_) (fun c_15 => ?_)
          · have hf := (if_neg c_15).symm.trans hf
            refine lv_aload_n hx hb dX9_may_60 rfl (lv_at hl 1 rfl) ?_
            refine va_get (D := D) (ci := 8) (v := .ref a_lo) (C := RX9) (T := TX9) (N := 10) hx hb hts il_X9_may_X9 hown hK hP 0 rfl rfl 4 (by decide) (hts _ fk_X9_may_0) (fun _ h9 => h9) rfl dX9_may_61 ?_
            refine lv_iload_n hx hb dX9_may_64 rfl (lv_at hl 2 rfl) ?_
            refine lv_iload hx hb dX9_may_65 (lv_at hl 0 rfl) ?_
            refine lv_iload_n hx hb dX9_may_67 rfl (lv_at hl 3 rfl) ?_
            refine lv_iload_n hx hb dX9_may_68 rfl (lv_at hl 4 rfl) ?_
            obtain ⟨u_16, hg_17, hf⟩ := pa_bd hf
            refine pa_kl (wc := (wo_X5_just cI cJ a_lo a_lt a_lw v_lt)) (wr := [(a_x, .inr (8, [.ref a_la, .ref a_te, .ref a_ha, .ref a_as, .ref a_lo, .ref a_we, .ref a_ho, .ref a_fr, .ref a_pr, .long v_x_trace]))]) (w1 := (wo_X5_just cI cJ a_lo a_lt a_lw v_lt)) (w2 := (wo_X9_may cI cJ a_x a_la a_te a_ha a_as a_lo a_lt a_lw a_we a_ho a_fr a_pr v_x_trace v_lt)) X hP hD hS [1, 2] [0] [0, 1, 2] rfl (pa_rV (As := [.int x1, .int u_13, .int x2, .int x3]) (rest := []) (T := TX5) X hP hD hS [1, 2] rfl rfl (c_X5_just hg_17 H.size) (cwV 4 hts gX9_may_X5_just rfl rfl rfl (by decide +kernel) ⟨Nat.le_of_ble_eq_true rfl, Nat.le_of_ble_eq_true rfl⟩) (q0 := 1) rfl rfl rfl hl.1 rfl (Nat.le_of_ble_eq_true rfl) dX9_may_69 ⟨Nat.zero_le _, Nat.zero_le _⟩) rfl rfl (by decide) rfl rfl (fun H locs hP hD hS => ?_)
            refine lv_lstore (lv' := [(6, .long u_16), (5, .int u_13), (0, .ref a_x), (1, .int x1), (2, .int x2), (3, .int x3), (4, .int x4)]) hx hb dX9_may_72 hl (by decide) rfl (fun ls hl => ?_)
            refine lv_iload hx hb dX9_may_74 (lv_at hl 6 rfl) ?_
            refine lv_iconst (v := (1 : Int32)) hx hb dX9_may_76 (by decide) ?_
            refine lv_icmp_ne (tgt := 95) hx hb dX9_may_77 (by decide) (fun c_18 => ?_) (fun c_18 => ?_)
            · have hf := (if_neg c_18).symm.trans hf
              refine lv_aload_n hx hb dX9_may_95 rfl (lv_at hl 2 rfl) ?_
              refine va_get (D := D) (ci := 8) (v := .ref a_lo) (C := RX9) (T := TX9) (N := 10) hx hb hts il_X9_may_X9 hown hK hP 0 rfl rfl 4 (by decide) (hts _ fk_X9_may_0) (fun _ h9 => h9) rfl dX9_may_96 ?_
              refine lv_iload_n hx hb dX9_may_99 rfl (lv_at hl 3 rfl) ?_
              refine lv_iload_n hx hb dX9_may_100 rfl (lv_at hl 4 rfl) ?_
              refine lv_iload_n hx hb dX9_may_101 rfl (lv_at hl 5 rfl) ?_
              refine lv_lload hx hb dX9_may_102 (lv_at hl 0 rfl) ?_
              obtain ⟨u_19, hg_20, hf⟩ := pa_bd hf
              refine pa_ki (wc := (wo_X5_mostTruth cI cJ a_lo a_lt a_lw v_lt)) (wr := [(a_x, .inr (8, [.ref a_la, .ref a_te, .ref a_ha, .ref a_as, .ref a_lo, .ref a_we, .ref a_ho, .ref a_fr, .ref a_pr, .long v_x_trace]))]) (w1 := (wo_X5_mostTruth cI cJ a_lo a_lt a_lw v_lt)) (w2 := (wo_X9_may cI cJ a_x a_la a_te a_ha a_as a_lo a_lt a_lw a_we a_ho a_fr a_pr v_x_trace v_lt)) X hP hD hS [1, 2] [0] [0, 1, 2] rfl (pa_rV (As := [.int x1, .int x2, .int x3, .long u_16]) (rest := []) (T := TX5) X hP hD hS [1, 2] rfl rfl (c_X5_mostTruth hg_20 H.size) (cwV 4 hts gX9_may_X5_mostTruth rfl rfl rfl (by decide +kernel) ⟨Nat.le_of_ble_eq_true rfl, Nat.le_of_ble_eq_true rfl⟩) (q0 := 1) rfl rfl rfl hl.1 rfl (Nat.le_of_ble_eq_true rfl) dX9_may_104 ⟨Nat.zero_le _, Nat.zero_le _⟩) rfl rfl (by decide) rfl rfl (fun H locs hP hD hS => ?_)
              obtain rfl := Option.some.inj hf
              exact pa_ei X hP hD hS dX9_may_107
            · have hf := (if_pos c_18).symm.trans hf
              refine lv_aload_n hx hb dX9_may_80 rfl (lv_at hl 2 rfl) ?_
              refine va_get (D := D) (ci := 8) (v := .ref a_lo) (C := RX9) (T := TX9) (N := 10) hx hb hts il_X9_may_X9 hown hK hP 0 rfl rfl 4 (by decide) (hts _ fk_X9_may_0) (fun _ h9 => h9) rfl dX9_may_81 ?_
              refine lv_iload_n hx hb dX9_may_84 rfl (lv_at hl 3 rfl) ?_
              refine lv_iload_n hx hb dX9_may_85 rfl (lv_at hl 4 rfl) ?_
              refine lv_iload_n hx hb dX9_may_86 rfl (lv_at hl 5 rfl) ?_
              refine lv_lload hx hb dX9_may_87 (lv_at hl 0 rfl) ?_
              obtain ⟨u_21, hg_22, hf⟩ := pa_bd hf
              refine pa_ki (wc := (wo_X5_leastTruth cI cJ a_lo a_lt a_lw v_lt)) (wr := [(a_x, .inr (8, [.ref a_la, .ref a_te, .ref a_ha, .ref a_as, .ref a_lo, .ref a_we, .ref a_ho, .ref a_fr, .ref a_pr, .long v_x_trace]))]) (w1 := (wo_X5_leastTruth cI cJ a_lo a_lt a_lw v_lt)) (w2 := (wo_X9_may cI cJ a_x a_la a_te a_ha a_as a_lo a_lt a_lw a_we a_ho a_fr a_pr v_x_trace v_lt)) X hP hD hS [1, 2] [0] [0, 1, 2] rfl (pa_rV (As := [.int x1, .int x2, .int x3, .long u_16]) (rest := []) (T := TX5) X hP hD hS [1, 2] rfl rfl (c_X5_leastTruth hg_22 H.size) (cwV 4 hts gX9_may_X5_leastTruth rfl rfl rfl (by decide +kernel) ⟨Nat.le_of_ble_eq_true rfl, Nat.le_of_ble_eq_true rfl⟩) (q0 := 1) rfl rfl rfl hl.1 rfl (Nat.le_of_ble_eq_true rfl) dX9_may_89 ⟨Nat.zero_le _, Nat.zero_le _⟩) rfl rfl (by decide) rfl rfl (fun H locs hP hD hS => ?_)
              refine lv_goto (tgt := 107) hx hb dX9_may_92 (by decide) ?_
              obtain rfl := Option.some.inj hf
              exact pa_ei X hP hD hS dX9_may_107
          · have hf := (if_pos c_15).symm.trans hf
            refine lv_iload hx hb dX9_may_57 (lv_at hl 0 rfl) ?_
            obtain rfl := Option.some.inj hf
            exact pa_ei X hP hD hS dX9_may_59
        · have hf := (if_pos c_12).symm.trans hf
          refine lv_iconst (v := (-1 : Int32)) hx hb dX9_may_38 (by decide) ?_
          obtain rfl := Option.some.inj hf
          exact pa_ei X hP hD hS dX9_may_39
set_option maxHeartbeats 4000000 in
set_option maxRecDepth 100000 in
theorem c_X9_may {l : Launch} {D : va_G} {cI cJ : ClassId} {g : pa_GT} {a_x a_la a_te a_ha a_as a_lo a_lt a_lw a_we a_ho a_fr a_pr : Nat} {x1 : Int32} {x2 : Int32} {x3 : Int32} {x4 : Int32} {v_x_trace : Int64} {v_lt : Nat → Int64} {o : Int32} (hf : f_X9_may x1 x2 x3 x4 v_lt = some o) : pa_Mi l yX9_may wsX9_may rm_X9_may D cI cJ g [.ref a_x, .int x1, .int x2, .int x3, .int x4] (wo_X9_may cI cJ a_x a_la a_te a_ha a_as a_lo a_lt a_lw a_we a_ho a_fr a_pr v_x_trace v_lt) (wo_X9_may cI cJ a_x a_la a_te a_ha a_as a_lo a_lt a_lw a_we a_ho a_fr a_pr v_x_trace v_lt) o := by
  intro sz
  refine pa_met (cc := cX9_may) (maxL := 8) (ret := (some .int)) (lv := [(0, .ref a_x), (1, .int x1), (2, .int x2), (3, .int x3), (4, .int x4)]) (by decide) rfl (Nat.le_of_ble_eq_true rfl) rfl ?_
  intro p e s m below meth c X hsz hP hD ls hl
  subst hsz
  exact w_X9_may_b0 X hf hP hD va_S.rf hl
abbrev wo_X9_shadow (cI cJ : ClassId) (a_x a_la a_lc a_lr a_te a_ha a_as a_lo a_lt a_lw a_we a_ho a_fr a_pr : Nat) (v_x_trace : Int64) (v_lc : Nat → Int32) (v_lr : Nat → Int32) (v_lt : Nat → Int64) : va_W := [(a_x, .inr (8, [.ref a_la, .ref a_te, .ref a_ha, .ref a_as, .ref a_lo, .ref a_we, .ref a_ho, .ref a_fr, .ref a_pr, .long v_x_trace])), (a_la, .inr (4, [.ref a_lc, .ref a_lr])), (a_lc, .inl (cI, 32, .inl v_lc)), (a_lr, .inl (cI, 8, .inl v_lr)), (a_lo, .inr (5, [.ref a_lt, .ref a_lw])), (a_lt, .inl (cJ, 1326, .inr (.inl v_lt)))]
abbrev rm_X9_shadow : Room := { frames := 4, cells := 0, slots := 0, locals := 95 }
theorem il_X9_shadow_X9 : ∀ w ∈ wsX90, w ∈ wsX9_shadow := by decide +kernel
theorem fk_X9_shadow_0 : Cond.fieldLink RX9 10 "PostedAsks" "lands" "LPostedAsks$Lands;" ∈ wsX9_shadow := by decide +kernel
theorem fk_X9_shadow_1 : Cond.constantLong RX9 98 (-1000000000000000000) ∈ wsX9_shadow := by decide +kernel
theorem fk_X9_shadow_2 : Cond.fieldLink RX9 40 "PostedAsks" "lots" "LPostedAsks$Lots;" ∈ wsX9_shadow := by decide +kernel
def f_X9_shadow (x1 : Int32) (x2 : Int32) (x3 : Int32) (x4 : Int32) (v_lc : Nat → Int32) (v_lr : Nat → Int32) (v_lt : Nat → Int64) : Option (Int64) :=
  (f_X9_isLand x1).bind fun u_1 =>
  if u_1 = 0 then
    some ((-1000000000000000000 : Int64))
  else
    (f_X4_back x1 (0 : Int32) v_lc v_lr).bind fun u_4 =>
    (f_X9_within x2 (1 : Int32) u_4).bind fun u_6 =>
    if u_6 = 0 then
      some ((-1000000000000000000 : Int64))
    else
      (f_X9_within x3 (0 : Int32) (100 : Int32)).bind fun u_9 =>
      if u_9 = 0 then
        some ((-1000000000000000000 : Int64))
      else
        (f_X9_within x4 (0 : Int32) (1 : Int32)).bind fun u_12 =>
        if u_12 = 0 then
          some ((-1000000000000000000 : Int64))
        else
          if x4 = 0 then
            (f_X4_back x1 (1 : Int32) v_lc v_lr).bind fun u_18 =>
            (f_X5_near u_4 u_18 x2 x3 v_lt).bind fun u_20 =>
            some (u_20)
          else
            (f_X5_choose u_4 x2 v_lt).bind fun u_16 =>
            some (u_16)
set_option maxHeartbeats 4000000 in
set_option maxRecDepth 100000 in
theorem w_X9_shadow_b0 {l : Launch} {D : va_G} {cI cJ : ClassId} {g : pa_GT} {a_x a_la a_lc a_lr a_te a_ha a_as a_lo a_lt a_lw a_we a_ho a_fr a_pr : Nat} {A : Nat → Prop} {p : Program} {e : Env} {s : State} {m : MethodId} {args : Array Value} {below : List Frame} {meth : Method} {c : Code} {x1 : Int32} {x2 : Int32} {x3 : Int32} {x4 : Int32} {v_lc : Nat → Int32} {v_lr : Nat → Int32} {v_lt : Nat → Int64} {v_x_trace : Int64} {o : Int64} (X : pa_X cX9_shadow 6 (some .long) RX9 wsX9_shadow D cI cJ g A p s m args meth c)  (hf : f_X9_shadow x1 x2 x3 x4 v_lc v_lr v_lt = some o) {H : Heap} {locs : List Loc} (hP : va_P D vwCl (wo_X9_shadow cI cJ a_x a_la a_lc a_lr a_te a_ha a_as a_lo a_lt a_lw a_we a_ho a_fr a_pr v_x_trace v_lc v_lr v_lt) H) (hD : va_D A (wo_X9_shadow cI cJ a_x a_la a_lc a_lr a_te a_ha a_as a_lo a_lt a_lw a_we a_ho a_fr a_pr v_x_trace v_lc v_lr v_lt)) (hS : va_S A s.heap H locs) {ls : Array Slot} (hl : lv_has ls 6 [(0, .ref a_x), (1, .int x1), (2, .int x2), (3, .int x3), (4, .int x4)]) : W p l e (headSpec wsX9_shadow rm_X9_shadow).room s m args below meth c H locs 0 0 (MQ below (va_Ql (fun r (_ : Unit) => r = o) (pa_QB D A (wo_X9_shadow cI cJ a_x a_la a_lc a_lr a_te a_ha a_as a_lo a_lt a_lw a_we a_ho a_fr a_pr v_x_trace v_lc v_lr v_lt)) A) args s 0 0 A) (F0 m 0 ls []) := by
  obtain ⟨hx, hb, hr, hml, hown, hts, hK, hA, hG, hlk⟩ := id X
  delta f_X9_shadow at hf
  refine lv_iload_n hx hb dX9_shadow_0 rfl (lv_at hl 1 rfl) ?_
  obtain ⟨u_1, hg_2, hf⟩ := pa_bd hf
  refine pa_ki (wc := ([] : va_W)) (wr := [(a_x, .inr (8, [.ref a_la, .ref a_te, .ref a_ha, .ref a_as, .ref a_lo, .ref a_we, .ref a_ho, .ref a_fr, .ref a_pr, .long v_x_trace])), (a_la, .inr (4, [.ref a_lc, .ref a_lr])), (a_lc, .inl (cI, 32, .inl v_lc)), (a_lr, .inl (cI, 8, .inl v_lr)), (a_lo, .inr (5, [.ref a_lt, .ref a_lw])), (a_lt, .inl (cJ, 1326, .inr (.inl v_lt)))]) (w1 := ([] : va_W)) (w2 := (wo_X9_shadow cI cJ a_x a_la a_lc a_lr a_te a_ha a_as a_lo a_lt a_lw a_we a_ho a_fr a_pr v_x_trace v_lc v_lr v_lt)) X hP hD hS [] [0, 1, 2, 3, 4, 5] [0, 1, 2, 3, 4, 5] rfl (pa_rS (As := [.int x1]) (rest := []) X hP hD hS [] rfl rfl (c_X9_isLand hg_2 H.size) (va_cwS 1 hts gX9_shadow_X9_isLand rfl rfl rfl (by decide +kernel) ⟨Nat.le_of_ble_eq_true rfl, Nat.le_of_ble_eq_true rfl⟩) rfl hl.1 rfl (Nat.le_of_ble_eq_true rfl) dX9_shadow_1 ⟨Nat.zero_le _, Nat.zero_le _⟩) rfl rfl (by decide) rfl rfl (fun H locs hP hD hS => ?_)
  refine lv_if_ne (tgt := 11) hx hb dX9_shadow_4 (by decide) (fun c_3 => ?_) (fun c_3 => ?_)
  · have hf := (if_neg c_3).symm.trans hf
    refine lv_aload_n hx hb dX9_shadow_11 rfl (lv_at hl 0 rfl) ?_
    refine va_get (D := D) (ci := 8) (v := .ref a_la) (C := RX9) (T := TX9) (N := 10) hx hb hts il_X9_shadow_X9 hown hK hP 0 rfl rfl 0 (by decide) (hts _ fk_X9_shadow_0) (fun _ h9 => h9) rfl dX9_shadow_12 ?_
    refine lv_iload_n hx hb dX9_shadow_15 rfl (lv_at hl 1 rfl) ?_
    refine lv_iconst (v := (0 : Int32)) hx hb dX9_shadow_16 (by decide) ?_
    obtain ⟨u_4, hg_5, hf⟩ := pa_bd hf
    refine pa_ki (wc := (wo_X4_back cI cJ a_la a_lc a_lr v_lc v_lr)) (wr := [(a_x, .inr (8, [.ref a_la, .ref a_te, .ref a_ha, .ref a_as, .ref a_lo, .ref a_we, .ref a_ho, .ref a_fr, .ref a_pr, .long v_x_trace])), (a_lo, .inr (5, [.ref a_lt, .ref a_lw])), (a_lt, .inl (cJ, 1326, .inr (.inl v_lt)))]) (w1 := (wo_X4_back cI cJ a_la a_lc a_lr v_lc v_lr)) (w2 := (wo_X9_shadow cI cJ a_x a_la a_lc a_lr a_te a_ha a_as a_lo a_lt a_lw a_we a_ho a_fr a_pr v_x_trace v_lc v_lr v_lt)) X hP hD hS [1, 2, 3] [0, 4, 5] [0, 3, 4, 5, 1, 2] rfl (pa_rV (As := [.int x1, .int (0 : Int32)]) (rest := []) (T := TX4) X hP hD hS [1, 2, 3] rfl rfl (c_X4_back hg_5 H.size) (cwV 2 hts gX9_shadow_X4_back rfl rfl rfl (by decide +kernel) ⟨Nat.le_of_ble_eq_true rfl, Nat.le_of_ble_eq_true rfl⟩) (q0 := 1) rfl rfl rfl hl.1 rfl (Nat.le_of_ble_eq_true rfl) dX9_shadow_17 ⟨Nat.zero_le _, Nat.zero_le _⟩) rfl rfl (by decide) rfl rfl (fun H locs hP hD hS => ?_)
    refine lv_istore (lv' := [(5, .int u_4), (0, .ref a_x), (1, .int x1), (2, .int x2), (3, .int x3), (4, .int x4)]) hx hb dX9_shadow_20 hl (by decide) rfl (fun ls hl => ?_)
    refine lv_iload_n hx hb dX9_shadow_22 rfl (lv_at hl 3 rfl) ?_
    refine lv_iconst (v := (1 : Int32)) hx hb dX9_shadow_23 (by decide) ?_
    refine lv_iload hx hb dX9_shadow_24 (lv_at hl 0 rfl) ?_
    obtain ⟨u_6, hg_7, hf⟩ := pa_bd hf
    refine pa_ki (wc := ([] : va_W)) (wr := [(a_x, .inr (8, [.ref a_la, .ref a_te, .ref a_ha, .ref a_as, .ref a_lo, .ref a_we, .ref a_ho, .ref a_fr, .ref a_pr, .long v_x_trace])), (a_la, .inr (4, [.ref a_lc, .ref a_lr])), (a_lc, .inl (cI, 32, .inl v_lc)), (a_lr, .inl (cI, 8, .inl v_lr)), (a_lo, .inr (5, [.ref a_lt, .ref a_lw])), (a_lt, .inl (cJ, 1326, .inr (.inl v_lt)))]) (w1 := ([] : va_W)) (w2 := (wo_X9_shadow cI cJ a_x a_la a_lc a_lr a_te a_ha a_as a_lo a_lt a_lw a_we a_ho a_fr a_pr v_x_trace v_lc v_lr v_lt)) X hP hD hS [] [0, 1, 2, 3, 4, 5] [0, 1, 2, 3, 4, 5] rfl (pa_rS (As := [.int x2, .int (1 : Int32), .int u_4]) (rest := []) X hP hD hS [] rfl rfl (c_X9_within hg_7 H.size) (va_cwS 3 hts gX9_shadow_X9_within rfl rfl rfl (by decide +kernel) ⟨Nat.le_of_ble_eq_true rfl, Nat.le_of_ble_eq_true rfl⟩) rfl hl.1 rfl (Nat.le_of_ble_eq_true rfl) dX9_shadow_26 ⟨Nat.zero_le _, Nat.zero_le _⟩) rfl rfl (by decide) rfl rfl (fun H locs hP hD hS => ?_)
    refine lv_if_eq (tgt := 52) hx hb dX9_shadow_29 (by decide) (fun c_8 => ?_) (fun c_8 => ?_)
    · have hf := (if_pos c_8).symm.trans hf
      refine lv_ldc2 (v := (-1000000000000000000 : Int64)) hx hb hown (hts _ fk_X9_shadow_1) dX9_shadow_52 ?_
      obtain rfl := Option.some.inj hf
      exact pa_el X hP hD hS dX9_shadow_55
    · have hf := (if_neg c_8).symm.trans hf
      refine lv_iload_n hx hb dX9_shadow_32 rfl (lv_at hl 4 rfl) ?_
      refine lv_iconst (v := (0 : Int32)) hx hb dX9_shadow_33 (by decide) ?_
      refine lv_bipush (v := (100 : Int32)) hx hb dX9_shadow_34 (by decide) ?_
      obtain ⟨u_9, hg_10, hf⟩ := pa_bd hf
      refine pa_ki (wc := ([] : va_W)) (wr := [(a_x, .inr (8, [.ref a_la, .ref a_te, .ref a_ha, .ref a_as, .ref a_lo, .ref a_we, .ref a_ho, .ref a_fr, .ref a_pr, .long v_x_trace])), (a_la, .inr (4, [.ref a_lc, .ref a_lr])), (a_lc, .inl (cI, 32, .inl v_lc)), (a_lr, .inl (cI, 8, .inl v_lr)), (a_lo, .inr (5, [.ref a_lt, .ref a_lw])), (a_lt, .inl (cJ, 1326, .inr (.inl v_lt)))]) (w1 := ([] : va_W)) (w2 := (wo_X9_shadow cI cJ a_x a_la a_lc a_lr a_te a_ha a_as a_lo a_lt a_lw a_we a_ho a_fr a_pr v_x_trace v_lc v_lr v_lt)) X hP hD hS [] [0, 1, 2, 3, 4, 5] [0, 1, 2, 3, 4, 5] rfl (pa_rS (As := [.int x3, .int (0 : Int32), .int (100 : Int32)]) (rest := []) X hP hD hS [] rfl rfl (c_X9_within hg_10 H.size) (va_cwS 3 hts gX9_shadow_X9_within rfl rfl rfl (by decide +kernel) ⟨Nat.le_of_ble_eq_true rfl, Nat.le_of_ble_eq_true rfl⟩) rfl hl.1 rfl (Nat.le_of_ble_eq_true rfl) dX9_shadow_36 ⟨Nat.zero_le _, Nat.zero_le _⟩) rfl rfl (by decide) rfl rfl (fun H locs hP hD hS => ?_)
      refine lv_if_eq (tgt := 52) hx hb dX9_shadow_39 (by decide) (fun c_11 => ?_) (fun c_11 => ?_)
      · have hf := (if_pos c_11).symm.trans hf
        refine lv_ldc2 (v := (-1000000000000000000 : Int64)) hx hb hown (hts _ fk_X9_shadow_1) dX9_shadow_52 ?_
        obtain rfl := Option.some.inj hf
        exact pa_el X hP hD hS dX9_shadow_55
      · have hf := (if_neg c_11).symm.trans hf
        refine lv_iload hx hb dX9_shadow_42 (lv_at hl 5 rfl) ?_
        refine lv_iconst (v := (0 : Int32)) hx hb dX9_shadow_44 (by decide) ?_
        refine lv_iconst (v := (1 : Int32)) hx hb dX9_shadow_45 (by decide) ?_
        obtain ⟨u_12, hg_13, hf⟩ := pa_bd hf
        refine pa_ki (wc := ([] : va_W)) (wr := [(a_x, .inr (8, [.ref a_la, .ref a_te, .ref a_ha, .ref a_as, .ref a_lo, .ref a_we, .ref a_ho, .ref a_fr, .ref a_pr, .long v_x_trace])), (a_la, .inr (4, [.ref a_lc, .ref a_lr])), (a_lc, .inl (cI, 32, .inl v_lc)), (a_lr, .inl (cI, 8, .inl v_lr)), (a_lo, .inr (5, [.ref a_lt, .ref a_lw])), (a_lt, .inl (cJ, 1326, .inr (.inl v_lt)))]) (w1 := ([] : va_W)) (w2 := (wo_X9_shadow cI cJ a_x a_la a_lc a_lr a_te a_ha a_as a_lo a_lt a_lw a_we a_ho a_fr a_pr v_x_trace v_lc v_lr v_lt)) X hP hD hS [] [0, 1, 2, 3, 4, 5] [0, 1, 2, 3, 4, 5] rfl (pa_rS (As := [.int x4, .int (0 : Int32), .int (1 : Int32)]) (rest := []) X hP hD hS [] rfl rfl (c_X9_within hg_13 H.size) (va_cwS 3 hts gX9_shadow_X9_within rfl rfl rfl (by decide +kernel) ⟨Nat.le_of_ble_eq_true rfl, Nat.le_of_ble_eq_true rfl⟩) rfl hl.1 rfl (Nat.le_of_ble_eq_true rfl) dX9_shadow_46 ⟨Nat.zero_le _, Nat.zero_le _⟩) rfl rfl (by decide) rfl rfl (fun H locs hP hD hS => ?_)
        refine lv_if_ne (tgt := 56) hx hb dX9_shadow_49 (by decide) (fun c_14 => ?_) (fun c_14 => ?_)
        · have hf := (if_neg c_14).symm.trans hf
          refine lv_iload hx hb dX9_shadow_56 (lv_at hl 5 rfl) ?_
          refine lv_if_ne (tgt := 84) hx hb dX9_shadow_58 (by decide) (fun c_15 => ?_) (fun c_15 => ?_)
          · have hf := (if_neg c_15).symm.trans hf
            refine lv_aload_n hx hb dX9_shadow_84 rfl (lv_at hl 1 rfl) ?_
            refine va_get (D := D) (ci := 8) (v := .ref a_lo) (C := RX9) (T := TX9) (N := 10) hx hb hts il_X9_shadow_X9 hown hK hP 0 rfl rfl 4 (by decide) (hts _ fk_X9_shadow_2) (fun _ h9 => h9) rfl dX9_shadow_85 ?_
            refine lv_iload hx hb dX9_shadow_88 (lv_at hl 0 rfl) ?_
            refine lv_iload_n hx hb dX9_shadow_90 rfl (lv_at hl 3 rfl) ?_
            obtain ⟨u_16, hg_17, hf⟩ := pa_bd hf
            refine pa_kl (wc := (wo_X5_choose cI cJ a_lo a_lt a_lw v_lt)) (wr := [(a_x, .inr (8, [.ref a_la, .ref a_te, .ref a_ha, .ref a_as, .ref a_lo, .ref a_we, .ref a_ho, .ref a_fr, .ref a_pr, .long v_x_trace])), (a_la, .inr (4, [.ref a_lc, .ref a_lr])), (a_lc, .inl (cI, 32, .inl v_lc)), (a_lr, .inl (cI, 8, .inl v_lr))]) (w1 := (wo_X5_choose cI cJ a_lo a_lt a_lw v_lt)) (w2 := (wo_X9_shadow cI cJ a_x a_la a_lc a_lr a_te a_ha a_as a_lo a_lt a_lw a_we a_ho a_fr a_pr v_x_trace v_lc v_lr v_lt)) X hP hD hS [4, 5] [0, 1, 2, 3] [0, 1, 2, 3, 4, 5] rfl (pa_rV (As := [.int u_4, .int x2]) (rest := []) (T := TX5) X hP hD hS [4, 5] rfl rfl (c_X5_choose hg_17 H.size) (cwV 2 hts gX9_shadow_X5_choose rfl rfl rfl (by decide +kernel) ⟨Nat.le_of_ble_eq_true rfl, Nat.le_of_ble_eq_true rfl⟩) (q0 := 4) rfl rfl rfl hl.1 rfl (Nat.le_of_ble_eq_true rfl) dX9_shadow_91 ⟨Nat.zero_le _, Nat.zero_le _⟩) rfl rfl (by decide) rfl rfl (fun H locs hP hD hS => ?_)
            obtain rfl := Option.some.inj hf
            exact pa_el X hP hD hS dX9_shadow_94
          · have hf := (if_pos c_15).symm.trans hf
            refine lv_aload_n hx hb dX9_shadow_61 rfl (lv_at hl 1 rfl) ?_
            refine va_get (D := D) (ci := 8) (v := .ref a_lo) (C := RX9) (T := TX9) (N := 10) hx hb hts il_X9_shadow_X9 hown hK hP 0 rfl rfl 4 (by decide) (hts _ fk_X9_shadow_2) (fun _ h9 => h9) rfl dX9_shadow_62 ?_
            refine lv_iload hx hb dX9_shadow_65 (lv_at hl 0 rfl) ?_
            refine lv_aload_n hx hb dX9_shadow_67 rfl (lv_at hl 1 rfl) ?_
            refine va_get (D := D) (ci := 8) (v := .ref a_la) (C := RX9) (T := TX9) (N := 10) hx hb hts il_X9_shadow_X9 hown hK hP 0 rfl rfl 0 (by decide) (hts _ fk_X9_shadow_0) (fun _ h9 => h9) rfl dX9_shadow_68 ?_
            refine lv_iload_n hx hb dX9_shadow_71 rfl (lv_at hl 2 rfl) ?_
            refine lv_iconst (v := (1 : Int32)) hx hb dX9_shadow_72 (by decide) ?_
            obtain ⟨u_18, hg_19, hf⟩ := pa_bd hf
            refine pa_ki (wc := (wo_X4_back cI cJ a_la a_lc a_lr v_lc v_lr)) (wr := [(a_x, .inr (8, [.ref a_la, .ref a_te, .ref a_ha, .ref a_as, .ref a_lo, .ref a_we, .ref a_ho, .ref a_fr, .ref a_pr, .long v_x_trace])), (a_lo, .inr (5, [.ref a_lt, .ref a_lw])), (a_lt, .inl (cJ, 1326, .inr (.inl v_lt)))]) (w1 := (wo_X4_back cI cJ a_la a_lc a_lr v_lc v_lr)) (w2 := (wo_X9_shadow cI cJ a_x a_la a_lc a_lr a_te a_ha a_as a_lo a_lt a_lw a_we a_ho a_fr a_pr v_x_trace v_lc v_lr v_lt)) X hP hD hS [1, 2, 3] [0, 4, 5] [0, 3, 4, 5, 1, 2] rfl (pa_rV (As := [.int x1, .int (1 : Int32)]) (rest := [.int u_4, .ref a_lo]) (T := TX4) X hP hD hS [1, 2, 3] rfl rfl (c_X4_back hg_19 H.size) (cwV 2 hts gX9_shadow_X4_back rfl rfl rfl (by decide +kernel) ⟨Nat.le_of_ble_eq_true rfl, Nat.le_of_ble_eq_true rfl⟩) (q0 := 1) rfl rfl rfl hl.1 rfl (Nat.le_of_ble_eq_true rfl) dX9_shadow_73 ⟨Nat.zero_le _, Nat.zero_le _⟩) rfl rfl (by decide) rfl rfl (fun H locs hP hD hS => ?_)
            refine lv_iload_n hx hb dX9_shadow_76 rfl (lv_at hl 3 rfl) ?_
            refine lv_iload_n hx hb dX9_shadow_77 rfl (lv_at hl 4 rfl) ?_
            obtain ⟨u_20, hg_21, hf⟩ := pa_bd hf
            refine pa_kl (wc := (wo_X5_near cI cJ a_lo a_lt a_lw v_lt)) (wr := [(a_x, .inr (8, [.ref a_la, .ref a_te, .ref a_ha, .ref a_as, .ref a_lo, .ref a_we, .ref a_ho, .ref a_fr, .ref a_pr, .long v_x_trace])), (a_la, .inr (4, [.ref a_lc, .ref a_lr])), (a_lc, .inl (cI, 32, .inl v_lc)), (a_lr, .inl (cI, 8, .inl v_lr))]) (w1 := (wo_X5_near cI cJ a_lo a_lt a_lw v_lt)) (w2 := (wo_X9_shadow cI cJ a_x a_la a_lc a_lr a_te a_ha a_as a_lo a_lt a_lw a_we a_ho a_fr a_pr v_x_trace v_lc v_lr v_lt)) X hP hD hS [4, 5] [0, 1, 2, 3] [0, 1, 2, 3, 4, 5] rfl (pa_rV (As := [.int u_4, .int u_18, .int x2, .int x3]) (rest := []) (T := TX5) X hP hD hS [4, 5] rfl rfl (c_X5_near hg_21 H.size) (cwV 4 hts gX9_shadow_X5_near rfl rfl rfl (by decide +kernel) ⟨Nat.le_of_ble_eq_true rfl, Nat.le_of_ble_eq_true rfl⟩) (q0 := 4) rfl rfl rfl hl.1 rfl (Nat.le_of_ble_eq_true rfl) dX9_shadow_78 ⟨Nat.zero_le _, Nat.zero_le _⟩) rfl rfl (by decide) rfl rfl (fun H locs hP hD hS => ?_)
            refine lv_goto (tgt := 94) hx hb dX9_shadow_81 (by decide) ?_
            obtain rfl := Option.some.inj hf
            exact pa_el X hP hD hS dX9_shadow_94
        · have hf := (if_pos c_14).symm.trans hf
          refine lv_ldc2 (v := (-1000000000000000000 : Int64)) hx hb hown (hts _ fk_X9_shadow_1) dX9_shadow_52 ?_
          obtain rfl := Option.some.inj hf
          exact pa_el X hP hD hS dX9_shadow_55
  · have hf := (if_pos c_3).symm.trans hf
    refine lv_ldc2 (v := (-1000000000000000000 : Int64)) hx hb hown (hts _ fk_X9_shadow_1) dX9_shadow_7 ?_
    obtain rfl := Option.some.inj hf
    exact pa_el X hP hD hS dX9_shadow_10
set_option maxHeartbeats 4000000 in
set_option maxRecDepth 100000 in
theorem c_X9_shadow {l : Launch} {D : va_G} {cI cJ : ClassId} {g : pa_GT} {a_x a_la a_lc a_lr a_te a_ha a_as a_lo a_lt a_lw a_we a_ho a_fr a_pr : Nat} {x1 : Int32} {x2 : Int32} {x3 : Int32} {x4 : Int32} {v_x_trace : Int64} {v_lc : Nat → Int32} {v_lr : Nat → Int32} {v_lt : Nat → Int64} {o : Int64} (hf : f_X9_shadow x1 x2 x3 x4 v_lc v_lr v_lt = some o) : pa_Ml l yX9_shadow wsX9_shadow rm_X9_shadow D cI cJ g [.ref a_x, .int x1, .int x2, .int x3, .int x4] (wo_X9_shadow cI cJ a_x a_la a_lc a_lr a_te a_ha a_as a_lo a_lt a_lw a_we a_ho a_fr a_pr v_x_trace v_lc v_lr v_lt) (wo_X9_shadow cI cJ a_x a_la a_lc a_lr a_te a_ha a_as a_lo a_lt a_lw a_we a_ho a_fr a_pr v_x_trace v_lc v_lr v_lt) o := by
  intro sz
  refine pa_met (cc := cX9_shadow) (maxL := 6) (ret := (some .long)) (lv := [(0, .ref a_x), (1, .int x1), (2, .int x2), (3, .int x3), (4, .int x4)]) (by decide) rfl (Nat.le_of_ble_eq_true rfl) rfl ?_
  intro p e s m below meth c X hsz hP hD ls hl
  subst hsz
  exact w_X9_shadow_b0 X hf hP hD va_S.rf hl
abbrev wo_X9_week (cI cJ : ClassId) (a_x a_la a_te a_ha a_as a_lo a_we a_wh a_ho a_fr a_pr : Nat) (v_x_trace : Int64) (v_we_many : Int32) (v_wh : Nat → Int32) : va_W := [(a_x, .inr (8, [.ref a_la, .ref a_te, .ref a_ha, .ref a_as, .ref a_lo, .ref a_we, .ref a_ho, .ref a_fr, .ref a_pr, .long v_x_trace])), (a_we, .inr (7, [.ref a_wh, .int v_we_many])), (a_wh, .inl (cI, 60, .inl v_wh))]
abbrev rm_X9_week : Room := { frames := 1, cells := 0, slots := 0, locals := 22 }
theorem il_X9_week_X9 : ∀ w ∈ wsX90, w ∈ wsX9_week := by decide +kernel
theorem fk_X9_week_0 : Cond.fieldLink RX9 47 "PostedAsks" "weeks" "LPostedAsks$Weeks;" ∈ wsX9_week := by decide +kernel
def f_X9_week (x1 : Int32) (v_we_many : Int32) (v_wh : Nat → Int32) : Option (Int32 × Int32 × (Nat → Int32)) :=
  (f_X9_within x1 (0 : Int32) (1000 : Int32)).bind fun u_1 =>
  if u_1 = 0 then
    some ((-1 : Int32), v_we_many, v_wh)
  else
    (f_X8_append x1 v_we_many v_wh).bind fun u_4 =>
    some (u_4.1, u_4.2.1, u_4.2.2)
set_option maxHeartbeats 4000000 in
set_option maxRecDepth 100000 in
theorem w_X9_week_b0 {l : Launch} {D : va_G} {cI cJ : ClassId} {g : pa_GT} {a_x a_la a_te a_ha a_as a_lo a_we a_wh a_ho a_fr a_pr : Nat} {A : Nat → Prop} {p : Program} {e : Env} {s : State} {m : MethodId} {args : Array Value} {below : List Frame} {meth : Method} {c : Code} {x1 : Int32} {v_we_many : Int32} {v_wh : Nat → Int32} {v_x_trace : Int64} {o : Int32 × Int32 × (Nat → Int32)} (X : pa_X cX9_week 2 (some .int) RX9 wsX9_week D cI cJ g A p s m args meth c)  (hf : f_X9_week x1 v_we_many v_wh = some o) {H : Heap} {locs : List Loc} (hP : va_P D vwCl (wo_X9_week cI cJ a_x a_la a_te a_ha a_as a_lo a_we a_wh a_ho a_fr a_pr v_x_trace v_we_many v_wh) H) (hD : va_D A (wo_X9_week cI cJ a_x a_la a_te a_ha a_as a_lo a_we a_wh a_ho a_fr a_pr v_x_trace v_we_many v_wh)) (hS : va_S A s.heap H locs) {ls : Array Slot} (hl : lv_has ls 2 [(0, .ref a_x), (1, .int x1)]) : W p l e (headSpec wsX9_week rm_X9_week).room s m args below meth c H locs 0 0 (MQ below (va_Qi (fun r (_ : Unit) => r = o.1) (pa_QB D A (wo_X9_week cI cJ a_x a_la a_te a_ha a_as a_lo a_we a_wh a_ho a_fr a_pr v_x_trace o.2.1 o.2.2)) A) args s 0 0 A) (F0 m 0 ls []) := by
  obtain ⟨hx, hb, hr, hml, hown, hts, hK, hA, hG, hlk⟩ := id X
  delta f_X9_week at hf
  refine lv_iload_n hx hb dX9_week_0 rfl (lv_at hl 1 rfl) ?_
  refine lv_iconst (v := (0 : Int32)) hx hb dX9_week_1 (by decide) ?_
  refine lv_sipush (v := (1000 : Int32)) hx hb dX9_week_2 (by decide) ?_
  obtain ⟨u_1, hg_2, hf⟩ := pa_bd hf
  refine pa_ki (wc := ([] : va_W)) (wr := [(a_x, .inr (8, [.ref a_la, .ref a_te, .ref a_ha, .ref a_as, .ref a_lo, .ref a_we, .ref a_ho, .ref a_fr, .ref a_pr, .long v_x_trace])), (a_we, .inr (7, [.ref a_wh, .int v_we_many])), (a_wh, .inl (cI, 60, .inl v_wh))]) (w1 := ([] : va_W)) (w2 := (wo_X9_week cI cJ a_x a_la a_te a_ha a_as a_lo a_we a_wh a_ho a_fr a_pr v_x_trace v_we_many v_wh)) X hP hD hS [] [0, 1, 2] [0, 1, 2] rfl (pa_rS (As := [.int x1, .int (0 : Int32), .int (1000 : Int32)]) (rest := []) X hP hD hS [] rfl rfl (c_X9_within hg_2 H.size) (va_cwS 3 hts gX9_week_X9_within rfl rfl rfl (by decide +kernel) ⟨Nat.le_of_ble_eq_true rfl, Nat.le_of_ble_eq_true rfl⟩) rfl hl.1 rfl (Nat.le_of_ble_eq_true rfl) dX9_week_5 ⟨Nat.zero_le _, Nat.zero_le _⟩) rfl rfl (by decide) rfl rfl (fun H locs hP hD hS => ?_)
  refine lv_if_ne (tgt := 13) hx hb dX9_week_8 (by decide) (fun c_3 => ?_) (fun c_3 => ?_)
  · have hf := (if_neg c_3).symm.trans hf
    refine lv_aload_n hx hb dX9_week_13 rfl (lv_at hl 0 rfl) ?_
    refine va_get (D := D) (ci := 8) (v := .ref a_we) (C := RX9) (T := TX9) (N := 10) hx hb hts il_X9_week_X9 hown hK hP 0 rfl rfl 5 (by decide) (hts _ fk_X9_week_0) (fun _ h9 => h9) rfl dX9_week_14 ?_
    refine lv_iload_n hx hb dX9_week_17 rfl (lv_at hl 1 rfl) ?_
    obtain ⟨u_4, hg_5, hf⟩ := pa_bd hf
    refine pa_ki (wc := (wo_X8_append cI cJ a_we a_wh v_we_many v_wh)) (wr := [(a_x, .inr (8, [.ref a_la, .ref a_te, .ref a_ha, .ref a_as, .ref a_lo, .ref a_we, .ref a_ho, .ref a_fr, .ref a_pr, .long v_x_trace]))]) (w1 := (wo_X8_append cI cJ a_we a_wh u_4.2.1 u_4.2.2)) (w2 := (wo_X9_week cI cJ a_x a_la a_te a_ha a_as a_lo a_we a_wh a_ho a_fr a_pr v_x_trace u_4.2.1 u_4.2.2)) X hP hD hS [1, 2] [0] [0, 1, 2] rfl (pa_rV (As := [.int x1]) (rest := []) (T := TX8) X hP hD hS [1, 2] rfl rfl (c_X8_append hg_5 H.size) (cwV 1 hts gX9_week_X8_append rfl rfl rfl (by decide +kernel) ⟨Nat.le_of_ble_eq_true rfl, Nat.le_of_ble_eq_true rfl⟩) (q0 := 1) rfl rfl rfl hl.1 rfl (Nat.le_of_ble_eq_true rfl) dX9_week_18 ⟨Nat.zero_le _, Nat.zero_le _⟩) rfl rfl (by decide) rfl rfl (fun H locs hP hD hS => ?_)
    obtain rfl := Option.some.inj hf
    exact pa_ei X hP hD hS dX9_week_21
  · have hf := (if_pos c_3).symm.trans hf
    refine lv_iconst (v := (-1 : Int32)) hx hb dX9_week_11 (by decide) ?_
    obtain rfl := Option.some.inj hf
    exact pa_ei X hP hD hS dX9_week_12
set_option maxHeartbeats 4000000 in
set_option maxRecDepth 100000 in
theorem c_X9_week {l : Launch} {D : va_G} {cI cJ : ClassId} {g : pa_GT} {a_x a_la a_te a_ha a_as a_lo a_we a_wh a_ho a_fr a_pr : Nat} {x1 : Int32} {v_x_trace : Int64} {v_we_many : Int32} {v_wh : Nat → Int32} {o : Int32 × Int32 × (Nat → Int32)} (hf : f_X9_week x1 v_we_many v_wh = some o) : pa_Mi l yX9_week wsX9_week rm_X9_week D cI cJ g [.ref a_x, .int x1] (wo_X9_week cI cJ a_x a_la a_te a_ha a_as a_lo a_we a_wh a_ho a_fr a_pr v_x_trace v_we_many v_wh) (wo_X9_week cI cJ a_x a_la a_te a_ha a_as a_lo a_we a_wh a_ho a_fr a_pr v_x_trace o.2.1 o.2.2) o.1 := by
  intro sz
  refine pa_met (cc := cX9_week) (maxL := 2) (ret := (some .int)) (lv := [(0, .ref a_x), (1, .int x1)]) (by decide) rfl (Nat.le_of_ble_eq_true rfl) rfl ?_
  intro p e s m below meth c X hsz hP hD ls hl
  subst hsz
  exact w_X9_week_b0 X hf hP hD va_S.rf hl
abbrev wo_X9_turn (cI cJ : ClassId) (a_x a_la a_te a_ha a_as a_lo a_we a_wh a_ho a_fr a_pr : Nat) (v_x_trace : Int64) (v_we_many : Int32) (v_wh : Nat → Int32) : va_W := [(a_x, .inr (8, [.ref a_la, .ref a_te, .ref a_ha, .ref a_as, .ref a_lo, .ref a_we, .ref a_ho, .ref a_fr, .ref a_pr, .long v_x_trace])), (a_we, .inr (7, [.ref a_wh, .int v_we_many])), (a_wh, .inl (cI, 60, .inl v_wh))]
abbrev rm_X9_turn : Room := { frames := 3, cells := 0, slots := 0, locals := 58 }
theorem il_X9_turn_X9 : ∀ w ∈ wsX90, w ∈ wsX9_turn := by decide +kernel
theorem fk_X9_turn_0 : Cond.fieldLink RX9 47 "PostedAsks" "weeks" "LPostedAsks$Weeks;" ∈ wsX9_turn := by decide +kernel
def f_X9_turn (x1 : Int32) (x2 : Int32) (v_we_many : Int32) (v_wh : Nat → Int32) : Option (Int32) :=
  (f_X9_within x1 (1 : Int32) (60 : Int32)).bind fun u_1 =>
  if u_1 = 0 then
    some ((-1 : Int32))
  else
    (f_X9_within x2 (0 : Int32) (1 : Int32)).bind fun u_4 =>
    if u_4 = 0 then
      some ((-1 : Int32))
    else
      if x2 = 0 then
        (f_X8_rise x1 v_we_many v_wh).bind fun u_10 =>
        some (u_10)
      else
        (f_X8_fall x1 v_we_many v_wh).bind fun u_8 =>
        some (u_8)
set_option maxHeartbeats 4000000 in
set_option maxRecDepth 100000 in
theorem w_X9_turn_b0 {l : Launch} {D : va_G} {cI cJ : ClassId} {g : pa_GT} {a_x a_la a_te a_ha a_as a_lo a_we a_wh a_ho a_fr a_pr : Nat} {A : Nat → Prop} {p : Program} {e : Env} {s : State} {m : MethodId} {args : Array Value} {below : List Frame} {meth : Method} {c : Code} {x1 : Int32} {x2 : Int32} {v_we_many : Int32} {v_wh : Nat → Int32} {v_x_trace : Int64} {o : Int32} (X : pa_X cX9_turn 3 (some .int) RX9 wsX9_turn D cI cJ g A p s m args meth c)  (hf : f_X9_turn x1 x2 v_we_many v_wh = some o) {H : Heap} {locs : List Loc} (hP : va_P D vwCl (wo_X9_turn cI cJ a_x a_la a_te a_ha a_as a_lo a_we a_wh a_ho a_fr a_pr v_x_trace v_we_many v_wh) H) (hD : va_D A (wo_X9_turn cI cJ a_x a_la a_te a_ha a_as a_lo a_we a_wh a_ho a_fr a_pr v_x_trace v_we_many v_wh)) (hS : va_S A s.heap H locs) {ls : Array Slot} (hl : lv_has ls 3 [(0, .ref a_x), (1, .int x1), (2, .int x2)]) : W p l e (headSpec wsX9_turn rm_X9_turn).room s m args below meth c H locs 0 0 (MQ below (va_Qi (fun r (_ : Unit) => r = o) (pa_QB D A (wo_X9_turn cI cJ a_x a_la a_te a_ha a_as a_lo a_we a_wh a_ho a_fr a_pr v_x_trace v_we_many v_wh)) A) args s 0 0 A) (F0 m 0 ls []) := by
  obtain ⟨hx, hb, hr, hml, hown, hts, hK, hA, hG, hlk⟩ := id X
  delta f_X9_turn at hf
  refine lv_iload_n hx hb dX9_turn_0 rfl (lv_at hl 1 rfl) ?_
  refine lv_iconst (v := (1 : Int32)) hx hb dX9_turn_1 (by decide) ?_
  refine lv_bipush (v := (60 : Int32)) hx hb dX9_turn_2 (by decide) ?_
  obtain ⟨u_1, hg_2, hf⟩ := pa_bd hf
  refine pa_ki (wc := ([] : va_W)) (wr := [(a_x, .inr (8, [.ref a_la, .ref a_te, .ref a_ha, .ref a_as, .ref a_lo, .ref a_we, .ref a_ho, .ref a_fr, .ref a_pr, .long v_x_trace])), (a_we, .inr (7, [.ref a_wh, .int v_we_many])), (a_wh, .inl (cI, 60, .inl v_wh))]) (w1 := ([] : va_W)) (w2 := (wo_X9_turn cI cJ a_x a_la a_te a_ha a_as a_lo a_we a_wh a_ho a_fr a_pr v_x_trace v_we_many v_wh)) X hP hD hS [] [0, 1, 2] [0, 1, 2] rfl (pa_rS (As := [.int x1, .int (1 : Int32), .int (60 : Int32)]) (rest := []) X hP hD hS [] rfl rfl (c_X9_within hg_2 H.size) (va_cwS 3 hts gX9_turn_X9_within rfl rfl rfl (by decide +kernel) ⟨Nat.le_of_ble_eq_true rfl, Nat.le_of_ble_eq_true rfl⟩) rfl hl.1 rfl (Nat.le_of_ble_eq_true rfl) dX9_turn_4 ⟨Nat.zero_le _, Nat.zero_le _⟩) rfl rfl (by decide) rfl rfl (fun H locs hP hD hS => ?_)
  refine lv_if_eq (tgt := 19) hx hb dX9_turn_7 (by decide) (fun c_3 => ?_) (fun c_3 => ?_)
  · have hf := (if_pos c_3).symm.trans hf
    refine lv_iconst (v := (-1 : Int32)) hx hb dX9_turn_19 (by decide) ?_
    obtain rfl := Option.some.inj hf
    exact pa_ei X hP hD hS dX9_turn_20
  · have hf := (if_neg c_3).symm.trans hf
    refine lv_iload_n hx hb dX9_turn_10 rfl (lv_at hl 2 rfl) ?_
    refine lv_iconst (v := (0 : Int32)) hx hb dX9_turn_11 (by decide) ?_
    refine lv_iconst (v := (1 : Int32)) hx hb dX9_turn_12 (by decide) ?_
    obtain ⟨u_4, hg_5, hf⟩ := pa_bd hf
    refine pa_ki (wc := ([] : va_W)) (wr := [(a_x, .inr (8, [.ref a_la, .ref a_te, .ref a_ha, .ref a_as, .ref a_lo, .ref a_we, .ref a_ho, .ref a_fr, .ref a_pr, .long v_x_trace])), (a_we, .inr (7, [.ref a_wh, .int v_we_many])), (a_wh, .inl (cI, 60, .inl v_wh))]) (w1 := ([] : va_W)) (w2 := (wo_X9_turn cI cJ a_x a_la a_te a_ha a_as a_lo a_we a_wh a_ho a_fr a_pr v_x_trace v_we_many v_wh)) X hP hD hS [] [0, 1, 2] [0, 1, 2] rfl (pa_rS (As := [.int x2, .int (0 : Int32), .int (1 : Int32)]) (rest := []) X hP hD hS [] rfl rfl (c_X9_within hg_5 H.size) (va_cwS 3 hts gX9_turn_X9_within rfl rfl rfl (by decide +kernel) ⟨Nat.le_of_ble_eq_true rfl, Nat.le_of_ble_eq_true rfl⟩) rfl hl.1 rfl (Nat.le_of_ble_eq_true rfl) dX9_turn_13 ⟨Nat.zero_le _, Nat.zero_le _⟩) rfl rfl (by decide) rfl rfl (fun H locs hP hD hS => ?_)
    refine lv_if_ne (tgt := 21) hx hb dX9_turn_16 (by decide) (fun c_6 => ?_) (fun c_6 => ?_)
    · have hf := (if_neg c_6).symm.trans hf
      refine lv_iload_n hx hb dX9_turn_21 rfl (lv_at hl 2 rfl) ?_
      refine lv_if_ne (tgt := 36) hx hb dX9_turn_22 (by decide) (fun c_7 => ?_) (fun c_7 => ?_)
      · have hf := (if_neg c_7).symm.trans hf
        refine lv_aload_n hx hb dX9_turn_36 rfl (lv_at hl 0 rfl) ?_
        refine va_get (D := D) (ci := 8) (v := .ref a_we) (C := RX9) (T := TX9) (N := 10) hx hb hts il_X9_turn_X9 hown hK hP 0 rfl rfl 5 (by decide) (hts _ fk_X9_turn_0) (fun _ h9 => h9) rfl dX9_turn_37 ?_
        refine lv_iload_n hx hb dX9_turn_40 rfl (lv_at hl 1 rfl) ?_
        obtain ⟨u_8, hg_9, hf⟩ := pa_bd hf
        refine pa_ki (wc := (wo_X8_fall cI cJ a_we a_wh v_we_many v_wh)) (wr := [(a_x, .inr (8, [.ref a_la, .ref a_te, .ref a_ha, .ref a_as, .ref a_lo, .ref a_we, .ref a_ho, .ref a_fr, .ref a_pr, .long v_x_trace]))]) (w1 := (wo_X8_fall cI cJ a_we a_wh v_we_many v_wh)) (w2 := (wo_X9_turn cI cJ a_x a_la a_te a_ha a_as a_lo a_we a_wh a_ho a_fr a_pr v_x_trace v_we_many v_wh)) X hP hD hS [1, 2] [0] [0, 1, 2] rfl (pa_rV (As := [.int x1]) (rest := []) (T := TX8) X hP hD hS [1, 2] rfl rfl (c_X8_fall hg_9 H.size) (cwV 1 hts gX9_turn_X8_fall rfl rfl rfl (by decide +kernel) ⟨Nat.le_of_ble_eq_true rfl, Nat.le_of_ble_eq_true rfl⟩) (q0 := 1) rfl rfl rfl hl.1 rfl (Nat.le_of_ble_eq_true rfl) dX9_turn_41 ⟨Nat.zero_le _, Nat.zero_le _⟩) rfl rfl (by decide) rfl rfl (fun H locs hP hD hS => ?_)
        obtain rfl := Option.some.inj hf
        exact pa_ei X hP hD hS dX9_turn_44
      · have hf := (if_pos c_7).symm.trans hf
        refine lv_aload_n hx hb dX9_turn_25 rfl (lv_at hl 0 rfl) ?_
        refine va_get (D := D) (ci := 8) (v := .ref a_we) (C := RX9) (T := TX9) (N := 10) hx hb hts il_X9_turn_X9 hown hK hP 0 rfl rfl 5 (by decide) (hts _ fk_X9_turn_0) (fun _ h9 => h9) rfl dX9_turn_26 ?_
        refine lv_iload_n hx hb dX9_turn_29 rfl (lv_at hl 1 rfl) ?_
        obtain ⟨u_10, hg_11, hf⟩ := pa_bd hf
        refine pa_ki (wc := (wo_X8_rise cI cJ a_we a_wh v_we_many v_wh)) (wr := [(a_x, .inr (8, [.ref a_la, .ref a_te, .ref a_ha, .ref a_as, .ref a_lo, .ref a_we, .ref a_ho, .ref a_fr, .ref a_pr, .long v_x_trace]))]) (w1 := (wo_X8_rise cI cJ a_we a_wh v_we_many v_wh)) (w2 := (wo_X9_turn cI cJ a_x a_la a_te a_ha a_as a_lo a_we a_wh a_ho a_fr a_pr v_x_trace v_we_many v_wh)) X hP hD hS [1, 2] [0] [0, 1, 2] rfl (pa_rV (As := [.int x1]) (rest := []) (T := TX8) X hP hD hS [1, 2] rfl rfl (c_X8_rise hg_11 H.size) (cwV 1 hts gX9_turn_X8_rise rfl rfl rfl (by decide +kernel) ⟨Nat.le_of_ble_eq_true rfl, Nat.le_of_ble_eq_true rfl⟩) (q0 := 1) rfl rfl rfl hl.1 rfl (Nat.le_of_ble_eq_true rfl) dX9_turn_30 ⟨Nat.zero_le _, Nat.zero_le _⟩) rfl rfl (by decide) rfl rfl (fun H locs hP hD hS => ?_)
        refine lv_goto (tgt := 44) hx hb dX9_turn_33 (by decide) ?_
        obtain rfl := Option.some.inj hf
        exact pa_ei X hP hD hS dX9_turn_44
    · have hf := (if_pos c_6).symm.trans hf
      refine lv_iconst (v := (-1 : Int32)) hx hb dX9_turn_19 (by decide) ?_
      obtain rfl := Option.some.inj hf
      exact pa_ei X hP hD hS dX9_turn_20
set_option maxHeartbeats 4000000 in
set_option maxRecDepth 100000 in
theorem c_X9_turn {l : Launch} {D : va_G} {cI cJ : ClassId} {g : pa_GT} {a_x a_la a_te a_ha a_as a_lo a_we a_wh a_ho a_fr a_pr : Nat} {x1 : Int32} {x2 : Int32} {v_x_trace : Int64} {v_we_many : Int32} {v_wh : Nat → Int32} {o : Int32} (hf : f_X9_turn x1 x2 v_we_many v_wh = some o) : pa_Mi l yX9_turn wsX9_turn rm_X9_turn D cI cJ g [.ref a_x, .int x1, .int x2] (wo_X9_turn cI cJ a_x a_la a_te a_ha a_as a_lo a_we a_wh a_ho a_fr a_pr v_x_trace v_we_many v_wh) (wo_X9_turn cI cJ a_x a_la a_te a_ha a_as a_lo a_we a_wh a_ho a_fr a_pr v_x_trace v_we_many v_wh) o := by
  intro sz
  refine pa_met (cc := cX9_turn) (maxL := 3) (ret := (some .int)) (lv := [(0, .ref a_x), (1, .int x1), (2, .int x2)]) (by decide) rfl (Nat.le_of_ble_eq_true rfl) rfl ?_
  intro p e s m below meth c X hsz hP hD ls hl
  subst hsz
  exact w_X9_turn_b0 X hf hP hD va_S.rf hl
abbrev wo_X9_stops (cI cJ : ClassId) (a_x a_la a_te a_ha a_as a_lo a_we a_wh a_ho a_fr a_pr : Nat) (v_x_trace : Int64) (v_we_many : Int32) (v_wh : Nat → Int32) : va_W := [(a_x, .inr (8, [.ref a_la, .ref a_te, .ref a_ha, .ref a_as, .ref a_lo, .ref a_we, .ref a_ho, .ref a_fr, .ref a_pr, .long v_x_trace])), (a_we, .inr (7, [.ref a_wh, .int v_we_many])), (a_wh, .inl (cI, 60, .inl v_wh))]
abbrev rm_X9_stops : Room := { frames := 5, cells := 0, slots := 0, locals := 101 }
theorem il_X9_stops_X9 : ∀ w ∈ wsX90, w ∈ wsX9_stops := by decide +kernel
theorem fk_X9_stops_0 : Cond.fieldLink RX9 47 "PostedAsks" "weeks" "LPostedAsks$Weeks;" ∈ wsX9_stops := by decide +kernel
def f_X9_stops (v_we_many : Int32) (v_wh : Nat → Int32) : Option (Int32) :=
  (f_X8_sure v_we_many v_wh).bind fun u_1 =>
  some (u_1)
set_option maxHeartbeats 4000000 in
set_option maxRecDepth 100000 in
theorem w_X9_stops_b0 {l : Launch} {D : va_G} {cI cJ : ClassId} {g : pa_GT} {a_x a_la a_te a_ha a_as a_lo a_we a_wh a_ho a_fr a_pr : Nat} {A : Nat → Prop} {p : Program} {e : Env} {s : State} {m : MethodId} {args : Array Value} {below : List Frame} {meth : Method} {c : Code} {v_we_many : Int32} {v_wh : Nat → Int32} {v_x_trace : Int64} {o : Int32} (X : pa_X cX9_stops 1 (some .int) RX9 wsX9_stops D cI cJ g A p s m args meth c)  (hf : f_X9_stops v_we_many v_wh = some o) {H : Heap} {locs : List Loc} (hP : va_P D vwCl (wo_X9_stops cI cJ a_x a_la a_te a_ha a_as a_lo a_we a_wh a_ho a_fr a_pr v_x_trace v_we_many v_wh) H) (hD : va_D A (wo_X9_stops cI cJ a_x a_la a_te a_ha a_as a_lo a_we a_wh a_ho a_fr a_pr v_x_trace v_we_many v_wh)) (hS : va_S A s.heap H locs) {ls : Array Slot} (hl : lv_has ls 1 [(0, .ref a_x)]) : W p l e (headSpec wsX9_stops rm_X9_stops).room s m args below meth c H locs 0 0 (MQ below (va_Qi (fun r (_ : Unit) => r = o) (pa_QB D A (wo_X9_stops cI cJ a_x a_la a_te a_ha a_as a_lo a_we a_wh a_ho a_fr a_pr v_x_trace v_we_many v_wh)) A) args s 0 0 A) (F0 m 0 ls []) := by
  obtain ⟨hx, hb, hr, hml, hown, hts, hK, hA, hG, hlk⟩ := id X
  delta f_X9_stops at hf
  refine lv_aload_n hx hb dX9_stops_0 rfl (lv_at hl 0 rfl) ?_
  refine va_get (D := D) (ci := 8) (v := .ref a_we) (C := RX9) (T := TX9) (N := 10) hx hb hts il_X9_stops_X9 hown hK hP 0 rfl rfl 5 (by decide) (hts _ fk_X9_stops_0) (fun _ h9 => h9) rfl dX9_stops_1 ?_
  obtain ⟨u_1, hg_2, hf⟩ := pa_bd hf
  refine pa_ki (wc := (wo_X8_sure cI cJ a_we a_wh v_we_many v_wh)) (wr := [(a_x, .inr (8, [.ref a_la, .ref a_te, .ref a_ha, .ref a_as, .ref a_lo, .ref a_we, .ref a_ho, .ref a_fr, .ref a_pr, .long v_x_trace]))]) (w1 := (wo_X8_sure cI cJ a_we a_wh v_we_many v_wh)) (w2 := (wo_X9_stops cI cJ a_x a_la a_te a_ha a_as a_lo a_we a_wh a_ho a_fr a_pr v_x_trace v_we_many v_wh)) X hP hD hS [1, 2] [0] [0, 1, 2] rfl (pa_rV (As := []) (rest := []) (T := TX8) X hP hD hS [1, 2] rfl rfl (c_X8_sure hg_2 H.size) (cwV 0 hts gX9_stops_X8_sure rfl rfl rfl (by decide +kernel) ⟨Nat.le_of_ble_eq_true rfl, Nat.le_of_ble_eq_true rfl⟩) (q0 := 1) rfl rfl rfl hl.1 rfl (Nat.le_of_ble_eq_true rfl) dX9_stops_4 ⟨Nat.zero_le _, Nat.zero_le _⟩) rfl rfl (by decide) rfl rfl (fun H locs hP hD hS => ?_)
  obtain rfl := Option.some.inj hf
  exact pa_ei X hP hD hS dX9_stops_7
set_option maxHeartbeats 4000000 in
set_option maxRecDepth 100000 in
theorem c_X9_stops {l : Launch} {D : va_G} {cI cJ : ClassId} {g : pa_GT} {a_x a_la a_te a_ha a_as a_lo a_we a_wh a_ho a_fr a_pr : Nat}  {v_x_trace : Int64} {v_we_many : Int32} {v_wh : Nat → Int32} {o : Int32} (hf : f_X9_stops v_we_many v_wh = some o) : pa_Mi l yX9_stops wsX9_stops rm_X9_stops D cI cJ g [.ref a_x] (wo_X9_stops cI cJ a_x a_la a_te a_ha a_as a_lo a_we a_wh a_ho a_fr a_pr v_x_trace v_we_many v_wh) (wo_X9_stops cI cJ a_x a_la a_te a_ha a_as a_lo a_we a_wh a_ho a_fr a_pr v_x_trace v_we_many v_wh) o := by
  intro sz
  refine pa_met (cc := cX9_stops) (maxL := 1) (ret := (some .int)) (lv := [(0, .ref a_x)]) (by decide) rfl (Nat.le_of_ble_eq_true rfl) rfl ?_
  intro p e s m below meth c X hsz hP hD ls hl
  subst hsz
  exact w_X9_stops_b0 X hf hP hD va_S.rf hl
abbrev wo_X9_house (cI cJ : ClassId) (a_x a_la a_te a_ha a_as a_lo a_we a_ho a_hn a_fr a_pr : Nat) (v_x_trace : Int64) (v_ho_rows : Int32) (v_hn : Nat → Int32) : va_W := [(a_x, .inr (8, [.ref a_la, .ref a_te, .ref a_ha, .ref a_as, .ref a_lo, .ref a_we, .ref a_ho, .ref a_fr, .ref a_pr, .long v_x_trace])), (a_ho, .inr (3, [.ref a_hn, .int v_ho_rows])), (a_hn, .inl (cI, 24, .inl v_hn))]
abbrev rm_X9_house : Room := { frames := 1, cells := 0, slots := 0, locals := 22 }
theorem il_X9_house_X9 : ∀ w ∈ wsX90, w ∈ wsX9_house := by decide +kernel
theorem fk_X9_house_0 : Cond.fieldLink RX9 54 "PostedAsks" "house" "LPostedAsks$House;" ∈ wsX9_house := by decide +kernel
theorem fk_X9_house_1 : Cond.methodLink RX9 199 Lib.Math.abs.name ∈ wsX9_house := by decide +kernel
theorem fk_X9_house_2 : Cond.static Lib.Math.abs.name ∈ wsX9_house := by decide +kernel
theorem fk_X9_house_3 : Cond.initialized "java/lang/Math" ∈ wsX9_house := by decide +kernel
theorem fk_X9_house_4 : Cond.code Lib.Math.abs.name Lib.Math.abs.code 1 (some .int) ∈ wsX9_house := by decide +kernel
theorem fk_X9_house_5 : Cond.methodLink RX9 201 Lib.Math.max.name ∈ wsX9_house := by decide +kernel
theorem fk_X9_house_6 : Cond.static Lib.Math.max.name ∈ wsX9_house := by decide +kernel
theorem fk_X9_house_7 : Cond.code Lib.Math.max.name Lib.Math.max.code 2 (some .int) ∈ wsX9_house := by decide +kernel
def f_X9_house (x1 : Int32) (x2 : Int32) (x3 : Int32) (v_ho_rows : Int32) (v_hn : Nat → Int32) : Option (Int32 × Int32 × (Nat → Int32)) :=
  (f_X9_within x1 (0 : Int32) (1000 : Int32)).bind fun u_1 =>
  if u_1 = 0 then
    some ((-1 : Int32), v_ho_rows, v_hn)
  else
    (f_X9_within x2 (0 : Int32) (1000 : Int32)).bind fun u_4 =>
    if u_4 = 0 then
      some ((-1 : Int32), v_ho_rows, v_hn)
    else
      (f_X9_within x3 (0 : Int32) (1000 : Int32)).bind fun u_7 =>
      if u_7 = 0 then
        some ((-1 : Int32), v_ho_rows, v_hn)
      else
        (f_X3_append (if (0 : Int32) < ((if 0 ≤ (x1 - x3) then (x1 - x3) else 0 - (x1 - x3)) - x2) then ((if 0 ≤ (x1 - x3) then (x1 - x3) else 0 - (x1 - x3)) - x2) else (0 : Int32)) v_ho_rows v_hn).bind fun u_10 =>
        some (u_10.1, u_10.2.1, u_10.2.2)
set_option maxHeartbeats 4000000 in
set_option maxRecDepth 100000 in
theorem w_X9_house_b0 {l : Launch} {D : va_G} {cI cJ : ClassId} {g : pa_GT} {a_x a_la a_te a_ha a_as a_lo a_we a_ho a_hn a_fr a_pr : Nat} {A : Nat → Prop} {p : Program} {e : Env} {s : State} {m : MethodId} {args : Array Value} {below : List Frame} {meth : Method} {c : Code} {x1 : Int32} {x2 : Int32} {x3 : Int32} {v_ho_rows : Int32} {v_hn : Nat → Int32} {v_x_trace : Int64} {o : Int32 × Int32 × (Nat → Int32)} (X : pa_X cX9_house 4 (some .int) RX9 wsX9_house D cI cJ g A p s m args meth c)  (hf : f_X9_house x1 x2 x3 v_ho_rows v_hn = some o) {H : Heap} {locs : List Loc} (hP : va_P D vwCl (wo_X9_house cI cJ a_x a_la a_te a_ha a_as a_lo a_we a_ho a_hn a_fr a_pr v_x_trace v_ho_rows v_hn) H) (hD : va_D A (wo_X9_house cI cJ a_x a_la a_te a_ha a_as a_lo a_we a_ho a_hn a_fr a_pr v_x_trace v_ho_rows v_hn)) (hS : va_S A s.heap H locs) {ls : Array Slot} (hl : lv_has ls 4 [(0, .ref a_x), (1, .int x1), (2, .int x2), (3, .int x3)]) : W p l e (headSpec wsX9_house rm_X9_house).room s m args below meth c H locs 0 0 (MQ below (va_Qi (fun r (_ : Unit) => r = o.1) (pa_QB D A (wo_X9_house cI cJ a_x a_la a_te a_ha a_as a_lo a_we a_ho a_hn a_fr a_pr v_x_trace o.2.1 o.2.2)) A) args s 0 0 A) (F0 m 0 ls []) := by
  obtain ⟨hx, hb, hr, hml, hown, hts, hK, hA, hG, hlk⟩ := id X
  delta f_X9_house at hf
  refine lv_iload_n hx hb dX9_house_0 rfl (lv_at hl 1 rfl) ?_
  refine lv_iconst (v := (0 : Int32)) hx hb dX9_house_1 (by decide) ?_
  refine lv_sipush (v := (1000 : Int32)) hx hb dX9_house_2 (by decide) ?_
  obtain ⟨u_1, hg_2, hf⟩ := pa_bd hf
  refine pa_ki (wc := ([] : va_W)) (wr := [(a_x, .inr (8, [.ref a_la, .ref a_te, .ref a_ha, .ref a_as, .ref a_lo, .ref a_we, .ref a_ho, .ref a_fr, .ref a_pr, .long v_x_trace])), (a_ho, .inr (3, [.ref a_hn, .int v_ho_rows])), (a_hn, .inl (cI, 24, .inl v_hn))]) (w1 := ([] : va_W)) (w2 := (wo_X9_house cI cJ a_x a_la a_te a_ha a_as a_lo a_we a_ho a_hn a_fr a_pr v_x_trace v_ho_rows v_hn)) X hP hD hS [] [0, 1, 2] [0, 1, 2] rfl (pa_rS (As := [.int x1, .int (0 : Int32), .int (1000 : Int32)]) (rest := []) X hP hD hS [] rfl rfl (c_X9_within hg_2 H.size) (va_cwS 3 hts gX9_house_X9_within rfl rfl rfl (by decide +kernel) ⟨Nat.le_of_ble_eq_true rfl, Nat.le_of_ble_eq_true rfl⟩) rfl hl.1 rfl (Nat.le_of_ble_eq_true rfl) dX9_house_5 ⟨Nat.zero_le _, Nat.zero_le _⟩) rfl rfl (by decide) rfl rfl (fun H locs hP hD hS => ?_)
  refine lv_if_eq (tgt := 33) hx hb dX9_house_8 (by decide) (fun c_3 => ?_) (fun c_3 => ?_)
  · have hf := (if_pos c_3).symm.trans hf
    refine lv_iconst (v := (-1 : Int32)) hx hb dX9_house_33 (by decide) ?_
    obtain rfl := Option.some.inj hf
    exact pa_ei X hP hD hS dX9_house_34
  · have hf := (if_neg c_3).symm.trans hf
    refine lv_iload_n hx hb dX9_house_11 rfl (lv_at hl 2 rfl) ?_
    refine lv_iconst (v := (0 : Int32)) hx hb dX9_house_12 (by decide) ?_
    refine lv_sipush (v := (1000 : Int32)) hx hb dX9_house_13 (by decide) ?_
    obtain ⟨u_4, hg_5, hf⟩ := pa_bd hf
    refine pa_ki (wc := ([] : va_W)) (wr := [(a_x, .inr (8, [.ref a_la, .ref a_te, .ref a_ha, .ref a_as, .ref a_lo, .ref a_we, .ref a_ho, .ref a_fr, .ref a_pr, .long v_x_trace])), (a_ho, .inr (3, [.ref a_hn, .int v_ho_rows])), (a_hn, .inl (cI, 24, .inl v_hn))]) (w1 := ([] : va_W)) (w2 := (wo_X9_house cI cJ a_x a_la a_te a_ha a_as a_lo a_we a_ho a_hn a_fr a_pr v_x_trace v_ho_rows v_hn)) X hP hD hS [] [0, 1, 2] [0, 1, 2] rfl (pa_rS (As := [.int x2, .int (0 : Int32), .int (1000 : Int32)]) (rest := []) X hP hD hS [] rfl rfl (c_X9_within hg_5 H.size) (va_cwS 3 hts gX9_house_X9_within rfl rfl rfl (by decide +kernel) ⟨Nat.le_of_ble_eq_true rfl, Nat.le_of_ble_eq_true rfl⟩) rfl hl.1 rfl (Nat.le_of_ble_eq_true rfl) dX9_house_16 ⟨Nat.zero_le _, Nat.zero_le _⟩) rfl rfl (by decide) rfl rfl (fun H locs hP hD hS => ?_)
    refine lv_if_eq (tgt := 33) hx hb dX9_house_19 (by decide) (fun c_6 => ?_) (fun c_6 => ?_)
    · have hf := (if_pos c_6).symm.trans hf
      refine lv_iconst (v := (-1 : Int32)) hx hb dX9_house_33 (by decide) ?_
      obtain rfl := Option.some.inj hf
      exact pa_ei X hP hD hS dX9_house_34
    · have hf := (if_neg c_6).symm.trans hf
      refine lv_iload_n hx hb dX9_house_22 rfl (lv_at hl 3 rfl) ?_
      refine lv_iconst (v := (0 : Int32)) hx hb dX9_house_23 (by decide) ?_
      refine lv_sipush (v := (1000 : Int32)) hx hb dX9_house_24 (by decide) ?_
      obtain ⟨u_7, hg_8, hf⟩ := pa_bd hf
      refine pa_ki (wc := ([] : va_W)) (wr := [(a_x, .inr (8, [.ref a_la, .ref a_te, .ref a_ha, .ref a_as, .ref a_lo, .ref a_we, .ref a_ho, .ref a_fr, .ref a_pr, .long v_x_trace])), (a_ho, .inr (3, [.ref a_hn, .int v_ho_rows])), (a_hn, .inl (cI, 24, .inl v_hn))]) (w1 := ([] : va_W)) (w2 := (wo_X9_house cI cJ a_x a_la a_te a_ha a_as a_lo a_we a_ho a_hn a_fr a_pr v_x_trace v_ho_rows v_hn)) X hP hD hS [] [0, 1, 2] [0, 1, 2] rfl (pa_rS (As := [.int x3, .int (0 : Int32), .int (1000 : Int32)]) (rest := []) X hP hD hS [] rfl rfl (c_X9_within hg_8 H.size) (va_cwS 3 hts gX9_house_X9_within rfl rfl rfl (by decide +kernel) ⟨Nat.le_of_ble_eq_true rfl, Nat.le_of_ble_eq_true rfl⟩) rfl hl.1 rfl (Nat.le_of_ble_eq_true rfl) dX9_house_27 ⟨Nat.zero_le _, Nat.zero_le _⟩) rfl rfl (by decide) rfl rfl (fun H locs hP hD hS => ?_)
      refine lv_if_ne (tgt := 35) hx hb dX9_house_30 (by decide) (fun c_9 => ?_) (fun c_9 => ?_)
      · have hf := (if_neg c_9).symm.trans hf
        refine lv_aload_n hx hb dX9_house_35 rfl (lv_at hl 0 rfl) ?_
        refine va_get (D := D) (ci := 8) (v := .ref a_ho) (C := RX9) (T := TX9) (N := 10) hx hb hts il_X9_house_X9 hown hK hP 0 rfl rfl 6 (by decide) (hts _ fk_X9_house_0) (fun _ h9 => h9) rfl dX9_house_36 ?_
        refine lv_iconst (v := (0 : Int32)) hx hb dX9_house_39 (by decide) ?_
        refine lv_iload_n hx hb dX9_house_40 rfl (lv_at hl 1 rfl) ?_
        refine lv_iload_n hx hb dX9_house_41 rfl (lv_at hl 3 rfl) ?_
        refine lv_isub hx hb dX9_house_42 ?_
        refine va_mabs hx hb (hml.trans hl.1.symm) hown (hts _ fk_X9_house_1) (hts _ fk_X9_house_2) (hts _ fk_X9_house_3) (hts _ fk_X9_house_4) (Nat.le_of_ble_eq_true rfl) (Nat.le_of_ble_eq_true rfl) (Nat.zero_le _) (Nat.zero_le _) dX9_house_43 ?_
        refine lv_iload_n hx hb dX9_house_46 rfl (lv_at hl 2 rfl) ?_
        refine lv_isub hx hb dX9_house_47 ?_
        refine va_mmax hx hb (hml.trans hl.1.symm) hown (hts _ fk_X9_house_5) (hts _ fk_X9_house_6) (hts _ fk_X9_house_3) (hts _ fk_X9_house_7) (Nat.le_of_ble_eq_true rfl) (Nat.le_of_ble_eq_true rfl) (Nat.zero_le _) (Nat.zero_le _) dX9_house_48 ?_
        obtain ⟨u_10, hg_11, hf⟩ := pa_bd hf
        refine pa_ki (wc := (wo_X3_append cI cJ a_ho a_hn v_ho_rows v_hn)) (wr := [(a_x, .inr (8, [.ref a_la, .ref a_te, .ref a_ha, .ref a_as, .ref a_lo, .ref a_we, .ref a_ho, .ref a_fr, .ref a_pr, .long v_x_trace]))]) (w1 := (wo_X3_append cI cJ a_ho a_hn u_10.2.1 u_10.2.2)) (w2 := (wo_X9_house cI cJ a_x a_la a_te a_ha a_as a_lo a_we a_ho a_hn a_fr a_pr v_x_trace u_10.2.1 u_10.2.2)) X hP hD hS [1, 2] [0] [0, 1, 2] rfl (pa_rV (As := [.int (if (0 : Int32) < ((if 0 ≤ (x1 - x3) then (x1 - x3) else 0 - (x1 - x3)) - x2) then ((if 0 ≤ (x1 - x3) then (x1 - x3) else 0 - (x1 - x3)) - x2) else (0 : Int32))]) (rest := []) (T := TX3) X hP hD hS [1, 2] rfl rfl (c_X3_append hg_11 H.size) (cwV 1 hts gX9_house_X3_append rfl rfl rfl (by decide +kernel) ⟨Nat.le_of_ble_eq_true rfl, Nat.le_of_ble_eq_true rfl⟩) (q0 := 1) rfl rfl rfl hl.1 rfl (Nat.le_of_ble_eq_true rfl) dX9_house_51 ⟨Nat.zero_le _, Nat.zero_le _⟩) rfl rfl (by decide) rfl rfl (fun H locs hP hD hS => ?_)
        obtain rfl := Option.some.inj hf
        exact pa_ei X hP hD hS dX9_house_54
      · have hf := (if_pos c_9).symm.trans hf
        refine lv_iconst (v := (-1 : Int32)) hx hb dX9_house_33 (by decide) ?_
        obtain rfl := Option.some.inj hf
        exact pa_ei X hP hD hS dX9_house_34
set_option maxHeartbeats 4000000 in
set_option maxRecDepth 100000 in
theorem c_X9_house {l : Launch} {D : va_G} {cI cJ : ClassId} {g : pa_GT} {a_x a_la a_te a_ha a_as a_lo a_we a_ho a_hn a_fr a_pr : Nat} {x1 : Int32} {x2 : Int32} {x3 : Int32} {v_x_trace : Int64} {v_ho_rows : Int32} {v_hn : Nat → Int32} {o : Int32 × Int32 × (Nat → Int32)} (hf : f_X9_house x1 x2 x3 v_ho_rows v_hn = some o) : pa_Mi l yX9_house wsX9_house rm_X9_house D cI cJ g [.ref a_x, .int x1, .int x2, .int x3] (wo_X9_house cI cJ a_x a_la a_te a_ha a_as a_lo a_we a_ho a_hn a_fr a_pr v_x_trace v_ho_rows v_hn) (wo_X9_house cI cJ a_x a_la a_te a_ha a_as a_lo a_we a_ho a_hn a_fr a_pr v_x_trace o.2.1 o.2.2) o.1 := by
  intro sz
  refine pa_met (cc := cX9_house) (maxL := 4) (ret := (some .int)) (lv := [(0, .ref a_x), (1, .int x1), (2, .int x2), (3, .int x3)]) (by decide) rfl (Nat.le_of_ble_eq_true rfl) rfl ?_
  intro p e s m below meth c X hsz hP hD ls hl
  subst hsz
  exact w_X9_house_b0 X hf hP hD va_S.rf hl
