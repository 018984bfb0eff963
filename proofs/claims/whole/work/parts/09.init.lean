abbrev wo_X0_init (cI cJ : ClassId) (a_as a_am : Nat) (v_as_wantedPoor : Int32) (v_as_wantedRich : Int32) (v_am : Nat → Int32) : va_W := [(a_as, .inr (0, [.ref a_am, .int v_as_wantedPoor, .int v_as_wantedRich])), (a_am, .inl (cI, 8, .inl v_am))]
abbrev rm_X0_init : Room := { frames := 1, cells := 1, slots := 8, locals := 12 }
theorem il_X0_init_X0 : ∀ w ∈ wsX00, w ∈ wsX0_init := by decide +kernel
theorem fk_X0_init_0 : Cond.methodLink RX0 3 objectInit ∈ wsX0_init := by decide +kernel
theorem fk_X0_init_1 : Cond.instanceMethod objectInit ∈ wsX0_init := by decide +kernel
theorem fk_X0_init_2 : Cond.code objectInit ⟨#[0xb1]⟩ 1 none ∈ wsX0_init := by decide +kernel
theorem fk_X0_init_3 : Cond.arrayClass .int ∈ wsX0_init := by decide +kernel
theorem fk_X0_init_4 : Cond.fieldLink RX0 9 "PostedAsks$Asker" "met" "[I" ∈ wsX0_init := by decide +kernel
theorem fk_X0_init_5 : Cond.fieldLink RX0 15 "PostedAsks$Asker" "wantedPoor" "I" ∈ wsX0_init := by decide +kernel
theorem fk_X0_init_6 : Cond.fieldLink RX0 19 "PostedAsks$Asker" "wantedRich" "I" ∈ wsX0_init := by decide +kernel
def f_X0_init  : Option (Int32 × Int32) :=
  some ((0 : Int32), (0 : Int32))
set_option maxHeartbeats 4000000 in
set_option maxRecDepth 100000 in
theorem w_X0_init_b0 {l : Launch} {D : va_G} {cI cJ : ClassId} {g : pa_GT} {a_as : Nat} {A : Nat → Prop} {p : Program} {e : Env} {s : State} {m : MethodId} {args : Array Value} {below : List Frame} {meth : Method} {c : Code}  {o : Int32 × Int32} (X : pa_X cX0_init 1 none RX0 wsX0_init D cI cJ g A p s m args meth c) (hin : meth.name = "<init>") (hf : f_X0_init  = some o) {H : Heap} {locs : List Loc} (hP : va_P D vwCl [(a_as, .inr (0, [.null, .int (0 : Int32), .int (0 : Int32)]))] H) (hD : va_D A [(a_as, .inr (0, [.null, .int (0 : Int32), .int (0 : Int32)]))]) (hS : va_S A s.heap H locs) {ls : Array Slot} (hl : lv_has ls 1 [(0, .ref a_as)]) : W p l e (headSpec wsX0_init rm_X0_init).room s m args below meth c H locs 0 0 (MQ below (va_Qv (fun (_ : Nat) => True) (pa_QN D A (fun (u : Nat) => wo_X0_init cI cJ a_as u o.1 o.2 (fun _ => 0))) A) args s 1 8 A) (F0 m 0 ls []) := by
  obtain ⟨hx, hb, hr, hml, hown, hts, hK, hA, hG, hlk⟩ := id X
  delta f_X0_init at hf
  refine lv_aload_n hx hb dX0_init_0 rfl (lv_at hl 0 rfl) ?_
  refine W.objInit hx hb hown (hts _ fk_X0_init_0) (hts _ fk_X0_init_1) (hts _ fk_X0_init_2) rfl (by rw [hml]; exact hl.1) rfl dX0_init_1 (Nat.le_of_ble_eq_true rfl) (Nat.le_of_ble_eq_true rfl) ?_
  refine W.eq (g2 := F0 m 4 ls []) rfl ?_
  refine lv_aload_n hx hb dX0_init_4 rfl (lv_at hl 0 rfl) ?_
  refine lv_bipush (v := (8 : Int32)) hx hb dX0_init_5 (by decide) ?_
  refine pa_newI (n := (8 : Int32)) (N := 8) X hP hD hS (by decide) (by decide) (by decide) (Nat.le_of_ble_eq_true rfl) (Nat.le_of_ble_eq_true rfl) (hts _ fk_X0_init_3) dX0_init_7 (fun a_am H hP hD hS => ?_)
  have hP : va_P D vwCl [(a_as, .inr (0, [.null, .int (0 : Int32), .int (0 : Int32)])), (a_am, .inl (cI, 8, .inl (fun _ => 0)))] H := hP
  have hD : va_D A [(a_as, .inr (0, [.null, .int (0 : Int32), .int (0 : Int32)])), (a_am, .inl (cI, 8, .inl (fun _ => 0)))] := hD
  refine W.widen (k := 1) (n := 8) (Nat.le_refl _) (Nat.le_refl _) ?_
  refine va_putF (D := D) (ci := 0) (v := .ref a_am) (ty := .array .int) (C := RX0) (T := TX0) (N := 3) hx hb hts il_X0_init_X0 tyX0 tyX0_ok nmX0 hown hK hP hD hS 0 rfl rfl 0 (by decide) (hts _ fk_X0_init_4) (fun _ h9 => h9) rfl hin rfl (tyX0_ok 0 (by decide)) rfl rfl (Nat.le_of_ble_eq_true rfl) dX0_init_9 (fun H locs hP hD hS => ?_)
  have hP : va_P D vwCl (wo_X0_init cI cJ a_as a_am (0 : Int32) (0 : Int32) (fun _ => 0)) H := hP
  have hD : va_D A (wo_X0_init cI cJ a_as a_am (0 : Int32) (0 : Int32) (fun _ => 0)) := hD
  refine lv_aload_n hx hb dX0_init_12 rfl (lv_at hl 0 rfl) ?_
  refine lv_iconst (v := (0 : Int32)) hx hb dX0_init_13 (by decide) ?_
  refine va_put (D := D) (ci := 0) (v := .int (0 : Int32)) (ty := .int) (C := RX0) (T := TX0) (N := 3) hx hb hts il_X0_init_X0 tyX0 tyX0_ok nmX0 hown hK hP hD hS 0 rfl rfl 1 (by decide) (hts _ fk_X0_init_5) (fun _ h9 => h9) rfl (tyX0_ok 1 (by decide)) rfl rfl (Nat.le_of_ble_eq_true rfl) dX0_init_14 (fun H locs hP hD hS => ?_)
  have hP : va_P D vwCl (wo_X0_init cI cJ a_as a_am (0 : Int32) (0 : Int32) (fun _ => 0)) H := hP
  have hD : va_D A (wo_X0_init cI cJ a_as a_am (0 : Int32) (0 : Int32) (fun _ => 0)) := hD
  refine lv_aload_n hx hb dX0_init_17 rfl (lv_at hl 0 rfl) ?_
  refine lv_iconst (v := (0 : Int32)) hx hb dX0_init_18 (by decide) ?_
  refine va_put (D := D) (ci := 0) (v := .int (0 : Int32)) (ty := .int) (C := RX0) (T := TX0) (N := 3) hx hb hts il_X0_init_X0 tyX0 tyX0_ok nmX0 hown hK hP hD hS 0 rfl rfl 2 (by decide) (hts _ fk_X0_init_6) (fun _ h9 => h9) rfl (tyX0_ok 2 (by decide)) rfl rfl (Nat.le_of_ble_eq_true rfl) dX0_init_19 (fun H locs hP hD hS => ?_)
  have hP : va_P D vwCl (wo_X0_init cI cJ a_as a_am (0 : Int32) (0 : Int32) (fun _ => 0)) H := hP
  have hD : va_D A (wo_X0_init cI cJ a_as a_am (0 : Int32) (0 : Int32) (fun _ => 0)) := hD
  obtain rfl := Option.some.inj hf
  exact pa_en (a_am) X hP hD hS dX0_init_22
set_option maxHeartbeats 4000000 in
set_option maxRecDepth 100000 in
theorem c_X0_init {l : Launch} {D : va_G} {cI cJ : ClassId} {g : pa_GT} {a_as : Nat} {o : Int32 × Int32} (hf : f_X0_init  = some o) : pa_Mn l yX0_init wsX0_init rm_X0_init D cI cJ g [.ref a_as] [(a_as, .inr (0, [.null, .int (0 : Int32), .int (0 : Int32)]))] (fun (u : Nat) => wo_X0_init cI cJ a_as u o.1 o.2 (fun _ => 0)) 1 8 := by
  intro sz
  refine pa_metA (cc := cX0_init) (maxL := 1) (ret := none) (lv := [(0, .ref a_as)]) (by decide) rfl (Nat.le_of_ble_eq_true rfl) rfl ?_
  intro p e s m below meth c X hin hsz hP hD ls hl
  subst hsz
  exact w_X0_init_b0 X hin hf hP hD va_S.rf hl
abbrev wo_X1_init (cI cJ : ClassId) (a_fr : Nat) (v_fr_upper : Int64) (v_fr_lower : Int64) : va_W := [(a_fr, .inr (1, [.long v_fr_upper, .long v_fr_lower]))]
abbrev rm_X1_init : Room := { frames := 1, cells := 0, slots := 0, locals := 12 }
theorem il_X1_init_X1 : ∀ w ∈ wsX10, w ∈ wsX1_init := by decide +kernel
theorem fk_X1_init_0 : Cond.methodLink RX1 3 objectInit ∈ wsX1_init := by decide +kernel
theorem fk_X1_init_1 : Cond.instanceMethod objectInit ∈ wsX1_init := by decide +kernel
theorem fk_X1_init_2 : Cond.code objectInit ⟨#[0xb1]⟩ 1 none ∈ wsX1_init := by decide +kernel
theorem fk_X1_init_3 : Cond.fieldLink RX1 9 "PostedAsks$Fraction" "upper" "J" ∈ wsX1_init := by decide +kernel
theorem fk_X1_init_4 : Cond.fieldLink RX1 15 "PostedAsks$Fraction" "lower" "J" ∈ wsX1_init := by decide +kernel
def f_X1_init  : Option (Int64 × Int64) :=
  some ((0 : Int64), (0 : Int64))
set_option maxHeartbeats 4000000 in
set_option maxRecDepth 100000 in
theorem w_X1_init_b0 {l : Launch} {D : va_G} {cI cJ : ClassId} {g : pa_GT} {a_fr : Nat} {A : Nat → Prop} {p : Program} {e : Env} {s : State} {m : MethodId} {args : Array Value} {below : List Frame} {meth : Method} {c : Code}  {o : Int64 × Int64} (X : pa_X cX1_init 1 none RX1 wsX1_init D cI cJ g A p s m args meth c) (hin : meth.name = "<init>") (hf : f_X1_init  = some o) {H : Heap} {locs : List Loc} (hP : va_P D vwCl [(a_fr, .inr (1, [.long (0 : Int64), .long (0 : Int64)]))] H) (hD : va_D A [(a_fr, .inr (1, [.long (0 : Int64), .long (0 : Int64)]))]) (hS : va_S A s.heap H locs) {ls : Array Slot} (hl : lv_has ls 1 [(0, .ref a_fr)]) : W p l e (headSpec wsX1_init rm_X1_init).room s m args below meth c H locs 0 0 (MQ below (va_Qv (fun (_ : Unit) => True) (pa_QN D A (fun (u : Unit) => wo_X1_init cI cJ a_fr o.1 o.2)) A) args s 0 0 A) (F0 m 0 ls []) := by
  obtain ⟨hx, hb, hr, hml, hown, hts, hK, hA, hG, hlk⟩ := id X
  delta f_X1_init at hf
  refine lv_aload_n hx hb dX1_init_0 rfl (lv_at hl 0 rfl) ?_
  refine W.objInit hx hb hown (hts _ fk_X1_init_0) (hts _ fk_X1_init_1) (hts _ fk_X1_init_2) rfl (by rw [hml]; exact hl.1) rfl dX1_init_1 (Nat.le_of_ble_eq_true rfl) (Nat.le_of_ble_eq_true rfl) ?_
  refine W.eq (g2 := F0 m 4 ls []) rfl ?_
  refine lv_aload_n hx hb dX1_init_4 rfl (lv_at hl 0 rfl) ?_
  refine lv_lconst (v := (0 : Int64)) hx hb dX1_init_5 (by decide) ?_
  refine va_put (D := D) (ci := 1) (v := .long (0 : Int64)) (ty := .long) (C := RX1) (T := TX1) (N := 2) hx hb hts il_X1_init_X1 tyX1 tyX1_ok nmX1 hown hK hP hD hS 0 rfl rfl 0 (by decide) (hts _ fk_X1_init_3) (fun _ h9 => h9) rfl (tyX1_ok 0 (by decide)) rfl rfl (Nat.le_of_ble_eq_true rfl) dX1_init_6 (fun H locs hP hD hS => ?_)
  have hP : va_P D vwCl (wo_X1_init cI cJ a_fr (0 : Int64) (0 : Int64)) H := hP
  have hD : va_D A (wo_X1_init cI cJ a_fr (0 : Int64) (0 : Int64)) := hD
  refine lv_aload_n hx hb dX1_init_9 rfl (lv_at hl 0 rfl) ?_
  refine lv_lconst (v := (0 : Int64)) hx hb dX1_init_10 (by decide) ?_
  refine va_put (D := D) (ci := 1) (v := .long (0 : Int64)) (ty := .long) (C := RX1) (T := TX1) (N := 2) hx hb hts il_X1_init_X1 tyX1 tyX1_ok nmX1 hown hK hP hD hS 0 rfl rfl 1 (by decide) (hts _ fk_X1_init_4) (fun _ h9 => h9) rfl (tyX1_ok 1 (by decide)) rfl rfl (Nat.le_of_ble_eq_true rfl) dX1_init_11 (fun H locs hP hD hS => ?_)
  have hP : va_P D vwCl (wo_X1_init cI cJ a_fr (0 : Int64) (0 : Int64)) H := hP
  have hD : va_D A (wo_X1_init cI cJ a_fr (0 : Int64) (0 : Int64)) := hD
  obtain rfl := Option.some.inj hf
  exact pa_en () X hP hD hS dX1_init_14
set_option maxHeartbeats 4000000 in
set_option maxRecDepth 100000 in
theorem c_X1_init {l : Launch} {D : va_G} {cI cJ : ClassId} {g : pa_GT} {a_fr : Nat} {o : Int64 × Int64} (hf : f_X1_init  = some o) : pa_Mn l yX1_init wsX1_init rm_X1_init D cI cJ g [.ref a_fr] [(a_fr, .inr (1, [.long (0 : Int64), .long (0 : Int64)]))] (fun (u : Unit) => wo_X1_init cI cJ a_fr o.1 o.2) 0 0 := by
  intro sz
  refine pa_metA (cc := cX1_init) (maxL := 1) (ret := none) (lv := [(0, .ref a_fr)]) (by decide) rfl (Nat.le_of_ble_eq_true rfl) rfl ?_
  intro p e s m below meth c X hin hsz hP hD ls hl
  subst hsz
  exact w_X1_init_b0 X hin hf hP hD va_S.rf hl
abbrev wo_X2_init (cI cJ : ClassId) (a_ha a_hp a_hl a_hq a_hm : Nat) (v_ha_finds : Int32) (v_hp : Nat → Int32) (v_hl : Nat → Int32) (v_hq : Nat → Int32) (v_hm : Nat → Int32) : va_W := [(a_ha, .inr (2, [.ref a_hp, .ref a_hl, .ref a_hq, .ref a_hm, .int v_ha_finds])), (a_hp, .inl (cI, 12, .inl v_hp)), (a_hl, .inl (cI, 12, .inl v_hl)), (a_hq, .inl (cI, 12, .inl v_hq)), (a_hm, .inl (cI, 12, .inl v_hm))]
abbrev rm_X2_init : Room := { frames := 1, cells := 4, slots := 48, locals := 12 }
theorem il_X2_init_X2 : ∀ w ∈ wsX20, w ∈ wsX2_init := by decide +kernel
theorem fk_X2_init_0 : Cond.methodLink RX2 3 objectInit ∈ wsX2_init := by decide +kernel
theorem fk_X2_init_1 : Cond.instanceMethod objectInit ∈ wsX2_init := by decide +kernel
theorem fk_X2_init_2 : Cond.code objectInit ⟨#[0xb1]⟩ 1 none ∈ wsX2_init := by decide +kernel
theorem fk_X2_init_3 : Cond.arrayClass .int ∈ wsX2_init := by decide +kernel
theorem fk_X2_init_4 : Cond.fieldLink RX2 9 "PostedAsks$Habit" "patterns" "[I" ∈ wsX2_init := by decide +kernel
theorem fk_X2_init_5 : Cond.fieldLink RX2 15 "PostedAsks$Habit" "limits" "[I" ∈ wsX2_init := by decide +kernel
theorem fk_X2_init_6 : Cond.fieldLink RX2 18 "PostedAsks$Habit" "readPatterns" "[I" ∈ wsX2_init := by decide +kernel
theorem fk_X2_init_7 : Cond.fieldLink RX2 21 "PostedAsks$Habit" "readLimits" "[I" ∈ wsX2_init := by decide +kernel
theorem fk_X2_init_8 : Cond.fieldLink RX2 24 "PostedAsks$Habit" "finds" "I" ∈ wsX2_init := by decide +kernel
def f_X2_init  : Option (Int32) :=
  some ((0 : Int32))
set_option maxHeartbeats 4000000 in
set_option maxRecDepth 100000 in
theorem w_X2_init_b0 {l : Launch} {D : va_G} {cI cJ : ClassId} {g : pa_GT} {a_ha : Nat} {A : Nat → Prop} {p : Program} {e : Env} {s : State} {m : MethodId} {args : Array Value} {below : List Frame} {meth : Method} {c : Code}  {o : Int32} (X : pa_X cX2_init 1 none RX2 wsX2_init D cI cJ g A p s m args meth c) (hin : meth.name = "<init>") (hf : f_X2_init  = some o) {H : Heap} {locs : List Loc} (hP : va_P D vwCl [(a_ha, .inr (2, [.null, .null, .null, .null, .int (0 : Int32)]))] H) (hD : va_D A [(a_ha, .inr (2, [.null, .null, .null, .null, .int (0 : Int32)]))]) (hS : va_S A s.heap H locs) {ls : Array Slot} (hl : lv_has ls 1 [(0, .ref a_ha)]) : W p l e (headSpec wsX2_init rm_X2_init).room s m args below meth c H locs 0 0 (MQ below (va_Qv (fun (_ : Nat × Nat × Nat × Nat) => True) (pa_QN D A (fun (u : Nat × Nat × Nat × Nat) => wo_X2_init cI cJ a_ha u.1 u.2.1 u.2.2.1 u.2.2.2 o (fun _ => 0) (fun _ => 0) (fun _ => 0) (fun _ => 0))) A) args s 4 48 A) (F0 m 0 ls []) := by
  obtain ⟨hx, hb, hr, hml, hown, hts, hK, hA, hG, hlk⟩ := id X
  delta f_X2_init at hf
  refine lv_aload_n hx hb dX2_init_0 rfl (lv_at hl 0 rfl) ?_
  refine W.objInit hx hb hown (hts _ fk_X2_init_0) (hts _ fk_X2_init_1) (hts _ fk_X2_init_2) rfl (by rw [hml]; exact hl.1) rfl dX2_init_1 (Nat.le_of_ble_eq_true rfl) (Nat.le_of_ble_eq_true rfl) ?_
  refine W.eq (g2 := F0 m 4 ls []) rfl ?_
  refine lv_aload_n hx hb dX2_init_4 rfl (lv_at hl 0 rfl) ?_
  refine lv_bipush (v := (12 : Int32)) hx hb dX2_init_5 (by decide) ?_
  refine pa_newI (n := (12 : Int32)) (N := 12) X hP hD hS (by decide) (by decide) (by decide) (Nat.le_of_ble_eq_true rfl) (Nat.le_of_ble_eq_true rfl) (hts _ fk_X2_init_3) dX2_init_7 (fun a_hp H hP hD hS => ?_)
  have hP : va_P D vwCl [(a_ha, .inr (2, [.null, .null, .null, .null, .int (0 : Int32)])), (a_hp, .inl (cI, 12, .inl (fun _ => 0)))] H := hP
  have hD : va_D A [(a_ha, .inr (2, [.null, .null, .null, .null, .int (0 : Int32)])), (a_hp, .inl (cI, 12, .inl (fun _ => 0)))] := hD
  refine W.widen (k := 1) (n := 12) (Nat.le_refl _) (Nat.le_refl _) ?_
  refine va_putF (D := D) (ci := 2) (v := .ref a_hp) (ty := .array .int) (C := RX2) (T := TX2) (N := 5) hx hb hts il_X2_init_X2 tyX2 tyX2_ok nmX2 hown hK hP hD hS 0 rfl rfl 0 (by decide) (hts _ fk_X2_init_4) (fun _ h9 => h9) rfl hin rfl (tyX2_ok 0 (by decide)) rfl rfl (Nat.le_of_ble_eq_true rfl) dX2_init_9 (fun H locs hP hD hS => ?_)
  have hP : va_P D vwCl [(a_ha, .inr (2, [.ref a_hp, .null, .null, .null, .int (0 : Int32)])), (a_hp, .inl (cI, 12, .inl (fun _ => 0)))] H := hP
  have hD : va_D A [(a_ha, .inr (2, [.ref a_hp, .null, .null, .null, .int (0 : Int32)])), (a_hp, .inl (cI, 12, .inl (fun _ => 0)))] := hD
  refine lv_aload_n hx hb dX2_init_12 rfl (lv_at hl 0 rfl) ?_
  refine lv_bipush (v := (12 : Int32)) hx hb dX2_init_13 (by decide) ?_
  refine pa_newI (n := (12 : Int32)) (N := 12) X hP hD hS (by decide) (by decide) (by decide) (Nat.le_of_ble_eq_true rfl) (Nat.le_of_ble_eq_true rfl) (hts _ fk_X2_init_3) dX2_init_15 (fun a_hl H hP hD hS => ?_)
  have hP : va_P D vwCl [(a_ha, .inr (2, [.ref a_hp, .null, .null, .null, .int (0 : Int32)])), (a_hp, .inl (cI, 12, .inl (fun _ => 0))), (a_hl, .inl (cI, 12, .inl (fun _ => 0)))] H := hP
  have hD : va_D A [(a_ha, .inr (2, [.ref a_hp, .null, .null, .null, .int (0 : Int32)])), (a_hp, .inl (cI, 12, .inl (fun _ => 0))), (a_hl, .inl (cI, 12, .inl (fun _ => 0)))] := hD
  refine W.widen (k := 2) (n := 24) (Nat.le_refl _) (Nat.le_refl _) ?_
  refine va_putF (D := D) (ci := 2) (v := .ref a_hl) (ty := .array .int) (C := RX2) (T := TX2) (N := 5) hx hb hts il_X2_init_X2 tyX2 tyX2_ok nmX2 hown hK hP hD hS 0 rfl rfl 1 (by decide) (hts _ fk_X2_init_5) (fun _ h9 => h9) rfl hin rfl (tyX2_ok 1 (by decide)) rfl rfl (Nat.le_of_ble_eq_true rfl) dX2_init_17 (fun H locs hP hD hS => ?_)
  have hP : va_P D vwCl [(a_ha, .inr (2, [.ref a_hp, .ref a_hl, .null, .null, .int (0 : Int32)])), (a_hp, .inl (cI, 12, .inl (fun _ => 0))), (a_hl, .inl (cI, 12, .inl (fun _ => 0)))] H := hP
  have hD : va_D A [(a_ha, .inr (2, [.ref a_hp, .ref a_hl, .null, .null, .int (0 : Int32)])), (a_hp, .inl (cI, 12, .inl (fun _ => 0))), (a_hl, .inl (cI, 12, .inl (fun _ => 0)))] := hD
  refine lv_aload_n hx hb dX2_init_20 rfl (lv_at hl 0 rfl) ?_
  refine lv_bipush (v := (12 : Int32)) hx hb dX2_init_21 (by decide) ?_
  refine pa_newI (n := (12 : Int32)) (N := 12) X hP hD hS (by decide) (by decide) (by decide) (Nat.le_of_ble_eq_true rfl) (Nat.le_of_ble_eq_true rfl) (hts _ fk_X2_init_3) dX2_init_23 (fun a_hq H hP hD hS => ?_)
  have hP : va_P D vwCl [(a_ha, .inr (2, [.ref a_hp, .ref a_hl, .null, .null, .int (0 : Int32)])), (a_hp, .inl (cI, 12, .inl (fun _ => 0))), (a_hl, .inl (cI, 12, .inl (fun _ => 0))), (a_hq, .inl (cI, 12, .inl (fun _ => 0)))] H := hP
  have hD : va_D A [(a_ha, .inr (2, [.ref a_hp, .ref a_hl, .null, .null, .int (0 : Int32)])), (a_hp, .inl (cI, 12, .inl (fun _ => 0))), (a_hl, .inl (cI, 12, .inl (fun _ => 0))), (a_hq, .inl (cI, 12, .inl (fun _ => 0)))] := hD
  refine W.widen (k := 3) (n := 36) (Nat.le_refl _) (Nat.le_refl _) ?_
  refine va_putF (D := D) (ci := 2) (v := .ref a_hq) (ty := .array .int) (C := RX2) (T := TX2) (N := 5) hx hb hts il_X2_init_X2 tyX2 tyX2_ok nmX2 hown hK hP hD hS 0 rfl rfl 2 (by decide) (hts _ fk_X2_init_6) (fun _ h9 => h9) rfl hin rfl (tyX2_ok 2 (by decide)) rfl rfl (Nat.le_of_ble_eq_true rfl) dX2_init_25 (fun H locs hP hD hS => ?_)
  have hP : va_P D vwCl [(a_ha, .inr (2, [.ref a_hp, .ref a_hl, .ref a_hq, .null, .int (0 : Int32)])), (a_hp, .inl (cI, 12, .inl (fun _ => 0))), (a_hl, .inl (cI, 12, .inl (fun _ => 0))), (a_hq, .inl (cI, 12, .inl (fun _ => 0)))] H := hP
  have hD : va_D A [(a_ha, .inr (2, [.ref a_hp, .ref a_hl, .ref a_hq, .null, .int (0 : Int32)])), (a_hp, .inl (cI, 12, .inl (fun _ => 0))), (a_hl, .inl (cI, 12, .inl (fun _ => 0))), (a_hq, .inl (cI, 12, .inl (fun _ => 0)))] := hD
  refine lv_aload_n hx hb dX2_init_28 rfl (lv_at hl 0 rfl) ?_
  refine lv_bipush (v := (12 : Int32)) hx hb dX2_init_29 (by decide) ?_
  refine pa_newI (n := (12 : Int32)) (N := 12) X hP hD hS (by decide) (by decide) (by decide) (Nat.le_of_ble_eq_true rfl) (Nat.le_of_ble_eq_true rfl) (hts _ fk_X2_init_3) dX2_init_31 (fun a_hm H hP hD hS => ?_)
  have hP : va_P D vwCl [(a_ha, .inr (2, [.ref a_hp, .ref a_hl, .ref a_hq, .null, .int (0 : Int32)])), (a_hp, .inl (cI, 12, .inl (fun _ => 0))), (a_hl, .inl (cI, 12, .inl (fun _ => 0))), (a_hq, .inl (cI, 12, .inl (fun _ => 0))), (a_hm, .inl (cI, 12, .inl (fun _ => 0)))] H := hP
  have hD : va_D A [(a_ha, .inr (2, [.ref a_hp, .ref a_hl, .ref a_hq, .null, .int (0 : Int32)])), (a_hp, .inl (cI, 12, .inl (fun _ => 0))), (a_hl, .inl (cI, 12, .inl (fun _ => 0))), (a_hq, .inl (cI, 12, .inl (fun _ => 0))), (a_hm, .inl (cI, 12, .inl (fun _ => 0)))] := hD
  refine W.widen (k := 4) (n := 48) (Nat.le_refl _) (Nat.le_refl _) ?_
  refine va_putF (D := D) (ci := 2) (v := .ref a_hm) (ty := .array .int) (C := RX2) (T := TX2) (N := 5) hx hb hts il_X2_init_X2 tyX2 tyX2_ok nmX2 hown hK hP hD hS 0 rfl rfl 3 (by decide) (hts _ fk_X2_init_7) (fun _ h9 => h9) rfl hin rfl (tyX2_ok 3 (by decide)) rfl rfl (Nat.le_of_ble_eq_true rfl) dX2_init_33 (fun H locs hP hD hS => ?_)
  have hP : va_P D vwCl (wo_X2_init cI cJ a_ha a_hp a_hl a_hq a_hm (0 : Int32) (fun _ => 0) (fun _ => 0) (fun _ => 0) (fun _ => 0)) H := hP
  have hD : va_D A (wo_X2_init cI cJ a_ha a_hp a_hl a_hq a_hm (0 : Int32) (fun _ => 0) (fun _ => 0) (fun _ => 0) (fun _ => 0)) := hD
  refine lv_aload_n hx hb dX2_init_36 rfl (lv_at hl 0 rfl) ?_
  refine lv_iconst (v := (0 : Int32)) hx hb dX2_init_37 (by decide) ?_
  refine va_put (D := D) (ci := 2) (v := .int (0 : Int32)) (ty := .int) (C := RX2) (T := TX2) (N := 5) hx hb hts il_X2_init_X2 tyX2 tyX2_ok nmX2 hown hK hP hD hS 0 rfl rfl 4 (by decide) (hts _ fk_X2_init_8) (fun _ h9 => h9) rfl (tyX2_ok 4 (by decide)) rfl rfl (Nat.le_of_ble_eq_true rfl) dX2_init_38 (fun H locs hP hD hS => ?_)
  have hP : va_P D vwCl (wo_X2_init cI cJ a_ha a_hp a_hl a_hq a_hm (0 : Int32) (fun _ => 0) (fun _ => 0) (fun _ => 0) (fun _ => 0)) H := hP
  have hD : va_D A (wo_X2_init cI cJ a_ha a_hp a_hl a_hq a_hm (0 : Int32) (fun _ => 0) (fun _ => 0) (fun _ => 0) (fun _ => 0)) := hD
  obtain rfl := Option.some.inj hf
  exact pa_en (a_hp, a_hl, a_hq, a_hm) X hP hD hS dX2_init_41
set_option maxHeartbeats 4000000 in
set_option maxRecDepth 100000 in
theorem c_X2_init {l : Launch} {D : va_G} {cI cJ : ClassId} {g : pa_GT} {a_ha : Nat} {o : Int32} (hf : f_X2_init  = some o) : pa_Mn l yX2_init wsX2_init rm_X2_init D cI cJ g [.ref a_ha] [(a_ha, .inr (2, [.null, .null, .null, .null, .int (0 : Int32)]))] (fun (u : Nat × Nat × Nat × Nat) => wo_X2_init cI cJ a_ha u.1 u.2.1 u.2.2.1 u.2.2.2 o (fun _ => 0) (fun _ => 0) (fun _ => 0) (fun _ => 0)) 4 48 := by
  intro sz
  refine pa_metA (cc := cX2_init) (maxL := 1) (ret := none) (lv := [(0, .ref a_ha)]) (by decide) rfl (Nat.le_of_ble_eq_true rfl) rfl ?_
  intro p e s m below meth c X hin hsz hP hD ls hl
  subst hsz
  exact w_X2_init_b0 X hin hf hP hD va_S.rf hl
abbrev wo_X3_init (cI cJ : ClassId) (a_ho a_hn : Nat) (v_ho_rows : Int32) (v_hn : Nat → Int32) : va_W := [(a_ho, .inr (3, [.ref a_hn, .int v_ho_rows])), (a_hn, .inl (cI, 24, .inl v_hn))]
abbrev rm_X3_init : Room := { frames := 1, cells := 1, slots := 24, locals := 12 }
theorem il_X3_init_X3 : ∀ w ∈ wsX30, w ∈ wsX3_init := by decide +kernel
theorem fk_X3_init_0 : Cond.methodLink RX3 3 objectInit ∈ wsX3_init := by decide +kernel
theorem fk_X3_init_1 : Cond.instanceMethod objectInit ∈ wsX3_init := by decide +kernel
theorem fk_X3_init_2 : Cond.code objectInit ⟨#[0xb1]⟩ 1 none ∈ wsX3_init := by decide +kernel
theorem fk_X3_init_3 : Cond.arrayClass .int ∈ wsX3_init := by decide +kernel
theorem fk_X3_init_4 : Cond.fieldLink RX3 9 "PostedAsks$House" "needs" "[I" ∈ wsX3_init := by decide +kernel
theorem fk_X3_init_5 : Cond.fieldLink RX3 15 "PostedAsks$House" "rows" "I" ∈ wsX3_init := by decide +kernel
def f_X3_init  : Option (Int32) :=
  some ((0 : Int32))
set_option maxHeartbeats 4000000 in
set_option maxRecDepth 100000 in
theorem w_X3_init_b0 {l : Launch} {D : va_G} {cI cJ : ClassId} {g : pa_GT} {a_ho : Nat} {A : Nat → Prop} {p : Program} {e : Env} {s : State} {m : MethodId} {args : Array Value} {below : List Frame} {meth : Method} {c : Code}  {o : Int32} (X : pa_X cX3_init 1 none RX3 wsX3_init D cI cJ g A p s m args meth c) (hin : meth.name = "<init>") (hf : f_X3_init  = some o) {H : Heap} {locs : List Loc} (hP : va_P D vwCl [(a_ho, .inr (3, [.null, .int (0 : Int32)]))] H) (hD : va_D A [(a_ho, .inr (3, [.null, .int (0 : Int32)]))]) (hS : va_S A s.heap H locs) {ls : Array Slot} (hl : lv_has ls 1 [(0, .ref a_ho)]) : W p l e (headSpec wsX3_init rm_X3_init).room s m args below meth c H locs 0 0 (MQ below (va_Qv (fun (_ : Nat) => True) (pa_QN D A (fun (u : Nat) => wo_X3_init cI cJ a_ho u o (fun _ => 0))) A) args s 1 24 A) (F0 m 0 ls []) := by
  obtain ⟨hx, hb, hr, hml, hown, hts, hK, hA, hG, hlk⟩ := id X
  delta f_X3_init at hf
  refine lv_aload_n hx hb dX3_init_0 rfl (lv_at hl 0 rfl) ?_
  refine W.objInit hx hb hown (hts _ fk_X3_init_0) (hts _ fk_X3_init_1) (hts _ fk_X3_init_2) rfl (by rw [hml]; exact hl.1) rfl dX3_init_1 (Nat.le_of_ble_eq_true rfl) (Nat.le_of_ble_eq_true rfl) ?_
  refine W.eq (g2 := F0 m 4 ls []) rfl ?_
  refine lv_aload_n hx hb dX3_init_4 rfl (lv_at hl 0 rfl) ?_
  refine lv_bipush (v := (24 : Int32)) hx hb dX3_init_5 (by decide) ?_
  refine pa_newI (n := (24 : Int32)) (N := 24) X hP hD hS (by decide) (by decide) (by decide) (Nat.le_of_ble_eq_true rfl) (Nat.le_of_ble_eq_true rfl) (hts _ fk_X3_init_3) dX3_init_7 (fun a_hn H hP hD hS => ?_)
  have hP : va_P D vwCl [(a_ho, .inr (3, [.null, .int (0 : Int32)])), (a_hn, .inl (cI, 24, .inl (fun _ => 0)))] H := hP
  have hD : va_D A [(a_ho, .inr (3, [.null, .int (0 : Int32)])), (a_hn, .inl (cI, 24, .inl (fun _ => 0)))] := hD
  refine W.widen (k := 1) (n := 24) (Nat.le_refl _) (Nat.le_refl _) ?_
  refine va_putF (D := D) (ci := 3) (v := .ref a_hn) (ty := .array .int) (C := RX3) (T := TX3) (N := 2) hx hb hts il_X3_init_X3 tyX3 tyX3_ok nmX3 hown hK hP hD hS 0 rfl rfl 0 (by decide) (hts _ fk_X3_init_4) (fun _ h9 => h9) rfl hin rfl (tyX3_ok 0 (by decide)) rfl rfl (Nat.le_of_ble_eq_true rfl) dX3_init_9 (fun H locs hP hD hS => ?_)
  have hP : va_P D vwCl (wo_X3_init cI cJ a_ho a_hn (0 : Int32) (fun _ => 0)) H := hP
  have hD : va_D A (wo_X3_init cI cJ a_ho a_hn (0 : Int32) (fun _ => 0)) := hD
  refine lv_aload_n hx hb dX3_init_12 rfl (lv_at hl 0 rfl) ?_
  refine lv_iconst (v := (0 : Int32)) hx hb dX3_init_13 (by decide) ?_
  refine va_put (D := D) (ci := 3) (v := .int (0 : Int32)) (ty := .int) (C := RX3) (T := TX3) (N := 2) hx hb hts il_X3_init_X3 tyX3 tyX3_ok nmX3 hown hK hP hD hS 0 rfl rfl 1 (by decide) (hts _ fk_X3_init_5) (fun _ h9 => h9) rfl (tyX3_ok 1 (by decide)) rfl rfl (Nat.le_of_ble_eq_true rfl) dX3_init_14 (fun H locs hP hD hS => ?_)
  have hP : va_P D vwCl (wo_X3_init cI cJ a_ho a_hn (0 : Int32) (fun _ => 0)) H := hP
  have hD : va_D A (wo_X3_init cI cJ a_ho a_hn (0 : Int32) (fun _ => 0)) := hD
  obtain rfl := Option.some.inj hf
  exact pa_en (a_hn) X hP hD hS dX3_init_17
set_option maxHeartbeats 4000000 in
set_option maxRecDepth 100000 in
theorem c_X3_init {l : Launch} {D : va_G} {cI cJ : ClassId} {g : pa_GT} {a_ho : Nat} {o : Int32} (hf : f_X3_init  = some o) : pa_Mn l yX3_init wsX3_init rm_X3_init D cI cJ g [.ref a_ho] [(a_ho, .inr (3, [.null, .int (0 : Int32)]))] (fun (u : Nat) => wo_X3_init cI cJ a_ho u o (fun _ => 0)) 1 24 := by
  intro sz
  refine pa_metA (cc := cX3_init) (maxL := 1) (ret := none) (lv := [(0, .ref a_ho)]) (by decide) rfl (Nat.le_of_ble_eq_true rfl) rfl ?_
  intro p e s m below meth c X hin hsz hP hD ls hl
  subst hsz
  exact w_X3_init_b0 X hin hf hP hD va_S.rf hl
abbrev wo_X4_init (cI cJ : ClassId) (a_la a_lc a_lr : Nat) (v_lc : Nat → Int32) (v_lr : Nat → Int32) : va_W := [(a_la, .inr (4, [.ref a_lc, .ref a_lr])), (a_lc, .inl (cI, 32, .inl v_lc)), (a_lr, .inl (cI, 8, .inl v_lr))]
abbrev rm_X4_init : Room := { frames := 1, cells := 2, slots := 40, locals := 23 }
theorem il_X4_init_X4 : ∀ w ∈ wsX40, w ∈ wsX4_init := by decide +kernel
theorem fk_X4_init_0 : Cond.methodLink RX4 3 objectInit ∈ wsX4_init := by decide +kernel
theorem fk_X4_init_1 : Cond.instanceMethod objectInit ∈ wsX4_init := by decide +kernel
theorem fk_X4_init_2 : Cond.code objectInit ⟨#[0xb1]⟩ 1 none ∈ wsX4_init := by decide +kernel
theorem fk_X4_init_3 : Cond.arrayClass .int ∈ wsX4_init := by decide +kernel
theorem fk_X4_init_4 : Cond.fieldLink RX4 9 "PostedAsks$Lands" "counts" "[I" ∈ wsX4_init := by decide +kernel
theorem fk_X4_init_5 : Cond.fieldLink RX4 15 "PostedAsks$Lands" "rates" "[I" ∈ wsX4_init := by decide +kernel
def f_X4_init  : Option ((Nat → Int32)) :=
  some ((pa_fillI (fun _ => 0) 8 (100 : Int32)))
set_option maxHeartbeats 4000000 in
set_option maxRecDepth 100000 in
theorem w_X4_init_b0 {l : Launch} {D : va_G} {cI cJ : ClassId} {g : pa_GT} {a_la : Nat} {A : Nat → Prop} {p : Program} {e : Env} {s : State} {m : MethodId} {args : Array Value} {below : List Frame} {meth : Method} {c : Code}  {o : (Nat → Int32)} (X : pa_X cX4_init 1 none RX4 wsX4_init D cI cJ g A p s m args meth c) (hin : meth.name = "<init>") (hf : f_X4_init  = some o) {H : Heap} {locs : List Loc} (hP : va_P D vwCl [(a_la, .inr (4, [.null, .null]))] H) (hD : va_D A [(a_la, .inr (4, [.null, .null]))]) (hS : va_S A s.heap H locs) {ls : Array Slot} (hl : lv_has ls 1 [(0, .ref a_la)]) : W p l e (headSpec wsX4_init rm_X4_init).room s m args below meth c H locs 0 0 (MQ below (va_Qv (fun (_ : Nat × Nat) => True) (pa_QN D A (fun (u : Nat × Nat) => wo_X4_init cI cJ a_la u.1 u.2 (fun _ => 0) o)) A) args s 2 40 A) (F0 m 0 ls []) := by
  obtain ⟨hx, hb, hr, hml, hown, hts, hK, hA, hG, hlk⟩ := id X
  delta f_X4_init at hf
  refine lv_aload_n hx hb dX4_init_0 rfl (lv_at hl 0 rfl) ?_
  refine W.objInit hx hb hown (hts _ fk_X4_init_0) (hts _ fk_X4_init_1) (hts _ fk_X4_init_2) rfl (by rw [hml]; exact hl.1) rfl dX4_init_1 (Nat.le_of_ble_eq_true rfl) (Nat.le_of_ble_eq_true rfl) ?_
  refine W.eq (g2 := F0 m 4 ls []) rfl ?_
  refine lv_aload_n hx hb dX4_init_4 rfl (lv_at hl 0 rfl) ?_
  refine lv_bipush (v := (32 : Int32)) hx hb dX4_init_5 (by decide) ?_
  refine pa_newI (n := (32 : Int32)) (N := 32) X hP hD hS (by decide) (by decide) (by decide) (Nat.le_of_ble_eq_true rfl) (Nat.le_of_ble_eq_true rfl) (hts _ fk_X4_init_3) dX4_init_7 (fun a_lc H hP hD hS => ?_)
  have hP : va_P D vwCl [(a_la, .inr (4, [.null, .null])), (a_lc, .inl (cI, 32, .inl (fun _ => 0)))] H := hP
  have hD : va_D A [(a_la, .inr (4, [.null, .null])), (a_lc, .inl (cI, 32, .inl (fun _ => 0)))] := hD
  refine W.widen (k := 1) (n := 32) (Nat.le_refl _) (Nat.le_refl _) ?_
  refine va_putF (D := D) (ci := 4) (v := .ref a_lc) (ty := .array .int) (C := RX4) (T := TX4) (N := 2) hx hb hts il_X4_init_X4 tyX4 tyX4_ok nmX4 hown hK hP hD hS 0 rfl rfl 0 (by decide) (hts _ fk_X4_init_4) (fun _ h9 => h9) rfl hin rfl (tyX4_ok 0 (by decide)) rfl rfl (Nat.le_of_ble_eq_true rfl) dX4_init_9 (fun H locs hP hD hS => ?_)
  have hP : va_P D vwCl [(a_la, .inr (4, [.ref a_lc, .null])), (a_lc, .inl (cI, 32, .inl (fun _ => 0)))] H := hP
  have hD : va_D A [(a_la, .inr (4, [.ref a_lc, .null])), (a_lc, .inl (cI, 32, .inl (fun _ => 0)))] := hD
  refine lv_aload_n hx hb dX4_init_12 rfl (lv_at hl 0 rfl) ?_
  refine lv_bipush (v := (8 : Int32)) hx hb dX4_init_13 (by decide) ?_
  refine pa_newI (n := (8 : Int32)) (N := 8) X hP hD hS (by decide) (by decide) (by decide) (Nat.le_of_ble_eq_true rfl) (Nat.le_of_ble_eq_true rfl) (hts _ fk_X4_init_3) dX4_init_15 (fun a_lr H hP hD hS => ?_)
  have hP : va_P D vwCl [(a_la, .inr (4, [.ref a_lc, .null])), (a_lc, .inl (cI, 32, .inl (fun _ => 0))), (a_lr, .inl (cI, 8, .inl (fun _ => 0)))] H := hP
  have hD : va_D A [(a_la, .inr (4, [.ref a_lc, .null])), (a_lc, .inl (cI, 32, .inl (fun _ => 0))), (a_lr, .inl (cI, 8, .inl (fun _ => 0)))] := hD
  refine W.widen (k := 2) (n := 40) (Nat.le_refl _) (Nat.le_refl _) ?_
  refine va_putF (D := D) (ci := 4) (v := .ref a_lr) (ty := .array .int) (C := RX4) (T := TX4) (N := 2) hx hb hts il_X4_init_X4 tyX4 tyX4_ok nmX4 hown hK hP hD hS 0 rfl rfl 1 (by decide) (hts _ fk_X4_init_5) (fun _ h9 => h9) rfl hin rfl (tyX4_ok 1 (by decide)) rfl rfl (Nat.le_of_ble_eq_true rfl) dX4_init_17 (fun H locs hP hD hS => ?_)
  have hP : va_P D vwCl (wo_X4_init cI cJ a_la a_lc a_lr (fun _ => 0) (fun _ => 0)) H := hP
  have hD : va_D A (wo_X4_init cI cJ a_la a_lc a_lr (fun _ => 0) (fun _ => 0)) := hD
  refine lv_aload_n hx hb dX4_init_20 rfl (lv_at hl 0 rfl) ?_
  refine va_get (D := D) (ci := 4) (v := .ref a_lr) (C := RX4) (T := TX4) (N := 2) hx hb hts il_X4_init_X4 hown hK hP 0 rfl rfl 1 (by decide) (hts _ fk_X4_init_5) (fun _ h9 => h9) rfl dX4_init_21 ?_
  refine lv_bipush (v := (100 : Int32)) hx hb dX4_init_24 (by decide) ?_
  refine pa_kv (wc := [(a_lr, .inl (cI, 8, .inl (fun _ => 0)))]) (wr := [(a_la, .inr (4, [.ref a_lc, .ref a_lr])), (a_lc, .inl (cI, 32, .inl (fun _ => 0)))]) (w1 := [(a_lr, .inl (cI, 8, .inl (pa_fillI (fun _ => 0) 8 (100 : Int32))))]) (w2 := (wo_X4_init cI cJ a_la a_lc a_lr (fun _ => 0) (pa_fillI (fun _ => 0) 8 (100 : Int32)))) X hP hD hS [2] [0, 1] [0, 1, 2] rfl (pa_rS (As := [.ref a_lr, .int (100 : Int32)]) (rest := []) X hP hD hS [2] rfl rfl (c_fillI (by decide) H.size) (va_cwS 2 hts gX4_init_J7_fill_53178 rfl rfl rfl (by decide +kernel) ⟨Nat.le_of_ble_eq_true rfl, Nat.le_of_ble_eq_true rfl⟩) rfl hl.1 rfl (Nat.le_of_ble_eq_true rfl) dX4_init_26 ⟨Nat.le_of_ble_eq_true rfl, Nat.le_of_ble_eq_true rfl⟩) rfl rfl (by decide) rfl rfl (fun H locs hP hD hS => ?_)
  obtain rfl := Option.some.inj hf
  exact pa_en (a_lc, a_lr) X hP hD hS dX4_init_29
set_option maxHeartbeats 4000000 in
set_option maxRecDepth 100000 in
theorem c_X4_init {l : Launch} {D : va_G} {cI cJ : ClassId} {g : pa_GT} {a_la : Nat} {o : (Nat → Int32)} (hf : f_X4_init  = some o) : pa_Mn l yX4_init wsX4_init rm_X4_init D cI cJ g [.ref a_la] [(a_la, .inr (4, [.null, .null]))] (fun (u : Nat × Nat) => wo_X4_init cI cJ a_la u.1 u.2 (fun _ => 0) o) 2 40 := by
  intro sz
  refine pa_metA (cc := cX4_init) (maxL := 1) (ret := none) (lv := [(0, .ref a_la)]) (by decide) rfl (Nat.le_of_ble_eq_true rfl) rfl ?_
  intro p e s m below meth c X hin hsz hP hD ls hl
  subst hsz
  exact w_X4_init_b0 X hin hf hP hD va_S.rf hl
abbrev wo_X5_init (cI cJ : ClassId) (a_lo a_lt a_lw : Nat) (v_lt : Nat → Int64) (v_lw : Nat → Int64) : va_W := [(a_lo, .inr (5, [.ref a_lt, .ref a_lw])), (a_lt, .inl (cJ, 1326, .inr (.inl v_lt))), (a_lw, .inl (cJ, 101, .inr (.inl v_lw)))]
abbrev rm_X5_init : Room := { frames := 1, cells := 2, slots := 1427, locals := 12 }
theorem il_X5_init_X5 : ∀ w ∈ wsX50, w ∈ wsX5_init := by decide +kernel
theorem fk_X5_init_0 : Cond.fieldLink RX5 9 "PostedAsks$Lots" "triangle" "[J" ∈ wsX5_init := by decide +kernel
theorem fk_X5_init_1 : Cond.methodLink RX5 3 objectInit ∈ wsX5_init := by decide +kernel
theorem fk_X5_init_2 : Cond.instanceMethod objectInit ∈ wsX5_init := by decide +kernel
theorem fk_X5_init_3 : Cond.code objectInit ⟨#[0xb1]⟩ 1 none ∈ wsX5_init := by decide +kernel
theorem fk_X5_init_4 : Cond.arrayClass .long ∈ wsX5_init := by decide +kernel
theorem fk_X5_init_5 : Cond.fieldLink RX5 15 "PostedAsks$Lots" "waysByDistance" "[J" ∈ wsX5_init := by decide +kernel
def f_X5_init_L55_body (rec23 : Int32 → (Nat → Int64) → Option ((Nat → Int64))) (x1 : Int32) (x2 : Int32) (rec55 : Int32 → (Nat → Int64) → Option ((Nat → Int64))) (x3 : Int32) (v_lt : Nat → Int64) : Option ((Nat → Int64)) :=
  if x1 ≤ x3 then
    rec23 (x1 + (1 : Int32)) v_lt
  else
    if pa_ib (((x2 - x1) + x3) - (1 : Int32)) 1326 = true then
      if pa_ib ((x2 - x1) + x3) 1326 = true then
        if pa_ib (x2 + x3) 1326 = true then
          rec55 (x3 + (1 : Int32)) (vp_updL v_lt (Int32.toNatClampNeg (x2 + x3)) ((v_lt (Int32.toNatClampNeg (((x2 - x1) + x3) - (1 : Int32)))) + (v_lt (Int32.toNatClampNeg ((x2 - x1) + x3)))))
        else none
      else none
    else none
def f_X5_init_L55 (rec23 : Int32 → (Nat → Int64) → Option ((Nat → Int64))) (x1 : Int32) (x2 : Int32) : Nat → Int32 → (Nat → Int64) → Option ((Nat → Int64))
  | 0 => fun _ _ => none
  | n + 1 => f_X5_init_L55_body rec23 x1 x2 (f_X5_init_L55 rec23 x1 x2 n)
def f_X5_init_L23_body  (rec23 : Int32 → (Nat → Int64) → Option ((Nat → Int64))) (x1 : Int32) (v_lt : Nat → Int64) : Option ((Nat → Int64)) :=
  if (50 : Int32) < x1 then
    some (v_lt)
  else
    if pa_ib ((x1 * (x1 + (1 : Int32))) / (2 : Int32)) 1326 = true then
      if pa_ib (((x1 * (x1 + (1 : Int32))) / (2 : Int32)) + x1) 1326 = true then
        f_X5_init_L55 rec23 x1 ((x1 * (x1 + (1 : Int32))) / (2 : Int32)) pa_fu (1 : Int32) (vp_updL (vp_updL v_lt (Int32.toNatClampNeg ((x1 * (x1 + (1 : Int32))) / (2 : Int32))) (1 : Int64)) (Int32.toNatClampNeg (((x1 * (x1 + (1 : Int32))) / (2 : Int32)) + x1)) (1 : Int64))
      else none
    else none
def f_X5_init_L23  : Nat → Int32 → (Nat → Int64) → Option ((Nat → Int64))
  | 0 => fun _ _ => none
  | n + 1 => f_X5_init_L23_body  (f_X5_init_L23  n)
def f_X5_init  : Option ((Nat → Int64)) :=
  f_X5_init_L23 pa_fu (0 : Int32) (fun _ => 0)
set_option maxHeartbeats 4000000 in
set_option maxRecDepth 100000 in
theorem w_X5_init_L55 {l : Launch} {D : va_G} {cI cJ : ClassId} {g : pa_GT} {a_lo a_lt a_lw : Nat} {A : Nat → Prop} {p : Program} {e : Env} {s : State} {m : MethodId} {args : Array Value} {below : List Frame} {meth : Method} {c : Code} {x1 : Int32} {x2 : Int32}  {o : (Nat → Int64)} (X : pa_X cX5_init 4 none RX5 wsX5_init D cI cJ g A p s m args meth c) {rec23 : Int32 → (Nat → Int64) → Option ((Nat → Int64))} (hrec23 : ∀ (x1 : Int32) (v_lt : Nat → Int64), rec23 x1 v_lt = some o → ∀ (H : Heap) (locs : List Loc) , va_P D vwCl (wo_X5_init cI cJ a_lo a_lt a_lw v_lt (fun _ => 0)) H → va_D A (wo_X5_init cI cJ a_lo a_lt a_lw v_lt (fun _ => 0)) → va_S A s.heap H locs → ∀ (ls : Array Slot), lv_has ls 4 [(0, .ref a_lo), (1, .int x1)] → W p l e (headSpec wsX5_init rm_X5_init).room s m args below meth c H locs 2 1427 (MQ below (va_Qv (fun (_ : Nat × Nat) => True) (pa_QN D A (fun (u : Nat × Nat) => wo_X5_init cI cJ a_lo u.1 u.2 o (fun _ => 0))) A) args s 2 1427 A) (F0 m 23 ls [])) : ∀ (n : Nat) (x3 : Int32) (v_lt : Nat → Int64), f_X5_init_L55 rec23 x1 x2 n x3 v_lt = some o → ∀ (H : Heap) (locs : List Loc) , va_P D vwCl (wo_X5_init cI cJ a_lo a_lt a_lw v_lt (fun _ => 0)) H → va_D A (wo_X5_init cI cJ a_lo a_lt a_lw v_lt (fun _ => 0)) → va_S A s.heap H locs → ∀ (ls : Array Slot), lv_has ls 4 [(0, .ref a_lo), (1, .int x1), (2, .int x2), (3, .int x3)] → W p l e (headSpec wsX5_init rm_X5_init).room s m args below meth c H locs 2 1427 (MQ below (va_Qv (fun (_ : Nat × Nat) => True) (pa_QN D A (fun (u : Nat × Nat) => wo_X5_init cI cJ a_lo u.1 u.2 o (fun _ => 0))) A) args s 2 1427 A) (F0 m 55 ls []) := by
  obtain ⟨hx, hb, hr, hml, hown, hts, hK, hA, hG, hlk⟩ := id X
  intro n
  induction n with
  | zero =>
    intro x3 v_lt hf
    have hf : (none : Option ((Nat → Int64))) = some o := hf
    cases hf
  | succ n hrec55 =>
    intro x3 v_lt hf H locs  hP hD hS ls hl
    have hf : f_X5_init_L55_body rec23 x1 x2 (f_X5_init_L55 rec23 x1 x2 n) x3 v_lt = some o := hf
    delta f_X5_init_L55_body at hf
    generalize hgr : f_X5_init_L55 rec23 x1 x2 n = rec55 at hf hrec55
    refine lv_iload_n hx hb dX5_init_55 rfl (lv_at hl 3 rfl) ?_
    refine lv_iload_n hx hb dX5_init_56 rfl (lv_at hl 1 rfl) ?_
    refine lv_icmp_ge (tgt := 97) hx hb dX5_init_57 (by decide) (fun c_1 => ?_) (fun c_1 => ?_)
    · have hf := (if_pos c_1).symm.trans hf
      refine lv_iinc (v := (x1 + (1 : Int32))) (lv' := [(1, .int (x1 + (1 : Int32))), (0, .ref a_lo), (2, .int x2), (3, .int x3)]) hx hb dX5_init_97 hl (k := 1) rfl rfl (by decide) rfl (fun ls hl => ?_)
      refine lv_goto (tgt := 23) hx hb dX5_init_100 (by decide) ?_
      exact hrec23 _ _ hf _ _  hP hD hS _ (lv_sub hl [1, 0] rfl)
    · have hf := (if_neg c_1).symm.trans hf
      refine lv_aload_n hx hb dX5_init_60 rfl (lv_at hl 0 rfl) ?_
      refine va_get (D := D) (ci := 5) (v := .ref a_lt) (C := RX5) (T := TX5) (N := 2) hx hb hts il_X5_init_X5 hown hK hP 0 rfl rfl 0 (by decide) (hts _ fk_X5_init_0) (fun _ h9 => h9) rfl dX5_init_61 ?_
      refine lv_iload_n hx hb dX5_init_64 rfl (lv_at hl 2 rfl) ?_
      refine lv_iload_n hx hb dX5_init_65 rfl (lv_at hl 3 rfl) ?_
      refine lv_iadd hx hb dX5_init_66 ?_
      refine lv_aload_n hx hb dX5_init_67 rfl (lv_at hl 0 rfl) ?_
      refine va_get (D := D) (ci := 5) (v := .ref a_lt) (C := RX5) (T := TX5) (N := 2) hx hb hts il_X5_init_X5 hown hK hP 0 rfl rfl 0 (by decide) (hts _ fk_X5_init_0) (fun _ h9 => h9) rfl dX5_init_68 ?_
      refine lv_iload_n hx hb dX5_init_71 rfl (lv_at hl 2 rfl) ?_
      refine lv_iload_n hx hb dX5_init_72 rfl (lv_at hl 1 rfl) ?_
      refine lv_isub hx hb dX5_init_73 ?_
      refine lv_iload_n hx hb dX5_init_74 rfl (lv_at hl 3 rfl) ?_
      refine lv_iadd hx hb dX5_init_75 ?_
      refine lv_iconst (v := (1 : Int32)) hx hb dX5_init_76 (by decide) ?_
      refine lv_isub hx hb dX5_init_77 ?_
      obtain ⟨hi_2, hf⟩ := pa_gd hf
      refine va_lald hx hb hK hP 1 1 rfl rfl hi_2 dX5_init_78 ?_
      refine lv_aload_n hx hb dX5_init_79 rfl (lv_at hl 0 rfl) ?_
      refine va_get (D := D) (ci := 5) (v := .ref a_lt) (C := RX5) (T := TX5) (N := 2) hx hb hts il_X5_init_X5 hown hK hP 0 rfl rfl 0 (by decide) (hts _ fk_X5_init_0) (fun _ h9 => h9) rfl dX5_init_80 ?_
      refine lv_iload_n hx hb dX5_init_83 rfl (lv_at hl 2 rfl) ?_
      refine lv_iload_n hx hb dX5_init_84 rfl (lv_at hl 1 rfl) ?_
      refine lv_isub hx hb dX5_init_85 ?_
      refine lv_iload_n hx hb dX5_init_86 rfl (lv_at hl 3 rfl) ?_
      refine lv_iadd hx hb dX5_init_87 ?_
      obtain ⟨hi_3, hf⟩ := pa_gd hf
      refine va_lald hx hb hK hP 1 1 rfl rfl hi_3 dX5_init_88 ?_
      refine lv_ladd hx hb dX5_init_89 ?_
      obtain ⟨hi_4, hf⟩ := pa_gd hf
      refine va_last hx hb hK hP hD hS 1 1 rfl rfl hi_4 dX5_init_90 (fun H locs hP hD hS => ?_)
      have hP : va_P D vwCl (wo_X5_init cI cJ a_lo a_lt a_lw (vp_updL v_lt (Int32.toNatClampNeg (x2 + x3)) ((v_lt (Int32.toNatClampNeg (((x2 - x1) + x3) - (1 : Int32)))) + (v_lt (Int32.toNatClampNeg ((x2 - x1) + x3))))) (fun _ => 0)) H := hP
      have hD : va_D A (wo_X5_init cI cJ a_lo a_lt a_lw (vp_updL v_lt (Int32.toNatClampNeg (x2 + x3)) ((v_lt (Int32.toNatClampNeg (((x2 - x1) + x3) - (1 : Int32)))) + (v_lt (Int32.toNatClampNeg ((x2 - x1) + x3))))) (fun _ => 0)) := hD
      refine lv_iinc (v := (x3 + (1 : Int32))) (lv' := [(3, .int (x3 + (1 : Int32))), (0, .ref a_lo), (1, .int x1), (2, .int x2)]) hx hb dX5_init_91 hl (k := 3) rfl rfl (by decide) rfl (fun ls hl => ?_)
      refine lv_goto (tgt := 55) hx hb dX5_init_94 (by decide) ?_
      exact hrec55 _ _ hf _ _  hP hD hS _ (lv_sub hl [1, 2, 3, 0] rfl)
set_option maxHeartbeats 4000000 in
set_option maxRecDepth 100000 in
theorem w_X5_init_L23 {l : Launch} {D : va_G} {cI cJ : ClassId} {g : pa_GT} {a_lo a_lt a_lw : Nat} {A : Nat → Prop} {p : Program} {e : Env} {s : State} {m : MethodId} {args : Array Value} {below : List Frame} {meth : Method} {c : Code}   {o : (Nat → Int64)} (X : pa_X cX5_init 4 none RX5 wsX5_init D cI cJ g A p s m args meth c)  : ∀ (n : Nat) (x1 : Int32) (v_lt : Nat → Int64), f_X5_init_L23  n x1 v_lt = some o → ∀ (H : Heap) (locs : List Loc) , va_P D vwCl (wo_X5_init cI cJ a_lo a_lt a_lw v_lt (fun _ => 0)) H → va_D A (wo_X5_init cI cJ a_lo a_lt a_lw v_lt (fun _ => 0)) → va_S A s.heap H locs → ∀ (ls : Array Slot), lv_has ls 4 [(0, .ref a_lo), (1, .int x1)] → W p l e (headSpec wsX5_init rm_X5_init).room s m args below meth c H locs 2 1427 (MQ below (va_Qv (fun (_ : Nat × Nat) => True) (pa_QN D A (fun (u : Nat × Nat) => wo_X5_init cI cJ a_lo u.1 u.2 o (fun _ => 0))) A) args s 2 1427 A) (F0 m 23 ls []) := by
  obtain ⟨hx, hb, hr, hml, hown, hts, hK, hA, hG, hlk⟩ := id X
  intro n
  induction n with
  | zero =>
    intro x1 v_lt hf
    have hf : (none : Option ((Nat → Int64))) = some o := hf
    cases hf
  | succ n hrec23 =>
    intro x1 v_lt hf H locs  hP hD hS ls hl
    have hf : f_X5_init_L23_body  (f_X5_init_L23  n) x1 v_lt = some o := hf
    delta f_X5_init_L23_body at hf
    generalize hgr : f_X5_init_L23  n = rec23 at hf hrec23
    refine lv_iload_n hx hb dX5_init_23 rfl (lv_at hl 1 rfl) ?_
    refine lv_bipush (v := (50 : Int32)) hx hb dX5_init_24 (by decide) ?_
    refine lv_icmp_gt (tgt := 103) hx hb dX5_init_26 (by decide) (fun c_5 => ?_) (fun c_5 => ?_)
    · have hf := (if_pos c_5).symm.trans hf
      obtain rfl := Option.some.inj hf
      exact pa_en (a_lt, a_lw) X hP hD hS dX5_init_103
    · have hf := (if_neg c_5).symm.trans hf
      refine lv_iload_n hx hb dX5_init_29 rfl (lv_at hl 1 rfl) ?_
      refine lv_iload_n hx hb dX5_init_30 rfl (lv_at hl 1 rfl) ?_
      refine lv_iconst (v := (1 : Int32)) hx hb dX5_init_31 (by decide) ?_
      refine lv_iadd hx hb dX5_init_32 ?_
      refine lv_imul hx hb dX5_init_33 ?_
      refine lv_iconst (v := (2 : Int32)) hx hb dX5_init_34 (by decide) ?_
      refine lv_idiv hx hb dX5_init_35 (by decide) ?_
      refine lv_istore_n (lv' := [(2, .int ((x1 * (x1 + (1 : Int32))) / (2 : Int32))), (0, .ref a_lo), (1, .int x1)]) hx hb dX5_init_36 rfl hl (by decide) rfl (fun ls hl => ?_)
      refine lv_aload_n hx hb dX5_init_37 rfl (lv_at hl 1 rfl) ?_
      refine va_get (D := D) (ci := 5) (v := .ref a_lt) (C := RX5) (T := TX5) (N := 2) hx hb hts il_X5_init_X5 hown hK hP 0 rfl rfl 0 (by decide) (hts _ fk_X5_init_0) (fun _ h9 => h9) rfl dX5_init_38 ?_
      refine lv_iload_n hx hb dX5_init_41 rfl (lv_at hl 0 rfl) ?_
      refine lv_lconst (v := (1 : Int64)) hx hb dX5_init_42 (by decide) ?_
      obtain ⟨hi_6, hf⟩ := pa_gd hf
      refine va_last hx hb hK hP hD hS 1 1 rfl rfl hi_6 dX5_init_43 (fun H locs hP hD hS => ?_)
      have hP : va_P D vwCl (wo_X5_init cI cJ a_lo a_lt a_lw (vp_updL v_lt (Int32.toNatClampNeg ((x1 * (x1 + (1 : Int32))) / (2 : Int32))) (1 : Int64)) (fun _ => 0)) H := hP
      have hD : va_D A (wo_X5_init cI cJ a_lo a_lt a_lw (vp_updL v_lt (Int32.toNatClampNeg ((x1 * (x1 + (1 : Int32))) / (2 : Int32))) (1 : Int64)) (fun _ => 0)) := hD
      refine lv_aload_n hx hb dX5_init_44 rfl (lv_at hl 1 rfl) ?_
      refine va_get (D := D) (ci := 5) (v := .ref a_lt) (C := RX5) (T := TX5) (N := 2) hx hb hts il_X5_init_X5 hown hK hP 0 rfl rfl 0 (by decide) (hts _ fk_X5_init_0) (fun _ h9 => h9) rfl dX5_init_45 ?_
      refine lv_iload_n hx hb dX5_init_48 rfl (lv_at hl 0 rfl) ?_
      refine lv_iload_n hx hb dX5_init_49 rfl (lv_at hl 2 rfl) ?_
      refine lv_iadd hx hb dX5_init_50 ?_
      refine lv_lconst (v := (1 : Int64)) hx hb dX5_init_51 (by decide) ?_
      obtain ⟨hi_7, hf⟩ := pa_gd hf
      refine va_last hx hb hK hP hD hS 1 1 rfl rfl hi_7 dX5_init_52 (fun H locs hP hD hS => ?_)
      have hP : va_P D vwCl (wo_X5_init cI cJ a_lo a_lt a_lw (vp_updL (vp_updL v_lt (Int32.toNatClampNeg ((x1 * (x1 + (1 : Int32))) / (2 : Int32))) (1 : Int64)) (Int32.toNatClampNeg (((x1 * (x1 + (1 : Int32))) / (2 : Int32)) + x1)) (1 : Int64)) (fun _ => 0)) H := hP
      have hD : va_D A (wo_X5_init cI cJ a_lo a_lt a_lw (vp_updL (vp_updL v_lt (Int32.toNatClampNeg ((x1 * (x1 + (1 : Int32))) / (2 : Int32))) (1 : Int64)) (Int32.toNatClampNeg (((x1 * (x1 + (1 : Int32))) / (2 : Int32)) + x1)) (1 : Int64)) (fun _ => 0)) := hD
      refine lv_iconst (v := (1 : Int32)) hx hb dX5_init_53 (by decide) ?_
      refine lv_istore_n (lv' := [(3, .int (1 : Int32)), (2, .int ((x1 * (x1 + (1 : Int32))) / (2 : Int32))), (0, .ref a_lo), (1, .int x1)]) hx hb dX5_init_54 rfl hl (by decide) rfl (fun ls hl => ?_)
      exact w_X5_init_L55 X hrec23 _ _ _ hf _ _  hP hD hS _ (lv_sub hl [2, 3, 1, 0] rfl)
set_option maxHeartbeats 4000000 in
set_option maxRecDepth 100000 in
theorem w_X5_init_b0 {l : Launch} {D : va_G} {cI cJ : ClassId} {g : pa_GT} {a_lo : Nat} {A : Nat → Prop} {p : Program} {e : Env} {s : State} {m : MethodId} {args : Array Value} {below : List Frame} {meth : Method} {c : Code}  {o : (Nat → Int64)} (X : pa_X cX5_init 4 none RX5 wsX5_init D cI cJ g A p s m args meth c) (hin : meth.name = "<init>") (hf : f_X5_init  = some o) {H : Heap} {locs : List Loc} (hP : va_P D vwCl [(a_lo, .inr (5, [.null, .null]))] H) (hD : va_D A [(a_lo, .inr (5, [.null, .null]))]) (hS : va_S A s.heap H locs) {ls : Array Slot} (hl : lv_has ls 4 [(0, .ref a_lo)]) : W p l e (headSpec wsX5_init rm_X5_init).room s m args below meth c H locs 0 0 (MQ below (va_Qv (fun (_ : Nat × Nat) => True) (pa_QN D A (fun (u : Nat × Nat) => wo_X5_init cI cJ a_lo u.1 u.2 o (fun _ => 0))) A) args s 2 1427 A) (F0 m 0 ls []) := by
  obtain ⟨hx, hb, hr, hml, hown, hts, hK, hA, hG, hlk⟩ := id X
  delta f_X5_init at hf
  refine lv_aload_n hx hb dX5_init_0 rfl (lv_at hl 0 rfl) ?_
  refine W.objInit hx hb hown (hts _ fk_X5_init_1) (hts _ fk_X5_init_2) (hts _ fk_X5_init_3) rfl (by rw [hml]; exact hl.1) rfl dX5_init_1 (Nat.le_of_ble_eq_true rfl) (Nat.le_of_ble_eq_true rfl) ?_
  refine W.eq (g2 := F0 m 4 ls []) rfl ?_
  refine lv_aload_n hx hb dX5_init_4 rfl (lv_at hl 0 rfl) ?_
  refine lv_sipush (v := (1326 : Int32)) hx hb dX5_init_5 (by decide) ?_
  refine pa_newJ (n := (1326 : Int32)) (N := 1326) X hP hD hS (by decide) (by decide) (by decide) (Nat.le_of_ble_eq_true rfl) (Nat.le_of_ble_eq_true rfl) (hts _ fk_X5_init_4) dX5_init_8 (fun a_lt H hP hD hS => ?_)
  have hP : va_P D vwCl [(a_lo, .inr (5, [.null, .null])), (a_lt, .inl (cJ, 1326, .inr (.inl (fun _ => 0))))] H := hP
  have hD : va_D A [(a_lo, .inr (5, [.null, .null])), (a_lt, .inl (cJ, 1326, .inr (.inl (fun _ => 0))))] := hD
  refine W.widen (k := 1) (n := 1326) (Nat.le_refl _) (Nat.le_refl _) ?_
  refine va_putF (D := D) (ci := 5) (v := .ref a_lt) (ty := .array .long) (C := RX5) (T := TX5) (N := 2) hx hb hts il_X5_init_X5 tyX5 tyX5_ok nmX5 hown hK hP hD hS 0 rfl rfl 0 (by decide) (hts _ fk_X5_init_0) (fun _ h9 => h9) rfl hin rfl (tyX5_ok 0 (by decide)) rfl rfl (Nat.le_of_ble_eq_true rfl) dX5_init_10 (fun H locs hP hD hS => ?_)
  have hP : va_P D vwCl [(a_lo, .inr (5, [.ref a_lt, .null])), (a_lt, .inl (cJ, 1326, .inr (.inl (fun _ => 0))))] H := hP
  have hD : va_D A [(a_lo, .inr (5, [.ref a_lt, .null])), (a_lt, .inl (cJ, 1326, .inr (.inl (fun _ => 0))))] := hD
  refine lv_aload_n hx hb dX5_init_13 rfl (lv_at hl 0 rfl) ?_
  refine lv_bipush (v := (101 : Int32)) hx hb dX5_init_14 (by decide) ?_
  refine pa_newJ (n := (101 : Int32)) (N := 101) X hP hD hS (by decide) (by decide) (by decide) (Nat.le_of_ble_eq_true rfl) (Nat.le_of_ble_eq_true rfl) (hts _ fk_X5_init_4) dX5_init_16 (fun a_lw H hP hD hS => ?_)
  have hP : va_P D vwCl [(a_lo, .inr (5, [.ref a_lt, .null])), (a_lt, .inl (cJ, 1326, .inr (.inl (fun _ => 0)))), (a_lw, .inl (cJ, 101, .inr (.inl (fun _ => 0))))] H := hP
  have hD : va_D A [(a_lo, .inr (5, [.ref a_lt, .null])), (a_lt, .inl (cJ, 1326, .inr (.inl (fun _ => 0)))), (a_lw, .inl (cJ, 101, .inr (.inl (fun _ => 0))))] := hD
  refine W.widen (k := 2) (n := 1427) (Nat.le_refl _) (Nat.le_refl _) ?_
  refine va_putF (D := D) (ci := 5) (v := .ref a_lw) (ty := .array .long) (C := RX5) (T := TX5) (N := 2) hx hb hts il_X5_init_X5 tyX5 tyX5_ok nmX5 hown hK hP hD hS 0 rfl rfl 1 (by decide) (hts _ fk_X5_init_5) (fun _ h9 => h9) rfl hin rfl (tyX5_ok 1 (by decide)) rfl rfl (Nat.le_of_ble_eq_true rfl) dX5_init_18 (fun H locs hP hD hS => ?_)
  have hP : va_P D vwCl (wo_X5_init cI cJ a_lo a_lt a_lw (fun _ => 0) (fun _ => 0)) H := hP
  have hD : va_D A (wo_X5_init cI cJ a_lo a_lt a_lw (fun _ => 0) (fun _ => 0)) := hD
  refine lv_iconst (v := (0 : Int32)) hx hb dX5_init_21 (by decide) ?_
  refine lv_istore_n (lv' := [(1, .int (0 : Int32)), (0, .ref a_lo)]) hx hb dX5_init_22 rfl hl (by decide) rfl (fun ls hl => ?_)
  exact w_X5_init_L23 X  _ _ _ hf _ _  hP hD hS _ (lv_sub hl [1, 0] rfl)
set_option maxHeartbeats 4000000 in
set_option maxRecDepth 100000 in
theorem c_X5_init {l : Launch} {D : va_G} {cI cJ : ClassId} {g : pa_GT} {a_lo : Nat} {o : (Nat → Int64)} (hf : f_X5_init  = some o) : pa_Mn l yX5_init wsX5_init rm_X5_init D cI cJ g [.ref a_lo] [(a_lo, .inr (5, [.null, .null]))] (fun (u : Nat × Nat) => wo_X5_init cI cJ a_lo u.1 u.2 o (fun _ => 0)) 2 1427 := by
  intro sz
  refine pa_metA (cc := cX5_init) (maxL := 4) (ret := none) (lv := [(0, .ref a_lo)]) (by decide) rfl (Nat.le_of_ble_eq_true rfl) rfl ?_
  intro p e s m below meth c X hin hsz hP hD ls hl
  subst hsz
  exact w_X5_init_b0 X hin hf hP hD va_S.rf hl
abbrev wo_X6_init (cI cJ : ClassId) (a_te a_tb : Nat) (v_te_length : Int32) (v_te_token : Nat) (v_te_place : Int32) (v_te_end : Int32) (v_te_value : Int32) (v_tb : Nat → Int32) : va_W := [(a_te, .inr (6, [.ref a_tb, .int v_te_length, .ref v_te_token, .int v_te_place, .int v_te_end, .int v_te_value])), (a_tb, .inl (cI, 300, .inl v_tb))]
abbrev rm_X6_init : Room := { frames := 1, cells := 1, slots := 300, locals := 12 }
theorem il_X6_init_X6 : ∀ w ∈ wsX60, w ∈ wsX6_init := by decide +kernel
theorem fk_X6_init_0 : Cond.methodLink RX6 3 objectInit ∈ wsX6_init := by decide +kernel
theorem fk_X6_init_1 : Cond.instanceMethod objectInit ∈ wsX6_init := by decide +kernel
theorem fk_X6_init_2 : Cond.code objectInit ⟨#[0xb1]⟩ 1 none ∈ wsX6_init := by decide +kernel
theorem fk_X6_init_3 : Cond.arrayClass .int ∈ wsX6_init := by decide +kernel
theorem fk_X6_init_4 : Cond.fieldLink RX6 9 "PostedAsks$Text" "bytes" "[I" ∈ wsX6_init := by decide +kernel
theorem fk_X6_init_5 : Cond.fieldLink RX6 15 "PostedAsks$Text" "length" "I" ∈ wsX6_init := by decide +kernel
theorem fk_X6_init_6 : Cond.fieldLink RX6 19 "PostedAsks$Token" "END" "LPostedAsks$Token;" ∈ wsX6_init := by decide +kernel
theorem fk_X6_init_7 : Cond.fieldLink RX6 25 "PostedAsks$Text" "token" "LPostedAsks$Token;" ∈ wsX6_init := by decide +kernel
theorem fk_X6_init_8 : Cond.fieldLink RX6 28 "PostedAsks$Text" "place" "I" ∈ wsX6_init := by decide +kernel
theorem fk_X6_init_9 : Cond.fieldLink RX6 31 "PostedAsks$Text" "end" "I" ∈ wsX6_init := by decide +kernel
theorem fk_X6_init_10 : Cond.fieldLink RX6 34 "PostedAsks$Text" "value" "I" ∈ wsX6_init := by decide +kernel
def f_X6_init (g : pa_GT)  : Option (Int32 × Nat × Int32 × Int32 × Int32) :=
  some ((0 : Int32), (g.1 5), (0 : Int32), (0 : Int32), (0 : Int32))
set_option maxHeartbeats 4000000 in
set_option maxRecDepth 100000 in
theorem w_X6_init_b0 {l : Launch} {D : va_G} {cI cJ : ClassId} {g : pa_GT} {a_te : Nat} {A : Nat → Prop} {p : Program} {e : Env} {s : State} {m : MethodId} {args : Array Value} {below : List Frame} {meth : Method} {c : Code}  {o : Int32 × Nat × Int32 × Int32 × Int32} (X : pa_X cX6_init 1 none RX6 wsX6_init D cI cJ g A p s m args meth c) (hin : meth.name = "<init>") (hf : f_X6_init g = some o) {H : Heap} {locs : List Loc} (hP : va_P D vwCl [(a_te, .inr (6, [.null, .int (0 : Int32), .null, .int (0 : Int32), .int (0 : Int32), .int (0 : Int32)]))] H) (hD : va_D A [(a_te, .inr (6, [.null, .int (0 : Int32), .null, .int (0 : Int32), .int (0 : Int32), .int (0 : Int32)]))]) (hS : va_S A s.heap H locs) {ls : Array Slot} (hl : lv_has ls 1 [(0, .ref a_te)]) : W p l e (headSpec wsX6_init rm_X6_init).room s m args below meth c H locs 0 0 (MQ below (va_Qv (fun (_ : Nat) => True) (pa_QN D A (fun (u : Nat) => wo_X6_init cI cJ a_te u o.1 o.2.1 o.2.2.1 o.2.2.2.1 o.2.2.2.2 (fun _ => 0))) A) args s 1 300 A) (F0 m 0 ls []) := by
  obtain ⟨hx, hb, hr, hml, hown, hts, hK, hA, hG, hlk⟩ := id X
  delta f_X6_init at hf
  refine lv_aload_n hx hb dX6_init_0 rfl (lv_at hl 0 rfl) ?_
  refine W.objInit hx hb hown (hts _ fk_X6_init_0) (hts _ fk_X6_init_1) (hts _ fk_X6_init_2) rfl (by rw [hml]; exact hl.1) rfl dX6_init_1 (Nat.le_of_ble_eq_true rfl) (Nat.le_of_ble_eq_true rfl) ?_
  refine W.eq (g2 := F0 m 4 ls []) rfl ?_
  refine lv_aload_n hx hb dX6_init_4 rfl (lv_at hl 0 rfl) ?_
  refine lv_sipush (v := (300 : Int32)) hx hb dX6_init_5 (by decide) ?_
  refine pa_newI (n := (300 : Int32)) (N := 300) X hP hD hS (by decide) (by decide) (by decide) (Nat.le_of_ble_eq_true rfl) (Nat.le_of_ble_eq_true rfl) (hts _ fk_X6_init_3) dX6_init_8 (fun a_tb H hP hD hS => ?_)
  have hP : va_P D vwCl [(a_te, .inr (6, [.null, .int (0 : Int32), .null, .int (0 : Int32), .int (0 : Int32), .int (0 : Int32)])), (a_tb, .inl (cI, 300, .inl (fun _ => 0)))] H := hP
  have hD : va_D A [(a_te, .inr (6, [.null, .int (0 : Int32), .null, .int (0 : Int32), .int (0 : Int32), .int (0 : Int32)])), (a_tb, .inl (cI, 300, .inl (fun _ => 0)))] := hD
  refine W.widen (k := 1) (n := 300) (Nat.le_refl _) (Nat.le_refl _) ?_
  refine va_putF (D := D) (ci := 6) (v := .ref a_tb) (ty := .array .int) (C := RX6) (T := TX6) (N := 6) hx hb hts il_X6_init_X6 tyX6 tyX6_ok nmX6 hown hK hP hD hS 0 rfl rfl 0 (by decide) (hts _ fk_X6_init_4) (fun _ h9 => h9) rfl hin rfl (tyX6_ok 0 (by decide)) rfl rfl (Nat.le_of_ble_eq_true rfl) dX6_init_10 (fun H locs hP hD hS => ?_)
  have hP : va_P D vwCl [(a_te, .inr (6, [.ref a_tb, .int (0 : Int32), .null, .int (0 : Int32), .int (0 : Int32), .int (0 : Int32)])), (a_tb, .inl (cI, 300, .inl (fun _ => 0)))] H := hP
  have hD : va_D A [(a_te, .inr (6, [.ref a_tb, .int (0 : Int32), .null, .int (0 : Int32), .int (0 : Int32), .int (0 : Int32)])), (a_tb, .inl (cI, 300, .inl (fun _ => 0)))] := hD
  refine lv_aload_n hx hb dX6_init_13 rfl (lv_at hl 0 rfl) ?_
  refine lv_iconst (v := (0 : Int32)) hx hb dX6_init_14 (by decide) ?_
  refine va_put (D := D) (ci := 6) (v := .int (0 : Int32)) (ty := .int) (C := RX6) (T := TX6) (N := 6) hx hb hts il_X6_init_X6 tyX6 tyX6_ok nmX6 hown hK hP hD hS 0 rfl rfl 1 (by decide) (hts _ fk_X6_init_5) (fun _ h9 => h9) rfl (tyX6_ok 1 (by decide)) rfl rfl (Nat.le_of_ble_eq_true rfl) dX6_init_15 (fun H locs hP hD hS => ?_)
  have hP : va_P D vwCl [(a_te, .inr (6, [.ref a_tb, .int (0 : Int32), .null, .int (0 : Int32), .int (0 : Int32), .int (0 : Int32)])), (a_tb, .inl (cI, 300, .inl (fun _ => 0)))] H := hP
  have hD : va_D A [(a_te, .inr (6, [.ref a_tb, .int (0 : Int32), .null, .int (0 : Int32), .int (0 : Int32), .int (0 : Int32)])), (a_tb, .inl (cI, 300, .inl (fun _ => 0)))] := hD
  refine lv_aload_n hx hb dX6_init_18 rfl (lv_at hl 0 rfl) ?_
  refine va_gets (C := "PostedAsks$Token") hx hb (hG.2.1.1 5 (by decide)).1 hS hown (hts _ fk_X6_init_6) (fun _ h9 => h9) dX6_init_19 ?_
  refine va_put (D := D) (ci := 6) (v := .ref (g.1 5)) (ty := .object "PostedAsks$Token") (C := RX6) (T := TX6) (N := 6) hx hb hts il_X6_init_X6 tyX6 tyX6_ok nmX6 hown hK hP hD hS 0 rfl rfl 2 (by decide) (hts _ fk_X6_init_7) (fun _ h9 => h9) rfl (tyX6_ok 2 (by decide)) rfl rfl (Nat.le_of_ble_eq_true rfl) dX6_init_22 (fun H locs hP hD hS => ?_)
  have hP : va_P D vwCl (wo_X6_init cI cJ a_te a_tb (0 : Int32) (g.1 5) (0 : Int32) (0 : Int32) (0 : Int32) (fun _ => 0)) H := hP
  have hD : va_D A (wo_X6_init cI cJ a_te a_tb (0 : Int32) (g.1 5) (0 : Int32) (0 : Int32) (0 : Int32) (fun _ => 0)) := hD
  refine lv_aload_n hx hb dX6_init_25 rfl (lv_at hl 0 rfl) ?_
  refine lv_iconst (v := (0 : Int32)) hx hb dX6_init_26 (by decide) ?_
  refine va_put (D := D) (ci := 6) (v := .int (0 : Int32)) (ty := .int) (C := RX6) (T := TX6) (N := 6) hx hb hts il_X6_init_X6 tyX6 tyX6_ok nmX6 hown hK hP hD hS 0 rfl rfl 3 (by decide) (hts _ fk_X6_init_8) (fun _ h9 => h9) rfl (tyX6_ok 3 (by decide)) rfl rfl (Nat.le_of_ble_eq_true rfl) dX6_init_27 (fun H locs hP hD hS => ?_)
  have hP : va_P D vwCl (wo_X6_init cI cJ a_te a_tb (0 : Int32) (g.1 5) (0 : Int32) (0 : Int32) (0 : Int32) (fun _ => 0)) H := hP
  have hD : va_D A (wo_X6_init cI cJ a_te a_tb (0 : Int32) (g.1 5) (0 : Int32) (0 : Int32) (0 : Int32) (fun _ => 0)) := hD
  refine lv_aload_n hx hb dX6_init_30 rfl (lv_at hl 0 rfl) ?_
  refine lv_iconst (v := (0 : Int32)) hx hb dX6_init_31 (by decide) ?_
  refine va_put (D := D) (ci := 6) (v := .int (0 : Int32)) (ty := .int) (C := RX6) (T := TX6) (N := 6) hx hb hts il_X6_init_X6 tyX6 tyX6_ok nmX6 hown hK hP hD hS 0 rfl rfl 4 (by decide) (hts _ fk_X6_init_9) (fun _ h9 => h9) rfl (tyX6_ok 4 (by decide)) rfl rfl (Nat.le_of_ble_eq_true rfl) dX6_init_32 (fun H locs hP hD hS => ?_)
  have hP : va_P D vwCl (wo_X6_init cI cJ a_te a_tb (0 : Int32) (g.1 5) (0 : Int32) (0 : Int32) (0 : Int32) (fun _ => 0)) H := hP
  have hD : va_D A (wo_X6_init cI cJ a_te a_tb (0 : Int32) (g.1 5) (0 : Int32) (0 : Int32) (0 : Int32) (fun _ => 0)) := hD
  refine lv_aload_n hx hb dX6_init_35 rfl (lv_at hl 0 rfl) ?_
  refine lv_iconst (v := (0 : Int32)) hx hb dX6_init_36 (by decide) ?_
  refine va_put (D := D) (ci := 6) (v := .int (0 : Int32)) (ty := .int) (C := RX6) (T := TX6) (N := 6) hx hb hts il_X6_init_X6 tyX6 tyX6_ok nmX6 hown hK hP hD hS 0 rfl rfl 5 (by decide) (hts _ fk_X6_init_10) (fun _ h9 => h9) rfl (tyX6_ok 5 (by decide)) rfl rfl (Nat.le_of_ble_eq_true rfl) dX6_init_37 (fun H locs hP hD hS => ?_)
  have hP : va_P D vwCl (wo_X6_init cI cJ a_te a_tb (0 : Int32) (g.1 5) (0 : Int32) (0 : Int32) (0 : Int32) (fun _ => 0)) H := hP
  have hD : va_D A (wo_X6_init cI cJ a_te a_tb (0 : Int32) (g.1 5) (0 : Int32) (0 : Int32) (0 : Int32) (fun _ => 0)) := hD
  obtain rfl := Option.some.inj hf
  exact pa_en (a_tb) X hP hD hS dX6_init_40
set_option maxHeartbeats 4000000 in
set_option maxRecDepth 100000 in
theorem c_X6_init {l : Launch} {D : va_G} {cI cJ : ClassId} {g : pa_GT} {a_te : Nat} {o : Int32 × Nat × Int32 × Int32 × Int32} (hf : f_X6_init g = some o) : pa_Mn l yX6_init wsX6_init rm_X6_init D cI cJ g [.ref a_te] [(a_te, .inr (6, [.null, .int (0 : Int32), .null, .int (0 : Int32), .int (0 : Int32), .int (0 : Int32)]))] (fun (u : Nat) => wo_X6_init cI cJ a_te u o.1 o.2.1 o.2.2.1 o.2.2.2.1 o.2.2.2.2 (fun _ => 0)) 1 300 := by
  intro sz
  refine pa_metA (cc := cX6_init) (maxL := 1) (ret := none) (lv := [(0, .ref a_te)]) (by decide) rfl (Nat.le_of_ble_eq_true rfl) rfl ?_
  intro p e s m below meth c X hin hsz hP hD ls hl
  subst hsz
  exact w_X6_init_b0 X hin hf hP hD va_S.rf hl
abbrev wo_X8_init (cI cJ : ClassId) (a_we a_wh : Nat) (v_we_many : Int32) (v_wh : Nat → Int32) : va_W := [(a_we, .inr (7, [.ref a_wh, .int v_we_many])), (a_wh, .inl (cI, 60, .inl v_wh))]
abbrev rm_X8_init : Room := { frames := 1, cells := 1, slots := 60, locals := 12 }
theorem il_X8_init_X8 : ∀ w ∈ wsX80, w ∈ wsX8_init := by decide +kernel
theorem fk_X8_init_0 : Cond.methodLink RX8 3 objectInit ∈ wsX8_init := by decide +kernel
theorem fk_X8_init_1 : Cond.instanceMethod objectInit ∈ wsX8_init := by decide +kernel
theorem fk_X8_init_2 : Cond.code objectInit ⟨#[0xb1]⟩ 1 none ∈ wsX8_init := by decide +kernel
theorem fk_X8_init_3 : Cond.arrayClass .int ∈ wsX8_init := by decide +kernel
theorem fk_X8_init_4 : Cond.fieldLink RX8 9 "PostedAsks$Weeks" "shares" "[I" ∈ wsX8_init := by decide +kernel
theorem fk_X8_init_5 : Cond.fieldLink RX8 15 "PostedAsks$Weeks" "many" "I" ∈ wsX8_init := by decide +kernel
def f_X8_init  : Option (Int32) :=
  some ((0 : Int32))
set_option maxHeartbeats 4000000 in
set_option maxRecDepth 100000 in
theorem w_X8_init_b0 {l : Launch} {D : va_G} {cI cJ : ClassId} {g : pa_GT} {a_we : Nat} {A : Nat → Prop} {p : Program} {e : Env} {s : State} {m : MethodId} {args : Array Value} {below : List Frame} {meth : Method} {c : Code}  {o : Int32} (X : pa_X cX8_init 1 none RX8 wsX8_init D cI cJ g A p s m args meth c) (hin : meth.name = "<init>") (hf : f_X8_init  = some o) {H : Heap} {locs : List Loc} (hP : va_P D vwCl [(a_we, .inr (7, [.null, .int (0 : Int32)]))] H) (hD : va_D A [(a_we, .inr (7, [.null, .int (0 : Int32)]))]) (hS : va_S A s.heap H locs) {ls : Array Slot} (hl : lv_has ls 1 [(0, .ref a_we)]) : W p l e (headSpec wsX8_init rm_X8_init).room s m args below meth c H locs 0 0 (MQ below (va_Qv (fun (_ : Nat) => True) (pa_QN D A (fun (u : Nat) => wo_X8_init cI cJ a_we u o (fun _ => 0))) A) args s 1 60 A) (F0 m 0 ls []) := by
  obtain ⟨hx, hb, hr, hml, hown, hts, hK, hA, hG, hlk⟩ := id X
  delta f_X8_init at hf
  refine lv_aload_n hx hb dX8_init_0 rfl (lv_at hl 0 rfl) ?_
  refine W.objInit hx hb hown (hts _ fk_X8_init_0) (hts _ fk_X8_init_1) (hts _ fk_X8_init_2) rfl (by rw [hml]; exact hl.1) rfl dX8_init_1 (Nat.le_of_ble_eq_true rfl) (Nat.le_of_ble_eq_true rfl) ?_
  refine W.eq (g2 := F0 m 4 ls []) rfl ?_
  refine lv_aload_n hx hb dX8_init_4 rfl (lv_at hl 0 rfl) ?_
  refine lv_bipush (v := (60 : Int32)) hx hb dX8_init_5 (by decide) ?_
  refine pa_newI (n := (60 : Int32)) (N := 60) X hP hD hS (by decide) (by decide) (by decide) (Nat.le_of_ble_eq_true rfl) (Nat.le_of_ble_eq_true rfl) (hts _ fk_X8_init_3) dX8_init_7 (fun a_wh H hP hD hS => ?_)
  have hP : va_P D vwCl [(a_we, .inr (7, [.null, .int (0 : Int32)])), (a_wh, .inl (cI, 60, .inl (fun _ => 0)))] H := hP
  have hD : va_D A [(a_we, .inr (7, [.null, .int (0 : Int32)])), (a_wh, .inl (cI, 60, .inl (fun _ => 0)))] := hD
  refine W.widen (k := 1) (n := 60) (Nat.le_refl _) (Nat.le_refl _) ?_
  refine va_putF (D := D) (ci := 7) (v := .ref a_wh) (ty := .array .int) (C := RX8) (T := TX8) (N := 2) hx hb hts il_X8_init_X8 tyX8 tyX8_ok nmX8 hown hK hP hD hS 0 rfl rfl 0 (by decide) (hts _ fk_X8_init_4) (fun _ h9 => h9) rfl hin rfl (tyX8_ok 0 (by decide)) rfl rfl (Nat.le_of_ble_eq_true rfl) dX8_init_9 (fun H locs hP hD hS => ?_)
  have hP : va_P D vwCl (wo_X8_init cI cJ a_we a_wh (0 : Int32) (fun _ => 0)) H := hP
  have hD : va_D A (wo_X8_init cI cJ a_we a_wh (0 : Int32) (fun _ => 0)) := hD
  refine lv_aload_n hx hb dX8_init_12 rfl (lv_at hl 0 rfl) ?_
  refine lv_iconst (v := (0 : Int32)) hx hb dX8_init_13 (by decide) ?_
  refine va_put (D := D) (ci := 7) (v := .int (0 : Int32)) (ty := .int) (C := RX8) (T := TX8) (N := 2) hx hb hts il_X8_init_X8 tyX8 tyX8_ok nmX8 hown hK hP hD hS 0 rfl rfl 1 (by decide) (hts _ fk_X8_init_5) (fun _ h9 => h9) rfl (tyX8_ok 1 (by decide)) rfl rfl (Nat.le_of_ble_eq_true rfl) dX8_init_14 (fun H locs hP hD hS => ?_)
  have hP : va_P D vwCl (wo_X8_init cI cJ a_we a_wh (0 : Int32) (fun _ => 0)) H := hP
  have hD : va_D A (wo_X8_init cI cJ a_we a_wh (0 : Int32) (fun _ => 0)) := hD
  obtain rfl := Option.some.inj hf
  exact pa_en (a_wh) X hP hD hS dX8_init_17
set_option maxHeartbeats 4000000 in
set_option maxRecDepth 100000 in
theorem c_X8_init {l : Launch} {D : va_G} {cI cJ : ClassId} {g : pa_GT} {a_we : Nat} {o : Int32} (hf : f_X8_init  = some o) : pa_Mn l yX8_init wsX8_init rm_X8_init D cI cJ g [.ref a_we] [(a_we, .inr (7, [.null, .int (0 : Int32)]))] (fun (u : Nat) => wo_X8_init cI cJ a_we u o (fun _ => 0)) 1 60 := by
  intro sz
  refine pa_metA (cc := cX8_init) (maxL := 1) (ret := none) (lv := [(0, .ref a_we)]) (by decide) rfl (Nat.le_of_ble_eq_true rfl) rfl ?_
  intro p e s m below meth c X hin hsz hP hD ls hl
  subst hsz
  exact w_X8_init_b0 X hin hf hP hD va_S.rf hl
abbrev wo_X9_init (cI cJ : ClassId) (a_x a_la a_lc a_lr a_te a_tb a_ha a_hp a_hl a_hq a_hm a_as a_am a_lo a_lt a_lw a_we a_wh a_ho a_hn a_fr a_pr : Nat) (v_x_trace : Int64) (v_lc : Nat → Int32) (v_lr : Nat → Int32) (v_te_length : Int32) (v_te_token : Nat) (v_te_place : Int32) (v_te_end : Int32) (v_te_value : Int32) (v_tb : Nat → Int32) (v_ha_finds : Int32) (v_hp : Nat → Int32) (v_hl : Nat → Int32) (v_hq : Nat → Int32) (v_hm : Nat → Int32) (v_as_wantedPoor : Int32) (v_as_wantedRich : Int32) (v_am : Nat → Int32) (v_lt : Nat → Int64) (v_lw : Nat → Int64) (v_we_many : Int32) (v_wh : Nat → Int32) (v_ho_rows : Int32) (v_hn : Nat → Int32) (v_fr_upper : Int64) (v_fr_lower : Int64) (v_pr : Nat → Int32) : va_W := [(a_x, .inr (8, [.ref a_la, .ref a_te, .ref a_ha, .ref a_as, .ref a_lo, .ref a_we, .ref a_ho, .ref a_fr, .ref a_pr, .long v_x_trace])), (a_la, .inr (4, [.ref a_lc, .ref a_lr])), (a_lc, .inl (cI, 32, .inl v_lc)), (a_lr, .inl (cI, 8, .inl v_lr)), (a_te, .inr (6, [.ref a_tb, .int v_te_length, .ref v_te_token, .int v_te_place, .int v_te_end, .int v_te_value])), (a_tb, .inl (cI, 300, .inl v_tb)), (a_ha, .inr (2, [.ref a_hp, .ref a_hl, .ref a_hq, .ref a_hm, .int v_ha_finds])), (a_hp, .inl (cI, 12, .inl v_hp)), (a_hl, .inl (cI, 12, .inl v_hl)), (a_hq, .inl (cI, 12, .inl v_hq)), (a_hm, .inl (cI, 12, .inl v_hm)), (a_as, .inr (0, [.ref a_am, .int v_as_wantedPoor, .int v_as_wantedRich])), (a_am, .inl (cI, 8, .inl v_am)), (a_lo, .inr (5, [.ref a_lt, .ref a_lw])), (a_lt, .inl (cJ, 1326, .inr (.inl v_lt))), (a_lw, .inl (cJ, 101, .inr (.inl v_lw))), (a_we, .inr (7, [.ref a_wh, .int v_we_many])), (a_wh, .inl (cI, 60, .inl v_wh)), (a_ho, .inr (3, [.ref a_hn, .int v_ho_rows])), (a_hn, .inl (cI, 24, .inl v_hn)), (a_fr, .inr (1, [.long v_fr_upper, .long v_fr_lower])), (a_pr, .inl (cI, 3, .inl v_pr))]
abbrev rm_X9_init : Room := { frames := 2, cells := 21, slots := 1934, locals := 43 }
theorem il_X9_init_X4 : ∀ w ∈ wsX40, w ∈ wsX9_init := by decide +kernel
theorem il_X9_init_X9 : ∀ w ∈ wsX90, w ∈ wsX9_init := by decide +kernel
theorem il_X9_init_X6 : ∀ w ∈ wsX60, w ∈ wsX9_init := by decide +kernel
theorem il_X9_init_X2 : ∀ w ∈ wsX20, w ∈ wsX9_init := by decide +kernel
theorem il_X9_init_X0 : ∀ w ∈ wsX00, w ∈ wsX9_init := by decide +kernel
theorem il_X9_init_X5 : ∀ w ∈ wsX50, w ∈ wsX9_init := by decide +kernel
theorem il_X9_init_X8 : ∀ w ∈ wsX80, w ∈ wsX9_init := by decide +kernel
theorem il_X9_init_X3 : ∀ w ∈ wsX30, w ∈ wsX9_init := by decide +kernel
theorem il_X9_init_X1 : ∀ w ∈ wsX10, w ∈ wsX9_init := by decide +kernel
theorem fk_X9_init_0 : Cond.methodLink RX9 1 objectInit ∈ wsX9_init := by decide +kernel
theorem fk_X9_init_1 : Cond.instanceMethod objectInit ∈ wsX9_init := by decide +kernel
theorem fk_X9_init_2 : Cond.code objectInit ⟨#[0xb1]⟩ 1 none ∈ wsX9_init := by decide +kernel
theorem fk_X9_init_3 : Cond.classLink RX9 7 RX4 ∈ wsX9_init := by decide +kernel
theorem fk_X9_init_4 : Cond.instantiable RX4 2 ∈ wsX9_init := by decide +kernel
theorem fk_X9_init_5 : Cond.initialized RX4 ∈ wsX9_init := by decide +kernel
theorem fk_X9_init_6 : Cond.methodLink RX9 9 yX4_init ∈ wsX9_init := by decide +kernel
theorem fk_X9_init_7 : Cond.instanceMethod yX4_init ∈ wsX9_init := by decide +kernel
theorem fk_X9_init_8 : Cond.fieldLink RX9 10 "PostedAsks" "lands" "LPostedAsks$Lands;" ∈ wsX9_init := by decide +kernel
theorem fk_X9_init_9 : Cond.classLink RX9 16 RX6 ∈ wsX9_init := by decide +kernel
theorem fk_X9_init_10 : Cond.instantiable RX6 6 ∈ wsX9_init := by decide +kernel
theorem fk_X9_init_11 : Cond.initialized RX6 ∈ wsX9_init := by decide +kernel
theorem fk_X9_init_12 : Cond.instanceMethod yX6_init ∈ wsX9_init := by decide +kernel
theorem fk_X9_init_13 : Cond.fieldLink RX9 19 "PostedAsks" "text" "LPostedAsks$Text;" ∈ wsX9_init := by decide +kernel
theorem fk_X9_init_14 : Cond.classLink RX9 23 RX2 ∈ wsX9_init := by decide +kernel
theorem fk_X9_init_15 : Cond.instantiable RX2 5 ∈ wsX9_init := by decide +kernel
theorem fk_X9_init_16 : Cond.initialized RX2 ∈ wsX9_init := by decide +kernel
theorem fk_X9_init_17 : Cond.instanceMethod yX2_init ∈ wsX9_init := by decide +kernel
theorem fk_X9_init_18 : Cond.fieldLink RX9 26 "PostedAsks" "habit" "LPostedAsks$Habit;" ∈ wsX9_init := by decide +kernel
theorem fk_X9_init_19 : Cond.classLink RX9 30 RX0 ∈ wsX9_init := by decide +kernel
theorem fk_X9_init_20 : Cond.instantiable RX0 3 ∈ wsX9_init := by decide +kernel
theorem fk_X9_init_21 : Cond.initialized RX0 ∈ wsX9_init := by decide +kernel
theorem fk_X9_init_22 : Cond.instanceMethod yX0_init ∈ wsX9_init := by decide +kernel
theorem fk_X9_init_23 : Cond.fieldLink RX9 33 "PostedAsks" "asker" "LPostedAsks$Asker;" ∈ wsX9_init := by decide +kernel
theorem fk_X9_init_24 : Cond.classLink RX9 37 RX5 ∈ wsX9_init := by decide +kernel
theorem fk_X9_init_25 : Cond.instantiable RX5 2 ∈ wsX9_init := by decide +kernel
theorem fk_X9_init_26 : Cond.initialized RX5 ∈ wsX9_init := by decide +kernel
theorem fk_X9_init_27 : Cond.methodLink RX9 39 yX5_init ∈ wsX9_init := by decide +kernel
theorem fk_X9_init_28 : Cond.instanceMethod yX5_init ∈ wsX9_init := by decide +kernel
theorem fk_X9_init_29 : Cond.fieldLink RX9 40 "PostedAsks" "lots" "LPostedAsks$Lots;" ∈ wsX9_init := by decide +kernel
theorem fk_X9_init_30 : Cond.classLink RX9 44 RX8 ∈ wsX9_init := by decide +kernel
theorem fk_X9_init_31 : Cond.instantiable RX8 2 ∈ wsX9_init := by decide +kernel
theorem fk_X9_init_32 : Cond.initialized RX8 ∈ wsX9_init := by decide +kernel
theorem fk_X9_init_33 : Cond.instanceMethod yX8_init ∈ wsX9_init := by decide +kernel
theorem fk_X9_init_34 : Cond.fieldLink RX9 47 "PostedAsks" "weeks" "LPostedAsks$Weeks;" ∈ wsX9_init := by decide +kernel
theorem fk_X9_init_35 : Cond.classLink RX9 51 RX3 ∈ wsX9_init := by decide +kernel
theorem fk_X9_init_36 : Cond.instantiable RX3 2 ∈ wsX9_init := by decide +kernel
theorem fk_X9_init_37 : Cond.initialized RX3 ∈ wsX9_init := by decide +kernel
theorem fk_X9_init_38 : Cond.instanceMethod yX3_init ∈ wsX9_init := by decide +kernel
theorem fk_X9_init_39 : Cond.fieldLink RX9 54 "PostedAsks" "house" "LPostedAsks$House;" ∈ wsX9_init := by decide +kernel
theorem fk_X9_init_40 : Cond.classLink RX9 58 RX1 ∈ wsX9_init := by decide +kernel
theorem fk_X9_init_41 : Cond.instantiable RX1 2 ∈ wsX9_init := by decide +kernel
theorem fk_X9_init_42 : Cond.initialized RX1 ∈ wsX9_init := by decide +kernel
theorem fk_X9_init_43 : Cond.instanceMethod yX1_init ∈ wsX9_init := by decide +kernel
theorem fk_X9_init_44 : Cond.fieldLink RX9 61 "PostedAsks" "fraction" "LPostedAsks$Fraction;" ∈ wsX9_init := by decide +kernel
theorem fk_X9_init_45 : Cond.arrayClass .int ∈ wsX9_init := by decide +kernel
theorem fk_X9_init_46 : Cond.fieldLink RX9 65 "PostedAsks" "prices" "[I" ∈ wsX9_init := by decide +kernel
theorem fk_X9_init_47 : Cond.fieldLink RX9 69 "PostedAsks" "trace" "J" ∈ wsX9_init := by decide +kernel
def f_X9_init (g : pa_GT)  : Option (Int64 × (Nat → Int32) × Int32 × Nat × Int32 × Int32 × Int32 × Int32 × Int32 × Int32 × (Nat → Int64) × Int32 × Int32 × Int64 × Int64 × (Nat → Int32)) :=
  (f_X4_init).bind fun u_1 =>
  (f_X6_init g).bind fun u_4 =>
  (f_X2_init).bind fun u_7 =>
  (f_X0_init).bind fun u_10 =>
  (f_X5_init).bind fun u_13 =>
  (f_X8_init).bind fun u_16 =>
  (f_X3_init).bind fun u_19 =>
  (f_X1_init).bind fun u_22 =>
  if pa_ib (0 : Int32) 3 = true then
    if pa_ib (1 : Int32) 3 = true then
      if pa_ib (2 : Int32) 3 = true then
        some ((0 : Int64), u_1, u_4.1, u_4.2.1, u_4.2.2.1, u_4.2.2.2.1, u_4.2.2.2.2, u_7, u_10.1, u_10.2, u_13, u_16, u_19, u_22.1, u_22.2, (upd (upd (upd (fun _ => 0) (Int32.toNatClampNeg (0 : Int32)) (1 : Int32)) (Int32.toNatClampNeg (1 : Int32)) (5 : Int32)) (Int32.toNatClampNeg (2 : Int32)) (90 : Int32)))
      else none
    else none
  else none
set_option maxHeartbeats 4000000 in
set_option maxRecDepth 100000 in
theorem w_X9_init_b0 {l : Launch} {D : va_G} {cI cJ : ClassId} {g : pa_GT} {a_x : Nat} {A : Nat → Prop} {p : Program} {e : Env} {s : State} {m : MethodId} {args : Array Value} {below : List Frame} {meth : Method} {c : Code}  {o : Int64 × (Nat → Int32) × Int32 × Nat × Int32 × Int32 × Int32 × Int32 × Int32 × Int32 × (Nat → Int64) × Int32 × Int32 × Int64 × Int64 × (Nat → Int32)} (X : pa_X cX9_init 1 none RX9 wsX9_init D cI cJ g A p s m args meth c) (hin : meth.name = "<init>") (hf : f_X9_init g = some o) {H : Heap} {locs : List Loc} (hP : va_P D vwCl [(a_x, .inr (8, [.null, .null, .null, .null, .null, .null, .null, .null, .null, .long (0 : Int64)]))] H) (hD : va_D A [(a_x, .inr (8, [.null, .null, .null, .null, .null, .null, .null, .null, .null, .long (0 : Int64)]))]) (hS : va_S A s.heap H locs) {ls : Array Slot} (hl : lv_has ls 1 [(0, .ref a_x)]) : W p l e (headSpec wsX9_init rm_X9_init).room s m args below meth c H locs 0 0 (MQ below (va_Qv (fun (_ : Nat × Nat × Nat × Nat × Nat × Nat × Nat × Nat × Nat × Nat × Nat × Nat × Nat × Nat × Nat × Nat × Nat × Nat × Nat × Nat × Nat) => True) (pa_QN D A (fun (u : Nat × Nat × Nat × Nat × Nat × Nat × Nat × Nat × Nat × Nat × Nat × Nat × Nat × Nat × Nat × Nat × Nat × Nat × Nat × Nat × Nat) => wo_X9_init cI cJ a_x u.1 u.2.1 u.2.2.1 u.2.2.2.1 u.2.2.2.2.1 u.2.2.2.2.2.1 u.2.2.2.2.2.2.1 u.2.2.2.2.2.2.2.1 u.2.2.2.2.2.2.2.2.1 u.2.2.2.2.2.2.2.2.2.1 u.2.2.2.2.2.2.2.2.2.2.1 u.2.2.2.2.2.2.2.2.2.2.2.1 u.2.2.2.2.2.2.2.2.2.2.2.2.1 u.2.2.2.2.2.2.2.2.2.2.2.2.2.1 u.2.2.2.2.2.2.2.2.2.2.2.2.2.2.1 u.2.2.2.2.2.2.2.2.2.2.2.2.2.2.2.1 u.2.2.2.2.2.2.2.2.2.2.2.2.2.2.2.2.1 u.2.2.2.2.2.2.2.2.2.2.2.2.2.2.2.2.2.1 u.2.2.2.2.2.2.2.2.2.2.2.2.2.2.2.2.2.2.1 u.2.2.2.2.2.2.2.2.2.2.2.2.2.2.2.2.2.2.2.1 u.2.2.2.2.2.2.2.2.2.2.2.2.2.2.2.2.2.2.2.2 o.1 (fun _ => 0) o.2.1 o.2.2.1 o.2.2.2.1 o.2.2.2.2.1 o.2.2.2.2.2.1 o.2.2.2.2.2.2.1 (fun _ => 0) o.2.2.2.2.2.2.2.1 (fun _ => 0) (fun _ => 0) (fun _ => 0) (fun _ => 0) o.2.2.2.2.2.2.2.2.1 o.2.2.2.2.2.2.2.2.2.1 (fun _ => 0) o.2.2.2.2.2.2.2.2.2.2.1 (fun _ => 0) o.2.2.2.2.2.2.2.2.2.2.2.1 (fun _ => 0) o.2.2.2.2.2.2.2.2.2.2.2.2.1 (fun _ => 0) o.2.2.2.2.2.2.2.2.2.2.2.2.2.1 o.2.2.2.2.2.2.2.2.2.2.2.2.2.2.1 o.2.2.2.2.2.2.2.2.2.2.2.2.2.2.2)) A) args s 21 1934 A) (F0 m 0 ls []) := by
  obtain ⟨hx, hb, hr, hml, hown, hts, hK, hA, hG, hlk⟩ := id X
  delta f_X9_init at hf
  refine lv_aload_n hx hb dX9_init_0 rfl (lv_at hl 0 rfl) ?_
  refine W.objInit hx hb hown (hts _ fk_X9_init_0) (hts _ fk_X9_init_1) (hts _ fk_X9_init_2) rfl (by rw [hml]; exact hl.1) rfl dX9_init_1 (Nat.le_of_ble_eq_true rfl) (Nat.le_of_ble_eq_true rfl) ?_
  refine W.eq (g2 := F0 m 4 ls []) rfl ?_
  refine lv_aload_n hx hb dX9_init_4 rfl (lv_at hl 0 rfl) ?_
  refine va_new (D := D) (ci := 4) (fs := [.null, .null]) (C := RX4) (T := TX4) (N := 2) hx hb hts il_X9_init_X4 tyX4 tyX4_ok hown (hts _ fk_X9_init_3) (hts _ fk_X9_init_4) (hts _ fk_X9_init_5) hK hP hD hS hA rfl (fun j hj => match j, hj with | 0, _ => rfl | 1, _ => rfl | j + 2, h => absurd h (by omega)) (Nat.le_of_ble_eq_true rfl) (Nat.le_of_ble_eq_true rfl) dX9_init_5 (fun a_la H hP hD hS => ?_)
  have hP : va_P D vwCl [(a_x, .inr (8, [.null, .null, .null, .null, .null, .null, .null, .null, .null, .long (0 : Int64)])), (a_la, .inr (4, [.null, .null]))] H := hP
  have hD : va_D A [(a_x, .inr (8, [.null, .null, .null, .null, .null, .null, .null, .null, .null, .long (0 : Int64)])), (a_la, .inr (4, [.null, .null]))] := hD
  refine W.widen (k := 1) (n := 2) (Nat.le_refl _) (Nat.le_refl _) ?_
  refine lv_dup hx hb dX9_init_8 rfl ?_
  obtain ⟨u_1, hg_2, hf⟩ := pa_bd hf
  refine pa_kn (wc := [(a_la, .inr (4, [.null, .null]))]) (wr := [(a_x, .inr (8, [.null, .null, .null, .null, .null, .null, .null, .null, .null, .long (0 : Int64)]))]) X hP hD hS [1] [0] rfl (pa_rI (As := []) (rest := [.ref a_la, .ref a_x]) X hP hD hS [1] rfl rfl (c_X4_init hg_2 H.size) (cwI 0 hts gX9_init_X4_init rfl rfl rfl (hts _ fk_X9_init_5) (hts _ fk_X9_init_6) (hts _ fk_X9_init_7) rfl (by decide +kernel) ⟨Nat.le_of_ble_eq_true rfl, Nat.le_of_ble_eq_true rfl⟩) rfl hl.1 rfl (Nat.le_of_ble_eq_true rfl) dX9_init_9 ⟨Nat.le_of_ble_eq_true rfl, Nat.le_of_ble_eq_true rfl⟩) rfl rfl (by decide) (fun w_3 H locs hP hD hS => ?_)
  obtain ⟨a_lc, a_lr⟩ := w_3
  have hP : va_P D vwCl [(a_x, .inr (8, [.null, .null, .null, .null, .null, .null, .null, .null, .null, .long (0 : Int64)])), (a_la, .inr (4, [.ref a_lc, .ref a_lr])), (a_lc, .inl (cI, 32, .inl (fun _ => 0))), (a_lr, .inl (cI, 8, .inl u_1))] H := hP
  have hD : va_D A [(a_x, .inr (8, [.null, .null, .null, .null, .null, .null, .null, .null, .null, .long (0 : Int64)])), (a_la, .inr (4, [.ref a_lc, .ref a_lr])), (a_lc, .inl (cI, 32, .inl (fun _ => 0))), (a_lr, .inl (cI, 8, .inl u_1))] := hD
  refine W.widen (k := 3) (n := 42) (Nat.le_refl _) (Nat.le_refl _) ?_
  refine va_putF (D := D) (ci := 8) (v := .ref a_la) (ty := .object "PostedAsks$Lands") (C := RX9) (T := TX9) (N := 10) hx hb hts il_X9_init_X9 tyX9 tyX9_ok nmX9 hown hK hP hD hS 0 rfl rfl 0 (by decide) (hts _ fk_X9_init_8) (fun _ h9 => h9) rfl hin rfl (tyX9_ok 0 (by decide)) rfl rfl (Nat.le_of_ble_eq_true rfl) dX9_init_12 (fun H locs hP hD hS => ?_)
  have hP : va_P D vwCl [(a_x, .inr (8, [.ref a_la, .null, .null, .null, .null, .null, .null, .null, .null, .long (0 : Int64)])), (a_la, .inr (4, [.ref a_lc, .ref a_lr])), (a_lc, .inl (cI, 32, .inl (fun _ => 0))), (a_lr, .inl (cI, 8, .inl u_1))] H := hP
  have hD : va_D A [(a_x, .inr (8, [.ref a_la, .null, .null, .null, .null, .null, .null, .null, .null, .long (0 : Int64)])), (a_la, .inr (4, [.ref a_lc, .ref a_lr])), (a_lc, .inl (cI, 32, .inl (fun _ => 0))), (a_lr, .inl (cI, 8, .inl u_1))] := hD
  refine lv_aload_n hx hb dX9_init_15 rfl (lv_at hl 0 rfl) ?_
  refine va_new (D := D) (ci := 6) (fs := [.null, .int 0, .null, .int 0, .int 0, .int 0]) (C := RX6) (T := TX6) (N := 6) hx hb hts il_X9_init_X6 tyX6 tyX6_ok hown (hts _ fk_X9_init_9) (hts _ fk_X9_init_10) (hts _ fk_X9_init_11) hK hP hD hS hA rfl (fun j hj => match j, hj with | 0, _ => rfl | 1, _ => rfl | 2, _ => rfl | 3, _ => rfl | 4, _ => rfl | 5, _ => rfl | j + 6, h => absurd h (by omega)) (Nat.le_of_ble_eq_true rfl) (Nat.le_of_ble_eq_true rfl) dX9_init_16 (fun a_te H hP hD hS => ?_)
  have hP : va_P D vwCl [(a_x, .inr (8, [.ref a_la, .null, .null, .null, .null, .null, .null, .null, .null, .long (0 : Int64)])), (a_la, .inr (4, [.ref a_lc, .ref a_lr])), (a_lc, .inl (cI, 32, .inl (fun _ => 0))), (a_lr, .inl (cI, 8, .inl u_1)), (a_te, .inr (6, [.null, .int (0 : Int32), .null, .int (0 : Int32), .int (0 : Int32), .int (0 : Int32)]))] H := hP
  have hD : va_D A [(a_x, .inr (8, [.ref a_la, .null, .null, .null, .null, .null, .null, .null, .null, .long (0 : Int64)])), (a_la, .inr (4, [.ref a_lc, .ref a_lr])), (a_lc, .inl (cI, 32, .inl (fun _ => 0))), (a_lr, .inl (cI, 8, .inl u_1)), (a_te, .inr (6, [.null, .int (0 : Int32), .null, .int (0 : Int32), .int (0 : Int32), .int (0 : Int32)]))] := hD
  refine W.widen (k := 4) (n := 48) (Nat.le_refl _) (Nat.le_refl _) ?_
  refine lv_dup hx hb dX9_init_19 rfl ?_
  obtain ⟨u_4, hg_5, hf⟩ := pa_bd hf
  refine pa_kn (wc := [(a_te, .inr (6, [.null, .int (0 : Int32), .null, .int (0 : Int32), .int (0 : Int32), .int (0 : Int32)]))]) (wr := [(a_x, .inr (8, [.ref a_la, .null, .null, .null, .null, .null, .null, .null, .null, .long (0 : Int64)])), (a_la, .inr (4, [.ref a_lc, .ref a_lr])), (a_lc, .inl (cI, 32, .inl (fun _ => 0))), (a_lr, .inl (cI, 8, .inl u_1))]) X hP hD hS [4] [0, 1, 2, 3] rfl (pa_rIN (As := []) (rest := [.ref a_te, .ref a_x]) X hP hD hS [4] rfl rfl (c_X6_init hg_5 H.size) (va_cnB 0 hts gX9_init_X6_init_n18 rfl rfl rfl (hG.1 _ (List.mem_of_getElem? (i := 0) rfl)) (hts _ fk_X9_init_11) (by decide +kernel) ⟨Nat.le_of_ble_eq_true rfl, Nat.le_of_ble_eq_true rfl⟩) rfl (hts _ fk_X9_init_12) rfl hl.1 rfl (Nat.le_of_ble_eq_true rfl) dX9_init_20 ⟨Nat.le_of_ble_eq_true rfl, Nat.le_of_ble_eq_true rfl⟩) rfl rfl (by decide) (fun w_6 H locs hP hD hS => ?_)
  obtain ⟨a_tb, rfl⟩ : ∃ z, z = w_6 := ⟨_, rfl⟩
  have hP : va_P D vwCl [(a_x, .inr (8, [.ref a_la, .null, .null, .null, .null, .null, .null, .null, .null, .long (0 : Int64)])), (a_la, .inr (4, [.ref a_lc, .ref a_lr])), (a_lc, .inl (cI, 32, .inl (fun _ => 0))), (a_lr, .inl (cI, 8, .inl u_1)), (a_te, .inr (6, [.ref a_tb, .int u_4.1, .ref u_4.2.1, .int u_4.2.2.1, .int u_4.2.2.2.1, .int u_4.2.2.2.2])), (a_tb, .inl (cI, 300, .inl (fun _ => 0)))] H := hP
  have hD : va_D A [(a_x, .inr (8, [.ref a_la, .null, .null, .null, .null, .null, .null, .null, .null, .long (0 : Int64)])), (a_la, .inr (4, [.ref a_lc, .ref a_lr])), (a_lc, .inl (cI, 32, .inl (fun _ => 0))), (a_lr, .inl (cI, 8, .inl u_1)), (a_te, .inr (6, [.ref a_tb, .int u_4.1, .ref u_4.2.1, .int u_4.2.2.1, .int u_4.2.2.2.1, .int u_4.2.2.2.2])), (a_tb, .inl (cI, 300, .inl (fun _ => 0)))] := hD
  refine W.widen (k := 5) (n := 348) (Nat.le_refl _) (Nat.le_refl _) ?_
  refine va_putF (D := D) (ci := 8) (v := .ref a_te) (ty := .object "PostedAsks$Text") (C := RX9) (T := TX9) (N := 10) hx hb hts il_X9_init_X9 tyX9 tyX9_ok nmX9 hown hK hP hD hS 0 rfl rfl 1 (by decide) (hts _ fk_X9_init_13) (fun _ h9 => h9) rfl hin rfl (tyX9_ok 1 (by decide)) rfl rfl (Nat.le_of_ble_eq_true rfl) dX9_init_23 (fun H locs hP hD hS => ?_)
  have hP : va_P D vwCl [(a_x, .inr (8, [.ref a_la, .ref a_te, .null, .null, .null, .null, .null, .null, .null, .long (0 : Int64)])), (a_la, .inr (4, [.ref a_lc, .ref a_lr])), (a_lc, .inl (cI, 32, .inl (fun _ => 0))), (a_lr, .inl (cI, 8, .inl u_1)), (a_te, .inr (6, [.ref a_tb, .int u_4.1, .ref u_4.2.1, .int u_4.2.2.1, .int u_4.2.2.2.1, .int u_4.2.2.2.2])), (a_tb, .inl (cI, 300, .inl (fun _ => 0)))] H := hP
  have hD : va_D A [(a_x, .inr (8, [.ref a_la, .ref a_te, .null, .null, .null, .null, .null, .null, .null, .long (0 : Int64)])), (a_la, .inr (4, [.ref a_lc, .ref a_lr])), (a_lc, .inl (cI, 32, .inl (fun _ => 0))), (a_lr, .inl (cI, 8, .inl u_1)), (a_te, .inr (6, [.ref a_tb, .int u_4.1, .ref u_4.2.1, .int u_4.2.2.1, .int u_4.2.2.2.1, .int u_4.2.2.2.2])), (a_tb, .inl (cI, 300, .inl (fun _ => 0)))] := hD
  refine lv_aload_n hx hb dX9_init_26 rfl (lv_at hl 0 rfl) ?_
  refine va_new (D := D) (ci := 2) (fs := [.null, .null, .null, .null, .int 0]) (C := RX2) (T := TX2) (N := 5) hx hb hts il_X9_init_X2 tyX2 tyX2_ok hown (hts _ fk_X9_init_14) (hts _ fk_X9_init_15) (hts _ fk_X9_init_16) hK hP hD hS hA rfl (fun j hj => match j, hj with | 0, _ => rfl | 1, _ => rfl | 2, _ => rfl | 3, _ => rfl | 4, _ => rfl | j + 5, h => absurd h (by omega)) (Nat.le_of_ble_eq_true rfl) (Nat.le_of_ble_eq_true rfl) dX9_init_27 (fun a_ha H hP hD hS => ?_)
  have hP : va_P D vwCl [(a_x, .inr (8, [.ref a_la, .ref a_te, .null, .null, .null, .null, .null, .null, .null, .long (0 : Int64)])), (a_la, .inr (4, [.ref a_lc, .ref a_lr])), (a_lc, .inl (cI, 32, .inl (fun _ => 0))), (a_lr, .inl (cI, 8, .inl u_1)), (a_te, .inr (6, [.ref a_tb, .int u_4.1, .ref u_4.2.1, .int u_4.2.2.1, .int u_4.2.2.2.1, .int u_4.2.2.2.2])), (a_tb, .inl (cI, 300, .inl (fun _ => 0))), (a_ha, .inr (2, [.null, .null, .null, .null, .int (0 : Int32)]))] H := hP
  have hD : va_D A [(a_x, .inr (8, [.ref a_la, .ref a_te, .null, .null, .null, .null, .null, .null, .null, .long (0 : Int64)])), (a_la, .inr (4, [.ref a_lc, .ref a_lr])), (a_lc, .inl (cI, 32, .inl (fun _ => 0))), (a_lr, .inl (cI, 8, .inl u_1)), (a_te, .inr (6, [.ref a_tb, .int u_4.1, .ref u_4.2.1, .int u_4.2.2.1, .int u_4.2.2.2.1, .int u_4.2.2.2.2])), (a_tb, .inl (cI, 300, .inl (fun _ => 0))), (a_ha, .inr (2, [.null, .null, .null, .null, .int (0 : Int32)]))] := hD
  refine W.widen (k := 6) (n := 353) (Nat.le_refl _) (Nat.le_refl _) ?_
  refine lv_dup hx hb dX9_init_30 rfl ?_
  obtain ⟨u_7, hg_8, hf⟩ := pa_bd hf
  refine pa_kn (wc := [(a_ha, .inr (2, [.null, .null, .null, .null, .int (0 : Int32)]))]) (wr := [(a_x, .inr (8, [.ref a_la, .ref a_te, .null, .null, .null, .null, .null, .null, .null, .long (0 : Int64)])), (a_la, .inr (4, [.ref a_lc, .ref a_lr])), (a_lc, .inl (cI, 32, .inl (fun _ => 0))), (a_lr, .inl (cI, 8, .inl u_1)), (a_te, .inr (6, [.ref a_tb, .int u_4.1, .ref u_4.2.1, .int u_4.2.2.1, .int u_4.2.2.2.1, .int u_4.2.2.2.2])), (a_tb, .inl (cI, 300, .inl (fun _ => 0)))]) X hP hD hS [6] [0, 1, 2, 3, 4, 5] rfl (pa_rIN (As := []) (rest := [.ref a_ha, .ref a_x]) X hP hD hS [6] rfl rfl (c_X2_init hg_8 H.size) (va_cnB 0 hts gX9_init_X2_init_n25 rfl rfl rfl (hG.1 _ (List.mem_of_getElem? (i := 5) rfl)) (hts _ fk_X9_init_16) (by decide +kernel) ⟨Nat.le_of_ble_eq_true rfl, Nat.le_of_ble_eq_true rfl⟩) rfl (hts _ fk_X9_init_17) rfl hl.1 rfl (Nat.le_of_ble_eq_true rfl) dX9_init_31 ⟨Nat.le_of_ble_eq_true rfl, Nat.le_of_ble_eq_true rfl⟩) rfl rfl (by decide) (fun w_9 H locs hP hD hS => ?_)
  obtain ⟨a_hp, a_hl, a_hq, a_hm⟩ := w_9
  have hP : va_P D vwCl [(a_x, .inr (8, [.ref a_la, .ref a_te, .null, .null, .null, .null, .null, .null, .null, .long (0 : Int64)])), (a_la, .inr (4, [.ref a_lc, .ref a_lr])), (a_lc, .inl (cI, 32, .inl (fun _ => 0))), (a_lr, .inl (cI, 8, .inl u_1)), (a_te, .inr (6, [.ref a_tb, .int u_4.1, .ref u_4.2.1, .int u_4.2.2.1, .int u_4.2.2.2.1, .int u_4.2.2.2.2])), (a_tb, .inl (cI, 300, .inl (fun _ => 0))), (a_ha, .inr (2, [.ref a_hp, .ref a_hl, .ref a_hq, .ref a_hm, .int u_7])), (a_hp, .inl (cI, 12, .inl (fun _ => 0))), (a_hl, .inl (cI, 12, .inl (fun _ => 0))), (a_hq, .inl (cI, 12, .inl (fun _ => 0))), (a_hm, .inl (cI, 12, .inl (fun _ => 0)))] H := hP
  have hD : va_D A [(a_x, .inr (8, [.ref a_la, .ref a_te, .null, .null, .null, .null, .null, .null, .null, .long (0 : Int64)])), (a_la, .inr (4, [.ref a_lc, .ref a_lr])), (a_lc, .inl (cI, 32, .inl (fun _ => 0))), (a_lr, .inl (cI, 8, .inl u_1)), (a_te, .inr (6, [.ref a_tb, .int u_4.1, .ref u_4.2.1, .int u_4.2.2.1, .int u_4.2.2.2.1, .int u_4.2.2.2.2])), (a_tb, .inl (cI, 300, .inl (fun _ => 0))), (a_ha, .inr (2, [.ref a_hp, .ref a_hl, .ref a_hq, .ref a_hm, .int u_7])), (a_hp, .inl (cI, 12, .inl (fun _ => 0))), (a_hl, .inl (cI, 12, .inl (fun _ => 0))), (a_hq, .inl (cI, 12, .inl (fun _ => 0))), (a_hm, .inl (cI, 12, .inl (fun _ => 0)))] := hD
  refine W.widen (k := 10) (n := 401) (Nat.le_refl _) (Nat.le_refl _) ?_
  refine va_putF (D := D) (ci := 8) (v := .ref a_ha) (ty := .object "PostedAsks$Habit") (C := RX9) (T := TX9) (N := 10) hx hb hts il_X9_init_X9 tyX9 tyX9_ok nmX9 hown hK hP hD hS 0 rfl rfl 2 (by decide) (hts _ fk_X9_init_18) (fun _ h9 => h9) rfl hin rfl (tyX9_ok 2 (by decide)) rfl rfl (Nat.le_of_ble_eq_true rfl) dX9_init_34 (fun H locs hP hD hS => ?_)
  have hP : va_P D vwCl [(a_x, .inr (8, [.ref a_la, .ref a_te, .ref a_ha, .null, .null, .null, .null, .null, .null, .long (0 : Int64)])), (a_la, .inr (4, [.ref a_lc, .ref a_lr])), (a_lc, .inl (cI, 32, .inl (fun _ => 0))), (a_lr, .inl (cI, 8, .inl u_1)), (a_te, .inr (6, [.ref a_tb, .int u_4.1, .ref u_4.2.1, .int u_4.2.2.1, .int u_4.2.2.2.1, .int u_4.2.2.2.2])), (a_tb, .inl (cI, 300, .inl (fun _ => 0))), (a_ha, .inr (2, [.ref a_hp, .ref a_hl, .ref a_hq, .ref a_hm, .int u_7])), (a_hp, .inl (cI, 12, .inl (fun _ => 0))), (a_hl, .inl (cI, 12, .inl (fun _ => 0))), (a_hq, .inl (cI, 12, .inl (fun _ => 0))), (a_hm, .inl (cI, 12, .inl (fun _ => 0)))] H := hP
  have hD : va_D A [(a_x, .inr (8, [.ref a_la, .ref a_te, .ref a_ha, .null, .null, .null, .null, .null, .null, .long (0 : Int64)])), (a_la, .inr (4, [.ref a_lc, .ref a_lr])), (a_lc, .inl (cI, 32, .inl (fun _ => 0))), (a_lr, .inl (cI, 8, .inl u_1)), (a_te, .inr (6, [.ref a_tb, .int u_4.1, .ref u_4.2.1, .int u_4.2.2.1, .int u_4.2.2.2.1, .int u_4.2.2.2.2])), (a_tb, .inl (cI, 300, .inl (fun _ => 0))), (a_ha, .inr (2, [.ref a_hp, .ref a_hl, .ref a_hq, .ref a_hm, .int u_7])), (a_hp, .inl (cI, 12, .inl (fun _ => 0))), (a_hl, .inl (cI, 12, .inl (fun _ => 0))), (a_hq, .inl (cI, 12, .inl (fun _ => 0))), (a_hm, .inl (cI, 12, .inl (fun _ => 0)))] := hD
  refine lv_aload_n hx hb dX9_init_37 rfl (lv_at hl 0 rfl) ?_
  refine va_new (D := D) (ci := 0) (fs := [.null, .int 0, .int 0]) (C := RX0) (T := TX0) (N := 3) hx hb hts il_X9_init_X0 tyX0 tyX0_ok hown (hts _ fk_X9_init_19) (hts _ fk_X9_init_20) (hts _ fk_X9_init_21) hK hP hD hS hA rfl (fun j hj => match j, hj with | 0, _ => rfl | 1, _ => rfl | 2, _ => rfl | j + 3, h => absurd h (by omega)) (Nat.le_of_ble_eq_true rfl) (Nat.le_of_ble_eq_true rfl) dX9_init_38 (fun a_as H hP hD hS => ?_)
  have hP : va_P D vwCl [(a_x, .inr (8, [.ref a_la, .ref a_te, .ref a_ha, .null, .null, .null, .null, .null, .null, .long (0 : Int64)])), (a_la, .inr (4, [.ref a_lc, .ref a_lr])), (a_lc, .inl (cI, 32, .inl (fun _ => 0))), (a_lr, .inl (cI, 8, .inl u_1)), (a_te, .inr (6, [.ref a_tb, .int u_4.1, .ref u_4.2.1, .int u_4.2.2.1, .int u_4.2.2.2.1, .int u_4.2.2.2.2])), (a_tb, .inl (cI, 300, .inl (fun _ => 0))), (a_ha, .inr (2, [.ref a_hp, .ref a_hl, .ref a_hq, .ref a_hm, .int u_7])), (a_hp, .inl (cI, 12, .inl (fun _ => 0))), (a_hl, .inl (cI, 12, .inl (fun _ => 0))), (a_hq, .inl (cI, 12, .inl (fun _ => 0))), (a_hm, .inl (cI, 12, .inl (fun _ => 0))), (a_as, .inr (0, [.null, .int (0 : Int32), .int (0 : Int32)]))] H := hP
  have hD : va_D A [(a_x, .inr (8, [.ref a_la, .ref a_te, .ref a_ha, .null, .null, .null, .null, .null, .null, .long (0 : Int64)])), (a_la, .inr (4, [.ref a_lc, .ref a_lr])), (a_lc, .inl (cI, 32, .inl (fun _ => 0))), (a_lr, .inl (cI, 8, .inl u_1)), (a_te, .inr (6, [.ref a_tb, .int u_4.1, .ref u_4.2.1, .int u_4.2.2.1, .int u_4.2.2.2.1, .int u_4.2.2.2.2])), (a_tb, .inl (cI, 300, .inl (fun _ => 0))), (a_ha, .inr (2, [.ref a_hp, .ref a_hl, .ref a_hq, .ref a_hm, .int u_7])), (a_hp, .inl (cI, 12, .inl (fun _ => 0))), (a_hl, .inl (cI, 12, .inl (fun _ => 0))), (a_hq, .inl (cI, 12, .inl (fun _ => 0))), (a_hm, .inl (cI, 12, .inl (fun _ => 0))), (a_as, .inr (0, [.null, .int (0 : Int32), .int (0 : Int32)]))] := hD
  refine W.widen (k := 11) (n := 404) (Nat.le_refl _) (Nat.le_refl _) ?_
  refine lv_dup hx hb dX9_init_41 rfl ?_
  obtain ⟨u_10, hg_11, hf⟩ := pa_bd hf
  refine pa_kn (wc := [(a_as, .inr (0, [.null, .int (0 : Int32), .int (0 : Int32)]))]) (wr := [(a_x, .inr (8, [.ref a_la, .ref a_te, .ref a_ha, .null, .null, .null, .null, .null, .null, .long (0 : Int64)])), (a_la, .inr (4, [.ref a_lc, .ref a_lr])), (a_lc, .inl (cI, 32, .inl (fun _ => 0))), (a_lr, .inl (cI, 8, .inl u_1)), (a_te, .inr (6, [.ref a_tb, .int u_4.1, .ref u_4.2.1, .int u_4.2.2.1, .int u_4.2.2.2.1, .int u_4.2.2.2.2])), (a_tb, .inl (cI, 300, .inl (fun _ => 0))), (a_ha, .inr (2, [.ref a_hp, .ref a_hl, .ref a_hq, .ref a_hm, .int u_7])), (a_hp, .inl (cI, 12, .inl (fun _ => 0))), (a_hl, .inl (cI, 12, .inl (fun _ => 0))), (a_hq, .inl (cI, 12, .inl (fun _ => 0))), (a_hm, .inl (cI, 12, .inl (fun _ => 0)))]) X hP hD hS [11] [0, 1, 2, 3, 4, 5, 6, 7, 8, 9, 10] rfl (pa_rIN (As := []) (rest := [.ref a_as, .ref a_x]) X hP hD hS [11] rfl rfl (c_X0_init hg_11 H.size) (va_cnB 0 hts gX9_init_X0_init_n32 rfl rfl rfl (hG.1 _ (List.mem_of_getElem? (i := 10) rfl)) (hts _ fk_X9_init_21) (by decide +kernel) ⟨Nat.le_of_ble_eq_true rfl, Nat.le_of_ble_eq_true rfl⟩) rfl (hts _ fk_X9_init_22) rfl hl.1 rfl (Nat.le_of_ble_eq_true rfl) dX9_init_42 ⟨Nat.le_of_ble_eq_true rfl, Nat.le_of_ble_eq_true rfl⟩) rfl rfl (by decide) (fun w_12 H locs hP hD hS => ?_)
  obtain ⟨a_am, rfl⟩ : ∃ z, z = w_12 := ⟨_, rfl⟩
  have hP : va_P D vwCl [(a_x, .inr (8, [.ref a_la, .ref a_te, .ref a_ha, .null, .null, .null, .null, .null, .null, .long (0 : Int64)])), (a_la, .inr (4, [.ref a_lc, .ref a_lr])), (a_lc, .inl (cI, 32, .inl (fun _ => 0))), (a_lr, .inl (cI, 8, .inl u_1)), (a_te, .inr (6, [.ref a_tb, .int u_4.1, .ref u_4.2.1, .int u_4.2.2.1, .int u_4.2.2.2.1, .int u_4.2.2.2.2])), (a_tb, .inl (cI, 300, .inl (fun _ => 0))), (a_ha, .inr (2, [.ref a_hp, .ref a_hl, .ref a_hq, .ref a_hm, .int u_7])), (a_hp, .inl (cI, 12, .inl (fun _ => 0))), (a_hl, .inl (cI, 12, .inl (fun _ => 0))), (a_hq, .inl (cI, 12, .inl (fun _ => 0))), (a_hm, .inl (cI, 12, .inl (fun _ => 0))), (a_as, .inr (0, [.ref a_am, .int u_10.1, .int u_10.2])), (a_am, .inl (cI, 8, .inl (fun _ => 0)))] H := hP
  have hD : va_D A [(a_x, .inr (8, [.ref a_la, .ref a_te, .ref a_ha, .null, .null, .null, .null, .null, .null, .long (0 : Int64)])), (a_la, .inr (4, [.ref a_lc, .ref a_lr])), (a_lc, .inl (cI, 32, .inl (fun _ => 0))), (a_lr, .inl (cI, 8, .inl u_1)), (a_te, .inr (6, [.ref a_tb, .int u_4.1, .ref u_4.2.1, .int u_4.2.2.1, .int u_4.2.2.2.1, .int u_4.2.2.2.2])), (a_tb, .inl (cI, 300, .inl (fun _ => 0))), (a_ha, .inr (2, [.ref a_hp, .ref a_hl, .ref a_hq, .ref a_hm, .int u_7])), (a_hp, .inl (cI, 12, .inl (fun _ => 0))), (a_hl, .inl (cI, 12, .inl (fun _ => 0))), (a_hq, .inl (cI, 12, .inl (fun _ => 0))), (a_hm, .inl (cI, 12, .inl (fun _ => 0))), (a_as, .inr (0, [.ref a_am, .int u_10.1, .int u_10.2])), (a_am, .inl (cI, 8, .inl (fun _ => 0)))] := hD
  refine W.widen (k := 12) (n := 412) (Nat.le_refl _) (Nat.le_refl _) ?_
  refine va_putF (D := D) (ci := 8) (v := .ref a_as) (ty := .object "PostedAsks$Asker") (C := RX9) (T := TX9) (N := 10) hx hb hts il_X9_init_X9 tyX9 tyX9_ok nmX9 hown hK hP hD hS 0 rfl rfl 3 (by decide) (hts _ fk_X9_init_23) (fun _ h9 => h9) rfl hin rfl (tyX9_ok 3 (by decide)) rfl rfl (Nat.le_of_ble_eq_true rfl) dX9_init_45 (fun H locs hP hD hS => ?_)
  have hP : va_P D vwCl [(a_x, .inr (8, [.ref a_la, .ref a_te, .ref a_ha, .ref a_as, .null, .null, .null, .null, .null, .long (0 : Int64)])), (a_la, .inr (4, [.ref a_lc, .ref a_lr])), (a_lc, .inl (cI, 32, .inl (fun _ => 0))), (a_lr, .inl (cI, 8, .inl u_1)), (a_te, .inr (6, [.ref a_tb, .int u_4.1, .ref u_4.2.1, .int u_4.2.2.1, .int u_4.2.2.2.1, .int u_4.2.2.2.2])), (a_tb, .inl (cI, 300, .inl (fun _ => 0))), (a_ha, .inr (2, [.ref a_hp, .ref a_hl, .ref a_hq, .ref a_hm, .int u_7])), (a_hp, .inl (cI, 12, .inl (fun _ => 0))), (a_hl, .inl (cI, 12, .inl (fun _ => 0))), (a_hq, .inl (cI, 12, .inl (fun _ => 0))), (a_hm, .inl (cI, 12, .inl (fun _ => 0))), (a_as, .inr (0, [.ref a_am, .int u_10.1, .int u_10.2])), (a_am, .inl (cI, 8, .inl (fun _ => 0)))] H := hP
  have hD : va_D A [(a_x, .inr (8, [.ref a_la, .ref a_te, .ref a_ha, .ref a_as, .null, .null, .null, .null, .null, .long (0 : Int64)])), (a_la, .inr (4, [.ref a_lc, .ref a_lr])), (a_lc, .inl (cI, 32, .inl (fun _ => 0))), (a_lr, .inl (cI, 8, .inl u_1)), (a_te, .inr (6, [.ref a_tb, .int u_4.1, .ref u_4.2.1, .int u_4.2.2.1, .int u_4.2.2.2.1, .int u_4.2.2.2.2])), (a_tb, .inl (cI, 300, .inl (fun _ => 0))), (a_ha, .inr (2, [.ref a_hp, .ref a_hl, .ref a_hq, .ref a_hm, .int u_7])), (a_hp, .inl (cI, 12, .inl (fun _ => 0))), (a_hl, .inl (cI, 12, .inl (fun _ => 0))), (a_hq, .inl (cI, 12, .inl (fun _ => 0))), (a_hm, .inl (cI, 12, .inl (fun _ => 0))), (a_as, .inr (0, [.ref a_am, .int u_10.1, .int u_10.2])), (a_am, .inl (cI, 8, .inl (fun _ => 0)))] := hD
  refine lv_aload_n hx hb dX9_init_48 rfl (lv_at hl 0 rfl) ?_
  refine va_new (D := D) (ci := 5) (fs := [.null, .null]) (C := RX5) (T := TX5) (N := 2) hx hb hts il_X9_init_X5 tyX5 tyX5_ok hown (hts _ fk_X9_init_24) (hts _ fk_X9_init_25) (hts _ fk_X9_init_26) hK hP hD hS hA rfl (fun j hj => match j, hj with | 0, _ => rfl | 1, _ => rfl | j + 2, h => absurd h (by omega)) (Nat.le_of_ble_eq_true rfl) (Nat.le_of_ble_eq_true rfl) dX9_init_49 (fun a_lo H hP hD hS => ?_)
  have hP : va_P D vwCl [(a_x, .inr (8, [.ref a_la, .ref a_te, .ref a_ha, .ref a_as, .null, .null, .null, .null, .null, .long (0 : Int64)])), (a_la, .inr (4, [.ref a_lc, .ref a_lr])), (a_lc, .inl (cI, 32, .inl (fun _ => 0))), (a_lr, .inl (cI, 8, .inl u_1)), (a_te, .inr (6, [.ref a_tb, .int u_4.1, .ref u_4.2.1, .int u_4.2.2.1, .int u_4.2.2.2.1, .int u_4.2.2.2.2])), (a_tb, .inl (cI, 300, .inl (fun _ => 0))), (a_ha, .inr (2, [.ref a_hp, .ref a_hl, .ref a_hq, .ref a_hm, .int u_7])), (a_hp, .inl (cI, 12, .inl (fun _ => 0))), (a_hl, .inl (cI, 12, .inl (fun _ => 0))), (a_hq, .inl (cI, 12, .inl (fun _ => 0))), (a_hm, .inl (cI, 12, .inl (fun _ => 0))), (a_as, .inr (0, [.ref a_am, .int u_10.1, .int u_10.2])), (a_am, .inl (cI, 8, .inl (fun _ => 0))), (a_lo, .inr (5, [.null, .null]))] H := hP
  have hD : va_D A [(a_x, .inr (8, [.ref a_la, .ref a_te, .ref a_ha, .ref a_as, .null, .null, .null, .null, .null, .long (0 : Int64)])), (a_la, .inr (4, [.ref a_lc, .ref a_lr])), (a_lc, .inl (cI, 32, .inl (fun _ => 0))), (a_lr, .inl (cI, 8, .inl u_1)), (a_te, .inr (6, [.ref a_tb, .int u_4.1, .ref u_4.2.1, .int u_4.2.2.1, .int u_4.2.2.2.1, .int u_4.2.2.2.2])), (a_tb, .inl (cI, 300, .inl (fun _ => 0))), (a_ha, .inr (2, [.ref a_hp, .ref a_hl, .ref a_hq, .ref a_hm, .int u_7])), (a_hp, .inl (cI, 12, .inl (fun _ => 0))), (a_hl, .inl (cI, 12, .inl (fun _ => 0))), (a_hq, .inl (cI, 12, .inl (fun _ => 0))), (a_hm, .inl (cI, 12, .inl (fun _ => 0))), (a_as, .inr (0, [.ref a_am, .int u_10.1, .int u_10.2])), (a_am, .inl (cI, 8, .inl (fun _ => 0))), (a_lo, .inr (5, [.null, .null]))] := hD
  refine W.widen (k := 13) (n := 414) (Nat.le_refl _) (Nat.le_refl _) ?_
  refine lv_dup hx hb dX9_init_52 rfl ?_
  obtain ⟨u_13, hg_14, hf⟩ := pa_bd hf
  refine pa_kn (wc := [(a_lo, .inr (5, [.null, .null]))]) (wr := [(a_x, .inr (8, [.ref a_la, .ref a_te, .ref a_ha, .ref a_as, .null, .null, .null, .null, .null, .long (0 : Int64)])), (a_la, .inr (4, [.ref a_lc, .ref a_lr])), (a_lc, .inl (cI, 32, .inl (fun _ => 0))), (a_lr, .inl (cI, 8, .inl u_1)), (a_te, .inr (6, [.ref a_tb, .int u_4.1, .ref u_4.2.1, .int u_4.2.2.1, .int u_4.2.2.2.1, .int u_4.2.2.2.2])), (a_tb, .inl (cI, 300, .inl (fun _ => 0))), (a_ha, .inr (2, [.ref a_hp, .ref a_hl, .ref a_hq, .ref a_hm, .int u_7])), (a_hp, .inl (cI, 12, .inl (fun _ => 0))), (a_hl, .inl (cI, 12, .inl (fun _ => 0))), (a_hq, .inl (cI, 12, .inl (fun _ => 0))), (a_hm, .inl (cI, 12, .inl (fun _ => 0))), (a_as, .inr (0, [.ref a_am, .int u_10.1, .int u_10.2])), (a_am, .inl (cI, 8, .inl (fun _ => 0)))]) X hP hD hS [13] [0, 1, 2, 3, 4, 5, 6, 7, 8, 9, 10, 11, 12] rfl (pa_rI (As := []) (rest := [.ref a_lo, .ref a_x]) X hP hD hS [13] rfl rfl (c_X5_init hg_14 H.size) (cwI 0 hts gX9_init_X5_init rfl rfl rfl (hts _ fk_X9_init_26) (hts _ fk_X9_init_27) (hts _ fk_X9_init_28) rfl (by decide +kernel) ⟨Nat.le_of_ble_eq_true rfl, Nat.le_of_ble_eq_true rfl⟩) rfl hl.1 rfl (Nat.le_of_ble_eq_true rfl) dX9_init_53 ⟨Nat.le_of_ble_eq_true rfl, Nat.le_of_ble_eq_true rfl⟩) rfl rfl (by decide) (fun w_15 H locs hP hD hS => ?_)
  obtain ⟨a_lt, a_lw⟩ := w_15
  have hP : va_P D vwCl [(a_x, .inr (8, [.ref a_la, .ref a_te, .ref a_ha, .ref a_as, .null, .null, .null, .null, .null, .long (0 : Int64)])), (a_la, .inr (4, [.ref a_lc, .ref a_lr])), (a_lc, .inl (cI, 32, .inl (fun _ => 0))), (a_lr, .inl (cI, 8, .inl u_1)), (a_te, .inr (6, [.ref a_tb, .int u_4.1, .ref u_4.2.1, .int u_4.2.2.1, .int u_4.2.2.2.1, .int u_4.2.2.2.2])), (a_tb, .inl (cI, 300, .inl (fun _ => 0))), (a_ha, .inr (2, [.ref a_hp, .ref a_hl, .ref a_hq, .ref a_hm, .int u_7])), (a_hp, .inl (cI, 12, .inl (fun _ => 0))), (a_hl, .inl (cI, 12, .inl (fun _ => 0))), (a_hq, .inl (cI, 12, .inl (fun _ => 0))), (a_hm, .inl (cI, 12, .inl (fun _ => 0))), (a_as, .inr (0, [.ref a_am, .int u_10.1, .int u_10.2])), (a_am, .inl (cI, 8, .inl (fun _ => 0))), (a_lo, .inr (5, [.ref a_lt, .ref a_lw])), (a_lt, .inl (cJ, 1326, .inr (.inl u_13))), (a_lw, .inl (cJ, 101, .inr (.inl (fun _ => 0))))] H := hP
  have hD : va_D A [(a_x, .inr (8, [.ref a_la, .ref a_te, .ref a_ha, .ref a_as, .null, .null, .null, .null, .null, .long (0 : Int64)])), (a_la, .inr (4, [.ref a_lc, .ref a_lr])), (a_lc, .inl (cI, 32, .inl (fun _ => 0))), (a_lr, .inl (cI, 8, .inl u_1)), (a_te, .inr (6, [.ref a_tb, .int u_4.1, .ref u_4.2.1, .int u_4.2.2.1, .int u_4.2.2.2.1, .int u_4.2.2.2.2])), (a_tb, .inl (cI, 300, .inl (fun _ => 0))), (a_ha, .inr (2, [.ref a_hp, .ref a_hl, .ref a_hq, .ref a_hm, .int u_7])), (a_hp, .inl (cI, 12, .inl (fun _ => 0))), (a_hl, .inl (cI, 12, .inl (fun _ => 0))), (a_hq, .inl (cI, 12, .inl (fun _ => 0))), (a_hm, .inl (cI, 12, .inl (fun _ => 0))), (a_as, .inr (0, [.ref a_am, .int u_10.1, .int u_10.2])), (a_am, .inl (cI, 8, .inl (fun _ => 0))), (a_lo, .inr (5, [.ref a_lt, .ref a_lw])), (a_lt, .inl (cJ, 1326, .inr (.inl u_13))), (a_lw, .inl (cJ, 101, .inr (.inl (fun _ => 0))))] := hD
  refine W.widen (k := 15) (n := 1841) (Nat.le_refl _) (Nat.le_refl _) ?_
  refine va_putF (D := D) (ci := 8) (v := .ref a_lo) (ty := .object "PostedAsks$Lots") (C := RX9) (T := TX9) (N := 10) hx hb hts il_X9_init_X9 tyX9 tyX9_ok nmX9 hown hK hP hD hS 0 rfl rfl 4 (by decide) (hts _ fk_X9_init_29) (fun _ h9 => h9) rfl hin rfl (tyX9_ok 4 (by decide)) rfl rfl (Nat.le_of_ble_eq_true rfl) dX9_init_56 (fun H locs hP hD hS => ?_)
  have hP : va_P D vwCl [(a_x, .inr (8, [.ref a_la, .ref a_te, .ref a_ha, .ref a_as, .ref a_lo, .null, .null, .null, .null, .long (0 : Int64)])), (a_la, .inr (4, [.ref a_lc, .ref a_lr])), (a_lc, .inl (cI, 32, .inl (fun _ => 0))), (a_lr, .inl (cI, 8, .inl u_1)), (a_te, .inr (6, [.ref a_tb, .int u_4.1, .ref u_4.2.1, .int u_4.2.2.1, .int u_4.2.2.2.1, .int u_4.2.2.2.2])), (a_tb, .inl (cI, 300, .inl (fun _ => 0))), (a_ha, .inr (2, [.ref a_hp, .ref a_hl, .ref a_hq, .ref a_hm, .int u_7])), (a_hp, .inl (cI, 12, .inl (fun _ => 0))), (a_hl, .inl (cI, 12, .inl (fun _ => 0))), (a_hq, .inl (cI, 12, .inl (fun _ => 0))), (a_hm, .inl (cI, 12, .inl (fun _ => 0))), (a_as, .inr (0, [.ref a_am, .int u_10.1, .int u_10.2])), (a_am, .inl (cI, 8, .inl (fun _ => 0))), (a_lo, .inr (5, [.ref a_lt, .ref a_lw])), (a_lt, .inl (cJ, 1326, .inr (.inl u_13))), (a_lw, .inl (cJ, 101, .inr (.inl (fun _ => 0))))] H := hP
  have hD : va_D A [(a_x, .inr (8, [.ref a_la, .ref a_te, .ref a_ha, .ref a_as, .ref a_lo, .null, .null, .null, .null, .long (0 : Int64)])), (a_la, .inr (4, [.ref a_lc, .ref a_lr])), (a_lc, .inl (cI, 32, .inl (fun _ => 0))), (a_lr, .inl (cI, 8, .inl u_1)), (a_te, .inr (6, [.ref a_tb, .int u_4.1, .ref u_4.2.1, .int u_4.2.2.1, .int u_4.2.2.2.1, .int u_4.2.2.2.2])), (a_tb, .inl (cI, 300, .inl (fun _ => 0))), (a_ha, .inr (2, [.ref a_hp, .ref a_hl, .ref a_hq, .ref a_hm, .int u_7])), (a_hp, .inl (cI, 12, .inl (fun _ => 0))), (a_hl, .inl (cI, 12, .inl (fun _ => 0))), (a_hq, .inl (cI, 12, .inl (fun _ => 0))), (a_hm, .inl (cI, 12, .inl (fun _ => 0))), (a_as, .inr (0, [.ref a_am, .int u_10.1, .int u_10.2])), (a_am, .inl (cI, 8, .inl (fun _ => 0))), (a_lo, .inr (5, [.ref a_lt, .ref a_lw])), (a_lt, .inl (cJ, 1326, .inr (.inl u_13))), (a_lw, .inl (cJ, 101, .inr (.inl (fun _ => 0))))] := hD
  refine lv_aload_n hx hb dX9_init_59 rfl (lv_at hl 0 rfl) ?_
  refine va_new (D := D) (ci := 7) (fs := [.null, .int 0]) (C := RX8) (T := TX8) (N := 2) hx hb hts il_X9_init_X8 tyX8 tyX8_ok hown (hts _ fk_X9_init_30) (hts _ fk_X9_init_31) (hts _ fk_X9_init_32) hK hP hD hS hA rfl (fun j hj => match j, hj with | 0, _ => rfl | 1, _ => rfl | j + 2, h => absurd h (by omega)) (Nat.le_of_ble_eq_true rfl) (Nat.le_of_ble_eq_true rfl) dX9_init_60 (fun a_we H hP hD hS => ?_)
  have hP : va_P D vwCl [(a_x, .inr (8, [.ref a_la, .ref a_te, .ref a_ha, .ref a_as, .ref a_lo, .null, .null, .null, .null, .long (0 : Int64)])), (a_la, .inr (4, [.ref a_lc, .ref a_lr])), (a_lc, .inl (cI, 32, .inl (fun _ => 0))), (a_lr, .inl (cI, 8, .inl u_1)), (a_te, .inr (6, [.ref a_tb, .int u_4.1, .ref u_4.2.1, .int u_4.2.2.1, .int u_4.2.2.2.1, .int u_4.2.2.2.2])), (a_tb, .inl (cI, 300, .inl (fun _ => 0))), (a_ha, .inr (2, [.ref a_hp, .ref a_hl, .ref a_hq, .ref a_hm, .int u_7])), (a_hp, .inl (cI, 12, .inl (fun _ => 0))), (a_hl, .inl (cI, 12, .inl (fun _ => 0))), (a_hq, .inl (cI, 12, .inl (fun _ => 0))), (a_hm, .inl (cI, 12, .inl (fun _ => 0))), (a_as, .inr (0, [.ref a_am, .int u_10.1, .int u_10.2])), (a_am, .inl (cI, 8, .inl (fun _ => 0))), (a_lo, .inr (5, [.ref a_lt, .ref a_lw])), (a_lt, .inl (cJ, 1326, .inr (.inl u_13))), (a_lw, .inl (cJ, 101, .inr (.inl (fun _ => 0)))), (a_we, .inr (7, [.null, .int (0 : Int32)]))] H := hP
  have hD : va_D A [(a_x, .inr (8, [.ref a_la, .ref a_te, .ref a_ha, .ref a_as, .ref a_lo, .null, .null, .null, .null, .long (0 : Int64)])), (a_la, .inr (4, [.ref a_lc, .ref a_lr])), (a_lc, .inl (cI, 32, .inl (fun _ => 0))), (a_lr, .inl (cI, 8, .inl u_1)), (a_te, .inr (6, [.ref a_tb, .int u_4.1, .ref u_4.2.1, .int u_4.2.2.1, .int u_4.2.2.2.1, .int u_4.2.2.2.2])), (a_tb, .inl (cI, 300, .inl (fun _ => 0))), (a_ha, .inr (2, [.ref a_hp, .ref a_hl, .ref a_hq, .ref a_hm, .int u_7])), (a_hp, .inl (cI, 12, .inl (fun _ => 0))), (a_hl, .inl (cI, 12, .inl (fun _ => 0))), (a_hq, .inl (cI, 12, .inl (fun _ => 0))), (a_hm, .inl (cI, 12, .inl (fun _ => 0))), (a_as, .inr (0, [.ref a_am, .int u_10.1, .int u_10.2])), (a_am, .inl (cI, 8, .inl (fun _ => 0))), (a_lo, .inr (5, [.ref a_lt, .ref a_lw])), (a_lt, .inl (cJ, 1326, .inr (.inl u_13))), (a_lw, .inl (cJ, 101, .inr (.inl (fun _ => 0)))), (a_we, .inr (7, [.null, .int (0 : Int32)]))] := hD
  refine W.widen (k := 16) (n := 1843) (Nat.le_refl _) (Nat.le_refl _) ?_
  refine lv_dup hx hb dX9_init_63 rfl ?_
  obtain ⟨u_16, hg_17, hf⟩ := pa_bd hf
  refine pa_kn (wc := [(a_we, .inr (7, [.null, .int (0 : Int32)]))]) (wr := [(a_x, .inr (8, [.ref a_la, .ref a_te, .ref a_ha, .ref a_as, .ref a_lo, .null, .null, .null, .null, .long (0 : Int64)])), (a_la, .inr (4, [.ref a_lc, .ref a_lr])), (a_lc, .inl (cI, 32, .inl (fun _ => 0))), (a_lr, .inl (cI, 8, .inl u_1)), (a_te, .inr (6, [.ref a_tb, .int u_4.1, .ref u_4.2.1, .int u_4.2.2.1, .int u_4.2.2.2.1, .int u_4.2.2.2.2])), (a_tb, .inl (cI, 300, .inl (fun _ => 0))), (a_ha, .inr (2, [.ref a_hp, .ref a_hl, .ref a_hq, .ref a_hm, .int u_7])), (a_hp, .inl (cI, 12, .inl (fun _ => 0))), (a_hl, .inl (cI, 12, .inl (fun _ => 0))), (a_hq, .inl (cI, 12, .inl (fun _ => 0))), (a_hm, .inl (cI, 12, .inl (fun _ => 0))), (a_as, .inr (0, [.ref a_am, .int u_10.1, .int u_10.2])), (a_am, .inl (cI, 8, .inl (fun _ => 0))), (a_lo, .inr (5, [.ref a_lt, .ref a_lw])), (a_lt, .inl (cJ, 1326, .inr (.inl u_13))), (a_lw, .inl (cJ, 101, .inr (.inl (fun _ => 0))))]) X hP hD hS [16] [0, 1, 2, 3, 4, 5, 6, 7, 8, 9, 10, 11, 12, 13, 14, 15] rfl (pa_rIN (As := []) (rest := [.ref a_we, .ref a_x]) X hP hD hS [16] rfl rfl (c_X8_init hg_17 H.size) (va_cnB 0 hts gX9_init_X8_init_n46 rfl rfl rfl (hG.1 _ (List.mem_of_getElem? (i := 11) rfl)) (hts _ fk_X9_init_32) (by decide +kernel) ⟨Nat.le_of_ble_eq_true rfl, Nat.le_of_ble_eq_true rfl⟩) rfl (hts _ fk_X9_init_33) rfl hl.1 rfl (Nat.le_of_ble_eq_true rfl) dX9_init_64 ⟨Nat.le_of_ble_eq_true rfl, Nat.le_of_ble_eq_true rfl⟩) rfl rfl (by decide) (fun w_18 H locs hP hD hS => ?_)
  obtain ⟨a_wh, rfl⟩ : ∃ z, z = w_18 := ⟨_, rfl⟩
  have hP : va_P D vwCl [(a_x, .inr (8, [.ref a_la, .ref a_te, .ref a_ha, .ref a_as, .ref a_lo, .null, .null, .null, .null, .long (0 : Int64)])), (a_la, .inr (4, [.ref a_lc, .ref a_lr])), (a_lc, .inl (cI, 32, .inl (fun _ => 0))), (a_lr, .inl (cI, 8, .inl u_1)), (a_te, .inr (6, [.ref a_tb, .int u_4.1, .ref u_4.2.1, .int u_4.2.2.1, .int u_4.2.2.2.1, .int u_4.2.2.2.2])), (a_tb, .inl (cI, 300, .inl (fun _ => 0))), (a_ha, .inr (2, [.ref a_hp, .ref a_hl, .ref a_hq, .ref a_hm, .int u_7])), (a_hp, .inl (cI, 12, .inl (fun _ => 0))), (a_hl, .inl (cI, 12, .inl (fun _ => 0))), (a_hq, .inl (cI, 12, .inl (fun _ => 0))), (a_hm, .inl (cI, 12, .inl (fun _ => 0))), (a_as, .inr (0, [.ref a_am, .int u_10.1, .int u_10.2])), (a_am, .inl (cI, 8, .inl (fun _ => 0))), (a_lo, .inr (5, [.ref a_lt, .ref a_lw])), (a_lt, .inl (cJ, 1326, .inr (.inl u_13))), (a_lw, .inl (cJ, 101, .inr (.inl (fun _ => 0)))), (a_we, .inr (7, [.ref a_wh, .int u_16])), (a_wh, .inl (cI, 60, .inl (fun _ => 0)))] H := hP
  have hD : va_D A [(a_x, .inr (8, [.ref a_la, .ref a_te, .ref a_ha, .ref a_as, .ref a_lo, .null, .null, .null, .null, .long (0 : Int64)])), (a_la, .inr (4, [.ref a_lc, .ref a_lr])), (a_lc, .inl (cI, 32, .inl (fun _ => 0))), (a_lr, .inl (cI, 8, .inl u_1)), (a_te, .inr (6, [.ref a_tb, .int u_4.1, .ref u_4.2.1, .int u_4.2.2.1, .int u_4.2.2.2.1, .int u_4.2.2.2.2])), (a_tb, .inl (cI, 300, .inl (fun _ => 0))), (a_ha, .inr (2, [.ref a_hp, .ref a_hl, .ref a_hq, .ref a_hm, .int u_7])), (a_hp, .inl (cI, 12, .inl (fun _ => 0))), (a_hl, .inl (cI, 12, .inl (fun _ => 0))), (a_hq, .inl (cI, 12, .inl (fun _ => 0))), (a_hm, .inl (cI, 12, .inl (fun _ => 0))), (a_as, .inr (0, [.ref a_am, .int u_10.1, .int u_10.2])), (a_am, .inl (cI, 8, .inl (fun _ => 0))), (a_lo, .inr (5, [.ref a_lt, .ref a_lw])), (a_lt, .inl (cJ, 1326, .inr (.inl u_13))), (a_lw, .inl (cJ, 101, .inr (.inl (fun _ => 0)))), (a_we, .inr (7, [.ref a_wh, .int u_16])), (a_wh, .inl (cI, 60, .inl (fun _ => 0)))] := hD
  refine W.widen (k := 17) (n := 1903) (Nat.le_refl _) (Nat.le_refl _) ?_
  refine va_putF (D := D) (ci := 8) (v := .ref a_we) (ty := .object "PostedAsks$Weeks") (C := RX9) (T := TX9) (N := 10) hx hb hts il_X9_init_X9 tyX9 tyX9_ok nmX9 hown hK hP hD hS 0 rfl rfl 5 (by decide) (hts _ fk_X9_init_34) (fun _ h9 => h9) rfl hin rfl (tyX9_ok 5 (by decide)) rfl rfl (Nat.le_of_ble_eq_true rfl) dX9_init_67 (fun H locs hP hD hS => ?_)
  have hP : va_P D vwCl [(a_x, .inr (8, [.ref a_la, .ref a_te, .ref a_ha, .ref a_as, .ref a_lo, .ref a_we, .null, .null, .null, .long (0 : Int64)])), (a_la, .inr (4, [.ref a_lc, .ref a_lr])), (a_lc, .inl (cI, 32, .inl (fun _ => 0))), (a_lr, .inl (cI, 8, .inl u_1)), (a_te, .inr (6, [.ref a_tb, .int u_4.1, .ref u_4.2.1, .int u_4.2.2.1, .int u_4.2.2.2.1, .int u_4.2.2.2.2])), (a_tb, .inl (cI, 300, .inl (fun _ => 0))), (a_ha, .inr (2, [.ref a_hp, .ref a_hl, .ref a_hq, .ref a_hm, .int u_7])), (a_hp, .inl (cI, 12, .inl (fun _ => 0))), (a_hl, .inl (cI, 12, .inl (fun _ => 0))), (a_hq, .inl (cI, 12, .inl (fun _ => 0))), (a_hm, .inl (cI, 12, .inl (fun _ => 0))), (a_as, .inr (0, [.ref a_am, .int u_10.1, .int u_10.2])), (a_am, .inl (cI, 8, .inl (fun _ => 0))), (a_lo, .inr (5, [.ref a_lt, .ref a_lw])), (a_lt, .inl (cJ, 1326, .inr (.inl u_13))), (a_lw, .inl (cJ, 101, .inr (.inl (fun _ => 0)))), (a_we, .inr (7, [.ref a_wh, .int u_16])), (a_wh, .inl (cI, 60, .inl (fun _ => 0)))] H := hP
  have hD : va_D A [(a_x, .inr (8, [.ref a_la, .ref a_te, .ref a_ha, .ref a_as, .ref a_lo, .ref a_we, .null, .null, .null, .long (0 : Int64)])), (a_la, .inr (4, [.ref a_lc, .ref a_lr])), (a_lc, .inl (cI, 32, .inl (fun _ => 0))), (a_lr, .inl (cI, 8, .inl u_1)), (a_te, .inr (6, [.ref a_tb, .int u_4.1, .ref u_4.2.1, .int u_4.2.2.1, .int u_4.2.2.2.1, .int u_4.2.2.2.2])), (a_tb, .inl (cI, 300, .inl (fun _ => 0))), (a_ha, .inr (2, [.ref a_hp, .ref a_hl, .ref a_hq, .ref a_hm, .int u_7])), (a_hp, .inl (cI, 12, .inl (fun _ => 0))), (a_hl, .inl (cI, 12, .inl (fun _ => 0))), (a_hq, .inl (cI, 12, .inl (fun _ => 0))), (a_hm, .inl (cI, 12, .inl (fun _ => 0))), (a_as, .inr (0, [.ref a_am, .int u_10.1, .int u_10.2])), (a_am, .inl (cI, 8, .inl (fun _ => 0))), (a_lo, .inr (5, [.ref a_lt, .ref a_lw])), (a_lt, .inl (cJ, 1326, .inr (.inl u_13))), (a_lw, .inl (cJ, 101, .inr (.inl (fun _ => 0)))), (a_we, .inr (7, [.ref a_wh, .int u_16])), (a_wh, .inl (cI, 60, .inl (fun _ => 0)))] := hD
  refine lv_aload_n hx hb dX9_init_70 rfl (lv_at hl 0 rfl) ?_
  refine va_new (D := D) (ci := 3) (fs := [.null, .int 0]) (C := RX3) (T := TX3) (N := 2) hx hb hts il_X9_init_X3 tyX3 tyX3_ok hown (hts _ fk_X9_init_35) (hts _ fk_X9_init_36) (hts _ fk_X9_init_37) hK hP hD hS hA rfl (fun j hj => match j, hj with | 0, _ => rfl | 1, _ => rfl | j + 2, h => absurd h (by omega)) (Nat.le_of_ble_eq_true rfl) (Nat.le_of_ble_eq_true rfl) dX9_init_71 (fun a_ho H hP hD hS => ?_)
  have hP : va_P D vwCl [(a_x, .inr (8, [.ref a_la, .ref a_te, .ref a_ha, .ref a_as, .ref a_lo, .ref a_we, .null, .null, .null, .long (0 : Int64)])), (a_la, .inr (4, [.ref a_lc, .ref a_lr])), (a_lc, .inl (cI, 32, .inl (fun _ => 0))), (a_lr, .inl (cI, 8, .inl u_1)), (a_te, .inr (6, [.ref a_tb, .int u_4.1, .ref u_4.2.1, .int u_4.2.2.1, .int u_4.2.2.2.1, .int u_4.2.2.2.2])), (a_tb, .inl (cI, 300, .inl (fun _ => 0))), (a_ha, .inr (2, [.ref a_hp, .ref a_hl, .ref a_hq, .ref a_hm, .int u_7])), (a_hp, .inl (cI, 12, .inl (fun _ => 0))), (a_hl, .inl (cI, 12, .inl (fun _ => 0))), (a_hq, .inl (cI, 12, .inl (fun _ => 0))), (a_hm, .inl (cI, 12, .inl (fun _ => 0))), (a_as, .inr (0, [.ref a_am, .int u_10.1, .int u_10.2])), (a_am, .inl (cI, 8, .inl (fun _ => 0))), (a_lo, .inr (5, [.ref a_lt, .ref a_lw])), (a_lt, .inl (cJ, 1326, .inr (.inl u_13))), (a_lw, .inl (cJ, 101, .inr (.inl (fun _ => 0)))), (a_we, .inr (7, [.ref a_wh, .int u_16])), (a_wh, .inl (cI, 60, .inl (fun _ => 0))), (a_ho, .inr (3, [.null, .int (0 : Int32)]))] H := hP
  have hD : va_D A [(a_x, .inr (8, [.ref a_la, .ref a_te, .ref a_ha, .ref a_as, .ref a_lo, .ref a_we, .null, .null, .null, .long (0 : Int64)])), (a_la, .inr (4, [.ref a_lc, .ref a_lr])), (a_lc, .inl (cI, 32, .inl (fun _ => 0))), (a_lr, .inl (cI, 8, .inl u_1)), (a_te, .inr (6, [.ref a_tb, .int u_4.1, .ref u_4.2.1, .int u_4.2.2.1, .int u_4.2.2.2.1, .int u_4.2.2.2.2])), (a_tb, .inl (cI, 300, .inl (fun _ => 0))), (a_ha, .inr (2, [.ref a_hp, .ref a_hl, .ref a_hq, .ref a_hm, .int u_7])), (a_hp, .inl (cI, 12, .inl (fun _ => 0))), (a_hl, .inl (cI, 12, .inl (fun _ => 0))), (a_hq, .inl (cI, 12, .inl (fun _ => 0))), (a_hm, .inl (cI, 12, .inl (fun _ => 0))), (a_as, .inr (0, [.ref a_am, .int u_10.1, .int u_10.2])), (a_am, .inl (cI, 8, .inl (fun _ => 0))), (a_lo, .inr (5, [.ref a_lt, .ref a_lw])), (a_lt, .inl (cJ, 1326, .inr (.inl u_13))), (a_lw, .inl (cJ, 101, .inr (.inl (fun _ => 0)))), (a_we, .inr (7, [.ref a_wh, .int u_16])), (a_wh, .inl (cI, 60, .inl (fun _ => 0))), (a_ho, .inr (3, [.null, .int (0 : Int32)]))] := hD
  refine W.widen (k := 18) (n := 1905) (Nat.le_refl _) (Nat.le_refl _) ?_
  refine lv_dup hx hb dX9_init_74 rfl ?_
  obtain ⟨u_19, hg_20, hf⟩ := pa_bd hf
  refine pa_kn (wc := [(a_ho, .inr (3, [.null, .int (0 : Int32)]))]) (wr := [(a_x, .inr (8, [.ref a_la, .ref a_te, .ref a_ha, .ref a_as, .ref a_lo, .ref a_we, .null, .null, .null, .long (0 : Int64)])), (a_la, .inr (4, [.ref a_lc, .ref a_lr])), (a_lc, .inl (cI, 32, .inl (fun _ => 0))), (a_lr, .inl (cI, 8, .inl u_1)), (a_te, .inr (6, [.ref a_tb, .int u_4.1, .ref u_4.2.1, .int u_4.2.2.1, .int u_4.2.2.2.1, .int u_4.2.2.2.2])), (a_tb, .inl (cI, 300, .inl (fun _ => 0))), (a_ha, .inr (2, [.ref a_hp, .ref a_hl, .ref a_hq, .ref a_hm, .int u_7])), (a_hp, .inl (cI, 12, .inl (fun _ => 0))), (a_hl, .inl (cI, 12, .inl (fun _ => 0))), (a_hq, .inl (cI, 12, .inl (fun _ => 0))), (a_hm, .inl (cI, 12, .inl (fun _ => 0))), (a_as, .inr (0, [.ref a_am, .int u_10.1, .int u_10.2])), (a_am, .inl (cI, 8, .inl (fun _ => 0))), (a_lo, .inr (5, [.ref a_lt, .ref a_lw])), (a_lt, .inl (cJ, 1326, .inr (.inl u_13))), (a_lw, .inl (cJ, 101, .inr (.inl (fun _ => 0)))), (a_we, .inr (7, [.ref a_wh, .int u_16])), (a_wh, .inl (cI, 60, .inl (fun _ => 0)))]) X hP hD hS [18] [0, 1, 2, 3, 4, 5, 6, 7, 8, 9, 10, 11, 12, 13, 14, 15, 16, 17] rfl (pa_rIN (As := []) (rest := [.ref a_ho, .ref a_x]) X hP hD hS [18] rfl rfl (c_X3_init hg_20 H.size) (va_cnB 0 hts gX9_init_X3_init_n53 rfl rfl rfl (hG.1 _ (List.mem_of_getElem? (i := 13) rfl)) (hts _ fk_X9_init_37) (by decide +kernel) ⟨Nat.le_of_ble_eq_true rfl, Nat.le_of_ble_eq_true rfl⟩) rfl (hts _ fk_X9_init_38) rfl hl.1 rfl (Nat.le_of_ble_eq_true rfl) dX9_init_75 ⟨Nat.le_of_ble_eq_true rfl, Nat.le_of_ble_eq_true rfl⟩) rfl rfl (by decide) (fun w_21 H locs hP hD hS => ?_)
  obtain ⟨a_hn, rfl⟩ : ∃ z, z = w_21 := ⟨_, rfl⟩
  have hP : va_P D vwCl [(a_x, .inr (8, [.ref a_la, .ref a_te, .ref a_ha, .ref a_as, .ref a_lo, .ref a_we, .null, .null, .null, .long (0 : Int64)])), (a_la, .inr (4, [.ref a_lc, .ref a_lr])), (a_lc, .inl (cI, 32, .inl (fun _ => 0))), (a_lr, .inl (cI, 8, .inl u_1)), (a_te, .inr (6, [.ref a_tb, .int u_4.1, .ref u_4.2.1, .int u_4.2.2.1, .int u_4.2.2.2.1, .int u_4.2.2.2.2])), (a_tb, .inl (cI, 300, .inl (fun _ => 0))), (a_ha, .inr (2, [.ref a_hp, .ref a_hl, .ref a_hq, .ref a_hm, .int u_7])), (a_hp, .inl (cI, 12, .inl (fun _ => 0))), (a_hl, .inl (cI, 12, .inl (fun _ => 0))), (a_hq, .inl (cI, 12, .inl (fun _ => 0))), (a_hm, .inl (cI, 12, .inl (fun _ => 0))), (a_as, .inr (0, [.ref a_am, .int u_10.1, .int u_10.2])), (a_am, .inl (cI, 8, .inl (fun _ => 0))), (a_lo, .inr (5, [.ref a_lt, .ref a_lw])), (a_lt, .inl (cJ, 1326, .inr (.inl u_13))), (a_lw, .inl (cJ, 101, .inr (.inl (fun _ => 0)))), (a_we, .inr (7, [.ref a_wh, .int u_16])), (a_wh, .inl (cI, 60, .inl (fun _ => 0))), (a_ho, .inr (3, [.ref a_hn, .int u_19])), (a_hn, .inl (cI, 24, .inl (fun _ => 0)))] H := hP
  have hD : va_D A [(a_x, .inr (8, [.ref a_la, .ref a_te, .ref a_ha, .ref a_as, .ref a_lo, .ref a_we, .null, .null, .null, .long (0 : Int64)])), (a_la, .inr (4, [.ref a_lc, .ref a_lr])), (a_lc, .inl (cI, 32, .inl (fun _ => 0))), (a_lr, .inl (cI, 8, .inl u_1)), (a_te, .inr (6, [.ref a_tb, .int u_4.1, .ref u_4.2.1, .int u_4.2.2.1, .int u_4.2.2.2.1, .int u_4.2.2.2.2])), (a_tb, .inl (cI, 300, .inl (fun _ => 0))), (a_ha, .inr (2, [.ref a_hp, .ref a_hl, .ref a_hq, .ref a_hm, .int u_7])), (a_hp, .inl (cI, 12, .inl (fun _ => 0))), (a_hl, .inl (cI, 12, .inl (fun _ => 0))), (a_hq, .inl (cI, 12, .inl (fun _ => 0))), (a_hm, .inl (cI, 12, .inl (fun _ => 0))), (a_as, .inr (0, [.ref a_am, .int u_10.1, .int u_10.2])), (a_am, .inl (cI, 8, .inl (fun _ => 0))), (a_lo, .inr (5, [.ref a_lt, .ref a_lw])), (a_lt, .inl (cJ, 1326, .inr (.inl u_13))), (a_lw, .inl (cJ, 101, .inr (.inl (fun _ => 0)))), (a_we, .inr (7, [.ref a_wh, .int u_16])), (a_wh, .inl (cI, 60, .inl (fun _ => 0))), (a_ho, .inr (3, [.ref a_hn, .int u_19])), (a_hn, .inl (cI, 24, .inl (fun _ => 0)))] := hD
  refine W.widen (k := 19) (n := 1929) (Nat.le_refl _) (Nat.le_refl _) ?_
  refine va_putF (D := D) (ci := 8) (v := .ref a_ho) (ty := .object "PostedAsks$House") (C := RX9) (T := TX9) (N := 10) hx hb hts il_X9_init_X9 tyX9 tyX9_ok nmX9 hown hK hP hD hS 0 rfl rfl 6 (by decide) (hts _ fk_X9_init_39) (fun _ h9 => h9) rfl hin rfl (tyX9_ok 6 (by decide)) rfl rfl (Nat.le_of_ble_eq_true rfl) dX9_init_78 (fun H locs hP hD hS => ?_)
  have hP : va_P D vwCl [(a_x, .inr (8, [.ref a_la, .ref a_te, .ref a_ha, .ref a_as, .ref a_lo, .ref a_we, .ref a_ho, .null, .null, .long (0 : Int64)])), (a_la, .inr (4, [.ref a_lc, .ref a_lr])), (a_lc, .inl (cI, 32, .inl (fun _ => 0))), (a_lr, .inl (cI, 8, .inl u_1)), (a_te, .inr (6, [.ref a_tb, .int u_4.1, .ref u_4.2.1, .int u_4.2.2.1, .int u_4.2.2.2.1, .int u_4.2.2.2.2])), (a_tb, .inl (cI, 300, .inl (fun _ => 0))), (a_ha, .inr (2, [.ref a_hp, .ref a_hl, .ref a_hq, .ref a_hm, .int u_7])), (a_hp, .inl (cI, 12, .inl (fun _ => 0))), (a_hl, .inl (cI, 12, .inl (fun _ => 0))), (a_hq, .inl (cI, 12, .inl (fun _ => 0))), (a_hm, .inl (cI, 12, .inl (fun _ => 0))), (a_as, .inr (0, [.ref a_am, .int u_10.1, .int u_10.2])), (a_am, .inl (cI, 8, .inl (fun _ => 0))), (a_lo, .inr (5, [.ref a_lt, .ref a_lw])), (a_lt, .inl (cJ, 1326, .inr (.inl u_13))), (a_lw, .inl (cJ, 101, .inr (.inl (fun _ => 0)))), (a_we, .inr (7, [.ref a_wh, .int u_16])), (a_wh, .inl (cI, 60, .inl (fun _ => 0))), (a_ho, .inr (3, [.ref a_hn, .int u_19])), (a_hn, .inl (cI, 24, .inl (fun _ => 0)))] H := hP
  have hD : va_D A [(a_x, .inr (8, [.ref a_la, .ref a_te, .ref a_ha, .ref a_as, .ref a_lo, .ref a_we, .ref a_ho, .null, .null, .long (0 : Int64)])), (a_la, .inr (4, [.ref a_lc, .ref a_lr])), (a_lc, .inl (cI, 32, .inl (fun _ => 0))), (a_lr, .inl (cI, 8, .inl u_1)), (a_te, .inr (6, [.ref a_tb, .int u_4.1, .ref u_4.2.1, .int u_4.2.2.1, .int u_4.2.2.2.1, .int u_4.2.2.2.2])), (a_tb, .inl (cI, 300, .inl (fun _ => 0))), (a_ha, .inr (2, [.ref a_hp, .ref a_hl, .ref a_hq, .ref a_hm, .int u_7])), (a_hp, .inl (cI, 12, .inl (fun _ => 0))), (a_hl, .inl (cI, 12, .inl (fun _ => 0))), (a_hq, .inl (cI, 12, .inl (fun _ => 0))), (a_hm, .inl (cI, 12, .inl (fun _ => 0))), (a_as, .inr (0, [.ref a_am, .int u_10.1, .int u_10.2])), (a_am, .inl (cI, 8, .inl (fun _ => 0))), (a_lo, .inr (5, [.ref a_lt, .ref a_lw])), (a_lt, .inl (cJ, 1326, .inr (.inl u_13))), (a_lw, .inl (cJ, 101, .inr (.inl (fun _ => 0)))), (a_we, .inr (7, [.ref a_wh, .int u_16])), (a_wh, .inl (cI, 60, .inl (fun _ => 0))), (a_ho, .inr (3, [.ref a_hn, .int u_19])), (a_hn, .inl (cI, 24, .inl (fun _ => 0)))] := hD
  refine lv_aload_n hx hb dX9_init_81 rfl (lv_at hl 0 rfl) ?_
  refine va_new (D := D) (ci := 1) (fs := [.long 0, .long 0]) (C := RX1) (T := TX1) (N := 2) hx hb hts il_X9_init_X1 tyX1 tyX1_ok hown (hts _ fk_X9_init_40) (hts _ fk_X9_init_41) (hts _ fk_X9_init_42) hK hP hD hS hA rfl (fun j hj => match j, hj with | 0, _ => rfl | 1, _ => rfl | j + 2, h => absurd h (by omega)) (Nat.le_of_ble_eq_true rfl) (Nat.le_of_ble_eq_true rfl) dX9_init_82 (fun a_fr H hP hD hS => ?_)
  have hP : va_P D vwCl [(a_x, .inr (8, [.ref a_la, .ref a_te, .ref a_ha, .ref a_as, .ref a_lo, .ref a_we, .ref a_ho, .null, .null, .long (0 : Int64)])), (a_la, .inr (4, [.ref a_lc, .ref a_lr])), (a_lc, .inl (cI, 32, .inl (fun _ => 0))), (a_lr, .inl (cI, 8, .inl u_1)), (a_te, .inr (6, [.ref a_tb, .int u_4.1, .ref u_4.2.1, .int u_4.2.2.1, .int u_4.2.2.2.1, .int u_4.2.2.2.2])), (a_tb, .inl (cI, 300, .inl (fun _ => 0))), (a_ha, .inr (2, [.ref a_hp, .ref a_hl, .ref a_hq, .ref a_hm, .int u_7])), (a_hp, .inl (cI, 12, .inl (fun _ => 0))), (a_hl, .inl (cI, 12, .inl (fun _ => 0))), (a_hq, .inl (cI, 12, .inl (fun _ => 0))), (a_hm, .inl (cI, 12, .inl (fun _ => 0))), (a_as, .inr (0, [.ref a_am, .int u_10.1, .int u_10.2])), (a_am, .inl (cI, 8, .inl (fun _ => 0))), (a_lo, .inr (5, [.ref a_lt, .ref a_lw])), (a_lt, .inl (cJ, 1326, .inr (.inl u_13))), (a_lw, .inl (cJ, 101, .inr (.inl (fun _ => 0)))), (a_we, .inr (7, [.ref a_wh, .int u_16])), (a_wh, .inl (cI, 60, .inl (fun _ => 0))), (a_ho, .inr (3, [.ref a_hn, .int u_19])), (a_hn, .inl (cI, 24, .inl (fun _ => 0))), (a_fr, .inr (1, [.long (0 : Int64), .long (0 : Int64)]))] H := hP
  have hD : va_D A [(a_x, .inr (8, [.ref a_la, .ref a_te, .ref a_ha, .ref a_as, .ref a_lo, .ref a_we, .ref a_ho, .null, .null, .long (0 : Int64)])), (a_la, .inr (4, [.ref a_lc, .ref a_lr])), (a_lc, .inl (cI, 32, .inl (fun _ => 0))), (a_lr, .inl (cI, 8, .inl u_1)), (a_te, .inr (6, [.ref a_tb, .int u_4.1, .ref u_4.2.1, .int u_4.2.2.1, .int u_4.2.2.2.1, .int u_4.2.2.2.2])), (a_tb, .inl (cI, 300, .inl (fun _ => 0))), (a_ha, .inr (2, [.ref a_hp, .ref a_hl, .ref a_hq, .ref a_hm, .int u_7])), (a_hp, .inl (cI, 12, .inl (fun _ => 0))), (a_hl, .inl (cI, 12, .inl (fun _ => 0))), (a_hq, .inl (cI, 12, .inl (fun _ => 0))), (a_hm, .inl (cI, 12, .inl (fun _ => 0))), (a_as, .inr (0, [.ref a_am, .int u_10.1, .int u_10.2])), (a_am, .inl (cI, 8, .inl (fun _ => 0))), (a_lo, .inr (5, [.ref a_lt, .ref a_lw])), (a_lt, .inl (cJ, 1326, .inr (.inl u_13))), (a_lw, .inl (cJ, 101, .inr (.inl (fun _ => 0)))), (a_we, .inr (7, [.ref a_wh, .int u_16])), (a_wh, .inl (cI, 60, .inl (fun _ => 0))), (a_ho, .inr (3, [.ref a_hn, .int u_19])), (a_hn, .inl (cI, 24, .inl (fun _ => 0))), (a_fr, .inr (1, [.long (0 : Int64), .long (0 : Int64)]))] := hD
  refine W.widen (k := 20) (n := 1931) (Nat.le_refl _) (Nat.le_refl _) ?_
  refine lv_dup hx hb dX9_init_85 rfl ?_
  obtain ⟨u_22, hg_23, hf⟩ := pa_bd hf
  refine pa_kn (wc := [(a_fr, .inr (1, [.long (0 : Int64), .long (0 : Int64)]))]) (wr := [(a_x, .inr (8, [.ref a_la, .ref a_te, .ref a_ha, .ref a_as, .ref a_lo, .ref a_we, .ref a_ho, .null, .null, .long (0 : Int64)])), (a_la, .inr (4, [.ref a_lc, .ref a_lr])), (a_lc, .inl (cI, 32, .inl (fun _ => 0))), (a_lr, .inl (cI, 8, .inl u_1)), (a_te, .inr (6, [.ref a_tb, .int u_4.1, .ref u_4.2.1, .int u_4.2.2.1, .int u_4.2.2.2.1, .int u_4.2.2.2.2])), (a_tb, .inl (cI, 300, .inl (fun _ => 0))), (a_ha, .inr (2, [.ref a_hp, .ref a_hl, .ref a_hq, .ref a_hm, .int u_7])), (a_hp, .inl (cI, 12, .inl (fun _ => 0))), (a_hl, .inl (cI, 12, .inl (fun _ => 0))), (a_hq, .inl (cI, 12, .inl (fun _ => 0))), (a_hm, .inl (cI, 12, .inl (fun _ => 0))), (a_as, .inr (0, [.ref a_am, .int u_10.1, .int u_10.2])), (a_am, .inl (cI, 8, .inl (fun _ => 0))), (a_lo, .inr (5, [.ref a_lt, .ref a_lw])), (a_lt, .inl (cJ, 1326, .inr (.inl u_13))), (a_lw, .inl (cJ, 101, .inr (.inl (fun _ => 0)))), (a_we, .inr (7, [.ref a_wh, .int u_16])), (a_wh, .inl (cI, 60, .inl (fun _ => 0))), (a_ho, .inr (3, [.ref a_hn, .int u_19])), (a_hn, .inl (cI, 24, .inl (fun _ => 0)))]) X hP hD hS [20] [0, 1, 2, 3, 4, 5, 6, 7, 8, 9, 10, 11, 12, 13, 14, 15, 16, 17, 18, 19] rfl (pa_rIN (As := []) (rest := [.ref a_fr, .ref a_x]) X hP hD hS [20] rfl rfl (c_X1_init hg_23 H.size) (va_cnB 0 hts gX9_init_X1_init_n60 rfl rfl rfl (hG.1 _ (List.mem_of_getElem? (i := 15) rfl)) (hts _ fk_X9_init_42) (by decide +kernel) ⟨Nat.le_of_ble_eq_true rfl, Nat.le_of_ble_eq_true rfl⟩) rfl (hts _ fk_X9_init_43) rfl hl.1 rfl (Nat.le_of_ble_eq_true rfl) dX9_init_86 ⟨Nat.le_of_ble_eq_true rfl, Nat.le_of_ble_eq_true rfl⟩) rfl rfl (by decide) (fun w_24 H locs hP hD hS => ?_)
  have hP : va_P D vwCl [(a_x, .inr (8, [.ref a_la, .ref a_te, .ref a_ha, .ref a_as, .ref a_lo, .ref a_we, .ref a_ho, .null, .null, .long (0 : Int64)])), (a_la, .inr (4, [.ref a_lc, .ref a_lr])), (a_lc, .inl (cI, 32, .inl (fun _ => 0))), (a_lr, .inl (cI, 8, .inl u_1)), (a_te, .inr (6, [.ref a_tb, .int u_4.1, .ref u_4.2.1, .int u_4.2.2.1, .int u_4.2.2.2.1, .int u_4.2.2.2.2])), (a_tb, .inl (cI, 300, .inl (fun _ => 0))), (a_ha, .inr (2, [.ref a_hp, .ref a_hl, .ref a_hq, .ref a_hm, .int u_7])), (a_hp, .inl (cI, 12, .inl (fun _ => 0))), (a_hl, .inl (cI, 12, .inl (fun _ => 0))), (a_hq, .inl (cI, 12, .inl (fun _ => 0))), (a_hm, .inl (cI, 12, .inl (fun _ => 0))), (a_as, .inr (0, [.ref a_am, .int u_10.1, .int u_10.2])), (a_am, .inl (cI, 8, .inl (fun _ => 0))), (a_lo, .inr (5, [.ref a_lt, .ref a_lw])), (a_lt, .inl (cJ, 1326, .inr (.inl u_13))), (a_lw, .inl (cJ, 101, .inr (.inl (fun _ => 0)))), (a_we, .inr (7, [.ref a_wh, .int u_16])), (a_wh, .inl (cI, 60, .inl (fun _ => 0))), (a_ho, .inr (3, [.ref a_hn, .int u_19])), (a_hn, .inl (cI, 24, .inl (fun _ => 0))), (a_fr, .inr (1, [.long u_22.1, .long u_22.2]))] H := hP
  have hD : va_D A [(a_x, .inr (8, [.ref a_la, .ref a_te, .ref a_ha, .ref a_as, .ref a_lo, .ref a_we, .ref a_ho, .null, .null, .long (0 : Int64)])), (a_la, .inr (4, [.ref a_lc, .ref a_lr])), (a_lc, .inl (cI, 32, .inl (fun _ => 0))), (a_lr, .inl (cI, 8, .inl u_1)), (a_te, .inr (6, [.ref a_tb, .int u_4.1, .ref u_4.2.1, .int u_4.2.2.1, .int u_4.2.2.2.1, .int u_4.2.2.2.2])), (a_tb, .inl (cI, 300, .inl (fun _ => 0))), (a_ha, .inr (2, [.ref a_hp, .ref a_hl, .ref a_hq, .ref a_hm, .int u_7])), (a_hp, .inl (cI, 12, .inl (fun _ => 0))), (a_hl, .inl (cI, 12, .inl (fun _ => 0))), (a_hq, .inl (cI, 12, .inl (fun _ => 0))), (a_hm, .inl (cI, 12, .inl (fun _ => 0))), (a_as, .inr (0, [.ref a_am, .int u_10.1, .int u_10.2])), (a_am, .inl (cI, 8, .inl (fun _ => 0))), (a_lo, .inr (5, [.ref a_lt, .ref a_lw])), (a_lt, .inl (cJ, 1326, .inr (.inl u_13))), (a_lw, .inl (cJ, 101, .inr (.inl (fun _ => 0)))), (a_we, .inr (7, [.ref a_wh, .int u_16])), (a_wh, .inl (cI, 60, .inl (fun _ => 0))), (a_ho, .inr (3, [.ref a_hn, .int u_19])), (a_hn, .inl (cI, 24, .inl (fun _ => 0))), (a_fr, .inr (1, [.long u_22.1, .long u_22.2]))] := hD
  refine W.widen (k := 20) (n := 1931) (Nat.le_refl _) (Nat.le_refl _) ?_
  refine va_putF (D := D) (ci := 8) (v := .ref a_fr) (ty := .object "PostedAsks$Fraction") (C := RX9) (T := TX9) (N := 10) hx hb hts il_X9_init_X9 tyX9 tyX9_ok nmX9 hown hK hP hD hS 0 rfl rfl 7 (by decide) (hts _ fk_X9_init_44) (fun _ h9 => h9) rfl hin rfl (tyX9_ok 7 (by decide)) rfl rfl (Nat.le_of_ble_eq_true rfl) dX9_init_89 (fun H locs hP hD hS => ?_)
  have hP : va_P D vwCl [(a_x, .inr (8, [.ref a_la, .ref a_te, .ref a_ha, .ref a_as, .ref a_lo, .ref a_we, .ref a_ho, .ref a_fr, .null, .long (0 : Int64)])), (a_la, .inr (4, [.ref a_lc, .ref a_lr])), (a_lc, .inl (cI, 32, .inl (fun _ => 0))), (a_lr, .inl (cI, 8, .inl u_1)), (a_te, .inr (6, [.ref a_tb, .int u_4.1, .ref u_4.2.1, .int u_4.2.2.1, .int u_4.2.2.2.1, .int u_4.2.2.2.2])), (a_tb, .inl (cI, 300, .inl (fun _ => 0))), (a_ha, .inr (2, [.ref a_hp, .ref a_hl, .ref a_hq, .ref a_hm, .int u_7])), (a_hp, .inl (cI, 12, .inl (fun _ => 0))), (a_hl, .inl (cI, 12, .inl (fun _ => 0))), (a_hq, .inl (cI, 12, .inl (fun _ => 0))), (a_hm, .inl (cI, 12, .inl (fun _ => 0))), (a_as, .inr (0, [.ref a_am, .int u_10.1, .int u_10.2])), (a_am, .inl (cI, 8, .inl (fun _ => 0))), (a_lo, .inr (5, [.ref a_lt, .ref a_lw])), (a_lt, .inl (cJ, 1326, .inr (.inl u_13))), (a_lw, .inl (cJ, 101, .inr (.inl (fun _ => 0)))), (a_we, .inr (7, [.ref a_wh, .int u_16])), (a_wh, .inl (cI, 60, .inl (fun _ => 0))), (a_ho, .inr (3, [.ref a_hn, .int u_19])), (a_hn, .inl (cI, 24, .inl (fun _ => 0))), (a_fr, .inr (1, [.long u_22.1, .long u_22.2]))] H := hP
  have hD : va_D A [(a_x, .inr (8, [.ref a_la, .ref a_te, .ref a_ha, .ref a_as, .ref a_lo, .ref a_we, .ref a_ho, .ref a_fr, .null, .long (0 : Int64)])), (a_la, .inr (4, [.ref a_lc, .ref a_lr])), (a_lc, .inl (cI, 32, .inl (fun _ => 0))), (a_lr, .inl (cI, 8, .inl u_1)), (a_te, .inr (6, [.ref a_tb, .int u_4.1, .ref u_4.2.1, .int u_4.2.2.1, .int u_4.2.2.2.1, .int u_4.2.2.2.2])), (a_tb, .inl (cI, 300, .inl (fun _ => 0))), (a_ha, .inr (2, [.ref a_hp, .ref a_hl, .ref a_hq, .ref a_hm, .int u_7])), (a_hp, .inl (cI, 12, .inl (fun _ => 0))), (a_hl, .inl (cI, 12, .inl (fun _ => 0))), (a_hq, .inl (cI, 12, .inl (fun _ => 0))), (a_hm, .inl (cI, 12, .inl (fun _ => 0))), (a_as, .inr (0, [.ref a_am, .int u_10.1, .int u_10.2])), (a_am, .inl (cI, 8, .inl (fun _ => 0))), (a_lo, .inr (5, [.ref a_lt, .ref a_lw])), (a_lt, .inl (cJ, 1326, .inr (.inl u_13))), (a_lw, .inl (cJ, 101, .inr (.inl (fun _ => 0)))), (a_we, .inr (7, [.ref a_wh, .int u_16])), (a_wh, .inl (cI, 60, .inl (fun _ => 0))), (a_ho, .inr (3, [.ref a_hn, .int u_19])), (a_hn, .inl (cI, 24, .inl (fun _ => 0))), (a_fr, .inr (1, [.long u_22.1, .long u_22.2]))] := hD
  refine lv_aload_n hx hb dX9_init_92 rfl (lv_at hl 0 rfl) ?_
  refine lv_iconst (v := (3 : Int32)) hx hb dX9_init_93 (by decide) ?_
  refine pa_newI (n := (3 : Int32)) (N := 3) X hP hD hS (by decide) (by decide) (by decide) (Nat.le_of_ble_eq_true rfl) (Nat.le_of_ble_eq_true rfl) (hts _ fk_X9_init_45) dX9_init_94 (fun a_pr H hP hD hS => ?_)
  have hP : va_P D vwCl [(a_x, .inr (8, [.ref a_la, .ref a_te, .ref a_ha, .ref a_as, .ref a_lo, .ref a_we, .ref a_ho, .ref a_fr, .null, .long (0 : Int64)])), (a_la, .inr (4, [.ref a_lc, .ref a_lr])), (a_lc, .inl (cI, 32, .inl (fun _ => 0))), (a_lr, .inl (cI, 8, .inl u_1)), (a_te, .inr (6, [.ref a_tb, .int u_4.1, .ref u_4.2.1, .int u_4.2.2.1, .int u_4.2.2.2.1, .int u_4.2.2.2.2])), (a_tb, .inl (cI, 300, .inl (fun _ => 0))), (a_ha, .inr (2, [.ref a_hp, .ref a_hl, .ref a_hq, .ref a_hm, .int u_7])), (a_hp, .inl (cI, 12, .inl (fun _ => 0))), (a_hl, .inl (cI, 12, .inl (fun _ => 0))), (a_hq, .inl (cI, 12, .inl (fun _ => 0))), (a_hm, .inl (cI, 12, .inl (fun _ => 0))), (a_as, .inr (0, [.ref a_am, .int u_10.1, .int u_10.2])), (a_am, .inl (cI, 8, .inl (fun _ => 0))), (a_lo, .inr (5, [.ref a_lt, .ref a_lw])), (a_lt, .inl (cJ, 1326, .inr (.inl u_13))), (a_lw, .inl (cJ, 101, .inr (.inl (fun _ => 0)))), (a_we, .inr (7, [.ref a_wh, .int u_16])), (a_wh, .inl (cI, 60, .inl (fun _ => 0))), (a_ho, .inr (3, [.ref a_hn, .int u_19])), (a_hn, .inl (cI, 24, .inl (fun _ => 0))), (a_fr, .inr (1, [.long u_22.1, .long u_22.2])), (a_pr, .inl (cI, 3, .inl (fun _ => 0)))] H := hP
  have hD : va_D A [(a_x, .inr (8, [.ref a_la, .ref a_te, .ref a_ha, .ref a_as, .ref a_lo, .ref a_we, .ref a_ho, .ref a_fr, .null, .long (0 : Int64)])), (a_la, .inr (4, [.ref a_lc, .ref a_lr])), (a_lc, .inl (cI, 32, .inl (fun _ => 0))), (a_lr, .inl (cI, 8, .inl u_1)), (a_te, .inr (6, [.ref a_tb, .int u_4.1, .ref u_4.2.1, .int u_4.2.2.1, .int u_4.2.2.2.1, .int u_4.2.2.2.2])), (a_tb, .inl (cI, 300, .inl (fun _ => 0))), (a_ha, .inr (2, [.ref a_hp, .ref a_hl, .ref a_hq, .ref a_hm, .int u_7])), (a_hp, .inl (cI, 12, .inl (fun _ => 0))), (a_hl, .inl (cI, 12, .inl (fun _ => 0))), (a_hq, .inl (cI, 12, .inl (fun _ => 0))), (a_hm, .inl (cI, 12, .inl (fun _ => 0))), (a_as, .inr (0, [.ref a_am, .int u_10.1, .int u_10.2])), (a_am, .inl (cI, 8, .inl (fun _ => 0))), (a_lo, .inr (5, [.ref a_lt, .ref a_lw])), (a_lt, .inl (cJ, 1326, .inr (.inl u_13))), (a_lw, .inl (cJ, 101, .inr (.inl (fun _ => 0)))), (a_we, .inr (7, [.ref a_wh, .int u_16])), (a_wh, .inl (cI, 60, .inl (fun _ => 0))), (a_ho, .inr (3, [.ref a_hn, .int u_19])), (a_hn, .inl (cI, 24, .inl (fun _ => 0))), (a_fr, .inr (1, [.long u_22.1, .long u_22.2])), (a_pr, .inl (cI, 3, .inl (fun _ => 0)))] := hD
  refine W.widen (k := 21) (n := 1934) (Nat.le_refl _) (Nat.le_refl _) ?_
  refine lv_dup hx hb dX9_init_96 rfl ?_
  refine lv_iconst (v := (0 : Int32)) hx hb dX9_init_97 (by decide) ?_
  refine lv_iconst (v := (1 : Int32)) hx hb dX9_init_98 (by decide) ?_
  obtain ⟨hi_25, hf⟩ := pa_gd hf
  refine va_iast hx hb hK hP hD hS 21 0 rfl rfl hi_25 dX9_init_99 (fun H locs hP hD hS => ?_)
  have hP : va_P D vwCl [(a_x, .inr (8, [.ref a_la, .ref a_te, .ref a_ha, .ref a_as, .ref a_lo, .ref a_we, .ref a_ho, .ref a_fr, .null, .long (0 : Int64)])), (a_la, .inr (4, [.ref a_lc, .ref a_lr])), (a_lc, .inl (cI, 32, .inl (fun _ => 0))), (a_lr, .inl (cI, 8, .inl u_1)), (a_te, .inr (6, [.ref a_tb, .int u_4.1, .ref u_4.2.1, .int u_4.2.2.1, .int u_4.2.2.2.1, .int u_4.2.2.2.2])), (a_tb, .inl (cI, 300, .inl (fun _ => 0))), (a_ha, .inr (2, [.ref a_hp, .ref a_hl, .ref a_hq, .ref a_hm, .int u_7])), (a_hp, .inl (cI, 12, .inl (fun _ => 0))), (a_hl, .inl (cI, 12, .inl (fun _ => 0))), (a_hq, .inl (cI, 12, .inl (fun _ => 0))), (a_hm, .inl (cI, 12, .inl (fun _ => 0))), (a_as, .inr (0, [.ref a_am, .int u_10.1, .int u_10.2])), (a_am, .inl (cI, 8, .inl (fun _ => 0))), (a_lo, .inr (5, [.ref a_lt, .ref a_lw])), (a_lt, .inl (cJ, 1326, .inr (.inl u_13))), (a_lw, .inl (cJ, 101, .inr (.inl (fun _ => 0)))), (a_we, .inr (7, [.ref a_wh, .int u_16])), (a_wh, .inl (cI, 60, .inl (fun _ => 0))), (a_ho, .inr (3, [.ref a_hn, .int u_19])), (a_hn, .inl (cI, 24, .inl (fun _ => 0))), (a_fr, .inr (1, [.long u_22.1, .long u_22.2])), (a_pr, .inl (cI, 3, .inl (upd (fun _ => 0) (Int32.toNatClampNeg (0 : Int32)) (1 : Int32))))] H := hP
  have hD : va_D A [(a_x, .inr (8, [.ref a_la, .ref a_te, .ref a_ha, .ref a_as, .ref a_lo, .ref a_we, .ref a_ho, .ref a_fr, .null, .long (0 : Int64)])), (a_la, .inr (4, [.ref a_lc, .ref a_lr])), (a_lc, .inl (cI, 32, .inl (fun _ => 0))), (a_lr, .inl (cI, 8, .inl u_1)), (a_te, .inr (6, [.ref a_tb, .int u_4.1, .ref u_4.2.1, .int u_4.2.2.1, .int u_4.2.2.2.1, .int u_4.2.2.2.2])), (a_tb, .inl (cI, 300, .inl (fun _ => 0))), (a_ha, .inr (2, [.ref a_hp, .ref a_hl, .ref a_hq, .ref a_hm, .int u_7])), (a_hp, .inl (cI, 12, .inl (fun _ => 0))), (a_hl, .inl (cI, 12, .inl (fun _ => 0))), (a_hq, .inl (cI, 12, .inl (fun _ => 0))), (a_hm, .inl (cI, 12, .inl (fun _ => 0))), (a_as, .inr (0, [.ref a_am, .int u_10.1, .int u_10.2])), (a_am, .inl (cI, 8, .inl (fun _ => 0))), (a_lo, .inr (5, [.ref a_lt, .ref a_lw])), (a_lt, .inl (cJ, 1326, .inr (.inl u_13))), (a_lw, .inl (cJ, 101, .inr (.inl (fun _ => 0)))), (a_we, .inr (7, [.ref a_wh, .int u_16])), (a_wh, .inl (cI, 60, .inl (fun _ => 0))), (a_ho, .inr (3, [.ref a_hn, .int u_19])), (a_hn, .inl (cI, 24, .inl (fun _ => 0))), (a_fr, .inr (1, [.long u_22.1, .long u_22.2])), (a_pr, .inl (cI, 3, .inl (upd (fun _ => 0) (Int32.toNatClampNeg (0 : Int32)) (1 : Int32))))] := hD
  refine lv_dup hx hb dX9_init_100 rfl ?_
  refine lv_iconst (v := (1 : Int32)) hx hb dX9_init_101 (by decide) ?_
  refine lv_iconst (v := (5 : Int32)) hx hb dX9_init_102 (by decide) ?_
  obtain ⟨hi_26, hf⟩ := pa_gd hf
  refine va_iast hx hb hK hP hD hS 21 0 rfl rfl hi_26 dX9_init_103 (fun H locs hP hD hS => ?_)
  have hP : va_P D vwCl [(a_x, .inr (8, [.ref a_la, .ref a_te, .ref a_ha, .ref a_as, .ref a_lo, .ref a_we, .ref a_ho, .ref a_fr, .null, .long (0 : Int64)])), (a_la, .inr (4, [.ref a_lc, .ref a_lr])), (a_lc, .inl (cI, 32, .inl (fun _ => 0))), (a_lr, .inl (cI, 8, .inl u_1)), (a_te, .inr (6, [.ref a_tb, .int u_4.1, .ref u_4.2.1, .int u_4.2.2.1, .int u_4.2.2.2.1, .int u_4.2.2.2.2])), (a_tb, .inl (cI, 300, .inl (fun _ => 0))), (a_ha, .inr (2, [.ref a_hp, .ref a_hl, .ref a_hq, .ref a_hm, .int u_7])), (a_hp, .inl (cI, 12, .inl (fun _ => 0))), (a_hl, .inl (cI, 12, .inl (fun _ => 0))), (a_hq, .inl (cI, 12, .inl (fun _ => 0))), (a_hm, .inl (cI, 12, .inl (fun _ => 0))), (a_as, .inr (0, [.ref a_am, .int u_10.1, .int u_10.2])), (a_am, .inl (cI, 8, .inl (fun _ => 0))), (a_lo, .inr (5, [.ref a_lt, .ref a_lw])), (a_lt, .inl (cJ, 1326, .inr (.inl u_13))), (a_lw, .inl (cJ, 101, .inr (.inl (fun _ => 0)))), (a_we, .inr (7, [.ref a_wh, .int u_16])), (a_wh, .inl (cI, 60, .inl (fun _ => 0))), (a_ho, .inr (3, [.ref a_hn, .int u_19])), (a_hn, .inl (cI, 24, .inl (fun _ => 0))), (a_fr, .inr (1, [.long u_22.1, .long u_22.2])), (a_pr, .inl (cI, 3, .inl (upd (upd (fun _ => 0) (Int32.toNatClampNeg (0 : Int32)) (1 : Int32)) (Int32.toNatClampNeg (1 : Int32)) (5 : Int32))))] H := hP
  have hD : va_D A [(a_x, .inr (8, [.ref a_la, .ref a_te, .ref a_ha, .ref a_as, .ref a_lo, .ref a_we, .ref a_ho, .ref a_fr, .null, .long (0 : Int64)])), (a_la, .inr (4, [.ref a_lc, .ref a_lr])), (a_lc, .inl (cI, 32, .inl (fun _ => 0))), (a_lr, .inl (cI, 8, .inl u_1)), (a_te, .inr (6, [.ref a_tb, .int u_4.1, .ref u_4.2.1, .int u_4.2.2.1, .int u_4.2.2.2.1, .int u_4.2.2.2.2])), (a_tb, .inl (cI, 300, .inl (fun _ => 0))), (a_ha, .inr (2, [.ref a_hp, .ref a_hl, .ref a_hq, .ref a_hm, .int u_7])), (a_hp, .inl (cI, 12, .inl (fun _ => 0))), (a_hl, .inl (cI, 12, .inl (fun _ => 0))), (a_hq, .inl (cI, 12, .inl (fun _ => 0))), (a_hm, .inl (cI, 12, .inl (fun _ => 0))), (a_as, .inr (0, [.ref a_am, .int u_10.1, .int u_10.2])), (a_am, .inl (cI, 8, .inl (fun _ => 0))), (a_lo, .inr (5, [.ref a_lt, .ref a_lw])), (a_lt, .inl (cJ, 1326, .inr (.inl u_13))), (a_lw, .inl (cJ, 101, .inr (.inl (fun _ => 0)))), (a_we, .inr (7, [.ref a_wh, .int u_16])), (a_wh, .inl (cI, 60, .inl (fun _ => 0))), (a_ho, .inr (3, [.ref a_hn, .int u_19])), (a_hn, .inl (cI, 24, .inl (fun _ => 0))), (a_fr, .inr (1, [.long u_22.1, .long u_22.2])), (a_pr, .inl (cI, 3, .inl (upd (upd (fun _ => 0) (Int32.toNatClampNeg (0 : Int32)) (1 : Int32)) (Int32.toNatClampNeg (1 : Int32)) (5 : Int32))))] := hD
  refine lv_dup hx hb dX9_init_104 rfl ?_
  refine lv_iconst (v := (2 : Int32)) hx hb dX9_init_105 (by decide) ?_
  refine lv_bipush (v := (90 : Int32)) hx hb dX9_init_106 (by decide) ?_
  obtain ⟨hi_27, hf⟩ := pa_gd hf
  refine va_iast hx hb hK hP hD hS 21 0 rfl rfl hi_27 dX9_init_108 (fun H locs hP hD hS => ?_)
  have hP : va_P D vwCl [(a_x, .inr (8, [.ref a_la, .ref a_te, .ref a_ha, .ref a_as, .ref a_lo, .ref a_we, .ref a_ho, .ref a_fr, .null, .long (0 : Int64)])), (a_la, .inr (4, [.ref a_lc, .ref a_lr])), (a_lc, .inl (cI, 32, .inl (fun _ => 0))), (a_lr, .inl (cI, 8, .inl u_1)), (a_te, .inr (6, [.ref a_tb, .int u_4.1, .ref u_4.2.1, .int u_4.2.2.1, .int u_4.2.2.2.1, .int u_4.2.2.2.2])), (a_tb, .inl (cI, 300, .inl (fun _ => 0))), (a_ha, .inr (2, [.ref a_hp, .ref a_hl, .ref a_hq, .ref a_hm, .int u_7])), (a_hp, .inl (cI, 12, .inl (fun _ => 0))), (a_hl, .inl (cI, 12, .inl (fun _ => 0))), (a_hq, .inl (cI, 12, .inl (fun _ => 0))), (a_hm, .inl (cI, 12, .inl (fun _ => 0))), (a_as, .inr (0, [.ref a_am, .int u_10.1, .int u_10.2])), (a_am, .inl (cI, 8, .inl (fun _ => 0))), (a_lo, .inr (5, [.ref a_lt, .ref a_lw])), (a_lt, .inl (cJ, 1326, .inr (.inl u_13))), (a_lw, .inl (cJ, 101, .inr (.inl (fun _ => 0)))), (a_we, .inr (7, [.ref a_wh, .int u_16])), (a_wh, .inl (cI, 60, .inl (fun _ => 0))), (a_ho, .inr (3, [.ref a_hn, .int u_19])), (a_hn, .inl (cI, 24, .inl (fun _ => 0))), (a_fr, .inr (1, [.long u_22.1, .long u_22.2])), (a_pr, .inl (cI, 3, .inl (upd (upd (upd (fun _ => 0) (Int32.toNatClampNeg (0 : Int32)) (1 : Int32)) (Int32.toNatClampNeg (1 : Int32)) (5 : Int32)) (Int32.toNatClampNeg (2 : Int32)) (90 : Int32))))] H := hP
  have hD : va_D A [(a_x, .inr (8, [.ref a_la, .ref a_te, .ref a_ha, .ref a_as, .ref a_lo, .ref a_we, .ref a_ho, .ref a_fr, .null, .long (0 : Int64)])), (a_la, .inr (4, [.ref a_lc, .ref a_lr])), (a_lc, .inl (cI, 32, .inl (fun _ => 0))), (a_lr, .inl (cI, 8, .inl u_1)), (a_te, .inr (6, [.ref a_tb, .int u_4.1, .ref u_4.2.1, .int u_4.2.2.1, .int u_4.2.2.2.1, .int u_4.2.2.2.2])), (a_tb, .inl (cI, 300, .inl (fun _ => 0))), (a_ha, .inr (2, [.ref a_hp, .ref a_hl, .ref a_hq, .ref a_hm, .int u_7])), (a_hp, .inl (cI, 12, .inl (fun _ => 0))), (a_hl, .inl (cI, 12, .inl (fun _ => 0))), (a_hq, .inl (cI, 12, .inl (fun _ => 0))), (a_hm, .inl (cI, 12, .inl (fun _ => 0))), (a_as, .inr (0, [.ref a_am, .int u_10.1, .int u_10.2])), (a_am, .inl (cI, 8, .inl (fun _ => 0))), (a_lo, .inr (5, [.ref a_lt, .ref a_lw])), (a_lt, .inl (cJ, 1326, .inr (.inl u_13))), (a_lw, .inl (cJ, 101, .inr (.inl (fun _ => 0)))), (a_we, .inr (7, [.ref a_wh, .int u_16])), (a_wh, .inl (cI, 60, .inl (fun _ => 0))), (a_ho, .inr (3, [.ref a_hn, .int u_19])), (a_hn, .inl (cI, 24, .inl (fun _ => 0))), (a_fr, .inr (1, [.long u_22.1, .long u_22.2])), (a_pr, .inl (cI, 3, .inl (upd (upd (upd (fun _ => 0) (Int32.toNatClampNeg (0 : Int32)) (1 : Int32)) (Int32.toNatClampNeg (1 : Int32)) (5 : Int32)) (Int32.toNatClampNeg (2 : Int32)) (90 : Int32))))] := hD
  refine va_putF (D := D) (ci := 8) (v := .ref a_pr) (ty := .array .int) (C := RX9) (T := TX9) (N := 10) hx hb hts il_X9_init_X9 tyX9 tyX9_ok nmX9 hown hK hP hD hS 0 rfl rfl 8 (by decide) (hts _ fk_X9_init_46) (fun _ h9 => h9) rfl hin rfl (tyX9_ok 8 (by decide)) rfl rfl (Nat.le_of_ble_eq_true rfl) dX9_init_109 (fun H locs hP hD hS => ?_)
  have hP : va_P D vwCl (wo_X9_init cI cJ a_x a_la a_lc a_lr a_te a_tb a_ha a_hp a_hl a_hq a_hm a_as a_am a_lo a_lt a_lw a_we a_wh a_ho a_hn a_fr a_pr (0 : Int64) (fun _ => 0) u_1 u_4.1 u_4.2.1 u_4.2.2.1 u_4.2.2.2.1 u_4.2.2.2.2 (fun _ => 0) u_7 (fun _ => 0) (fun _ => 0) (fun _ => 0) (fun _ => 0) u_10.1 u_10.2 (fun _ => 0) u_13 (fun _ => 0) u_16 (fun _ => 0) u_19 (fun _ => 0) u_22.1 u_22.2 (upd (upd (upd (fun _ => 0) (Int32.toNatClampNeg (0 : Int32)) (1 : Int32)) (Int32.toNatClampNeg (1 : Int32)) (5 : Int32)) (Int32.toNatClampNeg (2 : Int32)) (90 : Int32))) H := hP
  have hD : va_D A (wo_X9_init cI cJ a_x a_la a_lc a_lr a_te a_tb a_ha a_hp a_hl a_hq a_hm a_as a_am a_lo a_lt a_lw a_we a_wh a_ho a_hn a_fr a_pr (0 : Int64) (fun _ => 0) u_1 u_4.1 u_4.2.1 u_4.2.2.1 u_4.2.2.2.1 u_4.2.2.2.2 (fun _ => 0) u_7 (fun _ => 0) (fun _ => 0) (fun _ => 0) (fun _ => 0) u_10.1 u_10.2 (fun _ => 0) u_13 (fun _ => 0) u_16 (fun _ => 0) u_19 (fun _ => 0) u_22.1 u_22.2 (upd (upd (upd (fun _ => 0) (Int32.toNatClampNeg (0 : Int32)) (1 : Int32)) (Int32.toNatClampNeg (1 : Int32)) (5 : Int32)) (Int32.toNatClampNeg (2 : Int32)) (90 : Int32))) := hD
  refine lv_aload_n hx hb dX9_init_112 rfl (lv_at hl 0 rfl) ?_
  refine lv_lconst (v := (0 : Int64)) hx hb dX9_init_113 (by decide) ?_
  refine va_put (D := D) (ci := 8) (v := .long (0 : Int64)) (ty := .long) (C := RX9) (T := TX9) (N := 10) hx hb hts il_X9_init_X9 tyX9 tyX9_ok nmX9 hown hK hP hD hS 0 rfl rfl 9 (by decide) (hts _ fk_X9_init_47) (fun _ h9 => h9) rfl (tyX9_ok 9 (by decide)) rfl rfl (Nat.le_of_ble_eq_true rfl) dX9_init_114 (fun H locs hP hD hS => ?_)
  have hP : va_P D vwCl (wo_X9_init cI cJ a_x a_la a_lc a_lr a_te a_tb a_ha a_hp a_hl a_hq a_hm a_as a_am a_lo a_lt a_lw a_we a_wh a_ho a_hn a_fr a_pr (0 : Int64) (fun _ => 0) u_1 u_4.1 u_4.2.1 u_4.2.2.1 u_4.2.2.2.1 u_4.2.2.2.2 (fun _ => 0) u_7 (fun _ => 0) (fun _ => 0) (fun _ => 0) (fun _ => 0) u_10.1 u_10.2 (fun _ => 0) u_13 (fun _ => 0) u_16 (fun _ => 0) u_19 (fun _ => 0) u_22.1 u_22.2 (upd (upd (upd (fun _ => 0) (Int32.toNatClampNeg (0 : Int32)) (1 : Int32)) (Int32.toNatClampNeg (1 : Int32)) (5 : Int32)) (Int32.toNatClampNeg (2 : Int32)) (90 : Int32))) H := hP
  have hD : va_D A (wo_X9_init cI cJ a_x a_la a_lc a_lr a_te a_tb a_ha a_hp a_hl a_hq a_hm a_as a_am a_lo a_lt a_lw a_we a_wh a_ho a_hn a_fr a_pr (0 : Int64) (fun _ => 0) u_1 u_4.1 u_4.2.1 u_4.2.2.1 u_4.2.2.2.1 u_4.2.2.2.2 (fun _ => 0) u_7 (fun _ => 0) (fun _ => 0) (fun _ => 0) (fun _ => 0) u_10.1 u_10.2 (fun _ => 0) u_13 (fun _ => 0) u_16 (fun _ => 0) u_19 (fun _ => 0) u_22.1 u_22.2 (upd (upd (upd (fun _ => 0) (Int32.toNatClampNeg (0 : Int32)) (1 : Int32)) (Int32.toNatClampNeg (1 : Int32)) (5 : Int32)) (Int32.toNatClampNeg (2 : Int32)) (90 : Int32))) := hD
  obtain rfl := Option.some.inj hf
  exact pa_en (a_la, a_lc, a_lr, a_te, a_tb, a_ha, a_hp, a_hl, a_hq, a_hm, a_as, a_am, a_lo, a_lt, a_lw, a_we, a_wh, a_ho, a_hn, a_fr, a_pr) X hP hD hS dX9_init_117
set_option maxHeartbeats 4000000 in
set_option maxRecDepth 100000 in
theorem c_X9_init {l : Launch} {D : va_G} {cI cJ : ClassId} {g : pa_GT} {a_x : Nat} {o : Int64 × (Nat → Int32) × Int32 × Nat × Int32 × Int32 × Int32 × Int32 × Int32 × Int32 × (Nat → Int64) × Int32 × Int32 × Int64 × Int64 × (Nat → Int32)} (hf : f_X9_init g = some o) : pa_Mn l yX9_init wsX9_init rm_X9_init D cI cJ g [.ref a_x] [(a_x, .inr (8, [.null, .null, .null, .null, .null, .null, .null, .null, .null, .long (0 : Int64)]))] (fun (u : Nat × Nat × Nat × Nat × Nat × Nat × Nat × Nat × Nat × Nat × Nat × Nat × Nat × Nat × Nat × Nat × Nat × Nat × Nat × Nat × Nat) => wo_X9_init cI cJ a_x u.1 u.2.1 u.2.2.1 u.2.2.2.1 u.2.2.2.2.1 u.2.2.2.2.2.1 u.2.2.2.2.2.2.1 u.2.2.2.2.2.2.2.1 u.2.2.2.2.2.2.2.2.1 u.2.2.2.2.2.2.2.2.2.1 u.2.2.2.2.2.2.2.2.2.2.1 u.2.2.2.2.2.2.2.2.2.2.2.1 u.2.2.2.2.2.2.2.2.2.2.2.2.1 u.2.2.2.2.2.2.2.2.2.2.2.2.2.1 u.2.2.2.2.2.2.2.2.2.2.2.2.2.2.1 u.2.2.2.2.2.2.2.2.2.2.2.2.2.2.2.1 u.2.2.2.2.2.2.2.2.2.2.2.2.2.2.2.2.1 u.2.2.2.2.2.2.2.2.2.2.2.2.2.2.2.2.2.1 u.2.2.2.2.2.2.2.2.2.2.2.2.2.2.2.2.2.2.1 u.2.2.2.2.2.2.2.2.2.2.2.2.2.2.2.2.2.2.2.1 u.2.2.2.2.2.2.2.2.2.2.2.2.2.2.2.2.2.2.2.2 o.1 (fun _ => 0) o.2.1 o.2.2.1 o.2.2.2.1 o.2.2.2.2.1 o.2.2.2.2.2.1 o.2.2.2.2.2.2.1 (fun _ => 0) o.2.2.2.2.2.2.2.1 (fun _ => 0) (fun _ => 0) (fun _ => 0) (fun _ => 0) o.2.2.2.2.2.2.2.2.1 o.2.2.2.2.2.2.2.2.2.1 (fun _ => 0) o.2.2.2.2.2.2.2.2.2.2.1 (fun _ => 0) o.2.2.2.2.2.2.2.2.2.2.2.1 (fun _ => 0) o.2.2.2.2.2.2.2.2.2.2.2.2.1 (fun _ => 0) o.2.2.2.2.2.2.2.2.2.2.2.2.2.1 o.2.2.2.2.2.2.2.2.2.2.2.2.2.2.1 o.2.2.2.2.2.2.2.2.2.2.2.2.2.2.2) 21 1934 := by
  intro sz
  refine pa_metA (cc := cX9_init) (maxL := 1) (ret := none) (lv := [(0, .ref a_x)]) (by decide) rfl (Nat.le_of_ble_eq_true rfl) rfl ?_
  intro p e s m below meth c X hin hsz hP hD ls hl
  subst hsz
  exact w_X9_init_b0 X hin hf hP hD va_S.rf hl
abbrev wo_X10_init (cI cJ : ClassId) (a_m a_mt a_ml a_mr a_mx a_mf a_mg a_mw a_mh : Nat) (v_m_thrown : Int32) (v_m_trace : Int64) (v_m_typed : Int32) (v_m_next : Int32) (v_m_token : Int32) (v_m_place : Int32) (v_m_value : Int32) (v_m_fault : Int32) (v_m_finds : Int32) (v_m_weeks : Int32) (v_m_rows : Int32) (v_m_cardPrice : Int32) (v_m_lotPrice : Int32) (v_m_sure : Int32) (v_m_up : Int64) (v_m_down : Int64) (v_mt : Nat → Int64) (v_ml : Nat → Int32) (v_mr : Nat → Int32) (v_mx : Nat → Int32) (v_mf : Nat → Int32) (v_mg : Nat → Int32) (v_mw : Nat → Int32) (v_mh : Nat → Int32) : va_W := [(a_m, .inr (9, [.int v_m_thrown, .long v_m_trace, .ref a_mt, .ref a_ml, .ref a_mr, .ref a_mx, .int v_m_typed, .int v_m_next, .int v_m_token, .int v_m_place, .int v_m_value, .int v_m_fault, .int v_m_finds, .ref a_mf, .ref a_mg, .int v_m_weeks, .ref a_mw, .int v_m_rows, .ref a_mh, .int v_m_cardPrice, .int v_m_lotPrice, .int v_m_sure, .long v_m_up, .long v_m_down])), (a_mt, .inl (cJ, 2601, .inr (.inl v_mt))), (a_ml, .inl (cI, 32, .inl v_ml)), (a_mr, .inl (cI, 8, .inl v_mr)), (a_mx, .inl (cI, 300, .inl v_mx)), (a_mf, .inl (cI, 50, .inl v_mf)), (a_mg, .inl (cI, 8, .inl v_mg)), (a_mw, .inl (cI, 60, .inl v_mw)), (a_mh, .inl (cI, 72, .inl v_mh))]
abbrev rm_X10_init : Room := { frames := 1, cells := 8, slots := 3131, locals := 12 }
theorem il_X10_init_X10 : ∀ w ∈ wsX100, w ∈ wsX10_init := by decide +kernel
theorem fk_X10_init_0 : Cond.fieldLink RX10 17 "PostedAsksModel" "rates" "[I" ∈ wsX10_init := by decide +kernel
theorem fk_X10_init_1 : Cond.fieldLink RX10 7 "PostedAsksModel" "triangle" "[J" ∈ wsX10_init := by decide +kernel
theorem fk_X10_init_2 : Cond.methodLink RX10 1 objectInit ∈ wsX10_init := by decide +kernel
theorem fk_X10_init_3 : Cond.instanceMethod objectInit ∈ wsX10_init := by decide +kernel
theorem fk_X10_init_4 : Cond.code objectInit ⟨#[0xb1]⟩ 1 none ∈ wsX10_init := by decide +kernel
theorem fk_X10_init_5 : Cond.arrayClass .long ∈ wsX10_init := by decide +kernel
theorem fk_X10_init_6 : Cond.arrayClass .int ∈ wsX10_init := by decide +kernel
theorem fk_X10_init_7 : Cond.fieldLink RX10 13 "PostedAsksModel" "lands" "[I" ∈ wsX10_init := by decide +kernel
theorem fk_X10_init_8 : Cond.fieldLink RX10 20 "PostedAsksModel" "text" "[I" ∈ wsX10_init := by decide +kernel
theorem fk_X10_init_9 : Cond.fieldLink RX10 23 "PostedAsksModel" "find" "[I" ∈ wsX10_init := by decide +kernel
theorem fk_X10_init_10 : Cond.fieldLink RX10 26 "PostedAsksModel" "got" "[I" ∈ wsX10_init := by decide +kernel
theorem fk_X10_init_11 : Cond.fieldLink RX10 29 "PostedAsksModel" "week" "[I" ∈ wsX10_init := by decide +kernel
theorem fk_X10_init_12 : Cond.fieldLink RX10 32 "PostedAsksModel" "house" "[I" ∈ wsX10_init := by decide +kernel
theorem fk_X10_init_13 : Cond.fieldLink RX10 35 "PostedAsksModel" "cardPrice" "I" ∈ wsX10_init := by decide +kernel
theorem fk_X10_init_14 : Cond.fieldLink RX10 39 "PostedAsksModel" "lotPrice" "I" ∈ wsX10_init := by decide +kernel
theorem fk_X10_init_15 : Cond.fieldLink RX10 42 "PostedAsksModel" "sure" "I" ∈ wsX10_init := by decide +kernel
def f_X10_init_L174_body (v_m_cardPrice : Int32) (v_m_lotPrice : Int32) (v_m_sure : Int32) (v_mt : Nat → Int64) (rec174 : Int32 → (Nat → Int32) → Option (Int32 × Int32 × Int32 × (Nat → Int64) × (Nat → Int32))) (x1 : Int32) (v_mr : Nat → Int32) : Option (Int32 × Int32 × Int32 × (Nat → Int64) × (Nat → Int32)) :=
  if (8 : Int32) ≤ x1 then
    some (v_m_cardPrice, v_m_lotPrice, v_m_sure, v_mt, v_mr)
  else
    if pa_ib x1 8 = true then
      rec174 (x1 + (1 : Int32)) (upd v_mr (Int32.toNatClampNeg x1) (100 : Int32))
    else none
def f_X10_init_L174 (v_m_cardPrice : Int32) (v_m_lotPrice : Int32) (v_m_sure : Int32) (v_mt : Nat → Int64) : Nat → Int32 → (Nat → Int32) → Option (Int32 × Int32 × Int32 × (Nat → Int64) × (Nat → Int32))
  | 0 => fun _ _ => none
  | n + 1 => f_X10_init_L174_body v_m_cardPrice v_m_lotPrice v_m_sure v_mt (f_X10_init_L174 v_m_cardPrice v_m_lotPrice v_m_sure v_mt n)
def f_X10_init_L106_body (rec88 : Int32 → (Nat → Int64) → Option (Int32 × Int32 × Int32 × (Nat → Int64) × (Nat → Int32))) (x1 : Int32) (v_m_cardPrice : Int32) (v_m_lotPrice : Int32) (v_m_sure : Int32) (v_mr : Nat → Int32) (rec106 : Int32 → (Nat → Int64) → Option (Int32 × Int32 × Int32 × (Nat → Int64) × (Nat → Int32))) (x2 : Int32) (v_mt : Nat → Int64) : Option (Int32 × Int32 × Int32 × (Nat → Int64) × (Nat → Int32)) :=
  if x1 < x2 then
    rec88 (x1 + (1 : Int32)) v_mt
  else
    if pa_ib ((((51 : Int32) * (x1 - (1 : Int32))) + x2) - (1 : Int32)) 2601 = true then
      if x1 ≤ x2 then
        if pa_ib (((51 : Int32) * x1) + x2) 2601 = true then
          rec106 (x2 + (1 : Int32)) (vp_updL v_mt (Int32.toNatClampNeg (((51 : Int32) * x1) + x2)) ((v_mt (Int32.toNatClampNeg ((((51 : Int32) * (x1 - (1 : Int32))) + x2) - (1 : Int32)))) + (0 : Int64)))
        else none
      else
        if pa_ib (((51 : Int32) * (x1 - (1 : Int32))) + x2) 2601 = true then
          if pa_ib (((51 : Int32) * x1) + x2) 2601 = true then
            rec106 (x2 + (1 : Int32)) (vp_updL v_mt (Int32.toNatClampNeg (((51 : Int32) * x1) + x2)) ((v_mt (Int32.toNatClampNeg ((((51 : Int32) * (x1 - (1 : Int32))) + x2) - (1 : Int32)))) + (v_mt (Int32.toNatClampNeg (((51 : Int32) * (x1 - (1 : Int32))) + x2)))))
          else none
        else none
    else none
def f_X10_init_L106 (rec88 : Int32 → (Nat → Int64) → Option (Int32 × Int32 × Int32 × (Nat → Int64) × (Nat → Int32))) (x1 : Int32) (v_m_cardPrice : Int32) (v_m_lotPrice : Int32) (v_m_sure : Int32) (v_mr : Nat → Int32) : Nat → Int32 → (Nat → Int64) → Option (Int32 × Int32 × Int32 × (Nat → Int64) × (Nat → Int32))
  | 0 => fun _ _ => none
  | n + 1 => f_X10_init_L106_body rec88 x1 v_m_cardPrice v_m_lotPrice v_m_sure v_mr (f_X10_init_L106 rec88 x1 v_m_cardPrice v_m_lotPrice v_m_sure v_mr n)
def f_X10_init_L88_body (v_m_cardPrice : Int32) (v_m_lotPrice : Int32) (v_m_sure : Int32) (v_mr : Nat → Int32) (rec88 : Int32 → (Nat → Int64) → Option (Int32 × Int32 × Int32 × (Nat → Int64) × (Nat → Int32))) (x1 : Int32) (v_mt : Nat → Int64) : Option (Int32 × Int32 × Int32 × (Nat → Int64) × (Nat → Int32)) :=
  if (51 : Int32) ≤ x1 then
    f_X10_init_L174 v_m_cardPrice v_m_lotPrice v_m_sure v_mt pa_fu (0 : Int32) v_mr
  else
    if pa_ib ((51 : Int32) * x1) 2601 = true then
      f_X10_init_L106 rec88 x1 v_m_cardPrice v_m_lotPrice v_m_sure v_mr pa_fu (1 : Int32) (vp_updL v_mt (Int32.toNatClampNeg ((51 : Int32) * x1)) (1 : Int64))
    else none
def f_X10_init_L88 (v_m_cardPrice : Int32) (v_m_lotPrice : Int32) (v_m_sure : Int32) (v_mr : Nat → Int32) : Nat → Int32 → (Nat → Int64) → Option (Int32 × Int32 × Int32 × (Nat → Int64) × (Nat → Int32))
  | 0 => fun _ _ => none
  | n + 1 => f_X10_init_L88_body v_m_cardPrice v_m_lotPrice v_m_sure v_mr (f_X10_init_L88 v_m_cardPrice v_m_lotPrice v_m_sure v_mr n)
def f_X10_init  : Option (Int32 × Int32 × Int32 × (Nat → Int64) × (Nat → Int32)) :=
  f_X10_init_L88 (1 : Int32) (5 : Int32) (90 : Int32) (fun _ => 0) pa_fu (0 : Int32) (fun _ => 0)
set_option maxHeartbeats 4000000 in
set_option maxRecDepth 100000 in
theorem w_X10_init_L174 {l : Launch} {D : va_G} {cI cJ : ClassId} {g : pa_GT} {a_m a_mt a_ml a_mr a_mx a_mf a_mg a_mw a_mh : Nat} {A : Nat → Prop} {p : Program} {e : Env} {s : State} {m : MethodId} {args : Array Value} {below : List Frame} {meth : Method} {c : Code} {v_m_cardPrice : Int32} {v_m_lotPrice : Int32} {v_m_sure : Int32} {v_mt : Nat → Int64}  {o : Int32 × Int32 × Int32 × (Nat → Int64) × (Nat → Int32)} (X : pa_X cX10_init 3 none RX10 wsX10_init D cI cJ g A p s m args meth c)  : ∀ (n : Nat) (x1 : Int32) (v_mr : Nat → Int32), f_X10_init_L174 v_m_cardPrice v_m_lotPrice v_m_sure v_mt n x1 v_mr = some o → ∀ (H : Heap) (locs : List Loc) , va_P D vwCl (wo_X10_init cI cJ a_m a_mt a_ml a_mr a_mx a_mf a_mg a_mw a_mh 0 0 0 0 0 0 0 0 0 0 0 v_m_cardPrice v_m_lotPrice v_m_sure 0 0 v_mt (fun _ => 0) v_mr (fun _ => 0) (fun _ => 0) (fun _ => 0) (fun _ => 0) (fun _ => 0)) H → va_D A (wo_X10_init cI cJ a_m a_mt a_ml a_mr a_mx a_mf a_mg a_mw a_mh 0 0 0 0 0 0 0 0 0 0 0 v_m_cardPrice v_m_lotPrice v_m_sure 0 0 v_mt (fun _ => 0) v_mr (fun _ => 0) (fun _ => 0) (fun _ => 0) (fun _ => 0) (fun _ => 0)) → va_S A s.heap H locs → ∀ (ls : Array Slot), lv_has ls 3 [(0, .ref a_m), (1, .int x1)] → W p l e (headSpec wsX10_init rm_X10_init).room s m args below meth c H locs 8 3131 (MQ below (va_Qv (fun (_ : Nat × Nat × Nat × Nat × Nat × Nat × Nat × Nat) => True) (pa_QN D A (fun (u : Nat × Nat × Nat × Nat × Nat × Nat × Nat × Nat) => wo_X10_init cI cJ a_m u.1 u.2.1 u.2.2.1 u.2.2.2.1 u.2.2.2.2.1 u.2.2.2.2.2.1 u.2.2.2.2.2.2.1 u.2.2.2.2.2.2.2 0 0 0 0 0 0 0 0 0 0 0 o.1 o.2.1 o.2.2.1 0 0 o.2.2.2.1 (fun _ => 0) o.2.2.2.2 (fun _ => 0) (fun _ => 0) (fun _ => 0) (fun _ => 0) (fun _ => 0))) A) args s 8 3131 A) (F0 m 174 ls []) := by
  obtain ⟨hx, hb, hr, hml, hown, hts, hK, hA, hG, hlk⟩ := id X
  intro n
  induction n with
  | zero =>
    intro x1 v_mr hf
    have hf : (none : Option (Int32 × Int32 × Int32 × (Nat → Int64) × (Nat → Int32))) = some o := hf
    cases hf
  | succ n hrec174 =>
    intro x1 v_mr hf H locs  hP hD hS ls hl
    have hf : f_X10_init_L174_body v_m_cardPrice v_m_lotPrice v_m_sure v_mt (f_X10_init_L174 v_m_cardPrice v_m_lotPrice v_m_sure v_mt n) x1 v_mr = some o := hf
    delta f_X10_init_L174_body at hf
    generalize hgr : f_X10_init_L174 v_m_cardPrice v_m_lotPrice v_m_sure v_mt n = rec174 at hf hrec174
    refine lv_iload_n hx hb dX10_init_174 rfl (lv_at hl 1 rfl) ?_
    refine lv_bipush (v := (8 : Int32)) hx hb dX10_init_175 (by decide) ?_
    refine lv_icmp_ge (tgt := 194) hx hb dX10_init_177 (by decide) (fun c_1 => ?_) (fun c_1 => ?_)
    · have hf := (if_pos c_1).symm.trans hf
      obtain rfl := Option.some.inj hf
      exact pa_en (a_mt, a_ml, a_mr, a_mx, a_mf, a_mg, a_mw, a_mh) X hP hD hS dX10_init_194
    · have hf := (if_neg c_1).symm.trans hf
      refine lv_aload_n hx hb dX10_init_180 rfl (lv_at hl 0 rfl) ?_
      refine va_get (D := D) (ci := 9) (v := .ref a_mr) (C := RX10) (T := TX10) (N := 24) hx hb hts il_X10_init_X10 hown hK hP 0 rfl rfl 4 (by decide) (hts _ fk_X10_init_0) (fun _ h9 => h9) rfl dX10_init_181 ?_
      refine lv_iload_n hx hb dX10_init_184 rfl (lv_at hl 1 rfl) ?_
      refine lv_bipush (v := (100 : Int32)) hx hb dX10_init_185 (by decide) ?_
      obtain ⟨hi_2, hf⟩ := pa_gd hf
      refine va_iast hx hb hK hP hD hS 3 0 rfl rfl hi_2 dX10_init_187 (fun H locs hP hD hS => ?_)
      have hP : va_P D vwCl (wo_X10_init cI cJ a_m a_mt a_ml a_mr a_mx a_mf a_mg a_mw a_mh 0 0 0 0 0 0 0 0 0 0 0 v_m_cardPrice v_m_lotPrice v_m_sure 0 0 v_mt (fun _ => 0) (upd v_mr (Int32.toNatClampNeg x1) (100 : Int32)) (fun _ => 0) (fun _ => 0) (fun _ => 0) (fun _ => 0) (fun _ => 0)) H := hP
      have hD : va_D A (wo_X10_init cI cJ a_m a_mt a_ml a_mr a_mx a_mf a_mg a_mw a_mh 0 0 0 0 0 0 0 0 0 0 0 v_m_cardPrice v_m_lotPrice v_m_sure 0 0 v_mt (fun _ => 0) (upd v_mr (Int32.toNatClampNeg x1) (100 : Int32)) (fun _ => 0) (fun _ => 0) (fun _ => 0) (fun _ => 0) (fun _ => 0)) := hD
      refine lv_iinc (v := (x1 + (1 : Int32))) (lv' := [(1, .int (x1 + (1 : Int32))), (0, .ref a_m)]) hx hb dX10_init_188 hl (k := 1) rfl rfl (by decide) rfl (fun ls hl => ?_)
      refine lv_goto (tgt := 174) hx hb dX10_init_191 (by decide) ?_
      exact hrec174 _ _ hf _ _  hP hD hS _ (lv_sub hl [1, 0] rfl)
set_option maxHeartbeats 4000000 in
set_option maxRecDepth 100000 in
theorem w_X10_init_L106 {l : Launch} {D : va_G} {cI cJ : ClassId} {g : pa_GT} {a_m a_mt a_ml a_mr a_mx a_mf a_mg a_mw a_mh : Nat} {A : Nat → Prop} {p : Program} {e : Env} {s : State} {m : MethodId} {args : Array Value} {below : List Frame} {meth : Method} {c : Code} {x1 : Int32} {v_m_cardPrice : Int32} {v_m_lotPrice : Int32} {v_m_sure : Int32} {v_mr : Nat → Int32}  {o : Int32 × Int32 × Int32 × (Nat → Int64) × (Nat → Int32)} (X : pa_X cX10_init 3 none RX10 wsX10_init D cI cJ g A p s m args meth c) {rec88 : Int32 → (Nat → Int64) → Option (Int32 × Int32 × Int32 × (Nat → Int64) × (Nat → Int32))} (hrec88 : ∀ (x1 : Int32) (v_mt : Nat → Int64), rec88 x1 v_mt = some o → ∀ (H : Heap) (locs : List Loc) , va_P D vwCl (wo_X10_init cI cJ a_m a_mt a_ml a_mr a_mx a_mf a_mg a_mw a_mh 0 0 0 0 0 0 0 0 0 0 0 v_m_cardPrice v_m_lotPrice v_m_sure 0 0 v_mt (fun _ => 0) v_mr (fun _ => 0) (fun _ => 0) (fun _ => 0) (fun _ => 0) (fun _ => 0)) H → va_D A (wo_X10_init cI cJ a_m a_mt a_ml a_mr a_mx a_mf a_mg a_mw a_mh 0 0 0 0 0 0 0 0 0 0 0 v_m_cardPrice v_m_lotPrice v_m_sure 0 0 v_mt (fun _ => 0) v_mr (fun _ => 0) (fun _ => 0) (fun _ => 0) (fun _ => 0) (fun _ => 0)) → va_S A s.heap H locs → ∀ (ls : Array Slot), lv_has ls 3 [(0, .ref a_m), (1, .int x1)] → W p l e (headSpec wsX10_init rm_X10_init).room s m args below meth c H locs 8 3131 (MQ below (va_Qv (fun (_ : Nat × Nat × Nat × Nat × Nat × Nat × Nat × Nat) => True) (pa_QN D A (fun (u : Nat × Nat × Nat × Nat × Nat × Nat × Nat × Nat) => wo_X10_init cI cJ a_m u.1 u.2.1 u.2.2.1 u.2.2.2.1 u.2.2.2.2.1 u.2.2.2.2.2.1 u.2.2.2.2.2.2.1 u.2.2.2.2.2.2.2 0 0 0 0 0 0 0 0 0 0 0 o.1 o.2.1 o.2.2.1 0 0 o.2.2.2.1 (fun _ => 0) o.2.2.2.2 (fun _ => 0) (fun _ => 0) (fun _ => 0) (fun _ => 0) (fun _ => 0))) A) args s 8 3131 A) (F0 m 88 ls [])) : ∀ (n : Nat) (x2 : Int32) (v_mt : Nat → Int64), f_X10_init_L106 rec88 x1 v_m_cardPrice v_m_lotPrice v_m_sure v_mr n x2 v_mt = some o → ∀ (H : Heap) (locs : List Loc) , va_P D vwCl (wo_X10_init cI cJ a_m a_mt a_ml a_mr a_mx a_mf a_mg a_mw a_mh 0 0 0 0 0 0 0 0 0 0 0 v_m_cardPrice v_m_lotPrice v_m_sure 0 0 v_mt (fun _ => 0) v_mr (fun _ => 0) (fun _ => 0) (fun _ => 0) (fun _ => 0) (fun _ => 0)) H → va_D A (wo_X10_init cI cJ a_m a_mt a_ml a_mr a_mx a_mf a_mg a_mw a_mh 0 0 0 0 0 0 0 0 0 0 0 v_m_cardPrice v_m_lotPrice v_m_sure 0 0 v_mt (fun _ => 0) v_mr (fun _ => 0) (fun _ => 0) (fun _ => 0) (fun _ => 0) (fun _ => 0)) → va_S A s.heap H locs → ∀ (ls : Array Slot), lv_has ls 3 [(0, .ref a_m), (1, .int x1), (2, .int x2)] → W p l e (headSpec wsX10_init rm_X10_init).room s m args below meth c H locs 8 3131 (MQ below (va_Qv (fun (_ : Nat × Nat × Nat × Nat × Nat × Nat × Nat × Nat) => True) (pa_QN D A (fun (u : Nat × Nat × Nat × Nat × Nat × Nat × Nat × Nat) => wo_X10_init cI cJ a_m u.1 u.2.1 u.2.2.1 u.2.2.2.1 u.2.2.2.2.1 u.2.2.2.2.2.1 u.2.2.2.2.2.2.1 u.2.2.2.2.2.2.2 0 0 0 0 0 0 0 0 0 0 0 o.1 o.2.1 o.2.2.1 0 0 o.2.2.2.1 (fun _ => 0) o.2.2.2.2 (fun _ => 0) (fun _ => 0) (fun _ => 0) (fun _ => 0) (fun _ => 0))) A) args s 8 3131 A) (F0 m 106 ls []) := by
  obtain ⟨hx, hb, hr, hml, hown, hts, hK, hA, hG, hlk⟩ := id X
  intro n
  induction n with
  | zero =>
    intro x2 v_mt hf
    have hf : (none : Option (Int32 × Int32 × Int32 × (Nat → Int64) × (Nat → Int32))) = some o := hf
    cases hf
  | succ n hrec106 =>
    intro x2 v_mt hf H locs  hP hD hS ls hl
    have hf : f_X10_init_L106_body rec88 x1 v_m_cardPrice v_m_lotPrice v_m_sure v_mr (f_X10_init_L106 rec88 x1 v_m_cardPrice v_m_lotPrice v_m_sure v_mr n) x2 v_mt = some o := hf
    delta f_X10_init_L106_body at hf
    generalize hgr : f_X10_init_L106 rec88 x1 v_m_cardPrice v_m_lotPrice v_m_sure v_mr n = rec106 at hf hrec106
    refine lv_iload_n hx hb dX10_init_106 rfl (lv_at hl 2 rfl) ?_
    refine lv_iload_n hx hb dX10_init_107 rfl (lv_at hl 1 rfl) ?_
    refine lv_icmp_gt (tgt := 166) hx hb dX10_init_108 (by decide) (fun c_3 => ?_) (fun c_3 => ?_)
    · have hf := (if_pos c_3).symm.trans hf
      refine lv_iinc (v := (x1 + (1 : Int32))) (lv' := [(1, .int (x1 + (1 : Int32))), (0, .ref a_m), (2, .int x2)]) hx hb dX10_init_166 hl (k := 1) rfl rfl (by decide) rfl (fun ls hl => ?_)
      refine lv_goto (tgt := 88) hx hb dX10_init_169 (by decide) ?_
      exact hrec88 _ _ hf _ _  hP hD hS _ (lv_sub hl [1, 0] rfl)
    · have hf := (if_neg c_3).symm.trans hf
      refine lv_aload_n hx hb dX10_init_111 rfl (lv_at hl 0 rfl) ?_
      refine va_get (D := D) (ci := 9) (v := .ref a_mt) (C := RX10) (T := TX10) (N := 24) hx hb hts il_X10_init_X10 hown hK hP 0 rfl rfl 2 (by decide) (hts _ fk_X10_init_1) (fun _ h9 => h9) rfl dX10_init_112 ?_
      refine lv_bipush (v := (51 : Int32)) hx hb dX10_init_115 (by decide) ?_
      refine lv_iload_n hx hb dX10_init_117 rfl (lv_at hl 1 rfl) ?_
      refine lv_imul hx hb dX10_init_118 ?_
      refine lv_iload_n hx hb dX10_init_119 rfl (lv_at hl 2 rfl) ?_
      refine lv_iadd hx hb dX10_init_120 ?_
      refine lv_aload_n hx hb dX10_init_121 rfl (lv_at hl 0 rfl) ?_
      refine va_get (D := D) (ci := 9) (v := .ref a_mt) (C := RX10) (T := TX10) (N := 24) hx hb hts il_X10_init_X10 hown hK hP 0 rfl rfl 2 (by decide) (hts _ fk_X10_init_1) (fun _ h9 => h9) rfl dX10_init_122 ?_
      refine lv_bipush (v := (51 : Int32)) hx hb dX10_init_125 (by decide) ?_
      refine lv_iload_n hx hb dX10_init_127 rfl (lv_at hl 1 rfl) ?_
      refine lv_iconst (v := (1 : Int32)) hx hb dX10_init_128 (by decide) ?_
      refine lv_isub hx hb dX10_init_129 ?_
      refine lv_imul hx hb dX10_init_130 ?_
      refine lv_iload_n hx hb dX10_init_131 rfl (lv_at hl 2 rfl) ?_
      refine lv_iadd hx hb dX10_init_132 ?_
      refine lv_iconst (v := (1 : Int32)) hx hb dX10_init_133 (by decide) ?_
      refine lv_isub hx hb dX10_init_134 ?_
      obtain ⟨hi_4, hf⟩ := pa_gd hf
      refine va_lald hx hb hK hP 1 1 rfl rfl hi_4 dX10_init_135 ?_
      refine lv_iload_n hx hb dX10_init_136 rfl (lv_at hl 2 rfl) ?_
      refine lv_iload_n hx hb dX10_init_137 rfl (lv_at hl 1 rfl) ?_
      refine lv_icmp_ge (tgt := 157) hx hb dX10_init_138 (by decide) (fun c_5 => ?_) (fun c_5 => ?_)
      · have hf := (if_pos c_5).symm.trans hf
        refine lv_lconst (v := (0 : Int64)) hx hb dX10_init_157 (by decide) ?_
        refine lv_ladd hx hb dX10_init_158 ?_
        obtain ⟨hi_6, hf⟩ := pa_gd hf
        refine va_last hx hb hK hP hD hS 1 1 rfl rfl hi_6 dX10_init_159 (fun H locs hP hD hS => ?_)
        have hP : va_P D vwCl (wo_X10_init cI cJ a_m a_mt a_ml a_mr a_mx a_mf a_mg a_mw a_mh 0 0 0 0 0 0 0 0 0 0 0 v_m_cardPrice v_m_lotPrice v_m_sure 0 0 (vp_updL v_mt (Int32.toNatClampNeg (((51 : Int32) * x1) + x2)) ((v_mt (Int32.toNatClampNeg ((((51 : Int32) * (x1 - (1 : Int32))) + x2) - (1 : Int32)))) + (0 : Int64))) (fun _ => 0) v_mr (fun _ => 0) (fun _ => 0) (fun _ => 0) (fun _ => 0) (fun _ => 0)) H := hP
        have hD : va_D A (wo_X10_init cI cJ a_m a_mt a_ml a_mr a_mx a_mf a_mg a_mw a_mh 0 0 0 0 0 0 0 0 0 0 0 v_m_cardPrice v_m_lotPrice v_m_sure 0 0 (vp_updL v_mt (Int32.toNatClampNeg (((51 : Int32) * x1) + x2)) ((v_mt (Int32.toNatClampNeg ((((51 : Int32) * (x1 - (1 : Int32))) + x2) - (1 : Int32)))) + (0 : Int64))) (fun _ => 0) v_mr (fun _ => 0) (fun _ => 0) (fun _ => 0) (fun _ => 0) (fun _ => 0)) := hD
        refine lv_iinc (v := (x2 + (1 : Int32))) (lv' := [(2, .int (x2 + (1 : Int32))), (0, .ref a_m), (1, .int x1)]) hx hb dX10_init_160 hl (k := 2) rfl rfl (by decide) rfl (fun ls hl => ?_)
        refine lv_goto (tgt := 106) hx hb dX10_init_163 (by decide) ?_
        exact hrec106 _ _ hf _ _  hP hD hS _ (lv_sub hl [1, 2, 0] rfl)
      · have hf := (if_neg c_5).symm.trans hf
        refine lv_aload_n hx hb dX10_init_141 rfl (lv_at hl 0 rfl) ?_
        refine va_get (D := D) (ci := 9) (v := .ref a_mt) (C := RX10) (T := TX10) (N := 24) hx hb hts il_X10_init_X10 hown hK hP 0 rfl rfl 2 (by decide) (hts _ fk_X10_init_1) (fun _ h9 => h9) rfl dX10_init_142 ?_
        refine lv_bipush (v := (51 : Int32)) hx hb dX10_init_145 (by decide) ?_
        refine lv_iload_n hx hb dX10_init_147 rfl (lv_at hl 1 rfl) ?_
        refine lv_iconst (v := (1 : Int32)) hx hb dX10_init_148 (by decide) ?_
        refine lv_isub hx hb dX10_init_149 ?_
        refine lv_imul hx hb dX10_init_150 ?_
        refine lv_iload_n hx hb dX10_init_151 rfl (lv_at hl 2 rfl) ?_
        refine lv_iadd hx hb dX10_init_152 ?_
        obtain ⟨hi_7, hf⟩ := pa_gd hf
        refine va_lald hx hb hK hP 1 1 rfl rfl hi_7 dX10_init_153 ?_
        refine lv_goto (tgt := 158) hx hb dX10_init_154 (by decide) ?_
        refine lv_ladd hx hb dX10_init_158 ?_
        obtain ⟨hi_8, hf⟩ := pa_gd hf
        refine va_last hx hb hK hP hD hS 1 1 rfl rfl hi_8 dX10_init_159 (fun H locs hP hD hS => ?_)
        have hP : va_P D vwCl (wo_X10_init cI cJ a_m a_mt a_ml a_mr a_mx a_mf a_mg a_mw a_mh 0 0 0 0 0 0 0 0 0 0 0 v_m_cardPrice v_m_lotPrice v_m_sure 0 0 (vp_updL v_mt (Int32.toNatClampNeg (((51 : Int32) * x1) + x2)) ((v_mt (Int32.toNatClampNeg ((((51 : Int32) * (x1 - (1 : Int32))) + x2) - (1 : Int32)))) + (v_mt (Int32.toNatClampNeg (((51 : Int32) * (x1 - (1 : Int32))) + x2))))) (fun _ => 0) v_mr (fun _ => 0) (fun _ => 0) (fun _ => 0) (fun _ => 0) (fun _ => 0)) H := hP
        have hD : va_D A (wo_X10_init cI cJ a_m a_mt a_ml a_mr a_mx a_mf a_mg a_mw a_mh 0 0 0 0 0 0 0 0 0 0 0 v_m_cardPrice v_m_lotPrice v_m_sure 0 0 (vp_updL v_mt (Int32.toNatClampNeg (((51 : Int32) * x1) + x2)) ((v_mt (Int32.toNatClampNeg ((((51 : Int32) * (x1 - (1 : Int32))) + x2) - (1 : Int32)))) + (v_mt (Int32.toNatClampNeg (((51 : Int32) * (x1 - (1 : Int32))) + x2))))) (fun _ => 0) v_mr (fun _ => 0) (fun _ => 0) (fun _ => 0) (fun _ => 0) (fun _ => 0)) := hD
        refine lv_iinc (v := (x2 + (1 : Int32))) (lv' := [(2, .int (x2 + (1 : Int32))), (0, .ref a_m), (1, .int x1)]) hx hb dX10_init_160 hl (k := 2) rfl rfl (by decide) rfl (fun ls hl => ?_)
        refine lv_goto (tgt := 106) hx hb dX10_init_163 (by decide) ?_
        exact hrec106 _ _ hf _ _  hP hD hS _ (lv_sub hl [1, 2, 0] rfl)
set_option maxHeartbeats 4000000 in
set_option maxRecDepth 100000 in
theorem w_X10_init_L88 {l : Launch} {D : va_G} {cI cJ : ClassId} {g : pa_GT} {a_m a_mt a_ml a_mr a_mx a_mf a_mg a_mw a_mh : Nat} {A : Nat → Prop} {p : Program} {e : Env} {s : State} {m : MethodId} {args : Array Value} {below : List Frame} {meth : Method} {c : Code} {v_m_cardPrice : Int32} {v_m_lotPrice : Int32} {v_m_sure : Int32} {v_mr : Nat → Int32}  {o : Int32 × Int32 × Int32 × (Nat → Int64) × (Nat → Int32)} (X : pa_X cX10_init 3 none RX10 wsX10_init D cI cJ g A p s m args meth c)  : ∀ (n : Nat) (x1 : Int32) (v_mt : Nat → Int64), f_X10_init_L88 v_m_cardPrice v_m_lotPrice v_m_sure v_mr n x1 v_mt = some o → ∀ (H : Heap) (locs : List Loc) , va_P D vwCl (wo_X10_init cI cJ a_m a_mt a_ml a_mr a_mx a_mf a_mg a_mw a_mh 0 0 0 0 0 0 0 0 0 0 0 v_m_cardPrice v_m_lotPrice v_m_sure 0 0 v_mt (fun _ => 0) v_mr (fun _ => 0) (fun _ => 0) (fun _ => 0) (fun _ => 0) (fun _ => 0)) H → va_D A (wo_X10_init cI cJ a_m a_mt a_ml a_mr a_mx a_mf a_mg a_mw a_mh 0 0 0 0 0 0 0 0 0 0 0 v_m_cardPrice v_m_lotPrice v_m_sure 0 0 v_mt (fun _ => 0) v_mr (fun _ => 0) (fun _ => 0) (fun _ => 0) (fun _ => 0) (fun _ => 0)) → va_S A s.heap H locs → ∀ (ls : Array Slot), lv_has ls 3 [(0, .ref a_m), (1, .int x1)] → W p l e (headSpec wsX10_init rm_X10_init).room s m args below meth c H locs 8 3131 (MQ below (va_Qv (fun (_ : Nat × Nat × Nat × Nat × Nat × Nat × Nat × Nat) => True) (pa_QN D A (fun (u : Nat × Nat × Nat × Nat × Nat × Nat × Nat × Nat) => wo_X10_init cI cJ a_m u.1 u.2.1 u.2.2.1 u.2.2.2.1 u.2.2.2.2.1 u.2.2.2.2.2.1 u.2.2.2.2.2.2.1 u.2.2.2.2.2.2.2 0 0 0 0 0 0 0 0 0 0 0 o.1 o.2.1 o.2.2.1 0 0 o.2.2.2.1 (fun _ => 0) o.2.2.2.2 (fun _ => 0) (fun _ => 0) (fun _ => 0) (fun _ => 0) (fun _ => 0))) A) args s 8 3131 A) (F0 m 88 ls []) := by
  obtain ⟨hx, hb, hr, hml, hown, hts, hK, hA, hG, hlk⟩ := id X
  intro n
  induction n with
  | zero =>
    intro x1 v_mt hf
    have hf : (none : Option (Int32 × Int32 × Int32 × (Nat → Int64) × (Nat → Int32))) = some o := hf
    cases hf
  | succ n hrec88 =>
    intro x1 v_mt hf H locs  hP hD hS ls hl
    have hf : f_X10_init_L88_body v_m_cardPrice v_m_lotPrice v_m_sure v_mr (f_X10_init_L88 v_m_cardPrice v_m_lotPrice v_m_sure v_mr n) x1 v_mt = some o := hf
    delta f_X10_init_L88_body at hf
    generalize hgr : f_X10_init_L88 v_m_cardPrice v_m_lotPrice v_m_sure v_mr n = rec88 at hf hrec88
    refine lv_iload_n hx hb dX10_init_88 rfl (lv_at hl 1 rfl) ?_
    refine lv_bipush (v := (51 : Int32)) hx hb dX10_init_89 (by decide) ?_
    refine lv_icmp_ge (tgt := 172) hx hb dX10_init_91 (by decide) (fun c_9 => ?_) (fun c_9 => ?_)
    · have hf := (if_pos c_9).symm.trans hf
      refine lv_iconst (v := (0 : Int32)) hx hb dX10_init_172 (by decide) ?_
      refine lv_istore_n (lv' := [(1, .int (0 : Int32)), (0, .ref a_m)]) hx hb dX10_init_173 rfl hl (by decide) rfl (fun ls hl => ?_)
      exact w_X10_init_L174 X  _ _ _ hf _ _  hP hD hS _ (lv_sub hl [1, 0] rfl)
    · have hf := (if_neg c_9).symm.trans hf
      refine lv_aload_n hx hb dX10_init_94 rfl (lv_at hl 0 rfl) ?_
      refine va_get (D := D) (ci := 9) (v := .ref a_mt) (C := RX10) (T := TX10) (N := 24) hx hb hts il_X10_init_X10 hown hK hP 0 rfl rfl 2 (by decide) (hts _ fk_X10_init_1) (fun _ h9 => h9) rfl dX10_init_95 ?_
      refine lv_bipush (v := (51 : Int32)) hx hb dX10_init_98 (by decide) ?_
      refine lv_iload_n hx hb dX10_init_100 rfl (lv_at hl 1 rfl) ?_
      refine lv_imul hx hb dX10_init_101 ?_
      refine lv_lconst (v := (1 : Int64)) hx hb dX10_init_102 (by decide) ?_
      obtain ⟨hi_10, hf⟩ := pa_gd hf
      refine va_last hx hb hK hP hD hS 1 1 rfl rfl hi_10 dX10_init_103 (fun H locs hP hD hS => ?_)
      have hP : va_P D vwCl (wo_X10_init cI cJ a_m a_mt a_ml a_mr a_mx a_mf a_mg a_mw a_mh 0 0 0 0 0 0 0 0 0 0 0 v_m_cardPrice v_m_lotPrice v_m_sure 0 0 (vp_updL v_mt (Int32.toNatClampNeg ((51 : Int32) * x1)) (1 : Int64)) (fun _ => 0) v_mr (fun _ => 0) (fun _ => 0) (fun _ => 0) (fun _ => 0) (fun _ => 0)) H := hP
      have hD : va_D A (wo_X10_init cI cJ a_m a_mt a_ml a_mr a_mx a_mf a_mg a_mw a_mh 0 0 0 0 0 0 0 0 0 0 0 v_m_cardPrice v_m_lotPrice v_m_sure 0 0 (vp_updL v_mt (Int32.toNatClampNeg ((51 : Int32) * x1)) (1 : Int64)) (fun _ => 0) v_mr (fun _ => 0) (fun _ => 0) (fun _ => 0) (fun _ => 0) (fun _ => 0)) := hD
      refine lv_iconst (v := (1 : Int32)) hx hb dX10_init_104 (by decide) ?_
      refine lv_istore_n (lv' := [(2, .int (1 : Int32)), (0, .ref a_m), (1, .int x1)]) hx hb dX10_init_105 rfl hl (by decide) rfl (fun ls hl => ?_)
      exact w_X10_init_L106 X hrec88 _ _ _ hf _ _  hP hD hS _ (lv_sub hl [1, 2, 0] rfl)
set_option maxHeartbeats 4000000 in
set_option maxRecDepth 100000 in
theorem w_X10_init_b0 {l : Launch} {D : va_G} {cI cJ : ClassId} {g : pa_GT} {a_m : Nat} {A : Nat → Prop} {p : Program} {e : Env} {s : State} {m : MethodId} {args : Array Value} {below : List Frame} {meth : Method} {c : Code}  {o : Int32 × Int32 × Int32 × (Nat → Int64) × (Nat → Int32)} (X : pa_X cX10_init 3 none RX10 wsX10_init D cI cJ g A p s m args meth c) (hin : meth.name = "<init>") (hf : f_X10_init  = some o) {H : Heap} {locs : List Loc} (hP : va_P D vwCl [(a_m, .inr (9, [.int (0 : Int32), .long (0 : Int64), .null, .null, .null, .null, .int (0 : Int32), .int (0 : Int32), .int (0 : Int32), .int (0 : Int32), .int (0 : Int32), .int (0 : Int32), .int (0 : Int32), .null, .null, .int (0 : Int32), .null, .int (0 : Int32), .null, .int (0 : Int32), .int (0 : Int32), .int (0 : Int32), .long (0 : Int64), .long (0 : Int64)]))] H) (hD : va_D A [(a_m, .inr (9, [.int (0 : Int32), .long (0 : Int64), .null, .null, .null, .null, .int (0 : Int32), .int (0 : Int32), .int (0 : Int32), .int (0 : Int32), .int (0 : Int32), .int (0 : Int32), .int (0 : Int32), .null, .null, .int (0 : Int32), .null, .int (0 : Int32), .null, .int (0 : Int32), .int (0 : Int32), .int (0 : Int32), .long (0 : Int64), .long (0 : Int64)]))]) (hS : va_S A s.heap H locs) {ls : Array Slot} (hl : lv_has ls 3 [(0, .ref a_m)]) : W p l e (headSpec wsX10_init rm_X10_init).room s m args below meth c H locs 0 0 (MQ below (va_Qv (fun (_ : Nat × Nat × Nat × Nat × Nat × Nat × Nat × Nat) => True) (pa_QN D A (fun (u : Nat × Nat × Nat × Nat × Nat × Nat × Nat × Nat) => wo_X10_init cI cJ a_m u.1 u.2.1 u.2.2.1 u.2.2.2.1 u.2.2.2.2.1 u.2.2.2.2.2.1 u.2.2.2.2.2.2.1 u.2.2.2.2.2.2.2 0 0 0 0 0 0 0 0 0 0 0 o.1 o.2.1 o.2.2.1 0 0 o.2.2.2.1 (fun _ => 0) o.2.2.2.2 (fun _ => 0) (fun _ => 0) (fun _ => 0) (fun _ => 0) (fun _ => 0))) A) args s 8 3131 A) (F0 m 0 ls []) := by
  obtain ⟨hx, hb, hr, hml, hown, hts, hK, hA, hG, hlk⟩ := id X
  delta f_X10_init at hf
  refine lv_aload_n hx hb dX10_init_0 rfl (lv_at hl 0 rfl) ?_
  refine W.objInit hx hb hown (hts _ fk_X10_init_2) (hts _ fk_X10_init_3) (hts _ fk_X10_init_4) rfl (by rw [hml]; exact hl.1) rfl dX10_init_1 (Nat.le_of_ble_eq_true rfl) (Nat.le_of_ble_eq_true rfl) ?_
  refine W.eq (g2 := F0 m 4 ls []) rfl ?_
  refine lv_aload_n hx hb dX10_init_4 rfl (lv_at hl 0 rfl) ?_
  refine lv_sipush (v := (2601 : Int32)) hx hb dX10_init_5 (by decide) ?_
  refine pa_newJ (n := (2601 : Int32)) (N := 2601) X hP hD hS (by decide) (by decide) (by decide) (Nat.le_of_ble_eq_true rfl) (Nat.le_of_ble_eq_true rfl) (hts _ fk_X10_init_5) dX10_init_8 (fun a_mt H hP hD hS => ?_)
  have hP : va_P D vwCl [(a_m, .inr (9, [.int (0 : Int32), .long (0 : Int64), .null, .null, .null, .null, .int (0 : Int32), .int (0 : Int32), .int (0 : Int32), .int (0 : Int32), .int (0 : Int32), .int (0 : Int32), .int (0 : Int32), .null, .null, .int (0 : Int32), .null, .int (0 : Int32), .null, .int (0 : Int32), .int (0 : Int32), .int (0 : Int32), .long (0 : Int64), .long (0 : Int64)])), (a_mt, .inl (cJ, 2601, .inr (.inl (fun _ => 0))))] H := hP
  have hD : va_D A [(a_m, .inr (9, [.int (0 : Int32), .long (0 : Int64), .null, .null, .null, .null, .int (0 : Int32), .int (0 : Int32), .int (0 : Int32), .int (0 : Int32), .int (0 : Int32), .int (0 : Int32), .int (0 : Int32), .null, .null, .int (0 : Int32), .null, .int (0 : Int32), .null, .int (0 : Int32), .int (0 : Int32), .int (0 : Int32), .long (0 : Int64), .long (0 : Int64)])), (a_mt, .inl (cJ, 2601, .inr (.inl (fun _ => 0))))] := hD
  refine W.widen (k := 1) (n := 2601) (Nat.le_refl _) (Nat.le_refl _) ?_
  refine va_putF (D := D) (ci := 9) (v := .ref a_mt) (ty := .array .long) (C := RX10) (T := TX10) (N := 24) hx hb hts il_X10_init_X10 tyX10 tyX10_ok nmX10 hown hK hP hD hS 0 rfl rfl 2 (by decide) (hts _ fk_X10_init_1) (fun _ h9 => h9) rfl hin rfl (tyX10_ok 2 (by decide)) rfl rfl (Nat.le_of_ble_eq_true rfl) dX10_init_10 (fun H locs hP hD hS => ?_)
  have hP : va_P D vwCl [(a_m, .inr (9, [.int (0 : Int32), .long (0 : Int64), .ref a_mt, .null, .null, .null, .int (0 : Int32), .int (0 : Int32), .int (0 : Int32), .int (0 : Int32), .int (0 : Int32), .int (0 : Int32), .int (0 : Int32), .null, .null, .int (0 : Int32), .null, .int (0 : Int32), .null, .int (0 : Int32), .int (0 : Int32), .int (0 : Int32), .long (0 : Int64), .long (0 : Int64)])), (a_mt, .inl (cJ, 2601, .inr (.inl (fun _ => 0))))] H := hP
  have hD : va_D A [(a_m, .inr (9, [.int (0 : Int32), .long (0 : Int64), .ref a_mt, .null, .null, .null, .int (0 : Int32), .int (0 : Int32), .int (0 : Int32), .int (0 : Int32), .int (0 : Int32), .int (0 : Int32), .int (0 : Int32), .null, .null, .int (0 : Int32), .null, .int (0 : Int32), .null, .int (0 : Int32), .int (0 : Int32), .int (0 : Int32), .long (0 : Int64), .long (0 : Int64)])), (a_mt, .inl (cJ, 2601, .inr (.inl (fun _ => 0))))] := hD
  refine lv_aload_n hx hb dX10_init_13 rfl (lv_at hl 0 rfl) ?_
  refine lv_bipush (v := (32 : Int32)) hx hb dX10_init_14 (by decide) ?_
  refine pa_newI (n := (32 : Int32)) (N := 32) X hP hD hS (by decide) (by decide) (by decide) (Nat.le_of_ble_eq_true rfl) (Nat.le_of_ble_eq_true rfl) (hts _ fk_X10_init_6) dX10_init_16 (fun a_ml H hP hD hS => ?_)
  have hP : va_P D vwCl [(a_m, .inr (9, [.int (0 : Int32), .long (0 : Int64), .ref a_mt, .null, .null, .null, .int (0 : Int32), .int (0 : Int32), .int (0 : Int32), .int (0 : Int32), .int (0 : Int32), .int (0 : Int32), .int (0 : Int32), .null, .null, .int (0 : Int32), .null, .int (0 : Int32), .null, .int (0 : Int32), .int (0 : Int32), .int (0 : Int32), .long (0 : Int64), .long (0 : Int64)])), (a_mt, .inl (cJ, 2601, .inr (.inl (fun _ => 0)))), (a_ml, .inl (cI, 32, .inl (fun _ => 0)))] H := hP
  have hD : va_D A [(a_m, .inr (9, [.int (0 : Int32), .long (0 : Int64), .ref a_mt, .null, .null, .null, .int (0 : Int32), .int (0 : Int32), .int (0 : Int32), .int (0 : Int32), .int (0 : Int32), .int (0 : Int32), .int (0 : Int32), .null, .null, .int (0 : Int32), .null, .int (0 : Int32), .null, .int (0 : Int32), .int (0 : Int32), .int (0 : Int32), .long (0 : Int64), .long (0 : Int64)])), (a_mt, .inl (cJ, 2601, .inr (.inl (fun _ => 0)))), (a_ml, .inl (cI, 32, .inl (fun _ => 0)))] := hD
  refine W.widen (k := 2) (n := 2633) (Nat.le_refl _) (Nat.le_refl _) ?_
  refine va_putF (D := D) (ci := 9) (v := .ref a_ml) (ty := .array .int) (C := RX10) (T := TX10) (N := 24) hx hb hts il_X10_init_X10 tyX10 tyX10_ok nmX10 hown hK hP hD hS 0 rfl rfl 3 (by decide) (hts _ fk_X10_init_7) (fun _ h9 => h9) rfl hin rfl (tyX10_ok 3 (by decide)) rfl rfl (Nat.le_of_ble_eq_true rfl) dX10_init_18 (fun H locs hP hD hS => ?_)
  have hP : va_P D vwCl [(a_m, .inr (9, [.int (0 : Int32), .long (0 : Int64), .ref a_mt, .ref a_ml, .null, .null, .int (0 : Int32), .int (0 : Int32), .int (0 : Int32), .int (0 : Int32), .int (0 : Int32), .int (0 : Int32), .int (0 : Int32), .null, .null, .int (0 : Int32), .null, .int (0 : Int32), .null, .int (0 : Int32), .int (0 : Int32), .int (0 : Int32), .long (0 : Int64), .long (0 : Int64)])), (a_mt, .inl (cJ, 2601, .inr (.inl (fun _ => 0)))), (a_ml, .inl (cI, 32, .inl (fun _ => 0)))] H := hP
  have hD : va_D A [(a_m, .inr (9, [.int (0 : Int32), .long (0 : Int64), .ref a_mt, .ref a_ml, .null, .null, .int (0 : Int32), .int (0 : Int32), .int (0 : Int32), .int (0 : Int32), .int (0 : Int32), .int (0 : Int32), .int (0 : Int32), .null, .null, .int (0 : Int32), .null, .int (0 : Int32), .null, .int (0 : Int32), .int (0 : Int32), .int (0 : Int32), .long (0 : Int64), .long (0 : Int64)])), (a_mt, .inl (cJ, 2601, .inr (.inl (fun _ => 0)))), (a_ml, .inl (cI, 32, .inl (fun _ => 0)))] := hD
  refine lv_aload_n hx hb dX10_init_21 rfl (lv_at hl 0 rfl) ?_
  refine lv_bipush (v := (8 : Int32)) hx hb dX10_init_22 (by decide) ?_
  refine pa_newI (n := (8 : Int32)) (N := 8) X hP hD hS (by decide) (by decide) (by decide) (Nat.le_of_ble_eq_true rfl) (Nat.le_of_ble_eq_true rfl) (hts _ fk_X10_init_6) dX10_init_24 (fun a_mr H hP hD hS => ?_)
  have hP : va_P D vwCl [(a_m, .inr (9, [.int (0 : Int32), .long (0 : Int64), .ref a_mt, .ref a_ml, .null, .null, .int (0 : Int32), .int (0 : Int32), .int (0 : Int32), .int (0 : Int32), .int (0 : Int32), .int (0 : Int32), .int (0 : Int32), .null, .null, .int (0 : Int32), .null, .int (0 : Int32), .null, .int (0 : Int32), .int (0 : Int32), .int (0 : Int32), .long (0 : Int64), .long (0 : Int64)])), (a_mt, .inl (cJ, 2601, .inr (.inl (fun _ => 0)))), (a_ml, .inl (cI, 32, .inl (fun _ => 0))), (a_mr, .inl (cI, 8, .inl (fun _ => 0)))] H := hP
  have hD : va_D A [(a_m, .inr (9, [.int (0 : Int32), .long (0 : Int64), .ref a_mt, .ref a_ml, .null, .null, .int (0 : Int32), .int (0 : Int32), .int (0 : Int32), .int (0 : Int32), .int (0 : Int32), .int (0 : Int32), .int (0 : Int32), .null, .null, .int (0 : Int32), .null, .int (0 : Int32), .null, .int (0 : Int32), .int (0 : Int32), .int (0 : Int32), .long (0 : Int64), .long (0 : Int64)])), (a_mt, .inl (cJ, 2601, .inr (.inl (fun _ => 0)))), (a_ml, .inl (cI, 32, .inl (fun _ => 0))), (a_mr, .inl (cI, 8, .inl (fun _ => 0)))] := hD
  refine W.widen (k := 3) (n := 2641) (Nat.le_refl _) (Nat.le_refl _) ?_
  refine va_putF (D := D) (ci := 9) (v := .ref a_mr) (ty := .array .int) (C := RX10) (T := TX10) (N := 24) hx hb hts il_X10_init_X10 tyX10 tyX10_ok nmX10 hown hK hP hD hS 0 rfl rfl 4 (by decide) (hts _ fk_X10_init_0) (fun _ h9 => h9) rfl hin rfl (tyX10_ok 4 (by decide)) rfl rfl (Nat.le_of_ble_eq_true rfl) dX10_init_26 (fun H locs hP hD hS => ?_)
  have hP : va_P D vwCl [(a_m, .inr (9, [.int (0 : Int32), .long (0 : Int64), .ref a_mt, .ref a_ml, .ref a_mr, .null, .int (0 : Int32), .int (0 : Int32), .int (0 : Int32), .int (0 : Int32), .int (0 : Int32), .int (0 : Int32), .int (0 : Int32), .null, .null, .int (0 : Int32), .null, .int (0 : Int32), .null, .int (0 : Int32), .int (0 : Int32), .int (0 : Int32), .long (0 : Int64), .long (0 : Int64)])), (a_mt, .inl (cJ, 2601, .inr (.inl (fun _ => 0)))), (a_ml, .inl (cI, 32, .inl (fun _ => 0))), (a_mr, .inl (cI, 8, .inl (fun _ => 0)))] H := hP
  have hD : va_D A [(a_m, .inr (9, [.int (0 : Int32), .long (0 : Int64), .ref a_mt, .ref a_ml, .ref a_mr, .null, .int (0 : Int32), .int (0 : Int32), .int (0 : Int32), .int (0 : Int32), .int (0 : Int32), .int (0 : Int32), .int (0 : Int32), .null, .null, .int (0 : Int32), .null, .int (0 : Int32), .null, .int (0 : Int32), .int (0 : Int32), .int (0 : Int32), .long (0 : Int64), .long (0 : Int64)])), (a_mt, .inl (cJ, 2601, .inr (.inl (fun _ => 0)))), (a_ml, .inl (cI, 32, .inl (fun _ => 0))), (a_mr, .inl (cI, 8, .inl (fun _ => 0)))] := hD
  refine lv_aload_n hx hb dX10_init_29 rfl (lv_at hl 0 rfl) ?_
  refine lv_sipush (v := (300 : Int32)) hx hb dX10_init_30 (by decide) ?_
  refine pa_newI (n := (300 : Int32)) (N := 300) X hP hD hS (by decide) (by decide) (by decide) (Nat.le_of_ble_eq_true rfl) (Nat.le_of_ble_eq_true rfl) (hts _ fk_X10_init_6) dX10_init_33 (fun a_mx H hP hD hS => ?_)
  have hP : va_P D vwCl [(a_m, .inr (9, [.int (0 : Int32), .long (0 : Int64), .ref a_mt, .ref a_ml, .ref a_mr, .null, .int (0 : Int32), .int (0 : Int32), .int (0 : Int32), .int (0 : Int32), .int (0 : Int32), .int (0 : Int32), .int (0 : Int32), .null, .null, .int (0 : Int32), .null, .int (0 : Int32), .null, .int (0 : Int32), .int (0 : Int32), .int (0 : Int32), .long (0 : Int64), .long (0 : Int64)])), (a_mt, .inl (cJ, 2601, .inr (.inl (fun _ => 0)))), (a_ml, .inl (cI, 32, .inl (fun _ => 0))), (a_mr, .inl (cI, 8, .inl (fun _ => 0))), (a_mx, .inl (cI, 300, .inl (fun _ => 0)))] H := hP
  have hD : va_D A [(a_m, .inr (9, [.int (0 : Int32), .long (0 : Int64), .ref a_mt, .ref a_ml, .ref a_mr, .null, .int (0 : Int32), .int (0 : Int32), .int (0 : Int32), .int (0 : Int32), .int (0 : Int32), .int (0 : Int32), .int (0 : Int32), .null, .null, .int (0 : Int32), .null, .int (0 : Int32), .null, .int (0 : Int32), .int (0 : Int32), .int (0 : Int32), .long (0 : Int64), .long (0 : Int64)])), (a_mt, .inl (cJ, 2601, .inr (.inl (fun _ => 0)))), (a_ml, .inl (cI, 32, .inl (fun _ => 0))), (a_mr, .inl (cI, 8, .inl (fun _ => 0))), (a_mx, .inl (cI, 300, .inl (fun _ => 0)))] := hD
  refine W.widen (k := 4) (n := 2941) (Nat.le_refl _) (Nat.le_refl _) ?_
  refine va_putF (D := D) (ci := 9) (v := .ref a_mx) (ty := .array .int) (C := RX10) (T := TX10) (N := 24) hx hb hts il_X10_init_X10 tyX10 tyX10_ok nmX10 hown hK hP hD hS 0 rfl rfl 5 (by decide) (hts _ fk_X10_init_8) (fun _ h9 => h9) rfl hin rfl (tyX10_ok 5 (by decide)) rfl rfl (Nat.le_of_ble_eq_true rfl) dX10_init_35 (fun H locs hP hD hS => ?_)
  have hP : va_P D vwCl [(a_m, .inr (9, [.int (0 : Int32), .long (0 : Int64), .ref a_mt, .ref a_ml, .ref a_mr, .ref a_mx, .int (0 : Int32), .int (0 : Int32), .int (0 : Int32), .int (0 : Int32), .int (0 : Int32), .int (0 : Int32), .int (0 : Int32), .null, .null, .int (0 : Int32), .null, .int (0 : Int32), .null, .int (0 : Int32), .int (0 : Int32), .int (0 : Int32), .long (0 : Int64), .long (0 : Int64)])), (a_mt, .inl (cJ, 2601, .inr (.inl (fun _ => 0)))), (a_ml, .inl (cI, 32, .inl (fun _ => 0))), (a_mr, .inl (cI, 8, .inl (fun _ => 0))), (a_mx, .inl (cI, 300, .inl (fun _ => 0)))] H := hP
  have hD : va_D A [(a_m, .inr (9, [.int (0 : Int32), .long (0 : Int64), .ref a_mt, .ref a_ml, .ref a_mr, .ref a_mx, .int (0 : Int32), .int (0 : Int32), .int (0 : Int32), .int (0 : Int32), .int (0 : Int32), .int (0 : Int32), .int (0 : Int32), .null, .null, .int (0 : Int32), .null, .int (0 : Int32), .null, .int (0 : Int32), .int (0 : Int32), .int (0 : Int32), .long (0 : Int64), .long (0 : Int64)])), (a_mt, .inl (cJ, 2601, .inr (.inl (fun _ => 0)))), (a_ml, .inl (cI, 32, .inl (fun _ => 0))), (a_mr, .inl (cI, 8, .inl (fun _ => 0))), (a_mx, .inl (cI, 300, .inl (fun _ => 0)))] := hD
  refine lv_aload_n hx hb dX10_init_38 rfl (lv_at hl 0 rfl) ?_
  refine lv_bipush (v := (50 : Int32)) hx hb dX10_init_39 (by decide) ?_
  refine pa_newI (n := (50 : Int32)) (N := 50) X hP hD hS (by decide) (by decide) (by decide) (Nat.le_of_ble_eq_true rfl) (Nat.le_of_ble_eq_true rfl) (hts _ fk_X10_init_6) dX10_init_41 (fun a_mf H hP hD hS => ?_)
  have hP : va_P D vwCl [(a_m, .inr (9, [.int (0 : Int32), .long (0 : Int64), .ref a_mt, .ref a_ml, .ref a_mr, .ref a_mx, .int (0 : Int32), .int (0 : Int32), .int (0 : Int32), .int (0 : Int32), .int (0 : Int32), .int (0 : Int32), .int (0 : Int32), .null, .null, .int (0 : Int32), .null, .int (0 : Int32), .null, .int (0 : Int32), .int (0 : Int32), .int (0 : Int32), .long (0 : Int64), .long (0 : Int64)])), (a_mt, .inl (cJ, 2601, .inr (.inl (fun _ => 0)))), (a_ml, .inl (cI, 32, .inl (fun _ => 0))), (a_mr, .inl (cI, 8, .inl (fun _ => 0))), (a_mx, .inl (cI, 300, .inl (fun _ => 0))), (a_mf, .inl (cI, 50, .inl (fun _ => 0)))] H := hP
  have hD : va_D A [(a_m, .inr (9, [.int (0 : Int32), .long (0 : Int64), .ref a_mt, .ref a_ml, .ref a_mr, .ref a_mx, .int (0 : Int32), .int (0 : Int32), .int (0 : Int32), .int (0 : Int32), .int (0 : Int32), .int (0 : Int32), .int (0 : Int32), .null, .null, .int (0 : Int32), .null, .int (0 : Int32), .null, .int (0 : Int32), .int (0 : Int32), .int (0 : Int32), .long (0 : Int64), .long (0 : Int64)])), (a_mt, .inl (cJ, 2601, .inr (.inl (fun _ => 0)))), (a_ml, .inl (cI, 32, .inl (fun _ => 0))), (a_mr, .inl (cI, 8, .inl (fun _ => 0))), (a_mx, .inl (cI, 300, .inl (fun _ => 0))), (a_mf, .inl (cI, 50, .inl (fun _ => 0)))] := hD
  refine W.widen (k := 5) (n := 2991) (Nat.le_refl _) (Nat.le_refl _) ?_
  refine va_putF (D := D) (ci := 9) (v := .ref a_mf) (ty := .array .int) (C := RX10) (T := TX10) (N := 24) hx hb hts il_X10_init_X10 tyX10 tyX10_ok nmX10 hown hK hP hD hS 0 rfl rfl 13 (by decide) (hts _ fk_X10_init_9) (fun _ h9 => h9) rfl hin rfl (tyX10_ok 13 (by decide)) rfl rfl (Nat.le_of_ble_eq_true rfl) dX10_init_43 (fun H locs hP hD hS => ?_)
  have hP : va_P D vwCl [(a_m, .inr (9, [.int (0 : Int32), .long (0 : Int64), .ref a_mt, .ref a_ml, .ref a_mr, .ref a_mx, .int (0 : Int32), .int (0 : Int32), .int (0 : Int32), .int (0 : Int32), .int (0 : Int32), .int (0 : Int32), .int (0 : Int32), .ref a_mf, .null, .int (0 : Int32), .null, .int (0 : Int32), .null, .int (0 : Int32), .int (0 : Int32), .int (0 : Int32), .long (0 : Int64), .long (0 : Int64)])), (a_mt, .inl (cJ, 2601, .inr (.inl (fun _ => 0)))), (a_ml, .inl (cI, 32, .inl (fun _ => 0))), (a_mr, .inl (cI, 8, .inl (fun _ => 0))), (a_mx, .inl (cI, 300, .inl (fun _ => 0))), (a_mf, .inl (cI, 50, .inl (fun _ => 0)))] H := hP
  have hD : va_D A [(a_m, .inr (9, [.int (0 : Int32), .long (0 : Int64), .ref a_mt, .ref a_ml, .ref a_mr, .ref a_mx, .int (0 : Int32), .int (0 : Int32), .int (0 : Int32), .int (0 : Int32), .int (0 : Int32), .int (0 : Int32), .int (0 : Int32), .ref a_mf, .null, .int (0 : Int32), .null, .int (0 : Int32), .null, .int (0 : Int32), .int (0 : Int32), .int (0 : Int32), .long (0 : Int64), .long (0 : Int64)])), (a_mt, .inl (cJ, 2601, .inr (.inl (fun _ => 0)))), (a_ml, .inl (cI, 32, .inl (fun _ => 0))), (a_mr, .inl (cI, 8, .inl (fun _ => 0))), (a_mx, .inl (cI, 300, .inl (fun _ => 0))), (a_mf, .inl (cI, 50, .inl (fun _ => 0)))] := hD
  refine lv_aload_n hx hb dX10_init_46 rfl (lv_at hl 0 rfl) ?_
  refine lv_bipush (v := (8 : Int32)) hx hb dX10_init_47 (by decide) ?_
  refine pa_newI (n := (8 : Int32)) (N := 8) X hP hD hS (by decide) (by decide) (by decide) (Nat.le_of_ble_eq_true rfl) (Nat.le_of_ble_eq_true rfl) (hts _ fk_X10_init_6) dX10_init_49 (fun a_mg H hP hD hS => ?_)
  have hP : va_P D vwCl [(a_m, .inr (9, [.int (0 : Int32), .long (0 : Int64), .ref a_mt, .ref a_ml, .ref a_mr, .ref a_mx, .int (0 : Int32), .int (0 : Int32), .int (0 : Int32), .int (0 : Int32), .int (0 : Int32), .int (0 : Int32), .int (0 : Int32), .ref a_mf, .null, .int (0 : Int32), .null, .int (0 : Int32), .null, .int (0 : Int32), .int (0 : Int32), .int (0 : Int32), .long (0 : Int64), .long (0 : Int64)])), (a_mt, .inl (cJ, 2601, .inr (.inl (fun _ => 0)))), (a_ml, .inl (cI, 32, .inl (fun _ => 0))), (a_mr, .inl (cI, 8, .inl (fun _ => 0))), (a_mx, .inl (cI, 300, .inl (fun _ => 0))), (a_mf, .inl (cI, 50, .inl (fun _ => 0))), (a_mg, .inl (cI, 8, .inl (fun _ => 0)))] H := hP
  have hD : va_D A [(a_m, .inr (9, [.int (0 : Int32), .long (0 : Int64), .ref a_mt, .ref a_ml, .ref a_mr, .ref a_mx, .int (0 : Int32), .int (0 : Int32), .int (0 : Int32), .int (0 : Int32), .int (0 : Int32), .int (0 : Int32), .int (0 : Int32), .ref a_mf, .null, .int (0 : Int32), .null, .int (0 : Int32), .null, .int (0 : Int32), .int (0 : Int32), .int (0 : Int32), .long (0 : Int64), .long (0 : Int64)])), (a_mt, .inl (cJ, 2601, .inr (.inl (fun _ => 0)))), (a_ml, .inl (cI, 32, .inl (fun _ => 0))), (a_mr, .inl (cI, 8, .inl (fun _ => 0))), (a_mx, .inl (cI, 300, .inl (fun _ => 0))), (a_mf, .inl (cI, 50, .inl (fun _ => 0))), (a_mg, .inl (cI, 8, .inl (fun _ => 0)))] := hD
  refine W.widen (k := 6) (n := 2999) (Nat.le_refl _) (Nat.le_refl _) ?_
  refine va_putF (D := D) (ci := 9) (v := .ref a_mg) (ty := .array .int) (C := RX10) (T := TX10) (N := 24) hx hb hts il_X10_init_X10 tyX10 tyX10_ok nmX10 hown hK hP hD hS 0 rfl rfl 14 (by decide) (hts _ fk_X10_init_10) (fun _ h9 => h9) rfl hin rfl (tyX10_ok 14 (by decide)) rfl rfl (Nat.le_of_ble_eq_true rfl) dX10_init_51 (fun H locs hP hD hS => ?_)
  have hP : va_P D vwCl [(a_m, .inr (9, [.int (0 : Int32), .long (0 : Int64), .ref a_mt, .ref a_ml, .ref a_mr, .ref a_mx, .int (0 : Int32), .int (0 : Int32), .int (0 : Int32), .int (0 : Int32), .int (0 : Int32), .int (0 : Int32), .int (0 : Int32), .ref a_mf, .ref a_mg, .int (0 : Int32), .null, .int (0 : Int32), .null, .int (0 : Int32), .int (0 : Int32), .int (0 : Int32), .long (0 : Int64), .long (0 : Int64)])), (a_mt, .inl (cJ, 2601, .inr (.inl (fun _ => 0)))), (a_ml, .inl (cI, 32, .inl (fun _ => 0))), (a_mr, .inl (cI, 8, .inl (fun _ => 0))), (a_mx, .inl (cI, 300, .inl (fun _ => 0))), (a_mf, .inl (cI, 50, .inl (fun _ => 0))), (a_mg, .inl (cI, 8, .inl (fun _ => 0)))] H := hP
  have hD : va_D A [(a_m, .inr (9, [.int (0 : Int32), .long (0 : Int64), .ref a_mt, .ref a_ml, .ref a_mr, .ref a_mx, .int (0 : Int32), .int (0 : Int32), .int (0 : Int32), .int (0 : Int32), .int (0 : Int32), .int (0 : Int32), .int (0 : Int32), .ref a_mf, .ref a_mg, .int (0 : Int32), .null, .int (0 : Int32), .null, .int (0 : Int32), .int (0 : Int32), .int (0 : Int32), .long (0 : Int64), .long (0 : Int64)])), (a_mt, .inl (cJ, 2601, .inr (.inl (fun _ => 0)))), (a_ml, .inl (cI, 32, .inl (fun _ => 0))), (a_mr, .inl (cI, 8, .inl (fun _ => 0))), (a_mx, .inl (cI, 300, .inl (fun _ => 0))), (a_mf, .inl (cI, 50, .inl (fun _ => 0))), (a_mg, .inl (cI, 8, .inl (fun _ => 0)))] := hD
  refine lv_aload_n hx hb dX10_init_54 rfl (lv_at hl 0 rfl) ?_
  refine lv_bipush (v := (60 : Int32)) hx hb dX10_init_55 (by decide) ?_
  refine pa_newI (n := (60 : Int32)) (N := 60) X hP hD hS (by decide) (by decide) (by decide) (Nat.le_of_ble_eq_true rfl) (Nat.le_of_ble_eq_true rfl) (hts _ fk_X10_init_6) dX10_init_57 (fun a_mw H hP hD hS => ?_)
  have hP : va_P D vwCl [(a_m, .inr (9, [.int (0 : Int32), .long (0 : Int64), .ref a_mt, .ref a_ml, .ref a_mr, .ref a_mx, .int (0 : Int32), .int (0 : Int32), .int (0 : Int32), .int (0 : Int32), .int (0 : Int32), .int (0 : Int32), .int (0 : Int32), .ref a_mf, .ref a_mg, .int (0 : Int32), .null, .int (0 : Int32), .null, .int (0 : Int32), .int (0 : Int32), .int (0 : Int32), .long (0 : Int64), .long (0 : Int64)])), (a_mt, .inl (cJ, 2601, .inr (.inl (fun _ => 0)))), (a_ml, .inl (cI, 32, .inl (fun _ => 0))), (a_mr, .inl (cI, 8, .inl (fun _ => 0))), (a_mx, .inl (cI, 300, .inl (fun _ => 0))), (a_mf, .inl (cI, 50, .inl (fun _ => 0))), (a_mg, .inl (cI, 8, .inl (fun _ => 0))), (a_mw, .inl (cI, 60, .inl (fun _ => 0)))] H := hP
  have hD : va_D A [(a_m, .inr (9, [.int (0 : Int32), .long (0 : Int64), .ref a_mt, .ref a_ml, .ref a_mr, .ref a_mx, .int (0 : Int32), .int (0 : Int32), .int (0 : Int32), .int (0 : Int32), .int (0 : Int32), .int (0 : Int32), .int (0 : Int32), .ref a_mf, .ref a_mg, .int (0 : Int32), .null, .int (0 : Int32), .null, .int (0 : Int32), .int (0 : Int32), .int (0 : Int32), .long (0 : Int64), .long (0 : Int64)])), (a_mt, .inl (cJ, 2601, .inr (.inl (fun _ => 0)))), (a_ml, .inl (cI, 32, .inl (fun _ => 0))), (a_mr, .inl (cI, 8, .inl (fun _ => 0))), (a_mx, .inl (cI, 300, .inl (fun _ => 0))), (a_mf, .inl (cI, 50, .inl (fun _ => 0))), (a_mg, .inl (cI, 8, .inl (fun _ => 0))), (a_mw, .inl (cI, 60, .inl (fun _ => 0)))] := hD
  refine W.widen (k := 7) (n := 3059) (Nat.le_refl _) (Nat.le_refl _) ?_
  refine va_putF (D := D) (ci := 9) (v := .ref a_mw) (ty := .array .int) (C := RX10) (T := TX10) (N := 24) hx hb hts il_X10_init_X10 tyX10 tyX10_ok nmX10 hown hK hP hD hS 0 rfl rfl 16 (by decide) (hts _ fk_X10_init_11) (fun _ h9 => h9) rfl hin rfl (tyX10_ok 16 (by decide)) rfl rfl (Nat.le_of_ble_eq_true rfl) dX10_init_59 (fun H locs hP hD hS => ?_)
  have hP : va_P D vwCl [(a_m, .inr (9, [.int (0 : Int32), .long (0 : Int64), .ref a_mt, .ref a_ml, .ref a_mr, .ref a_mx, .int (0 : Int32), .int (0 : Int32), .int (0 : Int32), .int (0 : Int32), .int (0 : Int32), .int (0 : Int32), .int (0 : Int32), .ref a_mf, .ref a_mg, .int (0 : Int32), .ref a_mw, .int (0 : Int32), .null, .int (0 : Int32), .int (0 : Int32), .int (0 : Int32), .long (0 : Int64), .long (0 : Int64)])), (a_mt, .inl (cJ, 2601, .inr (.inl (fun _ => 0)))), (a_ml, .inl (cI, 32, .inl (fun _ => 0))), (a_mr, .inl (cI, 8, .inl (fun _ => 0))), (a_mx, .inl (cI, 300, .inl (fun _ => 0))), (a_mf, .inl (cI, 50, .inl (fun _ => 0))), (a_mg, .inl (cI, 8, .inl (fun _ => 0))), (a_mw, .inl (cI, 60, .inl (fun _ => 0)))] H := hP
  have hD : va_D A [(a_m, .inr (9, [.int (0 : Int32), .long (0 : Int64), .ref a_mt, .ref a_ml, .ref a_mr, .ref a_mx, .int (0 : Int32), .int (0 : Int32), .int (0 : Int32), .int (0 : Int32), .int (0 : Int32), .int (0 : Int32), .int (0 : Int32), .ref a_mf, .ref a_mg, .int (0 : Int32), .ref a_mw, .int (0 : Int32), .null, .int (0 : Int32), .int (0 : Int32), .int (0 : Int32), .long (0 : Int64), .long (0 : Int64)])), (a_mt, .inl (cJ, 2601, .inr (.inl (fun _ => 0)))), (a_ml, .inl (cI, 32, .inl (fun _ => 0))), (a_mr, .inl (cI, 8, .inl (fun _ => 0))), (a_mx, .inl (cI, 300, .inl (fun _ => 0))), (a_mf, .inl (cI, 50, .inl (fun _ => 0))), (a_mg, .inl (cI, 8, .inl (fun _ => 0))), (a_mw, .inl (cI, 60, .inl (fun _ => 0)))] := hD
  refine lv_aload_n hx hb dX10_init_62 rfl (lv_at hl 0 rfl) ?_
  refine lv_bipush (v := (72 : Int32)) hx hb dX10_init_63 (by decide) ?_
  refine pa_newI (n := (72 : Int32)) (N := 72) X hP hD hS (by decide) (by decide) (by decide) (Nat.le_of_ble_eq_true rfl) (Nat.le_of_ble_eq_true rfl) (hts _ fk_X10_init_6) dX10_init_65 (fun a_mh H hP hD hS => ?_)
  have hP : va_P D vwCl [(a_m, .inr (9, [.int (0 : Int32), .long (0 : Int64), .ref a_mt, .ref a_ml, .ref a_mr, .ref a_mx, .int (0 : Int32), .int (0 : Int32), .int (0 : Int32), .int (0 : Int32), .int (0 : Int32), .int (0 : Int32), .int (0 : Int32), .ref a_mf, .ref a_mg, .int (0 : Int32), .ref a_mw, .int (0 : Int32), .null, .int (0 : Int32), .int (0 : Int32), .int (0 : Int32), .long (0 : Int64), .long (0 : Int64)])), (a_mt, .inl (cJ, 2601, .inr (.inl (fun _ => 0)))), (a_ml, .inl (cI, 32, .inl (fun _ => 0))), (a_mr, .inl (cI, 8, .inl (fun _ => 0))), (a_mx, .inl (cI, 300, .inl (fun _ => 0))), (a_mf, .inl (cI, 50, .inl (fun _ => 0))), (a_mg, .inl (cI, 8, .inl (fun _ => 0))), (a_mw, .inl (cI, 60, .inl (fun _ => 0))), (a_mh, .inl (cI, 72, .inl (fun _ => 0)))] H := hP
  have hD : va_D A [(a_m, .inr (9, [.int (0 : Int32), .long (0 : Int64), .ref a_mt, .ref a_ml, .ref a_mr, .ref a_mx, .int (0 : Int32), .int (0 : Int32), .int (0 : Int32), .int (0 : Int32), .int (0 : Int32), .int (0 : Int32), .int (0 : Int32), .ref a_mf, .ref a_mg, .int (0 : Int32), .ref a_mw, .int (0 : Int32), .null, .int (0 : Int32), .int (0 : Int32), .int (0 : Int32), .long (0 : Int64), .long (0 : Int64)])), (a_mt, .inl (cJ, 2601, .inr (.inl (fun _ => 0)))), (a_ml, .inl (cI, 32, .inl (fun _ => 0))), (a_mr, .inl (cI, 8, .inl (fun _ => 0))), (a_mx, .inl (cI, 300, .inl (fun _ => 0))), (a_mf, .inl (cI, 50, .inl (fun _ => 0))), (a_mg, .inl (cI, 8, .inl (fun _ => 0))), (a_mw, .inl (cI, 60, .inl (fun _ => 0))), (a_mh, .inl (cI, 72, .inl (fun _ => 0)))] := hD
  refine W.widen (k := 8) (n := 3131) (Nat.le_refl _) (Nat.le_refl _) ?_
  refine va_putF (D := D) (ci := 9) (v := .ref a_mh) (ty := .array .int) (C := RX10) (T := TX10) (N := 24) hx hb hts il_X10_init_X10 tyX10 tyX10_ok nmX10 hown hK hP hD hS 0 rfl rfl 18 (by decide) (hts _ fk_X10_init_12) (fun _ h9 => h9) rfl hin rfl (tyX10_ok 18 (by decide)) rfl rfl (Nat.le_of_ble_eq_true rfl) dX10_init_67 (fun H locs hP hD hS => ?_)
  have hP : va_P D vwCl (wo_X10_init cI cJ a_m a_mt a_ml a_mr a_mx a_mf a_mg a_mw a_mh (0 : Int32) (0 : Int64) (0 : Int32) (0 : Int32) (0 : Int32) (0 : Int32) (0 : Int32) (0 : Int32) (0 : Int32) (0 : Int32) (0 : Int32) (0 : Int32) (0 : Int32) (0 : Int32) (0 : Int64) (0 : Int64) (fun _ => 0) (fun _ => 0) (fun _ => 0) (fun _ => 0) (fun _ => 0) (fun _ => 0) (fun _ => 0) (fun _ => 0)) H := hP
  have hD : va_D A (wo_X10_init cI cJ a_m a_mt a_ml a_mr a_mx a_mf a_mg a_mw a_mh (0 : Int32) (0 : Int64) (0 : Int32) (0 : Int32) (0 : Int32) (0 : Int32) (0 : Int32) (0 : Int32) (0 : Int32) (0 : Int32) (0 : Int32) (0 : Int32) (0 : Int32) (0 : Int32) (0 : Int64) (0 : Int64) (fun _ => 0) (fun _ => 0) (fun _ => 0) (fun _ => 0) (fun _ => 0) (fun _ => 0) (fun _ => 0) (fun _ => 0)) := hD
  refine lv_aload_n hx hb dX10_init_70 rfl (lv_at hl 0 rfl) ?_
  refine lv_iconst (v := (1 : Int32)) hx hb dX10_init_71 (by decide) ?_
  refine va_put (D := D) (ci := 9) (v := .int (1 : Int32)) (ty := .int) (C := RX10) (T := TX10) (N := 24) hx hb hts il_X10_init_X10 tyX10 tyX10_ok nmX10 hown hK hP hD hS 0 rfl rfl 19 (by decide) (hts _ fk_X10_init_13) (fun _ h9 => h9) rfl (tyX10_ok 19 (by decide)) rfl rfl (Nat.le_of_ble_eq_true rfl) dX10_init_72 (fun H locs hP hD hS => ?_)
  have hP : va_P D vwCl (wo_X10_init cI cJ a_m a_mt a_ml a_mr a_mx a_mf a_mg a_mw a_mh (0 : Int32) (0 : Int64) (0 : Int32) (0 : Int32) (0 : Int32) (0 : Int32) (0 : Int32) (0 : Int32) (0 : Int32) (0 : Int32) (0 : Int32) (1 : Int32) (0 : Int32) (0 : Int32) (0 : Int64) (0 : Int64) (fun _ => 0) (fun _ => 0) (fun _ => 0) (fun _ => 0) (fun _ => 0) (fun _ => 0) (fun _ => 0) (fun _ => 0)) H := hP
  have hD : va_D A (wo_X10_init cI cJ a_m a_mt a_ml a_mr a_mx a_mf a_mg a_mw a_mh (0 : Int32) (0 : Int64) (0 : Int32) (0 : Int32) (0 : Int32) (0 : Int32) (0 : Int32) (0 : Int32) (0 : Int32) (0 : Int32) (0 : Int32) (1 : Int32) (0 : Int32) (0 : Int32) (0 : Int64) (0 : Int64) (fun _ => 0) (fun _ => 0) (fun _ => 0) (fun _ => 0) (fun _ => 0) (fun _ => 0) (fun _ => 0) (fun _ => 0)) := hD
  refine lv_aload_n hx hb dX10_init_75 rfl (lv_at hl 0 rfl) ?_
  refine lv_iconst (v := (5 : Int32)) hx hb dX10_init_76 (by decide) ?_
  refine va_put (D := D) (ci := 9) (v := .int (5 : Int32)) (ty := .int) (C := RX10) (T := TX10) (N := 24) hx hb hts il_X10_init_X10 tyX10 tyX10_ok nmX10 hown hK hP hD hS 0 rfl rfl 20 (by decide) (hts _ fk_X10_init_14) (fun _ h9 => h9) rfl (tyX10_ok 20 (by decide)) rfl rfl (Nat.le_of_ble_eq_true rfl) dX10_init_77 (fun H locs hP hD hS => ?_)
  have hP : va_P D vwCl (wo_X10_init cI cJ a_m a_mt a_ml a_mr a_mx a_mf a_mg a_mw a_mh (0 : Int32) (0 : Int64) (0 : Int32) (0 : Int32) (0 : Int32) (0 : Int32) (0 : Int32) (0 : Int32) (0 : Int32) (0 : Int32) (0 : Int32) (1 : Int32) (5 : Int32) (0 : Int32) (0 : Int64) (0 : Int64) (fun _ => 0) (fun _ => 0) (fun _ => 0) (fun _ => 0) (fun _ => 0) (fun _ => 0) (fun _ => 0) (fun _ => 0)) H := hP
  have hD : va_D A (wo_X10_init cI cJ a_m a_mt a_ml a_mr a_mx a_mf a_mg a_mw a_mh (0 : Int32) (0 : Int64) (0 : Int32) (0 : Int32) (0 : Int32) (0 : Int32) (0 : Int32) (0 : Int32) (0 : Int32) (0 : Int32) (0 : Int32) (1 : Int32) (5 : Int32) (0 : Int32) (0 : Int64) (0 : Int64) (fun _ => 0) (fun _ => 0) (fun _ => 0) (fun _ => 0) (fun _ => 0) (fun _ => 0) (fun _ => 0) (fun _ => 0)) := hD
  refine lv_aload_n hx hb dX10_init_80 rfl (lv_at hl 0 rfl) ?_
  refine lv_bipush (v := (90 : Int32)) hx hb dX10_init_81 (by decide) ?_
  refine va_put (D := D) (ci := 9) (v := .int (90 : Int32)) (ty := .int) (C := RX10) (T := TX10) (N := 24) hx hb hts il_X10_init_X10 tyX10 tyX10_ok nmX10 hown hK hP hD hS 0 rfl rfl 21 (by decide) (hts _ fk_X10_init_15) (fun _ h9 => h9) rfl (tyX10_ok 21 (by decide)) rfl rfl (Nat.le_of_ble_eq_true rfl) dX10_init_83 (fun H locs hP hD hS => ?_)
  have hP : va_P D vwCl (wo_X10_init cI cJ a_m a_mt a_ml a_mr a_mx a_mf a_mg a_mw a_mh (0 : Int32) (0 : Int64) (0 : Int32) (0 : Int32) (0 : Int32) (0 : Int32) (0 : Int32) (0 : Int32) (0 : Int32) (0 : Int32) (0 : Int32) (1 : Int32) (5 : Int32) (90 : Int32) (0 : Int64) (0 : Int64) (fun _ => 0) (fun _ => 0) (fun _ => 0) (fun _ => 0) (fun _ => 0) (fun _ => 0) (fun _ => 0) (fun _ => 0)) H := hP
  have hD : va_D A (wo_X10_init cI cJ a_m a_mt a_ml a_mr a_mx a_mf a_mg a_mw a_mh (0 : Int32) (0 : Int64) (0 : Int32) (0 : Int32) (0 : Int32) (0 : Int32) (0 : Int32) (0 : Int32) (0 : Int32) (0 : Int32) (0 : Int32) (1 : Int32) (5 : Int32) (90 : Int32) (0 : Int64) (0 : Int64) (fun _ => 0) (fun _ => 0) (fun _ => 0) (fun _ => 0) (fun _ => 0) (fun _ => 0) (fun _ => 0) (fun _ => 0)) := hD
  refine lv_iconst (v := (0 : Int32)) hx hb dX10_init_86 (by decide) ?_
  refine lv_istore_n (lv' := [(1, .int (0 : Int32)), (0, .ref a_m)]) hx hb dX10_init_87 rfl hl (by decide) rfl (fun ls hl => ?_)
  exact w_X10_init_L88 X  _ _ _ hf _ _  hP hD hS _ (lv_sub hl [1, 0] rfl)
set_option maxHeartbeats 4000000 in
set_option maxRecDepth 100000 in
theorem c_X10_init {l : Launch} {D : va_G} {cI cJ : ClassId} {g : pa_GT} {a_m : Nat} {o : Int32 × Int32 × Int32 × (Nat → Int64) × (Nat → Int32)} (hf : f_X10_init  = some o) : pa_Mn l yX10_init wsX10_init rm_X10_init D cI cJ g [.ref a_m] [(a_m, .inr (9, [.int (0 : Int32), .long (0 : Int64), .null, .null, .null, .null, .int (0 : Int32), .int (0 : Int32), .int (0 : Int32), .int (0 : Int32), .int (0 : Int32), .int (0 : Int32), .int (0 : Int32), .null, .null, .int (0 : Int32), .null, .int (0 : Int32), .null, .int (0 : Int32), .int (0 : Int32), .int (0 : Int32), .long (0 : Int64), .long (0 : Int64)]))] (fun (u : Nat × Nat × Nat × Nat × Nat × Nat × Nat × Nat) => wo_X10_init cI cJ a_m u.1 u.2.1 u.2.2.1 u.2.2.2.1 u.2.2.2.2.1 u.2.2.2.2.2.1 u.2.2.2.2.2.2.1 u.2.2.2.2.2.2.2 0 0 0 0 0 0 0 0 0 0 0 o.1 o.2.1 o.2.2.1 0 0 o.2.2.2.1 (fun _ => 0) o.2.2.2.2 (fun _ => 0) (fun _ => 0) (fun _ => 0) (fun _ => 0) (fun _ => 0)) 8 3131 := by
  intro sz
  refine pa_metA (cc := cX10_init) (maxL := 3) (ret := none) (lv := [(0, .ref a_m)]) (by decide) rfl (Nat.le_of_ble_eq_true rfl) rfl ?_
  intro p e s m below meth c X hin hsz hP hD ls hl
  subst hsz
  exact w_X10_init_b0 X hin hf hP hD va_S.rf hl
