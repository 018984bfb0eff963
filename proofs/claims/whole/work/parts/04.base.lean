/-! ===== pure words: guards, binds ===== -/
def pa_ib (i : Int32) (n : Nat) : Bool := decide (0 ≤ i.toInt) && decide (i.toInt < (n : Int))
theorem pa_ib_in {i : Int32} {n : Nat} (h : pa_ib i n = true) : vp_in i n := by
  rw [pa_ib, Bool.and_eq_true, decide_eq_true_eq, decide_eq_true_eq] at h
  exact vp_in_iff.mpr h
theorem pa_gd {α : Type} {i : Int32} {n : Nat} {k : Option α} {o : α} (h : (if pa_ib i n = true then k else none) = some o) : vp_in i n ∧ k = some o := by
  by_cases hc : pa_ib i n = true
  · rw [if_pos hc] at h
    exact ⟨pa_ib_in hc, h⟩
  · rw [if_neg hc] at h
    cases h
theorem pa_bd {α β : Type} {x : Option α} {k : α → Option β} {o : β} (h : x.bind k = some o) : ∃ u, x = some u ∧ k u = some o := by
  cases x with
  | none => cases h
  | some u => exact ⟨u, rfl, h⟩
theorem pa_dz {α : Type} {y : Int32} {k : Option α} {o : α} (h : (if y = 0 then none else k) = some o) : ¬ y = 0 ∧ k = some o := by
  by_cases hc : y = 0
  · rw [if_pos hc] at h
    cases h
  · rw [if_neg hc] at h
    exact ⟨hc, h⟩
theorem pa_dzl {α : Type} {y : Int64} {k : Option α} {o : α} (h : (if y = 0 then none else k) = some o) : ¬ y = 0 ∧ k = some o := by
  by_cases hc : y = 0
  · rw [if_pos hc] at h
    cases h
  · rw [if_neg hc] at h
    exact ⟨hc, h⟩
/-- fuel of every loop -/
def pa_fu : Nat := 4096
/-! ===== what is there from the start: nest words, constants of the enum, the static row, the two texts ===== -/
abbrev pa_GT : Type := (Nat → Nat) × Nat × (Nat → Nat) × (Nat → Nat)
abbrev pa_toks : List String := ["FIND", "ALL", "PATTERN", "NUMBER", "SEMICOLON", "END", "WRONG"]
abbrev pa_peo : Nat → Int32 := fun j => match j with
  | 0 => 0
  | 1 => 1
  | 2 => 4
  | 3 => 5
  | 4 => 2
  | _ => 3
def pa_nest : List Cond := [.methodLinkNest "PostedAsks" 18 ⟨"PostedAsks$Text", "<init>", "()V"⟩ "PostedAsks", .fieldLinkNest "PostedAsks" 261 "PostedAsks$Text" "length" "I" "PostedAsks", .fieldLinkNest "PostedAsks$Habit" 36 "PostedAsks$Text" "token" "LPostedAsks$Token;" "PostedAsks", .fieldLinkNest "PostedAsks$Habit" 53 "PostedAsks$Text" "place" "I" "PostedAsks", .fieldLinkNest "PostedAsks$Habit" 75 "PostedAsks$Text" "value" "I" "PostedAsks", .methodLinkNest "PostedAsks" 25 ⟨"PostedAsks$Habit", "<init>", "()V"⟩ "PostedAsks", .fieldLinkNest "PostedAsks$Asker" 33 "PostedAsks$Habit" "patterns" "[I" "PostedAsks", .fieldLinkNest "PostedAsks$Asker" 36 "PostedAsks$Habit" "limits" "[I" "PostedAsks", .fieldLinkNest "PostedAsks$Asker" 28 "PostedAsks$Habit" "finds" "I" "PostedAsks", .fieldLinkNest "PostedAsks" 251 "PostedAsks$Habit" "finds" "I" "PostedAsks", .methodLinkNest "PostedAsks" 32 ⟨"PostedAsks$Asker", "<init>", "()V"⟩ "PostedAsks", .methodLinkNest "PostedAsks" 46 ⟨"PostedAsks$Weeks", "<init>", "()V"⟩ "PostedAsks", .fieldLinkNest "PostedAsks" 255 "PostedAsks$Weeks" "many" "I" "PostedAsks", .methodLinkNest "PostedAsks" 53 ⟨"PostedAsks$House", "<init>", "()V"⟩ "PostedAsks", .fieldLinkNest "PostedAsks" 258 "PostedAsks$House" "rows" "I" "PostedAsks", .methodLinkNest "PostedAsks" 60 ⟨"PostedAsks$Fraction", "<init>", "()V"⟩ "PostedAsks", .fieldLinkNest "PostedAsks" 147 "PostedAsks$Fraction" "upper" "J" "PostedAsks", .fieldLinkNest "PostedAsks" 150 "PostedAsks$Fraction" "lower" "J" "PostedAsks", .methodLinkNest "PostedAsks$Habit" 81 ⟨"PostedAsks", "within", "(III)Z"⟩ "PostedAsks", .methodLinkNest "PostedAsks$Lots" 18 ⟨"PostedAsks", "within", "(III)Z"⟩ "PostedAsks"]
def pa_N (U : State) : Prop := ∀ w ∈ pa_nest, va_Nw w U
theorem pa_N.warm {s U : State} (h : pa_N s) (hW : s.WarmedH U.vm) : pa_N U := by
  intro w hw
  have h1 := h w hw
  simp only [pa_nest, List.mem_cons, List.not_mem_nil, or_false] at hw
  rcases hw with rfl | rfl | rfl | rfl | rfl | rfl | rfl | rfl | rfl | rfl | rfl | rfl | rfl | rfl | rfl | rfl | rfl | rfl | rfl | rfl
  all_goals first | exact va_Nw.warmF hW h1 | exact va_Nw.warmM hW h1
theorem pa_N.same {s U : State} (h : pa_N s) (hv : s.vm = U.vm) : pa_N U := by
  intro w hw
  have h1 := h w hw
  simp only [pa_nest, List.mem_cons, List.not_mem_nil, or_false] at hw
  rcases hw with rfl | rfl | rfl | rfl | rfl | rfl | rfl | rfl | rfl | rfl | rfl | rfl | rfl | rfl | rfl | rfl | rfl | rfl | rfl | rfl
  all_goals exact va_Nw.same rfl hv h1
def pa_G (g : pa_GT) (A : Nat → Prop) (U : State) (H : Heap) : Prop :=
  pa_N U ∧ va_En "PostedAsks$Token" "LPostedAsks$Token;" pa_toks [] g.1 A U H ∧ (va_Z "PostedAsks" "PEOPLE" "[I" (.ref g.2.1) A U H ∧ va_T .int g.2.1 6 (fun j => .int (pa_peo j)) A U H) ∧ (vk_R "PostedAsks$Text" 56 "find" (g.2.2.1 0) U ∧ vk_R "PostedAsks$Text" 65 "all" (g.2.2.1 1) U) ∧ vk_S 2 [4, 3] [[102, 105, 110, 100], [97, 108, 108]] g.2.2.1 g.2.2.2 A U H ∧ va_Z "java/lang/String" "COMPACT_STRINGS" "Z" (.int 1) A U H ∧ va_Zq "jdk/internal/util/Preconditions" "SIOOBE_FORMATTER" "Ljava/util/function/BiFunction;" A U H
theorem pa_G.to {g : pa_GT} {A0 A1 : Nat → Prop} {s U : State} {H : Heap} {locs : List Loc} (h : pa_G g A0 s s.heap) (hS : va_S A0 s.heap H locs) (hAB : ∀ q, A1 q → A0 q) (hW : s.WarmedH U.vm) : pa_G g A1 U H := by
  obtain ⟨h1, h2, ⟨h3, h4⟩, ⟨h5, h6⟩, h7, h8, h9⟩ := h
  exact ⟨h1.warm hW, ((h2.kept hS.2.1).moved hW.alike).narrow hAB, ⟨((h3.kept hS.2.1).moved hW.alike).narrow hAB, ((h4.kept hS.2.1).moved hW.alike).narrow hAB⟩, ⟨h5.warm hW, h6.warm hW⟩, ((h7.kept hS.2.1).moved hW.alike).narrow hAB, ((h8.kept hS.2.1).moved hW.alike).narrow hAB, ((h9.kept hS.2.1).moved hW.alike).narrow hAB⟩
theorem pa_G.same {g : pa_GT} {A : Nat → Prop} {u U : State} {H : Heap} (h : pa_G g A u H) (hv : U.vm = u.vm) : pa_G g A U H := by
  obtain ⟨h1, h2, ⟨h3, h4⟩, ⟨h5, h6⟩, h7, h8, h9⟩ := h
  have ha : u.vm.Alike U.vm := by rw [hv]; exact Vm.Alike.refl u.vm
  exact ⟨h1.same hv.symm, h2.moved ha, ⟨h3.moved ha, h4.moved ha⟩, ⟨vk_R.same hv h5, vk_R.same hv h6⟩, h7.moved ha, h8.moved ha, h9.moved ha⟩
/-! ===== contracts ===== -/
abbrev pa_ty (cI cJ : ClassId) : List (ClassId × FieldType) := [(cI, .int), (cJ, .long)]
def pa_PB (D : va_G) (cI cJ : ClassId) (g : pa_GT) (w : va_W) (sz : Nat) (U : State) : Prop := U.heap.size = sz ∧ va_P D vwCl w U.heap ∧ va_K D vwCl (pa_ty cI cJ) U ∧ va_D (fun _ => True) w ∧ pa_G g (va_A w sz) U U.heap
def pa_QB (D : va_G) (A : Nat → Prop) (w : va_W) (_ : Unit) (t : State) : Prop := va_P D vwCl w t.heap ∧ va_D A w
abbrev pa_Mi (l : Launch) (y : MethodName) (wy : List Cond) (rm : Room) (D : va_G) (cI cJ : ClassId) (g : pa_GT) (av : List Value) (w w' : va_W) (rv : Int32) : Prop := ∀ sz : Nat, Met l y wy rm (va_Pc av (pa_PB D cI cJ g w sz)) (va_Qi (fun r (_ : Unit) => r = rv) (pa_QB D (va_A w sz) w') (va_A w sz)) 0 0 (va_A w sz)
abbrev pa_Ml (l : Launch) (y : MethodName) (wy : List Cond) (rm : Room) (D : va_G) (cI cJ : ClassId) (g : pa_GT) (av : List Value) (w w' : va_W) (rv : Int64) : Prop := ∀ sz : Nat, Met l y wy rm (va_Pc av (pa_PB D cI cJ g w sz)) (va_Ql (fun r (_ : Unit) => r = rv) (pa_QB D (va_A w sz) w') (va_A w sz)) 0 0 (va_A w sz)
abbrev pa_Mv (l : Launch) (y : MethodName) (wy : List Cond) (rm : Room) (D : va_G) (cI cJ : ClassId) (g : pa_GT) (av : List Value) (w w' : va_W) : Prop := ∀ sz : Nat, Met l y wy rm (va_Pc av (pa_PB D cI cJ g w sz)) (va_Qv (fun (_ : Unit) => True) (pa_QB D (va_A w sz) w') (va_A w sz)) 0 0 (va_A w sz)
theorem pa_blind {av : List Value} {D : va_G} {cI cJ : ClassId} {g : pa_GT} {w : va_W} {sz : Nat} : FrameBlind (va_Pc av (pa_PB D cI cJ g w sz)) := by
  intro a U gf mk q
  obtain ⟨q0, q1, q2, q3, q4, q5⟩ := q
  exact ⟨q0, q1, q2, va_K.moved (u := U) (U := U.calling gf mk a) (Vm.Alike.refl U.vm) q3, q4, pa_G.same (u := U) (U := U.calling gf mk a) q5 rfl⟩
/-- what holds all through a method's body -/
def pa_X (cc : ByteArray) (nL : Nat) (ret : Option FieldType) (own : String) (Ts : List Cond) (D : va_G) (cI cJ : ClassId) (g : pa_GT) (A : Nat → Prop) (p : Program) (s : State) (m : MethodId) (args : Array Value) (meth : Method) (c : Code) : Prop :=
  p.tables.exec = Jvm.exec ∧ c.code = cc ∧ meth.sig.returnType = ret ∧ c.maxLocals = nL ∧ s.vm.findClass own = some m.cls ∧ (∀ w ∈ Ts, w.before args s = true) ∧ va_K D vwCl (pa_ty cI cJ) s ∧ (∀ q, s.heap.size ≤ q → A q) ∧ pa_G g A s s.heap ∧ meth.locks = false
section PAC
variable {p : Program} {l : Launch} {e : Env} {R : Room} {s : State} {m : MethodId} {args : Array Value} {below : List Frame} {meth : Method} {c : Code} {H : Heap} {locs : List Loc} {cells slots : Nat} {Q : State → Prop}
variable {cc : ByteArray} {nL : Nat} {ret : Option FieldType} {own : String} {Ts : List Cond} {D : va_G} {cI cJ : ClassId} {g : pa_GT} {A : Nat → Prop} {pc : Nat} {ls : Array Slot} {ws wc wr w1 w2 : va_W} {st rest : List Value}
/-- the callee's start out of the caller's world -/
theorem pa_pre (X : pa_X cc nL ret own Ts D cI cJ g A p s m args meth c) (hP : va_P D vwCl ws H) (hD : va_D A ws) (hS : va_S A s.heap H locs) (isC : List Nat) (hC : isC.map (fun i => ws[i]?) = wc.map some) (hn : va_nd isC = true) {As : List Value} : PreS s H (va_Pc As (pa_PB D cI cJ g wc H.size)) As := by
  obtain ⟨-, -, -, -, -, -, hK, hA, hG, -⟩ := X
  have hF := va_free (wc := wc) hD hS hA isC hC
  have hDc := hD.sub isC hn hC
  have hPc : va_P D vwCl wc H := hP.sub isC (by
    have h := congrArg (List.filterMap id) hC
    rw [List.filterMap_map, List.filterMap_map] at h
    have e1 : wc.filterMap (id ∘ some) = wc := by
      rw [show (id ∘ some : (Nat × va_E) → Option (Nat × va_E)) = some from rfl, List.filterMap_some]
    rw [e1] at h
    exact h)
  refine ⟨pa_blind, fun U hU hW => ⟨rfl, by rw [hU], by rw [hU]; exact hPc, va_K.moved hW.alike hK, hDc.weaken (fun _ _ _ _ => trivial), ?_⟩⟩
  rw [hU]
  exact hG.to hS hF hW
theorem pa_rV (X : pa_X cc nL ret own Ts D cI cJ g A p s m args meth c) (hP : va_P D vwCl ws H) (hD : va_D A ws) (hS : va_S A s.heap H locs) (isC : List Nat) (hC : isC.map (fun i => ws[i]?) = wc.map some) (hnC : va_nd isC = true) {y : MethodName} {wy : List Cond} {rm : Room} {b : Nat} {As : List Value} {Qc : Array Value → State → Outcome → State → Prop} {free : Addr → Prop} {bytes : ByteArray} {maxL n index : Nat} {ret2 : Option FieldType} {C : String}
    (hM : Met l y wy rm (va_Pc (.ref b :: As) (pa_PB D cI cJ g wc H.size)) Qc 0 0 free) (cw : CallW R s args own C index y bytes maxL ret2 wy rm 0 0 n) {q0 ci N : Nat} {T : u_T} {fs : List Value} (hr : ws[q0]? = some (b, .inr (ci, fs))) (hcl : vwCl[ci]? = some (C, T, N))
    (hn : As.length = n) (hls : ls.size = nL) (hst : st = As.reverse ++ .ref b :: rest) (hw : (rest.map fun v => v.category).sum ≤ 8) (hdg : decode cc pc = .ok (.invokevirtual index, 3)) (hf : cells ≤ R.cells ∧ slots ≤ R.slots) : va_Run p l e R s m args below meth c H locs cells slots 0 0 (F0 m pc ls st) rest (Qc (Value.ref b :: As).toArray) free := by
  have hpre := pa_pre X hP hD hS isC hC hnC (As := .ref b :: As)
  obtain ⟨hx, hb, -, hml, hown, hts, hK, -, -, -⟩ := X
  exact va_runV ⟨hx, hb, hml, hown, hts⟩ hM cw ⟨hpre.1, va_recv hK hP hcl hr, hpre.2⟩ rfl hn hls hst (lv_room hw) hdg hf
theorem pa_rS (X : pa_X cc nL ret own Ts D cI cJ g A p s m args meth c) (hP : va_P D vwCl ws H) (hD : va_D A ws) (hS : va_S A s.heap H locs) (isC : List Nat) (hC : isC.map (fun i => ws[i]?) = wc.map some) (hnC : va_nd isC = true) {y : MethodName} {wy : List Cond} {rm : Room} {As : List Value} {Qc : Array Value → State → Outcome → State → Prop} {free : Addr → Prop} {bytes : ByteArray} {maxL n index : Nat} {ret2 : Option FieldType}
    (hM : Met l y wy rm (va_Pc As (pa_PB D cI cJ g wc H.size)) Qc 0 0 free) (cw : CallB R s args own index y bytes maxL ret2 wy rm 0 0 n ∧ (Cond.static y).before args s = true)
    (hn : As.length = n) (hls : ls.size = nL) (hst : st = As.reverse ++ rest) (hw : (rest.map fun v => v.category).sum ≤ 8) (hdg : decode cc pc = .ok (.invokestatic index, 3)) (hf : cells ≤ R.cells ∧ slots ≤ R.slots) : va_Run p l e R s m args below meth c H locs cells slots 0 0 (F0 m pc ls st) rest (Qc As.toArray) free := by
  have hpre := pa_pre X hP hD hS isC hC hnC (As := As)
  obtain ⟨hx, hb, -, hml, hown, hts, hK, -, -, -⟩ := X
  exact va_runS ⟨hx, hb, hml, hown, hts⟩ hM cw hpre rfl hn hls hst (lv_room hw) hdg hf
theorem pa_rN (X : pa_X cc nL ret own Ts D cI cJ g A p s m args meth c) (hP : va_P D vwCl ws H) (hD : va_D A ws) (hS : va_S A s.heap H locs) (isC : List Nat) (hC : isC.map (fun i => ws[i]?) = wc.map some) (hnC : va_nd isC = true) {y : MethodName} {wy : List Cond} {rm : Room} {As : List Value} {Qc : Array Value → State → Outcome → State → Prop} {free : Addr → Prop} {bytes : ByteArray} {maxL n index : Nat} {ret2 : Option FieldType} {host : String}
    (hM : Met l y wy rm (va_Pc As (pa_PB D cI cJ g wc H.size)) Qc 0 0 free) (cw : va_CN R s args own index y host bytes maxL ret2 wy rm 0 0 n) (hs0 : (Cond.static y).before args s = true)
    (hn : As.length = n) (hls : ls.size = nL) (hst : st = As.reverse ++ rest) (hw : (rest.map fun v => v.category).sum ≤ 8) (hdg : decode cc pc = .ok (.invokestatic index, 3)) (hf : cells ≤ R.cells ∧ slots ≤ R.slots) : va_Run p l e R s m args below meth c H locs cells slots 0 0 (F0 m pc ls st) rest (Qc As.toArray) free := by
  have hpre := pa_pre X hP hD hS isC hC hnC (As := As)
  obtain ⟨hx, hb, -, hml, hown, hts, hK, -, -, -⟩ := X
  exact va_runSN ⟨hx, hb, hml, hown, hts⟩ hM ⟨cw, hs0, trivial⟩ hpre rfl hn hls hst (lv_room hw) hdg hf
/-- behind a call: the caller's cells and the callee's, in the caller's order -/
theorem pa_back (X : pa_X cc nL ret own Ts D cI cJ g A p s m args meth c) {H1 : Heap} (hP : va_P D vwCl ws H) (hD : va_D A ws) (hS : va_S A s.heap H locs) (isC isR pm : List Nat) (hC : isC.map (fun i => ws[i]?) = wc.map some) (hR : isR.map (fun i => ws[i]?) = wr.map some) (hnR : va_nd isR = true) (hdis : ∀ i ∈ isR, i ∉ isC) (hpm : pm.map (fun i => (wr ++ w1)[i]?) = w2.map some) (hpn : va_nd pm = true)
    (hk : ∀ q : Nat, q < H.size → ¬ va_A wc H.size q → H1[q]? = H[q]?) (hP1 : va_P D vwCl w1 H1) (hD1 : va_D (va_A wc H.size) w1) : va_P D vwCl w2 H1 ∧ va_D A w2 := by
  obtain ⟨-, -, -, -, -, -, hK, hA, hG, -⟩ := X
  have hF := va_free (wc := wc) hD hS hA isC hC
  obtain ⟨hP2, hD2⟩ := va_join (wr := wr) (w1 := w1) hP hD isC isR hC hR hnR hdis hk hF hP1 hD1
  refine ⟨hP2.sub pm (by
    have h := congrArg (List.filterMap id) hpm
    rw [List.filterMap_map, List.filterMap_map] at h
    have e1 : w2.filterMap (id ∘ some) = w2 := by
      rw [show (id ∘ some : (Nat × va_E) → Option (Nat × va_E)) = some from rfl, List.filterMap_some]
    rw [e1] at h
    exact h), hD2.sub pm hpn hpm⟩
theorem pa_ki (X : pa_X cc nL ret own Ts D cI cJ g A p s m args meth c) (hP : va_P D vwCl ws H) (hD : va_D A ws) (hS : va_S A s.heap H locs) (isC isR pm : List Nat) (hC : isC.map (fun i => ws[i]?) = wc.map some) {rv : Int32} {a : Array Value} (hr : va_Run p l e R s m args below meth c H locs cells slots 0 0 (F0 m pc ls st) rest (va_Qi (fun r (_ : Unit) => r = rv) (pa_QB D (va_A wc H.size) w1) (va_A wc H.size) a) (va_A wc H.size))
    (hR : isR.map (fun i => ws[i]?) = wr.map some) (hnR : va_nd isR = true) (hdis : ∀ i ∈ isR, i ∉ isC) (hpm : pm.map (fun i => (wr ++ w1)[i]?) = w2.map some) (hpn : va_nd pm = true)
    (kk : ∀ (H1 : Heap) (locs1 : List Loc), va_P D vwCl w2 H1 → va_D A w2 → va_S A s.heap H1 locs1 → W p l e R s m args below meth c H1 locs1 cells slots Q (F0 m (pc + 3) ls (.int rv :: rest))) : W p l e R s m args below meth c H locs cells slots Q (F0 m pc ls st) := by
  have hF := va_free (wc := wc) hD hS X.2.2.2.2.2.2.2.1 isC hC
  refine va_calli hr hS (fun q _ h => hF q h) hF (fun r u t H1 locs1 ht hvm hw hB hz1 hk1 hS1 => ?_)
  obtain ⟨hP1, hD1⟩ := hB
  rw [ht] at hP1
  obtain ⟨hP2, hD2⟩ := pa_back X hP hD hS isC isR pm hC hR hnR hdis hpm hpn hk1 hP1 hD1
  rw [show r = rv from hw]
  exact kk H1 locs1 hP2 hD2 hS1
theorem pa_kl (X : pa_X cc nL ret own Ts D cI cJ g A p s m args meth c) (hP : va_P D vwCl ws H) (hD : va_D A ws) (hS : va_S A s.heap H locs) (isC isR pm : List Nat) (hC : isC.map (fun i => ws[i]?) = wc.map some) {rv : Int64} {a : Array Value} (hr : va_Run p l e R s m args below meth c H locs cells slots 0 0 (F0 m pc ls st) rest (va_Ql (fun r (_ : Unit) => r = rv) (pa_QB D (va_A wc H.size) w1) (va_A wc H.size) a) (va_A wc H.size))
    (hR : isR.map (fun i => ws[i]?) = wr.map some) (hnR : va_nd isR = true) (hdis : ∀ i ∈ isR, i ∉ isC) (hpm : pm.map (fun i => (wr ++ w1)[i]?) = w2.map some) (hpn : va_nd pm = true)
    (kk : ∀ (H1 : Heap) (locs1 : List Loc), va_P D vwCl w2 H1 → va_D A w2 → va_S A s.heap H1 locs1 → W p l e R s m args below meth c H1 locs1 cells slots Q (F0 m (pc + 3) ls (.long rv :: rest))) : W p l e R s m args below meth c H locs cells slots Q (F0 m pc ls st) := by
  have hF := va_free (wc := wc) hD hS X.2.2.2.2.2.2.2.1 isC hC
  refine va_calll hr hS (fun q _ h => hF q h) hF (fun r u t H1 locs1 ht hvm hw hB hz1 hk1 hS1 => ?_)
  obtain ⟨hP1, hD1⟩ := hB
  rw [ht] at hP1
  obtain ⟨hP2, hD2⟩ := pa_back X hP hD hS isC isR pm hC hR hnR hdis hpm hpn hk1 hP1 hD1
  rw [show r = rv from hw]
  exact kk H1 locs1 hP2 hD2 hS1
theorem pa_kv (X : pa_X cc nL ret own Ts D cI cJ g A p s m args meth c) (hP : va_P D vwCl ws H) (hD : va_D A ws) (hS : va_S A s.heap H locs) (isC isR pm : List Nat) (hC : isC.map (fun i => ws[i]?) = wc.map some) {a : Array Value} (hr : va_Run p l e R s m args below meth c H locs cells slots 0 0 (F0 m pc ls st) rest (va_Qv (fun (_ : Unit) => True) (pa_QB D (va_A wc H.size) w1) (va_A wc H.size) a) (va_A wc H.size))
    (hR : isR.map (fun i => ws[i]?) = wr.map some) (hnR : va_nd isR = true) (hdis : ∀ i ∈ isR, i ∉ isC) (hpm : pm.map (fun i => (wr ++ w1)[i]?) = w2.map some) (hpn : va_nd pm = true)
    (kk : ∀ (H1 : Heap) (locs1 : List Loc), va_P D vwCl w2 H1 → va_D A w2 → va_S A s.heap H1 locs1 → W p l e R s m args below meth c H1 locs1 cells slots Q (F0 m (pc + 3) ls rest)) : W p l e R s m args below meth c H locs cells slots Q (F0 m pc ls st) := by
  have hF := va_free (wc := wc) hD hS X.2.2.2.2.2.2.2.1 isC hC
  refine va_callv hr hS (fun q _ h => hF q h) hF (fun u t H1 locs1 ht hvm hw hB hz1 hk1 hS1 => ?_)
  obtain ⟨hP1, hD1⟩ := hB
  rw [ht] at hP1
  obtain ⟨hP2, hD2⟩ := pa_back X hP hD hS isC isR pm hC hR hnR hdis hpm hpn hk1 hP1 hD1
  exact kk H1 locs1 hP2 hD2 hS1
/-- ends -/
theorem pa_ei (X : pa_X cc nL (some .int) own Ts D cI cJ g A p s m args meth c) (hP : va_P D vwCl ws H) (hD : va_D A ws) (hS : va_S A s.heap H locs) {v : Int32} (hdg : decode cc pc = .ok (.ireturn, 1)) : W p l e R s m args below meth c H locs cells slots (MQ below (va_Qi (fun r (_ : Unit) => r = v) (pa_QB D A ws) A) args s cells slots A) (F0 m pc ls [.int v]) := by
  obtain ⟨hx, hb, hr, hml, hown, hts, hK, hA, hG, hlk⟩ := X
  exact W.iret (v := v) hx hb hr (fun t ht hW => ⟨⟨v, (), rfl, rfl, by rw [ht]; exact hP, hD⟩, hS.F ht⟩) hS.2.2 hdg hlk
theorem pa_ez {ty : FieldType} (X : pa_X cc nL (some ty) own Ts D cI cJ g A p s m args meth c) (hP : va_P D vwCl ws H) (hD : va_D A ws) (hS : va_S A s.heap H locs) {v : Int32} (hn : narrow ty (.int v) = .int v) (hdg : decode cc pc = .ok (.ireturn, 1)) : W p l e R s m args below meth c H locs cells slots (MQ below (va_Qi (fun r (_ : Unit) => r = v) (pa_QB D A ws) A) args s cells slots A) (F0 m pc ls [.int v]) := by
  obtain ⟨hx, hb, hr, hml, hown, hts, hK, hA, hG, hlk⟩ := X
  exact W.zret (v := v) hx hb hr hn (fun t ht hW => ⟨⟨v, (), rfl, rfl, by rw [ht]; exact hP, hD⟩, hS.F ht⟩) hS.2.2 hdg hlk
theorem pa_el (X : pa_X cc nL (some .long) own Ts D cI cJ g A p s m args meth c) (hP : va_P D vwCl ws H) (hD : va_D A ws) (hS : va_S A s.heap H locs) {v : Int64} (hdg : decode cc pc = .ok (.lreturn, 1)) : W p l e R s m args below meth c H locs cells slots (MQ below (va_Ql (fun r (_ : Unit) => r = v) (pa_QB D A ws) A) args s cells slots A) (F0 m pc ls [.long v]) := by
  obtain ⟨hx, hb, hr, hml, hown, hts, hK, hA, hG, hlk⟩ := X
  exact W.lret (v := v) hx hb hr (fun t ht hW => ⟨⟨v, (), rfl, rfl, by rw [ht]; exact hP, hD⟩, hS.F ht⟩) hS.2.2 hdg hlk
theorem pa_ev (X : pa_X cc nL none own Ts D cI cJ g A p s m args meth c) (hP : va_P D vwCl ws H) (hD : va_D A ws) (hS : va_S A s.heap H locs) (hdg : decode cc pc = .ok (.return_, 1)) : W p l e R s m args below meth c H locs cells slots (MQ below (va_Qv (fun (_ : Unit) => True) (pa_QB D A ws) A) args s cells slots A) (F0 m pc ls []) := by
  obtain ⟨hx, hb, hr, hml, hown, hts, hK, hA, hG, hlk⟩ := X
  exact W.vret hx hb hr (fun t ht hW => ⟨⟨(), rfl, trivial, by rw [ht]; exact hP, hD⟩, hS.F ht⟩) hS.2.2 hdg hlk
end PAC
/-- a method's contract out of the walk of its body -/
theorem pa_met {l : Launch} {y : MethodName} {ws ws' : List Cond} {rm : Room} {D : va_G} {cI cJ : ClassId} {g : pa_GT} {w : va_W} {sz : Nat} {Qc : Array Value → State → Outcome → State → Prop} {cc : ByteArray} {maxL : Nat} {ret : Option FieldType} {av : List Value} {lv : List (Nat × Value)}
    (hy : plainName y.cls = true) (hw : ws = Cond.code y cc maxL ret :: ws') (hlen : (lg_sl av).length ≤ maxL) (hlv : lv_args 0 av = lv)
    (body : ∀ p e s m below meth c, pa_X cc maxL ret y.cls ws D cI cJ g (va_A w s.heap.size) p s m av.toArray meth c → s.heap.size = sz → va_P D vwCl w s.heap → va_D (va_A w s.heap.size) w → ∀ ls : Array Slot, lv_has ls maxL lv → W p l e (headSpec ws rm).room s m av.toArray below meth c s.heap [] 0 0 (MQ below Qc av.toArray s 0 0 (va_A w sz)) (F0 m 0 ls [])) :
    Met l y ws rm (va_Pc av (pa_PB D cI cJ g w sz)) Qc 0 0 (va_A w sz) := by
  refine Met.ofW (cc := cc) (maxL := maxL) (ret := ret) hy hw ?_
  intro p e s m args below meth c s₁ B hml hv
  obtain ⟨rfl, hsz, hP, hK, hD0, hG⟩ := hv
  have hts := atoms_spec (ws := ws) B.pre
  have hown : s.vm.findClass y.cls = some m.cls := findClass_of_methodNamed B.named
  have hl := lv_entry av (n := maxL) hlen
  rw [lg_entry_eq]
  rw [hlv] at hl
  refine body p e s m below meth c ⟨B.exec, B.bytes, B.returns, hml, hown, hts, hK, fun q h => Or.inr h, by rw [hsz]; exact hG, B.notSynchronized⟩ hsz hP (hD0.self (sz := s.heap.size)) _ hl
