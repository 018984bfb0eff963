/-! ===== constructors: new cells ===== -/
def pa_QN {S : Type} (D : va_G) (A : Nat → Prop) (w : S → va_W) (u : S) (t : State) : Prop := va_P D vwCl (w u) t.heap ∧ va_D A (w u)
abbrev pa_Mn {S : Type} (l : Launch) (y : MethodName) (wy : List Cond) (rm : Room) (D : va_G) (cI cJ : ClassId) (g : pa_GT) (av : List Value) (w : va_W) (w' : S → va_W) (mc ms : Nat) : Prop := ∀ sz : Nat, Met l y wy rm (va_Pc av (pa_PB D cI cJ g w sz)) (va_Qv (fun (_ : S) => True) (pa_QN D (va_A w sz) w') (va_A w sz)) mc ms (va_A w sz)
theorem pa_metA {l : Launch} {y : MethodName} {ws ws' : List Cond} {rm : Room} {D : va_G} {cI cJ : ClassId} {g : pa_GT} {w : va_W} {sz mc ms : Nat} {Qc : Array Value → State → Outcome → State → Prop} {cc : ByteArray} {maxL : Nat} {ret : Option FieldType} {av : List Value} {lv : List (Nat × Value)}
    (hy : plainName y.cls = true) (hw : ws = Cond.code y cc maxL ret :: ws') (hlen : (lg_sl av).length ≤ maxL) (hlv : lv_args 0 av = lv)
    (body : ∀ p e s m below meth c, pa_X cc maxL ret y.cls ws D cI cJ g (va_A w s.heap.size) p s m av.toArray meth c → meth.name = y.name → s.heap.size = sz → va_P D vwCl w s.heap → va_D (va_A w s.heap.size) w → ∀ ls : Array Slot, lv_has ls maxL lv → W p l e (headSpec ws rm).room s m av.toArray below meth c s.heap [] 0 0 (MQ below Qc av.toArray s mc ms (va_A w sz)) (F0 m 0 ls [])) :
    Met l y ws rm (va_Pc av (pa_PB D cI cJ g w sz)) Qc mc ms (va_A w sz) := by
  refine Met.ofW (cc := cc) (maxL := maxL) (ret := ret) hy hw ?_
  intro p e s m args below meth c s₁ B hml hv
  obtain ⟨rfl, hsz, hP, hK, hD0, hG⟩ := hv
  have hts := atoms_spec (ws := ws) B.pre
  have hown : s.vm.findClass y.cls = some m.cls := findClass_of_methodNamed B.named
  have hl := lv_entry av (n := maxL) hlen
  rw [lg_entry_eq]
  rw [hlv] at hl
  refine body p e s m below meth c ⟨B.exec, B.bytes, B.returns, hml, hown, hts, hK, fun q h => Or.inr h, by rw [hsz]; exact hG, B.notSynchronized⟩ (name_of_methodNamed B.named B.method).1 hsz hP (hD0.self (sz := s.heap.size)) _ hl
section PAN
variable {p : Program} {l : Launch} {e : Env} {R : Room} {s : State} {m : MethodId} {args : Array Value} {below : List Frame} {meth : Method} {c : Code} {H : Heap} {locs : List Loc} {cells slots : Nat} {Q : State → Prop}
variable {cc : ByteArray} {nL : Nat} {ret : Option FieldType} {own : String} {Ts : List Cond} {D : va_G} {cI cJ : ClassId} {g : pa_GT} {A : Nat → Prop} {pc : Nat} {ls : Array Slot} {ws wc wr : va_W} {st rest : List Value}
theorem pa_newI (X : pa_X cc nL ret own Ts D cI cJ g A p s m args meth c) (hP : va_P D vwCl ws H) (hD : va_D A ws) (hS : va_S A s.heap H locs) {n : Int32} {N : Nat} (hn : ¬ n < 0) (hN : n.toNatClampNeg = N) (hbytes : N * componentBytes .int ≤ 536870912) (hcells : cells + 1 ≤ R.cells) (hslots : slots + N ≤ R.slots) (harr : (Cond.arrayClass .int).before args s = true) (hdg : decode cc pc = .ok (.newarray .int, 2))
    (kk : ∀ (q : Nat) (H1 : Heap), va_P D vwCl (ws ++ [(q, .inl (cI, N, .inl (fun _ => 0)))]) H1 → va_D A (ws ++ [(q, .inl (cI, N, .inl (fun _ => 0)))]) → va_S A s.heap H1 locs → W p l e R s m args below meth c H1 locs (cells + 1) (slots + N) Q (F0 m (pc + 2) ls (.ref q :: rest))) : W p l e R s m args below meth c H locs cells slots Q (F0 m pc ls (.int n :: rest)) := by
  obtain ⟨hx, hb, -, hml, hown, hts, hK, hA, hG, -⟩ := X
  refine va_newa (atype := .int) (ty := .int) (a0 := (N, .inl (fun _ => 0))) hx hb harr rfl hK hP hD hS hA (fun _ => rfl) hn hN hbytes hcells hslots hdg (fun q cA H1 hK1 hP1 hD1 hS1 => ?_)
  have e1 : s.vm.findClass ("[" ++ FieldType.int.toString) = some cI := (hK.2 0 (cI, .int) rfl).2
  have e2 : s.vm.findClass ("[" ++ FieldType.int.toString) = some cA := (hK1.2 2 (cA, .int) rfl).2
  have e3 : cA = cI := Option.some.inj (e2.symm.trans e1)
  subst e3
  exact kk q H1 hP1 hD1 hS1
theorem pa_newJ (X : pa_X cc nL ret own Ts D cI cJ g A p s m args meth c) (hP : va_P D vwCl ws H) (hD : va_D A ws) (hS : va_S A s.heap H locs) {n : Int32} {N : Nat} (hn : ¬ n < 0) (hN : n.toNatClampNeg = N) (hbytes : N * componentBytes .long ≤ 536870912) (hcells : cells + 1 ≤ R.cells) (hslots : slots + N ≤ R.slots) (harr : (Cond.arrayClass .long).before args s = true) (hdg : decode cc pc = .ok (.newarray .long, 2))
    (kk : ∀ (q : Nat) (H1 : Heap), va_P D vwCl (ws ++ [(q, .inl (cJ, N, .inr (.inl (fun _ => 0))))]) H1 → va_D A (ws ++ [(q, .inl (cJ, N, .inr (.inl (fun _ => 0))))]) → va_S A s.heap H1 locs → W p l e R s m args below meth c H1 locs (cells + 1) (slots + N) Q (F0 m (pc + 2) ls (.ref q :: rest))) : W p l e R s m args below meth c H locs cells slots Q (F0 m pc ls (.int n :: rest)) := by
  obtain ⟨hx, hb, -, hml, hown, hts, hK, hA, hG, -⟩ := X
  refine va_newa (atype := .long) (ty := .long) (a0 := (N, .inr (.inl (fun _ => 0)))) hx hb harr rfl hK hP hD hS hA (fun _ => rfl) hn hN hbytes hcells hslots hdg (fun q cA H1 hK1 hP1 hD1 hS1 => ?_)
  have e1 : s.vm.findClass ("[" ++ FieldType.long.toString) = some cJ := (hK.2 1 (cJ, .long) rfl).2
  have e2 : s.vm.findClass ("[" ++ FieldType.long.toString) = some cA := (hK1.2 2 (cA, .long) rfl).2
  have e3 : cA = cJ := Option.some.inj (e2.symm.trans e1)
  subst e3
  exact kk q H1 hP1 hD1 hS1
theorem pa_rI (X : pa_X cc nL ret own Ts D cI cJ g A p s m args meth c) (hP : va_P D vwCl ws H) (hD : va_D A ws) (hS : va_S A s.heap H locs) (isC : List Nat) (hC : isC.map (fun i => ws[i]?) = wc.map some) (hnC : va_nd isC = true) {y : MethodName} {wy : List Cond} {rm : Room} {b mc ms : Nat} {As : List Value} {Qc : Array Value → State → Outcome → State → Prop} {free : Addr → Prop} {bytes : ByteArray} {maxL n index : Nat}
    (hM : Met l y wy rm (va_Pc (.ref b :: As) (pa_PB D cI cJ g wc H.size)) Qc mc ms free) (cw : CallB R s args own index y bytes maxL none wy rm mc ms n ∧ y.name = "<init>" ∧ (Cond.instanceMethod y).before args s = true)
    (hn : As.length = n) (hls : ls.size = nL) (hst : st = As.reverse ++ .ref b :: rest) (hw : (rest.map fun v => v.category).sum ≤ 8) (hdg : decode cc pc = .ok (.invokespecial index, 3)) (hf : cells + mc ≤ R.cells ∧ slots + ms ≤ R.slots) : va_Run p l e R s m args below meth c H locs cells slots mc ms (F0 m pc ls st) rest (Qc (Value.ref b :: As).toArray) free := by
  have hpre := pa_pre X hP hD hS isC hC hnC (As := .ref b :: As)
  obtain ⟨hx, hb, -, hml, hown, hts, hK, -, -, -⟩ := X
  exact va_runI ⟨hx, hb, hml, hown, hts⟩ hM cw hpre rfl hn hls hst (lv_room hw) hdg hf
theorem pa_rIN (X : pa_X cc nL ret own Ts D cI cJ g A p s m args meth c) (hP : va_P D vwCl ws H) (hD : va_D A ws) (hS : va_S A s.heap H locs) (isC : List Nat) (hC : isC.map (fun i => ws[i]?) = wc.map some) (hnC : va_nd isC = true) {y : MethodName} {wy : List Cond} {rm : Room} {b mc ms : Nat} {As : List Value} {Qc : Array Value → State → Outcome → State → Prop} {free : Addr → Prop} {bytes : ByteArray} {maxL n index : Nat} {host : String}
    (hM : Met l y wy rm (va_Pc (.ref b :: As) (pa_PB D cI cJ g wc H.size)) Qc mc ms free) (cw : va_CN R s args own index y host bytes maxL none wy rm mc ms n) (hy1 : y.name = "<init>") (hin : (Cond.instanceMethod y).before args s = true)
    (hn : As.length = n) (hls : ls.size = nL) (hst : st = As.reverse ++ .ref b :: rest) (hw : (rest.map fun v => v.category).sum ≤ 8) (hdg : decode cc pc = .ok (.invokespecial index, 3)) (hf : cells + mc ≤ R.cells ∧ slots + ms ≤ R.slots) : va_Run p l e R s m args below meth c H locs cells slots mc ms (F0 m pc ls st) rest (Qc (Value.ref b :: As).toArray) free := by
  have hpre := pa_pre X hP hD hS isC hC hnC (As := .ref b :: As)
  obtain ⟨hx, hb, -, hml, hown, hts, hK, -, -, -⟩ := X
  exact va_runIN ⟨hx, hb, hml, hown, hts⟩ hM ⟨cw, hy1, hin⟩ hpre rfl hn hls hst (lv_room hw) hdg hf
theorem pa_kn {S : Type} {w1 : S → va_W} {mc ms : Nat} (X : pa_X cc nL ret own Ts D cI cJ g A p s m args meth c) (hP : va_P D vwCl ws H) (hD : va_D A ws) (hS : va_S A s.heap H locs) (isC isR : List Nat) (hC : isC.map (fun i => ws[i]?) = wc.map some) {a : Array Value} (hr : va_Run p l e R s m args below meth c H locs cells slots mc ms (F0 m pc ls st) rest (va_Qv (fun (_ : S) => True) (pa_QN D (va_A wc H.size) w1) (va_A wc H.size) a) (va_A wc H.size))
    (hR : isR.map (fun i => ws[i]?) = wr.map some) (hnR : va_nd isR = true) (hdis : ∀ i ∈ isR, i ∉ isC)
    (kk : ∀ (u : S) (H1 : Heap) (locs1 : List Loc), va_P D vwCl (wr ++ w1 u) H1 → va_D A (wr ++ w1 u) → va_S A s.heap H1 locs1 → W p l e R s m args below meth c H1 locs1 (cells + mc) (slots + ms) Q (F0 m (pc + 3) ls rest)) : W p l e R s m args below meth c H locs cells slots Q (F0 m pc ls st) := by
  have hF := va_free (wc := wc) hD hS X.2.2.2.2.2.2.2.1 isC hC
  refine va_callv hr hS (fun q _ h => hF q h) hF (fun u t H1 locs1 ht hvm hw hB hz1 hk1 hS1 => ?_)
  obtain ⟨hP1, hD1⟩ := hB
  rw [ht] at hP1
  obtain ⟨hP2, hD2⟩ := va_join (wr := wr) (w1 := w1 u) hP hD isC isR hC hR hnR hdis hk1 hF hP1 hD1
  exact kk u H1 locs1 hP2 hD2 hS1
theorem pa_en {S : Type} {w' : S → va_W} (u : S) (X : pa_X cc nL none own Ts D cI cJ g A p s m args meth c) (hP : va_P D vwCl (w' u) H) (hD : va_D A (w' u)) (hS : va_S A s.heap H locs) (hdg : decode cc pc = .ok (.return_, 1)) : W p l e R s m args below meth c H locs cells slots (MQ below (va_Qv (fun (_ : S) => True) (pa_QN D A w') A) args s cells slots A) (F0 m pc ls []) := by
  obtain ⟨hx, hb, hr, hml, hown, hts, hK, hA, hG, hlk⟩ := X
  exact W.vret hx hb hr (fun t ht hW => ⟨⟨u, rfl, trivial, by rw [ht]; exact hP, hD⟩, hS.F ht⟩) hS.2.2 hdg hlk
end PAN
