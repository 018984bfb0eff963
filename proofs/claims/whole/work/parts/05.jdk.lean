/-! ===== library members that are reached: Arrays.fill, String.length, String.charAt; switches ===== -/
theorem pa_bo {α : Type} {v : Int32} {k : Option α} {o : α} (h : (if v = 0 ∨ v = 1 then k else none) = some o) : narrow .boolean (.int v) = .int v ∧ k = some o := by
  by_cases hc : v = 0 ∨ v = 1
  · rw [if_pos hc] at h
    refine ⟨?_, h⟩
    rcases hc with hc | hc <;> subst hc <;> rfl
  · rw [if_neg hc] at h
    cases h
theorem pa_sw {x : Int32} {n : Nat} (hn : n < 2 ^ 31) (h : ∀ k, k < n → ¬ x = nI k) : x.toInt < 0 ∨ (n : Int) - 1 < x.toInt := by
  rcases pk_ix x hn with h1 | h1 | ⟨j, hj, e⟩
  · left
    exact Int32.lt_iff_toInt_lt.mp h1
  · right
    have h2 := Int32.le_iff_toInt_le.mp h1
    rw [nI_toInt hn] at h2
    omega
  · exact absurd e (h j hj)
theorem pa_sw7 {x : Int32} (c0 : ¬ x = 0) (c1 : ¬ x = 1) (c2 : ¬ x = 2) (c3 : ¬ x = 3) (c4 : ¬ x = 4) (c5 : ¬ x = 5) (c6 : ¬ x = 6) : x.toInt < 0 ∨ (6 : Int) < x.toInt := by
  have h := pa_sw (x := x) (n := 7) (by decide) (fun k hk => by
    match k, hk with
    | 0, _ => exact c0
    | 1, _ => exact c1
    | 2, _ => exact c2
    | 3, _ => exact c3
    | 4, _ => exact c4
    | 5, _ => exact c5
    | 6, _ => exact c6
    | k + 7, hk => exact absurd hk (by omega))
  exact h
theorem pa_sw5 {x : Int32} (c0 : ¬ x = 0) (c1 : ¬ x = 1) (c2 : ¬ x = 2) (c3 : ¬ x = 3) (c4 : ¬ x = 4) : x.toInt < 0 ∨ (4 : Int) < x.toInt := by
  have h := pa_sw (x := x) (n := 5) (by decide) (fun k hk => by
    match k, hk with
    | 0, _ => exact c0
    | 1, _ => exact c1
    | 2, _ => exact c2
    | 3, _ => exact c3
    | 4, _ => exact c4
    | k + 5, hk => exact absurd hk (by omega))
  exact h
def pa_fillI (f : Nat → Int32) (n : Nat) (x : Int32) : Nat → Int32 := fun j => if j < n then x else f j
def pa_fillJ (f : Nat → Int64) (n : Nat) (x : Int64) : Nat → Int64 := fun j => if j < n then x else f j
theorem pa_fillI_0 (f : Nat → Int32) (x : Int32) : pa_fillI f 0 x = f := by
  funext j
  exact if_neg (by omega)
theorem pa_fillJ_0 (f : Nat → Int64) (x : Int64) : pa_fillJ f 0 x = f := by
  funext j
  exact if_neg (by omega)
theorem pa_fillI_s (f : Nat → Int32) (i : Nat) (x : Int32) : upd (pa_fillI f i x) i x = pa_fillI f (i + 1) x := by
  funext j
  by_cases h : j = i
  · rw [h, pk_us]
    exact (if_pos (by omega)).symm
  · rw [pk_un h]
    by_cases h2 : j < i
    · rw [pa_fillI, pa_fillI, if_pos h2, if_pos (by omega)]
    · rw [pa_fillI, pa_fillI, if_neg h2, if_neg (by omega)]
theorem pa_fillJ_s (f : Nat → Int64) (i : Nat) (x : Int64) : vp_updL (pa_fillJ f i x) i x = pa_fillJ f (i + 1) x := by
  funext j
  by_cases h : j = i
  · rw [h, pk_uLs]
    exact (if_pos (by omega)).symm
  · rw [pk_uLn h]
    by_cases h2 : j < i
    · rw [pa_fillJ, pa_fillJ, if_pos h2, if_pos (by omega)]
    · rw [pa_fillJ, pa_fillJ, if_neg h2, if_neg (by omega)]
abbrev pa_r0 : Room := { frames := 0, cells := 0, slots := 0, locals := 0 }
set_option maxHeartbeats 4000000 in
set_option maxRecDepth 100000 in
theorem c_fillI {l : Launch} {D : va_G} {cI cJ : ClassId} {g : pa_GT} {a n : Nat} {f : Nat → Int32} {x : Int32} (hn : n < 2 ^ 31) : pa_Mv l yJ7_fill_53178 wsJ7_fill_53178 pa_r0 D cI cJ g [.ref a, .int x] [(a, .inl (cI, n, .inl f))] [(a, .inl (cI, n, .inl (pa_fillI f n x)))] := by
  intro sz
  refine pa_met (cc := cJ7_fill_53178) (maxL := 4) (ret := none) (lv := [(0, .ref a), (1, .int x)]) (by decide) rfl (Nat.le_of_ble_eq_true rfl) rfl ?_
  intro p e s m below meth c X hsz hP hD ls hl
  subst hsz
  have hS : va_S (va_A [(a, .inl (cI, n, .inl f))] s.heap.size) s.heap s.heap [] := va_S.rf
  obtain ⟨hx, hb, hr, hml, hown, hts, hK, hA, hG, hlk⟩ := id X
  have loop : ∀ (k i : Nat), i + k = n → ∀ (H : Heap) (locs : List Loc), va_P D vwCl [(a, .inl (cI, n, .inl (pa_fillI f i x)))] H → va_D (va_A [(a, .inl (cI, n, .inl f))] s.heap.size) [(a, .inl (cI, n, .inl (pa_fillI f i x)))] → va_S (va_A [(a, .inl (cI, n, .inl f))] s.heap.size) s.heap H locs → ∀ ls : Array Slot, lv_has ls 4 [(0, .ref a), (1, .int x), (2, .int (nI i)), (3, .int (nI n))] → W p l e (headSpec wsJ7_fill_53178 pa_r0).room s m [Value.ref a, Value.int x].toArray below meth c H locs 0 0 (MQ below (va_Qv (fun (_ : Unit) => True) (pa_QB D (va_A [(a, .inl (cI, n, .inl f))] s.heap.size) [(a, .inl (cI, n, .inl (pa_fillI f n x)))]) (va_A [(a, .inl (cI, n, .inl f))] s.heap.size)) [Value.ref a, Value.int x].toArray s 0 0 (va_A [(a, .inl (cI, n, .inl f))] s.heap.size)) (F0 m 5 ls []) := by
    intro k
    induction k with
    | zero =>
      intro i hi H locs hP hD hS ls hl
      have e : i = n := by omega
      subst e
      refine lv_iload_n hx hb dJ7_fill_53178_5 rfl (lv_at hl 2 rfl) ?_
      refine lv_iload_n hx hb dJ7_fill_53178_6 rfl (lv_at hl 3 rfl) ?_
      refine lv_icmp_ge (tgt := 20) hx hb dJ7_fill_53178_7 (by decide) (fun c => ?_) (fun c => ?_)
      · exact pa_ev X hP hD hS dJ7_fill_53178_20
      · exact absurd (nI_le (Nat.le_refl i) hn) c
    | succ k ih =>
      intro i hi H locs hP hD hS ls hl
      refine lv_iload_n hx hb dJ7_fill_53178_5 rfl (lv_at hl 2 rfl) ?_
      refine lv_iload_n hx hb dJ7_fill_53178_6 rfl (lv_at hl 3 rfl) ?_
      refine lv_icmp_ge (tgt := 20) hx hb dJ7_fill_53178_7 (by decide) (fun c => ?_) (fun c => ?_)
      · exact absurd c (nI_ge (by omega) hn)
      · refine lv_aload_n hx hb dJ7_fill_53178_10 rfl (lv_at hl 0 rfl) ?_
        refine lv_iload_n hx hb dJ7_fill_53178_11 rfl (lv_at hl 2 rfl) ?_
        refine lv_iload_n hx hb dJ7_fill_53178_12 rfl (lv_at hl 1 rfl) ?_
        refine va_iast hx hb hK hP hD hS 0 0 rfl rfl (vp_in_nI (by omega) hn) dJ7_fill_53178_13 (fun H locs hP hD hS => ?_)
        have e1 : upd (pa_fillI f i x) (Int32.toNatClampNeg (nI i)) x = pa_fillI f (i + 1) x := by
          rw [nI_clamp (by omega)]
          exact pa_fillI_s f i x
        rw [e1] at hP hD
        have hP : va_P D vwCl [(a, .inl (cI, n, .inl (pa_fillI f (i + 1) x)))] H := hP
        have hD : va_D (va_A [(a, .inl (cI, n, .inl f))] s.heap.size) [(a, .inl (cI, n, .inl (pa_fillI f (i + 1) x)))] := hD
        refine lv_iinc (v := nI (i + 1)) (lv' := [(2, .int (nI (i + 1))), (0, .ref a), (1, .int x), (3, .int (nI n))]) hx hb dJ7_fill_53178_14 hl (k := 2) rfl (nI_1 i) (by decide) rfl (fun ls hl => ?_)
        refine lv_goto (tgt := 5) hx hb dJ7_fill_53178_17 (by decide) ?_
        exact ih (i + 1) (by omega) H locs hP hD hS ls (lv_sub hl [1, 2, 0, 3] rfl)
  refine lv_iconst (v := (0 : Int32)) hx hb dJ7_fill_53178_0 (by decide) ?_
  refine lv_istore_n (lv' := [(2, .int (0 : Int32)), (0, .ref a), (1, .int x)]) hx hb dJ7_fill_53178_1 rfl hl (by decide) rfl (fun ls hl => ?_)
  refine lv_aload_n hx hb dJ7_fill_53178_2 rfl (lv_at hl 1 rfl) ?_
  refine va_alen (v := nI n) hx hb hK hP 0 0 rfl rfl rfl dJ7_fill_53178_3 ?_
  refine lv_istore_n (lv' := [(3, .int (nI n)), (2, .int (0 : Int32)), (0, .ref a), (1, .int x)]) hx hb dJ7_fill_53178_4 rfl hl (by decide) rfl (fun ls hl => ?_)
  refine loop n 0 (by omega) _ _ ?_ ?_ hS ls (lv_sub hl [2, 3, 1, 0] rfl)
  · rw [pa_fillI_0]; exact hP
  · rw [pa_fillI_0]; exact hD
set_option maxHeartbeats 4000000 in
set_option maxRecDepth 100000 in
theorem c_fillJ {l : Launch} {D : va_G} {cI cJ : ClassId} {g : pa_GT} {a n : Nat} {f : Nat → Int64} {x : Int64} (hn : n < 2 ^ 31) : pa_Mv l yJ7_fill_d0a16 wsJ7_fill_d0a16 pa_r0 D cI cJ g [.ref a, .long x] [(a, .inl (cJ, n, .inr (.inl f)))] [(a, .inl (cJ, n, .inr (.inl (pa_fillJ f n x))))] := by
  intro sz
  refine pa_met (cc := cJ7_fill_d0a16) (maxL := 5) (ret := none) (lv := [(0, .ref a), (1, .long x)]) (by decide) rfl (Nat.le_of_ble_eq_true rfl) rfl ?_
  intro p e s m below meth c X hsz hP hD ls hl
  subst hsz
  have hS : va_S (va_A [(a, .inl (cJ, n, .inr (.inl f)))] s.heap.size) s.heap s.heap [] := va_S.rf
  obtain ⟨hx, hb, hr, hml, hown, hts, hK, hA, hG, hlk⟩ := id X
  have loop : ∀ (k i : Nat), i + k = n → ∀ (H : Heap) (locs : List Loc), va_P D vwCl [(a, .inl (cJ, n, .inr (.inl (pa_fillJ f i x))))] H → va_D (va_A [(a, .inl (cJ, n, .inr (.inl f)))] s.heap.size) [(a, .inl (cJ, n, .inr (.inl (pa_fillJ f i x))))] → va_S (va_A [(a, .inl (cJ, n, .inr (.inl f)))] s.heap.size) s.heap H locs → ∀ ls : Array Slot, lv_has ls 5 [(0, .ref a), (1, .long x), (3, .int (nI i)), (4, .int (nI n))] → W p l e (headSpec wsJ7_fill_d0a16 pa_r0).room s m [Value.ref a, Value.long x].toArray below meth c H locs 0 0 (MQ below (va_Qv (fun (_ : Unit) => True) (pa_QB D (va_A [(a, .inl (cJ, n, .inr (.inl f)))] s.heap.size) [(a, .inl (cJ, n, .inr (.inl (pa_fillJ f n x))))]) (va_A [(a, .inl (cJ, n, .inr (.inl f)))] s.heap.size)) [Value.ref a, Value.long x].toArray s 0 0 (va_A [(a, .inl (cJ, n, .inr (.inl f)))] s.heap.size)) (F0 m 6 ls []) := by
    intro k
    induction k with
    | zero =>
      intro i hi H locs hP hD hS ls hl
      have e : i = n := by omega
      subst e
      refine lv_iload_n hx hb dJ7_fill_d0a16_6 rfl (lv_at hl 2 rfl) ?_
      refine lv_iload hx hb dJ7_fill_d0a16_7 (lv_at hl 3 rfl) ?_
      refine lv_icmp_ge (tgt := 22) hx hb dJ7_fill_d0a16_9 (by decide) (fun c => ?_) (fun c => ?_)
      · exact pa_ev X hP hD hS dJ7_fill_d0a16_22
      · exact absurd (nI_le (Nat.le_refl i) hn) c
    | succ k ih =>
      intro i hi H locs hP hD hS ls hl
      refine lv_iload_n hx hb dJ7_fill_d0a16_6 rfl (lv_at hl 2 rfl) ?_
      refine lv_iload hx hb dJ7_fill_d0a16_7 (lv_at hl 3 rfl) ?_
      refine lv_icmp_ge (tgt := 22) hx hb dJ7_fill_d0a16_9 (by decide) (fun c => ?_) (fun c => ?_)
      · exact absurd c (nI_ge (by omega) hn)
      · refine lv_aload_n hx hb dJ7_fill_d0a16_12 rfl (lv_at hl 0 rfl) ?_
        refine lv_iload_n hx hb dJ7_fill_d0a16_13 rfl (lv_at hl 2 rfl) ?_
        refine lv_lload_n hx hb dJ7_fill_d0a16_14 rfl (lv_at hl 1 rfl) ?_
        refine va_last hx hb hK hP hD hS 0 1 rfl rfl (vp_in_nI (by omega) hn) dJ7_fill_d0a16_15 (fun H locs hP hD hS => ?_)
        have e1 : vp_updL (pa_fillJ f i x) (Int32.toNatClampNeg (nI i)) x = pa_fillJ f (i + 1) x := by
          rw [nI_clamp (by omega)]
          exact pa_fillJ_s f i x
        rw [e1] at hP hD
        have hP : va_P D vwCl [(a, .inl (cJ, n, .inr (.inl (pa_fillJ f (i + 1) x))))] H := hP
        have hD : va_D (va_A [(a, .inl (cJ, n, .inr (.inl f)))] s.heap.size) [(a, .inl (cJ, n, .inr (.inl (pa_fillJ f (i + 1) x))))] := hD
        refine lv_iinc (v := nI (i + 1)) (lv' := [(3, .int (nI (i + 1))), (0, .ref a), (1, .long x), (4, .int (nI n))]) hx hb dJ7_fill_d0a16_16 hl (k := 2) rfl (nI_1 i) (by decide) rfl (fun ls hl => ?_)
        refine lv_goto (tgt := 6) hx hb dJ7_fill_d0a16_19 (by decide) ?_
        exact ih (i + 1) (by omega) H locs hP hD hS ls (lv_sub hl [1, 2, 0, 3] rfl)
  refine lv_iconst (v := (0 : Int32)) hx hb dJ7_fill_d0a16_0 (by decide) ?_
  refine lv_istore_n (lv' := [(3, .int (0 : Int32)), (0, .ref a), (1, .long x)]) hx hb dJ7_fill_d0a16_1 rfl hl (by decide) rfl (fun ls hl => ?_)
  refine lv_aload_n hx hb dJ7_fill_d0a16_2 rfl (lv_at hl 1 rfl) ?_
  refine va_alen (v := nI n) hx hb hK hP 0 1 rfl rfl rfl dJ7_fill_d0a16_3 ?_
  refine lv_istore (lv' := [(4, .int (nI n)), (3, .int (0 : Int32)), (0, .ref a), (1, .long x)]) hx hb dJ7_fill_d0a16_4 hl (by decide) rfl (fun ls hl => ?_)
  refine loop n 0 (by omega) _ _ ?_ ?_ hS ls (lv_sub hl [2, 3, 1, 0] rfl)
  · rw [pa_fillJ_0]; exact hP
  · rw [pa_fillJ_0]; exact hD
/-! ===== the two texts ===== -/
def pa_slN (k : Nat) : Nat := [4, 3].getD k 0
def pa_slen (k : Nat) : Int32 := Int32.ofNat (pa_slN k)
def pa_schr (k j : Nat) : Int32 := (([[102, 105, 110, 100], [97, 108, 108]] : List (List Int32)).getD k []).getD j 0
section PAS
variable {p : Program} {l : Launch} {e : Env} {R : Room} {s : State} {m : MethodId} {args : Array Value} {below : List Frame} {meth : Method} {c : Code} {H : Heap} {locs : List Loc} {cells slots : Nat} {Q : State → Prop}
variable {cc : ByteArray} {nL : Nat} {ret : Option FieldType} {own : String} {Ts : List Cond} {D : va_G} {cI cJ : ClassId} {g : pa_GT} {A : Nat → Prop} {pc : Nat} {ls : Array Slot} {ws : va_W} {st rest : List Value}
/-- a call on one of the two texts -/
theorem pa_rK (X : pa_X cc nL ret own Ts D cI cJ g A p s m args meth c) {k : Nat} (hk : k < 2) (hP : va_P D vwCl ws H) (hD : va_D A ws) (hS : va_S A s.heap H locs) {y : MethodName} {wy : List Cond} {rm : Room} {As : List Value} {Qc : Array Value → State → Outcome → State → Prop} {free : Addr → Prop} {bytes : ByteArray} {maxL n index : Nat} {ret2 : Option FieldType}
    (hM : Met l y wy rm (va_Pc (.ref (g.2.2.1 k) :: As) (pa_PB D cI cJ g [] H.size)) Qc 0 0 free) (cw : CallW R s args own RJ0 index y bytes maxL ret2 wy rm 0 0 n)
    (hn : As.length = n) (hls : ls.size = nL) (hst : st = As.reverse ++ .ref (g.2.2.1 k) :: rest) (hw : (rest.map fun v => v.category).sum ≤ 8) (hdg : decode cc pc = .ok (.invokevirtual index, 3)) (hf : cells ≤ R.cells ∧ slots ≤ R.slots) : va_Run p l e R s m args below meth c H locs cells slots 0 0 (F0 m pc ls st) rest (Qc (Value.ref (g.2.2.1 k) :: As).toArray) free := by
  have hpre := pa_pre (wc := []) X hP hD hS [] rfl rfl (As := .ref (g.2.2.1 k) :: As)
  obtain ⟨hx, hb, -, hml, hown, hts, hK, -, hG, -⟩ := X
  exact va_runV ⟨hx, hb, hml, hown, hts⟩ hM cw ⟨hpre.1, vk_recv hG.2.2.2.2.1 hk hS, hpre.2⟩ rfl hn hls hst (lv_room hw) hdg hf
end PAS
set_option maxHeartbeats 4000000 in
set_option maxRecDepth 100000 in
theorem c_coder {l : Launch} {D : va_G} {cI cJ : ClassId} {g : pa_GT} {k : Nat} (hk : k < 2) : pa_Mi l yJ0_coder_7d493 wsJ0_coder_7d493 pa_r0 D cI cJ g [.ref (g.2.2.1 k)] [] [] 0 := by
  intro sz
  refine pa_met (cc := cJ0_coder_7d493) (maxL := 1) (ret := some .byte) (lv := [(0, .ref (g.2.2.1 k))]) (by decide) rfl (Nat.le_of_ble_eq_true rfl) rfl ?_
  intro p e s m below meth c X hsz hP hD ls hl
  subst hsz
  have hS : va_S (va_A [] s.heap.size) s.heap s.heap [] := va_S.rf
  obtain ⟨hx, hb, hr, hml, hown, hts, hK, hA, hG, hlk⟩ := id X
  obtain ⟨hG1, hG2, hG3, hG4, hG5, hG6, hG7⟩ := id hG
  refine va_gets (C := "java/lang/String") hx hb hG6 hS hown (hts (.fieldLink RJ0 38 "java/lang/String" "COMPACT_STRINGS" "Z") (by decide +kernel)) (fun _ h9 => h9) dJ0_coder_7d493_0 ?_
  refine lv_if_eq (tgt := 13) hx hb dJ0_coder_7d493_3 (by decide) (fun c => ?_) (fun c => ?_)
  · exact absurd c (by decide)
  · refine lv_aload_n hx hb dJ0_coder_7d493_6 rfl (lv_at hl 0 rfl) ?_
    refine vk_getf hx hb (hG5.1 k hk).2.1 hS hown (hts (.fieldLink RJ0 15 "java/lang/String" "coder" "B") (by decide +kernel)) (fun _ h9 => h9) dJ0_coder_7d493_7 ?_
    refine lv_goto (tgt := 14) hx hb dJ0_coder_7d493_10 (by decide) ?_
    exact pa_ez X hP hD hS rfl dJ0_coder_7d493_14
set_option maxHeartbeats 4000000 in
set_option maxRecDepth 100000 in
theorem c_isLatin1 {l : Launch} {D : va_G} {cI cJ : ClassId} {g : pa_GT} {k : Nat} (hk : k < 2) : pa_Mi l yJ0_isLatin1_aae02 wsJ0_isLatin1_aae02 pa_r0 D cI cJ g [.ref (g.2.2.1 k)] [] [] 1 := by
  intro sz
  refine pa_met (cc := cJ0_isLatin1_aae02) (maxL := 1) (ret := some .boolean) (lv := [(0, .ref (g.2.2.1 k))]) (by decide) rfl (Nat.le_of_ble_eq_true rfl) rfl ?_
  intro p e s m below meth c X hsz hP hD ls hl
  subst hsz
  have hS : va_S (va_A [] s.heap.size) s.heap s.heap [] := va_S.rf
  obtain ⟨hx, hb, hr, hml, hown, hts, hK, hA, hG, hlk⟩ := id X
  obtain ⟨hG1, hG2, hG3, hG4, hG5, hG6, hG7⟩ := id hG
  refine va_gets (C := "java/lang/String") hx hb hG6 hS hown (hts (.fieldLink RJ0 38 "java/lang/String" "COMPACT_STRINGS" "Z") (by decide +kernel)) (fun _ h9 => h9) dJ0_isLatin1_aae02_0 ?_
  refine lv_if_eq (tgt := 17) hx hb dJ0_isLatin1_aae02_3 (by decide) (fun c => ?_) (fun c => ?_)
  · exact absurd c (by decide)
  · refine lv_aload_n hx hb dJ0_isLatin1_aae02_6 rfl (lv_at hl 0 rfl) ?_
    refine vk_getf hx hb (hG5.1 k hk).2.1 hS hown (hts (.fieldLink RJ0 15 "java/lang/String" "coder" "B") (by decide +kernel)) (fun _ h9 => h9) dJ0_isLatin1_aae02_7 ?_
    refine lv_if_ne (tgt := 17) hx hb dJ0_isLatin1_aae02_10 (by decide) (fun c => ?_) (fun c => ?_)
    · exact absurd rfl c
    · refine lv_iconst (v := (1 : Int32)) hx hb dJ0_isLatin1_aae02_13 (by decide) ?_
      refine lv_goto (tgt := 18) hx hb dJ0_isLatin1_aae02_14 (by decide) ?_
      exact pa_ez X hP hD hS rfl dJ0_isLatin1_aae02_18
abbrev rm_strlen : Room := { frames := 1, cells := 0, slots := 0, locals := 20 }
set_option maxHeartbeats 4000000 in
set_option maxRecDepth 100000 in
theorem c_strlen {l : Launch} {D : va_G} {cI cJ : ClassId} {g : pa_GT} {k : Nat} (hk : k < 2) : pa_Mi l yJ0_length_8abf5 wsJ0_length_8abf5 rm_strlen D cI cJ g [.ref (g.2.2.1 k)] [] [] (pa_slen k) := by
  intro sz
  refine pa_met (cc := cJ0_length_8abf5) (maxL := 1) (ret := some .int) (lv := [(0, .ref (g.2.2.1 k))]) (by decide) rfl (Nat.le_of_ble_eq_true rfl) rfl ?_
  intro p e s m below meth c X hsz hP hD ls hl
  subst hsz
  have hS : va_S (va_A [] s.heap.size) s.heap s.heap [] := va_S.rf
  obtain ⟨hx, hb, hr, hml, hown, hts, hK, hA, hG, hlk⟩ := id X
  obtain ⟨hG1, hG2, hG3, hG4, hG5, hG6, hG7⟩ := id hG
  refine lv_aload_n hx hb dJ0_length_8abf5_0 rfl (lv_at hl 0 rfl) ?_
  refine vk_getf hx hb (hG5.1 k hk).2.2.1 hS hown (hts (.fieldLink RJ0 9 "java/lang/String" "value" "[B") (by decide +kernel)) (fun _ h9 => h9) dJ0_length_8abf5_1 ?_
  refine va_tlen (v := pa_slen k) hx hb (hG5.1 k hk).2.2.2 hS rfl dJ0_length_8abf5_4 ?_
  refine lv_aload_n hx hb dJ0_length_8abf5_5 rfl (lv_at hl 0 rfl) ?_
  refine pa_ki (wc := ([] : va_W)) (wr := ([] : va_W)) (w1 := ([] : va_W)) (w2 := ([] : va_W)) X hP hD hS [] [] [] rfl (pa_rK (As := []) (rest := [.int (pa_slen k)]) X hk hP hD hS (c_coder hk s.heap.size) (cwV 0 hts gJ0_length_8abf5_J0_coder_7d493 rfl rfl rfl (by decide +kernel) ⟨Nat.le_of_ble_eq_true rfl, Nat.le_of_ble_eq_true rfl⟩) rfl hl.1 rfl (Nat.le_of_ble_eq_true rfl) dJ0_length_8abf5_6 ⟨Nat.zero_le _, Nat.zero_le _⟩) rfl rfl (by decide) rfl rfl (fun H locs hP hD hS => ?_)
  refine lv_ishr hx hb dJ0_length_8abf5_9 ?_
  rw [show pa_slen k >>> ((0 : Int32) &&& 31) = pa_slen k from sb_shr0 _]
  exact pa_ei X hP hD hS dJ0_length_8abf5_10
set_option maxHeartbeats 4000000 in
set_option maxRecDepth 100000 in
theorem c_chk3 {l : Launch} {D : va_G} {cI cJ : ClassId} {g : pa_GT} {i n : Int32} {fv : Value} (hi : ¬ i < 0) (hn : i < n) (hfv : fv = .null ∨ ∃ t : Nat, fv = .ref t) : pa_Mi l yJ3_checkIndex_8e157 wsJ3_checkIndex_8e157 pa_r0 D cI cJ g [.int i, .int n, fv] [] [] i := by
  intro sz
  have hlv : lv_args 0 [Value.int i, Value.int n, fv] = [(0, .int i), (1, .int n), (2, fv)] := by
    rcases hfv with rfl | ⟨t, rfl⟩ <;> rfl
  have hlen : (lg_sl [Value.int i, Value.int n, fv]).length ≤ 3 := by
    rcases hfv with rfl | ⟨t, rfl⟩ <;> exact Nat.le_of_ble_eq_true rfl
  refine pa_met (cc := cJ3_checkIndex_8e157) (maxL := 3) (ret := some .int) (lv := [(0, .int i), (1, .int n), (2, fv)]) (by decide) rfl hlen hlv ?_
  intro p e s m below meth c X hsz hP hD ls hl
  subst hsz
  have hS : va_S (va_A [] s.heap.size) s.heap s.heap [] := va_S.rf
  obtain ⟨hx, hb, hr, hml, hown, hts, hK, hA, hG, hlk⟩ := id X
  refine lv_iload_n hx hb dJ3_checkIndex_8e157_0 rfl (lv_at hl 0 rfl) ?_
  refine lv_if_lt (tgt := 9) hx hb dJ3_checkIndex_8e157_1 (by decide) (fun c => ?_) (fun c => ?_)
  · exact absurd c hi
  · refine lv_iload_n hx hb dJ3_checkIndex_8e157_4 rfl (lv_at hl 0 rfl) ?_
    refine lv_iload_n hx hb dJ3_checkIndex_8e157_5 rfl (lv_at hl 1 rfl) ?_
    refine lv_icmp_lt (tgt := 16) hx hb dJ3_checkIndex_8e157_6 (by decide) (fun c => ?_) (fun c => ?_)
    · refine lv_iload_n hx hb dJ3_checkIndex_8e157_16 rfl (lv_at hl 0 rfl) ?_
      exact pa_ei X hP hD hS dJ3_checkIndex_8e157_17
    · exact absurd hn c
abbrev rm_chk0 : Room := { frames := 1, cells := 0, slots := 0, locals := 22 }
set_option maxHeartbeats 4000000 in
set_option maxRecDepth 100000 in
theorem c_chk0 {l : Launch} {D : va_G} {cI cJ : ClassId} {g : pa_GT} {i n : Int32} (hi : ¬ i < 0) (hn : i < n) : pa_Mv l yJ0_checkIndex_df160 wsJ0_checkIndex_df160 rm_chk0 D cI cJ g [.int i, .int n] [] [] := by
  intro sz
  refine pa_met (cc := cJ0_checkIndex_df160) (maxL := 2) (ret := none) (lv := [(0, .int i), (1, .int n)]) (by decide) rfl (Nat.le_of_ble_eq_true rfl) rfl ?_
  intro p e s m below meth c X hsz hP hD ls hl
  subst hsz
  have hS : va_S (va_A [] s.heap.size) s.heap s.heap [] := va_S.rf
  obtain ⟨hx, hb, hr, hml, hown, hts, hK, hA, hG, hlk⟩ := id X
  obtain ⟨hG1, hG2, hG3, hG4, hG5, hG6, hG7⟩ := id hG
  refine lv_iload_n hx hb dJ0_checkIndex_df160_0 rfl (lv_at hl 0 rfl) ?_
  refine lv_iload_n hx hb dJ0_checkIndex_df160_1 rfl (lv_at hl 1 rfl) ?_
  have go : ∀ fv : Value, va_Z "jdk/internal/util/Preconditions" "SIOOBE_FORMATTER" "Ljava/util/function/BiFunction;" fv (va_A [] s.heap.size) s s.heap → (fv = .null ∨ ∃ t : Nat, fv = .ref t) → W p l e (headSpec wsJ0_checkIndex_df160 rm_chk0).room s m [Value.int i, Value.int n].toArray below meth c s.heap [] 0 0 (MQ below (va_Qv (fun (_ : Unit) => True) (pa_QB D (va_A [] s.heap.size) []) (va_A [] s.heap.size)) [Value.int i, Value.int n].toArray s 0 0 (va_A [] s.heap.size)) (F0 m 2 ls [.int n, .int i]) := by
    intro fv hz hfv
    refine va_gets (C := "jdk/internal/util/Preconditions") hx hb hz hS hown (hts (.fieldLink RJ0 1053 "jdk/internal/util/Preconditions" "SIOOBE_FORMATTER" "Ljava/util/function/BiFunction;") (by decide +kernel)) (fun _ h9 => h9) dJ0_checkIndex_df160_2 ?_
    refine pa_ki (wc := ([] : va_W)) (wr := ([] : va_W)) (w1 := ([] : va_W)) (w2 := ([] : va_W)) X hP hD hS [] [] [] rfl (pa_rS (As := [.int i, .int n, fv]) (rest := []) X hP hD hS [] rfl rfl (c_chk3 hi hn hfv s.heap.size) (va_cwS 3 hts gJ0_checkIndex_df160_J3_checkIndex_8e157 rfl rfl rfl (by decide +kernel) ⟨Nat.le_of_ble_eq_true rfl, Nat.le_of_ble_eq_true rfl⟩) rfl hl.1 rfl (Nat.le_of_ble_eq_true rfl) dJ0_checkIndex_df160_5 ⟨Nat.zero_le _, Nat.zero_le _⟩) rfl rfl (by decide) rfl rfl (fun H locs hP hD hS => ?_)
    refine lv_pop hx hb dJ0_checkIndex_df160_8 rfl ?_
    exact pa_ev X hP hD hS dJ0_checkIndex_df160_9
  rcases hG7 with hz | ⟨t, hz⟩
  · exact go _ hz (Or.inl rfl)
  · exact go _ hz (Or.inr ⟨t, rfl⟩)
theorem pa_inlt {i : Int32} {n : Nat} (hn : n < 2 ^ 31) (h : vp_in i n) : ¬ i < 0 ∧ i < nI n := by
  obtain ⟨j, hj, rfl⟩ := vp_in_of h hn
  exact ⟨nI_pos (by omega), nI_lt hj hn⟩
theorem pa_schr_ok : ∀ k, k < 2 → ∀ j, j < pa_slN k → ((pa_schr k j &&& (255 : Int32)).toUInt32 % 65536).toInt32 = pa_schr k j ∧ narrow .char (.int (pa_schr k j)) = .int (pa_schr k j) := by
  intro k hk j hj
  match k, hk with
  | 0, _ =>
    match j, hj with
    | 0, _ => exact ⟨by decide +kernel, rfl⟩
    | 1, _ => exact ⟨by decide +kernel, rfl⟩
    | 2, _ => exact ⟨by decide +kernel, rfl⟩
    | 3, _ => exact ⟨by decide +kernel, rfl⟩
    | j + 4, h => exact absurd h (by simp [pa_slN])
  | 1, _ =>
    match j, hj with
    | 0, _ => exact ⟨by decide +kernel, rfl⟩
    | 1, _ => exact ⟨by decide +kernel, rfl⟩
    | 2, _ => exact ⟨by decide +kernel, rfl⟩
    | j + 3, h => exact absurd h (by simp [pa_slN])
  | k + 2, h => exact absurd h (by omega)
theorem pa_slN_lt {k : Nat} (hk : k < 2) : pa_slN k < 2 ^ 31 := by
  match k, hk with
  | 0, _ => decide
  | 1, _ => decide
  | k + 2, h => exact absurd h (by omega)
abbrev rm_lat : Room := { frames := 2, cells := 0, slots := 0, locals := 43 }
set_option maxHeartbeats 4000000 in
set_option maxRecDepth 100000 in
theorem c_latAt {l : Launch} {D : va_G} {cI cJ : ClassId} {g : pa_GT} {k : Nat} {i : Int32} (hk : k < 2) (hi : vp_in i (pa_slN k)) : pa_Mi l yJ1_charAt_3b067 wsJ1_charAt_3b067 rm_lat D cI cJ g [.ref (g.2.2.2 k), .int i] [] [] (pa_schr k (Int32.toNatClampNeg i)) := by
  intro sz
  refine pa_met (cc := cJ1_charAt_3b067) (maxL := 2) (ret := some .char) (lv := [(0, .ref (g.2.2.2 k)), (1, .int i)]) (by decide) rfl (Nat.le_of_ble_eq_true rfl) rfl ?_
  intro p e s m below meth c X hsz hP hD ls hl
  subst hsz
  have hS : va_S (va_A [] s.heap.size) s.heap s.heap [] := va_S.rf
  obtain ⟨hx, hb, hr, hml, hown, hts, hK, hA, hG, hlk⟩ := id X
  obtain ⟨hG1, hG2, hG3, hG4, hG5, hG6, hG7⟩ := id hG
  have hlt := pa_inlt (pa_slN_lt hk) hi
  refine lv_iload_n hx hb dJ1_charAt_3b067_0 rfl (lv_at hl 1 rfl) ?_
  refine lv_aload_n hx hb dJ1_charAt_3b067_1 rfl (lv_at hl 0 rfl) ?_
  refine va_tlen (v := nI (pa_slN k)) hx hb (hG5.1 k hk).2.2.2 hS rfl dJ1_charAt_3b067_2 ?_
  refine pa_kv (wc := ([] : va_W)) (wr := ([] : va_W)) (w1 := ([] : va_W)) (w2 := ([] : va_W)) X hP hD hS [] [] [] rfl (pa_rS (As := [.int i, .int (nI (pa_slN k))]) (rest := []) X hP hD hS [] rfl rfl (c_chk0 hlt.1 hlt.2 s.heap.size) (va_cwS 2 hts gJ1_charAt_3b067_J0_checkIndex_df160 rfl rfl rfl (by decide +kernel) ⟨Nat.le_of_ble_eq_true rfl, Nat.le_of_ble_eq_true rfl⟩) rfl hl.1 rfl (Nat.le_of_ble_eq_true rfl) dJ1_charAt_3b067_3 ⟨Nat.zero_le _, Nat.zero_le _⟩) rfl rfl (by decide) rfl rfl (fun H locs hP hD hS => ?_)
  refine lv_aload_n hx hb dJ1_charAt_3b067_6 rfl (lv_at hl 0 rfl) ?_
  refine lv_iload_n hx hb dJ1_charAt_3b067_7 rfl (lv_at hl 1 rfl) ?_
  refine va_tb (v := .int (pa_schr k (Int32.toNatClampNeg i))) hx hb (hG5.1 k hk).2.2.2 hS hi rfl dJ1_charAt_3b067_8 ?_
  refine lv_sipush (v := (255 : Int32)) hx hb dJ1_charAt_3b067_9 (by decide) ?_
  refine lv_iand hx hb dJ1_charAt_3b067_12 ?_
  have hj : Int32.toNatClampNeg i < pa_slN k := Nat.lt_of_not_le fun h => hi (Or.inr h)
  have hch := pa_schr_ok k hk _ hj
  refine lv_i2c (v := pa_schr k (Int32.toNatClampNeg i)) hx hb dJ1_charAt_3b067_13 hch.1 ?_
  exact pa_ez X hP hD hS hch.2 dJ1_charAt_3b067_14
abbrev rm_strchr : Room := { frames := 3, cells := 0, slots := 0, locals := 64 }
set_option maxHeartbeats 4000000 in
set_option maxRecDepth 100000 in
theorem c_strchr {l : Launch} {D : va_G} {cI cJ : ClassId} {g : pa_GT} {k : Nat} {i : Int32} (hk : k < 2) (hi : vp_in i (pa_slN k)) : pa_Mi l yJ0_charAt_5068e wsJ0_charAt_5068e rm_strchr D cI cJ g [.ref (g.2.2.1 k), .int i] [] [] (pa_schr k (Int32.toNatClampNeg i)) := by
  intro sz
  refine pa_met (cc := cJ0_charAt_5068e) (maxL := 2) (ret := some .char) (lv := [(0, .ref (g.2.2.1 k)), (1, .int i)]) (by decide) rfl (Nat.le_of_ble_eq_true rfl) rfl ?_
  intro p e s m below meth c X hsz hP hD ls hl
  subst hsz
  have hS : va_S (va_A [] s.heap.size) s.heap s.heap [] := va_S.rf
  obtain ⟨hx, hb, hr, hml, hown, hts, hK, hA, hG, hlk⟩ := id X
  obtain ⟨hG1, hG2, hG3, hG4, hG5, hG6, hG7⟩ := id hG
  refine lv_aload_n hx hb dJ0_charAt_5068e_0 rfl (lv_at hl 0 rfl) ?_
  refine pa_ki (wc := ([] : va_W)) (wr := ([] : va_W)) (w1 := ([] : va_W)) (w2 := ([] : va_W)) X hP hD hS [] [] [] rfl (pa_rK (As := []) (rest := []) X hk hP hD hS (c_isLatin1 hk s.heap.size) (cwV 0 hts gJ0_charAt_5068e_J0_isLatin1_aae02 rfl rfl rfl (by decide +kernel) ⟨Nat.le_of_ble_eq_true rfl, Nat.le_of_ble_eq_true rfl⟩) rfl hl.1 rfl (Nat.le_of_ble_eq_true rfl) dJ0_charAt_5068e_1 ⟨Nat.zero_le _, Nat.zero_le _⟩) rfl rfl (by decide) rfl rfl (fun H locs hP hD hS => ?_)
  refine lv_if_eq (tgt := 16) hx hb dJ0_charAt_5068e_4 (by decide) (fun c => ?_) (fun c => ?_)
  · exact absurd c (by decide)
  · refine lv_aload_n hx hb dJ0_charAt_5068e_7 rfl (lv_at hl 0 rfl) ?_
    refine vk_getf hx hb (hG5.1 k hk).2.2.1 hS hown (hts (.fieldLink RJ0 9 "java/lang/String" "value" "[B") (by decide +kernel)) (fun _ h9 => h9) dJ0_charAt_5068e_8 ?_
    refine lv_iload_n hx hb dJ0_charAt_5068e_11 rfl (lv_at hl 1 rfl) ?_
    refine pa_ki (wc := ([] : va_W)) (wr := ([] : va_W)) (w1 := ([] : va_W)) (w2 := ([] : va_W)) X hP hD hS [] [] [] rfl (pa_rS (As := [.ref (g.2.2.2 k), .int i]) (rest := []) X hP hD hS [] rfl rfl (c_latAt hk hi H.size) (va_cwS 2 hts gJ0_charAt_5068e_J1_charAt_3b067 rfl rfl rfl (by decide +kernel) ⟨Nat.le_of_ble_eq_true rfl, Nat.le_of_ble_eq_true rfl⟩) rfl hl.1 rfl (Nat.le_of_ble_eq_true rfl) dJ0_charAt_5068e_12 ⟨Nat.zero_le _, Nat.zero_le _⟩) rfl rfl (by decide) rfl rfl (fun H locs hP hD hS => ?_)
    have hj : Int32.toNatClampNeg i < pa_slN k := Nat.lt_of_not_le fun h => hi (Or.inr h)
    exact pa_ez X hP hD hS (pa_schr_ok k hk _ hj).2 dJ0_charAt_5068e_15
