/-! ===== the law ===== -/
theorem lw_if {P : Prop} [Decidable P] {a b : Option Int32} (ha : P → a = some 1) (hb : ¬ P → b = some 1) : (if P then a else b) = some 1 := by
  by_cases h : P
  · rw [if_pos h, ha h]
  · rw [if_neg h, hb h]
theorem lw_go {P : Prop} [Decidable P] {a b : Option Int32} (h : P) (ha : a = some 1) : (if P then a else b) = some 1 := by
  rw [if_pos h, ha]
theorem lw_bd {α : Type} {x : Option α} {k : α → Option Int32} {u : α} (h : x = some u) (hk : k u = some 1) : x.bind k = some 1 := by
  rw [h]
  exact hk
theorem HInv.zero {r : Nat} {h k : Nat → Nat} (hi : HInv r h k) : HInv 0 h k := ⟨by omega, hi.2.1, hi.2.2.1, fun _ _ _ q => absurd q (by omega), fun _ => rfl⟩
theorem lw_end {L i : Nat} (hL : L ≤ 3072) (hi : i ≤ 4000) (h : L < i + 6) : (nI L) - (6 : Int32) < nI i := by
  rw [jI_n, jI_n, show (6 : Int32) = jI 6 from rfl, jI_sub, jI_lt (by omega) (by omega)]
  omega
theorem lw_on {L i : Nat} (hL : L ≤ 3072) (hi : i ≤ 4000) (h : ¬ L < i + 6) : ¬ (nI L) - (6 : Int32) < nI i := by
  rw [jI_n, jI_n, show (6 : Int32) = jI 6 from rfl, jI_sub, jI_lt (by omega) (by omega)]
  omega
theorem lw_body {g : pa_GT} {L : Nat} {xs : Nat → Int32} {lt mt : Nat → Int64} (hg : GI g) (hL : L ≤ 3072) (hT : TInv lt) (hM : MInv mt) (f i : Nat) (hi : i ≤ 4000) (ih : L ≥ i + 6 → ∀ (tr : Int64) (c : Nat → Int) (r : Nat → Int) (ln : Nat) (tok : Nat) (pl : Int32) (en : Int32) (va : Int32) (t : Nat → Nat) (fn : Nat) (hp : Nat → Int32) (hl : Nat → Int32) (hq : Nat → Int32) (hm : Nat → Int32) (wp : Int32) (wr : Int32) (am : Nat → Int32) (lw : Nat → Int64) (we : Nat) (wh : Nat → Int32) (ho : Nat) (h : Nat → Nat) (k : Nat → Nat) (fu : Int64) (fl : Int64) (p : Nat → Nat) (mto : Int32) (mpl : Int32) (mva : Int32) (mu : Int64) (md : Int64) (mf : Nat → Int32) (mg : Nat → Int32), LInv c → RInv r → ln ≤ 300 → (∀ i, t i ≤ 255) → BInv fn hp hl mf → we ≤ 60 → HInv ho h k → PInv p → f_L_law_L18 g L xs lt mt f (nI i + (6 : Int32)) tr (jF c) (jF r) (nI ln) tok pl en va (nF t) (nI fn) hp hl hq hm wp wr am lw (nI we) wh (nI ho) (nF h) fu fl (nF p) tr (nI ln) mto mpl mva (nI fn) (nI we) (nI ho) (nI (p 0)) (nI (p 1)) (nI (p 2)) mu md (jF c) (jF r) (nF t) mf mg wh (nF k) = some 1) (tr : Int64) (c : Nat → Int) (r : Nat → Int) (ln : Nat) (tok : Nat) (pl : Int32) (en : Int32) (va : Int32) (t : Nat → Nat) (fn : Nat) (hp : Nat → Int32) (hl : Nat → Int32) (hq : Nat → Int32) (hm : Nat → Int32) (wp : Int32) (wr : Int32) (am : Nat → Int32) (lw : Nat → Int64) (we : Nat) (wh : Nat → Int32) (ho : Nat) (h : Nat → Nat) (k : Nat → Nat) (fu : Int64) (fl : Int64) (p : Nat → Nat) (mto : Int32) (mpl : Int32) (mva : Int32) (mu : Int64) (md : Int64) (mf : Nat → Int32) (mg : Nat → Int32) (hc : LInv c) (hr : RInv r) (hln : ln ≤ 300) (ht : (∀ i, t i ≤ 255)) (hB : BInv fn hp hl mf) (hwe : we ≤ 60) (hH : HInv ho h k) (hP : PInv p) : f_L_law_L18_body g L xs lt mt (f_L_law_L18 g L xs lt mt f) (nI i) tr (jF c) (jF r) (nI ln) tok pl en va (nF t) (nI fn) hp hl hq hm wp wr am lw (nI we) wh (nI ho) (nF h) fu fl (nF p) tr (nI ln) mto mpl mva (nI fn) (nI we) (nI ho) (nI (p 0)) (nI (p 1)) (nI (p 2)) mu md (jF c) (jF r) (nF t) mf mg wh (nF k) = some 1 := by
  by_cases h6 : L < i + 6
  · rw [f_L_law_L18_body, if_pos (lw_end hL hi h6)]
  have ih := ih (by omega)
  have gx : ∀ q, q < 6 → pa_ib (nI i + nI q) L = true := fun q hq => by
    rw [nI_add]
    exact ib_n (by omega) (by omega)
  have g0 : pa_ib (nI i) L = true := ib_n (by omega) (by omega)
  have g1 : pa_ib (nI i + (1 : Int32)) L = true := gx 1 (by omega)
  have g2 : pa_ib (nI i + (2 : Int32)) L = true := gx 2 (by omega)
  have g3 : pa_ib (nI i + (3 : Int32)) L = true := gx 3 (by omega)
  have g4 : pa_ib (nI i + (4 : Int32)) L = true := gx 4 (by omega)
  have g5 : pa_ib (nI i + (5 : Int32)) L = true := gx 5 (by omega)
  rw [f_L_law_L18_body, if_neg (lw_on hL hi h6), if_pos g0]
  refine lw_if (fun _ => ?_) (fun _ => ?_)
  · obtain ⟨a, c', w1, w2, w3⟩ := st_land hc (xs (Int32.toNatClampNeg (nI i + (1 : Int32)))) (xs (Int32.toNatClampNeg (nI i + (2 : Int32)))) (xs (Int32.toNatClampNeg (nI i + (3 : Int32))))
    refine lw_go g1 ?_
    refine lw_go g2 ?_
    refine lw_go g3 ?_
    refine lw_bd w2 (lw_bd w3 ?_)
    refine lw_go rfl ?_
    exact ih tr c' r ln tok pl en va t fn hp hl hq hm wp wr am lw we wh ho h k fu fl p mto mpl mva mu md mf mg w1 hr hln ht hB hwe hH hP
  refine lw_if (fun _ => ?_) (fun _ => ?_)
  · obtain ⟨a, r', w1, w2, w3⟩ := st_rate hr (xs (Int32.toNatClampNeg (nI i + (1 : Int32)))) (xs (Int32.toNatClampNeg (nI i + (2 : Int32))))
    refine lw_go g1 ?_
    refine lw_go g2 ?_
    refine lw_bd w2 (lw_bd w3 ?_)
    refine lw_go rfl ?_
    exact ih tr c r' ln tok pl en va t fn hp hl hq hm wp wr am lw we wh ho h k fu fl p mto mpl mva mu md mf mg hc w1 hln ht hB hwe hH hP
  refine lw_if (fun _ => ?_) (fun _ => ?_)
  · obtain ⟨a, w2, w3⟩ := st_people c (xs (Int32.toNatClampNeg (nI i + (1 : Int32)))) (xs (Int32.toNatClampNeg (nI i + (2 : Int32))))
    refine lw_go g1 ?_
    refine lw_go g2 ?_
    refine lw_bd w2 (lw_bd w3 ?_)
    refine lw_go rfl ?_
    exact ih tr c r ln tok pl en va t fn hp hl hq hm wp wr am lw we wh ho h k fu fl p mto mpl mva mu md mf mg hc hr hln ht hB hwe hH hP
  refine lw_if (fun _ => ?_) (fun _ => ?_)
  · obtain ⟨a, fu', fl', mu', md', w2, w3⟩ := st_posted hc hr (xs (Int32.toNatClampNeg (nI i + (1 : Int32)))) (xs (Int32.toNatClampNeg (nI i + (2 : Int32)))) fu fl mu md
    refine lw_go g1 ?_
    refine lw_go g2 ?_
    refine lw_bd w2 (lw_bd w3 ?_)
    refine lw_go ((cm_eq0 _ _).mpr rfl) ?_
    exact ih tr c r ln tok pl en va t fn hp hl hq hm wp wr am lw we wh ho h k fu' fl' p mto mpl mva mu' md' mf mg hc hr hln ht hB hwe hH hP
  refine lw_if (fun _ => ?_) (fun _ => ?_)
  · obtain ⟨a, ln', t', w0, w1, w2, w3⟩ := st_type hln ht (((Int32.toInt64 (xs (Int32.toNatClampNeg (nI i + (1 : Int32))))) <<< (Int32.toInt64 (32 : Int32) &&& 63)) ||| ((Int32.toInt64 (xs (Int32.toNatClampNeg (nI i + (2 : Int32))))) &&& (4294967295 : Int64))) (xs (Int32.toNatClampNeg (nI i + (3 : Int32))))
    refine lw_go g1 ?_
    refine lw_go g2 ?_
    refine lw_go g3 ?_
    refine lw_bd w2 (lw_bd w3 ?_)
    refine lw_go rfl ?_
    exact ih tr c r ln' tok pl en va t' fn hp hl hq hm wp wr am lw we wh ho h k fu fl p mto mpl mva mu md mf mg hc hr w0 w1 hB hwe hH hP
  refine lw_if (fun _ => ?_) (fun _ => ?_)
  · have w2 : f_X9_clear (nI ln) = some (nI ln, nI 0) := rfl
    have w3 : f_X10_clear (nI ln) = some (nI ln, 0, nI 0) := rfl
    refine lw_bd w2 (lw_bd w3 ?_)
    refine lw_go rfl ?_
    exact ih tr c r 0 tok pl en va t fn hp hl hq hm wp wr am lw we wh ho h k fu fl p mto mpl mva mu md mf mg hc hr (by omega) ht hB hwe hH hP
  refine lw_if (fun _ => ?_) (fun _ => ?_)
  · obtain ⟨a, n', fn', tok', pl', en', va', hp', hl', hq', hm', mf', ne, mto', mpl', mva', mq, w0, w1, w2, w3⟩ := st_habit hg hln ht hB tok pl en va hq hm mto mpl mva
    refine lw_bd w2 (lw_bd w3 ?_)
    refine lw_go rfl ?_
    exact ih tr c r n' tok' pl' en' va' t fn' hp' hl' hq' hm' wp wr am lw we wh ho h k fu fl p mto' mpl' mva' mu md mf' mg hc hr (Nat.le_trans w0 hln) ht w1 hwe hH hP
  refine lw_if (fun _ => ?_) (fun _ => ?_)
  · obtain ⟨a, wp', wr', am', mg', w2, w3⟩ := st_found hc hB (xs (Int32.toNatClampNeg (nI i + (1 : Int32)))) (xs (Int32.toNatClampNeg (nI i + (2 : Int32)))) (xs (Int32.toNatClampNeg (nI i + (3 : Int32)))) (xs (Int32.toNatClampNeg (nI i + (4 : Int32)))) wp wr am mg
    refine lw_go g1 ?_
    refine lw_go g2 ?_
    refine lw_go g3 ?_
    refine lw_go g4 ?_
    refine lw_bd w2 (lw_bd w3 ?_)
    refine lw_go rfl ?_
    exact ih tr c r ln tok pl en va t fn hp hl hq hm wp' wr' am' lw we wh ho h k fu fl p mto mpl mva mu md mf mg' hc hr hln ht hB hwe hH hP
  refine lw_if (fun _ => ?_) (fun _ => ?_)
  · obtain ⟨a, wp', wr', am', mg', fu', fl', mu', md', w2, w3⟩ := st_weighed hc hB (xs (Int32.toNatClampNeg (nI i + (1 : Int32)))) (xs (Int32.toNatClampNeg (nI i + (2 : Int32)))) (xs (Int32.toNatClampNeg (nI i + (3 : Int32)))) (xs (Int32.toNatClampNeg (nI i + (4 : Int32)))) wp wr am mg fu fl mu md
    refine lw_go g1 ?_
    refine lw_go g2 ?_
    refine lw_go g3 ?_
    refine lw_go g4 ?_
    refine lw_bd w2 (lw_bd w3 ?_)
    refine lw_go ((cm_eq0 _ _).mpr rfl) ?_
    exact ih tr c r ln tok pl en va t fn hp hl hq hm wp' wr' am' lw we wh ho h k fu' fl' p mto mpl mva mu' md' mf mg' hc hr hln ht hB hwe hH hP
  refine lw_if (fun _ => ?_) (fun _ => ?_)
  · obtain ⟨a, wp', wr', am', mg', fu', fl', mu', md', w2, w3⟩ := st_mends hc hB (xs (Int32.toNatClampNeg (nI i + (1 : Int32)))) (xs (Int32.toNatClampNeg (nI i + (2 : Int32)))) (xs (Int32.toNatClampNeg (nI i + (3 : Int32)))) wp wr am mg fu fl mu md
    refine lw_go g1 ?_
    refine lw_go g2 ?_
    refine lw_go g3 ?_
    refine lw_bd w2 (lw_bd w3 ?_)
    refine lw_go rfl ?_
    exact ih tr c r ln tok pl en va t fn hp hl hq hm wp' wr' am' lw we wh ho h k fu' fl' p mto mpl mva mu' md' mf mg' hc hr hln ht hB hwe hH hP
  refine lw_if (fun _ => ?_) (fun _ => ?_)
  · obtain ⟨a, w2, w3⟩ := st_ways hT hM (xs (Int32.toNatClampNeg (nI i + (1 : Int32)))) (xs (Int32.toNatClampNeg (nI i + (2 : Int32)))) (xs (Int32.toNatClampNeg (nI i + (3 : Int32)))) (xs (Int32.toNatClampNeg (nI i + (4 : Int32)))) (xs (Int32.toNatClampNeg (nI i + (5 : Int32))))
    refine lw_go g1 ?_
    refine lw_go g2 ?_
    refine lw_go g3 ?_
    refine lw_go g4 ?_
    refine lw_go g5 ?_
    refine lw_bd w2 (lw_bd w3 ?_)
    refine lw_go ((cm_eq0 _ _).mpr rfl) ?_
    exact ih tr c r ln tok pl en va t fn hp hl hq hm wp wr am lw we wh ho h k fu fl p mto mpl mva mu md mf mg hc hr hln ht hB hwe hH hP
  refine lw_if (fun _ => ?_) (fun _ => ?_)
  · obtain ⟨a, w2, w3⟩ := st_few hT hM (xs (Int32.toNatClampNeg (nI i + (1 : Int32)))) (xs (Int32.toNatClampNeg (nI i + (2 : Int32)))) (xs (Int32.toNatClampNeg (nI i + (3 : Int32)))) (xs (Int32.toNatClampNeg (nI i + (4 : Int32))))
    refine lw_go g1 ?_
    refine lw_go g2 ?_
    refine lw_go g3 ?_
    refine lw_go g4 ?_
    refine lw_bd w2 (lw_bd w3 ?_)
    refine lw_go rfl ?_
    exact ih tr c r ln tok pl en va t fn hp hl hq hm wp wr am lw we wh ho h k fu fl p mto mpl mva mu md mf mg hc hr hln ht hB hwe hH hP
  refine lw_if (fun _ => ?_) (fun _ => ?_)
  · obtain ⟨a, w2, w3⟩ := st_may hT hM (xs (Int32.toNatClampNeg (nI i + (1 : Int32)))) (xs (Int32.toNatClampNeg (nI i + (2 : Int32)))) (xs (Int32.toNatClampNeg (nI i + (3 : Int32)))) (xs (Int32.toNatClampNeg (nI i + (4 : Int32))))
    refine lw_go g1 ?_
    refine lw_go g2 ?_
    refine lw_go g3 ?_
    refine lw_go g4 ?_
    refine lw_bd w2 (lw_bd w3 ?_)
    refine lw_go rfl ?_
    exact ih tr c r ln tok pl en va t fn hp hl hq hm wp wr am lw we wh ho h k fu fl p mto mpl mva mu md mf mg hc hr hln ht hB hwe hH hP
  refine lw_if (fun _ => ?_) (fun _ => ?_)
  · obtain ⟨a, w2, w3⟩ := st_shadow hc hr hT hM (xs (Int32.toNatClampNeg (nI i + (1 : Int32)))) (xs (Int32.toNatClampNeg (nI i + (2 : Int32)))) (xs (Int32.toNatClampNeg (nI i + (3 : Int32)))) (xs (Int32.toNatClampNeg (nI i + (4 : Int32))))
    refine lw_go g1 ?_
    refine lw_go g2 ?_
    refine lw_go g3 ?_
    refine lw_go g4 ?_
    refine lw_bd w2 (lw_bd w3 ?_)
    refine lw_go ((cm_eq0 _ _).mpr rfl) ?_
    exact ih tr c r ln tok pl en va t fn hp hl hq hm wp wr am lw we wh ho h k fu fl p mto mpl mva mu md mf mg hc hr hln ht hB hwe hH hP
  refine lw_if (fun _ => ?_) (fun _ => ?_)
  · obtain ⟨a, we', wh', w1, w2, w3⟩ := st_week hwe wh (xs (Int32.toNatClampNeg (nI i + (1 : Int32))))
    refine lw_go g1 ?_
    refine lw_bd w2 (lw_bd w3 ?_)
    refine lw_go rfl ?_
    exact ih tr c r ln tok pl en va t fn hp hl hq hm wp wr am lw we' wh' ho h k fu fl p mto mpl mva mu md mf mg hc hr hln ht hB w1 hH hP
  refine lw_if (fun _ => ?_) (fun _ => ?_)
  · obtain ⟨a, w2, w3⟩ := st_turn hwe wh (xs (Int32.toNatClampNeg (nI i + (1 : Int32)))) (xs (Int32.toNatClampNeg (nI i + (2 : Int32))))
    refine lw_go g1 ?_
    refine lw_go g2 ?_
    refine lw_bd w2 (lw_bd w3 ?_)
    refine lw_go rfl ?_
    exact ih tr c r ln tok pl en va t fn hp hl hq hm wp wr am lw we wh ho h k fu fl p mto mpl mva mu md mf mg hc hr hln ht hB hwe hH hP
  refine lw_if (fun _ => ?_) (fun _ => ?_)
  · obtain ⟨a, w2, w3⟩ := st_stops hwe wh
    refine lw_bd w2 (lw_bd w3 ?_)
    refine lw_go rfl ?_
    exact ih tr c r ln tok pl en va t fn hp hl hq hm wp wr am lw we wh ho h k fu fl p mto mpl mva mu md mf mg hc hr hln ht hB hwe hH hP
  refine lw_if (fun _ => ?_) (fun _ => ?_)
  · obtain ⟨a, ho', h', k', w1, w2, w3⟩ := st_house hH (xs (Int32.toNatClampNeg (nI i + (1 : Int32)))) (xs (Int32.toNatClampNeg (nI i + (2 : Int32)))) (xs (Int32.toNatClampNeg (nI i + (3 : Int32))))
    refine lw_go g1 ?_
    refine lw_go g2 ?_
    refine lw_go g3 ?_
    refine lw_bd w2 (lw_bd w3 ?_)
    refine lw_go rfl ?_
    exact ih tr c r ln tok pl en va t fn hp hl hq hm wp wr am lw we wh ho' h' k' fu fl p mto mpl mva mu md mf mg hc hr hln ht hB hwe w1 hP
  refine lw_if (fun _ => ?_) (fun _ => ?_)
  · obtain ⟨a, w2, w3⟩ := st_held hH (xs (Int32.toNatClampNeg (nI i + (1 : Int32))))
    refine lw_go g1 ?_
    refine lw_bd w2 (lw_bd w3 ?_)
    refine lw_go rfl ?_
    exact ih tr c r ln tok pl en va t fn hp hl hq hm wp wr am lw we wh ho h k fu fl p mto mpl mva mu md mf mg hc hr hln ht hB hwe hH hP
  refine lw_if (fun _ => ?_) (fun _ => ?_)
  · obtain ⟨a, w2, w3⟩ := st_wider hH (xs (Int32.toNatClampNeg (nI i + (1 : Int32))))
    refine lw_go g1 ?_
    refine lw_bd w2 (lw_bd w3 ?_)
    refine lw_go rfl ?_
    exact ih tr c r ln tok pl en va t fn hp hl hq hm wp wr am lw we wh ho h k fu fl p mto mpl mva mu md mf mg hc hr hln ht hB hwe hH hP
  refine lw_if (fun _ => ?_) (fun _ => ?_)
  · obtain ⟨a, p', w1, w2, w3⟩ := st_price hP (xs (Int32.toNatClampNeg (nI i + (1 : Int32)))) (xs (Int32.toNatClampNeg (nI i + (2 : Int32))))
    refine lw_go g1 ?_
    refine lw_go g2 ?_
    refine lw_bd w2 (lw_bd w3 ?_)
    refine lw_go rfl ?_
    exact ih tr c r ln tok pl en va t fn hp hl hq hm wp wr am lw we wh ho h k fu fl p' mto mpl mva mu md mf mg hc hr hln ht hB hwe hH w1
  refine lw_if (fun _ => ?_) (fun _ => ?_)
  · obtain ⟨a, lw', fu', fl', mu', md', w2, w3⟩ := st_error hc hr hT hM hP (xs (Int32.toNatClampNeg (nI i + (1 : Int32)))) (xs (Int32.toNatClampNeg (nI i + (2 : Int32)))) lw fu fl mu md
    refine lw_go g1 ?_
    refine lw_go g2 ?_
    refine lw_bd w2 (lw_bd w3 ?_)
    refine lw_go rfl ?_
    exact ih tr c r ln tok pl en va t fn hp hl hq hm wp wr am lw' we wh ho h k fu' fl' p mto mpl mva mu' md' mf mg hc hr hln ht hB hwe hH hP
  refine lw_if (fun _ => ?_) (fun _ => ?_)
  · obtain ⟨a, lw', fu', fl', mu', md', w2, w3⟩ := st_best hc hr hT hM hP (xs (Int32.toNatClampNeg (nI i + (1 : Int32)))) (xs (Int32.toNatClampNeg (nI i + (2 : Int32)))) lw fu fl mu md
    refine lw_go g1 ?_
    refine lw_go g2 ?_
    refine lw_bd w2 (lw_bd w3 ?_)
    refine lw_go rfl ?_
    exact ih tr c r ln tok pl en va t fn hp hl hq hm wp wr am lw' we wh ho h k fu' fl' p mto mpl mva mu' md' mf mg hc hr hln ht hB hwe hH hP
  refine lw_if (fun _ => ?_) (fun _ => ?_)
  · obtain ⟨a, tr', w2, w3⟩ := st_cost hc hP (xs (Int32.toNatClampNeg (nI i + (1 : Int32)))) (xs (Int32.toNatClampNeg (nI i + (2 : Int32)))) tr (nI fn) (nI we)
    refine lw_go g1 ?_
    refine lw_go g2 ?_
    refine lw_bd w2 (lw_bd w3 ?_)
    refine lw_go rfl ?_
    exact ih tr' c r ln tok pl en va t fn hp hl hq hm wp wr am lw we wh ho h k fu fl p mto mpl mva mu md mf mg hc hr hln ht hB hwe hH hP
  refine lw_if (fun _ => ?_) (fun _ => ?_)
  · obtain ⟨a, c', w1, w2, w3⟩ := st_begin hc (nI we) (nI ho)
    refine lw_bd w2 (lw_bd w3 ?_)
    refine lw_go rfl ?_
    exact ih tr c' r ln tok pl en va t fn hp hl hq hm wp wr am lw 0 wh 0 h k fu fl p mto mpl mva mu md mf mg w1 hr hln ht hB (by omega) hH.zero hP
  refine lw_if (fun _ => ?_) (fun _ => ?_)
  · obtain ⟨a, w2, w3⟩ := st_count c (xs (Int32.toNatClampNeg (nI i + (1 : Int32)))) (nI ln) (nI fn) (nI we) (nI ho)
    refine lw_go g1 ?_
    refine lw_bd w2 (lw_bd w3 ?_)
    refine lw_go rfl ?_
    exact ih tr c r ln tok pl en va t fn hp hl hq hm wp wr am lw we wh ho h k fu fl p mto mpl mva mu md mf mg hc hr hln ht hB hwe hH hP
  refine lw_if (fun _ => ?_) (fun _ => ?_)
  · have w2 : f_X9_trace tr = some tr := rfl
    have w3 : f_X10_trace tr = some (tr, 0) := rfl
    refine lw_bd w2 (lw_bd w3 ?_)
    refine lw_go ((cm_eq0 _ _).mpr rfl) ?_
    exact ih tr c r ln tok pl en va t fn hp hl hq hm wp wr am lw we wh ho h k fu fl p mto mpl mva mu md mf mg hc hr hln ht hB hwe hH hP
  exact ih tr c r ln tok pl en va t fn hp hl hq hm wp wr am lw we wh ho h k fu fl p mto mpl mva mu md mf mg hc hr hln ht hB hwe hH hP
theorem law_eq (g : pa_GT) (L : Nat) (xs : Nat → Int32) (lt mt : Nat → Int64) (f : Nat) : f_L_law_L18 g L xs lt mt (f + 1) = f_L_law_L18_body g L xs lt mt (f_L_law_L18 g L xs lt mt f) := rfl
theorem law_loop {g : pa_GT} {L : Nat} {xs : Nat → Int32} {lt mt : Nat → Int64} (hg : GI g) (hL : L ≤ 3072) (hT : TInv lt) (hM : MInv mt) : ∀ (m f i : Nat) (tr : Int64) (c : Nat → Int) (r : Nat → Int) (ln : Nat) (tok : Nat) (pl : Int32) (en : Int32) (va : Int32) (t : Nat → Nat) (fn : Nat) (hp : Nat → Int32) (hl : Nat → Int32) (hq : Nat → Int32) (hm : Nat → Int32) (wp : Int32) (wr : Int32) (am : Nat → Int32) (lw : Nat → Int64) (we : Nat) (wh : Nat → Int32) (ho : Nat) (h : Nat → Nat) (k : Nat → Nat) (fu : Int64) (fl : Int64) (p : Nat → Nat) (mto : Int32) (mpl : Int32) (mva : Int32) (mu : Int64) (md : Int64) (mf : Nat → Int32) (mg : Nat → Int32), L ≤ i + m → i ≤ 3072 → m < f → LInv c → RInv r → ln ≤ 300 → (∀ i, t i ≤ 255) → BInv fn hp hl mf → we ≤ 60 → HInv ho h k → PInv p → f_L_law_L18 g L xs lt mt f (nI i) tr (jF c) (jF r) (nI ln) tok pl en va (nF t) (nI fn) hp hl hq hm wp wr am lw (nI we) wh (nI ho) (nF h) fu fl (nF p) tr (nI ln) mto mpl mva (nI fn) (nI we) (nI ho) (nI (p 0)) (nI (p 1)) (nI (p 2)) mu md (jF c) (jF r) (nF t) mf mg wh (nF k) = some 1 := by
  intro m
  induction m with
  | zero =>
    intro f i tr c r ln tok pl en va t fn hp hl hq hm wp wr am lw we wh ho h k fu fl p mto mpl mva mu md mf mg hmm hi hf hc hr hln ht hB hwe hH hP
    obtain ⟨f, rfl⟩ : ∃ q, f = q + 1 := ⟨f - 1, by omega⟩
    rw [law_eq]
    exact lw_body hg hL hT hM f i (by omega) (fun q => absurd q (by omega)) tr c r ln tok pl en va t fn hp hl hq hm wp wr am lw we wh ho h k fu fl p mto mpl mva mu md mf mg hc hr hln ht hB hwe hH hP
  | succ m ih =>
    intro f i tr c r ln tok pl en va t fn hp hl hq hm wp wr am lw we wh ho h k fu fl p mto mpl mva mu md mf mg hmm hi hf hc hr hln ht hB hwe hH hP
    obtain ⟨f, rfl⟩ : ∃ q, f = q + 1 := ⟨f - 1, by omega⟩
    rw [law_eq]
    refine lw_body hg hL hT hM f i (by omega) (fun q => ?_) tr c r ln tok pl en va t fn hp hl hq hm wp wr am lw we wh ho h k fu fl p mto mpl mva mu md mf mg hc hr hln ht hB hwe hH hP
    rw [show nI i + (6 : Int32) = nI (i + 6) from nI_add i 6]
    intro tr c r ln tok pl en va t fn hp hl hq hm wp wr am lw we wh ho h k fu fl p mto mpl mva mu md mf mg hc hr hln ht hB hwe hH hP
    exact ih f (i + 6) tr c r ln tok pl en va t fn hp hl hq hm wp wr am lw we wh ho h k fu fl p mto mpl mva mu md mf mg (by omega) (by omega) (by omega) hc hr hln ht hB hwe hH hP
theorem law_pure (g : pa_GT) (L : Nat) (xs : Nat → Int32) (hL : L ≤ 3072) (hg : ∀ i j, i < 7 → j < 7 → g.1 i = g.1 j → i = j) : f_L_law g L xs = some (1 : Int32) := by
  obtain ⟨lt, h1, h2⟩ := st_init9 g
  obtain ⟨mt, h3, h4⟩ := st_init10
  have q := law_loop (g := g) (L := L) (xs := xs) hg hL h1 h3 L pa_fu 0 0 (fun _ => 0) r0 0 (g.1 5) 0 0 0 (fun _ => 0) 0 (fun _ => 0) (fun _ => 0) (fun _ => 0) (fun _ => 0) 0 0 (fun _ => 0) (fun _ => 0) 0 (fun _ => 0) 0 (fun _ => 0) (fun _ => 0) 0 0 p0 0 0 0 0 0 (fun _ => 0) (fun _ => 0) (by omega) (by omega) (by have : pa_fu = 4096 := rfl; omega) ⟨fun _ => Int.le_refl _, fun _ _ => by show (0 : Int) + 0 + 0 + 0 + 0 + 0 + 0 + 0 ≤ 50; decide⟩ r0_inv (by omega) (fun _ => Nat.zero_le _) ⟨by omega, fun _ z => absurd z (by omega)⟩ (by omega) ⟨by omega, fun _ => Nat.zero_le _, fun _ => Nat.zero_le _, fun _ _ _ z => absurd z (by omega), fun _ => rfl⟩ p0_inv
  rw [f_L_law, h2, b1, h4, b1]
  exact q
