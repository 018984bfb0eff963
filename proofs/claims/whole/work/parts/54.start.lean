set_option maxRecDepth 20000 in
theorem lin_nest : ∀ w ∈ pa_nest, w ∈ lw_tbl := lin_of _ [93, 101, 103, 105, 108, 124, 129, 131, 135, 136, 150, 180, 186, 194, 200, 208, 213, 215, 476, 554] (by decide +kernel)
theorem pa_N_start {s : State} {args : Array Value} (hts : ∀ w ∈ lw_tbl, w.before args s = true) : pa_N s := by
  intro w hw
  have h1 := hts w (lin_nest w hw)
  simp only [pa_nest, List.mem_cons, List.not_mem_nil, or_false] at hw
  rcases hw with rfl | rfl | rfl | rfl | rfl | rfl | rfl | rfl | rfl | rfl | rfl | rfl | rfl | rfl | rfl | rfl | rfl | rfl | rfl | rfl
  all_goals exact va_Nw.of rfl h1
set_option maxRecDepth 20000 in
set_option maxHeartbeats 4000000 in
theorem pa_En_start {s : State} {args : Array Value} {A : Nat → Prop} (hts : ∀ w ∈ lw_tbl, w.before args s = true) (hgs : ∀ c ∈ flatC (Jvm.Cond.and given_1 narrow_1), c.before args s = true) (hA : ∀ a : Nat, a < s.heap.size → ¬ A a) : ∃ ad : Nat → Nat, va_En "PostedAsks$Token" "LPostedAsks$Token;" pa_toks [] ad A s s.heap := by
  refine va_Enof ?_ (hts (.initialized "PostedAsks$Token") (List.mem_of_getElem? (i := 52) (by decide +kernel))) ?_ (fun q h => absurd h List.not_mem_nil) ?_ hA
  · intro i hi
    match i, hi with
    | 0, _ => exact (hts (.laysStatic "PostedAsks$Token" "FIND" "LPostedAsks$Token;") (List.mem_of_getElem? (i := 430) (by decide +kernel)))
    | 1, _ => exact (hts (.laysStatic "PostedAsks$Token" "ALL" "LPostedAsks$Token;") (List.mem_of_getElem? (i := 433) (by decide +kernel)))
    | 2, _ => exact (hts (.laysStatic "PostedAsks$Token" "PATTERN" "LPostedAsks$Token;") (List.mem_of_getElem? (i := 444) (by decide +kernel)))
    | 3, _ => exact (hts (.laysStatic "PostedAsks$Token" "NUMBER" "LPostedAsks$Token;") (List.mem_of_getElem? (i := 456) (by decide +kernel)))
    | 4, _ => exact (hts (.laysStatic "PostedAsks$Token" "SEMICOLON" "LPostedAsks$Token;") (List.mem_of_getElem? (i := 458) (by decide +kernel)))
    | 5, _ => exact (hts (.laysStatic "PostedAsks$Token" "END" "LPostedAsks$Token;") (List.mem_of_getElem? (i := 98) (by decide +kernel)))
    | 6, _ => exact (hts (.laysStatic "PostedAsks$Token" "WRONG" "LPostedAsks$Token;") (List.mem_of_getElem? (i := 442) (by decide +kernel)))
    | i + 7, h => exact absurd h (by simp)
  · intro i hi
    match i, hi with
    | 0, _ => exact hgs _ (by decide +kernel)
    | 1, _ => exact hgs _ (by decide +kernel)
    | 2, _ => exact hgs _ (by decide +kernel)
    | 3, _ => exact hgs _ (by decide +kernel)
    | 4, _ => exact hgs _ (by decide +kernel)
    | 5, _ => exact hgs _ (by decide +kernel)
    | 6, _ => exact hgs _ (by decide +kernel)
    | i + 7, h => exact absurd h (by simp)
  · intro i j hi hj hij
    match i, hi with
    | 0, _ =>
      match j, hj with
      | 0, _ => exact absurd rfl hij
      | 1, _ => first | exact Or.inl (hgs (.not (.eq (.static "PostedAsks$Token" "FIND" "LPostedAsks$Token;") (.static "PostedAsks$Token" "ALL" "LPostedAsks$Token;"))) (by decide +kernel)) | exact Or.inr (hgs (.not (.eq (.static "PostedAsks$Token" "ALL" "LPostedAsks$Token;") (.static "PostedAsks$Token" "FIND" "LPostedAsks$Token;"))) (by decide +kernel))
      | 2, _ => first | exact Or.inl (hgs (.not (.eq (.static "PostedAsks$Token" "FIND" "LPostedAsks$Token;") (.static "PostedAsks$Token" "PATTERN" "LPostedAsks$Token;"))) (by decide +kernel)) | exact Or.inr (hgs (.not (.eq (.static "PostedAsks$Token" "PATTERN" "LPostedAsks$Token;") (.static "PostedAsks$Token" "FIND" "LPostedAsks$Token;"))) (by decide +kernel))
      | 3, _ => first | exact Or.inl (hgs (.not (.eq (.static "PostedAsks$Token" "FIND" "LPostedAsks$Token;") (.static "PostedAsks$Token" "NUMBER" "LPostedAsks$Token;"))) (by decide +kernel)) | exact Or.inr (hgs (.not (.eq (.static "PostedAsks$Token" "NUMBER" "LPostedAsks$Token;") (.static "PostedAsks$Token" "FIND" "LPostedAsks$Token;"))) (by decide +kernel))
      | 4, _ => first | exact Or.inl (hgs (.not (.eq (.static "PostedAsks$Token" "FIND" "LPostedAsks$Token;") (.static "PostedAsks$Token" "SEMICOLON" "LPostedAsks$Token;"))) (by decide +kernel)) | exact Or.inr (hgs (.not (.eq (.static "PostedAsks$Token" "SEMICOLON" "LPostedAsks$Token;") (.static "PostedAsks$Token" "FIND" "LPostedAsks$Token;"))) (by decide +kernel))
      | 5, _ => first | exact Or.inl (hgs (.not (.eq (.static "PostedAsks$Token" "FIND" "LPostedAsks$Token;") (.static "PostedAsks$Token" "END" "LPostedAsks$Token;"))) (by decide +kernel)) | exact Or.inr (hgs (.not (.eq (.static "PostedAsks$Token" "END" "LPostedAsks$Token;") (.static "PostedAsks$Token" "FIND" "LPostedAsks$Token;"))) (by decide +kernel))
      | 6, _ => first | exact Or.inl (hgs (.not (.eq (.static "PostedAsks$Token" "FIND" "LPostedAsks$Token;") (.static "PostedAsks$Token" "WRONG" "LPostedAsks$Token;"))) (by decide +kernel)) | exact Or.inr (hgs (.not (.eq (.static "PostedAsks$Token" "WRONG" "LPostedAsks$Token;") (.static "PostedAsks$Token" "FIND" "LPostedAsks$Token;"))) (by decide +kernel))
      | j + 7, h => exact absurd h (by simp)
    | 1, _ =>
      match j, hj with
      | 0, _ => first | exact Or.inl (hgs (.not (.eq (.static "PostedAsks$Token" "ALL" "LPostedAsks$Token;") (.static "PostedAsks$Token" "FIND" "LPostedAsks$Token;"))) (by decide +kernel)) | exact Or.inr (hgs (.not (.eq (.static "PostedAsks$Token" "FIND" "LPostedAsks$Token;") (.static "PostedAsks$Token" "ALL" "LPostedAsks$Token;"))) (by decide +kernel))
      | 1, _ => exact absurd rfl hij
      | 2, _ => first | exact Or.inl (hgs (.not (.eq (.static "PostedAsks$Token" "ALL" "LPostedAsks$Token;") (.static "PostedAsks$Token" "PATTERN" "LPostedAsks$Token;"))) (by decide +kernel)) | exact Or.inr (hgs (.not (.eq (.static "PostedAsks$Token" "PATTERN" "LPostedAsks$Token;") (.static "PostedAsks$Token" "ALL" "LPostedAsks$Token;"))) (by decide +kernel))
      | 3, _ => first | exact Or.inl (hgs (.not (.eq (.static "PostedAsks$Token" "ALL" "LPostedAsks$Token;") (.static "PostedAsks$Token" "NUMBER" "LPostedAsks$Token;"))) (by decide +kernel)) | exact Or.inr (hgs (.not (.eq (.static "PostedAsks$Token" "NUMBER" "LPostedAsks$Token;") (.static "PostedAsks$Token" "ALL" "LPostedAsks$Token;"))) (by decide +kernel))
      | 4, _ => first | exact Or.inl (hgs (.not (.eq (.static "PostedAsks$Token" "ALL" "LPostedAsks$Token;") (.static "PostedAsks$Token" "SEMICOLON" "LPostedAsks$Token;"))) (by decide +kernel)) | exact Or.inr (hgs (.not (.eq (.static "PostedAsks$Token" "SEMICOLON" "LPostedAsks$Token;") (.static "PostedAsks$Token" "ALL" "LPostedAsks$Token;"))) (by decide +kernel))
      | 5, _ => first | exact Or.inl (hgs (.not (.eq (.static "PostedAsks$Token" "ALL" "LPostedAsks$Token;") (.static "PostedAsks$Token" "END" "LPostedAsks$Token;"))) (by decide +kernel)) | exact Or.inr (hgs (.not (.eq (.static "PostedAsks$Token" "END" "LPostedAsks$Token;") (.static "PostedAsks$Token" "ALL" "LPostedAsks$Token;"))) (by decide +kernel))
      | 6, _ => first | exact Or.inl (hgs (.not (.eq (.static "PostedAsks$Token" "ALL" "LPostedAsks$Token;") (.static "PostedAsks$Token" "WRONG" "LPostedAsks$Token;"))) (by decide +kernel)) | exact Or.inr (hgs (.not (.eq (.static "PostedAsks$Token" "WRONG" "LPostedAsks$Token;") (.static "PostedAsks$Token" "ALL" "LPostedAsks$Token;"))) (by decide +kernel))
      | j + 7, h => exact absurd h (by simp)
    | 2, _ =>
      match j, hj with
      | 0, _ => first | exact Or.inl (hgs (.not (.eq (.static "PostedAsks$Token" "PATTERN" "LPostedAsks$Token;") (.static "PostedAsks$Token" "FIND" "LPostedAsks$Token;"))) (by decide +kernel)) | exact Or.inr (hgs (.not (.eq (.static "PostedAsks$Token" "FIND" "LPostedAsks$Token;") (.static "PostedAsks$Token" "PATTERN" "LPostedAsks$Token;"))) (by decide +kernel))
      | 1, _ => first | exact Or.inl (hgs (.not (.eq (.static "PostedAsks$Token" "PATTERN" "LPostedAsks$Token;") (.static "PostedAsks$Token" "ALL" "LPostedAsks$Token;"))) (by decide +kernel)) | exact Or.inr (hgs (.not (.eq (.static "PostedAsks$Token" "ALL" "LPostedAsks$Token;") (.static "PostedAsks$Token" "PATTERN" "LPostedAsks$Token;"))) (by decide +kernel))
      | 2, _ => exact absurd rfl hij
      | 3, _ => first | exact Or.inl (hgs (.not (.eq (.static "PostedAsks$Token" "PATTERN" "LPostedAsks$Token;") (.static "PostedAsks$Token" "NUMBER" "LPostedAsks$Token;"))) (by decide +kernel)) | exact Or.inr (hgs (.not (.eq (.static "PostedAsks$Token" "NUMBER" "LPostedAsks$Token;") (.static "PostedAsks$Token" "PATTERN" "LPostedAsks$Token;"))) (by decide +kernel))
      | 4, _ => first | exact Or.inl (hgs (.not (.eq (.static "PostedAsks$Token" "PATTERN" "LPostedAsks$Token;") (.static "PostedAsks$Token" "SEMICOLON" "LPostedAsks$Token;"))) (by decide +kernel)) | exact Or.inr (hgs (.not (.eq (.static "PostedAsks$Token" "SEMICOLON" "LPostedAsks$Token;") (.static "PostedAsks$Token" "PATTERN" "LPostedAsks$Token;"))) (by decide +kernel))
      | 5, _ => first | exact Or.inl (hgs (.not (.eq (.static "PostedAsks$Token" "PATTERN" "LPostedAsks$Token;") (.static "PostedAsks$Token" "END" "LPostedAsks$Token;"))) (by decide +kernel)) | exact Or.inr (hgs (.not (.eq (.static "PostedAsks$Token" "END" "LPostedAsks$Token;") (.static "PostedAsks$Token" "PATTERN" "LPostedAsks$Token;"))) (by decide +kernel))
      | 6, _ => first | exact Or.inl (hgs (.not (.eq (.static "PostedAsks$Token" "PATTERN" "LPostedAsks$Token;") (.static "PostedAsks$Token" "WRONG" "LPostedAsks$Token;"))) (by decide +kernel)) | exact Or.inr (hgs (.not (.eq (.static "PostedAsks$Token" "WRONG" "LPostedAsks$Token;") (.static "PostedAsks$Token" "PATTERN" "LPostedAsks$Token;"))) (by decide +kernel))
      | j + 7, h => exact absurd h (by simp)
    | 3, _ =>
      match j, hj with
      | 0, _ => first | exact Or.inl (hgs (.not (.eq (.static "PostedAsks$Token" "NUMBER" "LPostedAsks$Token;") (.static "PostedAsks$Token" "FIND" "LPostedAsks$Token;"))) (by decide +kernel)) | exact Or.inr (hgs (.not (.eq (.static "PostedAsks$Token" "FIND" "LPostedAsks$Token;") (.static "PostedAsks$Token" "NUMBER" "LPostedAsks$Token;"))) (by decide +kernel))
      | 1, _ => first | exact Or.inl (hgs (.not (.eq (.static "PostedAsks$Token" "NUMBER" "LPostedAsks$Token;") (.static "PostedAsks$Token" "ALL" "LPostedAsks$Token;"))) (by decide +kernel)) | exact Or.inr (hgs (.not (.eq (.static "PostedAsks$Token" "ALL" "LPostedAsks$Token;") (.static "PostedAsks$Token" "NUMBER" "LPostedAsks$Token;"))) (by decide +kernel))
      | 2, _ => first | exact Or.inl (hgs (.not (.eq (.static "PostedAsks$Token" "NUMBER" "LPostedAsks$Token;") (.static "PostedAsks$Token" "PATTERN" "LPostedAsks$Token;"))) (by decide +kernel)) | exact Or.inr (hgs (.not (.eq (.static "PostedAsks$Token" "PATTERN" "LPostedAsks$Token;") (.static "PostedAsks$Token" "NUMBER" "LPostedAsks$Token;"))) (by decide +kernel))
      | 3, _ => exact absurd rfl hij
      | 4, _ => first | exact Or.inl (hgs (.not (.eq (.static "PostedAsks$Token" "NUMBER" "LPostedAsks$Token;") (.static "PostedAsks$Token" "SEMICOLON" "LPostedAsks$Token;"))) (by decide +kernel)) | exact Or.inr (hgs (.not (.eq (.static "PostedAsks$Token" "SEMICOLON" "LPostedAsks$Token;") (.static "PostedAsks$Token" "NUMBER" "LPostedAsks$Token;"))) (by decide +kernel))
      | 5, _ => first | exact Or.inl (hgs (.not (.eq (.static "PostedAsks$Token" "NUMBER" "LPostedAsks$Token;") (.static "PostedAsks$Token" "END" "LPostedAsks$Token;"))) (by decide +kernel)) | exact Or.inr (hgs (.not (.eq (.static "PostedAsks$Token" "END" "LPostedAsks$Token;") (.static "PostedAsks$Token" "NUMBER" "LPostedAsks$Token;"))) (by decide +kernel))
      | 6, _ => first | exact Or.inl (hgs (.not (.eq (.static "PostedAsks$Token" "NUMBER" "LPostedAsks$Token;") (.static "PostedAsks$Token" "WRONG" "LPostedAsks$Token;"))) (by decide +kernel)) | exact Or.inr (hgs (.not (.eq (.static "PostedAsks$Token" "WRONG" "LPostedAsks$Token;") (.static "PostedAsks$Token" "NUMBER" "LPostedAsks$Token;"))) (by decide +kernel))
      | j + 7, h => exact absurd h (by simp)
    | 4, _ =>
      match j, hj with
      | 0, _ => first | exact Or.inl (hgs (.not (.eq (.static "PostedAsks$Token" "SEMICOLON" "LPostedAsks$Token;") (.static "PostedAsks$Token" "FIND" "LPostedAsks$Token;"))) (by decide +kernel)) | exact Or.inr (hgs (.not (.eq (.static "PostedAsks$Token" "FIND" "LPostedAsks$Token;") (.static "PostedAsks$Token" "SEMICOLON" "LPostedAsks$Token;"))) (by decide +kernel))
      | 1, _ => first | exact Or.inl (hgs (.not (.eq (.static "PostedAsks$Token" "SEMICOLON" "LPostedAsks$Token;") (.static "PostedAsks$Token" "ALL" "LPostedAsks$Token;"))) (by decide +kernel)) | exact Or.inr (hgs (.not (.eq (.static "PostedAsks$Token" "ALL" "LPostedAsks$Token;") (.static "PostedAsks$Token" "SEMICOLON" "LPostedAsks$Token;"))) (by decide +kernel))
      | 2, _ => first | exact Or.inl (hgs (.not (.eq (.static "PostedAsks$Token" "SEMICOLON" "LPostedAsks$Token;") (.static "PostedAsks$Token" "PATTERN" "LPostedAsks$Token;"))) (by decide +kernel)) | exact Or.inr (hgs (.not (.eq (.static "PostedAsks$Token" "PATTERN" "LPostedAsks$Token;") (.static "PostedAsks$Token" "SEMICOLON" "LPostedAsks$Token;"))) (by decide +kernel))
      | 3, _ => first | exact Or.inl (hgs (.not (.eq (.static "PostedAsks$Token" "SEMICOLON" "LPostedAsks$Token;") (.static "PostedAsks$Token" "NUMBER" "LPostedAsks$Token;"))) (by decide +kernel)) | exact Or.inr (hgs (.not (.eq (.static "PostedAsks$Token" "NUMBER" "LPostedAsks$Token;") (.static "PostedAsks$Token" "SEMICOLON" "LPostedAsks$Token;"))) (by decide +kernel))
      | 4, _ => exact absurd rfl hij
      | 5, _ => first | exact Or.inl (hgs (.not (.eq (.static "PostedAsks$Token" "SEMICOLON" "LPostedAsks$Token;") (.static "PostedAsks$Token" "END" "LPostedAsks$Token;"))) (by decide +kernel)) | exact Or.inr (hgs (.not (.eq (.static "PostedAsks$Token" "END" "LPostedAsks$Token;") (.static "PostedAsks$Token" "SEMICOLON" "LPostedAsks$Token;"))) (by decide +kernel))
      | 6, _ => first | exact Or.inl (hgs (.not (.eq (.static "PostedAsks$Token" "SEMICOLON" "LPostedAsks$Token;") (.static "PostedAsks$Token" "WRONG" "LPostedAsks$Token;"))) (by decide +kernel)) | exact Or.inr (hgs (.not (.eq (.static "PostedAsks$Token" "WRONG" "LPostedAsks$Token;") (.static "PostedAsks$Token" "SEMICOLON" "LPostedAsks$Token;"))) (by decide +kernel))
      | j + 7, h => exact absurd h (by simp)
    | 5, _ =>
      match j, hj with
      | 0, _ => first | exact Or.inl (hgs (.not (.eq (.static "PostedAsks$Token" "END" "LPostedAsks$Token;") (.static "PostedAsks$Token" "FIND" "LPostedAsks$Token;"))) (by decide +kernel)) | exact Or.inr (hgs (.not (.eq (.static "PostedAsks$Token" "FIND" "LPostedAsks$Token;") (.static "PostedAsks$Token" "END" "LPostedAsks$Token;"))) (by decide +kernel))
      | 1, _ => first | exact Or.inl (hgs (.not (.eq (.static "PostedAsks$Token" "END" "LPostedAsks$Token;") (.static "PostedAsks$Token" "ALL" "LPostedAsks$Token;"))) (by decide +kernel)) | exact Or.inr (hgs (.not (.eq (.static "PostedAsks$Token" "ALL" "LPostedAsks$Token;") (.static "PostedAsks$Token" "END" "LPostedAsks$Token;"))) (by decide +kernel))
      | 2, _ => first | exact Or.inl (hgs (.not (.eq (.static "PostedAsks$Token" "END" "LPostedAsks$Token;") (.static "PostedAsks$Token" "PATTERN" "LPostedAsks$Token;"))) (by decide +kernel)) | exact Or.inr (hgs (.not (.eq (.static "PostedAsks$Token" "PATTERN" "LPostedAsks$Token;") (.static "PostedAsks$Token" "END" "LPostedAsks$Token;"))) (by decide +kernel))
      | 3, _ => first | exact Or.inl (hgs (.not (.eq (.static "PostedAsks$Token" "END" "LPostedAsks$Token;") (.static "PostedAsks$Token" "NUMBER" "LPostedAsks$Token;"))) (by decide +kernel)) | exact Or.inr (hgs (.not (.eq (.static "PostedAsks$Token" "NUMBER" "LPostedAsks$Token;") (.static "PostedAsks$Token" "END" "LPostedAsks$Token;"))) (by decide +kernel))
      | 4, _ => first | exact Or.inl (hgs (.not (.eq (.static "PostedAsks$Token" "END" "LPostedAsks$Token;") (.static "PostedAsks$Token" "SEMICOLON" "LPostedAsks$Token;"))) (by decide +kernel)) | exact Or.inr (hgs (.not (.eq (.static "PostedAsks$Token" "SEMICOLON" "LPostedAsks$Token;") (.static "PostedAsks$Token" "END" "LPostedAsks$Token;"))) (by decide +kernel))
      | 5, _ => exact absurd rfl hij
      | 6, _ => first | exact Or.inl (hgs (.not (.eq (.static "PostedAsks$Token" "END" "LPostedAsks$Token;") (.static "PostedAsks$Token" "WRONG" "LPostedAsks$Token;"))) (by decide +kernel)) | exact Or.inr (hgs (.not (.eq (.static "PostedAsks$Token" "WRONG" "LPostedAsks$Token;") (.static "PostedAsks$Token" "END" "LPostedAsks$Token;"))) (by decide +kernel))
      | j + 7, h => exact absurd h (by simp)
    | 6, _ =>
      match j, hj with
      | 0, _ => first | exact Or.inl (hgs (.not (.eq (.static "PostedAsks$Token" "WRONG" "LPostedAsks$Token;") (.static "PostedAsks$Token" "FIND" "LPostedAsks$Token;"))) (by decide +kernel)) | exact Or.inr (hgs (.not (.eq (.static "PostedAsks$Token" "FIND" "LPostedAsks$Token;") (.static "PostedAsks$Token" "WRONG" "LPostedAsks$Token;"))) (by decide +kernel))
      | 1, _ => first | exact Or.inl (hgs (.not (.eq (.static "PostedAsks$Token" "WRONG" "LPostedAsks$Token;") (.static "PostedAsks$Token" "ALL" "LPostedAsks$Token;"))) (by decide +kernel)) | exact Or.inr (hgs (.not (.eq (.static "PostedAsks$Token" "ALL" "LPostedAsks$Token;") (.static "PostedAsks$Token" "WRONG" "LPostedAsks$Token;"))) (by decide +kernel))
      | 2, _ => first | exact Or.inl (hgs (.not (.eq (.static "PostedAsks$Token" "WRONG" "LPostedAsks$Token;") (.static "PostedAsks$Token" "PATTERN" "LPostedAsks$Token;"))) (by decide +kernel)) | exact Or.inr (hgs (.not (.eq (.static "PostedAsks$Token" "PATTERN" "LPostedAsks$Token;") (.static "PostedAsks$Token" "WRONG" "LPostedAsks$Token;"))) (by decide +kernel))
      | 3, _ => first | exact Or.inl (hgs (.not (.eq (.static "PostedAsks$Token" "WRONG" "LPostedAsks$Token;") (.static "PostedAsks$Token" "NUMBER" "LPostedAsks$Token;"))) (by decide +kernel)) | exact Or.inr (hgs (.not (.eq (.static "PostedAsks$Token" "NUMBER" "LPostedAsks$Token;") (.static "PostedAsks$Token" "WRONG" "LPostedAsks$Token;"))) (by decide +kernel))
      | 4, _ => first | exact Or.inl (hgs (.not (.eq (.static "PostedAsks$Token" "WRONG" "LPostedAsks$Token;") (.static "PostedAsks$Token" "SEMICOLON" "LPostedAsks$Token;"))) (by decide +kernel)) | exact Or.inr (hgs (.not (.eq (.static "PostedAsks$Token" "SEMICOLON" "LPostedAsks$Token;") (.static "PostedAsks$Token" "WRONG" "LPostedAsks$Token;"))) (by decide +kernel))
      | 5, _ => first | exact Or.inl (hgs (.not (.eq (.static "PostedAsks$Token" "WRONG" "LPostedAsks$Token;") (.static "PostedAsks$Token" "END" "LPostedAsks$Token;"))) (by decide +kernel)) | exact Or.inr (hgs (.not (.eq (.static "PostedAsks$Token" "END" "LPostedAsks$Token;") (.static "PostedAsks$Token" "WRONG" "LPostedAsks$Token;"))) (by decide +kernel))
      | 6, _ => exact absurd rfl hij
      | j + 7, h => exact absurd h (by simp)
    | i + 7, h => exact absurd h (by simp)

set_option maxRecDepth 20000 in
set_option maxHeartbeats 4000000 in
theorem pa_G_start {s : State} {args : Array Value} {A : Nat → Prop} (hts : ∀ w ∈ lw_tbl, w.before args s = true) (hgs : ∀ c ∈ flatC (Jvm.Cond.and given_1 narrow_1), c.before args s = true) (hA : ∀ a : Nat, a < s.heap.size → ¬ A a) : ∃ g : pa_GT, pa_G g A s s.heap := by
  obtain ⟨ad, hE⟩ := pa_En_start hts hgs hA
  have hN := pa_N_start hts
  obtain ⟨pt, hp1, hp2⟩ := va_Tof (args := args) (s := s) (tm := .static "PostedAsks" "PEOPLE" "[I") (ty := .int) (N := 6) (f := fun j => .int (pa_peo j)) (A := A) (by decide) (hgs _ (by decide +kernel)) (va_eqt (hgs (.eq (.length (.static "PostedAsks" "PEOPLE" "[I")) (.int 6)) (by decide +kernel))) (fun j hj => by
    match j, hj with
    | 0, _ => exact va_eqt (hgs (.eq (.elem (.static "PostedAsks" "PEOPLE" "[I") (.int 0)) (.int 0)) (by decide +kernel))
    | 1, _ => exact va_eqt (hgs (.eq (.elem (.static "PostedAsks" "PEOPLE" "[I") (.int 1)) (.int 1)) (by decide +kernel))
    | 2, _ => exact va_eqt (hgs (.eq (.elem (.static "PostedAsks" "PEOPLE" "[I") (.int 2)) (.int 4)) (by decide +kernel))
    | 3, _ => exact va_eqt (hgs (.eq (.elem (.static "PostedAsks" "PEOPLE" "[I") (.int 3)) (.int 5)) (by decide +kernel))
    | 4, _ => exact va_eqt (hgs (.eq (.elem (.static "PostedAsks" "PEOPLE" "[I") (.int 4)) (.int 2)) (by decide +kernel))
    | 5, _ => exact va_eqt (hgs (.eq (.elem (.static "PostedAsks" "PEOPLE" "[I") (.int 5)) (.int 3)) (by decide +kernel))
    | j + 6, h => exact absurd h (by omega)) hA
  have hpz := va_Zref (A := A) (hts (.laysStatic "PostedAsks" "PEOPLE" "[I") (List.mem_of_getElem? (i := 294) (by decide +kernel))) (hts (.initialized "PostedAsks") (List.mem_of_getElem? (i := 47) (by decide +kernel))) hp1 hA
  obtain ⟨ak, av, hS, hev⟩ := vk_Sof (args := args) (s := s) (N := 2) (tm := fun i => if i = 0 then .string "PostedAsks$Text" 56 else .string "PostedAsks$Text" 65) (len := [4, 3]) (byt := [[102, 105, 110, 100], [97, 108, 108]]) (A := A)
    (fun i hi => by match i, hi with
      | 0, _ => decide
      | 1, _ => decide
      | i + 2, h => exact absurd h (by omega))
    (fun i hi => by match i, hi with
      | 0, _ => exact hgs (.exactly (.string "PostedAsks$Text" 56) "java/lang/String") (by decide +kernel)
      | 1, _ => exact hgs (.exactly (.string "PostedAsks$Text" 65) "java/lang/String") (by decide +kernel)
      | i + 2, h => exact absurd h (by omega))
    (fun i hi => by match i, hi with
      | 0, _ => exact hgs (.eq (.field (.string "PostedAsks$Text" 56) "java/lang/String" "coder" "B") (.int 0)) (by decide +kernel)
      | 1, _ => exact hgs (.eq (.field (.string "PostedAsks$Text" 65) "java/lang/String" "coder" "B") (.int 0)) (by decide +kernel)
      | i + 2, h => exact absurd h (by omega))
    (fun i hi => by match i, hi with
      | 0, _ => exact hgs (.arrayOf (.field (.string "PostedAsks$Text" 56) "java/lang/String" "value" "[B") .byte) (by decide +kernel)
      | 1, _ => exact hgs (.arrayOf (.field (.string "PostedAsks$Text" 65) "java/lang/String" "value" "[B") .byte) (by decide +kernel)
      | i + 2, h => exact absurd h (by omega))
    (fun i hi => by match i, hi with
      | 0, _ => exact hgs (.eq (.length (.field (.string "PostedAsks$Text" 56) "java/lang/String" "value" "[B")) (.int 4)) (by decide +kernel)
      | 1, _ => exact hgs (.eq (.length (.field (.string "PostedAsks$Text" 65) "java/lang/String" "value" "[B")) (.int 3)) (by decide +kernel)
      | i + 2, h => exact absurd h (by omega))
    (fun i hi j hj => by match i, hi with
      | 0, _ =>
        match j, hj with
        | 0, _ => exact hgs (.eq (.elem (.field (.string "PostedAsks$Text" 56) "java/lang/String" "value" "[B") (.int 0)) (.int 102)) (by decide +kernel)
        | 1, _ => exact hgs (.eq (.elem (.field (.string "PostedAsks$Text" 56) "java/lang/String" "value" "[B") (.int 1)) (.int 105)) (by decide +kernel)
        | 2, _ => exact hgs (.eq (.elem (.field (.string "PostedAsks$Text" 56) "java/lang/String" "value" "[B") (.int 2)) (.int 110)) (by decide +kernel)
        | 3, _ => exact hgs (.eq (.elem (.field (.string "PostedAsks$Text" 56) "java/lang/String" "value" "[B") (.int 3)) (.int 100)) (by decide +kernel)
        | j + 4, h => exact absurd h (by simp)
      | 1, _ =>
        match j, hj with
        | 0, _ => exact hgs (.eq (.elem (.field (.string "PostedAsks$Text" 65) "java/lang/String" "value" "[B") (.int 0)) (.int 97)) (by decide +kernel)
        | 1, _ => exact hgs (.eq (.elem (.field (.string "PostedAsks$Text" 65) "java/lang/String" "value" "[B") (.int 1)) (.int 108)) (by decide +kernel)
        | 2, _ => exact hgs (.eq (.elem (.field (.string "PostedAsks$Text" 65) "java/lang/String" "value" "[B") (.int 2)) (.int 108)) (by decide +kernel)
        | j + 3, h => exact absurd h (by simp)
      | i + 2, h => exact absurd h (by omega))
    (fun i j hi hj hij => by match i, hi, j, hj with
      | 0, _, 0, _ => exact absurd rfl hij
      | 0, _, 1, _ => exact Or.inl (hgs (.not (.eq (.string "PostedAsks$Text" 56) (.string "PostedAsks$Text" 65))) (by decide +kernel))
      | 1, _, 0, _ => exact Or.inr (hgs (.not (.eq (.string "PostedAsks$Text" 56) (.string "PostedAsks$Text" 65))) (by decide +kernel))
      | 1, _, 1, _ => exact absurd rfl hij
      | i + 2, h, _, _ => exact absurd h (by omega)
      | 0, _, j + 2, h => exact absurd h (by omega)
      | 1, _, j + 2, h => exact absurd h (by omega)) hA
  have hr0 := vk_R.of (own := "PostedAsks$Text") (k := 56) (tx := "find") (hts (.stringRef "PostedAsks$Text" 56 "find") (List.mem_of_getElem? (i := 376) (by decide +kernel))) (hev 0 (by decide))
  have hr1 := vk_R.of (own := "PostedAsks$Text") (k := 65) (tx := "all") (hts (.stringRef "PostedAsks$Text" 65 "all") (List.mem_of_getElem? (i := 431) (by decide +kernel))) (hev 1 (by decide))
  have hcs := va_Zof (A := A) (hts (.laysStatic "java/lang/String" "COMPACT_STRINGS" "Z") (List.mem_of_getElem? (i := 390) (by decide +kernel))) (hts (.initialized "java/lang/String") (List.mem_of_getElem? (i := 61) (by decide +kernel))) (va_eqi (hgs (.eq (.static "java/lang/String" "COMPACT_STRINGS" "Z") (.int 1)) (by decide +kernel))) hA
  have hsi := va_Zqof (A := A) (hts (.laysStatic "jdk/internal/util/Preconditions" "SIOOBE_FORMATTER" "Ljava/util/function/BiFunction;") (List.mem_of_getElem? (i := 406) (by decide +kernel))) (hts (.initialized "jdk/internal/util/Preconditions") (List.mem_of_getElem? (i := 63) (by decide +kernel))) (hgs (.isRef (.static "jdk/internal/util/Preconditions" "SIOOBE_FORMATTER" "Ljava/util/function/BiFunction;")) (by decide +kernel)) hA
  exact ⟨(ad, pt, ak, av), hN, hE, ⟨hpz, hp2⟩, ⟨hr0, hr1⟩, hS, hcs, hsi⟩
set_option maxHeartbeats 4000000 in
set_option maxRecDepth 100000 in
theorem start_open (hpure : ∀ (g : pa_GT) (L : Nat) (xs : Nat → Int32), L ≤ 3072 → (∀ i j, i < 7 → j < 7 → g.1 i = g.1 j → i = j) → f_L_law g L xs = some (1 : Int32)) {p : Program} {e : Env} {s : State} {m : MethodId} {below : List Frame} {meth : Method} {c : Code} (l : Launch) {b L : Nat} {xs : Nat → Int32} (hL : L ≤ 3072) (C0 : lw_At p s m meth c b L xs) : W p l e room_1 s m #[Value.ref b] below meth c s.heap [] 0 0 (lw_Z below #[Value.ref b] s) (entryFrame m ([Value.ref b] : List Value).toArray 4) := by
  obtain ⟨hx, hb, hr, hml, hown, hts, hX, hbl, hlocks, hgv⟩ := id C0
  have hwl : ∀ w ∈ wsL_law, w.before #[Value.ref b] s = true := fun w h => hts w (wsL_law_in w h)
  have hgs := flat_of_before _ hgv
  obtain ⟨c0, iS0, hKn0⟩ := u_known (C := RX0) (T := TX0) (N := 3) (n := 3) hwl inlX0 (hts (.instantiable RX0 3) (List.mem_of_getElem? (i := 149) (by decide +kernel)))
  obtain ⟨c1, iS1, hKn1⟩ := u_known (C := RX1) (T := TX1) (N := 2) (n := 2) hwl inlX1 (hts (.instantiable RX1 2) (List.mem_of_getElem? (i := 207) (by decide +kernel)))
  obtain ⟨c2, iS2, hKn2⟩ := u_known (C := RX2) (T := TX2) (N := 5) (n := 5) hwl inlX2 (hts (.instantiable RX2 5) (List.mem_of_getElem? (i := 123) (by decide +kernel)))
  obtain ⟨c3, iS3, hKn3⟩ := u_known (C := RX3) (T := TX3) (N := 2) (n := 2) hwl inlX3 (hts (.instantiable RX3 2) (List.mem_of_getElem? (i := 193) (by decide +kernel)))
  obtain ⟨c4, iS4, hKn4⟩ := u_known (C := RX4) (T := TX4) (N := 2) (n := 2) hwl inlX4 (hts (.instantiable RX4 2) (List.mem_of_getElem? (i := 75) (by decide +kernel)))
  obtain ⟨c5, iS5, hKn5⟩ := u_known (C := RX5) (T := TX5) (N := 2) (n := 2) hwl inlX5 (hts (.instantiable RX5 2) (List.mem_of_getElem? (i := 165) (by decide +kernel)))
  obtain ⟨c6, iS6, hKn6⟩ := u_known (C := RX6) (T := TX6) (N := 6) (n := 6) hwl inlX6 (hts (.instantiable RX6 6) (List.mem_of_getElem? (i := 92) (by decide +kernel)))
  obtain ⟨c7, iS7, hKn7⟩ := u_known (C := RX8) (T := TX8) (N := 2) (n := 2) hwl inlX8 (hts (.instantiable RX8 2) (List.mem_of_getElem? (i := 179) (by decide +kernel)))
  obtain ⟨c8, iS8, hKn8⟩ := u_known (C := RX9) (T := TX9) (N := 10) (n := 10) hwl inlX9 (hts (.instantiable RX9 10) (List.mem_of_getElem? (i := 67) (by decide +kernel)))
  obtain ⟨c9, iS9, hKn9⟩ := u_known (C := RX10) (T := TX10) (N := 24) (n := 24) hwl inlX10 (hts (.instantiable RX10 24) (List.mem_of_getElem? (i := 773) (by decide +kernel)))
  obtain ⟨dC, dI, hKc⟩ : ∃ (dC : Nat → ClassId) (dI : Nat → Nat → Nat), ∀ (k : Nat) (q : vw_C), vwCl[k]? = some q → u_Kn s q.1 q.2.1 q.2.2 (dC k) (dI k) := by
    refine ⟨fun k => if k = 0 then c0 else if k = 1 then c1 else if k = 2 then c2 else if k = 3 then c3 else if k = 4 then c4 else if k = 5 then c5 else if k = 6 then c6 else if k = 7 then c7 else if k = 8 then c8 else c9, fun k => if k = 0 then iS0 else if k = 1 then iS1 else if k = 2 then iS2 else if k = 3 then iS3 else if k = 4 then iS4 else if k = 5 then iS5 else if k = 6 then iS6 else if k = 7 then iS7 else if k = 8 then iS8 else iS9, ?_⟩
    intro k q hq
    match k, hq with
    | 0, hq => cases hq; exact hKn0
    | 1, hq => cases hq; exact hKn1
    | 2, hq => cases hq; exact hKn2
    | 3, hq => cases hq; exact hKn3
    | 4, hq => cases hq; exact hKn4
    | 5, hq => cases hq; exact hKn5
    | 6, hq => cases hq; exact hKn6
    | 7, hq => cases hq; exact hKn7
    | 8, hq => cases hq; exact hKn8
    | 9, hq => cases hq; exact hKn9
    | k + 10, hq => simp [vwCl] at hq
  obtain ⟨cI, kI, compI, hI1, hI2, hI3⟩ := Cond.arrayClass_spec (hts (.arrayClass .int) (List.mem_of_getElem? (i := 90) (by decide +kernel)))
  obtain ⟨cJ, kJ, compJ, hJ1, hJ2, hJ3⟩ := Cond.arrayClass_spec (hts (.arrayClass .long) (List.mem_of_getElem? (i := 177) (by decide +kernel)))
  have hK : va_K (dC, dI) vwCl (pa_ty cI cJ) s := by
    refine ⟨hKc, fun k q hq => ?_⟩
    match k, hq with
    | 0, hq => cases hq; exact ⟨fun n z => ⟨fun k h => (by cases h), kI, hI2, compI, hI3⟩, hI1⟩
    | 1, hq => cases hq; exact ⟨fun n z => ⟨fun k h => (by cases h), kJ, hJ2, compJ, hJ3⟩, hJ1⟩
    | k + 2, hq => simp [pa_ty] at hq
  obtain ⟨g, hG⟩ := pa_G_start (A := fun q : Nat => s.heap.size ≤ q) hts hgs (fun a ha => Nat.not_le.mpr ha)
  have X : pa_X code 4 ret RL wsL_law (dC, dI) cI cJ g (fun q : Nat => s.heap.size ≤ q) p s m #[Value.ref b] meth c := ⟨hx, hb, hr, hml, hown, hwl, hK, fun _ h => h, hG, hlocks⟩
  have hP : va_P (dC, dI) vwCl [] s.heap := fun k q h => by simp at h
  have hD : va_D (fun q : Nat => s.heap.size ≤ q) [] := ⟨fun i j p q h => by simp at h, fun k q h => by simp at h⟩
  have hl := lv_entry ([.ref b]) (n := 4) (Nat.le_of_ble_eq_true rfl)
  rw [lg_entry_eq]
  generalize (lg_sl ([.ref b]) ++ List.replicate (4 - (lg_sl ([.ref b])).length) Slot.unset).toArray = ls at hl ⊢
  have hl : lv_has ls 4 [(0, .ref b)] := hl
  exact w_L_law_b0 X hX hbl (Nat.not_le.mpr hbl) (fun _ h => h) (hpure g L xs hL (fun i j hi hj e => hG.2.1.2 i j hi hj e)) hP hD va_S.rf hl
