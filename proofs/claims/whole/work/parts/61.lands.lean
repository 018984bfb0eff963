/-! ===== lands: sums over groups ===== -/
def jF (c : Nat → Int) : Nat → Int32 := fun i => jI (c i)
theorem jF_upd (c : Nat → Int) (k : Nat) (z : Int) : upd (jF c) k (jI z) = jF (fun i => if i = k then z else c i) := by
  funext i
  by_cases h : i = k
  · rw [h, pk_us]
    show jI z = jI (if k = k then z else c k)
    rw [if_pos rfl]
  · rw [pk_un h]
    show jI (c i) = jI (if i = k then z else c i)
    rw [if_neg h]
def pN (c : Nat → Int) (b : Nat) : Int := c (b + 0) + c (b + 1) + c (b + 2) + c (b + 3) + c (b + 4) + c (b + 5) + c (b + 6) + c (b + 7)
def pY (c : Nat → Int) (b : Nat) : Int := c (b + 1) + c (b + 3) + c (b + 5) + c (b + 7)
def pL (c : Nat → Int) (b : Nat) : Int := c (b + 4) + c (b + 5) + c (b + 6) + c (b + 7)
def pZ (c : Nat → Int) (b : Nat) : Int := c (b + 5) + c (b + 7)
def pR (c : Nat → Int) (b : Nat) : Int := c (b + 2) + c (b + 3) + c (b + 6) + c (b + 7)
def pQ (c : Nat → Int) (b : Nat) : Int := c (b + 3) + c (b + 7)
def pP (c : Nat → Int) (b : Nat) : Int := c (b + 0) + c (b + 1) + c (b + 4) + c (b + 5)
def bk (c r : Nat → Int) (b g : Nat) : Int := c (b + g) * r g / 100
def bA (c r : Nat → Int) (b : Nat) : Int := bk c r b 4 + bk c r b 5 + bk c r b 6 + bk c r b 7
def bY (c r : Nat → Int) (b : Nat) : Int := bk c r b 5 + bk c r b 7
def LInv (c : Nat → Int) : Prop := (∀ i, 0 ≤ c i) ∧ ∀ l, l < 4 → pN c (8 * l) ≤ 50
def RInv (r : Nat → Int) : Prop := ∀ i, 0 ≤ r i ∧ r i ≤ 100
theorem jI_z : (0 : Int32) = jI 0 := rfl
theorem jI_z2 (a : Int) : jI a + (0 : Int32) = jI a := Int32.add_zero _
theorem jI_z1 (a : Int) : (0 : Int32) + jI a = jI a := Int32.zero_add _
theorem hv_N (c : Nat → Int) {l : Nat} (hl : l < 4) : f_X4_having (nI l) 0 (jF c) = some (jI (pN c (8 * l))) := by
  match l, hl with
  | 0, _ => exact (rfl : _ = some (((((((((0 : Int32) + jI (c 0)) + jI (c 1)) + jI (c 2)) + jI (c 3)) + jI (c 4)) + jI (c 5)) + jI (c 6)) + jI (c 7))).trans (by simp only [jI_z1, jI_z2, jI_add, Int32.add_zero]; rfl)
  | 1, _ => exact (rfl : _ = some (((((((((0 : Int32) + jI (c 8)) + jI (c 9)) + jI (c 10)) + jI (c 11)) + jI (c 12)) + jI (c 13)) + jI (c 14)) + jI (c 15))).trans (by simp only [jI_z1, jI_z2, jI_add, Int32.add_zero]; rfl)
  | 2, _ => exact (rfl : _ = some (((((((((0 : Int32) + jI (c 16)) + jI (c 17)) + jI (c 18)) + jI (c 19)) + jI (c 20)) + jI (c 21)) + jI (c 22)) + jI (c 23))).trans (by simp only [jI_z1, jI_z2, jI_add, Int32.add_zero]; rfl)
  | 3, _ => exact (rfl : _ = some (((((((((0 : Int32) + jI (c 24)) + jI (c 25)) + jI (c 26)) + jI (c 27)) + jI (c 28)) + jI (c 29)) + jI (c 30)) + jI (c 31))).trans (by simp only [jI_z1, jI_z2, jI_add, Int32.add_zero]; rfl)
  | l + 4, h => exact absurd h (by omega)
theorem hv_Y (c : Nat → Int) {l : Nat} (hl : l < 4) : f_X4_having (nI l) 1 (jF c) = some (jI (pY c (8 * l))) := by
  match l, hl with
  | 0, _ => exact (rfl : _ = some (((((0 : Int32) + jI (c 1)) + jI (c 3)) + jI (c 5)) + jI (c 7))).trans (by simp only [jI_z1, jI_z2, jI_add, Int32.add_zero]; rfl)
  | 1, _ => exact (rfl : _ = some (((((0 : Int32) + jI (c 9)) + jI (c 11)) + jI (c 13)) + jI (c 15))).trans (by simp only [jI_z1, jI_z2, jI_add, Int32.add_zero]; rfl)
  | 2, _ => exact (rfl : _ = some (((((0 : Int32) + jI (c 17)) + jI (c 19)) + jI (c 21)) + jI (c 23))).trans (by simp only [jI_z1, jI_z2, jI_add, Int32.add_zero]; rfl)
  | 3, _ => exact (rfl : _ = some (((((0 : Int32) + jI (c 25)) + jI (c 27)) + jI (c 29)) + jI (c 31))).trans (by simp only [jI_z1, jI_z2, jI_add, Int32.add_zero]; rfl)
  | l + 4, h => exact absurd h (by omega)
theorem hv_L (c : Nat → Int) {l : Nat} (hl : l < 4) : f_X4_having (nI l) 4 (jF c) = some (jI (pL c (8 * l))) := by
  match l, hl with
  | 0, _ => exact (rfl : _ = some (((((0 : Int32) + jI (c 4)) + jI (c 5)) + jI (c 6)) + jI (c 7))).trans (by simp only [jI_z1, jI_z2, jI_add, Int32.add_zero]; rfl)
  | 1, _ => exact (rfl : _ = some (((((0 : Int32) + jI (c 12)) + jI (c 13)) + jI (c 14)) + jI (c 15))).trans (by simp only [jI_z1, jI_z2, jI_add, Int32.add_zero]; rfl)
  | 2, _ => exact (rfl : _ = some (((((0 : Int32) + jI (c 20)) + jI (c 21)) + jI (c 22)) + jI (c 23))).trans (by simp only [jI_z1, jI_z2, jI_add, Int32.add_zero]; rfl)
  | 3, _ => exact (rfl : _ = some (((((0 : Int32) + jI (c 28)) + jI (c 29)) + jI (c 30)) + jI (c 31))).trans (by simp only [jI_z1, jI_z2, jI_add, Int32.add_zero]; rfl)
  | l + 4, h => exact absurd h (by omega)
theorem hv_Z (c : Nat → Int) {l : Nat} (hl : l < 4) : f_X4_having (nI l) 5 (jF c) = some (jI (pZ c (8 * l))) := by
  match l, hl with
  | 0, _ => exact (rfl : _ = some (((0 : Int32) + jI (c 5)) + jI (c 7))).trans (by simp only [jI_z1, jI_z2, jI_add, Int32.add_zero]; rfl)
  | 1, _ => exact (rfl : _ = some (((0 : Int32) + jI (c 13)) + jI (c 15))).trans (by simp only [jI_z1, jI_z2, jI_add, Int32.add_zero]; rfl)
  | 2, _ => exact (rfl : _ = some (((0 : Int32) + jI (c 21)) + jI (c 23))).trans (by simp only [jI_z1, jI_z2, jI_add, Int32.add_zero]; rfl)
  | 3, _ => exact (rfl : _ = some (((0 : Int32) + jI (c 29)) + jI (c 31))).trans (by simp only [jI_z1, jI_z2, jI_add, Int32.add_zero]; rfl)
  | l + 4, h => exact absurd h (by omega)
theorem hv_R (c : Nat → Int) {l : Nat} (hl : l < 4) : f_X4_having (nI l) 2 (jF c) = some (jI (pR c (8 * l))) := by
  match l, hl with
  | 0, _ => exact (rfl : _ = some (((((0 : Int32) + jI (c 2)) + jI (c 3)) + jI (c 6)) + jI (c 7))).trans (by simp only [jI_z1, jI_z2, jI_add, Int32.add_zero]; rfl)
  | 1, _ => exact (rfl : _ = some (((((0 : Int32) + jI (c 10)) + jI (c 11)) + jI (c 14)) + jI (c 15))).trans (by simp only [jI_z1, jI_z2, jI_add, Int32.add_zero]; rfl)
  | 2, _ => exact (rfl : _ = some (((((0 : Int32) + jI (c 18)) + jI (c 19)) + jI (c 22)) + jI (c 23))).trans (by simp only [jI_z1, jI_z2, jI_add, Int32.add_zero]; rfl)
  | 3, _ => exact (rfl : _ = some (((((0 : Int32) + jI (c 26)) + jI (c 27)) + jI (c 30)) + jI (c 31))).trans (by simp only [jI_z1, jI_z2, jI_add, Int32.add_zero]; rfl)
  | l + 4, h => exact absurd h (by omega)
theorem hv_Q (c : Nat → Int) {l : Nat} (hl : l < 4) : f_X4_having (nI l) 3 (jF c) = some (jI (pQ c (8 * l))) := by
  match l, hl with
  | 0, _ => exact (rfl : _ = some (((0 : Int32) + jI (c 3)) + jI (c 7))).trans (by simp only [jI_z1, jI_z2, jI_add, Int32.add_zero]; rfl)
  | 1, _ => exact (rfl : _ = some (((0 : Int32) + jI (c 11)) + jI (c 15))).trans (by simp only [jI_z1, jI_z2, jI_add, Int32.add_zero]; rfl)
  | 2, _ => exact (rfl : _ = some (((0 : Int32) + jI (c 19)) + jI (c 23))).trans (by simp only [jI_z1, jI_z2, jI_add, Int32.add_zero]; rfl)
  | 3, _ => exact (rfl : _ = some (((0 : Int32) + jI (c 27)) + jI (c 31))).trans (by simp only [jI_z1, jI_z2, jI_add, Int32.add_zero]; rfl)
  | l + 4, h => exact absurd h (by omega)
theorem mt_P (c : Nat → Int) {l : Nat} (hl : l < 4) : f_X4_matching (nI l) 2 0 (jF c) = some (jI (pP c (8 * l))) := by
  match l, hl with
  | 0, _ => exact (rfl : _ = some (((((0 : Int32) + jI (c 0)) + jI (c 1)) + jI (c 4)) + jI (c 5))).trans (by simp only [jI_z1, jI_z2, jI_add, Int32.add_zero]; rfl)
  | 1, _ => exact (rfl : _ = some (((((0 : Int32) + jI (c 8)) + jI (c 9)) + jI (c 12)) + jI (c 13))).trans (by simp only [jI_z1, jI_z2, jI_add, Int32.add_zero]; rfl)
  | 2, _ => exact (rfl : _ = some (((((0 : Int32) + jI (c 16)) + jI (c 17)) + jI (c 20)) + jI (c 21))).trans (by simp only [jI_z1, jI_z2, jI_add, Int32.add_zero]; rfl)
  | 3, _ => exact (rfl : _ = some (((((0 : Int32) + jI (c 24)) + jI (c 25)) + jI (c 28)) + jI (c 29))).trans (by simp only [jI_z1, jI_z2, jI_add, Int32.add_zero]; rfl)
  | l + 4, h => exact absurd h (by omega)
theorem mt_R (c : Nat → Int) {l : Nat} (hl : l < 4) : f_X4_matching (nI l) 2 2 (jF c) = some (jI (pR c (8 * l))) := by
  match l, hl with
  | 0, _ => exact (rfl : _ = some (((((0 : Int32) + jI (c 2)) + jI (c 3)) + jI (c 6)) + jI (c 7))).trans (by simp only [jI_z1, jI_z2, jI_add, Int32.add_zero]; rfl)
  | 1, _ => exact (rfl : _ = some (((((0 : Int32) + jI (c 10)) + jI (c 11)) + jI (c 14)) + jI (c 15))).trans (by simp only [jI_z1, jI_z2, jI_add, Int32.add_zero]; rfl)
  | 2, _ => exact (rfl : _ = some (((((0 : Int32) + jI (c 18)) + jI (c 19)) + jI (c 22)) + jI (c 23))).trans (by simp only [jI_z1, jI_z2, jI_add, Int32.add_zero]; rfl)
  | 3, _ => exact (rfl : _ = some (((((0 : Int32) + jI (c 26)) + jI (c 27)) + jI (c 30)) + jI (c 31))).trans (by simp only [jI_z1, jI_z2, jI_add, Int32.add_zero]; rfl)
  | l + 4, h => exact absurd h (by omega)
theorem ps_N (c : Nat → Int) {l : Nat} (hl : l < 4) : f_X10_persons (nI l) 255 (jF c) = some (jI (pN c (8 * l))) := by
  match l, hl with
  | 0, _ => exact (rfl : _ = some (((((((((0 : Int32) + jI (c 0)) + jI (c 1)) + jI (c 2)) + jI (c 3)) + jI (c 4)) + jI (c 5)) + jI (c 6)) + jI (c 7))).trans (by simp only [jI_z1, jI_z2, jI_add, Int32.add_zero]; rfl)
  | 1, _ => exact (rfl : _ = some (((((((((0 : Int32) + jI (c 8)) + jI (c 9)) + jI (c 10)) + jI (c 11)) + jI (c 12)) + jI (c 13)) + jI (c 14)) + jI (c 15))).trans (by simp only [jI_z1, jI_z2, jI_add, Int32.add_zero]; rfl)
  | 2, _ => exact (rfl : _ = some (((((((((0 : Int32) + jI (c 16)) + jI (c 17)) + jI (c 18)) + jI (c 19)) + jI (c 20)) + jI (c 21)) + jI (c 22)) + jI (c 23))).trans (by simp only [jI_z1, jI_z2, jI_add, Int32.add_zero]; rfl)
  | 3, _ => exact (rfl : _ = some (((((((((0 : Int32) + jI (c 24)) + jI (c 25)) + jI (c 26)) + jI (c 27)) + jI (c 28)) + jI (c 29)) + jI (c 30)) + jI (c 31))).trans (by simp only [jI_z1, jI_z2, jI_add, Int32.add_zero]; rfl)
  | l + 4, h => exact absurd h (by omega)
theorem ps_Y (c : Nat → Int) {l : Nat} (hl : l < 4) : f_X10_persons (nI l) 170 (jF c) = some (jI (pY c (8 * l))) := by
  match l, hl with
  | 0, _ => exact (rfl : _ = some (((((((((0 : Int32) + 0) + jI (c 1)) + 0) + jI (c 3)) + 0) + jI (c 5)) + 0) + jI (c 7))).trans (by simp only [jI_z1, jI_z2, jI_add, Int32.add_zero]; rfl)
  | 1, _ => exact (rfl : _ = some (((((((((0 : Int32) + 0) + jI (c 9)) + 0) + jI (c 11)) + 0) + jI (c 13)) + 0) + jI (c 15))).trans (by simp only [jI_z1, jI_z2, jI_add, Int32.add_zero]; rfl)
  | 2, _ => exact (rfl : _ = some (((((((((0 : Int32) + 0) + jI (c 17)) + 0) + jI (c 19)) + 0) + jI (c 21)) + 0) + jI (c 23))).trans (by simp only [jI_z1, jI_z2, jI_add, Int32.add_zero]; rfl)
  | 3, _ => exact (rfl : _ = some (((((((((0 : Int32) + 0) + jI (c 25)) + 0) + jI (c 27)) + 0) + jI (c 29)) + 0) + jI (c 31))).trans (by simp only [jI_z1, jI_z2, jI_add, Int32.add_zero]; rfl)
  | l + 4, h => exact absurd h (by omega)
theorem ps_L (c : Nat → Int) {l : Nat} (hl : l < 4) : f_X10_persons (nI l) 240 (jF c) = some (jI (pL c (8 * l))) := by
  match l, hl with
  | 0, _ => exact (rfl : _ = some (((((((((0 : Int32) + 0) + 0) + 0) + 0) + jI (c 4)) + jI (c 5)) + jI (c 6)) + jI (c 7))).trans (by simp only [jI_z1, jI_z2, jI_add, Int32.add_zero]; rfl)
  | 1, _ => exact (rfl : _ = some (((((((((0 : Int32) + 0) + 0) + 0) + 0) + jI (c 12)) + jI (c 13)) + jI (c 14)) + jI (c 15))).trans (by simp only [jI_z1, jI_z2, jI_add, Int32.add_zero]; rfl)
  | 2, _ => exact (rfl : _ = some (((((((((0 : Int32) + 0) + 0) + 0) + 0) + jI (c 20)) + jI (c 21)) + jI (c 22)) + jI (c 23))).trans (by simp only [jI_z1, jI_z2, jI_add, Int32.add_zero]; rfl)
  | 3, _ => exact (rfl : _ = some (((((((((0 : Int32) + 0) + 0) + 0) + 0) + jI (c 28)) + jI (c 29)) + jI (c 30)) + jI (c 31))).trans (by simp only [jI_z1, jI_z2, jI_add, Int32.add_zero]; rfl)
  | l + 4, h => exact absurd h (by omega)
theorem ps_Z (c : Nat → Int) {l : Nat} (hl : l < 4) : f_X10_persons (nI l) 160 (jF c) = some (jI (pZ c (8 * l))) := by
  match l, hl with
  | 0, _ => exact (rfl : _ = some (((((((((0 : Int32) + 0) + 0) + 0) + 0) + 0) + jI (c 5)) + 0) + jI (c 7))).trans (by simp only [jI_z1, jI_z2, jI_add, Int32.add_zero]; rfl)
  | 1, _ => exact (rfl : _ = some (((((((((0 : Int32) + 0) + 0) + 0) + 0) + 0) + jI (c 13)) + 0) + jI (c 15))).trans (by simp only [jI_z1, jI_z2, jI_add, Int32.add_zero]; rfl)
  | 2, _ => exact (rfl : _ = some (((((((((0 : Int32) + 0) + 0) + 0) + 0) + 0) + jI (c 21)) + 0) + jI (c 23))).trans (by simp only [jI_z1, jI_z2, jI_add, Int32.add_zero]; rfl)
  | 3, _ => exact (rfl : _ = some (((((((((0 : Int32) + 0) + 0) + 0) + 0) + 0) + jI (c 29)) + 0) + jI (c 31))).trans (by simp only [jI_z1, jI_z2, jI_add, Int32.add_zero]; rfl)
  | l + 4, h => exact absurd h (by omega)
theorem ps_R (c : Nat → Int) {l : Nat} (hl : l < 4) : f_X10_persons (nI l) 204 (jF c) = some (jI (pR c (8 * l))) := by
  match l, hl with
  | 0, _ => exact (rfl : _ = some (((((((((0 : Int32) + 0) + 0) + jI (c 2)) + jI (c 3)) + 0) + 0) + jI (c 6)) + jI (c 7))).trans (by simp only [jI_z1, jI_z2, jI_add, Int32.add_zero]; rfl)
  | 1, _ => exact (rfl : _ = some (((((((((0 : Int32) + 0) + 0) + jI (c 10)) + jI (c 11)) + 0) + 0) + jI (c 14)) + jI (c 15))).trans (by simp only [jI_z1, jI_z2, jI_add, Int32.add_zero]; rfl)
  | 2, _ => exact (rfl : _ = some (((((((((0 : Int32) + 0) + 0) + jI (c 18)) + jI (c 19)) + 0) + 0) + jI (c 22)) + jI (c 23))).trans (by simp only [jI_z1, jI_z2, jI_add, Int32.add_zero]; rfl)
  | 3, _ => exact (rfl : _ = some (((((((((0 : Int32) + 0) + 0) + jI (c 26)) + jI (c 27)) + 0) + 0) + jI (c 30)) + jI (c 31))).trans (by simp only [jI_z1, jI_z2, jI_add, Int32.add_zero]; rfl)
  | l + 4, h => exact absurd h (by omega)
theorem ps_Q (c : Nat → Int) {l : Nat} (hl : l < 4) : f_X10_persons (nI l) 136 (jF c) = some (jI (pQ c (8 * l))) := by
  match l, hl with
  | 0, _ => exact (rfl : _ = some (((((((((0 : Int32) + 0) + 0) + 0) + jI (c 3)) + 0) + 0) + 0) + jI (c 7))).trans (by simp only [jI_z1, jI_z2, jI_add, Int32.add_zero]; rfl)
  | 1, _ => exact (rfl : _ = some (((((((((0 : Int32) + 0) + 0) + 0) + jI (c 11)) + 0) + 0) + 0) + jI (c 15))).trans (by simp only [jI_z1, jI_z2, jI_add, Int32.add_zero]; rfl)
  | 2, _ => exact (rfl : _ = some (((((((((0 : Int32) + 0) + 0) + 0) + jI (c 19)) + 0) + 0) + 0) + jI (c 23))).trans (by simp only [jI_z1, jI_z2, jI_add, Int32.add_zero]; rfl)
  | 3, _ => exact (rfl : _ = some (((((((((0 : Int32) + 0) + 0) + 0) + jI (c 27)) + 0) + 0) + 0) + jI (c 31))).trans (by simp only [jI_z1, jI_z2, jI_add, Int32.add_zero]; rfl)
  | l + 4, h => exact absurd h (by omega)
theorem bk_ok {c r : Nat → Int} (hr : RInv r) {b g : Nat} (h0 : 0 ≤ c (b + g)) (h5 : c (b + g) ≤ 50) : jI (c (b + g)) * jI (r g) / (100 : Int32) = jI (bk c r b g) ∧ 0 ≤ bk c r b g ∧ bk c r b g ≤ c (b + g) := by
  have h1 := hr g
  have h2 : 0 ≤ c (b + g) * r g := Int.mul_nonneg h0 h1.1
  have h3 : c (b + g) * r g ≤ c (b + g) * 100 := Int.mul_le_mul_of_nonneg_left h1.2 h0
  refine ⟨?_, ?_, ?_⟩
  · rw [jI_mul, show (100 : Int32) = jI 100 from rfl, jI_div (by omega) (by omega)]
    rfl
  · unfold bk
    omega
  · unfold bk
    omega
theorem LInv.le {c : Nat → Int} (h : LInv c) {l g : Nat} (hl : l < 4) (hg : g < 8) : c (8 * l + g) ≤ 50 := by
  have h1 := h.2 l hl
  have h0 := h.1
  unfold pN at h1
  have q0 := h0 (8 * l + 0)
  have q1 := h0 (8 * l + 1)
  have q2 := h0 (8 * l + 2)
  have q3 := h0 (8 * l + 3)
  have q4 := h0 (8 * l + 4)
  have q5 := h0 (8 * l + 5)
  have q6 := h0 (8 * l + 6)
  have q7 := h0 (8 * l + 7)
  match g, hg with
  | 0, _ => omega
  | 1, _ => omega
  | 2, _ => omega
  | 3, _ => omega
  | 4, _ => omega
  | 5, _ => omega
  | 6, _ => omega
  | 7, _ => omega
  | g + 8, h => exact absurd h (by omega)
theorem bc_A_x (v w : Nat → Int32) {l : Nat} (hl : l < 4) : f_X4_back (nI l) 0 v w = some (((((0 : Int32) + v (8 * l + 4) * w 4 / (100 : Int32)) + v (8 * l + 5) * w 5 / (100 : Int32)) + v (8 * l + 6) * w 6 / (100 : Int32)) + v (8 * l + 7) * w 7 / (100 : Int32)) := by
  match l, hl with
  | 0, _ => exact rfl
  | 1, _ => exact rfl
  | 2, _ => exact rfl
  | 3, _ => exact rfl
  | l + 4, h => exact absurd h (by omega)
theorem bc_A {c r : Nat → Int} (hc : LInv c) (hr : RInv r) {l : Nat} (hl : l < 4) : f_X4_back (nI l) 0 (jF c) (jF r) = some (jI (bA c r (8 * l))) := by
  rw [bc_A_x (jF c) (jF r) hl]
  unfold jF
  rw [(bk_ok hr (hc.1 (8 * l + 4)) (hc.le hl (by omega))).1, (bk_ok hr (hc.1 (8 * l + 5)) (hc.le hl (by omega))).1, (bk_ok hr (hc.1 (8 * l + 6)) (hc.le hl (by omega))).1, (bk_ok hr (hc.1 (8 * l + 7)) (hc.le hl (by omega))).1]
  simp only [jI_z1, jI_z2, jI_add, Int32.add_zero, Int32.zero_add]
  rfl
theorem bc_Y_x (v w : Nat → Int32) {l : Nat} (hl : l < 4) : f_X4_back (nI l) 1 v w = some (((0 : Int32) + v (8 * l + 5) * w 5 / (100 : Int32)) + v (8 * l + 7) * w 7 / (100 : Int32)) := by
  match l, hl with
  | 0, _ => exact rfl
  | 1, _ => exact rfl
  | 2, _ => exact rfl
  | 3, _ => exact rfl
  | l + 4, h => exact absurd h (by omega)
theorem bc_Y {c r : Nat → Int} (hc : LInv c) (hr : RInv r) {l : Nat} (hl : l < 4) : f_X4_back (nI l) 1 (jF c) (jF r) = some (jI (bY c r (8 * l))) := by
  rw [bc_Y_x (jF c) (jF r) hl]
  unfold jF
  rw [(bk_ok hr (hc.1 (8 * l + 5)) (hc.le hl (by omega))).1, (bk_ok hr (hc.1 (8 * l + 7)) (hc.le hl (by omega))).1]
  simp only [jI_z1, jI_z2, jI_add, Int32.add_zero, Int32.zero_add]
  rfl
theorem bm_A_x (v w : Nat → Int32) {l : Nat} (hl : l < 4) : f_X10_back (nI l) 255 v w = some (((((0 : Int32) + v (8 * l + 4) * w 4 / (100 : Int32)) + v (8 * l + 5) * w 5 / (100 : Int32)) + v (8 * l + 6) * w 6 / (100 : Int32)) + v (8 * l + 7) * w 7 / (100 : Int32)) := by
  match l, hl with
  | 0, _ => exact rfl
  | 1, _ => exact rfl
  | 2, _ => exact rfl
  | 3, _ => exact rfl
  | l + 4, h => exact absurd h (by omega)
theorem bm_A {c r : Nat → Int} (hc : LInv c) (hr : RInv r) {l : Nat} (hl : l < 4) : f_X10_back (nI l) 255 (jF c) (jF r) = some (jI (bA c r (8 * l))) := by
  rw [bm_A_x (jF c) (jF r) hl]
  unfold jF
  rw [(bk_ok hr (hc.1 (8 * l + 4)) (hc.le hl (by omega))).1, (bk_ok hr (hc.1 (8 * l + 5)) (hc.le hl (by omega))).1, (bk_ok hr (hc.1 (8 * l + 6)) (hc.le hl (by omega))).1, (bk_ok hr (hc.1 (8 * l + 7)) (hc.le hl (by omega))).1]
  simp only [jI_z1, jI_z2, jI_add, Int32.add_zero, Int32.zero_add]
  rfl
theorem bm_Y_x (v w : Nat → Int32) {l : Nat} (hl : l < 4) : f_X10_back (nI l) 170 v w = some (((((0 : Int32) + 0) + v (8 * l + 5) * w 5 / (100 : Int32)) + 0) + v (8 * l + 7) * w 7 / (100 : Int32)) := by
  match l, hl with
  | 0, _ => exact rfl
  | 1, _ => exact rfl
  | 2, _ => exact rfl
  | 3, _ => exact rfl
  | l + 4, h => exact absurd h (by omega)
theorem bm_Y {c r : Nat → Int} (hc : LInv c) (hr : RInv r) {l : Nat} (hl : l < 4) : f_X10_back (nI l) 170 (jF c) (jF r) = some (jI (bY c r (8 * l))) := by
  rw [bm_Y_x (jF c) (jF r) hl]
  unfold jF
  rw [(bk_ok hr (hc.1 (8 * l + 5)) (hc.le hl (by omega))).1, (bk_ok hr (hc.1 (8 * l + 7)) (hc.le hl (by omega))).1]
  simp only [jI_z1, jI_z2, jI_add, Int32.add_zero, Int32.zero_add]
  rfl
/-- how the sums lie -/
theorem LInv.all {c : Nat → Int} (h : LInv c) {l : Nat} (hl : l < 4) : 0 ≤ pN c (8 * l) ∧ pN c (8 * l) ≤ 50 ∧ 0 ≤ pY c (8 * l) ∧ pY c (8 * l) ≤ pN c (8 * l) ∧ 0 ≤ pL c (8 * l) ∧ pL c (8 * l) ≤ pN c (8 * l) ∧ 0 ≤ pR c (8 * l) ∧ 0 ≤ pP c (8 * l) ∧ pR c (8 * l) + pP c (8 * l) = pN c (8 * l) ∧ 0 ≤ pQ c (8 * l) ∧ 0 ≤ pZ c (8 * l) := by
  have h1 := h.2 l hl
  have h0 := h.1
  have q0 := h0 (8 * l + 0)
  have q1 := h0 (8 * l + 1)
  have q2 := h0 (8 * l + 2)
  have q3 := h0 (8 * l + 3)
  have q4 := h0 (8 * l + 4)
  have q5 := h0 (8 * l + 5)
  have q6 := h0 (8 * l + 6)
  have q7 := h0 (8 * l + 7)
  unfold pN at h1
  unfold pN pY pL pR pP pQ pZ
  omega
theorem bk_all {c r : Nat → Int} (hc : LInv c) (hr : RInv r) {l : Nat} (hl : l < 4) : 0 ≤ bY c r (8 * l) ∧ bY c r (8 * l) ≤ bA c r (8 * l) ∧ bA c r (8 * l) ≤ pN c (8 * l) := by
  have h0 := hc.1
  have q0 := h0 (8 * l + 0)
  have q1 := h0 (8 * l + 1)
  have q2 := h0 (8 * l + 2)
  have q3 := h0 (8 * l + 3)
  have q4 := (bk_ok hr (h0 (8 * l + 4)) (hc.le hl (by omega))).2
  have q5 := (bk_ok hr (h0 (8 * l + 5)) (hc.le hl (by omega))).2
  have q6 := (bk_ok hr (h0 (8 * l + 6)) (hc.le hl (by omega))).2
  have q7 := (bk_ok hr (h0 (8 * l + 7)) (hc.le hl (by omega))).2
  unfold bY bA pN
  omega
theorem wi_nat {x : Int32} {n : Nat} (hn : n < 2147483648) (h1 : ¬ x < 0) (h2 : ¬ nI n < x) : ∃ k, k ≤ n ∧ x = nI k := by
  have h3 := Int32.not_lt.mp h2
  exact nI_of2 (nI_toInt (by omega)) h1 h3
theorem il_cases (x : Int32) : (f_X9_isLand x = some 1 ∧ f_X10_isLand x = some 1 ∧ ∃ l, l < 4 ∧ x = nI l) ∨ (f_X9_isLand x = some 0 ∧ f_X10_isLand x = some 0) := by
  rcases wi_cases x 0 3 with ⟨h, h1, h2⟩ | h
  · left
    refine ⟨by rw [f_X9_isLand, h]; rfl, by rw [f_X10_isLand, in_wi, h]; rfl, ?_⟩
    obtain ⟨k, hk, e⟩ := wi_nat (n := 3) (by decide) h1 h2
    exact ⟨k, by omega, e⟩
  · right
    exact ⟨by rw [f_X9_isLand, h]; rfl, by rw [f_X10_isLand, in_wi, h]; rfl⟩
theorem ig_cases (x : Int32) : (f_X9_isGroup x = some 1 ∧ f_X9_within x 0 7 = some 1 ∧ ∃ l, l < 8 ∧ x = nI l) ∨ (f_X9_isGroup x = some 0 ∧ f_X9_within x 0 7 = some 0) := by
  rcases wi_cases x 0 7 with ⟨h, h1, h2⟩ | h
  · left
    refine ⟨by rw [f_X9_isGroup, h]; rfl, h, ?_⟩
    obtain ⟨k, hk, e⟩ := wi_nat (n := 7) (by decide) h1 h2
    exact ⟨k, by omega, e⟩
  · right
    exact ⟨by rw [f_X9_isGroup, h]; rfl, h⟩
theorem ix_l {l g : Nat} (hl : l < 4) (hg : g < 8) : nI l * (8 : Int32) + nI g = nI (8 * l + g) ∧ (8 : Int32) * nI l + nI g = nI (8 * l + g) := by
  have e : (8 : Int32) = nI 8 := rfl
  rw [e, pk_mul, pk_mul, nI_add, nI_add]
  constructor
  · rw [Nat.mul_comm]
  · rfl
theorem ib_n {n N : Nat} (h : n < N) (hN : N < 2147483648) : pa_ib (nI n) N = true := by
  rw [jI_n]
  exact jI_ib (by omega) (by omega) hN
theorem cl_n {n : Nat} (h : n < 2147483648) : Int32.toNatClampNeg (nI n) = n := nI_clamp (by omega)
theorem b1 {α β : Type} (a : α) (k : α → Option β) : (some a).bind k = k a := rfl
theorem pN_upd {c : Nat → Int} {l g : Nat} (hl : l < 4) (hg : g < 8) (z : Int) {l' : Nat} (hl' : l' < 4) : pN (fun i => if i = 8 * l + g then z else c i) (8 * l') = if l' = l then pN c (8 * l) - c (8 * l + g) + z else pN c (8 * l') := by
  by_cases e : l' = l
  · subst e
    rw [if_pos rfl]
    unfold pN
    match g, hg with
    | 0, _ => first | (simp; done) | (simp; omega)
    | 1, _ => first | (simp; done) | (simp; omega)
    | 2, _ => first | (simp; done) | (simp; omega)
    | 3, _ => first | (simp; done) | (simp; omega)
    | 4, _ => first | (simp; done) | (simp; omega)
    | 5, _ => first | (simp; done) | (simp; omega)
    | 6, _ => first | (simp; done) | (simp; omega)
    | 7, _ => first | (simp; done) | (simp; omega)
    | g + 8, h => exact absurd h (by omega)
  · rw [if_neg e]
    unfold pN
    have hk : ∀ k, k < 8 → ¬ 8 * l' + k = 8 * l + g := fun k hk => by omega
    simp only [hk 0 (by omega), hk 1 (by omega), hk 2 (by omega), hk 3 (by omega), hk 4 (by omega), hk 5 (by omega), hk 6 (by omega), hk 7 (by omega), if_false]
/-- promise 2 -/
theorem st_land {c : Nat → Int} (hc : LInv c) (x1 x2 x3 : Int32) : ∃ (r : Int32) (c' : Nat → Int), LInv c' ∧ f_X9_land x1 x2 x3 (jF c) = some (r, jF c') ∧ f_X10_land x1 x2 x3 (jF c) = some (r, 0, jF c') := by
  rcases il_cases x1 with ⟨h1, h1', l, hl, rfl⟩ | ⟨h1, h1'⟩
  · rcases ig_cases x2 with ⟨h2, h2', g, hg, rfl⟩ | ⟨h2, h2'⟩
    · rcases wi_cases x3 0 50 with ⟨h3, h4, h5⟩ | h3
      · obtain ⟨v, hv, rfl⟩ := wi_nat (n := 50) (by decide) h4 h5
        have e := ix_l hl hg
        have hb : pa_ib (nI (8 * l + g)) 32 = true := ib_n (by omega) (by decide)
        have hcl : Int32.toNatClampNeg (nI (8 * l + g)) = 8 * l + g := cl_n (by omega)
        have hge := hc.1 (8 * l + g)
        have hle := hc.le hl hg
        have ha := hc.all hl
        have e3 : jI (pN c (8 * l)) - jF c (8 * l + g) + nI v = jI (pN c (8 * l) - c (8 * l + g) + v) := by
          rw [jI_n, jF, jI_sub, jI_add]
        have hdec : (jI (pN c (8 * l)) - jF c (8 * l + g) + nI v ≤ (50 : Int32)) ↔ pN c (8 * l) - c (8 * l + g) + v ≤ 50 := by
          rw [e3, show (50 : Int32) = jI 50 from rfl, jI_le (by omega) (by omega)]
        by_cases hd : pN c (8 * l) - c (8 * l + g) + v ≤ 50
        · refine ⟨jF c (8 * l + g), fun i => if i = 8 * l + g then (v : Int) else c i, ⟨?_, ?_⟩, ?_, ?_⟩
          · intro i
            show 0 ≤ (if i = 8 * l + g then (v : Int) else c i)
            split
            · omega
            · exact hc.1 i
          · intro l' hl'
            rw [pN_upd hl hg _ hl']
            split
            · exact hd
            · exact hc.2 l' hl'
          · rw [f_X9_land, h1, b1, if_neg (by decide), h2, b1, if_neg (by decide), h3, b1, if_neg (by decide), f_X4_settle, f_X4_of, e.1, if_pos hb, b1, hcl, hv_N c hl, b1, if_pos (hdec.mpr hd), if_pos hb, b1, jI_n v, jF_upd]
          · rw [f_X10_land, h1', b1, if_neg (by decide), in_wi, h2', b1, if_neg (by decide), h3, b1, if_neg (by decide), e.2, if_pos hb, ps_N c hl, b1, hcl, if_pos (hdec.mpr hd), jI_n v, jF_upd]
        · refine ⟨-3, c, hc, ?_, ?_⟩
          · rw [f_X9_land, h1, b1, if_neg (by decide), h2, b1, if_neg (by decide), h3, b1, if_neg (by decide), f_X4_settle, f_X4_of, e.1, if_pos hb, b1, hcl, hv_N c hl, b1, if_neg (fun q => hd (hdec.mp q)), b1]
          · rw [f_X10_land, h1', b1, if_neg (by decide), in_wi, h2', b1, if_neg (by decide), h3, b1, if_neg (by decide), e.2, if_pos hb, ps_N c hl, b1, hcl, if_neg (fun q => hd (hdec.mp q))]
      · exact ⟨-1, c, hc, by rw [f_X9_land, h1, b1, if_neg (by decide), h2, b1, if_neg (by decide), h3, b1, if_pos rfl], by rw [f_X10_land, h1', b1, if_neg (by decide), in_wi, h2', b1, if_neg (by decide), h3, b1, if_pos rfl]⟩
    · exact ⟨-1, c, hc, by rw [f_X9_land, h1, b1, if_neg (by decide), h2, b1, if_pos rfl], by rw [f_X10_land, h1', b1, if_neg (by decide), in_wi, h2', b1, if_pos rfl]⟩
  · exact ⟨-1, c, hc, by rw [f_X9_land, h1, b1, if_pos rfl], by rw [f_X10_land, h1', b1, if_pos rfl]⟩
/-- promise 3 -/
theorem st_rate {r : Nat → Int} (hr : RInv r) (x1 x2 : Int32) : ∃ (a : Int32) (r' : Nat → Int), RInv r' ∧ f_X9_rate x1 x2 (jF r) = some (a, jF r') ∧ f_X10_rate x1 x2 (jF r) = some (a, 0, jF r') := by
  rcases ig_cases x1 with ⟨h2, h2', g, hg, rfl⟩ | ⟨h2, h2'⟩
  · rcases wi_cases x2 0 100 with ⟨h3, h4, h5⟩ | h3
    · obtain ⟨v, hv, rfl⟩ := wi_nat (n := 100) (by decide) h4 h5
      have hb : pa_ib (nI g) 8 = true := ib_n hg (by decide)
      have hcl : Int32.toNatClampNeg (nI g) = g := cl_n (by omega)
      refine ⟨jF r g, fun i => if i = g then (v : Int) else r i, ?_, ?_, ?_⟩
      · intro i
        show 0 ≤ (if i = g then (v : Int) else r i) ∧ (if i = g then (v : Int) else r i) ≤ 100
        split
        · omega
        · exact hr i
      · rw [f_X9_rate, h2, b1, if_neg (by decide), h3, b1, if_neg (by decide), f_X4_changeRate, if_pos hb, b1, hcl, jI_n v, jF_upd]
      · rw [f_X10_rate, in_wi, h2', b1, if_neg (by decide), h3, b1, if_neg (by decide), if_pos hb, hcl, jI_n v, jF_upd]
    · exact ⟨-1, r, hr, by rw [f_X9_rate, h2, b1, if_neg (by decide), h3, b1, if_pos rfl], by rw [f_X10_rate, in_wi, h2', b1, if_neg (by decide), h3, b1, if_pos rfl]⟩
  · exact ⟨-1, r, hr, by rw [f_X9_rate, h2, b1, if_pos rfl], by rw [f_X10_rate, in_wi, h2', b1, if_pos rfl]⟩
/-- promise 4 -/
theorem st_people (c : Nat → Int) (x1 x2 : Int32) : ∃ a : Int32, f_X9_people x1 x2 (jF c) = some a ∧ f_X10_people x1 x2 (jF c) = some (a, 0) := by
  rcases il_cases x1 with ⟨h1, h1', l, hl, rfl⟩ | ⟨h1, h1'⟩
  · rcases wi_cases x2 0 5 with ⟨h3, h4, h5⟩ | h3
    · obtain ⟨v, hv, rfl⟩ := wi_nat (n := 5) (by decide) h4 h5
      have h3' : f_X9_within (nI v) 0 ((6 : Int32) - 1) = some 1 := h3
      have hb : pa_ib (nI v) 6 = true := ib_n (by omega) (by decide)
      rw [f_X9_people, h1, b1, if_neg (by decide), h3', b1, if_neg (by decide), if_pos hb, f_X10_people, h1', b1, if_neg (by decide), in_wi, h3, b1, if_neg (by decide)]
      match v, hv with
      | 0, _ => exact ⟨jI (pN c (8 * l)), (congrArg (fun q => Option.bind q _) (hv_N c hl)), (congrArg (fun q => Option.bind q _) (ps_N c hl))⟩
      | 1, _ => exact ⟨jI (pY c (8 * l)), (congrArg (fun q => Option.bind q _) (hv_Y c hl)), (congrArg (fun q => Option.bind q _) (ps_Y c hl))⟩
      | 2, _ => exact ⟨jI (pL c (8 * l)), (congrArg (fun q => Option.bind q _) (hv_L c hl)), (congrArg (fun q => Option.bind q _) (ps_L c hl))⟩
      | 3, _ => exact ⟨jI (pZ c (8 * l)), (congrArg (fun q => Option.bind q _) (hv_Z c hl)), (congrArg (fun q => Option.bind q _) (ps_Z c hl))⟩
      | 4, _ => exact ⟨jI (pR c (8 * l)), (congrArg (fun q => Option.bind q _) (hv_R c hl)), (congrArg (fun q => Option.bind q _) (ps_R c hl))⟩
      | 5, _ => exact ⟨jI (pQ c (8 * l)), (congrArg (fun q => Option.bind q _) (hv_Q c hl)), (congrArg (fun q => Option.bind q _) (ps_Q c hl))⟩
      | v + 6, h => exact absurd h (by omega)
    · have h3' : f_X9_within x2 0 ((6 : Int32) - 1) = some 0 := h3
      exact ⟨-1, by rw [f_X9_people, h1, b1, if_neg (by decide), h3', b1, if_pos rfl], by rw [f_X10_people, h1', b1, if_neg (by decide), in_wi, h3, b1, if_pos rfl]⟩
  · exact ⟨-1, by rw [f_X9_people, h1, b1, if_pos rfl], by rw [f_X10_people, h1', b1, if_pos rfl]⟩
