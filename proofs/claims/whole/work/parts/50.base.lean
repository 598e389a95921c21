/-! ===== the book as numbers: b k j; class and reference hold it ===== -/
abbrev SN : Type := Nat → Nat → Nat
def bw_cx (k : Nat) : Nat := match k with
  | 1 => 1
  | 2 => 8
  | 3 => 9
  | 4 => 10
  | 5 => 11
  | 6 => 3
  | 7 => 4
  | 8 => 5
  | 9 => 6
  | 10 => 12
  | _ => 13
def bw_ln (n k : Nat) : Nat := match k with
  | 1 => 6
  | 2 => n
  | 3 => n
  | 4 => n
  | 5 => 4 * n
  | _ => 8
def bw_lo (k : Nat) : Nat := match k with
  | 1 => 1
  | 10 => 1
  | 11 => 1
  | _ => 0
def bw_hi (k : Nat) : Nat := match k with
  | 1 => 400
  | 2 => 7
  | 3 => 5
  | 4 => 1
  | 5 => 9999
  | 6 => 9999
  | 7 => 9999
  | 8 => 999
  | 9 => 15
  | 10 => 999999
  | _ => 999
/-- numbers in their bounds -/
def bw_ok (b : SN) : Prop := (b 0 0 ≤ 99999 ∧ b 0 1 ≤ 100 ∧ b 0 2 ≤ 24) ∧ ∀ k j : Nat, 1 ≤ k → k ≤ 11 → j < bw_ln (b 0 2) k → bw_lo k ≤ b k j ∧ b k j ≤ bw_hi k
/-- the class's world at cell o holds the book -/
def bw_X (o : Nat) (S : SX) (b : SN) : Prop := (S o 0 = nI (b 0 0) ∧ S o 1 = nI (b 0 1) ∧ S (o + 7) 0 = nI (b 0 2)) ∧ ∀ k j : Nat, 1 ≤ k → k ≤ 11 → j < bw_ln (b 0 2) k → S (o + bw_cx k) j = nI (b k j)
/-- the reference holds the book -/
def bw_M (M : SX) (b : SN) : Prop := (M 0 0 = nI (b 0 0) ∧ M 0 1 = nI (b 0 1) ∧ M 0 2 = nI (b 0 2)) ∧ ∀ k j : Nat, 1 ≤ k → k ≤ 11 → j < bw_ln (b 0 2) k → M k j = nI (b k j)
section BWACC
variable {S M : SX} {b : SN}
theorem bo_n (h : bw_ok b) : b 0 2 ≤ 24 := h.1.2.2
theorem bo_rich (h : bw_ok b) : b 0 0 ≤ 99999 := h.1.1
theorem bo_more (h : bw_ok b) : b 0 1 ≤ 100 := h.1.2.1
theorem bo_lives (h : bw_ok b) {j : Nat} (hj : j < 6) : 1 ≤ b 1 j ∧ b 1 j ≤ 400 := h.2 1 j (by decide) (by decide) hj
theorem bo_year (h : bw_ok b) {j : Nat} (hj : j < b 0 2) : b 2 j ≤ 7 := (h.2 2 j (by decide) (by decide) hj).2
theorem bo_age (h : bw_ok b) {j : Nat} (hj : j < b 0 2) : b 3 j ≤ 5 := (h.2 3 j (by decide) (by decide) hj).2
theorem bo_sex (h : bw_ok b) {j : Nat} (hj : j < b 0 2) : b 4 j ≤ 1 := (h.2 4 j (by decide) (by decide) hj).2
theorem bo_had (h : bw_ok b) {j : Nat} (hj : j < 4 * b 0 2) : b 5 j ≤ 9999 := (h.2 5 j (by decide) (by decide) hj).2
theorem bo_floor (h : bw_ok b) {j : Nat} (hj : j < 8) : b 6 j ≤ 9999 := (h.2 6 j (by decide) (by decide) hj).2
theorem bo_line (h : bw_ok b) {j : Nat} (hj : j < 8) : b 7 j ≤ 9999 := (h.2 7 j (by decide) (by decide) hj).2
theorem bo_keen (h : bw_ok b) {j : Nat} (hj : j < 8) : b 8 j ≤ 999 := (h.2 8 j (by decide) (by decide) hj).2
theorem bo_marks (h : bw_ok b) {j : Nat} (hj : j < 8) : b 9 j ≤ 15 := (h.2 9 j (by decide) (by decide) hj).2
theorem bo_people (h : bw_ok b) {j : Nat} (hj : j < 8) : 1 ≤ b 10 j ∧ b 10 j ≤ 999999 := h.2 10 j (by decide) (by decide) hj
theorem bo_prices (h : bw_ok b) {j : Nat} (hj : j < 8) : 1 ≤ b 11 j ∧ b 11 j ≤ 999 := h.2 11 j (by decide) (by decide) hj
theorem bx_rich (h : bw_X 1 S b) : S 1 0 = nI (b 0 0) := h.1.1
theorem bx_more (h : bw_X 1 S b) : S 1 1 = nI (b 0 1) := h.1.2.1
theorem bx_n (h : bw_X 1 S b) : S 8 0 = nI (b 0 2) := h.1.2.2
theorem bx_lives (h : bw_X 1 S b) {j : Nat} (hj : j < 6) : S 2 j = nI (b 1 j) := h.2 1 j (by decide) (by decide) hj
theorem bx_year (h : bw_X 1 S b) {j : Nat} (hj : j < b 0 2) : S 9 j = nI (b 2 j) := h.2 2 j (by decide) (by decide) hj
theorem bx_age (h : bw_X 1 S b) {j : Nat} (hj : j < b 0 2) : S 10 j = nI (b 3 j) := h.2 3 j (by decide) (by decide) hj
theorem bx_sex (h : bw_X 1 S b) {j : Nat} (hj : j < b 0 2) : S 11 j = nI (b 4 j) := h.2 4 j (by decide) (by decide) hj
theorem bx_had (h : bw_X 1 S b) {j : Nat} (hj : j < 4 * b 0 2) : S 12 j = nI (b 5 j) := h.2 5 j (by decide) (by decide) hj
theorem bx_floor (h : bw_X 1 S b) {j : Nat} (hj : j < 8) : S 4 j = nI (b 6 j) := h.2 6 j (by decide) (by decide) hj
theorem bx_line (h : bw_X 1 S b) {j : Nat} (hj : j < 8) : S 5 j = nI (b 7 j) := h.2 7 j (by decide) (by decide) hj
theorem bx_keen (h : bw_X 1 S b) {j : Nat} (hj : j < 8) : S 6 j = nI (b 8 j) := h.2 8 j (by decide) (by decide) hj
theorem bx_marks (h : bw_X 1 S b) {j : Nat} (hj : j < 8) : S 7 j = nI (b 9 j) := h.2 9 j (by decide) (by decide) hj
theorem bx_people (h : bw_X 1 S b) {j : Nat} (hj : j < 8) : S 13 j = nI (b 10 j) := h.2 10 j (by decide) (by decide) hj
theorem bx_prices (h : bw_X 1 S b) {j : Nat} (hj : j < 8) : S 14 j = nI (b 11 j) := h.2 11 j (by decide) (by decide) hj
theorem bm_rich (h : bw_M M b) : M 0 0 = nI (b 0 0) := h.1.1
theorem bm_more (h : bw_M M b) : M 0 1 = nI (b 0 1) := h.1.2.1
theorem bm_n (h : bw_M M b) : M 0 2 = nI (b 0 2) := h.1.2.2
theorem bm_lives (h : bw_M M b) {j : Nat} (hj : j < 6) : M 1 j = nI (b 1 j) := h.2 1 j (by decide) (by decide) hj
theorem bm_year (h : bw_M M b) {j : Nat} (hj : j < b 0 2) : M 2 j = nI (b 2 j) := h.2 2 j (by decide) (by decide) hj
theorem bm_age (h : bw_M M b) {j : Nat} (hj : j < b 0 2) : M 3 j = nI (b 3 j) := h.2 3 j (by decide) (by decide) hj
theorem bm_sex (h : bw_M M b) {j : Nat} (hj : j < b 0 2) : M 4 j = nI (b 4 j) := h.2 4 j (by decide) (by decide) hj
theorem bm_had (h : bw_M M b) {j : Nat} (hj : j < 4 * b 0 2) : M 5 j = nI (b 5 j) := h.2 5 j (by decide) (by decide) hj
theorem bm_floor (h : bw_M M b) {j : Nat} (hj : j < 8) : M 6 j = nI (b 6 j) := h.2 6 j (by decide) (by decide) hj
theorem bm_line (h : bw_M M b) {j : Nat} (hj : j < 8) : M 7 j = nI (b 7 j) := h.2 7 j (by decide) (by decide) hj
theorem bm_keen (h : bw_M M b) {j : Nat} (hj : j < 8) : M 8 j = nI (b 8 j) := h.2 8 j (by decide) (by decide) hj
theorem bm_marks (h : bw_M M b) {j : Nat} (hj : j < 8) : M 9 j = nI (b 9 j) := h.2 9 j (by decide) (by decide) hj
theorem bm_people (h : bw_M M b) {j : Nat} (hj : j < 8) : M 10 j = nI (b 10 j) := h.2 10 j (by decide) (by decide) hj
theorem bm_prices (h : bw_M M b) {j : Nat} (hj : j < 8) : M 11 j = nI (b 11 j) := h.2 11 j (by decide) (by decide) hj
end BWACC
/-! ===== what is seen, sworn, booked ===== -/
def bw_bit (m k : Nat) : Bool := m.testBit k
def bw_seen (b : SN) (w y : Nat) : Nat := if b 4 w = 1 ∧ bw_bit (b 9 y) 3 = false then 0 else b 5 (4 * w) + (if bw_bit (b 9 y) 0 then b 5 (4 * w + 1) else 0) + (if bw_bit (b 9 y) 1 then b 5 (4 * w + 2) else 0) + (if bw_bit (b 9 y) 2 then b 5 (4 * w + 3) else 0)
def bw_sworn (b : SN) (w y : Nat) : Nat := if 0 < b 7 y ∧ b 7 y < bw_seen b w y ∧ bw_seen b w y - b 7 y ≤ b 8 y then b 7 y else bw_seen b w y
def bw_book (b : SN) (w y : Nat) : Bool := decide (0 < bw_sworn b w y) && decide (b 6 y ≤ bw_sworn b w y)
def bw_rich (b : SN) (w y : Nat) : Bool := decide (b 0 0 ≤ bw_sworn b w y)
def bw_weight (b : SN) (w y : Nat) : Nat := (if bw_rich b w y then 100 + b 0 1 else 100) * b 1 (b 3 w)
def bw_kind (b : SN) (w : Nat) : Nat := if bw_book b w (b 2 w) = false then 1 else if bw_sworn b w (b 2 w) ≠ bw_seen b w (b 2 w) then 2 else if bw_rich b w (b 2 w) then 3 else 0
theorem bw_seen_le {b : SN} (hO : bw_ok b) {w y : Nat} (hw : w < b 0 2) : bw_seen b w y ≤ 39996 := by
  have h0 := bo_had hO (j := 4 * w) (by omega)
  have h1 := bo_had hO (j := 4 * w + 1) (by omega)
  have h2 := bo_had hO (j := 4 * w + 2) (by omega)
  have h3 := bo_had hO (j := 4 * w + 3) (by omega)
  unfold bw_seen
  split
  · omega
  · split <;> split <;> split <;> omega
theorem bw_sworn_le {b : SN} (hO : bw_ok b) {w y : Nat} (hw : w < b 0 2) : bw_sworn b w y ≤ 39996 := by
  have h := bw_seen_le hO (y := y) hw
  unfold bw_sworn
  split <;> omega
theorem bw_weight_le {b : SN} (hO : bw_ok b) {w y : Nat} (hw : w < b 0 2) : bw_weight b w y ≤ 80000 := by
  have h1 := bo_age hO hw
  have h2 := (bo_lives hO (j := b 3 w) (by omega)).2
  have h3 := bo_more hO
  have e : (if bw_rich b w y then 100 + b 0 1 else 100) ≤ 200 := by split <;> omega
  calc bw_weight b w y ≤ 200 * 400 := Nat.mul_le_mul e h2
    _ = 80000 := rfl
theorem bw_weight_pos {b : SN} (hO : bw_ok b) {w y : Nat} (hw : w < b 0 2) : 0 < bw_weight b w y := by
  have h1 := bo_age hO hw
  have h2 := (bo_lives hO (j := b 3 w) (by omega)).1
  exact Nat.mul_pos (by split <;> omega) (by omega)
/-! ===== small rows ===== -/
theorem bw_z {a : Nat} (h : a < 2 ^ 31) : (nI a = 0) ↔ a = 0 := nI_eq (b := 0) h (by decide)
theorem bw_bz {c : Bool} : ((if c then (1 : Int32) else 0) = 0) ↔ c = false := by cases c <;> decide
def bw_i (c : Bool) : Int32 := if c then 1 else 0
theorem bw_i0 {c : Bool} : (bw_i c = 0) ↔ c = false := by cases c <;> decide
/-- a branch on a boolean answer -/
theorem bw_br {c : Bool} {A B : Prop} (f : c = false → A) (g : c = true → B) : (bw_i c = 0 → A) ∧ (¬ bw_i c = 0 → B) := by
  cases c
  · exact ⟨fun _ => f rfl, fun h => absurd rfl h⟩
  · exact ⟨fun h => absurd h (by decide), fun _ => g rfl⟩
theorem bw_and8 : ∀ m, m < 16 → ((nI m &&& (8 : Int32)) = 0 ↔ bw_bit m 3 = false) := by decide
theorem bw_shr : ∀ m, m < 16 → ∀ k, k < 4 → (((nI m >>> (nI k &&& 31)) &&& (1 : Int32)) = 1 ↔ bw_bit m k = true) := by decide
