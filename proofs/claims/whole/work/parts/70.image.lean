/-! ===== image, restore ===== -/
theorem xcp_ap (S : SX) (d a sp dp n k j : Nat) : xcp S d a sp dp n k j = if k = d then (if dp ≤ j ∧ j < dp + n then S a (sp + (j - dp)) else S d j) else S k j := by
  unfold xcp
  by_cases h : k = d
  · rw [if_pos h, if_pos h]; rfl
  · rw [if_neg h, if_neg h]
theorem xcpL_ap (S : LX) (d a sp dp n k j : Nat) : xcpL S d a sp dp n k j = if k = d then (if dp ≤ j ∧ j < dp + n then S a (sp + (j - dp)) else S d j) else S k j := by
  unfold xcpL
  by_cases h : k = d
  · rw [if_pos h, if_pos h]; rfl
  · rw [if_neg h, if_neg h]
def bw_fl (k : Nat) : Nat := match k with
  | 1 => 6
  | 2 => 24
  | 3 => 24
  | 4 => 24
  | 5 => 96
  | _ => 8
theorem bw_off_lt : ∀ m, m ≤ 11 → ∀ k, k < m → 1 ≤ k → bw_off k + bw_fl k ≤ bw_off m := by decide
theorem bw_off_le : ∀ k, k ≤ 11 → bw_off k + bw_fl k ≤ 222 := by decide
theorem bw_ln_fl {n k : Nat} (hn : n ≤ 24) : bw_ln n k ≤ bw_fl k := by
  rcases (show k = 1 ∨ k = 2 ∨ k = 3 ∨ k = 4 ∨ k = 5 ∨ (k = 0 ∨ 6 ≤ k) by omega) with rfl | rfl | rfl | rfl | rfl | h
  · exact Nat.le_refl _
  · exact hn
  · exact hn
  · exact hn
  · show 4 * n ≤ 96; omega
  · unfold bw_ln bw_fl; split <;> split <;> omega
section OPS
variable {S M : SX} {L N : LX}

theorem s_X0_tf_19_3 {post : SX → Prop} (h : ∀ S' : SX, (∀ k, ¬ (20 ≤ k ∧ k ≤ 23) → S' k = S k) → (∀ j, j < 8 → S' 20 j = S 4 j ∧ S' 21 j = S 5 j ∧ S' 22 j = S 6 j ∧ S' 23 j = S 7 j) → post S') : kX0_takeFrom_19_3 S L post := by
  have c0 : (0 : Int32).toNatClampNeg = 0 := rfl
  have c8 : (8 : Int32).toNatClampNeg = 8 := rfl
  unfold kX0_takeFrom_19_3
  rw [c0, c8]
  have p : ¬ (0 : Int32) < 0 ∧ ¬ (0 : Int32) < 0 ∧ ¬ (8 : Int32) < 0 ∧ 0 + 8 ≤ 8 ∧ 0 + 8 ≤ 8 := by decide
  refine ⟨p, p, p, p, h _ (fun k hk => ?_) (fun j hj => ?_)⟩
  · rw [xcp_ne (by omega), xcp_ne (by omega), xcp_ne (by omega), xcp_ne (by omega)]
  · simp [xcp_ap, hj]

theorem s_X0_tf_3_19 {post : SX → Prop} (h : ∀ S' : SX, (∀ k, ¬ (4 ≤ k ∧ k ≤ 7) → S' k = S k) → (∀ j, j < 8 → S' 4 j = S 20 j ∧ S' 5 j = S 21 j ∧ S' 6 j = S 22 j ∧ S' 7 j = S 23 j) → post S') : kX0_takeFrom_3_19 S L post := by
  have c0 : (0 : Int32).toNatClampNeg = 0 := rfl
  have c8 : (8 : Int32).toNatClampNeg = 8 := rfl
  unfold kX0_takeFrom_3_19
  rw [c0, c8]
  have p : ¬ (0 : Int32) < 0 ∧ ¬ (0 : Int32) < 0 ∧ ¬ (8 : Int32) < 0 ∧ 0 + 8 ≤ 8 ∧ 0 + 8 ≤ 8 := by decide
  refine ⟨p, p, p, p, h _ (fun k hk => ?_) (fun j hj => ?_)⟩
  · rw [xcp_ne (by omega), xcp_ne (by omega), xcp_ne (by omega), xcp_ne (by omega)]
  · simp [xcp_ap, hj]

theorem s_X0_tf_39_3 {post : SX → Prop} (h : ∀ S' : SX, (∀ k, ¬ (40 ≤ k ∧ k ≤ 43) → S' k = S k) → (∀ j, j < 8 → S' 40 j = S 4 j ∧ S' 41 j = S 5 j ∧ S' 42 j = S 6 j ∧ S' 43 j = S 7 j) → post S') : kX0_takeFrom_39_3 S L post := by
  have c0 : (0 : Int32).toNatClampNeg = 0 := rfl
  have c8 : (8 : Int32).toNatClampNeg = 8 := rfl
  unfold kX0_takeFrom_39_3
  rw [c0, c8]
  have p : ¬ (0 : Int32) < 0 ∧ ¬ (0 : Int32) < 0 ∧ ¬ (8 : Int32) < 0 ∧ 0 + 8 ≤ 8 ∧ 0 + 8 ≤ 8 := by decide
  refine ⟨p, p, p, p, h _ (fun k hk => ?_) (fun j hj => ?_)⟩
  · rw [xcp_ne (by omega), xcp_ne (by omega), xcp_ne (by omega), xcp_ne (by omega)]
  · simp [xcp_ap, hj]

theorem s_X0_tf_3_39 {post : SX → Prop} (h : ∀ S' : SX, (∀ k, ¬ (4 ≤ k ∧ k ≤ 7) → S' k = S k) → (∀ j, j < 8 → S' 4 j = S 40 j ∧ S' 5 j = S 41 j ∧ S' 6 j = S 42 j ∧ S' 7 j = S 43 j) → post S') : kX0_takeFrom_3_39 S L post := by
  have c0 : (0 : Int32).toNatClampNeg = 0 := rfl
  have c8 : (8 : Int32).toNatClampNeg = 8 := rfl
  unfold kX0_takeFrom_3_39
  rw [c0, c8]
  have p : ¬ (0 : Int32) < 0 ∧ ¬ (0 : Int32) < 0 ∧ ¬ (8 : Int32) < 0 ∧ 0 + 8 ≤ 8 ∧ 0 + 8 ≤ 8 := by decide
  refine ⟨p, p, p, p, h _ (fun k hk => ?_) (fun j hj => ?_)⟩
  · rw [xcp_ne (by omega), xcp_ne (by omega), xcp_ne (by omega), xcp_ne (by omega)]
  · simp [xcp_ap, hj]

theorem s_X4_tf_24 {n : Nat} (hn : n ≤ 24) (h8 : S 8 0 = nI n) {post : SX → Prop} (h : ∀ S' : SX, (∀ k, ¬ (24 ≤ k ∧ k ≤ 28) → S' k = S k) → S' 24 0 = nI n → (∀ j, j < n → S' 25 j = S 9 j ∧ S' 26 j = S 10 j ∧ S' 27 j = S 11 j) → (∀ j, j < 4 * n → S' 28 j = S 12 j) → post S') : kX4_takeFrom_24 S L post := by
  have c0 : (0 : Int32).toNatClampNeg = 0 := rfl
  have m0 : (0 : Int32) * (4 : Int32) = 0 := rfl
  have m4 : nI n * (4 : Int32) = nI (4 * n) := by rw [show (4 : Int32) = nI 4 from rfl, pk_mul, Nat.mul_comm]
  unfold kX4_takeFrom_24 kX4_move_24_8
  rw [h8, m4, m0, c0, nI_clamp (show n < 2 ^ 31 by omega), nI_clamp (show 4 * n < 2 ^ 31 by omega)]
  have p : ¬ (0 : Int32) < 0 ∧ ¬ (0 : Int32) < 0 ∧ ¬ nI n < 0 ∧ 0 + n ≤ 24 ∧ 0 + n ≤ 24 := ⟨by decide, by decide, nI_pos (by omega), by omega, by omega⟩
  refine ⟨p, p, p, ⟨by decide, by decide, nI_pos (by omega), by omega, by omega⟩, h _ (fun k hk => ?_) ?_ (fun j hj => ?_) (fun j hj => ?_)⟩
  · rw [xu_ne (by omega), xcp_ne (by omega), xcp_ne (by omega), xcp_ne (by omega), xcp_ne (by omega)]
  · rw [xu_ap, if_pos rfl, if_pos rfl, xcp_ne (by decide), xcp_ne (by decide), xcp_ne (by decide), xcp_ne (by decide), h8]
  · simp [xu_ap, xcp_ap, hj]
  · simp [xu_ap, xcp_ap, hj]

theorem s_X4_tf_8 {n : Nat} (hn : n ≤ 24) (h8 : S 24 0 = nI n) {post : SX → Prop} (h : ∀ S' : SX, (∀ k, ¬ (8 ≤ k ∧ k ≤ 12) → S' k = S k) → S' 8 0 = nI n → (∀ j, j < n → S' 9 j = S 25 j ∧ S' 10 j = S 26 j ∧ S' 11 j = S 27 j) → (∀ j, j < 4 * n → S' 12 j = S 28 j) → post S') : kX4_takeFrom_8 S L post := by
  have c0 : (0 : Int32).toNatClampNeg = 0 := rfl
  have m0 : (0 : Int32) * (4 : Int32) = 0 := rfl
  have m4 : nI n * (4 : Int32) = nI (4 * n) := by rw [show (4 : Int32) = nI 4 from rfl, pk_mul, Nat.mul_comm]
  unfold kX4_takeFrom_8 kX4_move_8_24
  rw [h8, m4, m0, c0, nI_clamp (show n < 2 ^ 31 by omega), nI_clamp (show 4 * n < 2 ^ 31 by omega)]
  have p : ¬ (0 : Int32) < 0 ∧ ¬ (0 : Int32) < 0 ∧ ¬ nI n < 0 ∧ 0 + n ≤ 24 ∧ 0 + n ≤ 24 := ⟨by decide, by decide, nI_pos (by omega), by omega, by omega⟩
  refine ⟨p, p, p, ⟨by decide, by decide, nI_pos (by omega), by omega, by omega⟩, h _ (fun k hk => ?_) ?_ (fun j hj => ?_) (fun j hj => ?_)⟩
  · rw [xu_ne (by omega), xcp_ne (by omega), xcp_ne (by omega), xcp_ne (by omega), xcp_ne (by omega)]
  · rw [xu_ap, if_pos rfl, if_pos rfl, xcp_ne (by decide), xcp_ne (by decide), xcp_ne (by decide), xcp_ne (by decide), h8]
  · simp [xu_ap, xcp_ap, hj]
  · simp [xu_ap, xcp_ap, hj]

theorem s_X5_takeFrom_17 {b : SN} (hX : bw_X 1 S b) (hO : bw_ok b) (hC : bw_CX 1 S L b) {post : SX → LX → Prop} (h : ∀ (S' : SX) (L' : LX), (∀ k, ¬ (17 ≤ k ∧ k ≤ 32) → S' k = S k) → (∀ k, k ≠ 31 → k ≠ 32 → L' k = L k) → bw_X 17 S' b → bw_CX 17 S' L' b → post S' L') : kX5_takeFrom_17 S L post := by
  have hn := bo_n hO
  have c0 : (0 : Int32).toNatClampNeg = 0 := rfl
  have c6 : (6 : Int32).toNatClampNeg = 6 := rfl
  have c8 : (8 : Int32).toNatClampNeg = 8 := rfl
  have p6 : ¬ (0 : Int32) < 0 ∧ ¬ (0 : Int32) < 0 ∧ ¬ (6 : Int32) < 0 ∧ 0 + 6 ≤ 6 ∧ 0 + 6 ≤ 6 := by decide
  have p8 : ¬ (0 : Int32) < 0 ∧ ¬ (0 : Int32) < 0 ∧ ¬ (8 : Int32) < 0 ∧ 0 + 8 ≤ 8 ∧ 0 + 8 ≤ 8 := by decide
  unfold kX5_takeFrom_17
  rw [c0, c6, c8]
  generalize hT : xu (xu (xcp S 18 2 0 0 6) 17 0 ((xcp S 18 2 0 0 6) 1 0)) 17 1 ((xu (xcp S 18 2 0 0 6) 17 0 ((xcp S 18 2 0 0 6) 1 0)) 1 1) = T
  have T1 : ∀ k, k ≠ 17 → k ≠ 18 → T k = S k := fun k k1 k2 => by rw [← hT, xu_ne k1, xu_ne k1, xcp_ne k2]
  have T2 : T 17 0 = S 1 0 := by rw [← hT]; simp [xu_ap, xcp_ap]
  have T3 : T 17 1 = S 1 1 := by rw [← hT]; simp [xu_ap, xcp_ap]
  have T4 : ∀ j, j < 6 → T 18 j = S 2 j := fun j hj => by rw [← hT]; simp [xu_ap, xcp_ap, hj]
  refine ⟨p6, s_X0_tf_19_3 (fun A a1 a2 => s_X4_tf_24 (n := b 0 2) hn (by rw [a1 8 (by decide), T1 8 (by decide) (by decide)]; exact hX.1.2.2) (fun B b1 b2 b3 b4 => ⟨p8, p8, p8, p8, h _ _ (fun k hk => ?_) (fun k k1 k2 => ?_) ⟨⟨?_, ?_, ?_⟩, fun k j k1 k2 hj => ?_⟩ ⟨?_, fun y hy hb => ?_⟩⟩))⟩
  · rw [xu_ne (by omega), xcp_ne (by omega), xcp_ne (by omega), b1 k (by omega), a1 k (by omega), T1 k (by omega) (by omega)]
  · rw [xcpL_ne k2, xcpL_ne k1]
  · rw [xu_ap, if_pos rfl, if_neg (by decide), xcp_ne (by decide), xcp_ne (by decide), b1 17 (by decide), a1 17 (by decide), T2]; exact hX.1.1
  · rw [xu_ap, if_pos rfl, if_neg (by decide), xcp_ne (by decide), xcp_ne (by decide), b1 17 (by decide), a1 17 (by decide), T3]; exact hX.1.2.1
  · show xu _ _ _ _ 24 0 = _
    rw [xu_ne (by decide), xcp_ne (by decide), xcp_ne (by decide)]; exact b2
  · have q := hX.2 k j k1 k2 hj
    rcases (show k = 1 ∨ k = 2 ∨ k = 3 ∨ k = 4 ∨ k = 5 ∨ k = 6 ∨ k = 7 ∨ k = 8 ∨ k = 9 ∨ k = 10 ∨ k = 11 by omega) with rfl | rfl | rfl | rfl | rfl | rfl | rfl | rfl | rfl | rfl | rfl
    · rw [← q]; show xu _ _ _ _ 18 j = S 2 j
      rw [xu_ne (by decide), xcp_ne (by decide), xcp_ne (by decide), b1 18 (by decide), a1 18 (by decide)]; exact T4 j hj
    · rw [← q]; show xu _ _ _ _ 25 j = S 9 j
      rw [xu_ne (by decide), xcp_ne (by decide), xcp_ne (by decide), (b3 j hj).1, a1 9 (by decide), T1 9 (by decide) (by decide)]
    · rw [← q]; show xu _ _ _ _ 26 j = S 10 j
      rw [xu_ne (by decide), xcp_ne (by decide), xcp_ne (by decide), (b3 j hj).2.1, a1 10 (by decide), T1 10 (by decide) (by decide)]
    · rw [← q]; show xu _ _ _ _ 27 j = S 11 j
      rw [xu_ne (by decide), xcp_ne (by decide), xcp_ne (by decide), (b3 j hj).2.2, a1 11 (by decide), T1 11 (by decide) (by decide)]
    · rw [← q]; show xu _ _ _ _ 28 j = S 12 j
      rw [xu_ne (by decide), xcp_ne (by decide), xcp_ne (by decide), b4 j hj, a1 12 (by decide), T1 12 (by decide) (by decide)]
    · rw [← q]; show xu _ _ _ _ 20 j = S 4 j
      rw [xu_ne (by decide), xcp_ne (by decide), xcp_ne (by decide), b1 20 (by decide), (a2 j hj).1, T1 4 (by decide) (by decide)]
    · rw [← q]; show xu _ _ _ _ 21 j = S 5 j
      rw [xu_ne (by decide), xcp_ne (by decide), xcp_ne (by decide), b1 21 (by decide), (a2 j hj).2.1, T1 5 (by decide) (by decide)]
    · rw [← q]; show xu _ _ _ _ 22 j = S 6 j
      rw [xu_ne (by decide), xcp_ne (by decide), xcp_ne (by decide), b1 22 (by decide), (a2 j hj).2.2.1, T1 6 (by decide) (by decide)]
    · rw [← q]; show xu _ _ _ _ 23 j = S 7 j
      rw [xu_ne (by decide), xcp_ne (by decide), xcp_ne (by decide), b1 23 (by decide), (a2 j hj).2.2.2, T1 7 (by decide) (by decide)]
    · rw [← q]; show xu _ _ _ _ 29 j = S 13 j
      have hj : j < 8 := hj
      rw [xu_ne (by decide), xcp_ne (by decide), xcp_eq, pk_cpy_in (by omega) (by omega), b1 13 (by decide), a1 13 (by decide), T1 13 (by decide) (by decide)]; congr 1; omega
    · rw [← q]; show xu _ _ _ _ 30 j = S 14 j
      have hj : j < 8 := hj
      rw [xu_ne (by decide), xcp_eq, pk_cpy_in (by omega) (by omega), xcp_ne (by decide), b1 14 (by decide), a1 14 (by decide), T1 14 (by decide) (by decide)]; congr 1; omega
  · obtain ⟨⟨t, t1, t2, t3⟩, _⟩ := hC
    refine ⟨t, t1, ?_, t3⟩
    rw [xu_ap, if_pos rfl, if_pos rfl, xcp_ne (by decide), xcp_ne (by decide), b1 1 (by decide), a1 1 (by decide), T1 1 (by decide) (by decide)]; exact t2
  · have q := hC.2 y hy hb
    constructor
    · rw [← q.1]; show xcpL _ _ _ _ _ _ 31 y = L 15 y
      rw [xcpL_ne (by decide), xcpL_eq, pk_cpy_in (by omega) (by omega)]; congr 1; omega
    · rw [← q.2]; show xcpL _ _ _ _ _ _ 32 y = L 16 y
      rw [xcpL_eq, pk_cpy_in (by omega) (by omega), xcpL_ne (by decide)]; congr 1; omega

theorem s_X5_takeFrom_1 {b : SN} (hX : bw_X 17 S b) (hO : bw_ok b) (hC : bw_CX 17 S L b) {post : SX → LX → Prop} (h : ∀ (S' : SX) (L' : LX), (∀ k, ¬ (1 ≤ k ∧ k ≤ 16) → S' k = S k) → (∀ k, k ≠ 15 → k ≠ 16 → L' k = L k) → bw_X 1 S' b → bw_CX 1 S' L' b → post S' L') : kX5_takeFrom_1 S L post := by
  have hn := bo_n hO
  have c0 : (0 : Int32).toNatClampNeg = 0 := rfl
  have c6 : (6 : Int32).toNatClampNeg = 6 := rfl
  have c8 : (8 : Int32).toNatClampNeg = 8 := rfl
  have p6 : ¬ (0 : Int32) < 0 ∧ ¬ (0 : Int32) < 0 ∧ ¬ (6 : Int32) < 0 ∧ 0 + 6 ≤ 6 ∧ 0 + 6 ≤ 6 := by decide
  have p8 : ¬ (0 : Int32) < 0 ∧ ¬ (0 : Int32) < 0 ∧ ¬ (8 : Int32) < 0 ∧ 0 + 8 ≤ 8 ∧ 0 + 8 ≤ 8 := by decide
  unfold kX5_takeFrom_1
  rw [c0, c6, c8]
  generalize hT : xu (xu (xcp S 2 18 0 0 6) 1 0 ((xcp S 2 18 0 0 6) 17 0)) 1 1 ((xu (xcp S 2 18 0 0 6) 1 0 ((xcp S 2 18 0 0 6) 17 0)) 17 1) = T
  have T1 : ∀ k, k ≠ 1 → k ≠ 2 → T k = S k := fun k k1 k2 => by rw [← hT, xu_ne k1, xu_ne k1, xcp_ne k2]
  have T2 : T 1 0 = S 17 0 := by rw [← hT]; simp [xu_ap, xcp_ap]
  have T3 : T 1 1 = S 17 1 := by rw [← hT]; simp [xu_ap, xcp_ap]
  have T4 : ∀ j, j < 6 → T 2 j = S 18 j := fun j hj => by rw [← hT]; simp [xu_ap, xcp_ap, hj]
  refine ⟨p6, s_X0_tf_3_19 (fun A a1 a2 => s_X4_tf_8 (n := b 0 2) hn (by rw [a1 24 (by decide), T1 24 (by decide) (by decide)]; exact hX.1.2.2) (fun B b1 b2 b3 b4 => ⟨p8, p8, p8, p8, h _ _ (fun k hk => ?_) (fun k k1 k2 => ?_) ⟨⟨?_, ?_, ?_⟩, fun k j k1 k2 hj => ?_⟩ ⟨?_, fun y hy hb => ?_⟩⟩))⟩
  · rw [xu_ne (by omega), xcp_ne (by omega), xcp_ne (by omega), b1 k (by omega), a1 k (by omega), T1 k (by omega) (by omega)]
  · rw [xcpL_ne k2, xcpL_ne k1]
  · rw [xu_ap, if_pos rfl, if_neg (by decide), xcp_ne (by decide), xcp_ne (by decide), b1 1 (by decide), a1 1 (by decide), T2]; exact hX.1.1
  · rw [xu_ap, if_pos rfl, if_neg (by decide), xcp_ne (by decide), xcp_ne (by decide), b1 1 (by decide), a1 1 (by decide), T3]; exact hX.1.2.1
  · show xu _ _ _ _ 8 0 = _
    rw [xu_ne (by decide), xcp_ne (by decide), xcp_ne (by decide)]; exact b2
  · have q := hX.2 k j k1 k2 hj
    rcases (show k = 1 ∨ k = 2 ∨ k = 3 ∨ k = 4 ∨ k = 5 ∨ k = 6 ∨ k = 7 ∨ k = 8 ∨ k = 9 ∨ k = 10 ∨ k = 11 by omega) with rfl | rfl | rfl | rfl | rfl | rfl | rfl | rfl | rfl | rfl | rfl
    · rw [← q]; show xu _ _ _ _ 2 j = S 18 j
      rw [xu_ne (by decide), xcp_ne (by decide), xcp_ne (by decide), b1 2 (by decide), a1 2 (by decide)]; exact T4 j hj
    · rw [← q]; show xu _ _ _ _ 9 j = S 25 j
      rw [xu_ne (by decide), xcp_ne (by decide), xcp_ne (by decide), (b3 j hj).1, a1 25 (by decide), T1 25 (by decide) (by decide)]
    · rw [← q]; show xu _ _ _ _ 10 j = S 26 j
      rw [xu_ne (by decide), xcp_ne (by decide), xcp_ne (by decide), (b3 j hj).2.1, a1 26 (by decide), T1 26 (by decide) (by decide)]
    · rw [← q]; show xu _ _ _ _ 11 j = S 27 j
      rw [xu_ne (by decide), xcp_ne (by decide), xcp_ne (by decide), (b3 j hj).2.2, a1 27 (by decide), T1 27 (by decide) (by decide)]
    · rw [← q]; show xu _ _ _ _ 12 j = S 28 j
      rw [xu_ne (by decide), xcp_ne (by decide), xcp_ne (by decide), b4 j hj, a1 28 (by decide), T1 28 (by decide) (by decide)]
    · rw [← q]; show xu _ _ _ _ 4 j = S 20 j
      rw [xu_ne (by decide), xcp_ne (by decide), xcp_ne (by decide), b1 4 (by decide), (a2 j hj).1, T1 20 (by decide) (by decide)]
    · rw [← q]; show xu _ _ _ _ 5 j = S 21 j
      rw [xu_ne (by decide), xcp_ne (by decide), xcp_ne (by decide), b1 5 (by decide), (a2 j hj).2.1, T1 21 (by decide) (by decide)]
    · rw [← q]; show xu _ _ _ _ 6 j = S 22 j
      rw [xu_ne (by decide), xcp_ne (by decide), xcp_ne (by decide), b1 6 (by decide), (a2 j hj).2.2.1, T1 22 (by decide) (by decide)]
    · rw [← q]; show xu _ _ _ _ 7 j = S 23 j
      rw [xu_ne (by decide), xcp_ne (by decide), xcp_ne (by decide), b1 7 (by decide), (a2 j hj).2.2.2, T1 23 (by decide) (by decide)]
    · rw [← q]; show xu _ _ _ _ 13 j = S 29 j
      have hj : j < 8 := hj
      rw [xu_ne (by decide), xcp_ne (by decide), xcp_eq, pk_cpy_in (by omega) (by omega), b1 29 (by decide), a1 29 (by decide), T1 29 (by decide) (by decide)]; congr 1; omega
    · rw [← q]; show xu _ _ _ _ 14 j = S 30 j
      have hj : j < 8 := hj
      rw [xu_ne (by decide), xcp_eq, pk_cpy_in (by omega) (by omega), xcp_ne (by decide), b1 30 (by decide), a1 30 (by decide), T1 30 (by decide) (by decide)]; congr 1; omega
  · obtain ⟨⟨t, t1, t2, t3⟩, _⟩ := hC
    refine ⟨t, t1, ?_, t3⟩
    rw [xu_ap, if_pos rfl, if_pos rfl, xcp_ne (by decide), xcp_ne (by decide), b1 17 (by decide), a1 17 (by decide), T1 17 (by decide) (by decide)]; exact t2
  · have q := hC.2 y hy hb
    constructor
    · rw [← q.1]; show xcpL _ _ _ _ _ _ 15 y = L 31 y
      rw [xcpL_ne (by decide), xcpL_eq, pk_cpy_in (by omega) (by omega)]; congr 1; omega
    · rw [← q.2]; show xcpL _ _ _ _ _ _ 16 y = L 32 y
      rw [xcpL_eq, pk_cpy_in (by omega) (by omega), xcpL_ne (by decide)]; congr 1; omega

theorem s_X7_saves_1 {o : Nat} (ho : o + 6 ≤ 240) {post : Int32 → SX → Prop} (h : ∀ T : SX, (∀ q, q ≠ 16 → T q = M q) → (∀ p, T 16 p = if o ≤ p ∧ p < o + 6 then M 1 (p - o) else M 16 p) → post (nI (o + 6)) T) : kX7_saves_1 M N (nI o) post := by
  unfold kX7_saves_1
  refine pk_loop (fun f i (s : SX) => kX7_saves_1_b2 N (nI o) post f (nI i) s) (fun i s => (∀ q, q ≠ 16 → s q = M q) ∧ (∀ p, s 16 p = if o ≤ p ∧ p < o + i then M 1 (p - o) else M 16 p)) 6 0 M (by decide) ⟨fun _ _ => rfl, fun p => by rw [if_neg (by omega)]⟩ ?_ ?_
  · intro f s hs
    unfold kX7_saves_1_b2
    rw [show (6 : Int32) = nI 6 from rfl, nI_add]
    exact pk_le 6 6 (fun _ => h s hs.1 hs.2) (fun z => by omega)
  · intro f i s hi hs hc
    unfold kX7_saves_1_b2
    rw [nI_add, nI_clamp (show o + i < 2 ^ 31 by omega), nI_clamp (show i < 2 ^ 31 by omega), nI_1 i, hs.1 1 (by decide)]
    refine pk_le 6 i (fun z => by omega) (fun _ => ⟨pk_in i 6 hi, pk_in (o + i) 240 (by omega), hc _ ⟨fun q hq => by rw [xu_ne hq]; exact hs.1 q hq, fun p => ?_⟩⟩)
    rw [xu_ap, if_pos rfl]
    by_cases c : p = o + i
    · rw [if_pos c, if_pos (by omega)]; congr 1; omega
    · rw [if_neg c, hs.2 p]
      by_cases d : o ≤ p ∧ p < o + i
      · rw [if_pos d, if_pos (by omega)]
      · rw [if_neg d, if_neg (by omega)]
theorem s_X7_gives_1 {o : Nat} (ho : o + 6 ≤ 240) {post : Int32 → SX → Prop} (h : ∀ T : SX, (∀ q, q ≠ 1 → T q = M q) → (∀ p, p < 6 → T 1 p = M 16 (o + p)) → post (nI (o + 6)) T) : kX7_gives_1 M N (nI o) post := by
  unfold kX7_gives_1
  refine pk_loop (fun f i (s : SX) => kX7_gives_1_b2 N (nI o) post f (nI i) s) (fun i s => (∀ q, q ≠ 1 → s q = M q) ∧ (∀ p, p < i → s 1 p = M 16 (o + p))) 6 0 M (by decide) ⟨fun _ _ => rfl, fun p hp => absurd hp (by omega)⟩ ?_ ?_
  · intro f s hs
    unfold kX7_gives_1_b2
    rw [show (6 : Int32) = nI 6 from rfl, nI_add]
    exact pk_le 6 6 (fun _ => h s hs.1 hs.2) (fun z => by omega)
  · intro f i s hi hs hc
    unfold kX7_gives_1_b2
    rw [nI_add, nI_clamp (show o + i < 2 ^ 31 by omega), nI_clamp (show i < 2 ^ 31 by omega), nI_1 i, hs.1 16 (by decide)]
    refine pk_le 6 i (fun z => by omega) (fun _ => ⟨pk_in (o + i) 240 (by omega), pk_in i 6 hi, hc _ ⟨fun q hq => by rw [xu_ne hq]; exact hs.1 q hq, fun p hp => ?_⟩⟩)
    rw [xu_ap, if_pos rfl]
    by_cases c : p = i
    · rw [if_pos c, c]
    · rw [if_neg c, hs.2 p (by omega)]

theorem s_X7_saves_2 {o : Nat} (ho : o + 24 ≤ 240) {post : Int32 → SX → Prop} (h : ∀ T : SX, (∀ q, q ≠ 16 → T q = M q) → (∀ p, T 16 p = if o ≤ p ∧ p < o + 24 then M 2 (p - o) else M 16 p) → post (nI (o + 24)) T) : kX7_saves_2 M N (nI o) post := by
  unfold kX7_saves_2
  refine pk_loop (fun f i (s : SX) => kX7_saves_2_b2 N (nI o) post f (nI i) s) (fun i s => (∀ q, q ≠ 16 → s q = M q) ∧ (∀ p, s 16 p = if o ≤ p ∧ p < o + i then M 2 (p - o) else M 16 p)) 24 0 M (by decide) ⟨fun _ _ => rfl, fun p => by rw [if_neg (by omega)]⟩ ?_ ?_
  · intro f s hs
    unfold kX7_saves_2_b2
    rw [show (24 : Int32) = nI 24 from rfl, nI_add]
    exact pk_le 24 24 (fun _ => h s hs.1 hs.2) (fun z => by omega)
  · intro f i s hi hs hc
    unfold kX7_saves_2_b2
    rw [nI_add, nI_clamp (show o + i < 2 ^ 31 by omega), nI_clamp (show i < 2 ^ 31 by omega), nI_1 i, hs.1 2 (by decide)]
    refine pk_le 24 i (fun z => by omega) (fun _ => ⟨pk_in i 24 hi, pk_in (o + i) 240 (by omega), hc _ ⟨fun q hq => by rw [xu_ne hq]; exact hs.1 q hq, fun p => ?_⟩⟩)
    rw [xu_ap, if_pos rfl]
    by_cases c : p = o + i
    · rw [if_pos c, if_pos (by omega)]; congr 1; omega
    · rw [if_neg c, hs.2 p]
      by_cases d : o ≤ p ∧ p < o + i
      · rw [if_pos d, if_pos (by omega)]
      · rw [if_neg d, if_neg (by omega)]
theorem s_X7_gives_2 {o : Nat} (ho : o + 24 ≤ 240) {post : Int32 → SX → Prop} (h : ∀ T : SX, (∀ q, q ≠ 2 → T q = M q) → (∀ p, p < 24 → T 2 p = M 16 (o + p)) → post (nI (o + 24)) T) : kX7_gives_2 M N (nI o) post := by
  unfold kX7_gives_2
  refine pk_loop (fun f i (s : SX) => kX7_gives_2_b2 N (nI o) post f (nI i) s) (fun i s => (∀ q, q ≠ 2 → s q = M q) ∧ (∀ p, p < i → s 2 p = M 16 (o + p))) 24 0 M (by decide) ⟨fun _ _ => rfl, fun p hp => absurd hp (by omega)⟩ ?_ ?_
  · intro f s hs
    unfold kX7_gives_2_b2
    rw [show (24 : Int32) = nI 24 from rfl, nI_add]
    exact pk_le 24 24 (fun _ => h s hs.1 hs.2) (fun z => by omega)
  · intro f i s hi hs hc
    unfold kX7_gives_2_b2
    rw [nI_add, nI_clamp (show o + i < 2 ^ 31 by omega), nI_clamp (show i < 2 ^ 31 by omega), nI_1 i, hs.1 16 (by decide)]
    refine pk_le 24 i (fun z => by omega) (fun _ => ⟨pk_in (o + i) 240 (by omega), pk_in i 24 hi, hc _ ⟨fun q hq => by rw [xu_ne hq]; exact hs.1 q hq, fun p hp => ?_⟩⟩)
    rw [xu_ap, if_pos rfl]
    by_cases c : p = i
    · rw [if_pos c, c]
    · rw [if_neg c, hs.2 p (by omega)]

theorem s_X7_saves_3 {o : Nat} (ho : o + 24 ≤ 240) {post : Int32 → SX → Prop} (h : ∀ T : SX, (∀ q, q ≠ 16 → T q = M q) → (∀ p, T 16 p = if o ≤ p ∧ p < o + 24 then M 3 (p - o) else M 16 p) → post (nI (o + 24)) T) : kX7_saves_3 M N (nI o) post := by
  unfold kX7_saves_3
  refine pk_loop (fun f i (s : SX) => kX7_saves_3_b2 N (nI o) post f (nI i) s) (fun i s => (∀ q, q ≠ 16 → s q = M q) ∧ (∀ p, s 16 p = if o ≤ p ∧ p < o + i then M 3 (p - o) else M 16 p)) 24 0 M (by decide) ⟨fun _ _ => rfl, fun p => by rw [if_neg (by omega)]⟩ ?_ ?_
  · intro f s hs
    unfold kX7_saves_3_b2
    rw [show (24 : Int32) = nI 24 from rfl, nI_add]
    exact pk_le 24 24 (fun _ => h s hs.1 hs.2) (fun z => by omega)
  · intro f i s hi hs hc
    unfold kX7_saves_3_b2
    rw [nI_add, nI_clamp (show o + i < 2 ^ 31 by omega), nI_clamp (show i < 2 ^ 31 by omega), nI_1 i, hs.1 3 (by decide)]
    refine pk_le 24 i (fun z => by omega) (fun _ => ⟨pk_in i 24 hi, pk_in (o + i) 240 (by omega), hc _ ⟨fun q hq => by rw [xu_ne hq]; exact hs.1 q hq, fun p => ?_⟩⟩)
    rw [xu_ap, if_pos rfl]
    by_cases c : p = o + i
    · rw [if_pos c, if_pos (by omega)]; congr 1; omega
    · rw [if_neg c, hs.2 p]
      by_cases d : o ≤ p ∧ p < o + i
      · rw [if_pos d, if_pos (by omega)]
      · rw [if_neg d, if_neg (by omega)]
theorem s_X7_gives_3 {o : Nat} (ho : o + 24 ≤ 240) {post : Int32 → SX → Prop} (h : ∀ T : SX, (∀ q, q ≠ 3 → T q = M q) → (∀ p, p < 24 → T 3 p = M 16 (o + p)) → post (nI (o + 24)) T) : kX7_gives_3 M N (nI o) post := by
  unfold kX7_gives_3
  refine pk_loop (fun f i (s : SX) => kX7_gives_3_b2 N (nI o) post f (nI i) s) (fun i s => (∀ q, q ≠ 3 → s q = M q) ∧ (∀ p, p < i → s 3 p = M 16 (o + p))) 24 0 M (by decide) ⟨fun _ _ => rfl, fun p hp => absurd hp (by omega)⟩ ?_ ?_
  · intro f s hs
    unfold kX7_gives_3_b2
    rw [show (24 : Int32) = nI 24 from rfl, nI_add]
    exact pk_le 24 24 (fun _ => h s hs.1 hs.2) (fun z => by omega)
  · intro f i s hi hs hc
    unfold kX7_gives_3_b2
    rw [nI_add, nI_clamp (show o + i < 2 ^ 31 by omega), nI_clamp (show i < 2 ^ 31 by omega), nI_1 i, hs.1 16 (by decide)]
    refine pk_le 24 i (fun z => by omega) (fun _ => ⟨pk_in (o + i) 240 (by omega), pk_in i 24 hi, hc _ ⟨fun q hq => by rw [xu_ne hq]; exact hs.1 q hq, fun p hp => ?_⟩⟩)
    rw [xu_ap, if_pos rfl]
    by_cases c : p = i
    · rw [if_pos c, c]
    · rw [if_neg c, hs.2 p (by omega)]

theorem s_X7_saves_4 {o : Nat} (ho : o + 24 ≤ 240) {post : Int32 → SX → Prop} (h : ∀ T : SX, (∀ q, q ≠ 16 → T q = M q) → (∀ p, T 16 p = if o ≤ p ∧ p < o + 24 then M 4 (p - o) else M 16 p) → post (nI (o + 24)) T) : kX7_saves_4 M N (nI o) post := by
  unfold kX7_saves_4
  refine pk_loop (fun f i (s : SX) => kX7_saves_4_b2 N (nI o) post f (nI i) s) (fun i s => (∀ q, q ≠ 16 → s q = M q) ∧ (∀ p, s 16 p = if o ≤ p ∧ p < o + i then M 4 (p - o) else M 16 p)) 24 0 M (by decide) ⟨fun _ _ => rfl, fun p => by rw [if_neg (by omega)]⟩ ?_ ?_
  · intro f s hs
    unfold kX7_saves_4_b2
    rw [show (24 : Int32) = nI 24 from rfl, nI_add]
    exact pk_le 24 24 (fun _ => h s hs.1 hs.2) (fun z => by omega)
  · intro f i s hi hs hc
    unfold kX7_saves_4_b2
    rw [nI_add, nI_clamp (show o + i < 2 ^ 31 by omega), nI_clamp (show i < 2 ^ 31 by omega), nI_1 i, hs.1 4 (by decide)]
    refine pk_le 24 i (fun z => by omega) (fun _ => ⟨pk_in i 24 hi, pk_in (o + i) 240 (by omega), hc _ ⟨fun q hq => by rw [xu_ne hq]; exact hs.1 q hq, fun p => ?_⟩⟩)
    rw [xu_ap, if_pos rfl]
    by_cases c : p = o + i
    · rw [if_pos c, if_pos (by omega)]; congr 1; omega
    · rw [if_neg c, hs.2 p]
      by_cases d : o ≤ p ∧ p < o + i
      · rw [if_pos d, if_pos (by omega)]
      · rw [if_neg d, if_neg (by omega)]
theorem s_X7_gives_4 {o : Nat} (ho : o + 24 ≤ 240) {post : Int32 → SX → Prop} (h : ∀ T : SX, (∀ q, q ≠ 4 → T q = M q) → (∀ p, p < 24 → T 4 p = M 16 (o + p)) → post (nI (o + 24)) T) : kX7_gives_4 M N (nI o) post := by
  unfold kX7_gives_4
  refine pk_loop (fun f i (s : SX) => kX7_gives_4_b2 N (nI o) post f (nI i) s) (fun i s => (∀ q, q ≠ 4 → s q = M q) ∧ (∀ p, p < i → s 4 p = M 16 (o + p))) 24 0 M (by decide) ⟨fun _ _ => rfl, fun p hp => absurd hp (by omega)⟩ ?_ ?_
  · intro f s hs
    unfold kX7_gives_4_b2
    rw [show (24 : Int32) = nI 24 from rfl, nI_add]
    exact pk_le 24 24 (fun _ => h s hs.1 hs.2) (fun z => by omega)
  · intro f i s hi hs hc
    unfold kX7_gives_4_b2
    rw [nI_add, nI_clamp (show o + i < 2 ^ 31 by omega), nI_clamp (show i < 2 ^ 31 by omega), nI_1 i, hs.1 16 (by decide)]
    refine pk_le 24 i (fun z => by omega) (fun _ => ⟨pk_in (o + i) 240 (by omega), pk_in i 24 hi, hc _ ⟨fun q hq => by rw [xu_ne hq]; exact hs.1 q hq, fun p hp => ?_⟩⟩)
    rw [xu_ap, if_pos rfl]
    by_cases c : p = i
    · rw [if_pos c, c]
    · rw [if_neg c, hs.2 p (by omega)]

theorem s_X7_saves_5 {o : Nat} (ho : o + 96 ≤ 240) {post : Int32 → SX → Prop} (h : ∀ T : SX, (∀ q, q ≠ 16 → T q = M q) → (∀ p, T 16 p = if o ≤ p ∧ p < o + 96 then M 5 (p - o) else M 16 p) → post (nI (o + 96)) T) : kX7_saves_5 M N (nI o) post := by
  unfold kX7_saves_5
  refine pk_loop (fun f i (s : SX) => kX7_saves_5_b2 N (nI o) post f (nI i) s) (fun i s => (∀ q, q ≠ 16 → s q = M q) ∧ (∀ p, s 16 p = if o ≤ p ∧ p < o + i then M 5 (p - o) else M 16 p)) 96 0 M (by decide) ⟨fun _ _ => rfl, fun p => by rw [if_neg (by omega)]⟩ ?_ ?_
  · intro f s hs
    unfold kX7_saves_5_b2
    rw [show (96 : Int32) = nI 96 from rfl, nI_add]
    exact pk_le 96 96 (fun _ => h s hs.1 hs.2) (fun z => by omega)
  · intro f i s hi hs hc
    unfold kX7_saves_5_b2
    rw [nI_add, nI_clamp (show o + i < 2 ^ 31 by omega), nI_clamp (show i < 2 ^ 31 by omega), nI_1 i, hs.1 5 (by decide)]
    refine pk_le 96 i (fun z => by omega) (fun _ => ⟨pk_in i 96 hi, pk_in (o + i) 240 (by omega), hc _ ⟨fun q hq => by rw [xu_ne hq]; exact hs.1 q hq, fun p => ?_⟩⟩)
    rw [xu_ap, if_pos rfl]
    by_cases c : p = o + i
    · rw [if_pos c, if_pos (by omega)]; congr 1; omega
    · rw [if_neg c, hs.2 p]
      by_cases d : o ≤ p ∧ p < o + i
      · rw [if_pos d, if_pos (by omega)]
      · rw [if_neg d, if_neg (by omega)]
theorem s_X7_gives_5 {o : Nat} (ho : o + 96 ≤ 240) {post : Int32 → SX → Prop} (h : ∀ T : SX, (∀ q, q ≠ 5 → T q = M q) → (∀ p, p < 96 → T 5 p = M 16 (o + p)) → post (nI (o + 96)) T) : kX7_gives_5 M N (nI o) post := by
  unfold kX7_gives_5
  refine pk_loop (fun f i (s : SX) => kX7_gives_5_b2 N (nI o) post f (nI i) s) (fun i s => (∀ q, q ≠ 5 → s q = M q) ∧ (∀ p, p < i → s 5 p = M 16 (o + p))) 96 0 M (by decide) ⟨fun _ _ => rfl, fun p hp => absurd hp (by omega)⟩ ?_ ?_
  · intro f s hs
    unfold kX7_gives_5_b2
    rw [show (96 : Int32) = nI 96 from rfl, nI_add]
    exact pk_le 96 96 (fun _ => h s hs.1 hs.2) (fun z => by omega)
  · intro f i s hi hs hc
    unfold kX7_gives_5_b2
    rw [nI_add, nI_clamp (show o + i < 2 ^ 31 by omega), nI_clamp (show i < 2 ^ 31 by omega), nI_1 i, hs.1 16 (by decide)]
    refine pk_le 96 i (fun z => by omega) (fun _ => ⟨pk_in (o + i) 240 (by omega), pk_in i 96 hi, hc _ ⟨fun q hq => by rw [xu_ne hq]; exact hs.1 q hq, fun p hp => ?_⟩⟩)
    rw [xu_ap, if_pos rfl]
    by_cases c : p = i
    · rw [if_pos c, c]
    · rw [if_neg c, hs.2 p (by omega)]

theorem s_X7_saves_6 {o : Nat} (ho : o + 8 ≤ 240) {post : Int32 → SX → Prop} (h : ∀ T : SX, (∀ q, q ≠ 16 → T q = M q) → (∀ p, T 16 p = if o ≤ p ∧ p < o + 8 then M 6 (p - o) else M 16 p) → post (nI (o + 8)) T) : kX7_saves_6 M N (nI o) post := by
  unfold kX7_saves_6
  refine pk_loop (fun f i (s : SX) => kX7_saves_6_b2 N (nI o) post f (nI i) s) (fun i s => (∀ q, q ≠ 16 → s q = M q) ∧ (∀ p, s 16 p = if o ≤ p ∧ p < o + i then M 6 (p - o) else M 16 p)) 8 0 M (by decide) ⟨fun _ _ => rfl, fun p => by rw [if_neg (by omega)]⟩ ?_ ?_
  · intro f s hs
    unfold kX7_saves_6_b2
    rw [show (8 : Int32) = nI 8 from rfl, nI_add]
    exact pk_le 8 8 (fun _ => h s hs.1 hs.2) (fun z => by omega)
  · intro f i s hi hs hc
    unfold kX7_saves_6_b2
    rw [nI_add, nI_clamp (show o + i < 2 ^ 31 by omega), nI_clamp (show i < 2 ^ 31 by omega), nI_1 i, hs.1 6 (by decide)]
    refine pk_le 8 i (fun z => by omega) (fun _ => ⟨pk_in i 8 hi, pk_in (o + i) 240 (by omega), hc _ ⟨fun q hq => by rw [xu_ne hq]; exact hs.1 q hq, fun p => ?_⟩⟩)
    rw [xu_ap, if_pos rfl]
    by_cases c : p = o + i
    · rw [if_pos c, if_pos (by omega)]; congr 1; omega
    · rw [if_neg c, hs.2 p]
      by_cases d : o ≤ p ∧ p < o + i
      · rw [if_pos d, if_pos (by omega)]
      · rw [if_neg d, if_neg (by omega)]
theorem s_X7_gives_6 {o : Nat} (ho : o + 8 ≤ 240) {post : Int32 → SX → Prop} (h : ∀ T : SX, (∀ q, q ≠ 6 → T q = M q) → (∀ p, p < 8 → T 6 p = M 16 (o + p)) → post (nI (o + 8)) T) : kX7_gives_6 M N (nI o) post := by
  unfold kX7_gives_6
  refine pk_loop (fun f i (s : SX) => kX7_gives_6_b2 N (nI o) post f (nI i) s) (fun i s => (∀ q, q ≠ 6 → s q = M q) ∧ (∀ p, p < i → s 6 p = M 16 (o + p))) 8 0 M (by decide) ⟨fun _ _ => rfl, fun p hp => absurd hp (by omega)⟩ ?_ ?_
  · intro f s hs
    unfold kX7_gives_6_b2
    rw [show (8 : Int32) = nI 8 from rfl, nI_add]
    exact pk_le 8 8 (fun _ => h s hs.1 hs.2) (fun z => by omega)
  · intro f i s hi hs hc
    unfold kX7_gives_6_b2
    rw [nI_add, nI_clamp (show o + i < 2 ^ 31 by omega), nI_clamp (show i < 2 ^ 31 by omega), nI_1 i, hs.1 16 (by decide)]
    refine pk_le 8 i (fun z => by omega) (fun _ => ⟨pk_in (o + i) 240 (by omega), pk_in i 8 hi, hc _ ⟨fun q hq => by rw [xu_ne hq]; exact hs.1 q hq, fun p hp => ?_⟩⟩)
    rw [xu_ap, if_pos rfl]
    by_cases c : p = i
    · rw [if_pos c, c]
    · rw [if_neg c, hs.2 p (by omega)]

theorem s_X7_saves_7 {o : Nat} (ho : o + 8 ≤ 240) {post : Int32 → SX → Prop} (h : ∀ T : SX, (∀ q, q ≠ 16 → T q = M q) → (∀ p, T 16 p = if o ≤ p ∧ p < o + 8 then M 7 (p - o) else M 16 p) → post (nI (o + 8)) T) : kX7_saves_7 M N (nI o) post := by
  unfold kX7_saves_7
  refine pk_loop (fun f i (s : SX) => kX7_saves_7_b2 N (nI o) post f (nI i) s) (fun i s => (∀ q, q ≠ 16 → s q = M q) ∧ (∀ p, s 16 p = if o ≤ p ∧ p < o + i then M 7 (p - o) else M 16 p)) 8 0 M (by decide) ⟨fun _ _ => rfl, fun p => by rw [if_neg (by omega)]⟩ ?_ ?_
  · intro f s hs
    unfold kX7_saves_7_b2
    rw [show (8 : Int32) = nI 8 from rfl, nI_add]
    exact pk_le 8 8 (fun _ => h s hs.1 hs.2) (fun z => by omega)
  · intro f i s hi hs hc
    unfold kX7_saves_7_b2
    rw [nI_add, nI_clamp (show o + i < 2 ^ 31 by omega), nI_clamp (show i < 2 ^ 31 by omega), nI_1 i, hs.1 7 (by decide)]
    refine pk_le 8 i (fun z => by omega) (fun _ => ⟨pk_in i 8 hi, pk_in (o + i) 240 (by omega), hc _ ⟨fun q hq => by rw [xu_ne hq]; exact hs.1 q hq, fun p => ?_⟩⟩)
    rw [xu_ap, if_pos rfl]
    by_cases c : p = o + i
    · rw [if_pos c, if_pos (by omega)]; congr 1; omega
    · rw [if_neg c, hs.2 p]
      by_cases d : o ≤ p ∧ p < o + i
      · rw [if_pos d, if_pos (by omega)]
      · rw [if_neg d, if_neg (by omega)]
theorem s_X7_gives_7 {o : Nat} (ho : o + 8 ≤ 240) {post : Int32 → SX → Prop} (h : ∀ T : SX, (∀ q, q ≠ 7 → T q = M q) → (∀ p, p < 8 → T 7 p = M 16 (o + p)) → post (nI (o + 8)) T) : kX7_gives_7 M N (nI o) post := by
  unfold kX7_gives_7
  refine pk_loop (fun f i (s : SX) => kX7_gives_7_b2 N (nI o) post f (nI i) s) (fun i s => (∀ q, q ≠ 7 → s q = M q) ∧ (∀ p, p < i → s 7 p = M 16 (o + p))) 8 0 M (by decide) ⟨fun _ _ => rfl, fun p hp => absurd hp (by omega)⟩ ?_ ?_
  · intro f s hs
    unfold kX7_gives_7_b2
    rw [show (8 : Int32) = nI 8 from rfl, nI_add]
    exact pk_le 8 8 (fun _ => h s hs.1 hs.2) (fun z => by omega)
  · intro f i s hi hs hc
    unfold kX7_gives_7_b2
    rw [nI_add, nI_clamp (show o + i < 2 ^ 31 by omega), nI_clamp (show i < 2 ^ 31 by omega), nI_1 i, hs.1 16 (by decide)]
    refine pk_le 8 i (fun z => by omega) (fun _ => ⟨pk_in (o + i) 240 (by omega), pk_in i 8 hi, hc _ ⟨fun q hq => by rw [xu_ne hq]; exact hs.1 q hq, fun p hp => ?_⟩⟩)
    rw [xu_ap, if_pos rfl]
    by_cases c : p = i
    · rw [if_pos c, c]
    · rw [if_neg c, hs.2 p (by omega)]

theorem s_X7_saves_8 {o : Nat} (ho : o + 8 ≤ 240) {post : Int32 → SX → Prop} (h : ∀ T : SX, (∀ q, q ≠ 16 → T q = M q) → (∀ p, T 16 p = if o ≤ p ∧ p < o + 8 then M 8 (p - o) else M 16 p) → post (nI (o + 8)) T) : kX7_saves_8 M N (nI o) post := by
  unfold kX7_saves_8
  refine pk_loop (fun f i (s : SX) => kX7_saves_8_b2 N (nI o) post f (nI i) s) (fun i s => (∀ q, q ≠ 16 → s q = M q) ∧ (∀ p, s 16 p = if o ≤ p ∧ p < o + i then M 8 (p - o) else M 16 p)) 8 0 M (by decide) ⟨fun _ _ => rfl, fun p => by rw [if_neg (by omega)]⟩ ?_ ?_
  · intro f s hs
    unfold kX7_saves_8_b2
    rw [show (8 : Int32) = nI 8 from rfl, nI_add]
    exact pk_le 8 8 (fun _ => h s hs.1 hs.2) (fun z => by omega)
  · intro f i s hi hs hc
    unfold kX7_saves_8_b2
    rw [nI_add, nI_clamp (show o + i < 2 ^ 31 by omega), nI_clamp (show i < 2 ^ 31 by omega), nI_1 i, hs.1 8 (by decide)]
    refine pk_le 8 i (fun z => by omega) (fun _ => ⟨pk_in i 8 hi, pk_in (o + i) 240 (by omega), hc _ ⟨fun q hq => by rw [xu_ne hq]; exact hs.1 q hq, fun p => ?_⟩⟩)
    rw [xu_ap, if_pos rfl]
    by_cases c : p = o + i
    · rw [if_pos c, if_pos (by omega)]; congr 1; omega
    · rw [if_neg c, hs.2 p]
      by_cases d : o ≤ p ∧ p < o + i
      · rw [if_pos d, if_pos (by omega)]
      · rw [if_neg d, if_neg (by omega)]
theorem s_X7_gives_8 {o : Nat} (ho : o + 8 ≤ 240) {post : Int32 → SX → Prop} (h : ∀ T : SX, (∀ q, q ≠ 8 → T q = M q) → (∀ p, p < 8 → T 8 p = M 16 (o + p)) → post (nI (o + 8)) T) : kX7_gives_8 M N (nI o) post := by
  unfold kX7_gives_8
  refine pk_loop (fun f i (s : SX) => kX7_gives_8_b2 N (nI o) post f (nI i) s) (fun i s => (∀ q, q ≠ 8 → s q = M q) ∧ (∀ p, p < i → s 8 p = M 16 (o + p))) 8 0 M (by decide) ⟨fun _ _ => rfl, fun p hp => absurd hp (by omega)⟩ ?_ ?_
  · intro f s hs
    unfold kX7_gives_8_b2
    rw [show (8 : Int32) = nI 8 from rfl, nI_add]
    exact pk_le 8 8 (fun _ => h s hs.1 hs.2) (fun z => by omega)
  · intro f i s hi hs hc
    unfold kX7_gives_8_b2
    rw [nI_add, nI_clamp (show o + i < 2 ^ 31 by omega), nI_clamp (show i < 2 ^ 31 by omega), nI_1 i, hs.1 16 (by decide)]
    refine pk_le 8 i (fun z => by omega) (fun _ => ⟨pk_in (o + i) 240 (by omega), pk_in i 8 hi, hc _ ⟨fun q hq => by rw [xu_ne hq]; exact hs.1 q hq, fun p hp => ?_⟩⟩)
    rw [xu_ap, if_pos rfl]
    by_cases c : p = i
    · rw [if_pos c, c]
    · rw [if_neg c, hs.2 p (by omega)]

theorem s_X7_saves_9 {o : Nat} (ho : o + 8 ≤ 240) {post : Int32 → SX → Prop} (h : ∀ T : SX, (∀ q, q ≠ 16 → T q = M q) → (∀ p, T 16 p = if o ≤ p ∧ p < o + 8 then M 9 (p - o) else M 16 p) → post (nI (o + 8)) T) : kX7_saves_9 M N (nI o) post := by
  unfold kX7_saves_9
  refine pk_loop (fun f i (s : SX) => kX7_saves_9_b2 N (nI o) post f (nI i) s) (fun i s => (∀ q, q ≠ 16 → s q = M q) ∧ (∀ p, s 16 p = if o ≤ p ∧ p < o + i then M 9 (p - o) else M 16 p)) 8 0 M (by decide) ⟨fun _ _ => rfl, fun p => by rw [if_neg (by omega)]⟩ ?_ ?_
  · intro f s hs
    unfold kX7_saves_9_b2
    rw [show (8 : Int32) = nI 8 from rfl, nI_add]
    exact pk_le 8 8 (fun _ => h s hs.1 hs.2) (fun z => by omega)
  · intro f i s hi hs hc
    unfold kX7_saves_9_b2
    rw [nI_add, nI_clamp (show o + i < 2 ^ 31 by omega), nI_clamp (show i < 2 ^ 31 by omega), nI_1 i, hs.1 9 (by decide)]
    refine pk_le 8 i (fun z => by omega) (fun _ => ⟨pk_in i 8 hi, pk_in (o + i) 240 (by omega), hc _ ⟨fun q hq => by rw [xu_ne hq]; exact hs.1 q hq, fun p => ?_⟩⟩)
    rw [xu_ap, if_pos rfl]
    by_cases c : p = o + i
    · rw [if_pos c, if_pos (by omega)]; congr 1; omega
    · rw [if_neg c, hs.2 p]
      by_cases d : o ≤ p ∧ p < o + i
      · rw [if_pos d, if_pos (by omega)]
      · rw [if_neg d, if_neg (by omega)]
theorem s_X7_gives_9 {o : Nat} (ho : o + 8 ≤ 240) {post : Int32 → SX → Prop} (h : ∀ T : SX, (∀ q, q ≠ 9 → T q = M q) → (∀ p, p < 8 → T 9 p = M 16 (o + p)) → post (nI (o + 8)) T) : kX7_gives_9 M N (nI o) post := by
  unfold kX7_gives_9
  refine pk_loop (fun f i (s : SX) => kX7_gives_9_b2 N (nI o) post f (nI i) s) (fun i s => (∀ q, q ≠ 9 → s q = M q) ∧ (∀ p, p < i → s 9 p = M 16 (o + p))) 8 0 M (by decide) ⟨fun _ _ => rfl, fun p hp => absurd hp (by omega)⟩ ?_ ?_
  · intro f s hs
    unfold kX7_gives_9_b2
    rw [show (8 : Int32) = nI 8 from rfl, nI_add]
    exact pk_le 8 8 (fun _ => h s hs.1 hs.2) (fun z => by omega)
  · intro f i s hi hs hc
    unfold kX7_gives_9_b2
    rw [nI_add, nI_clamp (show o + i < 2 ^ 31 by omega), nI_clamp (show i < 2 ^ 31 by omega), nI_1 i, hs.1 16 (by decide)]
    refine pk_le 8 i (fun z => by omega) (fun _ => ⟨pk_in (o + i) 240 (by omega), pk_in i 8 hi, hc _ ⟨fun q hq => by rw [xu_ne hq]; exact hs.1 q hq, fun p hp => ?_⟩⟩)
    rw [xu_ap, if_pos rfl]
    by_cases c : p = i
    · rw [if_pos c, c]
    · rw [if_neg c, hs.2 p (by omega)]

theorem s_X7_saves_10 {o : Nat} (ho : o + 8 ≤ 240) {post : Int32 → SX → Prop} (h : ∀ T : SX, (∀ q, q ≠ 16 → T q = M q) → (∀ p, T 16 p = if o ≤ p ∧ p < o + 8 then M 10 (p - o) else M 16 p) → post (nI (o + 8)) T) : kX7_saves_10 M N (nI o) post := by
  unfold kX7_saves_10
  refine pk_loop (fun f i (s : SX) => kX7_saves_10_b2 N (nI o) post f (nI i) s) (fun i s => (∀ q, q ≠ 16 → s q = M q) ∧ (∀ p, s 16 p = if o ≤ p ∧ p < o + i then M 10 (p - o) else M 16 p)) 8 0 M (by decide) ⟨fun _ _ => rfl, fun p => by rw [if_neg (by omega)]⟩ ?_ ?_
  · intro f s hs
    unfold kX7_saves_10_b2
    rw [show (8 : Int32) = nI 8 from rfl, nI_add]
    exact pk_le 8 8 (fun _ => h s hs.1 hs.2) (fun z => by omega)
  · intro f i s hi hs hc
    unfold kX7_saves_10_b2
    rw [nI_add, nI_clamp (show o + i < 2 ^ 31 by omega), nI_clamp (show i < 2 ^ 31 by omega), nI_1 i, hs.1 10 (by decide)]
    refine pk_le 8 i (fun z => by omega) (fun _ => ⟨pk_in i 8 hi, pk_in (o + i) 240 (by omega), hc _ ⟨fun q hq => by rw [xu_ne hq]; exact hs.1 q hq, fun p => ?_⟩⟩)
    rw [xu_ap, if_pos rfl]
    by_cases c : p = o + i
    · rw [if_pos c, if_pos (by omega)]; congr 1; omega
    · rw [if_neg c, hs.2 p]
      by_cases d : o ≤ p ∧ p < o + i
      · rw [if_pos d, if_pos (by omega)]
      · rw [if_neg d, if_neg (by omega)]
theorem s_X7_gives_10 {o : Nat} (ho : o + 8 ≤ 240) {post : Int32 → SX → Prop} (h : ∀ T : SX, (∀ q, q ≠ 10 → T q = M q) → (∀ p, p < 8 → T 10 p = M 16 (o + p)) → post (nI (o + 8)) T) : kX7_gives_10 M N (nI o) post := by
  unfold kX7_gives_10
  refine pk_loop (fun f i (s : SX) => kX7_gives_10_b2 N (nI o) post f (nI i) s) (fun i s => (∀ q, q ≠ 10 → s q = M q) ∧ (∀ p, p < i → s 10 p = M 16 (o + p))) 8 0 M (by decide) ⟨fun _ _ => rfl, fun p hp => absurd hp (by omega)⟩ ?_ ?_
  · intro f s hs
    unfold kX7_gives_10_b2
    rw [show (8 : Int32) = nI 8 from rfl, nI_add]
    exact pk_le 8 8 (fun _ => h s hs.1 hs.2) (fun z => by omega)
  · intro f i s hi hs hc
    unfold kX7_gives_10_b2
    rw [nI_add, nI_clamp (show o + i < 2 ^ 31 by omega), nI_clamp (show i < 2 ^ 31 by omega), nI_1 i, hs.1 16 (by decide)]
    refine pk_le 8 i (fun z => by omega) (fun _ => ⟨pk_in (o + i) 240 (by omega), pk_in i 8 hi, hc _ ⟨fun q hq => by rw [xu_ne hq]; exact hs.1 q hq, fun p hp => ?_⟩⟩)
    rw [xu_ap, if_pos rfl]
    by_cases c : p = i
    · rw [if_pos c, c]
    · rw [if_neg c, hs.2 p (by omega)]

theorem s_X7_saves_11 {o : Nat} (ho : o + 8 ≤ 240) {post : Int32 → SX → Prop} (h : ∀ T : SX, (∀ q, q ≠ 16 → T q = M q) → (∀ p, T 16 p = if o ≤ p ∧ p < o + 8 then M 11 (p - o) else M 16 p) → post (nI (o + 8)) T) : kX7_saves_11 M N (nI o) post := by
  unfold kX7_saves_11
  refine pk_loop (fun f i (s : SX) => kX7_saves_11_b2 N (nI o) post f (nI i) s) (fun i s => (∀ q, q ≠ 16 → s q = M q) ∧ (∀ p, s 16 p = if o ≤ p ∧ p < o + i then M 11 (p - o) else M 16 p)) 8 0 M (by decide) ⟨fun _ _ => rfl, fun p => by rw [if_neg (by omega)]⟩ ?_ ?_
  · intro f s hs
    unfold kX7_saves_11_b2
    rw [show (8 : Int32) = nI 8 from rfl, nI_add]
    exact pk_le 8 8 (fun _ => h s hs.1 hs.2) (fun z => by omega)
  · intro f i s hi hs hc
    unfold kX7_saves_11_b2
    rw [nI_add, nI_clamp (show o + i < 2 ^ 31 by omega), nI_clamp (show i < 2 ^ 31 by omega), nI_1 i, hs.1 11 (by decide)]
    refine pk_le 8 i (fun z => by omega) (fun _ => ⟨pk_in i 8 hi, pk_in (o + i) 240 (by omega), hc _ ⟨fun q hq => by rw [xu_ne hq]; exact hs.1 q hq, fun p => ?_⟩⟩)
    rw [xu_ap, if_pos rfl]
    by_cases c : p = o + i
    · rw [if_pos c, if_pos (by omega)]; congr 1; omega
    · rw [if_neg c, hs.2 p]
      by_cases d : o ≤ p ∧ p < o + i
      · rw [if_pos d, if_pos (by omega)]
      · rw [if_neg d, if_neg (by omega)]
theorem s_X7_gives_11 {o : Nat} (ho : o + 8 ≤ 240) {post : Int32 → SX → Prop} (h : ∀ T : SX, (∀ q, q ≠ 11 → T q = M q) → (∀ p, p < 8 → T 11 p = M 16 (o + p)) → post (nI (o + 8)) T) : kX7_gives_11 M N (nI o) post := by
  unfold kX7_gives_11
  refine pk_loop (fun f i (s : SX) => kX7_gives_11_b2 N (nI o) post f (nI i) s) (fun i s => (∀ q, q ≠ 11 → s q = M q) ∧ (∀ p, p < i → s 11 p = M 16 (o + p))) 8 0 M (by decide) ⟨fun _ _ => rfl, fun p hp => absurd hp (by omega)⟩ ?_ ?_
  · intro f s hs
    unfold kX7_gives_11_b2
    rw [show (8 : Int32) = nI 8 from rfl, nI_add]
    exact pk_le 8 8 (fun _ => h s hs.1 hs.2) (fun z => by omega)
  · intro f i s hi hs hc
    unfold kX7_gives_11_b2
    rw [nI_add, nI_clamp (show o + i < 2 ^ 31 by omega), nI_clamp (show i < 2 ^ 31 by omega), nI_1 i, hs.1 16 (by decide)]
    refine pk_le 8 i (fun z => by omega) (fun _ => ⟨pk_in (o + i) 240 (by omega), pk_in i 8 hi, hc _ ⟨fun q hq => by rw [xu_ne hq]; exact hs.1 q hq, fun p hp => ?_⟩⟩)
    rw [xu_ap, if_pos rfl]
    by_cases c : p = i
    · rw [if_pos c, c]
    · rw [if_neg c, hs.2 p (by omega)]

def im_P (M : SX) (m : Nat) (T : SX) : Prop := (∀ q, q ≠ 16 → T q = M q) ∧ ∀ k j, 1 ≤ k → k ≤ m → j < bw_fl k → T 16 (bw_off k + j) = M k j
theorem im_step {m l : Nat} {T T' : SX} (h : im_P M m T) (hm : m + 1 ≤ 11) (hl : l = bw_fl (m + 1)) (t1 : ∀ q, q ≠ 16 → T' q = T q) (t2 : ∀ p, T' 16 p = if bw_off (m + 1) ≤ p ∧ p < bw_off (m + 1) + l then T (m + 1) (p - bw_off (m + 1)) else T 16 p) : im_P M (m + 1) T' := by
  refine ⟨fun q hq => by rw [t1 q hq, h.1 q hq], fun k j k1 k2 hj => ?_⟩
  rw [t2]
  by_cases c : k = m + 1
  · subst c; rw [if_pos (by omega), h.1 _ (by omega)]; congr 1; omega
  · have := bw_off_lt (m + 1) hm k (by omega) k1
    rw [if_neg (by omega)]; exact h.2 k j k1 (by omega) hj
def im_Q (M : SX) (m : Nat) (T : SX) : Prop := (∀ q, (q = 0 ∨ 11 < q) → T q = M q) ∧ ∀ k j, 1 ≤ k → k ≤ m → j < bw_fl k → T k j = M 16 (bw_off k + j)
theorem im_qstep {m l : Nat} {T T' : SX} (h : im_Q M m T) (hm : m + 1 ≤ 11) (hl : l = bw_fl (m + 1)) (t1 : ∀ q, q ≠ m + 1 → T' q = T q) (t2 : ∀ p, p < l → T' (m + 1) p = T 16 (bw_off (m + 1) + p)) : im_Q M (m + 1) T' := by
  refine ⟨fun q hq => by rw [t1 q (by omega), h.1 q hq], fun k j k1 k2 hj => ?_⟩
  by_cases c : k = m + 1
  · subst c; rw [t2 j (by omega), h.1 16 (by omega)]
  · rw [t1 k c]; exact h.2 k j k1 (by omega) hj
theorem s_X7_image_c {T : SX} {post : Int32 → SX → LX → Prop} (h : ∀ N' : LX, (∀ q, q ≠ 17 → N' q = N q) → (∀ y, y < 8 → N' 17 y = N 12 y ∧ N' 17 (8 + y) = N 13 y) → post 1 (xu T 0 6 1) N') : ∃ f, kX7_image_b179 post f (0 : Int32) T N := by
  refine pk_loop (fun f i (s : LX) => kX7_image_b179 post f (nI i) T s) (fun i s => (∀ q, q ≠ 17 → s q = N q) ∧ (∀ y, y < i → s 17 y = N 12 y ∧ s 17 (8 + y) = N 13 y)) 8 0 N (by decide) ⟨fun _ _ => rfl, fun p hp => absurd hp (by omega)⟩ ?_ ?_
  · intro f s hs
    unfold kX7_image_b179
    exact ⟨fun _ => h s hs.1 hs.2, fun z => absurd (by decide) z⟩
  · intro f i s hi hs hc
    unfold kX7_image_b179
    rw [show (8 : Int32) + nI i = nI (8 + i) from nI_add 8 i, nI_clamp (show i < 2 ^ 31 by omega), nI_clamp (show 8 + i < 2 ^ 31 by omega), nI_1 i, xuL_ne (show (13 : Nat) ≠ 17 by decide), hs.1 12 (by decide), hs.1 13 (by decide)]
    refine pk_le 8 i (fun z => by omega) (fun _ => ⟨pk_in i 8 hi, pk_in i 16 (by omega), pk_in i 8 hi, pk_in (8 + i) 16 (by omega), hc _ ⟨fun q hq => by rw [xuL_ne hq, xuL_ne hq]; exact hs.1 q hq, fun y hy => ?_⟩⟩)
    simp only [xuL_ap, if_true]
    by_cases c : y = i
    · subst c; rw [if_neg (by omega), if_pos rfl, if_pos rfl]; exact ⟨rfl, rfl⟩
    · rw [if_neg (by omega), if_neg c, if_neg (by omega), if_neg (by omega)]; exact hs.2 y (by omega)
theorem s_X7_restore_c {T : SX} {post : Int32 → SX → LX → Prop} (h : ∀ N' : LX, (∀ q, q ≠ 12 → q ≠ 13 → N' q = N q) → (∀ y, y < 8 → N' 12 y = N 17 y ∧ N' 13 y = N 17 (8 + y)) → post 1 T N') : ∃ f, kX7_restore_b189 post f (0 : Int32) T N := by
  refine pk_loop (fun f i (s : LX) => kX7_restore_b189 post f (nI i) T s) (fun i s => (∀ q, q ≠ 12 → q ≠ 13 → s q = N q) ∧ (∀ y, y < i → s 12 y = N 17 y ∧ s 13 y = N 17 (8 + y))) 8 0 N (by decide) ⟨fun _ _ _ => rfl, fun p hp => absurd hp (by omega)⟩ ?_ ?_
  · intro f s hs
    unfold kX7_restore_b189
    exact ⟨fun _ => h s hs.1 hs.2, fun z => absurd (by decide) z⟩
  · intro f i s hi hs hc
    unfold kX7_restore_b189
    rw [show (8 : Int32) + nI i = nI (8 + i) from nI_add 8 i, nI_clamp (show i < 2 ^ 31 by omega), nI_clamp (show 8 + i < 2 ^ 31 by omega), nI_1 i, xuL_ne (show (17 : Nat) ≠ 12 by decide), hs.1 17 (by decide) (by decide)]
    refine pk_le 8 i (fun z => by omega) (fun _ => ⟨pk_in i 16 (by omega), pk_in i 8 hi, pk_in (8 + i) 16 (by omega), pk_in i 8 hi, hc _ ⟨fun q h1 h2 => by rw [xuL_ne h2, xuL_ne h1]; exact hs.1 q h1 h2, fun y hy => ?_⟩⟩)
    simp only [xuL_ap, show ¬ ((12 : Nat) = 13) by decide, show ¬ ((13 : Nat) = 12) by decide, if_true, if_false]
    by_cases c : y = i
    · subst c; rw [if_pos rfl, if_pos rfl]; exact ⟨rfl, rfl⟩
    · rw [if_neg c, if_neg c]; exact hs.2 y (by omega)
theorem s_X7_image {post : Int32 → SX → LX → Prop} (h : ∀ (M' : SX) (N' : LX), (∀ q, q ≠ 0 → q ≠ 16 → M' q = M q) → (∀ j, j ≠ 6 → M' 0 j = M 0 j) → M' 0 6 = 1 → (∀ k j, 1 ≤ k → k ≤ 11 → j < bw_fl k → M' 16 (bw_off k + j) = M k j) → M' 16 222 = M 0 0 → M' 16 223 = M 0 1 → M' 16 224 = M 0 2 → (∀ q, q ≠ 17 → N' q = N q) → (∀ y, y < 8 → N' 17 y = N 12 y ∧ N' 17 (8 + y) = N 13 y) → post 1 M' N') : kX7_image M N post := by
  unfold kX7_image

  refine s_X7_saves_1 (o := 0) (by decide) (fun T1 a1 b1 => ?_)
  have P1 : im_P M 1 T1 := im_step (m := 0) (T := M) ⟨fun _ _ => rfl, fun k j k1 k2 _ => absurd k2 (by omega)⟩ (by decide) rfl a1 b1
  refine s_X7_saves_2 (o := 6) (by decide) (fun T2 a2 b2 => ?_)
  have P2 : im_P M 2 T2 := im_step (m := 1) P1 (by decide) rfl a2 b2
  refine s_X7_saves_3 (o := 30) (by decide) (fun T3 a3 b3 => ?_)
  have P3 : im_P M 3 T3 := im_step (m := 2) P2 (by decide) rfl a3 b3
  refine s_X7_saves_4 (o := 54) (by decide) (fun T4 a4 b4 => ?_)
  have P4 : im_P M 4 T4 := im_step (m := 3) P3 (by decide) rfl a4 b4
  refine s_X7_saves_5 (o := 78) (by decide) (fun T5 a5 b5 => ?_)
  have P5 : im_P M 5 T5 := im_step (m := 4) P4 (by decide) rfl a5 b5
  refine s_X7_saves_6 (o := 174) (by decide) (fun T6 a6 b6 => ?_)
  have P6 : im_P M 6 T6 := im_step (m := 5) P5 (by decide) rfl a6 b6
  refine s_X7_saves_7 (o := 182) (by decide) (fun T7 a7 b7 => ?_)
  have P7 : im_P M 7 T7 := im_step (m := 6) P6 (by decide) rfl a7 b7
  refine s_X7_saves_8 (o := 190) (by decide) (fun T8 a8 b8 => ?_)
  have P8 : im_P M 8 T8 := im_step (m := 7) P7 (by decide) rfl a8 b8
  refine s_X7_saves_9 (o := 198) (by decide) (fun T9 a9 b9 => ?_)
  have P9 : im_P M 9 T9 := im_step (m := 8) P8 (by decide) rfl a9 b9
  refine s_X7_saves_10 (o := 206) (by decide) (fun T10 a10 b10 => ?_)
  have P10 : im_P M 10 T10 := im_step (m := 9) P9 (by decide) rfl a10 b10
  refine s_X7_saves_11 (o := 214) (by decide) (fun T11 a11 b11 => ?_)
  have P11 : im_P M 11 T11 := im_step (m := 10) P10 (by decide) rfl a11 b11
  have e1 : nI (214 + 8) + (1 : Int32) = nI 223 := rfl
  have e2 : nI (214 + 8) + (2 : Int32) = nI 224 := rfl
  have c0 : (nI (214 + 8)).toNatClampNeg = 222 := rfl
  have c1 : (nI 223).toNatClampNeg = 223 := rfl
  have c2 : (nI 224).toNatClampNeg = 224 := rfl
  rw [e1, e2, c0, c1, c2, xu_ne (show (0 : Nat) ≠ 16 by decide), xu_ne (show (0 : Nat) ≠ 16 by decide), xu_ne (show (0 : Nat) ≠ 16 by decide), P11.1 0 (by decide)]
  refine ⟨pk_in 222 240 (by decide), pk_in 223 240 (by decide), pk_in 224 240 (by decide), s_X7_image_c (fun N' n1 n2 => h _ N' (fun q q1 q2 => ?_) (fun j hj => ?_) ?_ (fun k j k1 k2 hj => ?_) ?_ ?_ ?_ n1 n2)⟩
  · rw [xu_ne q1, xu_ne q2, xu_ne q2, xu_ne q2, P11.1 q q2]
  · rw [xu_ap, if_pos rfl, if_neg hj, xu_ne (by decide), xu_ne (by decide), xu_ne (by decide), P11.1 0 (by decide)]
  · rw [xu_ap, if_pos rfl, if_pos rfl]
  · have := bw_off_le k k2
    rw [xu_ne (by decide), xu_ap, if_pos rfl, if_neg (by omega), xu_ap, if_pos rfl, if_neg (by omega), xu_ap, if_pos rfl, if_neg (by omega)]; exact P11.2 k j k1 k2 hj
  · simp [xu_ap]
  · simp [xu_ap]
  · simp [xu_ap]
theorem s_X7_restore_t (h6 : ¬ M 0 6 = 0) {post : Int32 → SX → LX → Prop} (h : ∀ (M' : SX) (N' : LX), (∀ q, 11 < q → M' q = M q) → (∀ j, 2 < j → M' 0 j = M 0 j) → M' 0 0 = M 16 222 → M' 0 1 = M 16 223 → M' 0 2 = M 16 224 → (∀ k j, 1 ≤ k → k ≤ 11 → j < bw_fl k → M' k j = M 16 (bw_off k + j)) → (∀ q, q ≠ 12 → q ≠ 13 → N' q = N q) → (∀ y, y < 8 → N' 12 y = N 17 y ∧ N' 13 y = N 17 (8 + y)) → post 1 M' N') : kX7_restore M N post := by
  unfold kX7_restore
  refine ⟨fun z => absurd z h6, fun _ => ?_⟩

  refine s_X7_gives_1 (o := 0) (by decide) (fun T1 a1 b1 => ?_)
  have P1 : im_Q M 1 T1 := im_qstep (m := 0) (T := M) ⟨fun _ _ => rfl, fun k j k1 k2 _ => absurd k2 (by omega)⟩ (by decide) rfl a1 b1
  refine s_X7_gives_2 (o := 6) (by decide) (fun T2 a2 b2 => ?_)
  have P2 : im_Q M 2 T2 := im_qstep (m := 1) P1 (by decide) rfl a2 b2
  refine s_X7_gives_3 (o := 30) (by decide) (fun T3 a3 b3 => ?_)
  have P3 : im_Q M 3 T3 := im_qstep (m := 2) P2 (by decide) rfl a3 b3
  refine s_X7_gives_4 (o := 54) (by decide) (fun T4 a4 b4 => ?_)
  have P4 : im_Q M 4 T4 := im_qstep (m := 3) P3 (by decide) rfl a4 b4
  refine s_X7_gives_5 (o := 78) (by decide) (fun T5 a5 b5 => ?_)
  have P5 : im_Q M 5 T5 := im_qstep (m := 4) P4 (by decide) rfl a5 b5
  refine s_X7_gives_6 (o := 174) (by decide) (fun T6 a6 b6 => ?_)
  have P6 : im_Q M 6 T6 := im_qstep (m := 5) P5 (by decide) rfl a6 b6
  refine s_X7_gives_7 (o := 182) (by decide) (fun T7 a7 b7 => ?_)
  have P7 : im_Q M 7 T7 := im_qstep (m := 6) P6 (by decide) rfl a7 b7
  refine s_X7_gives_8 (o := 190) (by decide) (fun T8 a8 b8 => ?_)
  have P8 : im_Q M 8 T8 := im_qstep (m := 7) P7 (by decide) rfl a8 b8
  refine s_X7_gives_9 (o := 198) (by decide) (fun T9 a9 b9 => ?_)
  have P9 : im_Q M 9 T9 := im_qstep (m := 8) P8 (by decide) rfl a9 b9
  refine s_X7_gives_10 (o := 206) (by decide) (fun T10 a10 b10 => ?_)
  have P10 : im_Q M 10 T10 := im_qstep (m := 9) P9 (by decide) rfl a10 b10
  refine s_X7_gives_11 (o := 214) (by decide) (fun T11 a11 b11 => ?_)
  have P11 : im_Q M 11 T11 := im_qstep (m := 10) P10 (by decide) rfl a11 b11
  have e1 : nI (214 + 8) + (1 : Int32) = nI 223 := rfl
  have e2 : nI (214 + 8) + (2 : Int32) = nI 224 := rfl
  have c0 : (nI (214 + 8)).toNatClampNeg = 222 := rfl
  have c1 : (nI 223).toNatClampNeg = 223 := rfl
  have c2 : (nI 224).toNatClampNeg = 224 := rfl
  rw [e1, e2, c0, c1, c2, xu_ne (show (16 : Nat) ≠ 0 by decide), xu_ne (show (16 : Nat) ≠ 0 by decide), xu_ne (show (16 : Nat) ≠ 0 by decide), P11.1 16 (by decide)]
  refine ⟨pk_in 222 240 (by decide), pk_in 223 240 (by decide), pk_in 224 240 (by decide), s_X7_restore_c (fun N' n1 n2 => h _ N' (fun q q1 => ?_) (fun j hj => ?_) ?_ ?_ ?_ (fun k j k1 k2 hj => ?_) n1 n2)⟩
  · rw [xu_ne (by omega), xu_ne (by omega), xu_ne (by omega), P11.1 q (by omega)]
  · rw [xu_ap, if_pos rfl, if_neg (by omega), xu_ap, if_pos rfl, if_neg (by omega), xu_ap, if_pos rfl, if_neg (by omega), P11.1 0 (by decide)]
  · simp [xu_ap]
  · simp [xu_ap]
  · simp [xu_ap]
  · rw [xu_ne (by omega), xu_ne (by omega), xu_ne (by omega)]; exact P11.2 k j k1 k2 hj
theorem ok_image (hR : bw_R S L M N) : kX6_image S L (fun r S1 L1 => kX7_image M N (fun r' M1 N1 => r = r' ∧ bw_R S1 L1 M1 N1)) := by
  obtain ⟨⟨b, hm⟩, hr⟩ := id hR
  have hn := bo_n hm.1
  unfold kX6_image
  refine s_X5_takeFrom_17 hm.2.2.1 hm.1 hm.2.2.2.1 (fun S' L' s1 s2 s3 s4 => s_X7_image (fun M' N' m1 m2 m3 m4 m5 m6 m7 n1 n2 => ⟨rfl, ⟨⟨b, ?_⟩, Or.inr ⟨?_, m3, b, hm.1, hm.2.1, ?_, ?_, ⟨⟨?_, ?_, ?_⟩, fun k j k1 k2 hj => ?_, fun y hy => ?_⟩⟩, ?_, ?_⟩⟩))
  · exact bw_main_keep hm (fun k k1 k2 => by rw [xu_ne (by omega), s1 k (by omega)]) (fun k k1 k2 => s2 k (by omega) (by omega)) (fun k k1 k2 => m1 k (by omega) (by omega)) (fun j hj => m2 j (by omega)) (n1 12 (by decide)) (n1 13 (by decide))
  · rw [xu_ap, if_pos rfl, if_pos rfl]
  · exact bw_X_keep s3 (fun k k1 k2 => xu_ne (by omega))
  · exact bw_CX_keep s4 (by rw [xu_ne (by decide)]) (fun _ _ _ => rfl)
  · rw [m5]; exact bm_rich hm.2.2.2.2.1
  · rw [m6]; exact bm_more hm.2.2.2.2.1
  · rw [m7]; exact bm_n hm.2.2.2.2.1
  · rw [m4 k j k1 k2 (by have := bw_ln_fl (k := k) hn; omega)]; exact hm.2.2.2.2.1.2 k j k1 k2 hj
  · have q := hm.2.2.2.2.2 y hy
    rw [Nat.zero_add] at q ⊢
    rw [(n2 y hy).1, (n2 y hy).2]
    exact q
  · exact bw_tape_keep hr.2.1 (by rw [xu_ne (by decide), s1 37 (by decide)]) (by rw [xu_ne (by decide), s1 38 (by decide)]) (m1 14 (by decide) (by decide)) (m2 3 (by decide))
  · exact bw_sh_keep hr.2.2 (by rw [xu_ne (by decide), s1 50 (by decide)]) (by rw [xu_ne (by decide), s1 51 (by decide)]) (by rw [xu_ne (by decide), s1 52 (by decide)]) (m1 18 (by decide) (by decide)) (m1 19 (by decide) (by decide)) (m1 20 (by decide) (by decide))
theorem ok_restore (hR : bw_R S L M N) : kX6_restore S L (fun r S1 L1 => kX7_restore M N (fun r' M1 N1 => r = r' ∧ bw_R S1 L1 M1 N1)) := by
  obtain ⟨⟨b, hm⟩, hr⟩ := id hR
  unfold kX6_restore
  rcases id hr.1 with ⟨i1, i2⟩ | ⟨i1, i2, b2, j1, j2, j3, j4, ⟨j5, j6, j7⟩, j8, j9⟩
  · refine ⟨fun _ => ?_, fun z => absurd i1 z⟩
    unfold kX7_restore
    exact ⟨fun _ => ⟨rfl, hR⟩, fun z => absurd i2 z⟩
  · have hn := bo_n j1
    refine ⟨fun z => by rw [i1] at z; exact absurd z (by decide), fun _ => s_X5_takeFrom_1 j3 j1 j4 (fun S' L' s1 s2 s3 s4 => s_X7_restore_t (by rw [i2]; decide) (fun M' N' m1 m2 m3 m4 m5 m6 n1 n2 => ⟨rfl, ⟨⟨b2, j1, j2, s3, s4, ⟨⟨?_, ?_, ?_⟩, fun k j k1 k2 hj => ?_⟩, fun y hy => ?_⟩, ?_, ?_, ?_⟩⟩))⟩
    · rw [m3]; exact j5
    · rw [m4]; exact j6
    · rw [m5]; exact j7
    · rw [m6 k j k1 k2 (by have := bw_ln_fl (k := k) hn; omega)]; exact j8 k j k1 k2 hj
    · have q := j9 y hy
      rw [Nat.zero_add] at q ⊢
      rw [(n2 y hy).1, (n2 y hy).2]
      exact q
    · exact bw_img_keep hr.1 (s1 0 (by decide)) (fun k k1 k2 => s1 k (by omega)) (fun k k1 => s2 k (by omega) (by omega)) (m1 16 (by decide)) (m2 6 (by decide)) (n1 17 (by decide) (by decide))
    · exact bw_tape_keep hr.2.1 (by rw [s1 37 (by decide)]) (s1 38 (by decide)) (m1 14 (by decide)) (m2 3 (by decide))
    · exact bw_sh_keep hr.2.2 (s1 50 (by decide)) (s1 51 (by decide)) (s1 52 (by decide)) (m1 18 (by decide)) (m1 19 (by decide)) (m1 20 (by decide))
end OPS
