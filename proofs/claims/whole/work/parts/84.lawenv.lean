/-! ===== the worlds at the start, and that they are alike ===== -/
def lw_h (l : List Nat) (k : Nat) : Nat := l.getD k 0
def lw_S0 : SX := fun k => match k with
  | 1 => fun j => match j with
    | 0 => 99999
    | _ => 0
  | 2 => upd (upd (upd (upd (upd (upd (fun _ => 0) 0 (1 : Int32)) 1 (1 : Int32)) 2 (1 : Int32)) 3 (1 : Int32)) 4 (1 : Int32)) 5 (1 : Int32)
  | 7 => upd (upd (upd (upd (upd (upd (upd (upd (fun _ => 0) 0 (9 : Int32)) 1 (9 : Int32)) 2 (9 : Int32)) 3 (9 : Int32)) 4 (9 : Int32)) 5 (9 : Int32)) 6 (9 : Int32)) 7 (9 : Int32)
  | 13 => upd (upd (upd (upd (upd (upd (upd (upd (fun _ => 0) 0 (1000 : Int32)) 1 (1000 : Int32)) 2 (1000 : Int32)) 3 (1000 : Int32)) 4 (1000 : Int32)) 5 (1000 : Int32)) 6 (1000 : Int32)) 7 (1000 : Int32)
  | 14 => upd (upd (upd (upd (upd (upd (upd (upd (fun _ => 0) 0 (100 : Int32)) 1 (100 : Int32)) 2 (100 : Int32)) 3 (100 : Int32)) 4 (100 : Int32)) 5 (100 : Int32)) 6 (100 : Int32)) 7 (100 : Int32)
  | 17 => fun j => match j with
    | 0 => 99999
    | _ => 0
  | 18 => upd (upd (upd (upd (upd (upd (fun _ => 0) 0 (1 : Int32)) 1 (1 : Int32)) 2 (1 : Int32)) 3 (1 : Int32)) 4 (1 : Int32)) 5 (1 : Int32)
  | 23 => upd (upd (upd (upd (upd (upd (upd (upd (fun _ => 0) 0 (9 : Int32)) 1 (9 : Int32)) 2 (9 : Int32)) 3 (9 : Int32)) 4 (9 : Int32)) 5 (9 : Int32)) 6 (9 : Int32)) 7 (9 : Int32)
  | 29 => upd (upd (upd (upd (upd (upd (upd (upd (fun _ => 0) 0 (1000 : Int32)) 1 (1000 : Int32)) 2 (1000 : Int32)) 3 (1000 : Int32)) 4 (1000 : Int32)) 5 (1000 : Int32)) 6 (1000 : Int32)) 7 (1000 : Int32)
  | 30 => upd (upd (upd (upd (upd (upd (upd (upd (fun _ => 0) 0 (100 : Int32)) 1 (100 : Int32)) 2 (100 : Int32)) 3 (100 : Int32)) 4 (100 : Int32)) 5 (100 : Int32)) 6 (100 : Int32)) 7 (100 : Int32)
  | 43 => upd (upd (upd (upd (upd (upd (upd (upd (fun _ => 0) 0 (9 : Int32)) 1 (9 : Int32)) 2 (9 : Int32)) 3 (9 : Int32)) 4 (9 : Int32)) 5 (9 : Int32)) 6 (9 : Int32)) 7 (9 : Int32)
  | 50 => upd (upd (upd (upd (fun _ => 0) 0 (-1 : Int32)) 1 (-1 : Int32)) 2 (-1 : Int32)) 3 (-1 : Int32)
  | _ => fun _ => 0
def lw_L0 : LX := fun _ _ => 0
def lw_M0 : SX := fun k => match k with
  | 0 => fun j => match j with
    | 0 => 99999
    | _ => 0
  | 1 => upd (upd (upd (upd (upd (upd (fun _ => 0) 0 (1 : Int32)) 1 (1 : Int32)) 2 (1 : Int32)) 3 (1 : Int32)) 4 (1 : Int32)) 5 (1 : Int32)
  | 9 => upd (upd (upd (upd (upd (upd (upd (upd (fun _ => 0) 0 (9 : Int32)) 1 (9 : Int32)) 2 (9 : Int32)) 3 (9 : Int32)) 4 (9 : Int32)) 5 (9 : Int32)) 6 (9 : Int32)) 7 (9 : Int32)
  | 10 => upd (upd (upd (upd (upd (upd (upd (upd (fun _ => 0) 0 (1000 : Int32)) 1 (1000 : Int32)) 2 (1000 : Int32)) 3 (1000 : Int32)) 4 (1000 : Int32)) 5 (1000 : Int32)) 6 (1000 : Int32)) 7 (1000 : Int32)
  | 11 => upd (upd (upd (upd (upd (upd (upd (upd (fun _ => 0) 0 (100 : Int32)) 1 (100 : Int32)) 2 (100 : Int32)) 3 (100 : Int32)) 4 (100 : Int32)) 5 (100 : Int32)) 6 (100 : Int32)) 7 (100 : Int32)
  | 18 => upd (upd (upd (upd (fun _ => 0) 0 (-1 : Int32)) 1 (-1 : Int32)) 2 (-1 : Int32)) 3 (-1 : Int32)
  | _ => fun _ => 0
def lw_N0 : LX := fun k => match k with
  | 13 => vp_updL (vp_updL (vp_updL (vp_updL (vp_updL (vp_updL (vp_updL (vp_updL (fun _ => 0) 0 (-1 : Int64)) 1 (-1 : Int64)) 2 (-1 : Int64)) 3 (-1 : Int64)) 4 (-1 : Int64)) 5 (-1 : Int64)) 6 (-1 : Int64)) 7 (-1 : Int64)
  | _ => fun _ => 0
set_option maxRecDepth 100000 in
theorem lw_w6 (h0 q5 q5_q7 q5_q19 q5_q19_q7 q5_q19_q15 q5_q19_q23 q5_q19_q31 q5_q30 q5_q30_q7 q5_q30_q15 q5_q30_q23 q5_q30_q31 q5_q43 q5_q51 q5_q59 q5_q67 q16 q16_q7 q16_q19 q16_q19_q7 q16_q19_q15 q16_q19_q23 q16_q19_q31 q16_q30 q16_q30_q7 q16_q30_q15 q16_q30_q23 q16_q30_q31 q16_q43 q16_q51 q16_q59 q16_q67 q27 q27_q7 q27_q15 q27_q23 q38 q38_q7 q49 q49_q7 q49_q15 q49_q23 q49_q31 q60 q60_q7 q60_q15 q60_q23 q60_q31 q71 q71_q6 q71_q13 q71_q21 : Nat) (cI cJ : ClassId) : wX (lw_h [h0, q5, q5_q7, q5_q19, q5_q19_q7, q5_q19_q15, q5_q19_q23, q5_q19_q31, q5_q30, q5_q30_q7, q5_q30_q15, q5_q30_q23, q5_q30_q31, q5_q43, q5_q51, q5_q59, q5_q67, q16, q16_q7, q16_q19, q16_q19_q7, q16_q19_q15, q16_q19_q23, q16_q19_q31, q16_q30, q16_q30_q7, q16_q30_q15, q16_q30_q23, q16_q30_q31, q16_q43, q16_q51, q16_q59, q16_q67, q27, q27_q7, q27_q15, q27_q23, q38, q38_q7, q49, q49_q7, q49_q15, q49_q23, q49_q31, q60, q60_q7, q60_q15, q60_q23, q60_q31, q71, q71_q6, q71_q13, q71_q21]) cI cJ lw_S0 lw_L0 = [(h0, .inr (6, [.ref q5, .ref q16, .int 0, .ref q27, .ref q38, .ref q49, .ref q60, .ref q71])), (q5, .inr (5, [.ref q5_q7, .int (99999 : Int32), .int 0, .ref q5_q19, .ref q5_q30, .ref q5_q43, .ref q5_q51, .int 0, .ref q5_q59, .ref q5_q67])), (q5_q7, .inl (cI, 6, .inl (upd (upd (upd (upd (upd (upd (fun _ => 0) 0 (1 : Int32)) 1 (1 : Int32)) 2 (1 : Int32)) 3 (1 : Int32)) 4 (1 : Int32)) 5 (1 : Int32)))), (q5_q19, .inr (0, [.ref q5_q19_q7, .ref q5_q19_q15, .ref q5_q19_q23, .ref q5_q19_q31])), (q5_q19_q7, .inl (cI, 8, .inl (fun _ => 0))), (q5_q19_q15, .inl (cI, 8, .inl (fun _ => 0))), (q5_q19_q23, .inl (cI, 8, .inl (fun _ => 0))), (q5_q19_q31, .inl (cI, 8, .inl (upd (upd (upd (upd (upd (upd (upd (upd (fun _ => 0) 0 (9 : Int32)) 1 (9 : Int32)) 2 (9 : Int32)) 3 (9 : Int32)) 4 (9 : Int32)) 5 (9 : Int32)) 6 (9 : Int32)) 7 (9 : Int32)))), (q5_q30, .inr (4, [.int 0, .ref q5_q30_q7, .ref q5_q30_q15, .ref q5_q30_q23, .ref q5_q30_q31])), (q5_q30_q7, .inl (cI, 24, .inl (fun _ => 0))), (q5_q30_q15, .inl (cI, 24, .inl (fun _ => 0))), (q5_q30_q23, .inl (cI, 24, .inl (fun _ => 0))), (q5_q30_q31, .inl (cI, 96, .inl (fun _ => 0))), (q5_q43, .inl (cI, 8, .inl (upd (upd (upd (upd (upd (upd (upd (upd (fun _ => 0) 0 (1000 : Int32)) 1 (1000 : Int32)) 2 (1000 : Int32)) 3 (1000 : Int32)) 4 (1000 : Int32)) 5 (1000 : Int32)) 6 (1000 : Int32)) 7 (1000 : Int32)))), (q5_q51, .inl (cI, 8, .inl (upd (upd (upd (upd (upd (upd (upd (upd (fun _ => 0) 0 (100 : Int32)) 1 (100 : Int32)) 2 (100 : Int32)) 3 (100 : Int32)) 4 (100 : Int32)) 5 (100 : Int32)) 6 (100 : Int32)) 7 (100 : Int32)))), (q5_q59, .inl (cJ, 8, .inr (.inl (fun _ => 0)))), (q5_q67, .inl (cJ, 8, .inr (.inl (fun _ => 0)))), (q16, .inr (5, [.ref q16_q7, .int (99999 : Int32), .int 0, .ref q16_q19, .ref q16_q30, .ref q16_q43, .ref q16_q51, .int 0, .ref q16_q59, .ref q16_q67])), (q16_q7, .inl (cI, 6, .inl (upd (upd (upd (upd (upd (upd (fun _ => 0) 0 (1 : Int32)) 1 (1 : Int32)) 2 (1 : Int32)) 3 (1 : Int32)) 4 (1 : Int32)) 5 (1 : Int32)))), (q16_q19, .inr (0, [.ref q16_q19_q7, .ref q16_q19_q15, .ref q16_q19_q23, .ref q16_q19_q31])), (q16_q19_q7, .inl (cI, 8, .inl (fun _ => 0))), (q16_q19_q15, .inl (cI, 8, .inl (fun _ => 0))), (q16_q19_q23, .inl (cI, 8, .inl (fun _ => 0))), (q16_q19_q31, .inl (cI, 8, .inl (upd (upd (upd (upd (upd (upd (upd (upd (fun _ => 0) 0 (9 : Int32)) 1 (9 : Int32)) 2 (9 : Int32)) 3 (9 : Int32)) 4 (9 : Int32)) 5 (9 : Int32)) 6 (9 : Int32)) 7 (9 : Int32)))), (q16_q30, .inr (4, [.int 0, .ref q16_q30_q7, .ref q16_q30_q15, .ref q16_q30_q23, .ref q16_q30_q31])), (q16_q30_q7, .inl (cI, 24, .inl (fun _ => 0))), (q16_q30_q15, .inl (cI, 24, .inl (fun _ => 0))), (q16_q30_q23, .inl (cI, 24, .inl (fun _ => 0))), (q16_q30_q31, .inl (cI, 96, .inl (fun _ => 0))), (q16_q43, .inl (cI, 8, .inl (upd (upd (upd (upd (upd (upd (upd (upd (fun _ => 0) 0 (1000 : Int32)) 1 (1000 : Int32)) 2 (1000 : Int32)) 3 (1000 : Int32)) 4 (1000 : Int32)) 5 (1000 : Int32)) 6 (1000 : Int32)) 7 (1000 : Int32)))), (q16_q51, .inl (cI, 8, .inl (upd (upd (upd (upd (upd (upd (upd (upd (fun _ => 0) 0 (100 : Int32)) 1 (100 : Int32)) 2 (100 : Int32)) 3 (100 : Int32)) 4 (100 : Int32)) 5 (100 : Int32)) 6 (100 : Int32)) 7 (100 : Int32)))), (q16_q59, .inl (cJ, 8, .inr (.inl (fun _ => 0)))), (q16_q67, .inl (cJ, 8, .inr (.inl (fun _ => 0)))), (q27, .inr (1, [.int 0, .ref q27_q7, .ref q27_q15, .ref q27_q23])), (q27_q7, .inl (cI, 24, .inl (fun _ => 0))), (q27_q15, .inl (cI, 24, .inl (fun _ => 0))), (q27_q23, .inl (cI, 24, .inl (fun _ => 0))), (q38, .inr (3, [.int 0, .int 0, .ref q38_q7])), (q38_q7, .inl (cI, 100, .inl (fun _ => 0))), (q49, .inr (0, [.ref q49_q7, .ref q49_q15, .ref q49_q23, .ref q49_q31])), (q49_q7, .inl (cI, 8, .inl (fun _ => 0))), (q49_q15, .inl (cI, 8, .inl (fun _ => 0))), (q49_q23, .inl (cI, 8, .inl (fun _ => 0))), (q49_q31, .inl (cI, 8, .inl (upd (upd (upd (upd (upd (upd (upd (upd (fun _ => 0) 0 (9 : Int32)) 1 (9 : Int32)) 2 (9 : Int32)) 3 (9 : Int32)) 4 (9 : Int32)) 5 (9 : Int32)) 6 (9 : Int32)) 7 (9 : Int32)))), (q60, .inr (4, [.int 0, .ref q60_q7, .ref q60_q15, .ref q60_q23, .ref q60_q31])), (q60_q7, .inl (cI, 24, .inl (fun _ => 0))), (q60_q15, .inl (cI, 24, .inl (fun _ => 0))), (q60_q23, .inl (cI, 24, .inl (fun _ => 0))), (q60_q31, .inl (cI, 96, .inl (fun _ => 0))), (q71, .inr (2, [.ref q71_q6, .ref q71_q13, .ref q71_q21])), (q71_q6, .inl (cI, 4, .inl (upd (upd (upd (upd (fun _ => 0) 0 (-1 : Int32)) 1 (-1 : Int32)) 2 (-1 : Int32)) 3 (-1 : Int32)))), (q71_q13, .inl (cI, 4, .inl (fun _ => 0))), (q71_q21, .inl (cI, 96, .inl (fun _ => 0)))] := rfl
set_option maxRecDepth 100000 in
theorem lw_w7 (h0 q7 q21 q29 q37 q45 q53 q61 q69 q77 q85 q93 q101 q109 q117 q125 q134 q142 q149 q156 q164 q172 : Nat) (cI cJ : ClassId) : wM (lw_h [h0, q7, q21, q29, q37, q45, q53, q61, q69, q77, q85, q93, q101, q109, q117, q125, q134, q142, q149, q156, q164, q172]) cI cJ lw_M0 lw_N0 = [(h0, .inr (7, [.ref q7, .int (99999 : Int32), .int 0, .int 0, .ref q21, .ref q29, .ref q37, .ref q45, .ref q53, .ref q61, .ref q69, .ref q77, .ref q85, .ref q93, .ref q101, .ref q109, .ref q117, .int 0, .int 0, .int 0, .ref q125, .ref q134, .ref q142, .int 0, .ref q149, .ref q156, .ref q164, .ref q172])), (q7, .inl (cI, 6, .inl (upd (upd (upd (upd (upd (upd (fun _ => 0) 0 (1 : Int32)) 1 (1 : Int32)) 2 (1 : Int32)) 3 (1 : Int32)) 4 (1 : Int32)) 5 (1 : Int32)))), (q21, .inl (cI, 24, .inl (fun _ => 0))), (q29, .inl (cI, 24, .inl (fun _ => 0))), (q37, .inl (cI, 24, .inl (fun _ => 0))), (q45, .inl (cI, 96, .inl (fun _ => 0))), (q53, .inl (cI, 8, .inl (fun _ => 0))), (q61, .inl (cI, 8, .inl (fun _ => 0))), (q69, .inl (cI, 8, .inl (fun _ => 0))), (q77, .inl (cI, 8, .inl (upd (upd (upd (upd (upd (upd (upd (upd (fun _ => 0) 0 (9 : Int32)) 1 (9 : Int32)) 2 (9 : Int32)) 3 (9 : Int32)) 4 (9 : Int32)) 5 (9 : Int32)) 6 (9 : Int32)) 7 (9 : Int32)))), (q85, .inl (cI, 8, .inl (upd (upd (upd (upd (upd (upd (upd (upd (fun _ => 0) 0 (1000 : Int32)) 1 (1000 : Int32)) 2 (1000 : Int32)) 3 (1000 : Int32)) 4 (1000 : Int32)) 5 (1000 : Int32)) 6 (1000 : Int32)) 7 (1000 : Int32)))), (q93, .inl (cI, 8, .inl (upd (upd (upd (upd (upd (upd (upd (upd (fun _ => 0) 0 (100 : Int32)) 1 (100 : Int32)) 2 (100 : Int32)) 3 (100 : Int32)) 4 (100 : Int32)) 5 (100 : Int32)) 6 (100 : Int32)) 7 (100 : Int32)))), (q101, .inl (cJ, 8, .inr (.inl (fun _ => 0)))), (q109, .inl (cJ, 8, .inr (.inl (vp_updL (vp_updL (vp_updL (vp_updL (vp_updL (vp_updL (vp_updL (vp_updL (fun _ => 0) 0 (-1 : Int64)) 1 (-1 : Int64)) 2 (-1 : Int64)) 3 (-1 : Int64)) 4 (-1 : Int64)) 5 (-1 : Int64)) 6 (-1 : Int64)) 7 (-1 : Int64))))), (q117, .inl (cI, 100, .inl (fun _ => 0))), (q125, .inl (cI, 56, .inl (fun _ => 0))), (q134, .inl (cI, 240, .inl (fun _ => 0))), (q142, .inl (cJ, 16, .inr (.inl (fun _ => 0)))), (q149, .inl (cI, 4, .inl (upd (upd (upd (upd (fun _ => 0) 0 (-1 : Int32)) 1 (-1 : Int32)) 2 (-1 : Int32)) 3 (-1 : Int32)))), (q156, .inl (cI, 4, .inl (fun _ => 0))), (q164, .inl (cI, 96, .inl (fun _ => 0))), (q172, .inl (cI, 24, .inl (fun _ => 0)))] := rfl
def lw_b0 : SN := fun k => match k with
  | 0 => fun j => match j with
    | 0 => 99999
    | _ => 0
  | 1 => fun _ => 1
  | 9 => fun _ => 9
  | 10 => fun _ => 1000
  | 11 => fun _ => 100
  | _ => fun _ => 0
theorem lw_ln8 : ∀ k, k ≤ 11 → bw_ln 0 k ≤ 8 := by decide +kernel
theorem lw_bok : ∀ k, k ≤ 11 → ∀ j, j < 8 → 1 ≤ k → j < bw_ln 0 k → bw_lo k ≤ lw_b0 k j ∧ lw_b0 k j ≤ bw_hi k := by decide +kernel
theorem lw_bX : ∀ k, k ≤ 11 → ∀ j, j < 8 → 1 ≤ k → j < bw_ln 0 k → lw_S0 (1 + bw_cx k) j = nI (lw_b0 k j) := by decide +kernel
theorem lw_bM : ∀ k, k ≤ 11 → ∀ j, j < 8 → 1 ≤ k → j < bw_ln 0 k → lw_M0 k j = nI (lw_b0 k j) := by decide +kernel
theorem lw_bN : ∀ y, y < 8 → lw_N0 13 (0 + y) = -1 := by decide +kernel
theorem lw_bs : ∀ k, k < 4 → lw_M0 18 k = lw_S0 50 k ∧ lw_S0 50 k = -1 := by decide +kernel
/-- class and reference are alike when they are new -/
theorem lw_R0 : bw_R lw_S0 lw_L0 lw_M0 lw_N0 := by
  have h8 : ∀ k j, k ≤ 11 → j < bw_ln (lw_b0 0 2) k → j < 8 := fun k j hk hj => Nat.lt_of_lt_of_le hj (lw_ln8 k hk)
  refine ⟨⟨lw_b0, ⟨⟨by decide, by decide, by decide⟩, fun k j h1 h2 hj => lw_bok k h2 j (h8 k j h2 hj) h1 hj⟩, fun y _ => ⟨by show (0 : Nat) ≤ 1; decide, fun z => absurd (show (0 : Nat) = 1 from z) (by decide)⟩, ⟨⟨by decide +kernel, by decide +kernel, by decide +kernel⟩, fun k j h1 h2 hj => lw_bX k h2 j (h8 k j h2 hj) h1 hj⟩, ⟨⟨0, by decide, by decide +kernel, fun y _ => ?_⟩, fun y _ z => absurd (show (0 : Nat) = 1 from z) (by decide)⟩, ⟨⟨by decide +kernel, by decide +kernel, by decide +kernel⟩, fun k j h1 h2 hj => lw_bM k h2 j (h8 k j h2 hj) h1 hj⟩, fun y hy => ⟨fun z => absurd (show (0 : Nat) = 1 from z) (by decide), fun _ => lw_bN y hy⟩⟩, Or.inl ⟨by decide +kernel, by decide +kernel⟩, ⟨0, fun _ => 0, by decide, by decide +kernel, by decide +kernel, fun j hj => absurd hj (Nat.not_lt_zero j)⟩, fun k hk => ⟨(lw_bs k hk).1, Or.inl (lw_bs k hk).2⟩, fun j _ => rfl⟩
  show Nat.testBit 0 y = decide ((0 : Nat) = 1)
  exact (Nat.zero_testBit y).trans (by decide)
theorem lw_nth {w : va_W} {N : Nat} {g : Nat → Nat} (hm : w.map Prod.fst = (List.range N).map g) {k : Nat} (hk : k < N) : ∃ q, w[k]? = some q ∧ q.1 = g k := by
  have h1 : (w.map Prod.fst)[k]? = some (g k) := by rw [hm, List.getElem?_map, List.getElem?_range hk]; rfl
  rw [List.getElem?_map] at h1
  cases hq : w[k]? with
  | none => rw [hq] at h1; cases h1
  | some q => rw [hq] at h1; exact ⟨q, rfl, Option.some.inj h1⟩
theorem lw_dis {A : Nat → Prop} {w : va_W} {N : Nat} {g : Nat → Nat} (hm : w.map Prod.fst = (List.range N).map g) (hD : va_D A w) : xdis N g ∧ ∀ k, k < N → A (g k) := by
  refine ⟨fun i j hi hj e => ?_, fun k hk => ?_⟩
  · obtain ⟨p, hp, ep⟩ := lw_nth hm hi
    obtain ⟨q, hq, eq⟩ := lw_nth hm hj
    exact hD.1 i j p q hp hq (by rw [ep, eq]; exact e)
  · obtain ⟨q, hq, e⟩ := lw_nth hm hk
    rw [← e]; exact hD.2 k q hq
theorem lw_P2 {D : va_G} {cl : List vw_C} {a b : va_W} {H : Heap} (h : va_P D cl (a ++ b) H) : va_P D cl a H ∧ va_P D cl b H := by
  refine ⟨fun k q hk => h k q ?_, fun k q hk => h (a.length + k) q ?_⟩
  · rw [List.getElem?_append_left (List.getElem?_eq_some_iff.mp hk).1]; exact hk
  · rw [List.getElem?_append_right (by omega), Nat.add_sub_cancel_left]; exact hk
theorem lw_D2 {A : Nat → Prop} {a b : va_W} (h : va_D A (a ++ b)) : va_D A a ∧ va_D A b ∧ ∀ (i j : Nat) (p q : Nat × va_E), a[i]? = some p → b[j]? = some q → p.1 ≠ q.1 := by
  have hl : ∀ {i : Nat} {p : Nat × va_E}, a[i]? = some p → (a ++ b)[i]? = some p := fun {i p} hi => by rw [List.getElem?_append_left (List.getElem?_eq_some_iff.mp hi).1]; exact hi
  have hr : ∀ {j : Nat} {q : Nat × va_E}, b[j]? = some q → (a ++ b)[a.length + j]? = some q := fun {j q} hj => by rw [List.getElem?_append_right (by omega), Nat.add_sub_cancel_left]; exact hj
  refine ⟨⟨fun i j p q hi hj e => h.1 i j p q (hl hi) (hl hj) e, fun k q hk => h.2 k q (hl hk)⟩, ⟨fun i j p q hi hj e => ?_, fun k q hk => h.2 _ q (hr hk)⟩, fun i j p q hi hj e => ?_⟩
  · have := h.1 _ _ p q (hr hi) (hr hj) e
    omega
  · have h1 := h.1 _ _ p q (hl hi) (hr hj) e
    have h2 := (List.getElem?_eq_some_iff.mp hi).1
    omega
theorem lw_ok_of {h g : Nat → Nat} {B : Nat} {cI cJ : ClassId} {S M : SX} {L N : LX} (hD : va_D (fun q => B ≤ q) (wX h cI cJ S L ++ wM g cI cJ M N)) : lw_ok h g B := by
  obtain ⟨a, b, c⟩ := lw_D2 hD
  obtain ⟨a1, a2⟩ := lw_dis (N := 53) (g := h) (by rfl) a
  obtain ⟨b1, b2⟩ := lw_dis (N := 22) (g := g) (by rfl) b
  refine ⟨a1, b1, a2, b2, fun i j hi hj e => ?_⟩
  obtain ⟨p, hp, ep⟩ := lw_nth (w := wX h cI cJ S L) (N := 53) (g := h) (by rfl) hi
  obtain ⟨q, hq, eq⟩ := lw_nth (w := wM g cI cJ M N) (N := 22) (g := g) (by rfl) hj
  exact c i j p q hp hq (by rw [ep, eq]; exact e)
theorem lw_tb {b : Nat} {s : State} (hts : ∀ w ∈ lw_tbl, w.before #[Value.ref b] s = true) (i : Nat) {w : Cond} (h : tables_1[i]? = some w) : w.before #[Value.ref b] s = true := hts _ (List.mem_append_right _ (List.mem_of_getElem? h))
set_option maxHeartbeats 4000000 in
set_option maxRecDepth 100000 in
/-- what the tables and the start give: the classes, the links among nest mates, the signs -/
theorem lw_env {b : Nat} {s : State} (hts : ∀ w ∈ lw_tbl, w.before #[Value.ref b] s = true) (hgv : (Jvm.Cond.and given_1 narrow_1).before #[Value.ref b] s = true) : ∃ (D : va_G) (cI cJ : ClassId) (t0 : Nat), lE D cI cJ t0 s.heap.size s ∧ cE D cI cJ s := by
  obtain ⟨c0, i0, k0⟩ := u_known (C := RX0) (T := TX0) (N := 4) (n := 4) hts wsL_inX0 (lw_tb hts 28 (by decide +kernel))
  obtain ⟨c1, i1, k1⟩ := u_known (C := RX1) (T := TX1) (N := 4) (n := 4) hts wsL_inX1 (lw_tb hts 135 (by decide +kernel))
  obtain ⟨c2, i2, k2⟩ := u_known (C := RX2) (T := TX2) (N := 3) (n := 3) hts wsL_inX2 (lw_tb hts 177 (by decide +kernel))
  obtain ⟨c3, i3, k3⟩ := u_known (C := RX3) (T := TX3) (N := 3) (n := 3) hts wsL_inX3 (lw_tb hts 156 (by decide +kernel))
  obtain ⟨c4, i4, k4⟩ := u_known (C := RX4) (T := TX4) (N := 5) (n := 5) hts wsL_inX4 (lw_tb hts 56 (by decide +kernel))
  obtain ⟨c5, i5, k5⟩ := u_known (C := RX5) (T := TX5) (N := 10) (n := 10) hts wsL_inX5 (lw_tb hts 21 (by decide +kernel))
  obtain ⟨c6, i6, k6⟩ := u_known (C := RX6) (T := TX6) (N := 8) (n := 8) hts wsL_inX6 (lw_tb hts 13 (by decide +kernel))
  obtain ⟨c7, i7, k7⟩ := u_known (C := RX7) (T := TX7) (N := 28) (n := 28) hts wsL_inX7 (lw_tb hts 680 (by decide +kernel))
  obtain ⟨dC, dI, hKc⟩ : ∃ (dC : Nat → ClassId) (dI : Nat → Nat → Nat), ∀ (k : Nat) (q : vw_C), vwCl[k]? = some q → u_Kn s q.1 q.2.1 q.2.2 (dC k) (dI k) := by
    refine ⟨fun k => [c0, c1, c2, c3, c4, c5, c6, c7].getD k c0, fun k => [i0, i1, i2, i3, i4, i5, i6, i7].getD k i0, ?_⟩
    intro k q hq
    match k, hq with
    | 0, hq => cases hq; exact k0
    | 1, hq => cases hq; exact k1
    | 2, hq => cases hq; exact k2
    | 3, hq => cases hq; exact k3
    | 4, hq => cases hq; exact k4
    | 5, hq => cases hq; exact k5
    | 6, hq => cases hq; exact k6
    | 7, hq => cases hq; exact k7
    | k + 8, hq => simp [vwCl] at hq
  obtain ⟨cI, kI, pI, a1, a2, a3⟩ := Cond.arrayClass_spec (lw_tb hts 54 (w := .arrayClass .int) (by decide +kernel))
  obtain ⟨cJ, kJ, pJ, b1, b2, b3⟩ := Cond.arrayClass_spec (lw_tb hts 133 (w := .arrayClass .long) (by decide +kernel))
  have hK : va_K (dC, dI) vwCl [(cI, .int), (cJ, .long)] s := by
    refine ⟨hKc, fun k q hq => ?_⟩
    match k, hq with
    | 0, hq => cases hq; exact ⟨fun n z => ⟨fun k h => (by cases h), kI, a2, pI, a3⟩, a1⟩
    | 1, hq => cases hq; exact ⟨fun n z => ⟨fun k h => (by cases h), kJ, b2, pJ, b3⟩, b1⟩
    | k + 2, hq => simp at hq
  have hs := flat_of_before _ hgv
  have hA : ∀ a : Nat, a < s.heap.size → ¬ (fun q : Nat => s.heap.size ≤ q) a := fun a ha => Nat.not_le.mpr ha
  have s0 := hs (.arrayOf (.static "BookOfWills$Tape" "MARK_SIGNS" "[C") .char) (by decide +kernel)
  have s1 := va_eqt (hs (.eq (.length (.static "BookOfWills$Tape" "MARK_SIGNS" "[C")) (.int 4)) (by decide +kernel))
  have e0 := va_eqt (hs (.eq (.elem (.static "BookOfWills$Tape" "MARK_SIGNS" "[C") (.int 0)) (.int 76)) (by decide +kernel))
  have e1 := va_eqt (hs (.eq (.elem (.static "BookOfWills$Tape" "MARK_SIGNS" "[C") (.int 1)) (.int 71)) (by decide +kernel))
  have e2 := va_eqt (hs (.eq (.elem (.static "BookOfWills$Tape" "MARK_SIGNS" "[C") (.int 2)) (.int 84)) (by decide +kernel))
  have e3 := va_eqt (hs (.eq (.elem (.static "BookOfWills$Tape" "MARK_SIGNS" "[C") (.int 3)) (.int 87)) (by decide +kernel))
  obtain ⟨t0, ht, hT⟩ := va_Tof (N := 4) (f := fun j => .int (xmk j)) (A := fun q : Nat => s.heap.size ≤ q) (by decide) s0 s1 (fun j hj => by
    rcases (show j = 0 ∨ j = 1 ∨ j = 2 ∨ j = 3 by omega) with rfl | rfl | rfl | rfl
    · exact e0
    · exact e1
    · exact e2
    · exact e3) hA
  have hZ := va_Zof (lw_tb hts 372 (by decide +kernel)) (lw_tb hts 6 (by decide +kernel)) ht hA
  exact ⟨(dC, dI), cI, cJ, t0, ⟨hK, va_Nw.of (w := nTape) rfl (lw_tb hts 353 (by decide +kernel)), va_Nw.of (w := nLiving) rfl (lw_tb hts 520 (by decide +kernel)), va_Nw.of (w := nWorld) rfl (lw_tb hts 564 (by decide +kernel)), hZ, hT⟩, ⟨hK, va_Nw.of (w := nW29) rfl (lw_tb hts 57 (by decide +kernel)), va_Nw.of (w := nB21) rfl (lw_tb hts 136 (by decide +kernel)), va_Nw.of (w := nB28) rfl (lw_tb hts 157 (by decide +kernel)), va_Nw.of (w := nB42) rfl (lw_tb hts 175 (by decide +kernel))⟩⟩
