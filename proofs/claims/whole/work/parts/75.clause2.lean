/-! ===== the class reads a law; wills ===== -/
section TP
variable {tb : Nat → Nat} {tn p : Nat} {S M : SX} {L N : LX}
theorem fr_f {a b : Bool} (h : a = true → b = true) (hb : b = false) : a = false := by cases a; rfl; rw [h rfl] at hb; exact absurd hb (by decide)
theorem s_X3_marks (hT : tpT tb tn) (h5 : (lw5 tb tn p).1.1 = false) (h : tpX tb tn S (lw5 tb tn p).1.2) {v2 v3 v4 v5 : Int32} {post : Int32 → SX → Prop} (hp : ∀ S', frX S S' → tpX tb tn S' (lwS tb tn p).2 → kX0_changeFrom S' L v2 v3 v4 v5 (nI (lb4 (lw6 tb tn p).2 (lw7 tb tn p).2 (lw8 tb tn p).2 (lw9 tb tn p).2)) (fun S127 => post 1 S127)) : ∃ f, kX3_readLaw_b84 L v2 v3 v4 v5 post f (0 : Int32) (0 : Int32) S := by
  have e5 := eta_f h5
  have h6 : (lw6 tb tn p).1.1 = false := by unfold lw6; rw [mC_1]; exact h5
  have e6 := eta_f h6
  have h7 : (lw7 tb tn p).1.1 = false := by unfold lw7; rw [mC_1]; exact h6
  have e7 := eta_f h7
  have h8 : (lw8 tb tn p).1.1 = false := by unfold lw8; rw [mC_1]; exact h7
  have e8 := eta_f h8
  have m6 : mC tb tn 76 (false, (lw5 tb tn p).1.2) = lw6 tb tn p := by rw [← e5]; rfl
  have m7 : mC tb tn 71 (false, (lw6 tb tn p).1.2) = lw7 tb tn p := by rw [← e6]; rfl
  have m8 : mC tb tn 84 (false, (lw7 tb tn p).1.2) = lw8 tb tn p := by rw [← e7]; rfl
  have m9 : mC tb tn 87 (false, (lw8 tb tn p).1.2) = lw9 tb tn p := by rw [← e8]; rfl
  refine ⟨5, ?_⟩
  unfold kX3_readLaw_b84
  refine ⟨fun z => absurd z (by decide), fun _ => ⟨pk_in 0 4 (by decide), s_X3_takes hT (c := 76) (by decide) h (fun S1 f1 t1 => ?_)⟩⟩
  rw [m6] at t1 ⊢
  refine br_same (c := (lw6 tb tn p).2) (K := fun z => kX3_readLaw_b84 L v2 v3 v4 v5 post 4 z (0 + 1) S1) ?_
  unfold kX3_readLaw_b84
  refine ⟨fun z => absurd z (by decide), fun _ => ⟨pk_in 1 4 (by decide), s_X3_takes hT (c := 71) (by decide) t1 (fun S2 f2 t2 => ?_)⟩⟩
  rw [m7] at t2 ⊢
  refine br_same (c := (lw7 tb tn p).2) (K := fun z => kX3_readLaw_b84 L v2 v3 v4 v5 post 3 z (0 + 1 + 1) S2) ?_
  unfold kX3_readLaw_b84
  refine ⟨fun z => absurd z (by decide), fun _ => ⟨pk_in 2 4 (by decide), s_X3_takes hT (c := 84) (by decide) t2 (fun S3 f3 t3 => ?_)⟩⟩
  rw [m8] at t3 ⊢
  refine br_same (c := (lw8 tb tn p).2) (K := fun z => kX3_readLaw_b84 L v2 v3 v4 v5 post 2 z (0 + 1 + 1 + 1) S3) ?_
  unfold kX3_readLaw_b84
  refine ⟨fun z => absurd z (by decide), fun _ => ⟨pk_in 3 4 (by decide), s_X3_takes hT (c := 87) (by decide) t3 (fun S4 f4 t4 => ?_)⟩⟩
  rw [m9] at t4 ⊢
  refine br_same (c := (lw9 tb tn p).2) (K := fun z => kX3_readLaw_b84 L v2 v3 v4 v5 post 1 z (0 + 1 + 1 + 1 + 1) S4) ?_
  unfold kX3_readLaw_b84
  refine ⟨fun _ => ?_, fun z => absurd (by decide) z⟩
  have key := hp S4 (frX_t f1 (frX_t f2 (frX_t f3 f4))) t4
  revert key
  cases (lw6 tb tn p).2 <;> cases (lw7 tb tn p).2 <;> cases (lw8 tb tn p).2 <;> cases (lw9 tb tn p).2 <;> exact id
theorem s_X3_readLaw (hT : tpT tb tn) (h : tpX tb tn S p) {post : Int32 → SX → Prop} (hp : ∀ S', (∀ q, q ≠ 37 → ¬ (40 ≤ q ∧ q ≤ 43) → S' q = S q) → tpX tb tn S' (lwS tb tn p).2 → ((lwS tb tn p).1 = false → ∀ j, j < 8 → S' 40 j = (if lwV tb tn p 0 ≤ j then nI (lwV tb tn p 1) else S 40 j) ∧ S' 41 j = (if lwV tb tn p 0 ≤ j then nI (lwV tb tn p 2) else S 41 j) ∧ S' 42 j = (if lwV tb tn p 0 ≤ j then nI (lwV tb tn p 3) else S 42 j) ∧ S' 43 j = (if lwV tb tn p 0 ≤ j then nI (lwV tb tn p 4) else S 43 j)) → post (bw_i (!(lwS tb tn p).1)) S') : kX3_readLaw S L post := by
  have hF : ∀ S', frX S S' → tpX tb tn S' (lwS tb tn p).2 → (lwS tb tn p).1 = true → post 0 S' := fun S' g1 g2 g3 => by
    have := hp S' (fun q h1 _ => g1 q h1) g2 (fun z => by rw [g3] at z; exact absurd z (by decide))
    rw [g3] at this; exact this
  have hy := mD_le (tb := tb) (tn := tn) (m := 7) (s := (false, p))
  unfold kX3_readLaw
  refine s_X3_readDigit hT (m := 7) (by decide) h (fun S1 f1 (t1 : tpX tb tn S1 (lw1 tb tn p).1.2) => ⟨fun (q : (lw1 tb tn p).1.1 = true) => ⟨fun _ => hF S1 f1 (by rw [lwS1 q]; exact t1) (by rw [lwS1 q]; exact q), fun z => absurd rfl z⟩, fun (q : (lw1 tb tn p).1.1 = false) => ⟨fun z => absurd z (nI_m1 (by omega)), fun _ => ?_⟩⟩)
  refine s_X3_takes hT (c := 58) (by decide) t1 (fun S2 f2 t2 => ?_)
  rw [← eta_f q] at t2 ⊢
  have e2 : lw2 tb tn p = (!(mC tb tn 58 (lw1 tb tn p).1).2, (mC tb tn 58 (lw1 tb tn p).1).1.2) := by unfold lw2; rw [mT_C]
  have t2 : tpX tb tn S2 (lw2 tb tn p).2 := by rw [e2]; exact t2
  refine bw_br (fun q2 => ?_) (fun q2 => ?_)
  · have w2 : (lw2 tb tn p).1 = true := by rw [e2]; show (!_) = true; rw [q2]; rfl
    exact hF S2 (frX_t f1 f2) (by rw [lwS2 w2]; exact t2) (by rw [lwS2 w2]; exact w2)
  have w2 : (lw2 tb tn p).1 = false := by rw [e2]; show (!_) = false; rw [q2]; rfl
  have m3 : mP tb tn 102 9999 (false, (lw2 tb tn p).2) = lw3 tb tn p := by rw [← eta_f w2]; rfl
  refine s_X3_perh hT (c := 102) (m := 9999) (by decide) (by decide) t2 (fun S3 f3 t3 => ?_)
  rw [m3] at t3 ⊢
  have b3 : (lw3 tb tn p).2 ≤ 9999 := mP_le
  refine ⟨fun q3 => ⟨fun _ => hF S3 (frX_t f1 (frX_t f2 f3)) (by rw [lwS3 q3]; exact t3) (by rw [lwS3 q3]; exact q3), fun z => absurd rfl z⟩, fun q3 => ⟨fun z => absurd z (nI_m1 (by omega)), fun _ => ?_⟩⟩
  have m4 : mP tb tn 108 9999 (false, (lw3 tb tn p).1.2) = lw4 tb tn p := by rw [← eta_f q3]; rfl
  refine s_X3_perh hT (c := 108) (m := 9999) (by decide) (by decide) t3 (fun S4 f4 t4 => ?_)
  rw [m4] at t4 ⊢
  have b4 : (lw4 tb tn p).2 ≤ 9999 := mP_le
  refine ⟨fun q4 => ⟨fun _ => hF S4 (frX_t f1 (frX_t f2 (frX_t f3 f4))) (by rw [lwS4 q4]; exact t4) (by rw [lwS4 q4]; exact q4), fun z => absurd rfl z⟩, fun q4 => ⟨fun z => absurd z (nI_m1 (by omega)), fun _ => ?_⟩⟩
  have m5 : mP tb tn 104 999 (false, (lw4 tb tn p).1.2) = lw5 tb tn p := by rw [← eta_f q4]; rfl
  refine s_X3_perh hT (c := 104) (m := 999) (by decide) (by decide) t4 (fun S5 f5 t5 => ?_)
  rw [m5] at t5 ⊢
  have b5 : (lw5 tb tn p).2 ≤ 999 := mP_le
  refine ⟨fun q5 => ⟨fun _ => hF S5 (frX_t f1 (frX_t f2 (frX_t f3 (frX_t f4 f5)))) (by rw [lwS5 q5]; exact t5) (by rw [lwS5 q5]; exact q5), fun z => absurd rfl z⟩, fun q5 => ⟨fun z => absurd z (nI_m1 (by omega)), fun _ => ?_⟩⟩
  refine s_X3_marks hT q5 t5 (fun S6 f6 t6 => s_X0_changeFrom (by omega) (fun S7 f7 g7 => ?_))
  have hw : (lwS tb tn p).1 = false := by rw [lwS_1]; exact q5
  have fX : frX S S6 := frX_t f1 (frX_t f2 (frX_t f3 (frX_t f4 (frX_t f5 f6))))
  have key := hp S7 (fun q h1 h2 => by rw [f7 q h2, fX q h1]) ?_ (fun _ j hj => ?_)
  · rw [hw] at key; exact key
  · unfold tpX; rw [f7 37 (by decide), f7 38 (by decide)]; exact t6
  · have := g7 j hj
    rw [fX 40 (by decide), fX 41 (by decide), fX 42 (by decide), fX 43 (by decide)] at this
    exact this
theorem lwV_le : lwV tb tn p 0 ≤ 7 ∧ lwV tb tn p 1 ≤ 9999 ∧ lwV tb tn p 2 ≤ 9999 ∧ lwV tb tn p 3 ≤ 999 ∧ lwV tb tn p 4 ≤ 15 := ⟨mD_le, mP_le, mP_le, mP_le, lb4_le _ _ _ _⟩
theorem wlV_le : wlV tb tn p 0 ≤ 7 ∧ wlV tb tn p 1 ≤ 5 ∧ wlV tb tn p 2 ≤ 1 ∧ wlV tb tn p 3 ≤ 9999 ∧ wlV tb tn p 4 ≤ 9999 ∧ wlV tb tn p 5 ≤ 9999 ∧ wlV tb tn p 6 ≤ 9999 := ⟨mD_le, mD_le, by show (if (wl3 tb tn p).2 then 0 else 1) ≤ 1; split <;> decide, mN_le, mP_le, mP_le, mP_le⟩
/-! the reference reads a will -/
theorem wl4_C : wl4 tb tn p = if (wl3 tb tn p).2 then (false, (wl3 tb tn p).1.2) else (!(mC tb tn 119 (wl3 tb tn p).1).2, (mC tb tn 119 (wl3 tb tn p).1).1.2) := by
  unfold wl4
  by_cases c : (wl3 tb tn p).2 = true
  · rw [if_pos c, if_pos c]
    refine eta_f ?_
    cases d : (wl2 tb tn p).1.1
    · unfold wl3; rw [mC_1]; exact d
    · unfold wl3 at c; rw [mC_w d] at c; exact absurd c (show ¬ (false = true) by decide)
  · rw [if_neg c, if_neg c, mT_C]
theorem s_X7_readWill (hT : tpT tb tn) {k : Nat} (hk : k + 7 ≤ 56) (h : tpM tb tn M (false, p)) {post : SX → Prop} (hp : ∀ M', frR k M M' → tpM tb tn M' (wlS tb tn p) → ((wlS tb tn p).1 = false → ∀ t, t < 7 → M' 15 (k + t) = nI (wlV tb tn p t)) → post M') : kX7_readWill M N (nI k) post := by
  have a1 : nI k + (1 : Int32) = nI (k + 1) := nI_add k 1
  have a2 : nI k + (2 : Int32) = nI (k + 2) := nI_add k 2
  have a3 : nI k + (3 : Int32) = nI (k + 3) := nI_add k 3
  have a4 : nI k + (4 : Int32) = nI (k + 4) := nI_add k 4
  have a5 : nI k + (5 : Int32) = nI (k + 5) := nI_add k 5
  have a6 : nI k + (6 : Int32) = nI (k + 6) := nI_add k 6
  unfold kX7_readWill
  refine s_X7_digit hT (m := 7) (by decide) h (fun M1 r1 f1 (t1 : tpM tb tn M1 (wl1 tb tn p).1) (v1 : (wl1 tb tn p).1.1 = false → r1 = nI (wl1 tb tn p).2) => ⟨pk_in k 56 (by omega), ?_⟩)
  rw [nI_clamp (show k < 2 ^ 31 by omega), a1]
  refine s_X7_digit hT (m := 5) (by decide) (tpM_15 t1 k r1) (fun M2 r2 f2 (t2 : tpM tb tn M2 (wl2 tb tn p).1) (v2 : (wl2 tb tn p).1.1 = false → r2 = nI (wl2 tb tn p).2) => ⟨pk_in (k + 1) 56 (by omega), ?_⟩)
  rw [nI_clamp (show k + 1 < 2 ^ 31 by omega)]
  refine s_X7_has hT (c := 109) (by decide) (by decide) (tpM_15 t2 (k + 1) r2) (fun M3 f3 (t3 : tpM tb tn M3 (wl3 tb tn p).1) => ?_)
  have hJ : ∀ M4, frM M3 M4 → tpM tb tn M4 (wl4 tb tn p) → kX7_readWill_b70 N (nI k) post (nI (k + 2)) (if (wl3 tb tn p).2 then 0 else 1) M4 := by
    intro M4 f4 t4
    unfold kX7_readWill_b70
    rw [a3, a4, nI_clamp (show k + 2 < 2 ^ 31 by omega), nI_clamp (show k + 3 < 2 ^ 31 by omega)]
    refine ⟨pk_in (k + 2) 56 (by omega), s_X7_number hT (m := 9999) (by decide) (tpM_15 t4 (k + 2) _) (fun M5 r5 f5 (t5 : tpM tb tn M5 (wl5 tb tn p).1) (v5 : (wl5 tb tn p).1.1 = false → r5 = nI (wl5 tb tn p).2) => ⟨pk_in (k + 3) 56 (by omega), ?_⟩)⟩
    refine s_X7_perh hT (c := 108) (m := 9999) (by decide) (by decide) (by decide) (tpM_15 t5 (k + 3) r5) (K := fun r S => kX7_readWill_b113 N (nI k) post (nI (k + 4)) r S) (fun M6 r6 f6 (t6 : tpM tb tn M6 (wl6 tb tn p).1) (v6 : (wl6 tb tn p).1.1 = false → r6 = nI (wl6 tb tn p).2) => ?_)
    unfold kX7_readWill_b113
    rw [a5, nI_clamp (show k + 4 < 2 ^ 31 by omega)]
    refine ⟨pk_in (k + 4) 56 (by omega), s_X7_perh hT (c := 103) (m := 9999) (by decide) (by decide) (by decide) (tpM_15 t6 (k + 4) r6) (K := fun r S => kX7_readWill_b141 N (nI k) post (nI (k + 5)) r S) (fun M7 r7 f7 (t7 : tpM tb tn M7 (wl7 tb tn p).1) (v7 : (wl7 tb tn p).1.1 = false → r7 = nI (wl7 tb tn p).2) => ?_)⟩
    unfold kX7_readWill_b141
    rw [a6, nI_clamp (show k + 5 < 2 ^ 31 by omega), nI_clamp (show k + 6 < 2 ^ 31 by omega)]
    refine ⟨pk_in (k + 5) 56 (by omega), s_X7_perh hT (c := 116) (m := 9999) (by decide) (by decide) (by decide) (tpM_15 t7 (k + 5) r7) (K := fun r S => vp_in (nI (k + 6)) 56 ∧ post (xu S 15 (k + 6) r)) (fun M8 r8 f8 (t8 : tpM tb tn M8 (wlS tb tn p)) (v8 : (wlS tb tn p).1 = false → r8 = nI (wl8 tb tn p).2) => ⟨pk_in (k + 6) 56 (by omega), ?_⟩)⟩
    have c2 : M2 15 = xu M1 15 k r1 15 := f2.1 15 (by decide)
    have c3 : M3 15 = xu M2 15 (k + 1) r2 15 := f3.1 15 (by decide)
    have c4 : M4 15 = M3 15 := f4.1 15 (by decide)
    have c5 : M5 15 = xu M4 15 (k + 2) (if (wl3 tb tn p).2 then 0 else 1) 15 := f5.1 15 (by decide)
    have c6 : M6 15 = xu M5 15 (k + 3) r5 15 := f6.1 15 (by decide)
    have c7 : M7 15 = xu M6 15 (k + 4) r6 15 := f7.1 15 (by decide)
    have c8 : M8 15 = xu M7 15 (k + 5) r7 15 := f8.1 15 (by decide)
    refine hp _ ?_ (tpM_15 t8 _ _) (fun hf t ht => ?_)
    · exact frR_t (frR_M f1) (frR_t (frR_u (t := 0) M1 r1) (frR_t (frR_M f2) (frR_t (frR_u (t := 1) M2 r2) (frR_t (frR_M f3) (frR_t (frR_M f4) (frR_t (frR_u (t := 2) M4 _) (frR_t (frR_M f5) (frR_t (frR_u (t := 3) M5 r5) (frR_t (frR_M f6) (frR_t (frR_u (t := 4) M6 r6) (frR_t (frR_M f7) (frR_t (frR_u (t := 5) M7 r7) (frR_t (frR_M f8) (frR_u (t := 6) M8 _))))))))))))))
    · have w1 := v1 (fr_f (fun z => by rw [wlS1 z]; exact z) hf)
      have w2 := v2 (fr_f (fun z => by rw [wlS2 z]; exact z) hf)
      have w5 := v5 (fr_f (fun z => by rw [wlS5 z]; exact z) hf)
      have w6 := v6 (fr_f (fun z => by rw [wlS6 z]; exact z) hf)
      have w7 := v7 (fr_f (fun z => by rw [wlS7 z]; exact z) hf)
      have w8 := v8 hf
      rcases (show t = 0 ∨ t = 1 ∨ t = 2 ∨ t = 3 ∨ t = 4 ∨ t = 5 ∨ t = 6 by omega) with rfl | rfl | rfl | rfl | rfl | rfl | rfl
      · rw [xu_ap, if_pos rfl, if_neg (by omega), c8, xu_ap, if_pos rfl, if_neg (by omega), c7, xu_ap, if_pos rfl, if_neg (by omega), c6, xu_ap, if_pos rfl, if_neg (by omega), c5, xu_ap, if_pos rfl, if_neg (by omega), c4, c3, xu_ap, if_pos rfl, if_neg (by omega), c2, xu_ap, if_pos rfl, if_pos (by omega), w1]; rfl
      · rw [xu_ap, if_pos rfl, if_neg (by omega), c8, xu_ap, if_pos rfl, if_neg (by omega), c7, xu_ap, if_pos rfl, if_neg (by omega), c6, xu_ap, if_pos rfl, if_neg (by omega), c5, xu_ap, if_pos rfl, if_neg (by omega), c4, c3, xu_ap, if_pos rfl, if_pos rfl, w2]; rfl
      · rw [xu_ap, if_pos rfl, if_neg (by omega), c8, xu_ap, if_pos rfl, if_neg (by omega), c7, xu_ap, if_pos rfl, if_neg (by omega), c6, xu_ap, if_pos rfl, if_neg (by omega), c5, xu_ap, if_pos rfl, if_pos rfl]
        show _ = nI (if (wl3 tb tn p).2 then 0 else 1)
        cases (wl3 tb tn p).2 <;> rfl
      · rw [xu_ap, if_pos rfl, if_neg (by omega), c8, xu_ap, if_pos rfl, if_neg (by omega), c7, xu_ap, if_pos rfl, if_neg (by omega), c6, xu_ap, if_pos rfl, if_pos rfl, w5]; rfl
      · rw [xu_ap, if_pos rfl, if_neg (by omega), c8, xu_ap, if_pos rfl, if_neg (by omega), c7, xu_ap, if_pos rfl, if_pos rfl, w6]; rfl
      · rw [xu_ap, if_pos rfl, if_neg (by omega), c8, xu_ap, if_pos rfl, if_pos rfl, w7]; rfl
      · rw [xu_ap, if_pos rfl, if_pos rfl, w8]; rfl
  rw [show mC tb tn 109 (wl2 tb tn p).1 = wl3 tb tn p from rfl]
  have e4 := wl4_C (tb := tb) (tn := tn) (p := p)
  refine bw_br (fun q => ?_) (fun q => ?_)
  · rw [q] at hJ e4 ⊢
    refine s_X7_has hT (c := 119) (by decide) (by decide) t3 (fun M4 f4 t4 => ?_)
    unfold kX7_readWill_b50
    refine br_same (c := (mC tb tn 119 (wl3 tb tn p).1).2) (K := fun z => kX7_readWill_b51 N (nI k) post (bw_i false) z M4) ?_
    have z2 : (if (mC tb tn 119 (wl3 tb tn p).1).2 then (0 : Int32) else 1) = bw_i (!(mC tb tn 119 (wl3 tb tn p).1).2) := by cases (mC tb tn 119 (wl3 tb tn p).1).2 <;> rfl
    rw [z2]
    unfold kX7_readWill_b51
    rw [a2]
    refine ⟨bw_i01 _, fun _ => hJ _ (frM_t f4 (frM_u5 _ _)) ?_, fun z => absurd rfl z⟩
    rw [e4]; exact tpM_u5 t4
  · rw [q] at hJ e4 ⊢
    unfold kX7_readWill_b50 kX7_readWill_b51
    rw [a2]
    refine ⟨Or.inl rfl, fun z => absurd z (by decide), fun _ => hJ _ (frM_u5 _ _) ?_⟩
    rw [e4]; exact tpM_u5 (w := false) t3
end TP
