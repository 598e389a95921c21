/-! ===== the class reads a will ===== -/
section TP
variable {tb : Nat → Nat} {tn p : Nat} {S M : SX} {L N : LX}
theorem s_X3_things (hT : tpT tb tn) {n : Nat} (hn : n < 24) (h44 : S 44 0 = nI (n + 1)) (h5 : (wl5 tb tn p).1.1 = false) (h : tpX tb tn S (wl5 tb tn p).1.2) {post : Int32 → SX → Prop} (hF : ∀ S', frX S S' → tpX tb tn S' (wlS tb tn p).2 → (wlS tb tn p).1 = true → post 0 S') (hp : ∀ S', (∀ q, q ≠ 37 → q ≠ 48 → S' q = S q) → tpX tb tn S' (wlS tb tn p).2 → (wlS tb tn p).1 = false → (∀ j, j < 4 * n + 1 → S' 48 j = S 48 j) → S' 48 (4 * n + 1) = nI (wlV tb tn p 4) → S' 48 (4 * n + 2) = nI (wlV tb tn p 5) → S' 48 (4 * n + 3) = nI (wlV tb tn p 6) → post 1 S') : kX3_readThings S L post := by
  unfold kX3_readThings
  have m6 : mP tb tn 108 9999 (false, (wl5 tb tn p).1.2) = wl6 tb tn p := by rw [← eta_f h5]; rfl
  refine s_X3_perh hT (c := 108) (m := 9999) (by decide) (by decide) h (fun S1 f1 t1 => ?_)
  rw [m6] at t1 ⊢
  have b6 : (wl6 tb tn p).2 ≤ 9999 := mP_le
  refine ⟨fun q => ⟨fun _ => hF S1 f1 (by rw [wlS6 q]; exact t1) (by rw [wlS6 q]; exact q), fun z => absurd rfl z⟩, fun q => ⟨fun z => absurd z (nI_m1 (by omega)), fun _ => ?_⟩⟩
  have m7 : mP tb tn 103 9999 (false, (wl6 tb tn p).1.2) = wl7 tb tn p := by rw [← eta_f q]; rfl
  refine s_X3_perh hT (c := 103) (m := 9999) (by decide) (by decide) t1 (fun S2 f2 t2 => ?_)
  rw [m7] at t2 ⊢
  have b7 : (wl7 tb tn p).2 ≤ 9999 := mP_le
  refine ⟨fun q2 => ⟨fun _ => hF S2 (frX_t f1 f2) (by rw [wlS7 q2]; exact t2) (by rw [wlS7 q2]; exact q2), fun z => absurd rfl z⟩, fun q2 => ⟨fun z => absurd z (nI_m1 (by omega)), fun _ => ?_⟩⟩
  have m8 : mP tb tn 116 9999 (false, (wl7 tb tn p).1.2) = wl8 tb tn p := by rw [← eta_f q2]; rfl
  refine s_X3_perh hT (c := 116) (m := 9999) (by decide) (by decide) t2 (fun S3 f3 t3 => ?_)
  rw [m8] at t3 ⊢
  have b8 : (wl8 tb tn p).2 ≤ 9999 := mP_le
  have fX : frX S S3 := frX_t f1 (frX_t f2 f3)
  refine ⟨fun q3 => ⟨fun _ => hF S3 fX t3 q3, fun z => absurd rfl z⟩, fun q3 => ⟨fun z => absurd z (nI_m1 (by omega)), fun _ => ?_⟩⟩
  have e0 : nI (n + 1) - (1 : Int32) = nI n := nI_pred n
  have e4 : nI n * (4 : Int32) = nI (4 * n) := by rw [show (4 : Int32) = nI 4 from rfl, pk_mul, Nat.mul_comm]
  have a1 : nI (4 * n) + (1 : Int32) = nI (4 * n + 1) := nI_add _ 1
  have a2 : nI (4 * n) + (2 : Int32) = nI (4 * n + 2) := nI_add _ 2
  have a3 : nI (4 * n) + (3 : Int32) = nI (4 * n + 3) := nI_add _ 3
  rw [fX 44 (by decide), h44, e0, e4, a1, a2, a3, nI_clamp (show 4 * n + 1 < 2 ^ 31 by omega), nI_clamp (show 4 * n + 2 < 2 ^ 31 by omega), nI_clamp (show 4 * n + 3 < 2 ^ 31 by omega)]
  refine ⟨fun z => absurd z (nI_ne0 (by omega) (by omega)), fun _ => ⟨pk_in (4 * n + 1) 96 (by omega), pk_in (4 * n + 2) 96 (by omega), pk_in (4 * n + 3) 96 (by omega), hp _ (fun q h1 h2 => ?_) ?_ q3 (fun j hj => ?_) ?_ ?_ ?_⟩⟩
  · rw [xu_ne h2, xu_ne h2, xu_ne h2, fX q h1]
  · unfold tpX; rw [xu_ne (by decide), xu_ne (by decide), xu_ne (by decide), xu_ne (by decide), xu_ne (by decide), xu_ne (by decide)]; exact t3
  · rw [xu_ap, if_pos rfl, if_neg (by omega), xu_ap, if_pos rfl, if_neg (by omega), xu_ap, if_pos rfl, if_neg (by omega), fX 48 (by decide)]
  · rw [xu_ap, if_pos rfl, if_neg (by omega), xu_ap, if_pos rfl, if_neg (by omega), xu_ap, if_pos rfl, if_pos rfl]; rfl
  · rw [xu_ap, if_pos rfl, if_neg (by omega), xu_ap, if_pos rfl, if_pos rfl]; rfl
  · rw [xu_ap, if_pos rfl, if_pos rfl]; rfl
theorem s_X3_readWill (hT : tpT tb tn) {n : Nat} (hn : n < 24) (h44 : S 44 0 = nI n) (h : tpX tb tn S p) {post : Int32 → SX → Prop} (hp : ∀ S', (∀ q, q ≠ 37 → ¬ (44 ≤ q ∧ q ≤ 48) → S' q = S q) → tpX tb tn S' (wlS tb tn p).2 → ((wlS tb tn p).1 = false → S' 44 0 = nI (n + 1) ∧ wl_ap (wl_at 43 S) (wl_at 43 S') n (nI (wlV tb tn p 0)) (nI (wlV tb tn p 1)) (nI (wlV tb tn p 2)) (nI (wlV tb tn p 3)) (nI (wlV tb tn p 4)) (nI (wlV tb tn p 5)) (nI (wlV tb tn p 6))) → post (bw_i (!(wlS tb tn p).1)) S') : kX3_readWill S L post := by
  have hF : ∀ S', (∀ q, q ≠ 37 → ¬ (44 ≤ q ∧ q ≤ 48) → S' q = S q) → tpX tb tn S' (wlS tb tn p).2 → (wlS tb tn p).1 = true → post 0 S' := fun S' g1 g2 g3 => by
    have := hp S' g1 g2 (fun z => by rw [g3] at z; exact absurd z (by decide))
    rw [g3] at this; exact this
  unfold kX3_readWill
  have b1 : (wl1 tb tn p).2 ≤ 7 := mD_le
  have b2 : (wl2 tb tn p).2 ≤ 5 := mD_le
  refine s_X3_readDigit hT (m := 7) (by decide) h (fun S1 f1 (t1 : tpX tb tn S1 (wl1 tb tn p).1.2) => ⟨fun (q : (wl1 tb tn p).1.1 = true) => ⟨fun _ => hF S1 (fun q h1 _ => f1 q h1) (by rw [wlS1 q]; exact t1) (by rw [wlS1 q]; exact q), fun z => absurd rfl z⟩, fun (q : (wl1 tb tn p).1.1 = false) => ⟨fun z => absurd z (nI_m1 (by show (wl1 tb tn p).2 < 2 ^ 31; omega)), fun _ => ?_⟩⟩)
  have m2 : mD tb tn 5 (false, (wl1 tb tn p).1.2) = wl2 tb tn p := by rw [← eta_f q]; rfl
  refine s_X3_readDigit hT (m := 5) (by decide) t1 (fun S2 f2 t2 => ?_)
  rw [m2] at t2 ⊢
  refine ⟨fun q2 => ⟨fun _ => hF S2 (fun q h1 _ => (frX_t f1 f2) q h1) (by rw [wlS2 q2]; exact t2) (by rw [wlS2 q2]; exact q2), fun z => absurd rfl z⟩, fun q2 => ⟨fun z => absurd z (nI_m1 (by omega)), fun _ => ?_⟩⟩
  have m3 : mC tb tn 109 (false, (wl2 tb tn p).1.2) = wl3 tb tn p := by rw [← eta_f q2]; rfl
  have h3 : (wl3 tb tn p).1.1 = false := by unfold wl3; rw [mC_1]; exact q2
  have e4 := wl4_C (tb := tb) (tn := tn) (p := p)
  rw [show mD tb tn 7 (false, p) = wl1 tb tn p from rfl]
  refine s_X3_takes hT (c := 109) (by decide) t2 (fun S3 f3 t3 => ?_)
  rw [m3] at t3 ⊢
  have hJ : ∀ S4, frX S S4 → tpX tb tn S4 (wl4 tb tn p).2 → (wl4 tb tn p).1 = false → kX3_readWill_b51 L post (nI (wl1 tb tn p).2) (nI (wl2 tb tn p).2) (bw_i (wl3 tb tn p).2) S4 := by
    intro S4 f4 t4 w4
    unfold kX3_readWill_b51
    have m5 : mN tb tn 9999 (false, (wl4 tb tn p).2) = wl5 tb tn p := by rw [← eta_f w4]; rfl
    refine s_X3_readNumber hT (m := 9999) (by decide) t4 (fun S5 f5 t5 => ?_)
    rw [m5] at t5 ⊢
    have b5 : (wl5 tb tn p).2 ≤ 9999 := mN_le
    refine ⟨fun q5 => ⟨fun _ => hF S5 (fun q h1 _ => (frX_t f4 f5) q h1) (by rw [wlS5 q5]; exact t5) (by rw [wlS5 q5]; exact q5), fun z => absurd rfl z⟩, fun q5 => ⟨fun z => absurd z (nI_m1 (by omega)), fun _ => ?_⟩⟩
    refine br_same (c := (wl3 tb tn p).2) (K := fun z => kX3_readWill_b81 L post (nI (wl5 tb tn p).2) (nI (wl1 tb tn p).2) (nI (wl2 tb tn p).2) z S5) ?_
    unfold kX3_readWill_b81
    have fX : frX S S5 := frX_t f4 f5
    refine s_X4_add_44 (by rw [fX 44 (by decide)]; exact h44) hn (fun S6 g1 g2 g3 => ?_)
    refine s_X3_things hT hn g2 q5 (by unfold tpX; rw [g1 37 (by decide), g1 38 (by decide)]; exact t5) (fun S7 f7 t7 w7 => ⟨Or.inl rfl, hF S7 (fun q h1 h2 => by rw [f7 q h1, g1 q h2, fX q h1]) t7 w7⟩) (fun S7 f7 t7 w7 k1 k2 k3 k4 => ⟨Or.inr rfl, ?_⟩)
    have key := hp S7 (fun q h1 h2 => by rw [f7 q h1 (by omega), g1 q h2, fX q h1]) t7 (fun _ => ⟨by rw [f7 44 (by decide) (by decide)]; exact g2, ?_⟩)
    · rw [w7] at key; exact key
    · obtain ⟨p1, p2, p3, p4, p5, p6, p7, p8⟩ := g3
      have eF : ∀ k, k + 43 ≠ 37 → wl_at 43 S5 k = wl_at 43 S k := fun k hk => fX (k + 43) hk
      refine ⟨fun j => ?_, fun j => ?_, fun j => ?_, fun j hj => ?_, ?_, k2, k3, k4⟩
      · show S7 45 j = _
        rw [f7 45 (by decide) (by decide)]; exact (p1 j).trans (by rw [eF 2 (by decide)]; rfl)
      · show S7 46 j = _
        rw [f7 46 (by decide) (by decide)]; exact (p2 j).trans (by rw [eF 3 (by decide)]; rfl)
      · show S7 47 j = _
        rw [f7 47 (by decide) (by decide)]
        refine (p3 j).trans ?_
        rw [eF 4 (by decide)]
        show _ = if j = n then nI (if (wl3 tb tn p).2 then 0 else 1) else _
        cases (wl3 tb tn p).2 <;> rfl
      · show S7 48 j = _
        rw [k1 j (by omega)]; exact (p4 j hj).trans (by rw [eF 5 (by decide)])
      · show S7 48 (4 * n) = _
        rw [k1 _ (by omega)]; exact p5
  refine bw_br (fun q3 => ?_) (fun q3 => ?_)
  · rw [q3] at hJ e4 ⊢
    have e3 := eta_f h3
    refine s_X3_takes hT (c := 119) (by decide) t3 (fun S4 f4 t4 => ?_)
    rw [← e3] at t4 ⊢
    have e4 : wl4 tb tn p = (!(mC tb tn 119 (wl3 tb tn p).1).2, (mC tb tn 119 (wl3 tb tn p).1).1.2) := e4
    have t4 : tpX tb tn S4 (wl4 tb tn p).2 := by rw [e4]; exact t4
    have fX : frX S S4 := frX_t f1 (frX_t f2 (frX_t f3 f4))
    refine bw_br (fun q4 => ?_) (fun q4 => ?_)
    · have w4 : (wl4 tb tn p).1 = true := by rw [e4]; show (!_) = true; rw [q4]; rfl
      exact hF S4 (fun q h1 _ => fX q h1) (by rw [wlS4 w4]; exact t4) (by rw [wlS4 w4]; exact w4)
    · exact hJ S4 fX t4 (by rw [e4]; show (!_) = false; rw [q4]; rfl)
  · rw [q3] at hJ e4 ⊢
    have e4 : wl4 tb tn p = (false, (wl3 tb tn p).1.2) := e4
    exact hJ S3 (frX_t f1 (frX_t f2 f3)) (by rw [e4]; exact t3) (by rw [e4])
end TP
