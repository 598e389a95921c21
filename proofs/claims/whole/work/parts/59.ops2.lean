/-! ===== calls with a year, a top, a kind of answer ===== -/
def bw_c3 (v1 v2 v3 : Int32) (k : Nat) : Bool := bw_in v1 0 7 && (bw_in v2 1 1000 && bw_in v3 0 k)
theorem bw_c3_t {v1 v2 v3 : Int32} {k : Nat} (h : bw_c3 v1 v2 v3 k = true) : ∃ y q w : Nat, y < 8 ∧ 1 ≤ q ∧ q ≤ 1000 ∧ w ≤ k ∧ v1 = nI y ∧ v2 = nI q ∧ v3 = nI w := by
  unfold bw_c3 at h
  rw [Bool.and_eq_true, Bool.and_eq_true] at h
  obtain ⟨y, hy, e1⟩ := bw_in_t (n := 7) h.1
  obtain ⟨q, hq1, hq2, e2⟩ := bw_in_t1 (n := 1000) h.2.1
  obtain ⟨w, hw, e3⟩ := bw_in_t h.2.2
  exact ⟨y, q, w, by omega, hq1, hq2, hw, e1, e2, e3⟩
theorem ck3X {S : SX} {L : LX} {hi : Int64} {v1 v2 v3 : Int32} (k : Nat) {A B : Prop} (f : bw_c3 v1 v2 v3 k = false → A) (g : bw_c3 v1 v2 v3 k = true → B) (e : hi.toInt = k := by rfl) : kX6_isYear S L v1 (fun r1 => ((r1 = 0 → A) ∧ (¬ r1 = 0 → kX6_isTop S L v2 (fun r8 => ((r8 = 0 → A) ∧ (¬ r8 = 0 → kX6_isWithin S L v3.toInt64 (0 : Int64) hi (fun r => ((r = 0 → A) ∧ (¬ r = 0 → B))))))))) := by
  refine s_X6_isYear (bw_br (fun q => f ?_) (fun q => s_X6_isTop (bw_br (fun q2 => f ?_) (fun q2 => s_X6_wI 0 k (bw_br (fun q3 => f ?_) (fun q3 => g ?_)) rfl e))))
  · unfold bw_c3; rw [q]; rfl
  · unfold bw_c3; rw [q, q2]; rfl
  · unfold bw_c3; rw [q, q2, q3]; rfl
  · unfold bw_c3; rw [q, q2, q3]; rfl
theorem ck3M {S : SX} {L : LX} {hi : Int64} {v1 v2 v3 : Int32} (k : Nat) {A B : Prop} (f : bw_c3 v1 v2 v3 k = false → A) (g : bw_c3 v1 v2 v3 k = true → B) (e : hi.toInt = k := by rfl) : kX7_isYear S L v1 (fun r1 => ((r1 = 0 → A) ∧ (¬ r1 = 0 → kX7_isTop S L v2 (fun r8 => ((r8 = 0 → A) ∧ (¬ r8 = 0 → kX7_in S L v3.toInt64 (0 : Int64) hi (fun r => ((r = 0 → A) ∧ (¬ r = 0 → B))))))))) := by
  refine s_X7_isYear (bw_br (fun q => f ?_) (fun q => s_X7_isTop (bw_br (fun q2 => f ?_) (fun q2 => s_X7_wI 0 k (bw_br (fun q3 => f ?_) (fun q3 => g ?_)) rfl e))))
  · unfold bw_c3; rw [q]; rfl
  · unfold bw_c3; rw [q, q2]; rfl
  · unfold bw_c3; rw [q, q2, q3]; rfl
  · unfold bw_c3; rw [q, q2, q3]; rfl
theorem cf_t {c : Bool} {A : Prop} (h : c = true) (h' : c = false) : A := by rw [h] at h'; cases h'
theorem bw_po0 {S : SX} {L : LX} {b : SN} {y r q wo : Nat} {post : Int32 → Prop} (h : post (nI (bw_parts b y r q wo))) : kX6_noneAsZero S L (bw_po b y r q wo) post := by
  have hp := bw_parts_le b y r q wo
  unfold kX6_noneAsZero bw_po
  by_cases z : bw_tot b y r wo = 0
  · rw [if_pos z]
    refine ⟨fun _ => ?_, fun w => absurd rfl w⟩
    unfold bw_parts at h; rw [if_pos z] at h; exact h
  · rw [if_neg z]
    refine ⟨fun w => ?_, fun _ => h⟩
    exfalso
    have w2 := congrArg Int32.toInt w
    rw [nI_toInt (by omega)] at w2
    have e : (-4 : Int32).toInt = -4 := rfl
    omega
theorem s_X6_partsOfYear {S : SX} {L : LX} {b : SN} (hB : bw_X 1 S b) (hO : bw_ok b) {y r q : Nat} (hy : y < 8) (hr : r < 8) (hq : q ≤ 1000) {post : Int32 → SX → Prop} (h : ∀ S', lg_out S S' → post (bw_po b y r q 99) S') : kX6_partsOfYear S L (nI y) (nI r) (nI q) post := by
  unfold kX6_partsOfYear
  exact s_X1_gather hB hO hy hr (fun S' h1 h2 => s_X5_topRoom (bw_X_out hB h2) hO hy hq (s_X1_partsOfTop hO hy h1 hq bw_nobody (h S' h2)))
section OPS
variable {S M : SX} {L N : LX}
theorem ok_alone (hR : bw_R S L M N) (a1 a2 a3 : Int32) : kX6_alone S L a1 a2 a3 (fun r S1 => kX7_alone M N a1 a2 a3 (fun r' => r = r' ∧ bw_R S1 L M N)) := by
  obtain ⟨⟨b, hm⟩, hr⟩ := id hR
  have hX := hm.2.2.1
  have hM := hm.2.2.2.2.1
  have hO := hm.1
  unfold kX6_alone kX7_alone
  refine s_X6_isYear (bw_br (fun q => s_X7_isYear (bq_f q ⟨rfl, hR⟩)) (fun q => s_X6_isYear (bw_br (fun q2 => s_X7_isYear (bq_t q (s_X7_isYear (bq_f q2 ⟨rfl, hR⟩)))) (fun q2 => s_X6_isTop (bw_br (fun q3 => s_X7_isYear (bq_t q (s_X7_isYear (bq_t q2 (s_X7_isTop (bq_f q3 ⟨rfl, hR⟩)))))) (fun q3 => ?_))))))
  obtain ⟨y, hy, rfl⟩ := bw_in_t (n := 7) q
  obtain ⟨r, hr2, rfl⟩ := bw_in_t (n := 7) q2
  obtain ⟨t, ht1, ht2, rfl⟩ := bw_in_t1 (n := 1000) q3
  refine s_X6_partsOfYear hX hO (by omega) (by omega) ht2 (fun S1 h1 => bw_po0 (s_X6_partsOfYear (bw_X_out hX h1) hO (by omega) (by omega) ht2 (fun S2 h2 => bw_po0 ?_)))
  exact s_X7_isYear (bq_t q (s_X7_isYear (bq_t q2 (s_X7_isTop (bq_t q3 (s_X7_partsOf hM hO (by omega) (by omega) ht2 bw_none (s_X7_partsOf hM hO (by omega) (by omega) ht2 bw_none ⟨rfl, bw_R_out hR (lg_out_tr h1 h2)⟩)))))))
theorem ok_fall (hR : bw_R S L M N) (a1 a2 a3 : Int32) : kX6_fall S L a1 a2 a3 (fun r => kX7_fall M N a1 a2 a3 (fun r' => r = r')) := by
  obtain ⟨⟨b, hm⟩, hr⟩ := id hR
  have hX := hm.2.2.1
  have hM := hm.2.2.2.2.1
  have hO := hm.1
  unfold kX6_fall kX7_fall
  refine s_X6_isYear (bw_br (fun q => s_X7_isYear (bq_f q rfl)) (fun q => s_X6_isYear (bw_br (fun q2 => s_X7_isYear (bq_t q (s_X7_isYear (bq_f q2 rfl)))) (fun q2 => ⟨fun e => s_X7_isYear (bq_t q (s_X7_isYear (bq_t q2 ⟨fun _ => rfl, fun z => absurd e z⟩))), fun e => s_X6_wI 0 2 (bw_br (fun q3 => s_X7_isYear (bq_t q (s_X7_isYear (bq_t q2 ⟨fun z => absurd z e, fun _ => s_X7_wI 0 2 (bq_f q3 rfl)⟩)))) (fun q3 => ?_))⟩))))
  have go : ∀ {A1 A2 A3 A4 A5 : Prop}, A5 → kX7_isYear M N a1 (fun r1 => (r1 = 0 → A1) ∧ (¬ r1 = 0 → kX7_isYear M N a2 (fun r8 => (r8 = 0 → A2) ∧ (¬ r8 = 0 → (a1 = a2 → A3) ∧ (¬ a1 = a2 → kX7_in M N a3.toInt64 (0 : Int64) (2 : Int64) (fun r25 => (r25 = 0 → A4) ∧ (¬ r25 = 0 → A5))))))) := fun h => s_X7_isYear (bq_t q (s_X7_isYear (bq_t q2 ⟨fun z => absurd z e, fun _ => s_X7_wI 0 2 (bq_t q3 h)⟩)))
  obtain ⟨y, hy, rfl⟩ := bw_in_t (n := 7) q
  obtain ⟨z, hz, rfl⟩ := bw_in_t (n := 7) q2
  obtain ⟨w, hw, rfl⟩ := bw_in_t (n := 2) q3
  have p1 := bo_prices hO (j := y) (by omega)
  have p2 := bo_prices hO (j := z) (by omega)
  have t1 := bw_tot_le hO y y 99
  have t2 := bw_tot_le hO y z 99
  have t3 := bw_tot_le hO z z 99
  have hmul : bw_tot b y z 99 * b 11 z ≤ 76792320000 * 999 := Nat.mul_le_mul t2 p2.2
  have hyi := pk_in (x := nI y) y 8 (by omega)
  have hzi := pk_in (x := nI z) z 8 (by omega)
  have e0 : lN (bw_tot b y z 99) * (nI (b 11 z)).toInt64 = lN (bw_tot b y z 99 * b 11 z) := by rw [nI_l (by omega), lN_mul]
  have e1 : (nI (b 11 y)).toInt64 = lN (b 11 y) := nI_l (by omega)
  have e2 : lN (bw_tot b y z 99 * b 11 z) / lN (b 11 y) = lN (bw_tot b y z 99 * b 11 z / b 11 y) := pk_lDiv (by omega) (by omega) (by omega)
  rw [nI_clamp (show y < 2 ^ 31 by omega), nI_clamp (show z < 2 ^ 31 by omega), bx_prices hX (by omega), bx_prices hX (by omega), bm_prices hM (by omega), bm_prices hM (by omega), e1]
  refine s_X5_sumSworn hX hO (by omega) (by omega) (s_X5_sumSworn hX hO (by omega) (by omega) ⟨hzi, hyi, ?_⟩)
  rw [e0]
  refine s_X6_divided (by omega) (by omega) ⟨fun c => ?_, fun c => ?_, fun c c2 => s_X5_sumSworn hX hO (by omega) (by omega) ?_⟩
  · refine go (s_X7_totalOf hM hO (by omega) (by omega) bw_none (s_X7_totalOf hM hO (by omega) (by omega) bw_none ⟨hzi, hyi, ?_, fun _ => rfl, fun d => absurd c d⟩))
    intro d
    have := (pk_lEQ (b := 0) (by omega) (by decide)).mp d
    omega
  · refine go (s_X7_totalOf hM hO (by omega) (by omega) bw_none (s_X7_totalOf hM hO (by omega) (by omega) bw_none ⟨hzi, hyi, ?_, fun d => ?_, fun _ => ⟨fun _ => ?_, fun d => absurd c d⟩⟩))
    · intro d
      have := (pk_lEQ (b := 0) (by omega) (by decide)).mp d
      omega
    · rw [c] at d; exact absurd d (by decide)
    · rw [e0, e2]
  · refine go (s_X7_totalOf hM hO (by omega) (by omega) bw_none (s_X7_totalOf hM hO (by omega) (by omega) bw_none ⟨hzi, hyi, ?_, fun d => absurd d c, fun _ => ⟨fun d => absurd d c2, fun _ => s_X7_totalOf hM hO (by omega) (by omega) bw_none ?_⟩⟩))
    · intro d
      have := (pk_lEQ (b := 0) (by omega) (by decide)).mp d
      omega
    · rw [e0, e2]
theorem ok_bounds (hR : bw_R S L M N) (a1 a2 a3 : Int32) : kX6_bounds S L a1 a2 a3 (fun r S1 => kX7_bounds M N a1 a2 a3 (fun r' => r = r' ∧ bw_R S1 L M N)) := by
  obtain ⟨⟨b, hm⟩, hr⟩ := id hR
  have hX := hm.2.2.1
  have hM := hm.2.2.2.2.1
  have hO := hm.1
  unfold kX6_bounds kX7_bounds
  refine ck3X 1 (fun c => ck3M 1 (fun _ => ⟨rfl, hR⟩) (fun d => cf_t d c)) (fun c => ?_)
  obtain ⟨y, q, w, hy, hq1, hq, hw, rfl, rfl, rfl⟩ := bw_c3_t c
  have t1 := bw_tot_le hO y y 99
  have t2 := bw_un_le hO y
  have t3 := bw_top_le b y y q 99
  refine s_X1_gather hX hO hy hy (fun S1 h1 h2 => s_X5_sumUnseen (bw_X_out hX h2) hO hy (s_X1_sumAll hO h1 bw_nobody ?_))
  have hR1 := bw_R_out hR h2
  rw [lN_add]
  refine ⟨fun z => ?_, fun z => s_X5_topRoom (bw_X_out hX h2) hO hy hq (s_X1_sumTop hO hy h1 hq bw_nobody ?_)⟩
  · have z1 : bw_tot b y y 99 + bw_un b y = 0 := (pk_lEQ (b := 0) (by omega) (by decide)).mp z
    refine ck3M 1 (fun d => cf_t c d) (fun _ => s_X7_unseen hM hO hy (s_X7_totalOf hM hO hy hy bw_none ⟨fun _ => ⟨rfl, hR1⟩, fun d => ?_⟩))
    exfalso
    apply d
    rw [lN_add, z1]; rfl
  · have z1 : bw_tot b y y 99 + bw_un b y ≠ 0 := fun d => z (by rw [d]; rfl)
    have e10 : (10 : Int64) * (lN (bw_tot b y y 99) + lN (bw_un b y)) = lN (10 * (bw_tot b y y 99 + bw_un b y)) := by rw [show (10 : Int64) = lN 10 from rfl, lN_add, lN_mul]
    have nz : ¬ (lN (10 * (bw_tot b y y 99 + bw_un b y))) = 0 := by
      intro d
      have := (pk_lEQ (b := 0) (by omega) (by decide)).mp d
      omega
    have dv : ∀ x : Nat, x ≤ 2000000000000 → (lN x * (100000 : Int64)) / lN (10 * (bw_tot b y y 99 + bw_un b y)) = lN (x * 10000 / (bw_tot b y y 99 + bw_un b y)) := by
      intro x hx
      rw [show (100000 : Int64) = lN 100000 from rfl, lN_mul, pk_lDiv (by omega) (by omega) (by omega), show x * 100000 = 10 * (x * 10000) by omega, Nat.mul_div_mul_left _ _ (by decide)]
    have e11 : (10 : Int64) * lN (bw_un b y) = lN (10 * bw_un b y) := by rw [show (10 : Int64) = lN 10 from rfl, lN_mul]
    rw [e11, lN_add]
    unfold kX6_bounds_b109
    refine ⟨fun d => s_X6_parts (by omega) (by omega) ?_, fun d => s_X6_parts (by omega) (by omega) ?_⟩
    · refine ck3M 1 (fun d => cf_t c d) (fun _ => s_X7_unseen hM hO hy (s_X7_totalOf hM hO hy hy bw_none ?_))
      rw [e10]
      refine ⟨fun d2 => absurd d2 nz, fun _ => s_X7_topOf hM hO hy hy hq bw_none ⟨fun _ => ⟨nz, ?_, hR1⟩, fun d2 => absurd d d2⟩⟩
      rw [bw_lz, dv _ (by omega), lN_i]
    · refine ck3M 1 (fun d => cf_t c d) (fun _ => s_X7_unseen hM hO hy (s_X7_totalOf hM hO hy hy bw_none ?_))
      rw [e10]
      refine ⟨fun d2 => absurd d2 nz, fun _ => s_X7_topOf hM hO hy hy hq bw_none ⟨fun d2 => absurd d2 d, fun _ => ⟨nz, ?_, hR1⟩⟩⟩
      rw [e11, lN_add, dv _ (by omega), lN_i]
end OPS
