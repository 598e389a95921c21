/-! ===== what stays alike, part by part ===== -/
theorem bw_img_keep {S S' M M' : SX} {L L' N N' : LX} (h : bw_img S L M N) (h0 : S' 0 = S 0) (hS : ∀ k, 17 ≤ k → k ≤ 32 → S' k = S k) (hL : ∀ k, 17 ≤ k → L' k = L k) (hM : M' 16 = M 16) (hM6 : M' 0 6 = M 0 6) (hN : N' 17 = N 17) : bw_img S' L' M' N' := by
  rcases h with ⟨i1, i2⟩ | ⟨i1, i2, b, i3, i4, i5, i6, i7, i8, i9⟩
  · exact Or.inl ⟨by rw [h0]; exact i1, by rw [hM6]; exact i2⟩
  · refine Or.inr ⟨by rw [h0]; exact i1, by rw [hM6]; exact i2, b, i3, i4, bw_X_keep i5 (fun k q1 q2 => hS k (by omega) (by omega)), bw_CX_keep i6 (by rw [hS 17 (by omega) (by omega)]) (fun k q1 q2 => hL k (by omega)), ⟨?_, ?_, ?_⟩⟩
    · rw [hM]; exact i7
    · rw [hM]; exact i8
    · unfold bw_CM; rw [hN]; exact i9
theorem bw_tape_keep {S S' M M' : SX} (h : bw_tape S M) (h1 : S' 37 0 = S 37 0) (h2 : S' 38 = S 38) (h3 : M' 14 = M 14) (h4 : M' 0 3 = M 0 3) : bw_tape S' M' := by
  obtain ⟨tn, tb, t1, t2, t3, t4⟩ := h
  exact ⟨tn, tb, t1, by rw [h1]; exact t2, by rw [h4]; exact t3, fun j hj => by rw [h2, h3]; exact t4 j hj⟩
theorem bw_sh_keep {S S' M M' : SX} (h : bw_sh S M) (h1 : S' 50 = S 50) (h2 : S' 51 = S 51) (h3 : S' 52 = S 52) (h4 : M' 18 = M 18) (h5 : M' 19 = M 19) (h6 : M' 20 = M 20) : bw_sh S' M' := by
  unfold bw_sh
  rw [h1, h2, h3, h4, h5, h6]
  exact h
theorem bw_main_keep {S S' M M' : SX} {L L' N N' : LX} {b : SN} (h : bw_main S L M N b) (hS : ∀ k, 1 ≤ k → k ≤ 16 → S' k = S k) (hL : ∀ k, 15 ≤ k → k ≤ 16 → L' k = L k) (hM : ∀ k, 1 ≤ k → k ≤ 11 → M' k = M k) (hM0 : ∀ j, j < 3 → M' 0 j = M 0 j) (h12 : N' 12 = N 12) (h13 : N' 13 = N 13) : bw_main S' L' M' N' b := by
  obtain ⟨m1, m2, m3, m4, m5, m6⟩ := h
  refine ⟨m1, m2, bw_X_keep m3 (fun k a1 a2 => hS k a1 (by omega)), bw_CX_keep m4 (by rw [hS 1 (by omega) (by omega)]) (fun k a1 a2 => hL k (by omega) (by omega)), ⟨?_, fun k j k1 k2 hj => ?_⟩, ?_⟩
  · rw [hM0 0 (by omega), hM0 1 (by omega), hM0 2 (by omega)]; exact m5.1
  · rw [hM k k1 k2]; exact m5.2 k j k1 k2 hj
  · unfold bw_CM; rw [h12, h13]; exact m6
/-- rows of rules or people are replaced -/
def bw_rw (b : SN) (K : Nat → Bool) (c : SN) : SN := fun k j => if K k then c k j else b k j
theorem bw_main_rows {S S' M M' : SX} {L N : LX} {b c : SN} {K : Nat → Bool} (hK : ∀ k, K k = true → 6 ≤ k ∧ k ≤ 10) (hm : bw_main S L M N b) (hb : ∀ k j, K k = true → j < 8 → bw_lo k ≤ c k j ∧ c k j ≤ bw_hi k) (hS : ∀ k, 1 ≤ k → k ≤ 11 → K k = false → S' (1 + bw_cx k) = S (1 + bw_cx k)) (hS1 : S' 1 = S 1) (hS8 : S' 8 = S 8) (hSr : ∀ k j, K k = true → j < 8 → S' (1 + bw_cx k) j = nI (c k j)) (hM : ∀ k, 1 ≤ k → k ≤ 11 → K k = false → M' k = M k) (hM0 : ∀ j, j < 3 → M' 0 j = M 0 j) (hMr : ∀ k j, K k = true → j < 8 → M' k j = nI (c k j)) : bw_main S' L M' N (bw_rw b K c) := by
  obtain ⟨m1, m2, m3, m4, m5, m6⟩ := hm
  have e : ∀ k, ¬ (6 ≤ k ∧ k ≤ 10) → bw_rw b K c k = b k := fun k hk => by
    funext j
    unfold bw_rw
    by_cases q : K k = true
    · exact absurd (hK k q) hk
    · rw [if_neg q]
  have et : ∀ k, K k = true → bw_rw b K c k = c k := fun k hk => by funext j; unfold bw_rw; rw [if_pos hk]
  have ef : ∀ k, K k = false → bw_rw b K c k = b k := fun k hk => by funext j; unfold bw_rw; rw [if_neg (by rw [hk]; decide)]
  have l8 : ∀ k, 6 ≤ k → ∀ n, bw_ln n k = 8 := fun k hk n => by unfold bw_ln; split <;> first | rfl | omega
  refine ⟨⟨?_, fun k j k1 k2 hj => ?_⟩, fun y hy => ?_, ⟨?_, fun k j k1 k2 hj => ?_⟩, ⟨?_, fun y hy => ?_⟩, ⟨?_, fun k j k1 k2 hj => ?_⟩, fun y hy => ?_⟩
  · rw [e 0 (by omega)]; exact m1.1
  · rw [e 0 (by omega)] at hj
    by_cases q : K k = true
    · rw [et k q]; rw [l8 k (hK k q).1] at hj; exact hb k j q hj
    · rw [ef k (by simpa using q)]; exact m1.2 k j k1 k2 hj
  · rw [e 12 (by omega), e 13 (by omega), e 14 (by omega)]; exact m2 y hy
  · rw [e 0 (by omega), hS1, hS8]; exact m3.1
  · rw [e 0 (by omega)] at hj
    by_cases q : K k = true
    · rw [et k q]; rw [l8 k (hK k q).1] at hj; exact hSr k j q hj
    · rw [ef k (by simpa using q), hS k k1 k2 (by simpa using q)]; exact m3.2 k j k1 k2 hj
  · rw [e 12 (by omega), hS1]; exact m4.1
  · rw [e 12 (by omega), e 13 (by omega), e 14 (by omega)]; exact m4.2 y hy
  · rw [e 0 (by omega), hM0 0 (by omega), hM0 1 (by omega), hM0 2 (by omega)]; exact m5.1
  · rw [e 0 (by omega)] at hj
    by_cases q : K k = true
    · rw [et k q]; rw [l8 k (hK k q).1] at hj; exact hMr k j q hj
    · rw [ef k (by simpa using q), hM k k1 k2 (by simpa using q)]; exact m5.2 k j k1 k2 hj
  · rw [e 12 (by omega), e 13 (by omega), e 14 (by omega)]; exact m6 y hy
/-! ===== sheets ===== -/
def sh_cast (ln : Nat) (v : Int32) : Int32 := if ln = 0 then v.toInt8.toInt32 else if ln = 1 then v.toInt16.toInt32 else v
/-- a sheet that holds a row -/
def sh_row (S M : SX) (k ln z : Nat) : Prop := ln ≤ 2 ∧ z ≤ 24 ∧ S 50 k = nI ln ∧ M 18 k = nI ln ∧ S 51 k = nI z ∧ M 19 k = nI z
theorem nI_m1 {a : Nat} (h : a < 2 ^ 31) : nI a ≠ -1 := fun e => by
  have := congrArg Int32.toInt e
  rw [nI_toInt h] at this
  have e2 : (-1 : Int32).toInt = -1 := rfl
  omega
theorem nI_sub_lt {z n i : Nat} (hz : z ≤ 24) (hn : n < 2 ^ 31) (hi : i < 2 ^ 31) {A B : Prop} (f : z < i + n → A) (g : i + n ≤ z → B) : (nI z - nI n < nI i → A) ∧ (¬ nI z - nI n < nI i → B) := by
  have e : (nI z - nI n).toInt = (z : Int) - n := by
    rw [Int32.toInt_sub, nI_toInt (by omega), nI_toInt hn]
    exact Int.bmod_eq_of_le (by omega) (by omega)
  refine ⟨fun q => f ?_, fun q => g ?_⟩
  · rw [Int32.lt_iff_toInt_lt, e, nI_toInt hi] at q; omega
  · rw [Int32.lt_iff_toInt_lt, e, nI_toInt hi] at q; omega
theorem nI_ladd {z n i : Nat} (hz : z ≤ 24) (hn : n < 2 ^ 31) (hi : i < 2 ^ 31) {A B : Prop} (f : i + n ≤ z → A) (g : z < i + n → B) : ((nI i).toInt64 + (nI n).toInt64 ≤ (nI z).toInt64 → A) ∧ (¬ (nI i).toInt64 + (nI n).toInt64 ≤ (nI z).toInt64 → B) := by
  rw [nI_l hi, nI_l hn, nI_l (show z < 2 ^ 31 by omega), lN_add]
  exact ⟨fun q => f ((pk_lLE (by omega) (by omega)).mp q), fun q => g (Nat.lt_of_not_le (fun d => q ((pk_lLE (a := i + n) (b := z) (by omega) (by omega)).mpr d)))⟩
section OPS
variable {S M : SX} {L N : LX}
theorem bw_sh_k (hs : bw_sh S M) {k : Nat} (hk : k < 4) : (S 50 k = -1 ∧ M 18 k = -1) ∨ ∃ ln z, sh_row S M k ln z := by
  obtain ⟨e, h⟩ := hs.1 k hk
  rcases h with h | ⟨⟨ln, l1, l2⟩, z, z1, z2, z3⟩
  · exact Or.inl ⟨h, by rw [e, h]⟩
  · exact Or.inr ⟨ln, z, l1, z1, l2, by rw [e, l2], z2, z3⟩
theorem s_X2_holdsF {k : Nat} (hk : k < 4) (h50 : S 50 k = -1) {post : Int32 → Prop} (h : post 0) : kX2_holdsRow S L (nI k) post := by
  unfold kX2_holdsRow
  rw [nI_clamp (by omega)]
  exact ⟨pk_in k 4 hk, fun _ => h, fun z => absurd h50 z⟩
theorem s_X2_holdsT {k ln z : Nat} (hk : k < 4) (hr : sh_row S M k ln z) {post : Int32 → Prop} (h : post 1) : kX2_holdsRow S L (nI k) post := by
  unfold kX2_holdsRow
  rw [nI_clamp (by omega)]
  exact ⟨pk_in k 4 hk, fun q => by rw [hr.2.2.1] at q; exact absurd q (nI_m1 (by have := hr.1; omega)), fun _ => h⟩
def hi_b (v : Int32) (n z : Nat) : Bool := !decide (v < 0) && decide (v.toNatClampNeg + n ≤ z)
theorem s_X2_hasItems {k ln z n : Nat} (hk : k < 4) (hr : sh_row S M k ln z) (hn : n < 2 ^ 31) {v : Int32} {post : Int32 → Prop} (h : post (bw_i (hi_b v n z))) : kX2_hasItems S L (nI k) v (nI n) post := by
  unfold kX2_hasItems
  unfold hi_b at h
  rw [nI_clamp (show k < 2 ^ 31 by omega), hr.2.2.2.2.1]
  refine ⟨fun q => ?_, fun q => ⟨fun z => absurd z (nI_pos hn), fun _ => ⟨pk_in k 4 hk, ?_⟩⟩⟩
  · rw [decide_eq_true q] at h; exact h
  · obtain ⟨i, hi, rfl⟩ := nI_of q
    rw [decide_eq_false q, nI_clamp hi] at h
    refine nI_sub_lt hr.2.1 hn hi (fun d => ?_) (fun d => ?_)
    · rw [decide_eq_false (by omega)] at h; exact h
    · rw [decide_eq_true (by omega)] at h; exact h
theorem hi_t {v : Int32} {n z : Nat} (h : hi_b v n z = true) : ∃ i, i < 2 ^ 31 ∧ v = nI i ∧ i + n ≤ z := by
  unfold hi_b at h
  rw [Bool.and_eq_true, Bool.not_eq_true', decide_eq_false_iff_not, decide_eq_true_eq] at h
  obtain ⟨i, hi, rfl⟩ := nI_of h.1
  rw [nI_clamp hi] at h
  exact ⟨i, hi, rfl, h.2⟩
/-- what refuses, in both -/
theorem e_finds (hs : bw_sh S M) {k n : Nat} (hk : k < 4) (hn : n < 2 ^ 31) (v2 v3 : Int32) : ∃ r : Int32, (∀ P : Int32 → Prop, P r → kX2_refusal S L (nI k) v2 v3 (nI n) P) ∧ (∀ P : Int32 → Prop, P r → kX7_finds M N (nI k) v2 v3 (nI n) P) ∧ ((¬ r = 0 ∧ ¬ 0 ≤ r) ∨ (r = 0 ∧ ∃ ln z i, sh_row S M k ln z ∧ v2 = nI ln ∧ v3 = nI i ∧ i < 2 ^ 31 ∧ i + n ≤ z)) := by
  have p4 := pk_in (x := nI k) k 4 hk
  rcases bw_sh_k hs hk with ⟨h1, h2⟩ | ⟨ln, z, hr⟩
  · refine ⟨-11, fun P h => ?_, fun P h => ?_, Or.inl ⟨by decide, by decide⟩⟩
    · unfold kX2_refusal
      exact s_X2_holdsF hk h1 ⟨fun _ => h, fun z => absurd rfl z⟩
    · unfold kX7_finds
      rw [nI_clamp (by omega), h2]
      exact ⟨p4, fun z => absurd z (by decide), fun _ => h⟩
  · have g0 : ¬ ((0 : Int32) ≤ nI ln → False) := fun q => q (nI_pos' (by have := hr.1; omega))
    have g1 : (0 : Int32) ≤ nI ln := nI_pos' (by have := hr.1; omega)
    by_cases e : nI ln = v2
    · by_cases d : hi_b v3 n z = true
      · obtain ⟨i, i1, i2, i3⟩ := hi_t d
        refine ⟨0, fun P h => ?_, fun P h => ?_, Or.inr ⟨rfl, ln, z, i, hr, e.symm, i2, i1, i3⟩⟩
        · unfold kX2_refusal
          refine s_X2_holdsT hk hr ⟨fun z => absurd z (by decide), fun _ => ?_⟩
          rw [nI_clamp (by omega), hr.2.2.1]
          exact ⟨p4, fun _ => s_X2_hasItems hk hr hn (bq_t d h), fun z => absurd e z⟩
        · unfold kX7_finds
          rw [nI_clamp (by omega), hr.2.2.2.1, hr.2.2.2.2.2]
          subst i2
          exact ⟨p4, fun _ => ⟨p4, fun _ => ⟨fun z => absurd z (nI_pos i1), fun _ => ⟨p4, nI_ladd hr.2.1 hn i1 (fun _ => h) (fun z => by omega)⟩⟩, fun z => absurd e z⟩, fun z => absurd g1 z⟩
      · have d : hi_b v3 n z = false := by simpa using d
        refine ⟨-13, fun P h => ?_, fun P h => ?_, Or.inl ⟨by decide, by decide⟩⟩
        · unfold kX2_refusal
          refine s_X2_holdsT hk hr ⟨fun z => absurd z (by decide), fun _ => ?_⟩
          rw [nI_clamp (by omega), hr.2.2.1]
          exact ⟨p4, fun _ => s_X2_hasItems hk hr hn (bq_f d h), fun z => absurd e z⟩
        · unfold kX7_finds
          rw [nI_clamp (by omega), hr.2.2.2.1, hr.2.2.2.2.2]
          refine ⟨p4, fun _ => ⟨p4, fun _ => ⟨fun _ => h, fun q => ⟨p4, ?_⟩⟩, fun z => absurd e z⟩, fun z => absurd g1 z⟩
          obtain ⟨i, hi, rfl⟩ := nI_of q
          refine nI_ladd hr.2.1 hn hi (fun z => ?_) (fun _ => h)
          unfold hi_b at d
          rw [nI_clamp hi, decide_eq_false q, decide_eq_true z] at d
          exact absurd d (by decide)
    · refine ⟨-12, fun P h => ?_, fun P h => ?_, Or.inl ⟨by decide, by decide⟩⟩
      · unfold kX2_refusal
        refine s_X2_holdsT hk hr ⟨fun z => absurd z (by decide), fun _ => ?_⟩
        rw [nI_clamp (by omega), hr.2.2.1]
        exact ⟨p4, fun z => absurd z e, fun _ => h⟩
      · unfold kX7_finds
        rw [nI_clamp (by omega), hr.2.2.2.1, hr.2.2.2.2.2]
        exact ⟨p4, fun _ => ⟨p4, fun z => absurd z e, fun _ => h⟩, fun z => absurd g1 z⟩
theorem s_X2_narrowed {ln : Nat} (hl : ln ≤ 2) {v : Int32} {post : Int32 → Prop} (h : post (sh_cast ln v)) : kX2_narrowed S L (nI ln) v post := by
  unfold kX2_narrowed
  unfold sh_cast at h
  rcases (show ln = 0 ∨ ln = 1 ∨ ln = 2 by omega) with rfl | rfl | rfl
  · exact ⟨fun _ => h, fun z => absurd z (by decide), fun z => absurd rfl z⟩
  · exact ⟨fun z => absurd z (by decide), fun _ => h, fun _ z => absurd rfl z⟩
  · exact ⟨fun z => absurd z (by decide), fun z => absurd z (by decide), fun _ _ => h⟩
theorem s_X7_cast {ln : Nat} (hl : ln ≤ 2) {v : Int32} {post : Int32 → Prop} (h : post (sh_cast ln v)) : kX7_cast M N (nI ln) v post := by
  unfold kX7_cast
  unfold sh_cast at h
  rcases (show ln = 0 ∨ ln = 1 ∨ ln = 2 by omega) with rfl | rfl | rfl
  · exact ⟨fun _ => h, fun z => absurd rfl z⟩
  · exact ⟨fun z => absurd z (by decide), fun _ => ⟨fun _ => h, fun z => absurd rfl z⟩⟩
  · exact ⟨fun z => absurd z (by decide), fun _ => ⟨fun z => absurd z (by decide), fun _ => h⟩⟩
theorem sh_ix {k i : Nat} : nI k * (24 : Int32) + nI i = nI (24 * k + i) := by rw [show (24 : Int32) = nI 24 from rfl, pk_mul, nI_add, Nat.mul_comm]
theorem sh_ix' {k i : Nat} : (24 : Int32) * nI k + nI i = nI (24 * k + i) := by rw [show (24 : Int32) = nI 24 from rfl, pk_mul, nI_add]
theorem hi_of {i n z : Nat} (hi : i < 2 ^ 31) (h : i + n ≤ z) : hi_b (nI i) n z = true := by
  unfold hi_b; rw [decide_eq_false (nI_pos hi), nI_clamp hi, decide_eq_true h]; rfl
theorem s_X2_put {k ln z i : Nat} (hk : k < 4) (hr : sh_row S M k ln z) (hi : i < 2 ^ 31) (hz : i + 1 ≤ z) {v : Int32} {post : SX → Prop} (h : post (xu S 52 (24 * k + i) (sh_cast ln v))) : kX2_put S L (nI k) (nI i) v post := by
  have := hr.2.1
  unfold kX2_put
  refine s_X2_hasItems (n := 1) hk hr (by decide) (bq_t (hi_of hi hz) ?_)
  rw [nI_clamp (by omega), hr.2.2.1, sh_ix, nI_clamp (by omega)]
  exact ⟨pk_in k 4 hk, s_X2_narrowed hr.1 ⟨pk_in (24 * k + i) 96 (by omega), h⟩⟩
theorem s_X2_at {k ln z i : Nat} (hk : k < 4) (hr : sh_row S M k ln z) (hi : i < 2 ^ 31) (hz : i + 1 ≤ z) {post : Int32 → Prop} (h : post (S 52 (24 * k + i))) : kX2_at S L (nI k) (nI i) post := by
  have := hr.2.1
  unfold kX2_at
  refine s_X2_hasItems (n := 1) hk hr (by decide) (bq_t (hi_of hi hz) ?_)
  rw [sh_ix, nI_clamp (by omega)]
  exact ⟨pk_in (24 * k + i) 96 (by omega), h⟩
/-- sheets changed, the rest did not -/
theorem bw_sh_new {S' M' : SX} {b : SN} (hm : bw_main S L M N b) (hr : bw_rest S L M N) (hS : ∀ k, k < 49 → S' k = S k) (hM : ∀ k, ¬ (18 ≤ k ∧ k ≤ 21) → M' k = M k) (hs : bw_sh S' M') : bw_main S' L M' N b ∧ bw_rest S' L M' N :=
  ⟨bw_main_keep hm (fun k _ h2 => hS k (by omega)) (fun _ _ _ => rfl) (fun k h1 h2 => hM k (by omega)) (fun j hj => by rw [hM 0 (by omega)]) rfl rfl, bw_img_keep hr.1 (hS 0 (by omega)) (fun k _ h2 => hS k (by omega)) (fun _ _ => rfl) (hM 16 (by omega)) (by rw [hM 0 (by omega)]) rfl, bw_tape_keep hr.2.1 (by rw [hS 37 (by omega)]) (hS 38 (by omega)) (hM 14 (by omega)) (by rw [hM 0 (by omega)]), hs⟩
theorem bw_sh_items {S' M' : SX} (hs : bw_sh S M) (h1 : S' 50 = S 50) (h2 : S' 51 = S 51) (h4 : M' 18 = M 18) (h5 : M' 19 = M 19) (h : ∀ j, j < 96 → M' 20 j = S' 52 j) : bw_sh S' M' := by
  refine ⟨?_, h⟩
  rw [h1, h2, h4, h5]
  exact hs.1
/-- one item is changed -/
theorem bw_R_put {b : SN} (hm : bw_main S L M N b) (hr : bw_rest S L M N) (j : Nat) (v : Int32) : bw_main (xu S 52 j v) L (xu M 20 j v) N b ∧ bw_rest (xu S 52 j v) L (xu M 20 j v) N := by
  refine bw_sh_new hm hr (fun k hk => xu_ne (by omega)) (fun k hk => xu_ne (by omega)) (bw_sh_items hr.2.2 (xu_ne (by decide)) (xu_ne (by decide)) (xu_ne (by decide)) (xu_ne (by decide)) (fun i hi => ?_))
  rw [xu_ap, xu_ap, if_pos rfl, if_pos rfl, hr.2.2.2 i hi]
theorem ok_item (hR : bw_R S L M N) (a1 a2 a3 a4 : Int32) : kX6_item S L a1 a2 a3 a4 (fun r S1 => kX7_item M N a1 a2 a3 a4 (fun r' M1 => r = r' ∧ bw_R S1 L M1 N)) := by
  obtain ⟨⟨b, hm⟩, hr⟩ := id hR
  unfold kX6_item kX7_item
  refine s_X6_isSheet (bw_br (fun q => s_X7_isSheet (bq_f q ⟨rfl, hR⟩)) (fun q => s_X6_isLane (bw_br (fun q2 => s_X7_isSheet (bq_t q (s_X7_isLane (bq_f q2 ⟨rfl, hR⟩)))) (fun q2 => ?_))))
  obtain ⟨k, hk, rfl⟩ := bw_in_t (n := 3) q
  obtain ⟨r, r1, r2, r3⟩ := e_finds (L := L) (N := N) (n := 1) hr.2.2 (show k < 4 by omega) (by decide) a2 a3
  refine r1 _ ?_
  rcases r3 with ⟨z1, z2⟩ | ⟨rfl, ln, z, i, w1, rfl, rfl, w2, w3⟩
  · exact ⟨fun z => absurd z z1, fun _ => s_X7_isSheet (bq_t q (s_X7_isLane (bq_t q2 (r2 _ ⟨fun z => absurd z z2, fun _ => ⟨rfl, hR⟩⟩))))⟩
  · have hz := w1.2.1
    refine ⟨fun _ => s_X2_put (by omega) w1 w2 w3 (s_X7_isSheet (bq_t q (s_X7_isLane (bq_t q2 (r2 _ ⟨fun _ => s_X7_cast w1.1 ?_, fun z => absurd (by decide) z⟩))))), fun z => absurd rfl z⟩
    rw [sh_ix', nI_clamp (by omega)]
    have key := bw_R_put hm hr (24 * k + i) (sh_cast ln a4)
    exact ⟨pk_in (24 * k + i) 96 (by omega), rfl, ⟨b, key.1⟩, key.2⟩
theorem ok_drop (hR : bw_R S L M N) (a1 : Int32) : kX6_drop S L a1 (fun r S1 => kX7_drop M N a1 (fun r' M1 => r = r' ∧ bw_R S1 L M1 N)) := by
  obtain ⟨⟨b, hm⟩, hr⟩ := id hR
  unfold kX6_drop kX7_drop
  refine s_X6_isSheet (bw_br (fun q => s_X7_isSheet (bq_f q ⟨rfl, hR⟩)) (fun q => ?_))
  obtain ⟨k, hk, rfl⟩ := bw_in_t (n := 3) q
  have p4 := pk_in (x := nI k) k 4 (by omega)
  have hc := nI_clamp (show k < 2 ^ 31 by omega)
  rcases bw_sh_k hr.2.2 (show k < 4 by omega) with ⟨h1, h2⟩ | ⟨ln, z, w⟩
  · refine s_X2_holdsF (by omega) h1 ⟨fun _ => s_X7_isSheet (bq_t q ?_), fun z => absurd rfl z⟩
    rw [hc, h2]
    exact ⟨p4, fun z => absurd z (by decide), fun _ => ⟨rfl, hR⟩⟩
  · refine s_X2_holdsT (by omega) w ⟨fun z => absurd z (by decide), fun _ => ?_⟩
    unfold kX2_holdNothing
    rw [hc]
    refine ⟨p4, p4, p4, s_X7_isSheet (bq_t q ?_)⟩
    rw [w.2.2.2.1]
    have l2 := w.1
    refine ⟨p4, fun _ => ⟨p4, p4, ?_, ?_⟩, fun z => absurd (nI_pos' (by omega)) z⟩
    · rw [xu_ne (by decide), w.2.2.2.2.1, w.2.2.2.2.2]
    · have key := bw_sh_new (S' := xu (xu S 50 k (-1)) 51 k 0) (M' := xu M 18 k (-1)) hm hr (fun q hq => by rw [xu_ne (by omega), xu_ne (by omega)]) (fun q hq => xu_ne (by omega)) ⟨fun j hj => ?_, fun j hj => ?_⟩
      · exact ⟨⟨b, key.1⟩, key.2⟩
      · rw [xu_ne (show (50 : Nat) ≠ 51 by decide), xu_ne (show (19 : Nat) ≠ 18 by decide), xu_ap, xu_ap, if_pos rfl, if_pos rfl, xu_ap, if_pos rfl]
        by_cases c : j = k
        · rw [if_pos c, if_pos c, if_pos c]; exact ⟨rfl, Or.inl rfl⟩
        · rw [if_neg c, if_neg c, if_neg c, xu_ne (show (51 : Nat) ≠ 50 by decide)]; exact hr.2.2.1 j hj
      · rw [xu_ne (by decide), xu_ne (by decide), xu_ne (by decide)]; exact hr.2.2.2 j hj
theorem s_X2_hold_loop {a2 a3 : Int32} {k : Nat} (hk : k < 4) {T : SX} {post : SX → Prop} (h : ∀ T' : SX, (∀ q, q ≠ 52 → T' q = T q) → (∀ j, T' 52 j = if 24 * k ≤ j ∧ j < 24 * k + 24 then 0 else T 52 j) → post T') : ∃ n, kX2_hold_b17 L (nI k) a2 a3 post n (0 : Int32) T := by
  refine pk_loop (fun n i (s : SX) => kX2_hold_b17 L (nI k) a2 a3 post n (nI i) s) (fun i s => (∀ q, q ≠ 52 → s q = T q) ∧ (∀ j, s 52 j = if 24 * k ≤ j ∧ j < 24 * k + i then 0 else T 52 j)) 24 0 T (by decide) ⟨fun _ _ => rfl, fun j => by rw [if_neg (by omega)]⟩ ?_ ?_
  · intro n s hs
    unfold kX2_hold_b17
    exact ⟨fun _ => h s hs.1 hs.2, fun z => absurd (by decide) z⟩
  · intro n i s hi hs hc
    unfold kX2_hold_b17
    rw [sh_ix, nI_clamp (by omega), nI_1 i]
    refine pk_le 24 i (fun z => by omega) (fun _ => ⟨pk_in (24 * k + i) 96 (by omega), hc _ ⟨fun q hq => by rw [xu_ne hq]; exact hs.1 q hq, fun j => ?_⟩⟩)
    rw [xu_ap, if_pos rfl]
    by_cases c : j = 24 * k + i
    · rw [if_pos c, if_pos (by omega)]
    · rw [if_neg c, hs.2 j]
      by_cases d : 24 * k ≤ j ∧ j < 24 * k + i
      · rw [if_pos d, if_pos (by omega)]
      · rw [if_neg d, if_neg (by omega)]
theorem s_X7_sheet_loop {a2 a3 : Int32} {k : Nat} (hk : k < 4) {T : SX} {post : Int32 → SX → Prop} (h : ∀ T' : SX, (∀ q, q ≠ 20 → T' q = T q) → (∀ j, T' 20 j = if 24 * k ≤ j ∧ j < 24 * k + 24 then 0 else T 20 j) → post a3 T') : ∃ n, kX7_sheet_b46 N (nI k) a2 a3 post n (0 : Int32) T := by
  refine pk_loop (fun n i (s : SX) => kX7_sheet_b46 N (nI k) a2 a3 post n (nI i) s) (fun i s => (∀ q, q ≠ 20 → s q = T q) ∧ (∀ j, s 20 j = if 24 * k ≤ j ∧ j < 24 * k + i then 0 else T 20 j)) 24 0 T (by decide) ⟨fun _ _ => rfl, fun j => by rw [if_neg (by omega)]⟩ ?_ ?_
  · intro n s hs
    unfold kX7_sheet_b46
    exact ⟨fun _ => h s hs.1 hs.2, fun z => absurd (by decide) z⟩
  · intro n i s hi hs hc
    unfold kX7_sheet_b46
    rw [sh_ix', nI_clamp (by omega), nI_1 i]
    refine pk_le 24 i (fun z => by omega) (fun _ => ⟨pk_in (24 * k + i) 96 (by omega), hc _ ⟨fun q hq => by rw [xu_ne hq]; exact hs.1 q hq, fun j => ?_⟩⟩)
    rw [xu_ap, if_pos rfl]
    by_cases c : j = 24 * k + i
    · rw [if_pos c, if_pos (by omega)]
    · rw [if_neg c, hs.2 j]
      by_cases d : 24 * k ≤ j ∧ j < 24 * k + i
      · rw [if_pos d, if_pos (by omega)]
      · rw [if_neg d, if_neg (by omega)]
theorem ok_sheet (hR : bw_R S L M N) (a1 a2 a3 : Int32) : kX6_sheet S L a1 a2 a3 (fun r S1 => kX7_sheet M N a1 a2 a3 (fun r' M1 => r = r' ∧ bw_R S1 L M1 N)) := by
  obtain ⟨⟨b, hm⟩, hr⟩ := id hR
  unfold kX6_sheet kX7_sheet
  refine s_X6_isSheet (bw_br (fun q => s_X7_isSheet (bq_f q ⟨rfl, hR⟩)) (fun q => s_X6_isLane (bw_br (fun q2 => s_X7_isSheet (bq_t q (s_X7_isLane (bq_f q2 ⟨rfl, hR⟩)))) (fun q2 => ?_))))
  obtain ⟨k, hk, rfl⟩ := bw_in_t (n := 3) q
  obtain ⟨ln, hl, rfl⟩ := bw_in_t (n := 2) q2
  have p4 := pk_in (x := nI k) k 4 (by omega)
  have hc := nI_clamp (show k < 2 ^ 31 by omega)
  refine ⟨fun c1 => ⟨fun c2 => ?_, fun c2 => s_X7_isSheet (bq_t q (s_X7_isLane (bq_t q2 ⟨fun _ => ⟨fun z => absurd z c2, fun _ => ⟨rfl, hR⟩⟩, fun z => absurd c1 z⟩)))⟩, fun c1 => s_X7_isSheet (bq_t q (s_X7_isLane (bq_t q2 ⟨fun z => absurd z c1, fun _ => ⟨rfl, hR⟩⟩)))⟩
  obtain ⟨z, hz, rfl⟩ : ∃ z : Nat, z ≤ 24 ∧ a3 = nI z := nI_of2 (M := 24) rfl (fun d => by rw [Int32.lt_iff_toInt_lt] at d; rw [Int32.le_iff_toInt_le] at c2; omega) c1
  unfold kX2_hold
  rw [hc]
  refine ⟨p4, p4, s_X2_hold_loop (by omega) (fun S' s1 s2 => s_X7_isSheet (bq_t q (s_X7_isLane (bq_t q2 ⟨fun _ => ⟨fun _ => ⟨p4, p4, s_X7_sheet_loop (by omega) (fun M' t1 t2 => ⟨rfl, ?_⟩)⟩, fun d => absurd c2 d⟩, fun d => absurd c1 d⟩))))⟩
  have key := bw_sh_new (S' := S') (M' := M') hm hr (fun q hq => by rw [s1 q (by omega), xu_ne (by omega), xu_ne (by omega)]) (fun q hq => by rw [t1 q (by omega), xu_ne (by omega), xu_ne (by omega)]) ⟨fun j hj => ?_, fun j hj => ?_⟩
  · exact ⟨⟨b, key.1⟩, key.2⟩
  · rw [s1 50 (by decide), s1 51 (by decide), t1 18 (by decide), t1 19 (by decide)]
    simp only [xu_ap, show ¬ ((50 : Nat) = 51) by decide, show ¬ ((18 : Nat) = 19) by decide, show ¬ ((51 : Nat) = 50) by decide, show ¬ ((19 : Nat) = 18) by decide, if_true, if_false]
    by_cases c : j = k
    · simp only [if_pos c]; exact ⟨trivial, Or.inr ⟨⟨ln, hl, rfl⟩, z, hz, rfl, rfl⟩⟩
    · simp only [if_neg c]; exact hr.2.2.1 j hj
  · rw [s2, t2, xu_ne (by decide), xu_ne (by decide), xu_ne (by decide), xu_ne (by decide), hr.2.2.2 j hj]
end OPS
