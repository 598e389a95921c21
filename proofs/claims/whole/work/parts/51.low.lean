/-! ===== in bounds ===== -/
def bw_in (v : Int32) (lo hi : Int) : Bool := decide (lo ≤ v.toInt) && decide (v.toInt ≤ hi)
def bw_inL (v lo hi : Int64) : Bool := decide (lo ≤ v) && decide (v ≤ hi)
theorem bw_in_t {v : Int32} {n : Nat} (h : bw_in v 0 n = true) : ∃ j : Nat, j ≤ n ∧ v = nI j := by
  simp only [bw_in, Bool.and_eq_true, decide_eq_true_eq] at h
  have h0 : ¬ v < 0 := by rw [Int32.lt_iff_toInt_lt]; have e : (0 : Int32).toInt = 0 := rfl; omega
  obtain ⟨j, hj, rfl⟩ := nI_of h0
  rw [nI_toInt hj] at h
  exact ⟨j, by omega, rfl⟩
theorem bw_in_nI {j : Nat} (hj : j < 2 ^ 31) (lo hi : Nat) : bw_in (nI j) lo hi = (decide (lo ≤ j) && decide (j ≤ hi)) := by
  simp only [bw_in, nI_toInt hj]
  congr 1 <;> simp
theorem bw_in_t1 {v : Int32} {n : Nat} (h : bw_in v 1 n = true) : ∃ j : Nat, 1 ≤ j ∧ j ≤ n ∧ v = nI j := by
  simp only [bw_in, Bool.and_eq_true, decide_eq_true_eq] at h
  have h0 : ¬ v < 0 := by rw [Int32.lt_iff_toInt_lt]; have e : (0 : Int32).toInt = 0 := rfl; omega
  obtain ⟨j, hj, rfl⟩ := nI_of h0
  rw [nI_toInt hj] at h
  exact ⟨j, by omega, by omega, rfl⟩
theorem bw_wide (v : Int32) : v.toInt64.toInt = v.toInt := Int32.toInt_toInt64 v
theorem bw_inL_w (v : Int32) (lo hi : Int64) : bw_inL v.toInt64 lo hi = bw_in v lo.toInt hi.toInt := by
  simp only [bw_inL, bw_in, Int64.le_iff_toInt_le, bw_wide]
theorem bw_i01 (c : Bool) : bw_i c = 0 ∨ bw_i c = 1 := by cases c; exact Or.inl rfl; exact Or.inr rfl
theorem s_X6_isWithin {S : SX} {L : LX} {v lo hi : Int64} {post : Int32 → Prop} (h : post (bw_i (bw_inL v lo hi))) : kX6_isWithin S L v lo hi post := by
  unfold kX6_isWithin
  refine ⟨fun h1 => ?_, fun h1 => ⟨fun h2 => ?_, fun h2 => ?_⟩⟩
  · have e : bw_inL v lo hi = false := by simp only [bw_inL, Bool.and_eq_false_iff, decide_eq_false_iff_not]; exact Or.inl (Int64.not_le.mpr h1)
    rw [e] at h; exact h
  · have e : bw_inL v lo hi = false := by simp only [bw_inL, Bool.and_eq_false_iff, decide_eq_false_iff_not]; exact Or.inr (Int64.not_le.mpr h2)
    rw [e] at h; exact h
  · have e : bw_inL v lo hi = true := by simp only [bw_inL, Bool.and_eq_true, decide_eq_true_eq]; exact ⟨Int64.not_lt.mp h1, Int64.not_lt.mp h2⟩
    rw [e] at h; exact h
theorem s_X6_isWithinI {S : SX} {L : LX} {v : Int32} {lo hi : Int64} {post : Int32 → Prop} (h : post (bw_i (bw_in v lo.toInt hi.toInt))) : kX6_isWithin S L v.toInt64 lo hi post := s_X6_isWithin (by rw [bw_inL_w]; exact h)
theorem s_X6_isYear {S : SX} {L : LX} {v : Int32} {post : Int32 → Prop} (h : post (bw_i (bw_in v 0 7))) : kX6_isYear S L v post := s_X6_isWithinI ⟨bw_i01 _, h⟩
theorem s_X6_isTop {S : SX} {L : LX} {v : Int32} {post : Int32 → Prop} (h : post (bw_i (bw_in v 1 1000))) : kX6_isTop S L v post := s_X6_isWithinI ⟨bw_i01 _, h⟩
theorem s_X6_isSheet {S : SX} {L : LX} {v : Int32} {post : Int32 → Prop} (h : post (bw_i (bw_in v 0 3))) : kX6_isSheet S L v post := s_X6_isWithinI ⟨bw_i01 _, h⟩
theorem s_X6_isLane {S : SX} {L : LX} {v : Int32} {post : Int32 → Prop} (h : post (bw_i (bw_in v 0 2))) : kX6_isLane S L v post := s_X6_isWithinI ⟨bw_i01 _, h⟩
theorem s_X7_in {S : SX} {L : LX} {v lo hi : Int64} {post : Int32 → Prop} (h : post (bw_i (bw_inL v lo hi))) : kX7_in S L v lo hi post := by
  unfold kX7_in
  refine ⟨fun h1 => ?_, fun h1 => ⟨fun h2 => ?_, fun h2 => ?_⟩⟩
  · have e : bw_inL v lo hi = false := by simp only [bw_inL, Bool.and_eq_false_iff, decide_eq_false_iff_not]; exact Or.inl (Int64.not_le.mpr h1)
    rw [e] at h; exact h
  · have e : bw_inL v lo hi = false := by simp only [bw_inL, Bool.and_eq_false_iff, decide_eq_false_iff_not]; exact Or.inr (Int64.not_le.mpr h2)
    rw [e] at h; exact h
  · have e : bw_inL v lo hi = true := by simp only [bw_inL, Bool.and_eq_true, decide_eq_true_eq]; exact ⟨Int64.not_lt.mp h1, Int64.not_lt.mp h2⟩
    rw [e] at h; exact h
theorem s_X7_inI {S : SX} {L : LX} {v : Int32} {lo hi : Int64} {post : Int32 → Prop} (h : post (bw_i (bw_in v lo.toInt hi.toInt))) : kX7_in S L v.toInt64 lo hi post := s_X7_in (by rw [bw_inL_w]; exact h)
theorem s_X7_isYear {S : SX} {L : LX} {v : Int32} {post : Int32 → Prop} (h : post (bw_i (bw_in v 0 7))) : kX7_isYear S L v post := s_X7_inI ⟨bw_i01 _, h⟩
theorem s_X7_isTop {S : SX} {L : LX} {v : Int32} {post : Int32 → Prop} (h : post (bw_i (bw_in v 1 1000))) : kX7_isTop S L v post := s_X7_inI ⟨bw_i01 _, h⟩
theorem s_X7_isSheet {S : SX} {L : LX} {v : Int32} {post : Int32 → Prop} (h : post (bw_i (bw_in v 0 3))) : kX7_isSheet S L v post := s_X7_inI ⟨bw_i01 _, h⟩
theorem s_X7_isLane {S : SX} {L : LX} {v : Int32} {post : Int32 → Prop} (h : post (bw_i (bw_in v 0 2))) : kX7_isLane S L v post := s_X7_inI ⟨bw_i01 _, h⟩
theorem bw_had_in {b : SN} (hO : bw_ok b) {w : Nat} (hw : w < b 0 2) {k : Nat} (hk : k < 4) : 4 * w + k < 4 * b 0 2 ∧ 4 * w + k < 96 := by
  have := bo_n hO
  omega
theorem bw_seen_go {b : SN} {w y : Nat} (h : ¬ (b 4 w = 1 ∧ bw_bit (b 9 y) 3 = false)) : bw_seen b w y = b 5 (4 * w) + (if bw_bit (b 9 y) 0 then b 5 (4 * w + 1) else 0) + (if bw_bit (b 9 y) 1 then b 5 (4 * w + 2) else 0) + (if bw_bit (b 9 y) 2 then b 5 (4 * w + 3) else 0) := by
  unfold bw_seen; rw [if_neg h]
theorem bw_seen_no {b : SN} {w y : Nat} (h : b 4 w = 1 ∧ bw_bit (b 9 y) 3 = false) : bw_seen b w y = 0 := by
  unfold bw_seen; rw [if_pos h]
theorem s_X5_seen_loop {S : SX} {L : LX} {b : SN} (hB : bw_X 1 S b) (hO : bw_ok b) {w y : Nat} (hw : w < b 0 2) (hy : y < 8) (hg : ¬ (b 4 w = 1 ∧ bw_bit (b 9 y) 3 = false)) {post : Int32 → Prop} (h : post (nI (bw_seen b w y))) : kX5_seen_b32 S L (nI w) (nI y) post (nI (b 9 y)) := by
  have hn := bo_n hO
  have hm := bo_marks hO hy
  rw [bw_seen_go hg] at h
  unfold kX5_seen_b32
  have e0 : nI w * (4 : Int32) = nI (4 * w) := by rw [show (4 : Int32) = nI 4 from rfl, pk_mul, Nat.mul_comm]
  rw [e0]
  refine ⟨pk_in (4 * w) 96 (by omega), 4, ?_⟩
  rw [nI_clamp (by omega), bx_had hB (by omega)]
  have step : ∀ (n k acc : Nat), 1 ≤ k → k < 4 → kX5_seen_b48 S L (nI w) (nI y) (nI (b 9 y)) post n (nI (acc + (if bw_bit (b 9 y) (k - 1) then b 5 (4 * w + k) else 0))) (nI (k + 1)) → kX5_seen_b48 S L (nI w) (nI y) (nI (b 9 y)) post (n + 1) (nI acc) (nI k) := by
    intro n k acc h1 h4 hc
    unfold kX5_seen_b48
    refine pk_le 4 k (fun q => by omega) (fun _ => ?_)
    have ek : nI k - (1 : Int32) = nI (k - 1) := by rw [show (1 : Int32) = nI 1 from rfl, pk_sub h1]
    rw [ek, e0, nI_add, nI_1]
    refine ⟨fun q => ?_, fun q => ?_⟩
    · have q := (bw_shr _ (by omega) (k - 1) (by omega)).mp q
      rw [q] at hc
      refine ⟨pk_in (4 * w + k) 96 (by omega), ?_⟩
      rw [nI_clamp (by omega), bx_had hB (by omega), nI_add]
      exact hc
    · have q : bw_bit (b 9 y) (k - 1) = false := by
        cases e : bw_bit (b 9 y) (k - 1) with
        | false => rfl
        | true => exact absurd ((bw_shr _ (by omega) (k - 1) (by omega)).mpr e) q
      rw [q] at hc
      exact hc
  refine step 3 1 _ (by omega) (by omega) (step 2 2 _ (by omega) (by omega) (step 1 3 _ (by omega) (by omega) ?_))
  unfold kX5_seen_b48
  exact ⟨fun _ => h, fun q => absurd (by decide) q⟩
theorem s_X5_seen {S : SX} {L : LX} {b : SN} (hB : bw_X 1 S b) (hO : bw_ok b) {w y : Nat} (hw : w < b 0 2) (hy : y < 8) {post : Int32 → Prop} (h : post (nI (bw_seen b w y))) : kX5_seen S L (nI w) (nI y) post := by
  have hn := bo_n hO
  have hm := bo_marks hO hy
  have hs := bo_sex hO hw
  unfold kX5_seen
  rw [nI_clamp (show y < 2 ^ 31 by omega), nI_clamp (show w < 2 ^ 31 by omega), bx_sex hB hw, bx_marks hB hy]
  refine ⟨pk_in y 8 hy, pk_in w 24 (by omega), pk_eq (b 4 w) 1 (fun q => ⟨fun z => ?_, fun z => ?_⟩) (fun q => ?_)⟩
  · rw [bw_seen_no ⟨q, (bw_and8 _ (by omega)).mp z⟩] at h; exact h
  · exact s_X5_seen_loop hB hO hw hy (fun c => z ((bw_and8 _ (by omega)).mpr c.2)) h
  · exact s_X5_seen_loop hB hO hw hy (fun c => q c.1) h
theorem s_X7_seen_loop {S : SX} {L : LX} {b : SN} (hB : bw_M S b) (hO : bw_ok b) {w y : Nat} (hw : w < b 0 2) (hy : y < 8) (hg : ¬ (b 4 w = 1 ∧ bw_bit (b 9 y) 3 = false)) {post : Int32 → Prop} (h : post (nI (bw_seen b w y))) : vp_in ((4 : Int32) * nI w) 96 ∧ ∃ n39 : Nat, kX7_seen_b39 S L (nI w) (nI y) (nI (b 9 y)) post n39 (S 5 ((4 : Int32) * nI w).toNatClampNeg) (0 : Int32) := by
  have hn := bo_n hO
  have hm := bo_marks hO hy
  rw [bw_seen_go hg] at h
  have e0 : (4 : Int32) * nI w = nI (4 * w) := by rw [show (4 : Int32) = nI 4 from rfl, pk_mul]
  rw [e0]
  refine ⟨pk_in (4 * w) 96 (by omega), 4, ?_⟩
  rw [nI_clamp (by omega), bm_had hB (by omega)]
  have step : ∀ (n k acc : Nat), k < 3 → kX7_seen_b39 S L (nI w) (nI y) (nI (b 9 y)) post n (nI (acc + (if bw_bit (b 9 y) k then b 5 (4 * w + (k + 1)) else 0))) (nI (k + 1)) → kX7_seen_b39 S L (nI w) (nI y) (nI (b 9 y)) post (n + 1) (nI acc) (nI k) := by
    intro n k acc h4 hc
    unfold kX7_seen_b39
    refine pk_le 3 k (fun q => by omega) (fun _ => ?_)
    rw [e0, nI_1, nI_1, nI_add]
    refine ⟨fun q => ?_, fun q => ?_⟩
    · have q := (bw_shr _ (by omega) k (by omega)).mp q
      rw [q] at hc
      refine ⟨pk_in (4 * w + 1 + k) 96 (by omega), ?_⟩
      rw [nI_clamp (by omega), bm_had hB (by omega), nI_add, show 4 * w + 1 + k = 4 * w + (k + 1) by omega]
      exact hc
    · have q : bw_bit (b 9 y) k = false := by
        cases e : bw_bit (b 9 y) k with
        | false => rfl
        | true => exact absurd ((bw_shr _ (by omega) k (by omega)).mpr e) q
      rw [q] at hc
      rw [show (0 : Int32) = nI 0 from rfl, nI_add]
      exact hc
  refine step 3 0 _ (by omega) (step 2 1 _ (by omega) (step 1 2 _ (by omega) ?_))
  unfold kX7_seen_b39
  exact ⟨fun _ => h, fun q => absurd (by decide) q⟩
theorem s_X7_seen {S : SX} {L : LX} {b : SN} (hB : bw_M S b) (hO : bw_ok b) {w y : Nat} (hw : w < b 0 2) (hy : y < 8) {post : Int32 → Prop} (h : post (nI (bw_seen b w y))) : kX7_seen S L (nI w) (nI y) post := by
  have hn := bo_n hO
  have hm := bo_marks hO hy
  have hs := bo_sex hO hw
  unfold kX7_seen
  rw [nI_clamp (show y < 2 ^ 31 by omega), nI_clamp (show w < 2 ^ 31 by omega), bm_sex hB hw, bm_marks hB hy]
  refine ⟨pk_in y 8 hy, pk_in w 24 (by omega), pk_eq (b 4 w) 1 (fun q => ⟨fun z => ?_, fun z => ?_⟩) (fun q => ?_)⟩
  · rw [bw_seen_no ⟨q, (bw_and8 _ (by omega)).mp z⟩] at h; exact h
  · exact s_X7_seen_loop hB hO hw hy (fun c => z ((bw_and8 _ (by omega)).mpr c.2)) h
  · exact s_X7_seen_loop hB hO hw hy (fun c => q c.1) h
theorem s_X5_sworn {S : SX} {L : LX} {b : SN} (hB : bw_X 1 S b) (hO : bw_ok b) {w y : Nat} (hw : w < b 0 2) (hy : y < 8) {post : Int32 → Prop} (h : post (nI (bw_sworn b w y))) : kX5_sworn S L (nI w) (nI y) post := by
  have hs := bw_seen_le hO (y := y) hw
  have hl := bo_line hO hy
  have hk := bo_keen hO hy
  unfold kX5_sworn
  refine s_X5_seen hB hO hw hy ?_
  rw [nI_clamp (show y < 2 ^ 31 by omega), bx_line hB hy, bx_keen hB hy]
  unfold bw_sworn at h
  refine ⟨pk_in y 8 hy, pk_le (b 7 y) 0 (fun q => ?_) (fun q => pk_le (bw_seen b w y) (b 7 y) (fun q2 => ?_) (fun q2 => ⟨pk_in y 8 hy, ?_⟩))⟩
  · rw [if_neg (by omega)] at h; exact h
  · rw [if_neg (by omega)] at h; exact h
  · rw [pk_sub (by omega)]
    refine pk_lt (b 8 y) (bw_seen b w y - b 7 y) (fun q3 => ?_) (fun q3 => ?_)
    · rw [if_neg (by omega)] at h; exact h
    · rw [if_pos (by omega)] at h; exact h
theorem s_X5_isInBook {S : SX} {L : LX} {b : SN} (hB : bw_X 1 S b) (hO : bw_ok b) {w y : Nat} (hw : w < b 0 2) (hy : y < 8) {post : Int32 → Prop} (h : post (bw_i (bw_book b w y))) : kX5_isInBook S L (nI w) (nI y) post := by
  have hs := bw_sworn_le hO (y := y) hw
  have hl := bo_floor hO hy
  unfold kX5_isInBook
  refine s_X5_sworn hB hO hw hy ?_
  rw [nI_clamp (show y < 2 ^ 31 by omega), bx_floor hB hy]
  unfold bw_book at h
  refine pk_le (bw_sworn b w y) 0 (fun q => ?_) (fun q => ⟨pk_in y 8 hy, pk_lt (bw_sworn b w y) (b 6 y) (fun q2 => ?_) (fun q2 => ?_)⟩)
  · rw [decide_eq_false (show ¬ 0 < bw_sworn b w y by omega)] at h; exact h
  · rw [decide_eq_false (show ¬ b 6 y ≤ bw_sworn b w y by omega), Bool.and_false] at h; exact h
  · rw [decide_eq_true (show 0 < bw_sworn b w y by omega), decide_eq_true (show b 6 y ≤ bw_sworn b w y by omega)] at h; exact h
theorem s_X5_isRich {S : SX} {L : LX} {b : SN} (hB : bw_X 1 S b) (hO : bw_ok b) {w y : Nat} (hw : w < b 0 2) (hy : y < 8) {post : Int32 → Prop} (h : post (bw_i (bw_rich b w y))) : kX5_isRich S L (nI w) (nI y) post := by
  have hs := bw_sworn_le hO (y := y) hw
  have hl := bo_rich hO
  unfold kX5_isRich
  refine s_X5_sworn hB hO hw hy ?_
  rw [bx_rich hB]
  unfold bw_rich at h
  refine pk_lt (bw_sworn b w y) (b 0 0) (fun q => ?_) (fun q => ?_)
  · rw [decide_eq_false (by omega)] at h; exact h
  · rw [decide_eq_true (by omega)] at h; exact h
theorem s_X5_weight {S : SX} {L : LX} {b : SN} (hB : bw_X 1 S b) (hO : bw_ok b) {w y : Nat} (hw : w < b 0 2) (hy : y < 8) {post : Int32 → Prop} (h : post (nI (bw_weight b w y))) : kX5_weight S L (nI w) (nI y) post := by
  have hn := bo_n hO
  have ha := bo_age hO hw
  unfold kX5_weight
  refine s_X5_isRich hB hO hw hy ?_
  rw [nI_clamp (show w < 2 ^ 31 by omega), bx_age hB hw, nI_clamp (show b 3 w < 2 ^ 31 by omega), bx_lives hB (show b 3 w < 6 by omega), bx_more hB]
  unfold bw_weight at h
  refine bw_br (fun q => ⟨pk_in w 24 (by omega), pk_in (b 3 w) 6 (by omega), ?_⟩) (fun q => ⟨pk_in w 24 (by omega), pk_in (b 3 w) 6 (by omega), ?_⟩)
  · rw [q] at h; rw [show (100 : Int32) = nI 100 from rfl, pk_mul]; exact h
  · rw [q] at h; rw [show (100 : Int32) = nI 100 from rfl, nI_add, pk_mul]; exact h
theorem s_X7_sworn {S : SX} {L : LX} {b : SN} (hB : bw_M S b) (hO : bw_ok b) {w y : Nat} (hw : w < b 0 2) (hy : y < 8) {post : Int32 → Prop} (h : post (nI (bw_sworn b w y))) : kX7_sworn S L (nI w) (nI y) post := by
  have hs := bw_seen_le hO (y := y) hw
  have hl := bo_line hO hy
  have hk := bo_keen hO hy
  unfold kX7_sworn
  refine s_X7_seen hB hO hw hy ?_
  rw [nI_clamp (show y < 2 ^ 31 by omega), bm_line hB hy, bm_keen hB hy]
  unfold bw_sworn at h
  refine ⟨pk_in y 8 hy, pk_le (b 7 y) 0 (fun q => ?_) (fun q => pk_le (bw_seen b w y) (b 7 y) (fun q2 => ?_) (fun q2 => ⟨pk_in y 8 hy, ?_⟩))⟩
  · rw [if_neg (by omega)] at h; exact h
  · rw [if_neg (by omega)] at h; exact h
  · rw [pk_sub (by omega)]
    refine pk_lt (b 8 y) (bw_seen b w y - b 7 y) (fun q3 => ?_) (fun q3 => ?_)
    · rw [if_neg (by omega)] at h; exact h
    · rw [if_pos (by omega)] at h; exact h
theorem s_X7_isBooked {S : SX} {L : LX} {b : SN} (hB : bw_M S b) (hO : bw_ok b) {w y : Nat} (hw : w < b 0 2) (hy : y < 8) {post : Int32 → Prop} (h : post (bw_i (bw_book b w y))) : kX7_isBooked S L (nI w) (nI y) post := by
  have hs := bw_sworn_le hO (y := y) hw
  have hl := bo_floor hO hy
  unfold kX7_isBooked
  refine s_X7_sworn hB hO hw hy ?_
  rw [nI_clamp (show y < 2 ^ 31 by omega), bm_floor hB hy]
  unfold bw_book at h
  refine pk_le (bw_sworn b w y) 0 (fun q => ?_) (fun q => ⟨pk_in y 8 hy, pk_lt (bw_sworn b w y) (b 6 y) (fun q2 => ?_) (fun q2 => ?_)⟩)
  · rw [decide_eq_false (show ¬ 0 < bw_sworn b w y by omega)] at h; exact h
  · rw [decide_eq_false (show ¬ b 6 y ≤ bw_sworn b w y by omega), Bool.and_false] at h; exact h
  · rw [decide_eq_true (show 0 < bw_sworn b w y by omega), decide_eq_true (show b 6 y ≤ bw_sworn b w y by omega)] at h; exact h
theorem s_X7_weight {S : SX} {L : LX} {b : SN} (hB : bw_M S b) (hO : bw_ok b) {w y : Nat} (hw : w < b 0 2) (hy : y < 8) {post : Int32 → Prop} (h : post (nI (bw_weight b w y))) : kX7_weight S L (nI w) (nI y) post := by
  have hn := bo_n hO
  have ha := bo_age hO hw
  have hs := bw_sworn_le hO (y := y) hw
  have hl := bo_rich hO
  unfold kX7_weight
  refine s_X7_sworn hB hO hw hy ?_
  rw [nI_clamp (show w < 2 ^ 31 by omega), bm_age hB hw, nI_clamp (show b 3 w < 2 ^ 31 by omega), bm_lives hB (show b 3 w < 6 by omega), bm_more hB, bm_rich hB]
  unfold bw_weight bw_rich at h
  refine pk_lt (bw_sworn b w y) (b 0 0) (fun q => ⟨pk_in w 24 (by omega), pk_in (b 3 w) 6 (by omega), ?_⟩) (fun q => ⟨pk_in w 24 (by omega), pk_in (b 3 w) 6 (by omega), ?_⟩)
  · rw [decide_eq_false (by omega)] at h; rw [show (100 : Int32) = nI 100 from rfl, pk_mul]; exact h
  · rw [decide_eq_true (by omega)] at h; rw [show (100 : Int32) = nI 100 from rfl, nI_add, pk_mul]; exact h
theorem s_X5_kind {S : SX} {L : LX} {b : SN} (hB : bw_X 1 S b) (hO : bw_ok b) {w : Nat} (hw : w < b 0 2) {post : Int32 → Prop} (h : post (nI (bw_kind b w))) : kX5_kind S L (nI w) post := by
  have hn := bo_n hO
  have hy := bo_year hO hw
  have hs := bw_sworn_le hO (y := b 2 w) hw
  have hs2 := bw_seen_le hO (y := b 2 w) hw
  unfold kX5_kind
  rw [nI_clamp (show w < 2 ^ 31 by omega), bx_year hB hw]
  unfold bw_kind at h
  refine ⟨pk_in w 24 (by omega), s_X5_isInBook hB hO hw (by omega) (bw_br (fun q => ?_) (fun q => s_X5_sworn hB hO hw (by omega) (s_X5_seen hB hO hw (by omega) (pk_eq (bw_sworn b w (b 2 w)) (bw_seen b w (b 2 w)) (fun q2 => s_X5_isRich hB hO hw (by omega) (bw_br (fun q3 => ?_) (fun q3 => ?_))) (fun q2 => ?_)))))⟩
  · rw [if_pos q] at h; exact h
  · rw [if_neg (by simp [q]), if_neg (by simp [q2]), q3] at h; exact h
  · rw [if_neg (by simp [q]), if_neg (by simp [q2]), q3] at h; exact h
  · rw [if_neg (by simp [q]), if_pos q2] at h; exact h
theorem s_X7_kind {S : SX} {L : LX} {b : SN} (hB : bw_M S b) (hO : bw_ok b) {w : Nat} (hw : w < b 0 2) {post : Int32 → Prop} (h : post (nI (bw_kind b w))) : kX7_kind S L (nI w) post := by
  have hn := bo_n hO
  have hy := bo_year hO hw
  have hr := bo_rich hO
  have hs := bw_sworn_le hO (y := b 2 w) hw
  have hs2 := bw_seen_le hO (y := b 2 w) hw
  unfold kX7_kind
  rw [nI_clamp (show w < 2 ^ 31 by omega), bm_year hB hw]
  unfold bw_kind at h
  refine ⟨pk_in w 24 (by omega), s_X7_sworn hB hO hw (by omega) (s_X7_isBooked hB hO hw (by omega) (bw_br (fun q => ?_) (fun q => s_X7_seen hB hO hw (by omega) (pk_eq (bw_sworn b w (b 2 w)) (bw_seen b w (b 2 w)) (fun q2 => ?_) (fun q2 => ?_)))))⟩
  · rw [if_pos q] at h; exact h
  · rw [bm_rich hB]
    rw [if_neg (by simp [q]), if_neg (by simp [q2])] at h
    unfold bw_rich at h
    refine pk_lt (bw_sworn b w (b 2 w)) (b 0 0) (fun q3 => ?_) (fun q3 => ?_)
    · rw [decide_eq_false (by omega)] at h; exact h
    · rw [decide_eq_true (by omega)] at h; exact h
  · rw [if_neg (by simp [q]), if_pos q2] at h; exact h
