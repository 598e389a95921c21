/-! ===== wills come and go ===== -/
def bw_wl (b : SN) (n : Nat) (c : SN) : SN := fun k j => if k = 0 ∧ j = 2 then n else if 2 ≤ k ∧ k ≤ 5 then c k j else b k j
theorem bw_wl_n (b : SN) (n : Nat) (c : SN) : bw_wl b n c 0 2 = n := if_pos ⟨rfl, rfl⟩
theorem bw_wl_c {b : SN} {n : Nat} {c : SN} {k : Nat} (h1 : 2 ≤ k) (h2 : k ≤ 5) : bw_wl b n c k = c k := by
  funext j; unfold bw_wl; rw [if_neg (by omega), if_pos ⟨h1, h2⟩]
theorem bw_wl_o {b : SN} {n : Nat} {c : SN} {k : Nat} (h0 : k ≠ 0) (h : ¬ (2 ≤ k ∧ k ≤ 5)) : bw_wl b n c k = b k := by
  funext j; unfold bw_wl; rw [if_neg (by omega), if_neg h]
theorem bw_wl_0 {b : SN} {n : Nat} {c : SN} {j : Nat} (h : j ≠ 2) : bw_wl b n c 0 j = b 0 j := by
  unfold bw_wl; rw [if_neg (by omega), if_neg (by omega)]
theorem bw_ln_o {n m k : Nat} (h0 : k ≠ 0) (h : ¬ (2 ≤ k ∧ k ≤ 5)) : bw_ln n k = bw_ln m k := by
  unfold bw_ln
  split <;> first | rfl | omega
theorem bw_lo_w : ∀ k, k ≤ 5 → 2 ≤ k → bw_lo k = 0 := by decide
theorem bw_cx_w : ∀ k, k ≤ 5 → 2 ≤ k → 1 + bw_cx k = k + 7 := by decide
theorem bw_cx_o : ∀ k, k ≤ 11 → 1 ≤ k → ¬ (2 ≤ k ∧ k ≤ 5) → ¬ (8 ≤ 1 + bw_cx k ∧ 1 + bw_cx k ≤ 12) ∧ 1 + bw_cx k ≤ 14 := by decide
theorem bw_main_wills {S S' M M' : SX} {L N : LX} {b c : SN} {n : Nat} (hm : bw_main S L M N b) (hn : n ≤ 24) (hb : ∀ k j, 2 ≤ k → k ≤ 5 → j < bw_ln n k → c k j ≤ bw_hi k) (hS : ∀ k, 1 ≤ k → k ≤ 14 → ¬ (8 ≤ k ∧ k ≤ 12) → S' k = S k) (hS8 : S' 8 0 = nI n) (hSr : ∀ k j, 2 ≤ k → k ≤ 5 → j < bw_ln n k → S' (k + 7) j = nI (c k j)) (hM : ∀ k, 1 ≤ k → k ≤ 11 → ¬ (2 ≤ k ∧ k ≤ 5) → M' k = M k) (hM0 : ∀ j, j < 2 → M' 0 j = M 0 j) (hM2 : M' 0 2 = nI n) (hMr : ∀ k j, 2 ≤ k → k ≤ 5 → j < bw_ln n k → M' k j = nI (c k j)) : bw_main S' L M' N (bw_wl b n c) := by
  obtain ⟨m1, m2, m3, m4, m5, m6⟩ := hm
  refine ⟨⟨?_, fun k j k1 k2 hj => ?_⟩, fun y hy => ?_, ⟨?_, fun k j k1 k2 hj => ?_⟩, ⟨?_, fun y hy => ?_⟩, ⟨?_, fun k j k1 k2 hj => ?_⟩, fun y hy => ?_⟩
  · rw [bw_wl_n, bw_wl_0 (by decide), bw_wl_0 (by decide)]; exact ⟨m1.1.1, m1.1.2.1, hn⟩
  · rw [bw_wl_n] at hj
    by_cases c1 : 2 ≤ k ∧ k ≤ 5
    · rw [bw_wl_c c1.1 c1.2, bw_lo_w k c1.2 c1.1]; exact ⟨Nat.zero_le _, hb k j c1.1 c1.2 hj⟩
    · rw [bw_wl_o (by omega) c1]; rw [bw_ln_o (m := b 0 2) (by omega) c1] at hj; exact m1.2 k j k1 k2 hj
  · rw [bw_wl_o (by decide) (by decide), bw_wl_o (by decide) (by decide), bw_wl_o (by decide) (by decide)]; exact m2 y hy
  · rw [bw_wl_n, bw_wl_0 (by decide), bw_wl_0 (by decide), hS 1 (by decide) (by decide) (by decide)]; exact ⟨m3.1.1, m3.1.2.1, hS8⟩
  · rw [bw_wl_n] at hj
    by_cases c1 : 2 ≤ k ∧ k ≤ 5
    · rw [bw_wl_c c1.1 c1.2, bw_cx_w k c1.2 c1.1]; exact hSr k j c1.1 c1.2 hj
    · have q := bw_cx_o k k2 k1 c1
      rw [bw_wl_o (by omega) c1, hS _ (by omega) q.2 q.1]; rw [bw_ln_o (m := b 0 2) (by omega) c1] at hj; exact m3.2 k j k1 k2 hj
  · rw [bw_wl_o (by decide) (by decide), hS 1 (by decide) (by decide) (by decide)]; exact m4.1
  · rw [bw_wl_o (by decide) (by decide), bw_wl_o (by decide) (by decide), bw_wl_o (by decide) (by decide)]; exact m4.2 y hy
  · rw [bw_wl_n, bw_wl_0 (by decide), bw_wl_0 (by decide), hM0 0 (by decide), hM0 1 (by decide)]; exact ⟨m5.1.1, m5.1.2.1, hM2⟩
  · rw [bw_wl_n] at hj
    by_cases c1 : 2 ≤ k ∧ k ≤ 5
    · rw [bw_wl_c c1.1 c1.2]; exact hMr k j c1.1 c1.2 hj
    · rw [bw_wl_o (by omega) c1, hM k k1 k2 c1]; rw [bw_ln_o (m := b 0 2) (by omega) c1] at hj; exact m5.2 k j k1 k2 hj
  · rw [bw_wl_o (by decide) (by decide), bw_wl_o (by decide) (by decide), bw_wl_o (by decide) (by decide)]; exact m6 y hy
/-- a will is set behind n others, in rows r 2 .. r 5 -/
def wl_ap (F F' : SX) (n : Nat) (v1 v2 v3 v4 v5 v6 v7 : Int32) : Prop := (∀ j, F' 2 j = if j = n then v1 else F 2 j) ∧ (∀ j, F' 3 j = if j = n then v2 else F 3 j) ∧ (∀ j, F' 4 j = if j = n then v3 else F 4 j) ∧ (∀ j, j < 4 * n → F' 5 j = F 5 j) ∧ F' 5 (4 * n) = v4 ∧ F' 5 (4 * n + 1) = v5 ∧ F' 5 (4 * n + 2) = v6 ∧ F' 5 (4 * n + 3) = v7
def wl_at (o : Nat) (S : SX) : SX := fun k => S (k + o)

theorem s_X4_room_8 {S : SX} {L : LX} {n k : Nat} (h8 : S 8 0 = nI n) (hn : n ≤ 24) (hk : k < 2 ^ 30) {post : Int32 → Prop} (h : post (bw_i (decide (n + k ≤ 24)))) : kX4_hasRoomFor_8 S L (nI k) post := by
  unfold kX4_hasRoomFor_8
  rw [h8, show (24 : Int32) = nI 24 from rfl, pk_sub hn]
  refine pk_lt (24 - n) k (fun q => ?_) (fun q => ?_)
  · rw [decide_eq_false (by omega)] at h; exact h
  · rw [decide_eq_true (by omega)] at h; exact h
theorem e_X4_add_8 {S : SX} {L : LX} {n : Nat} (h8 : S 8 0 = nI n) (hn : n < 24) (v1 v2 v3 v4 : Int32) : ∃ S' : SX, (∀ k, ¬ (8 ≤ k ∧ k ≤ 12) → S' k = S k) ∧ S' 8 0 = nI (n + 1) ∧ wl_ap (wl_at 7 S) (wl_at 7 S') n v1 v2 v3 v4 0 0 0 ∧ ∀ post : SX → Prop, post S' → kX4_add_8 S L v1 v2 v3 v4 post := by
  have r1 : ∀ (T : SX) (i : Nat) (v : Int32), xu T 9 i v 8 = T 8 := fun T i v => xu_ne (by decide)
  have r2 : ∀ (T : SX) (i : Nat) (v : Int32), xu T 10 i v 8 = T 8 := fun T i v => xu_ne (by decide)
  have r3 : ∀ (T : SX) (i : Nat) (v : Int32), xu T 11 i v 8 = T 8 := fun T i v => xu_ne (by decide)
  have r4 : ∀ (T : SX) (i : Nat) (v : Int32), xu T 12 i v 8 = T 8 := fun T i v => xu_ne (by decide)
  have e4 : nI n * (4 : Int32) = nI (4 * n) := by rw [show (4 : Int32) = nI 4 from rfl, pk_mul, Nat.mul_comm]
  have c0 : (nI n).toNatClampNeg = n := nI_clamp (by omega)
  have c4 : (nI (4 * n)).toNatClampNeg = 4 * n := nI_clamp (by omega)
  have a1 : nI (4 * n) + (1 : Int32) = nI (4 * n + 1) := nI_add _ 1
  have a2 : nI (4 * n) + (1 + 1 : Int32) = nI (4 * n + 2) := nI_add _ 2
  have a3 : nI (4 * n) + (1 + 1 + 1 : Int32) = nI (4 * n + 3) := nI_add _ 3
  have d1 : (nI (4 * n + 1)).toNatClampNeg = 4 * n + 1 := nI_clamp (by omega)
  have d2 : (nI (4 * n + 2)).toNatClampNeg = 4 * n + 2 := nI_clamp (by omega)
  have d3 : (nI (4 * n + 3)).toNatClampNeg = 4 * n + 3 := nI_clamp (by omega)
  refine ⟨xu (xu (xu (xu (xu (xu (xu (xu S 9 n v1) 10 n v2) 11 n v3) 12 (4 * n) v4) 12 (4 * n + 1) 0) 12 (4 * n + 2) 0) 12 (4 * n + 3) 0) 8 0 (nI n + 1), ?_, ?_, ?_, ?_⟩
  · intro k hk
    rw [xu_ne (by omega), xu_ne (by omega), xu_ne (by omega), xu_ne (by omega), xu_ne (by omega), xu_ne (by omega), xu_ne (by omega), xu_ne (by omega)]
  · rw [xu_ap, if_pos rfl, if_pos rfl, nI_1]
  · refine ⟨fun j => ?_, fun j => ?_, fun j => ?_, fun j hj => ?_, ?_, ?_, ?_, ?_⟩
    · simp [wl_at, xu_ap]
    · simp [wl_at, xu_ap]
    · simp [wl_at, xu_ap]
    · simp [wl_at, xu_ap, show j ≠ 4 * n by omega, show j ≠ 4 * n + 1 by omega, show j ≠ 4 * n + 2 by omega, show j ≠ 4 * n + 3 by omega]
    · simp [wl_at, xu_ap]
    · simp [wl_at, xu_ap]
    · simp [wl_at, xu_ap]
    · simp [wl_at, xu_ap]
  · intro post h
    unfold kX4_add_8
    refine s_X4_room_8 (k := 1) h8 (by omega) (by decide) ?_
    rw [decide_eq_true (by omega)]
    refine bf_t ?_
    simp only [r1, r2, r3, r4, h8, c0, e4, c4]
    refine ⟨pk_in n 24 hn, pk_in n 24 hn, pk_in n 24 hn, pk_in (4 * n) 96 (by omega), 4, ?_⟩
    simp only [kX4_add_8_b55, r1, r2, r3, r4, h8, e4, a1, a2, a3, d1, d2, d3]
    exact ⟨fun q => absurd q (by decide), fun _ => ⟨pk_in (4 * n + 1) 96 (by omega), fun q => absurd q (by decide), fun _ => ⟨pk_in (4 * n + 2) 96 (by omega), fun q => absurd q (by decide), fun _ => ⟨pk_in (4 * n + 3) 96 (by omega), fun _ => h, fun q => absurd (by decide) q⟩⟩⟩⟩
theorem s_X4_add_8 {S : SX} {L : LX} {n : Nat} (h8 : S 8 0 = nI n) (hn : n < 24) {v1 v2 v3 v4 : Int32} {post : SX → Prop} (h : ∀ S' : SX, (∀ k, ¬ (8 ≤ k ∧ k ≤ 12) → S' k = S k) → S' 8 0 = nI (n + 1) → wl_ap (wl_at 7 S) (wl_at 7 S') n v1 v2 v3 v4 0 0 0 → post S') : kX4_add_8 S L v1 v2 v3 v4 post := by
  obtain ⟨S', s1, s2, s3, s4⟩ := e_X4_add_8 (L := L) h8 hn v1 v2 v3 v4
  exact s4 post (h S' s1 s2 s3)

theorem s_X4_room_44 {S : SX} {L : LX} {n k : Nat} (h8 : S 44 0 = nI n) (hn : n ≤ 24) (hk : k < 2 ^ 30) {post : Int32 → Prop} (h : post (bw_i (decide (n + k ≤ 24)))) : kX4_hasRoomFor_44 S L (nI k) post := by
  unfold kX4_hasRoomFor_44
  rw [h8, show (24 : Int32) = nI 24 from rfl, pk_sub hn]
  refine pk_lt (24 - n) k (fun q => ?_) (fun q => ?_)
  · rw [decide_eq_false (by omega)] at h; exact h
  · rw [decide_eq_true (by omega)] at h; exact h
theorem e_X4_add_44 {S : SX} {L : LX} {n : Nat} (h8 : S 44 0 = nI n) (hn : n < 24) (v1 v2 v3 v4 : Int32) : ∃ S' : SX, (∀ k, ¬ (44 ≤ k ∧ k ≤ 48) → S' k = S k) ∧ S' 44 0 = nI (n + 1) ∧ wl_ap (wl_at 43 S) (wl_at 43 S') n v1 v2 v3 v4 0 0 0 ∧ ∀ post : SX → Prop, post S' → kX4_add_44 S L v1 v2 v3 v4 post := by
  have r1 : ∀ (T : SX) (i : Nat) (v : Int32), xu T 45 i v 44 = T 44 := fun T i v => xu_ne (by decide)
  have r2 : ∀ (T : SX) (i : Nat) (v : Int32), xu T 46 i v 44 = T 44 := fun T i v => xu_ne (by decide)
  have r3 : ∀ (T : SX) (i : Nat) (v : Int32), xu T 47 i v 44 = T 44 := fun T i v => xu_ne (by decide)
  have r4 : ∀ (T : SX) (i : Nat) (v : Int32), xu T 48 i v 44 = T 44 := fun T i v => xu_ne (by decide)
  have e4 : nI n * (4 : Int32) = nI (4 * n) := by rw [show (4 : Int32) = nI 4 from rfl, pk_mul, Nat.mul_comm]
  have c0 : (nI n).toNatClampNeg = n := nI_clamp (by omega)
  have c4 : (nI (4 * n)).toNatClampNeg = 4 * n := nI_clamp (by omega)
  have a1 : nI (4 * n) + (1 : Int32) = nI (4 * n + 1) := nI_add _ 1
  have a2 : nI (4 * n) + (1 + 1 : Int32) = nI (4 * n + 2) := nI_add _ 2
  have a3 : nI (4 * n) + (1 + 1 + 1 : Int32) = nI (4 * n + 3) := nI_add _ 3
  have d1 : (nI (4 * n + 1)).toNatClampNeg = 4 * n + 1 := nI_clamp (by omega)
  have d2 : (nI (4 * n + 2)).toNatClampNeg = 4 * n + 2 := nI_clamp (by omega)
  have d3 : (nI (4 * n + 3)).toNatClampNeg = 4 * n + 3 := nI_clamp (by omega)
  refine ⟨xu (xu (xu (xu (xu (xu (xu (xu S 45 n v1) 46 n v2) 47 n v3) 48 (4 * n) v4) 48 (4 * n + 1) 0) 48 (4 * n + 2) 0) 48 (4 * n + 3) 0) 44 0 (nI n + 1), ?_, ?_, ?_, ?_⟩
  · intro k hk
    rw [xu_ne (by omega), xu_ne (by omega), xu_ne (by omega), xu_ne (by omega), xu_ne (by omega), xu_ne (by omega), xu_ne (by omega), xu_ne (by omega)]
  · rw [xu_ap, if_pos rfl, if_pos rfl, nI_1]
  · refine ⟨fun j => ?_, fun j => ?_, fun j => ?_, fun j hj => ?_, ?_, ?_, ?_, ?_⟩
    · simp [wl_at, xu_ap]
    · simp [wl_at, xu_ap]
    · simp [wl_at, xu_ap]
    · simp [wl_at, xu_ap, show j ≠ 4 * n by omega, show j ≠ 4 * n + 1 by omega, show j ≠ 4 * n + 2 by omega, show j ≠ 4 * n + 3 by omega]
    · simp [wl_at, xu_ap]
    · simp [wl_at, xu_ap]
    · simp [wl_at, xu_ap]
    · simp [wl_at, xu_ap]
  · intro post h
    unfold kX4_add_44
    refine s_X4_room_44 (k := 1) h8 (by omega) (by decide) ?_
    rw [decide_eq_true (by omega)]
    refine bf_t ?_
    simp only [r1, r2, r3, r4, h8, c0, e4, c4]
    refine ⟨pk_in n 24 hn, pk_in n 24 hn, pk_in n 24 hn, pk_in (4 * n) 96 (by omega), 4, ?_⟩
    simp only [kX4_add_44_b55, r1, r2, r3, r4, h8, e4, a1, a2, a3, d1, d2, d3]
    exact ⟨fun q => absurd q (by decide), fun _ => ⟨pk_in (4 * n + 1) 96 (by omega), fun q => absurd q (by decide), fun _ => ⟨pk_in (4 * n + 2) 96 (by omega), fun q => absurd q (by decide), fun _ => ⟨pk_in (4 * n + 3) 96 (by omega), fun _ => h, fun q => absurd (by decide) q⟩⟩⟩⟩
theorem s_X4_add_44 {S : SX} {L : LX} {n : Nat} (h8 : S 44 0 = nI n) (hn : n < 24) {v1 v2 v3 v4 : Int32} {post : SX → Prop} (h : ∀ S' : SX, (∀ k, ¬ (44 ≤ k ∧ k ≤ 48) → S' k = S k) → S' 44 0 = nI (n + 1) → wl_ap (wl_at 43 S) (wl_at 43 S') n v1 v2 v3 v4 0 0 0 → post S') : kX4_add_44 S L v1 v2 v3 v4 post := by
  obtain ⟨S', s1, s2, s3, s4⟩ := e_X4_add_44 (L := L) h8 hn v1 v2 v3 v4
  exact s4 post (h S' s1 s2 s3)

theorem e_X7_comes {M : SX} {N : LX} {n : Nat} (h8 : M 0 2 = nI n) (hn : n < 24) (v1 v2 v3 v4 v5 v6 v7 : Int32) : ∃ M' : SX, (∀ k, k ≠ 0 → ¬ (2 ≤ k ∧ k ≤ 5) → M' k = M k) ∧ (∀ j, j ≠ 2 → M' 0 j = M 0 j) ∧ M' 0 2 = nI (n + 1) ∧ wl_ap M M' n v1 v2 v3 v4 v5 v6 v7 ∧ ∀ post : SX → Prop, post M' → kX7_comes M N v1 v2 v3 v4 v5 v6 v7 post := by
  have r1 : ∀ (T : SX) (i : Nat) (v : Int32), xu T 2 i v 0 = T 0 := fun T i v => xu_ne (by decide)
  have r2 : ∀ (T : SX) (i : Nat) (v : Int32), xu T 3 i v 0 = T 0 := fun T i v => xu_ne (by decide)
  have r3 : ∀ (T : SX) (i : Nat) (v : Int32), xu T 4 i v 0 = T 0 := fun T i v => xu_ne (by decide)
  have r4 : ∀ (T : SX) (i : Nat) (v : Int32), xu T 5 i v 0 = T 0 := fun T i v => xu_ne (by decide)
  have e4 : (4 : Int32) * nI n = nI (4 * n) := by rw [show (4 : Int32) = nI 4 from rfl, pk_mul]
  have c0 : (nI n).toNatClampNeg = n := nI_clamp (by omega)
  have c4 : (nI (4 * n)).toNatClampNeg = 4 * n := nI_clamp (by omega)
  have a1 : nI (4 * n) + (1 : Int32) = nI (4 * n + 1) := nI_add _ 1
  have a2 : nI (4 * n) + (2 : Int32) = nI (4 * n + 2) := nI_add _ 2
  have a3 : nI (4 * n) + (3 : Int32) = nI (4 * n + 3) := nI_add _ 3
  have d1 : (nI (4 * n + 1)).toNatClampNeg = 4 * n + 1 := nI_clamp (by omega)
  have d2 : (nI (4 * n + 2)).toNatClampNeg = 4 * n + 2 := nI_clamp (by omega)
  have d3 : (nI (4 * n + 3)).toNatClampNeg = 4 * n + 3 := nI_clamp (by omega)
  refine ⟨xu (xu (xu (xu (xu (xu (xu (xu M 2 n v1) 3 n v2) 4 n v3) 5 (4 * n) v4) 5 (4 * n + 1) v5) 5 (4 * n + 2) v6) 5 (4 * n + 3) v7) 0 2 (nI n + 1), ?_, ?_, ?_, ?_, ?_⟩
  · intro k h0 hk
    rw [xu_ne (by omega), xu_ne (by omega), xu_ne (by omega), xu_ne (by omega), xu_ne (by omega), xu_ne (by omega), xu_ne (by omega), xu_ne (by omega)]
  · intro j hj
    rw [xu_ap, if_pos rfl, if_neg hj, r4, r4, r4, r4, r3, r2, r1]
  · rw [xu_ap, if_pos rfl, if_pos rfl, nI_1]
  · refine ⟨fun j => ?_, fun j => ?_, fun j => ?_, fun j hj => ?_, ?_, ?_, ?_, ?_⟩
    · simp [xu_ap]
    · simp [xu_ap]
    · simp [xu_ap]
    · simp [xu_ap, show j ≠ 4 * n by omega, show j ≠ 4 * n + 1 by omega, show j ≠ 4 * n + 2 by omega, show j ≠ 4 * n + 3 by omega]
    · simp [xu_ap]
    · simp [xu_ap]
    · simp [xu_ap]
    · simp [xu_ap]
  · intro post h
    unfold kX7_comes
    simp only [r1, r2, r3, r4, h8, c0, e4, c4, a1, a2, a3, d1, d2, d3]
    exact ⟨pk_in n 24 hn, pk_in n 24 hn, pk_in n 24 hn, pk_in (4 * n) 96 (by omega), pk_in (4 * n + 1) 96 (by omega), pk_in (4 * n + 2) 96 (by omega), pk_in (4 * n + 3) 96 (by omega), h⟩
theorem s_X7_comes {M : SX} {N : LX} {n : Nat} (h8 : M 0 2 = nI n) (hn : n < 24) {v1 v2 v3 v4 v5 v6 v7 : Int32} {post : SX → Prop} (h : ∀ M' : SX, (∀ k, k ≠ 0 → ¬ (2 ≤ k ∧ k ≤ 5) → M' k = M k) → (∀ j, j ≠ 2 → M' 0 j = M 0 j) → M' 0 2 = nI (n + 1) → wl_ap M M' n v1 v2 v3 v4 v5 v6 v7 → post M') : kX7_comes M N v1 v2 v3 v4 v5 v6 v7 post := by
  obtain ⟨M', s1, s2, s3, s4, s5⟩ := e_X7_comes (N := N) h8 hn v1 v2 v3 v4 v5 v6 v7
  exact s5 post (h M' s1 s2 s3 s4)
/-- rows of a book with one will more -/
def wl_c (b : SN) (n y a s m l g t : Nat) : SN := fun k j => if k = 5 then (if j < 4 * n then b 5 j else if j = 4 * n then m else if j = 4 * n + 1 then l else if j = 4 * n + 2 then g else t) else if j = n then (if k = 2 then y else if k = 3 then a else s) else b k j
theorem wl_c_le {b : SN} {n y a s m l g t : Nat} (hO : bw_ok b) (hb : b 0 2 = n) (hy : y ≤ 7) (ha : a ≤ 5) (hs : s ≤ 1) (hm : m ≤ 9999) (hl : l ≤ 9999) (hg : g ≤ 9999) (ht : t ≤ 9999) : ∀ k j, 2 ≤ k → k ≤ 5 → j < bw_ln (n + 1) k → wl_c b n y a s m l g t k j ≤ bw_hi k := by
  intro k j k1 k2 hj
  have q := (hO.2 k j (by omega) (by omega))
  rw [hb] at q
  unfold wl_c
  rcases (show k = 2 ∨ k = 3 ∨ k = 4 ∨ k = 5 by omega) with rfl | rfl | rfl | rfl
  · simp only [show ¬ (2 = 5) by decide, if_false, if_true]
    split
    · exact hy
    · exact (q (by simp only [bw_ln] at hj ⊢; omega)).2
  · simp only [show ¬ (3 = 5) by decide, show ¬ (3 = 2) by decide, if_false, if_true]
    split
    · exact ha
    · exact (q (by simp only [bw_ln] at hj ⊢; omega)).2
  · simp only [show ¬ (4 = 5) by decide, show ¬ (4 = 2) by decide, show ¬ (4 = 3) by decide, if_false]
    split
    · exact hs
    · exact (q (by simp only [bw_ln] at hj ⊢; omega)).2
  · simp only [if_true]
    split
    · exact (q (by simp only [bw_ln]; omega)).2
    · split
      · exact hm
      · split
        · exact hl
        · split
          · exact hg
          · exact ht
theorem wl_ap_c {F F' : SX} {b : SN} {n y a s m l g t : Nat} (hF : ∀ k j, 2 ≤ k → k ≤ 5 → j < bw_ln n k → F k j = nI (b k j)) (h : wl_ap F F' n (nI y) (nI a) (nI s) (nI m) (nI l) (nI g) (nI t)) : ∀ k j, 2 ≤ k → k ≤ 5 → j < bw_ln (n + 1) k → F' k j = nI (wl_c b n y a s m l g t k j) := by
  intro k j k1 k2 hj
  have q := hF k j k1 k2
  obtain ⟨h2, h3, h4, h5, h6, h7, h8, h9⟩ := h
  unfold wl_c
  rcases (show k = 2 ∨ k = 3 ∨ k = 4 ∨ k = 5 by omega) with rfl | rfl | rfl | rfl
  · simp only [show ¬ (2 = 5) by decide, if_false, if_true]
    rw [h2]
    split
    · rfl
    · exact q (by simp only [bw_ln] at hj ⊢; omega)
  · simp only [show ¬ (3 = 5) by decide, show ¬ (3 = 2) by decide, if_false, if_true]
    rw [h3]
    split
    · rfl
    · exact q (by simp only [bw_ln] at hj ⊢; omega)
  · simp only [show ¬ (4 = 5) by decide, show ¬ (4 = 2) by decide, show ¬ (4 = 3) by decide, if_false]
    rw [h4]
    split
    · rfl
    · exact q (by simp only [bw_ln] at hj ⊢; omega)
  · simp only [if_true]
    split
    · rw [h5 j ‹_›]; exact q (by simp only [bw_ln]; omega)
    · split
      · subst_vars; exact h6
      · split
        · subst_vars; exact h7
        · split
          · subst_vars; exact h8
          · have : j = 4 * n + 3 := by simp only [bw_ln] at hj; omega
            subst this; exact h9
section OPS
variable {S M : SX} {L N : LX}
theorem bw_main_F {b : SN} (hm : bw_main S L M N b) : ∀ k j, 2 ≤ k → k ≤ 5 → j < bw_ln (b 0 2) k → wl_at 7 S k j = nI (b k j) := by
  intro k j k1 k2 hj
  have := hm.2.2.1.2 k j (by omega) (by omega) hj
  rw [bw_cx_w k k2 k1] at this; exact this
theorem bw_main_FM {b : SN} (hm : bw_main S L M N b) : ∀ k j, 2 ≤ k → k ≤ 5 → j < bw_ln (b 0 2) k → M k j = nI (b k j) := fun k j k1 k2 hj => hm.2.2.2.2.1.2 k j (by omega) (by omega) hj
/-- a will comes, in class and reference -/
theorem bw_R_add {S' M' : SX} {b : SN} (hm : bw_main S L M N b) (hr : bw_rest S L M N) (hn : b 0 2 < 24) {y a s m : Nat} (hy : y ≤ 7) (ha : a ≤ 5) (hs : s ≤ 1) (hmm : m ≤ 9999) (s1 : ∀ k, ¬ (8 ≤ k ∧ k ≤ 12) → S' k = S k) (s2 : S' 8 0 = nI (b 0 2 + 1)) (s3 : wl_ap (wl_at 7 S) (wl_at 7 S') (b 0 2) (nI y) (nI a) (nI s) (nI m) 0 0 0) (t1 : ∀ k, k ≠ 0 → ¬ (2 ≤ k ∧ k ≤ 5) → M' k = M k) (t2 : ∀ j, j ≠ 2 → M' 0 j = M 0 j) (t3 : M' 0 2 = nI (b 0 2 + 1)) (t4 : wl_ap M M' (b 0 2) (nI y) (nI a) (nI s) (nI m) 0 0 0) : bw_main S' L M' N (bw_wl b (b 0 2 + 1) (wl_c b (b 0 2) y a s m 0 0 0)) ∧ bw_rest S' L M' N := by
  have hF := wl_ap_c (l := 0) (g := 0) (t := 0) (bw_main_F hm) s3
  have hG := wl_ap_c (l := 0) (g := 0) (t := 0) (bw_main_FM hm) t4
  exact ⟨bw_main_wills (S' := S') (M' := M') hm (n := b 0 2 + 1) (c := wl_c b (b 0 2) y a s m 0 0 0) (by omega) (wl_c_le hm.1 rfl hy ha hs hmm (by omega) (by omega) (by omega)) (fun k k1 k2 k3 => s1 k k3) s2 hF (fun k k1 k2 k3 => t1 k (by omega) k3) (fun j hj => t2 j (by omega)) t3 hG, bw_rest_keep (S' := S') (M' := M') (L' := L) (N' := N) hr (fun k hk => s1 k (by omega)) (by rw [s1 37 (by omega)]) (fun _ _ => rfl) (fun k hk => t1 k (by omega) (by omega)) (t2 3 (by omega)) (t2 6 (by omega)) rfl⟩
theorem ok_will (hR : bw_R S L M N) (a1 a2 a3 a4 : Int32) : kX6_will S L a1 a2 a3 a4 (fun r S1 => kX7_will M N a1 a2 a3 a4 (fun r' M1 => r = r' ∧ bw_R S1 L M1 N)) := by
  obtain ⟨⟨b, hm⟩, hr⟩ := id hR
  have hn := bo_n hm.1
  unfold kX6_will kX7_will
  refine s_X6_isYear (bw_br (fun q => s_X7_isYear (bq_f q ⟨rfl, hR⟩)) (fun q => s_X6_wI 0 5 (bw_br (fun q2 => s_X7_isYear (bq_t q (s_X7_wI 0 5 (bq_f q2 ⟨rfl, hR⟩)))) (fun q2 => s_X6_wI 0 1 (bw_br (fun q3 => s_X7_isYear (bq_t q (s_X7_wI 0 5 (bq_t q2 (s_X7_wI 0 1 (bq_f q3 ⟨rfl, hR⟩)))))) (fun q3 => s_X6_wI 0 9999 (bw_br (fun q4 => s_X7_isYear (bq_t q (s_X7_wI 0 5 (bq_t q2 (s_X7_wI 0 1 (bq_t q3 (s_X7_wI 0 9999 (bq_f q4 ⟨rfl, hR⟩)))))))) (fun q4 => ?_))))))))
  obtain ⟨y, hy, rfl⟩ := bw_in_t (n := 7) q
  obtain ⟨a, ha, rfl⟩ := bw_in_t (n := 5) q2
  obtain ⟨s, hs, rfl⟩ := bw_in_t (n := 1) q3
  obtain ⟨m, hmm, rfl⟩ := bw_in_t (n := 9999) q4
  refine s_X4_room_8 (k := 1) (bx_n hm.2.2.1) hn (by decide) (bw_br (fun q5 => ?_) (fun q5 => ?_))
  · refine s_X7_isYear (bq_t q (s_X7_wI 0 5 (bq_t q2 (s_X7_wI 0 1 (bq_t q3 (s_X7_wI 0 9999 (bq_t q4 ?_)))))))
    have q5 := of_decide_eq_false q5
    rw [bm_n hm.2.2.2.2.1]
    exact pk_eq (b 0 2) 24 (fun _ => ⟨rfl, hR⟩) (fun z => by omega)
  · have q5 := of_decide_eq_true q5
    refine s_X4_add_8 (bx_n hm.2.2.1) (by omega) (fun S' s1 s2 s3 => ?_)
    refine s_X7_isYear (bq_t q (s_X7_wI 0 5 (bq_t q2 (s_X7_wI 0 1 (bq_t q3 (s_X7_wI 0 9999 (bq_t q4 ?_)))))))
    rw [bm_n hm.2.2.2.2.1]
    refine pk_eq (b 0 2) 24 (fun z => by omega) (fun z => s_X7_comes (bm_n hm.2.2.2.2.1) (by omega) (fun M' t1 t2 t3 t4 => ⟨by rw [s2, t3], ?_⟩))
    have key := bw_R_add hm hr (by omega) hy ha hs hmm s1 s2 s3 t1 t2 t3 t4
    exact ⟨⟨_, key.1⟩, key.2⟩
end OPS

theorem wb_tb (n : Nat) : (lN n).toBitVec = BitVec.ofNat 64 n := rfl
theorem wb_inj {a b : Int64} (h : a.toBitVec = b.toBitVec) : a = b := Int64.toBitVec_inj.mp h
theorem wb_tn {n : Nat} (h : n < 2 ^ 64) : (lN n).toBitVec.toNat = n := by rw [wb_tb, BitVec.toNat_ofNat, Nat.mod_eq_of_lt h]
theorem wb_of (x : Int64) : ∃ n, n < 2 ^ 64 ∧ x = lN n := ⟨x.toBitVec.toNat, x.toBitVec.isLt, wb_inj (by rw [wb_tb]; simp)⟩
theorem wb_of32 (x : Int32) : ∃ n, n < 2 ^ 32 ∧ x = nI n := ⟨x.toBitVec.toNat, x.toBitVec.isLt, Int32.toBitVec_inj.mp (by show _ = BitVec.ofNat 32 _; simp)⟩
theorem wb_c : ∀ k, k < 64 → ((nI k).toInt64 &&& 63) = lN k := by decide +kernel
theorem wb_cu : ∀ k, k < 64 → ((nI k).toInt64.toUInt64 &&& Int64.toUInt64 63) = UInt64.ofNat k := by decide +kernel
theorem wb_sm : ∀ k, k < 64 → (BitVec.ofNat 64 k).smod 64 = BitVec.ofNat 64 k := by decide +kernel
theorem wb_pw {a b : Nat} (h : a ≤ b) : 2 ^ b = 2 ^ a * 2 ^ (b - a) := by rw [← Nat.pow_add]; congr 1; omega
theorem wb_lt2 {a b : Nat} (h : a < b) : 2 ^ a < 2 ^ b := Nat.pow_lt_pow_right (by decide) h
theorem wb_mod (n : Nat) : lN n = lN (n % 2 ^ 64) := wb_inj (by rw [wb_tb, wb_tb]; apply BitVec.eq_of_toNat_eq; rw [BitVec.toNat_ofNat, BitVec.toNat_ofNat, Nat.mod_mod])
theorem wb_shr {n k : Nat} (hn : n < 2 ^ 64) (hk : k < 64) : ((lN n).toUInt64 >>> ((nI k).toInt64.toUInt64 &&& Int64.toUInt64 63)).toInt64 = lN (n / 2 ^ k) := by
  rw [wb_cu k hk]
  apply wb_inj
  apply BitVec.eq_of_toNat_eq
  show ((lN n).toUInt64 >>> UInt64.ofNat k).toNat = (BitVec.ofNat 64 _).toNat
  have h1 : (UInt64.ofNat k).toNat = k := by
    show (BitVec.ofNat 64 k).toNat = k
    rw [BitVec.toNat_ofNat, Nat.mod_eq_of_lt (by omega)]
  have h2 : (lN n).toUInt64.toNat = n := wb_tn hn
  rw [UInt64.toNat_shiftRight, h1, h2, Nat.mod_eq_of_lt hk, Nat.shiftRight_eq_div_pow, BitVec.toNat_ofNat, Nat.mod_eq_of_lt (Nat.lt_of_le_of_lt (Nat.div_le_self _ _) hn)]
theorem wb_shl (n : Nat) {k : Nat} (hk : k < 64) : lN n <<< ((nI k).toInt64 &&& 63) = lN (n * 2 ^ k) := by
  rw [wb_c k hk]
  apply wb_inj
  rw [Int64.toBitVec_shiftLeft, wb_tb, wb_tb, wb_tb, wb_sm k hk]
  apply BitVec.eq_of_toNat_eq
  rw [BitVec.shiftLeft_eq', BitVec.toNat_shiftLeft, BitVec.toNat_ofNat, BitVec.toNat_ofNat, BitVec.toNat_ofNat, Nat.mod_eq_of_lt (show k < 2 ^ 64 by omega), Nat.shiftLeft_eq, Nat.mul_mod, Nat.mod_mod, ← Nat.mul_mod]
theorem wb_and {a b : Nat} (ha : a < 2 ^ 64) (hb : b < 2 ^ 64) : lN a &&& lN b = lN (a &&& b) := by
  apply wb_inj
  rw [Int64.toBitVec_and, wb_tb, wb_tb, wb_tb]
  apply BitVec.eq_of_toNat_eq
  rw [BitVec.toNat_and, BitVec.toNat_ofNat, BitVec.toNat_ofNat, BitVec.toNat_ofNat, Nat.mod_eq_of_lt ha, Nat.mod_eq_of_lt hb, Nat.mod_eq_of_lt (Nat.and_lt_two_pow _ hb)]
theorem wb_or {a b : Nat} (ha : a < 2 ^ 64) (hb : b < 2 ^ 64) : lN a ||| lN b = lN (a ||| b) := by
  apply wb_inj
  rw [Int64.toBitVec_or, wb_tb, wb_tb, wb_tb]
  apply BitVec.eq_of_toNat_eq
  rw [BitVec.toNat_or, BitVec.toNat_ofNat, BitVec.toNat_ofNat, BitVec.toNat_ofNat, Nat.mod_eq_of_lt ha, Nat.mod_eq_of_lt hb, Nat.mod_eq_of_lt (Nat.or_lt_two_pow ha hb)]
theorem wb_mask {n k : Nat} (hn : n < 2 ^ 64) (hk : k < 64) : lN n &&& lN (2 ^ k - 1) = lN (n % 2 ^ k) := by
  rw [wb_and hn (by have := wb_lt2 hk; omega), Nat.and_two_pow_sub_one_eq_mod]
section OPS
variable {S M : SX} {L N : LX}
theorem dr_x (x : Int64) : ∃ r : Nat, r < 2 ^ 31 ∧ (x.toUInt64 >>> ((33 : Int32).toInt64.toUInt64 &&& Int64.toUInt64 63)).toInt64 = lN r := by
  obtain ⟨n, hn, rfl⟩ := wb_of x
  exact ⟨n / 2 ^ 33, by omega, wb_shr (k := 33) hn (by decide)⟩
theorem dr_sq {r : Nat} : r / 12 % 10000 * (r / 12 % 10000) / 10000 ≤ 9999 := by
  have h : r / 12 % 10000 ≤ 9999 := by omega
  have h2 := Nat.mul_le_mul h h
  omega
theorem e_draw (a1 : Int64) (y : Nat) (hy : y ≤ 7) (n : Nat) : ∀ (e i : Nat) (x : Int64) (S M : SX) (b : SN), i + e = n → n ≤ 24 → b 0 2 + e ≤ 24 → bw_main S L M N b → bw_rest S L M N → ∃ S' M' : SX, bw_R S' L M' N ∧ S' 8 0 = M' 0 2 ∧ (∀ post : Int32 → SX → Prop, post (S' 8 0) S' → kX6_draw_b46 L a1 (nI y) (nI n) post (e + 1) x (nI i) S) ∧ (∀ post : Int32 → SX → Prop, post (M' 0 2) M' → kX7_draw_b43 N a1 (nI y) (nI n) post (e + 1) x (nI i) M) := by
  intro e
  induction e with
  | zero =>
    intro i x S M b hi hn hb hm hr
    refine ⟨S, M, ⟨⟨b, hm⟩, hr⟩, by rw [bx_n hm.2.2.1, bm_n hm.2.2.2.2.1], fun post h => ?_, fun post h => ?_⟩
    · unfold kX6_draw_b46
      exact pk_le n i (fun _ => h) (fun z => by omega)
    · unfold kX7_draw_b43
      exact pk_le n i (fun _ => h) (fun z => by omega)
  | succ e ih =>
    intro i x S M b hi hn hb hm hr
    obtain ⟨r, hr31, er⟩ := dr_x ((x * (6364136223846793005 : Int64)) + (1442695040888963407 : Int64))
    have b1 : r % 6 ≤ 5 := by omega
    have b2 : r / 6 % 2 ≤ 1 := by omega
    have b3 := dr_sq (r := r)
    have b4 : r / 12 % 10000 * (r / 12 % 10000) < 2 ^ 31 := by
      have h : r / 12 % 10000 ≤ 9999 := by omega
      have h2 := Nat.mul_le_mul h h
      omega
    obtain ⟨S', s1, s2, s3, s4⟩ := e_X4_add_8 (L := L) (bx_n hm.2.2.1) (by omega) (nI y) (nI (r % 6)) (nI (r / 6 % 2)) (nI (r / 12 % 10000 * (r / 12 % 10000) / 10000))
    obtain ⟨M', t1, t2, t3, t4, t5⟩ := e_X7_comes (N := N) (bm_n hm.2.2.2.2.1) (by omega) (nI y) (nI (r % 6)) (nI (r / 6 % 2)) (nI (r / 12 % 10000 * (r / 12 % 10000) / 10000)) 0 0 0
    have key := bw_R_add hm hr (by omega) hy b1 b2 b3 s1 s2 s3 t1 t2 t3 t4
    obtain ⟨S2, M2, u1, u2, u3, u4⟩ := ih (i + 1) ((x * (6364136223846793005 : Int64)) + (1442695040888963407 : Int64)) S' M' _ (by omega) hn (by rw [bw_wl_n]; omega) key.1 key.2
    have f1 : lN r - lN r / (6 : Int64) * (6 : Int64) = lN (r % 6) := pk_lRem (b := 6) (by omega) (by decide) (by decide)
    have f2 : lN r / (6 : Int64) = lN (r / 6) := pk_lDiv (b := 6) (by omega) (by decide) (by decide)
    have f3 : lN (r / 6) - lN (r / 6) / (2 : Int64) * (2 : Int64) = lN (r / 6 % 2) := pk_lRem (b := 2) (by omega) (by decide) (by decide)
    have f4 : lN r / (12 : Int64) = lN (r / 12) := pk_lDiv (b := 12) (by omega) (by decide) (by decide)
    have f5 : lN (r / 12) - lN (r / 12) / (10000 : Int64) * (10000 : Int64) = lN (r / 12 % 10000) := pk_lRem (b := 10000) (by omega) (by decide) (by decide)
    have f6 : nI (r / 12 % 10000 * (r / 12 % 10000)) / (10000 : Int32) = nI (r / 12 % 10000 * (r / 12 % 10000) / 10000) := pk_div (d := 10000) b4 (by decide) (by decide)
    have g1 : nI r - nI r / (6 : Int32) * (6 : Int32) = nI (r % 6) := pk_rem (d := 6) hr31 (by decide) (by decide)
    have g2 : nI r / (6 : Int32) = nI (r / 6) := pk_div (d := 6) hr31 (by decide) (by decide)
    have g3 : nI (r / 6) - nI (r / 6) / (2 : Int32) * (2 : Int32) = nI (r / 6 % 2) := pk_rem (d := 2) (by omega) (by decide) (by decide)
    have g4 : nI r / (12 : Int32) = nI (r / 12) := pk_div (d := 12) hr31 (by decide) (by decide)
    have g5 : nI (r / 12) - nI (r / 12) / (10000 : Int32) * (10000 : Int32) = nI (r / 12 % 10000) := pk_rem (d := 10000) (by omega) (by decide) (by decide)
    refine ⟨S2, M2, u1, u2, fun post h => ?_, fun post h => ?_⟩
    · unfold kX6_draw_b46
      rw [er, f1, f2, f3, f4, f5, lN_i, lN_i, lN_i, pk_mul, f6, nI_1]
      exact pk_le n i (fun z => by omega) (fun _ => s4 _ (u3 post h))
    · unfold kX7_draw_b43
      rw [er, lN_i, g1, g2, g3, g4, g5, pk_mul, f6, nI_1]
      exact pk_le n i (fun z => by omega) (fun _ => t5 _ (u4 post h))
theorem ok_draw (hR : bw_R S L M N) (a1 : Int64) (a2 a3 : Int32) : kX6_draw S L a1 a2 a3 (fun r S1 => kX7_draw M N a1 a2 a3 (fun r' M1 => r = r' ∧ bw_R S1 L M1 N)) := by
  obtain ⟨⟨b, hm⟩, hr⟩ := id hR
  have hn := bo_n hm.1
  unfold kX6_draw kX7_draw
  refine s_X6_isYear (bw_br (fun q => s_X7_isYear (bq_f q ⟨rfl, hR⟩)) (fun q => s_X6_wI 1 24 (bw_br (fun q2 => s_X7_isYear (bq_t q (s_X7_wI 1 24 (bq_f q2 ⟨rfl, hR⟩)))) (fun q2 => ?_))))
  obtain ⟨y, hy, rfl⟩ := bw_in_t (n := 7) q
  obtain ⟨n, hn1, hn2, rfl⟩ := bw_in_t1 (n := 24) q2
  refine s_X4_room_8 (bx_n hm.2.2.1) hn (by omega) (bw_br (fun q5 => ?_) (fun q5 => ?_))
  · have q5 := of_decide_eq_false q5
    refine s_X7_isYear (bq_t q (s_X7_wI 1 24 (bq_t q2 ?_)))
    rw [bm_n hm.2.2.2.2.1, nI_add]
    exact pk_le (b 0 2 + n) 24 (fun z => by omega) (fun _ => ⟨rfl, hR⟩)
  · have q5 := of_decide_eq_true q5
    obtain ⟨S2, M2, u1, u2, u3, u4⟩ := e_draw (L := L) (N := N) a1 y hy n n 0 a1 S M b (by omega) hn2 q5 hm hr
    refine ⟨n + 1, u3 _ (s_X7_isYear (bq_t q (s_X7_wI 1 24 (bq_t q2 ?_))))⟩
    rw [bm_n hm.2.2.2.2.1, nI_add]
    exact pk_le (b 0 2 + n) 24 (fun z => ⟨n + 1, u4 _ ⟨u2, u1⟩⟩) (fun z => by omega)
end OPS
