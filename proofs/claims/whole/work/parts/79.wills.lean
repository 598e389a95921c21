/-! ===== wills ===== -/
def ww_c (b : SN) (n0 : Nat) (V : Nat → Nat → Nat) : SN := fun k j => if k = 5 then (if j < 4 * n0 then b 5 j else V ((j - 4 * n0) / 4) (3 + (j - 4 * n0) % 4)) else if j < n0 then b k j else V (j - n0) (k - 2)
section OPS
variable {S M : SX} {L N : LX}
theorem ww_old {b : SN} {n0 : Nat} {V : Nat → Nat → Nat} {k j : Nat} (h1 : 2 ≤ k) (h2 : k ≤ 5) (hj : j < bw_ln n0 k) : ww_c b n0 V k j = b k j := by
  unfold ww_c
  rcases (show k = 2 ∨ k = 3 ∨ k = 4 ∨ k = 5 by omega) with rfl | rfl | rfl | rfl
  · rw [if_neg (by decide), if_pos (show j < n0 from hj)]
  · rw [if_neg (by decide), if_pos (show j < n0 from hj)]
  · rw [if_neg (by decide), if_pos (show j < n0 from hj)]
  · rw [if_pos rfl, if_pos (show j < 4 * n0 from hj)]
theorem ww_2 {b : SN} {n0 i : Nat} {V : Nat → Nat → Nat} {k : Nat} (hk : k ≠ 5) : ww_c b n0 V k (n0 + i) = V i (k - 2) := by
  unfold ww_c; rw [if_neg hk, if_neg (by omega)]; congr 1; omega
theorem ww_5 {b : SN} {n0 i t : Nat} {V : Nat → Nat → Nat} (ht : t < 4) : ww_c b n0 V 5 (4 * (n0 + i) + t) = V i (3 + t) := by
  unfold ww_c; rw [if_pos rfl, if_neg (by omega), show (4 * (n0 + i) + t - 4 * n0) / 4 = i by omega, show (4 * (n0 + i) + t - 4 * n0) % 4 = t by omega]
theorem ww_le {b : SN} (hO : bw_ok b) {n : Nat} {V : Nat → Nat → Nat} (hV : ∀ i, V i 0 ≤ 7 ∧ V i 1 ≤ 5 ∧ V i 2 ≤ 1 ∧ V i 3 ≤ 9999 ∧ V i 4 ≤ 9999 ∧ V i 5 ≤ 9999 ∧ V i 6 ≤ 9999) : ∀ k j, 2 ≤ k → k ≤ 5 → j < bw_ln n k → ww_c b (b 0 2) V k j ≤ bw_hi k := by
  intro k j h1 h2 _
  by_cases c : j < bw_ln (b 0 2) k
  · rw [ww_old h1 h2 c]; exact (hO.2 k j (by omega) (by omega) c).2
  · rcases (show k = 2 ∨ k = 3 ∨ k = 4 ∨ k = 5 by omega) with rfl | rfl | rfl | rfl
    · have c : ¬ j < b 0 2 := c
      unfold ww_c; rw [if_neg (by decide), if_neg c]; exact (hV _).1
    · have c : ¬ j < b 0 2 := c
      unfold ww_c; rw [if_neg (by decide), if_neg c]; exact (hV _).2.1
    · have c : ¬ j < b 0 2 := c
      unfold ww_c; rw [if_neg (by decide), if_neg c]; exact (hV _).2.2.1
    · have c : ¬ j < 4 * b 0 2 := c
      unfold ww_c; rw [if_pos rfl, if_neg c]
      have h := hV ((j - 4 * b 0 2) / 4)
      rcases (show (j - 4 * b 0 2) % 4 = 0 ∨ (j - 4 * b 0 2) % 4 = 1 ∨ (j - 4 * b 0 2) % 4 = 2 ∨ (j - 4 * b 0 2) % 4 = 3 by omega) with e | e | e | e <;> rw [e]
      · exact h.2.2.2.1
      · exact h.2.2.2.2.1
      · exact h.2.2.2.2.2.1
      · exact h.2.2.2.2.2.2
/-- rows read with one will more -/
theorem ww_step {b : SN} {n0 i : Nat} {V : Nat → Nat → Nat} {F F' : SX} (h0 : ∀ k j, 2 ≤ k → k ≤ 5 → j < bw_ln (n0 + i) k → F k j = nI (ww_c b n0 V k j)) (h : wl_ap F F' (n0 + i) (nI (V i 0)) (nI (V i 1)) (nI (V i 2)) (nI (V i 3)) (nI (V i 4)) (nI (V i 5)) (nI (V i 6))) : ∀ k j, 2 ≤ k → k ≤ 5 → j < bw_ln (n0 + (i + 1)) k → F' k j = nI (ww_c b n0 V k j) := by
  obtain ⟨p1, p2, p3, p4, p5, p6, p7, p8⟩ := h
  intro k j h1 h2 hj
  rcases (show k = 2 ∨ k = 3 ∨ k = 4 ∨ k = 5 by omega) with rfl | rfl | rfl | rfl
  · have hj : j < n0 + (i + 1) := hj
    rw [p1 j]
    by_cases c : j = n0 + i
    · rw [if_pos c, c, ww_2 (by decide)]
    · rw [if_neg c]; exact h0 2 j h1 h2 (show j < n0 + i by omega)
  · have hj : j < n0 + (i + 1) := hj
    rw [p2 j]
    by_cases c : j = n0 + i
    · rw [if_pos c, c, ww_2 (by decide)]
    · rw [if_neg c]; exact h0 3 j h1 h2 (show j < n0 + i by omega)
  · have hj : j < n0 + (i + 1) := hj
    rw [p3 j]
    by_cases c : j = n0 + i
    · rw [if_pos c, c, ww_2 (by decide)]
    · rw [if_neg c]; exact h0 4 j h1 h2 (show j < n0 + i by omega)
  · have hj : j < 4 * (n0 + (i + 1)) := hj
    by_cases c : j < 4 * (n0 + i)
    · rw [p4 j c]; exact h0 5 j h1 h2 c
    · rcases (show j = 4 * (n0 + i) + 0 ∨ j = 4 * (n0 + i) + 1 ∨ j = 4 * (n0 + i) + 2 ∨ j = 4 * (n0 + i) + 3 by omega) with rfl | rfl | rfl | rfl
      · rw [ww_5 (by decide)]; exact p5
      · rw [ww_5 (by decide)]; exact p6
      · rw [ww_5 (by decide)]; exact p7
      · rw [ww_5 (by decide)]; exact p8
theorem s_X7_wills_ap {b : SN} {n0 n : Nat} {V : Nat → Nat → Nat} (hn : n ≤ 8) (hn0 : n0 + n ≤ 24) (hr : rr_I V 7 n M) (h2 : M 0 2 = nI n0) (h0 : ∀ k j, 2 ≤ k → k ≤ 5 → j < bw_ln n0 k → M k j = nI (b k j)) {post : Int32 → SX → Prop} (hp : ∀ M', (∀ q, q ≠ 0 → ¬ (2 ≤ q ∧ q ≤ 5) → M' q = M q) → (∀ j, j ≠ 2 → M' 0 j = M 0 j) → M' 0 2 = nI (n0 + n) → (∀ k j, 2 ≤ k → k ≤ 5 → j < bw_ln (n0 + n) k → M' k j = nI (ww_c b n0 V k j)) → post (nI n) M') : ∃ f, kX7_wills_b26 N (nI n) post f (0 : Int32) M := by
  have e7 : (7 : Int32) * nI n = nI (7 * n) := by rw [show (7 : Int32) = nI 7 from rfl, pk_mul]
  refine pk_loop (fun f i (s : SX) => kX7_wills_b26 N (nI n) post f (nI (7 * i)) s) (fun i s => (∀ q, q ≠ 0 → ¬ (2 ≤ q ∧ q ≤ 5) → s q = M q) ∧ (∀ j, j ≠ 2 → s 0 j = M 0 j) ∧ s 0 2 = nI (n0 + i) ∧ (∀ k j, 2 ≤ k → k ≤ 5 → j < bw_ln (n0 + i) k → s k j = nI (ww_c b n0 V k j))) n 0 M (Nat.zero_le _) ⟨fun _ _ _ => rfl, fun _ _ => rfl, h2, fun k j h1 h2 hj => by rw [ww_old (n0 := n0) h1 h2 hj]; exact h0 k j h1 h2 hj⟩ ?_ ?_
  · intro f s hs
    unfold kX7_wills_b26
    rw [e7]
    exact pk_le (7 * n) (7 * n) (fun _ => hp s hs.1 hs.2.1 hs.2.2.1 hs.2.2.2) (fun z => by omega)
  · intro f i s hi hs hc
    unfold kX7_wills_b26
    have a1 : nI (7 * i) + (1 : Int32) = nI (7 * i + 1) := nI_add _ 1
    have a2 : nI (7 * i) + (2 : Int32) = nI (7 * i + 2) := nI_add _ 2
    have a3 : nI (7 * i) + (3 : Int32) = nI (7 * i + 3) := nI_add _ 3
    have a4 : nI (7 * i) + (4 : Int32) = nI (7 * i + 4) := nI_add _ 4
    have a5 : nI (7 * i) + (5 : Int32) = nI (7 * i + 5) := nI_add _ 5
    have a6 : nI (7 * i) + (6 : Int32) = nI (7 * i + 6) := nI_add _ 6
    have a7 : nI (7 * i) + (7 : Int32) = nI (7 * (i + 1)) := (nI_add (7 * i) 7).trans (by congr 1)
    have v : ∀ t, t < 7 → s 15 (7 * i + t) = nI (V i t) := fun t ht => by rw [hs.1 15 (by decide) (by decide)]; exact hr i hi t ht
    have v0 : s 15 (7 * i) = nI (V i 0) := v 0 (by decide)
    rw [e7, a1, a2, a3, a4, a5, a6, a7, nI_clamp (show 7 * i < 2 ^ 31 by omega), nI_clamp (show 7 * i + 1 < 2 ^ 31 by omega), nI_clamp (show 7 * i + 2 < 2 ^ 31 by omega), nI_clamp (show 7 * i + 3 < 2 ^ 31 by omega), nI_clamp (show 7 * i + 4 < 2 ^ 31 by omega), nI_clamp (show 7 * i + 5 < 2 ^ 31 by omega), nI_clamp (show 7 * i + 6 < 2 ^ 31 by omega), v0, v 1 (by decide), v 2 (by decide), v 3 (by decide), v 4 (by decide), v 5 (by decide), v 6 (by decide)]
    refine pk_le (7 * n) (7 * i) (fun z => by omega) (fun _ => ⟨pk_in (7 * i) 56 (by omega), pk_in (7 * i + 1) 56 (by omega), pk_in (7 * i + 2) 56 (by omega), pk_in (7 * i + 3) 56 (by omega), pk_in (7 * i + 4) 56 (by omega), pk_in (7 * i + 5) 56 (by omega), pk_in (7 * i + 6) 56 (by omega), s_X7_comes hs.2.2.1 (by omega) (fun T t1 t2 t3 t4 => hc T ⟨fun q h1 h2 => by rw [t1 q h1 h2, hs.1 q h1 h2], fun j hj => by rw [t2 j hj, hs.2.1 j hj], t3, ?_⟩)⟩)
    exact ww_step hs.2.2.2 t4
/-- the class takes the new wills over -/
theorem s_X4_addAll {n0 n : Nat} (hn : n0 + n ≤ 24) (h8 : S 8 0 = nI n0) (h44 : S 44 0 = nI n) {post : SX → Prop} (hp : ∀ S', (∀ q, ¬ (8 ≤ q ∧ q ≤ 12) → S' q = S q) → S' 8 0 = nI (n0 + n) → (∀ j, j < n0 → S' 9 j = S 9 j ∧ S' 10 j = S 10 j ∧ S' 11 j = S 11 j) → (∀ i, i < n → S' 9 (n0 + i) = S 45 i ∧ S' 10 (n0 + i) = S 46 i ∧ S' 11 (n0 + i) = S 47 i) → (∀ j, j < 4 * n0 → S' 12 j = S 12 j) → (∀ i, i < 4 * n → S' 12 (4 * n0 + i) = S 48 i) → post S') : kX4_addAll S L post := by
  unfold kX4_addAll
  rw [h44]
  refine s_X4_room_8 h8 (by omega) (by omega) ?_
  rw [decide_eq_true hn]
  refine bf_t ?_
  have c0 : (0 : Int32).toNatClampNeg = 0 := rfl
  have m0 : (0 : Int32) * (4 : Int32) = 0 := rfl
  have m1 : nI n0 * (4 : Int32) = nI (4 * n0) := by rw [show (4 : Int32) = nI 4 from rfl, pk_mul, Nat.mul_comm]
  have m2 : nI n * (4 : Int32) = nI (4 * n) := by rw [show (4 : Int32) = nI 4 from rfl, pk_mul, Nat.mul_comm]
  unfold kX4_move_8_44
  rw [h8, m0, m1, m2, c0, nI_clamp (show n0 < 2 ^ 31 by omega), nI_clamp (show n < 2 ^ 31 by omega), nI_clamp (show 4 * n0 < 2 ^ 31 by omega), nI_clamp (show 4 * n < 2 ^ 31 by omega)]
  have pp : ¬ (0 : Int32) < 0 ∧ ¬ nI n0 < 0 ∧ ¬ nI n < 0 ∧ 0 + n ≤ 24 ∧ n0 + n ≤ 24 := ⟨by decide, nI_pos (by omega), nI_pos (by omega), by omega, by omega⟩
  generalize hT : xcp (xcp (xcp (xcp S 9 45 0 n0 n) 10 46 0 n0 n) 11 47 0 n0 n) 12 48 0 (4 * n0) (4 * n) = T
  have T8 : T 8 = S 8 := by rw [← hT, xcp_ne (by decide), xcp_ne (by decide), xcp_ne (by decide), xcp_ne (by decide)]
  have T44 : T 44 = S 44 := by rw [← hT, xcp_ne (by decide), xcp_ne (by decide), xcp_ne (by decide), xcp_ne (by decide)]
  have x9 : T 9 = va_cpy (S 45) (S 9) 0 n0 n := by rw [← hT, xcp_ne (by decide), xcp_ne (by decide), xcp_ne (by decide), xcp_eq]
  have x10 : T 10 = va_cpy (S 46) (S 10) 0 n0 n := by rw [← hT, xcp_ne (by decide), xcp_ne (by decide), xcp_eq, xcp_ne (by decide), xcp_ne (by decide)]
  have x11 : T 11 = va_cpy (S 47) (S 11) 0 n0 n := by rw [← hT, xcp_ne (by decide), xcp_eq, xcp_ne (by decide), xcp_ne (by decide), xcp_ne (by decide), xcp_ne (by decide)]
  have x12 : T 12 = va_cpy (S 48) (S 12) 0 (4 * n0) (4 * n) := by rw [← hT, xcp_eq, xcp_ne (by decide), xcp_ne (by decide), xcp_ne (by decide), xcp_ne (by decide), xcp_ne (by decide), xcp_ne (by decide)]
  refine ⟨pp, pp, pp, ⟨by decide, nI_pos (by omega), nI_pos (by omega), by omega, by omega⟩, hp _ (fun q hq => ?_) ?_ (fun j hj => ⟨?_, ?_, ?_⟩) (fun i hi => ⟨?_, ?_, ?_⟩) (fun j hj => ?_) (fun i hi => ?_)⟩
  · rw [xu_ne (by omega), ← hT, xcp_ne (by omega), xcp_ne (by omega), xcp_ne (by omega), xcp_ne (by omega)]
  · rw [xu_ap, if_pos rfl, if_pos rfl, T8, T44, h8, h44, nI_add]
  · rw [xu_ne (by decide), x9, pk_cpy_out (by omega)]
  · rw [xu_ne (by decide), x10, pk_cpy_out (by omega)]
  · rw [xu_ne (by decide), x11, pk_cpy_out (by omega)]
  · rw [xu_ne (by decide), x9, pk_cpy_in (by omega) (by omega)]; congr 1; omega
  · rw [xu_ne (by decide), x10, pk_cpy_in (by omega) (by omega)]; congr 1; omega
  · rw [xu_ne (by decide), x11, pk_cpy_in (by omega) (by omega)]; congr 1; omega
  · rw [xu_ne (by decide), x12, pk_cpy_out (by omega)]
  · rw [xu_ne (by decide), x12, pk_cpy_in (by omega) (by omega)]; congr 1; omega
theorem ok_wills (hR : bw_R S L M N) : kX6_wills S L (fun r S1 => kX7_wills M N (fun r' M1 => r = r' ∧ bw_R S1 L M1 N)) := by
  obtain ⟨⟨b, hm⟩, hr⟩ := id hR
  obtain ⟨tn, tb, t1, t2, t3, t4⟩ := id hr.2.1
  have hT : tpT tb tn := ⟨t1, fun j hj => (t4 j hj).2.2⟩
  have hX := hm.2.2.1
  have hM := hm.2.2.2.2.1
  have hO := hm.1
  have hn := bo_n hO
  have hE := pf_end_le (tb := tb) (tn := tn) (cS := wlS tb tn) (fun q hq => wlS_b hq) (fun q hq => tp_s_le hq) 8 0 (Nat.zero_le _) (by decide) (by decide)
  unfold kX6_wills kX3_clear
  refine ⟨9, s_X3_readWills_go hT (b0 := fun r j => 0) 8 0 (xu (xu S 44 0 0) 37 1 0) rfl (by decide) (tpX_0 (by rw [xu_ne (by decide)]; exact t2) (fun j hj => by rw [xu_ne (by decide)]; exact (t4 j hj).1)) ⟨?_, fun i hi => absurd hi (by omega)⟩ (fun S2 f2 i2 => ?_)⟩
  · rw [xu_ne (by decide), xu_ap, if_pos rfl, if_pos rfl]; rfl
  have fS : ∀ q, q ≠ 37 → ¬ (39 ≤ q ∧ q ≤ 48) → xu S2 37 0 0 q = S q := fun q h1 h2 => by rw [xu_ne h1, f2 q h1 (by omega), xu_ne h1, xu_ne (by omega)]
  have fS0 : xu S2 37 0 0 37 0 = 0 := by rw [xu_ap, if_pos rfl, if_pos rfl]
  generalize hEq : pf_end tb tn (wlS tb tn) 8 0 = E at hE i2 ⊢
  have hMr : ∀ {post : Int32 → SX → Prop}, (∀ M', frA M M' → M' 0 3 = 0 → (E.2.1 = false → rr_I (wr_V tb tn) 7 (E.1 + 1) M') → post (pf_r E) M') → kX7_readAll M N (0 : Int32) post := by
    intro post h
    refine ⟨9, s_X7_readWill_go hT 8 0 _ rfl (by decide) (tpM_0 t3 (fun j hj => (t4 j hj).2.1)) (fun i hi => absurd hi (by omega)) (fun M' g1 g2 g3 => ?_)⟩
    rw [hEq] at g3 ⊢
    exact h M' (frA_t (frA_0 M) g1) g2 g3
  obtain ⟨m, wr, pl⟩ := E
  dsimp only at hE i2 hMr ⊢
  cases wr with
  | true =>
    have er : pf_r (m, true, pl) = (-20 : Int32) - nI pl := rfl
    have hpl : pl ≤ 100 := by have := hE.1; omega
    have hneg := pf_neg pl hpl
    rw [er] at hMr ⊢
    refine ⟨fun z => absurd z hneg.2.2, fun _ => ?_⟩
    unfold kX7_wills
    refine hMr (fun M' g1 g2 _ => ⟨fun _ => ⟨1, ?_⟩, fun z => absurd hneg.1 z⟩)
    unfold kX7_wills_b26
    refine ⟨fun _ => ⟨rfl, ?_⟩, fun z => absurd hneg.2.1 z⟩
    have key := bw_R_read hm hr fS fS0 g1 g2
    exact ⟨⟨b, key.1⟩, key.2⟩
  | false =>
    have er : pf_r (m, false, pl) = nI (m + 1) := rfl
    have hm8 : m < 8 := hE.2
    rw [er] at hMr ⊢
    have i2 := i2 rfl
    have pos : (0 : Int32) < nI (m + 1) := nI_lt (a := 0) (by omega) (by omega)
    have h8 : xu S2 37 0 0 8 0 = nI (b 0 2) := by rw [fS 8 (by decide) (by decide)]; exact bx_n hX
    have h44 : xu S2 37 0 0 44 0 = nI (m + 1) := by rw [xu_ne (by decide)]; exact i2.1
    refine ⟨fun _ => ?_, fun z => absurd pos z⟩
    rw [h44]
    refine s_X4_room_8 h8 hn (by omega) (bw_br (fun q => ?_) (fun q => ?_))
    · have q := of_decide_eq_false q
      unfold kX7_wills
      refine hMr (fun M' g1 g2 _ => ⟨fun z => absurd z (nI_nle (by omega) (by omega)), fun _ => ?_⟩)
      rw [g1.2 2 (by decide) (by decide) (by decide), bm_n hM, nI_add]
      have key := bw_R_read hm hr fS fS0 g1 g2
      exact pk_le (b 0 2 + (m + 1)) 24 (fun z => by omega) (fun _ => ⟨rfl, ⟨b, key.1⟩, key.2⟩)
    · have q := of_decide_eq_true q
      refine s_X4_addAll q h8 h44 (fun S3 g1 g2 g3 g4 g5 g6 => ?_)
      unfold kX7_wills
      refine hMr (fun M' k1 k2 k3 => ⟨fun z => absurd z (nI_nle (by omega) (by omega)), fun _ => ?_⟩)
      rw [k1.2 2 (by decide) (by decide) (by decide), bm_n hM, nI_add]
      refine pk_le (b 0 2 + (m + 1)) 24 (fun _ => ?_) (fun z => by omega)
      have key := bw_R_read hm hr fS fS0 k1 k2
      have hM' := key.1.2.2.2.2.1
      have hX' := key.1.2.2.1
      refine s_X7_wills_ap (b := b) (n0 := b 0 2) (V := wr_V tb tn) (by omega) q (k3 rfl) (bm_n hM') (fun k j h1 h2 hj => hM'.2 k j (by omega) (by omega) hj) (fun M2 l1 l2 l3 l4 => ⟨rfl, ⟨_, bw_main_wills (n := b 0 2 + (m + 1)) (c := ww_c b (b 0 2) (wr_V tb tn)) key.1 q (ww_le hO (fun i => wlV_le)) (fun k h1 h2 h3 => g1 k h3) g2 (fun k j h1 h2 hj => ?_) (fun k h1 h2 h3 => l1 k (by omega) h3) (fun j hj => l2 j (by omega)) l3 l4⟩, ?_⟩)
      · by_cases c : j < bw_ln (b 0 2) k
        · rw [ww_old h1 h2 c]
          have := hX'.2 k j (by omega) (by omega) c
          rw [bw_cx_w k h2 h1] at this
          rw [← this]
          rcases (show k = 2 ∨ k = 3 ∨ k = 4 ∨ k = 5 by omega) with rfl | rfl | rfl | rfl
          · exact (g3 j c).1
          · exact (g3 j c).2.1
          · exact (g3 j c).2.2
          · exact g5 j c
        · have e48 : ∀ q, xu S2 37 0 0 (q + 38) = S2 (q + 38) := fun q => xu_ne (by omega)
          rcases (show k = 2 ∨ k = 3 ∨ k = 4 ∨ k = 5 by omega) with rfl | rfl | rfl | rfl
          · have c : ¬ j < b 0 2 := c
            have hj : j < b 0 2 + (m + 1) := hj
            obtain ⟨i, rfl⟩ : ∃ i, j = b 0 2 + i := ⟨j - b 0 2, by omega⟩
            rw [ww_2 (by decide)]
            exact (g4 i (by omega)).1.trans (by rw [e48 7]; exact (i2.2 i (by omega)).1)
          · have c : ¬ j < b 0 2 := c
            have hj : j < b 0 2 + (m + 1) := hj
            obtain ⟨i, rfl⟩ : ∃ i, j = b 0 2 + i := ⟨j - b 0 2, by omega⟩
            rw [ww_2 (by decide)]
            exact (g4 i (by omega)).2.1.trans (by rw [e48 8]; exact (i2.2 i (by omega)).2.1)
          · have c : ¬ j < b 0 2 := c
            have hj : j < b 0 2 + (m + 1) := hj
            obtain ⟨i, rfl⟩ : ∃ i, j = b 0 2 + i := ⟨j - b 0 2, by omega⟩
            rw [ww_2 (by decide)]
            exact (g4 i (by omega)).2.2.trans (by rw [e48 9]; exact (i2.2 i (by omega)).2.2.1)
          · have c : ¬ j < 4 * b 0 2 := c
            have hj : j < 4 * (b 0 2 + (m + 1)) := hj
            obtain ⟨i, t, ht, rfl⟩ : ∃ i t, t < 4 ∧ j = 4 * (b 0 2 + i) + t := ⟨(j - 4 * b 0 2) / 4, (j - 4 * b 0 2) % 4, by omega, by omega⟩
            rw [ww_5 ht]
            show S3 12 _ = _
            have k4 := i2.2 i (by omega)
            rw [show 4 * (b 0 2 + i) + t = 4 * b 0 2 + (4 * i + t) by omega, g6 (4 * i + t) (by omega), e48 10]
            rcases (show t = 0 ∨ t = 1 ∨ t = 2 ∨ t = 3 by omega) with rfl | rfl | rfl | rfl
            · exact k4.2.2.2.1
            · exact k4.2.2.2.2.1
            · exact k4.2.2.2.2.2.1
            · exact k4.2.2.2.2.2.2
      · exact bw_rest_keep key.2 (fun q hq => g1 q (by omega)) (by rw [g1 37 (by decide)]) (fun _ _ => rfl) (fun q hq => l1 q (by omega) (by omega)) (l2 3 (by decide)) (l2 6 (by decide)) rfl
end OPS
