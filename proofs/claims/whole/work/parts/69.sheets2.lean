/-! ===== copy, crowds, book ===== -/
section OPS
variable {S M : SX} {L N : LX}
theorem sh_ix2 {k i m : Nat} : (24 : Int32) * nI k + nI i + nI m = nI (24 * k + i + m) := by rw [sh_ix', nI_add]
theorem s_X7_copy_2 {f i t j n : Nat} (ht : t < 4) (hj : j + n ≤ 24) {T : SX} {post : Int32 → SX → Prop} (h : ∀ T' : SX, (∀ q, q ≠ 20 → T' q = T q) → (∀ p, T' 20 p = if 24 * t + j ≤ p ∧ p < 24 * t + j + n then T 21 (p - (24 * t + j)) else T 20 p) → post (nI n) T') : ∃ g, kX7_copy_b138 N (nI f) (nI i) (nI t) (nI j) (nI n) post g (0 : Int32) T := by
  refine pk_loop (fun g m (s : SX) => kX7_copy_b138 N (nI f) (nI i) (nI t) (nI j) (nI n) post g (nI m) s) (fun m s => (∀ q, q ≠ 20 → s q = T q) ∧ (∀ p, s 20 p = if 24 * t + j ≤ p ∧ p < 24 * t + j + m then T 21 (p - (24 * t + j)) else T 20 p)) n 0 T (Nat.zero_le _) ⟨fun _ _ => rfl, fun p => by rw [if_neg (by omega)]⟩ ?_ ?_
  · intro g s hs
    unfold kX7_copy_b138
    exact pk_le n n (fun _ => h s hs.1 hs.2) (fun z => by omega)
  · intro g m s hm hs hc
    unfold kX7_copy_b138
    rw [sh_ix2, nI_clamp (show 24 * t + j + m < 2 ^ 31 by omega), nI_clamp (show m < 2 ^ 31 by omega), nI_1 m, hs.1 21 (by decide)]
    refine pk_le n m (fun z => by omega) (fun _ => ⟨pk_in m 24 (by omega), pk_in (24 * t + j + m) 96 (by omega), hc _ ⟨fun q hq => by rw [xu_ne hq]; exact hs.1 q hq, fun p => ?_⟩⟩)
    rw [xu_ap, if_pos rfl]
    by_cases c : p = 24 * t + j + m
    · rw [if_pos c, if_pos (by omega)]; congr 1; omega
    · rw [if_neg c, hs.2 p]
      by_cases d : 24 * t + j ≤ p ∧ p < 24 * t + j + m
      · rw [if_pos d, if_pos (by omega)]
      · rw [if_neg d, if_neg (by omega)]
theorem s_X7_copy_1 {f i t j n : Nat} (hf : f < 4) (hi : i + n ≤ 24) (ht : t < 4) (hj : j + n ≤ 24) {T : SX} {post : Int32 → SX → Prop} (h : ∀ T' : SX, (∀ q, q ≠ 20 → q ≠ 21 → T' q = T q) → (∀ p, T' 20 p = if 24 * t + j ≤ p ∧ p < 24 * t + j + n then T 20 (24 * f + i + (p - (24 * t + j))) else T 20 p) → post (nI n) T') : ∃ g, kX7_copy_b101 N (nI f) (nI i) (nI t) (nI j) (nI n) post g (0 : Int32) T := by
  refine pk_loop (fun g m (s : SX) => kX7_copy_b101 N (nI f) (nI i) (nI t) (nI j) (nI n) post g (nI m) s) (fun m s => (∀ q, q ≠ 21 → s q = T q) ∧ (∀ p, p < m → s 21 p = T 20 (24 * f + i + p))) n 0 T (Nat.zero_le _) ⟨fun _ _ => rfl, fun p hp => absurd hp (by omega)⟩ ?_ ?_
  · intro g s hs
    unfold kX7_copy_b101
    refine pk_le n n (fun _ => s_X7_copy_2 ht hj (fun T' t1 t2 => h T' (fun q q1 q2 => by rw [t1 q q1, hs.1 q q2]) (fun p => ?_))) (fun z => by omega)
    rw [t2 p]
    by_cases d : 24 * t + j ≤ p ∧ p < 24 * t + j + n
    · rw [if_pos d, if_pos d, hs.2 _ (by omega)]
    · rw [if_neg d, if_neg d, hs.1 20 (by decide)]
  · intro g m s hm hs hc
    unfold kX7_copy_b101
    rw [sh_ix2, nI_clamp (show 24 * f + i + m < 2 ^ 31 by omega), nI_clamp (show m < 2 ^ 31 by omega), nI_1 m, hs.1 20 (by decide)]
    refine pk_le n m (fun z => by omega) (fun _ => ⟨pk_in (24 * f + i + m) 96 (by omega), pk_in m 24 (by omega), hc _ ⟨fun q hq => by rw [xu_ne hq]; exact hs.1 q hq, fun p hp => ?_⟩⟩)
    rw [xu_ap, if_pos rfl]
    by_cases c : p = m
    · rw [if_pos c, c]
    · rw [if_neg c, hs.2 p (by omega)]
theorem s_X7_findsT {k ln z n : Nat} (hk : k < 4) (hr : sh_row S M k ln z) (hn : n < 2 ^ 31) {v : Int32} {post : Int32 → Prop} (h : post (if hi_b v n z then 0 else -13)) : kX7_finds M N (nI k) (nI ln) v (nI n) post := by
  have p4 := pk_in (x := nI k) k 4 hk
  have l2 := hr.1
  unfold kX7_finds
  rw [nI_clamp (by omega), hr.2.2.2.1, hr.2.2.2.2.2]
  refine ⟨p4, fun _ => ⟨p4, fun _ => ⟨fun q => ?_, fun q => ⟨p4, ?_⟩⟩, fun z => absurd rfl z⟩, fun z => absurd (nI_pos' (by omega)) z⟩
  · have d : hi_b v n z = false := by unfold hi_b; rw [decide_eq_true q]; rfl
    rw [d] at h; exact h
  · obtain ⟨i, hi, rfl⟩ := nI_of q
    refine nI_ladd hr.2.1 hn hi (fun d => ?_) (fun d => ?_)
    · rw [hi_of hi d] at h; exact h
    · have e : hi_b (nI i) n z = false := by unfold hi_b; rw [nI_clamp hi, decide_eq_false q, decide_eq_false (by omega)]; rfl
      rw [e] at h; exact h
theorem ok_copy (hR : bw_R S L M N) (a1 a2 a3 a4 a5 : Int32) : kX6_copy S L a1 a2 a3 a4 a5 (fun r S1 => kX7_copy M N a1 a2 a3 a4 a5 (fun r' M1 => r = r' ∧ bw_R S1 L M1 N)) := by
  obtain ⟨⟨b, hm⟩, hr⟩ := id hR
  unfold kX6_copy kX7_copy
  refine s_X6_isSheet (bw_br (fun q => s_X7_isSheet (bq_f q ⟨rfl, hR⟩)) (fun q => s_X6_isSheet (bw_br (fun q2 => s_X7_isSheet (bq_t q (s_X7_isSheet (bq_f q2 ⟨rfl, hR⟩)))) (fun q2 => ?_))))
  obtain ⟨f, hf, rfl⟩ := bw_in_t (n := 3) q
  obtain ⟨t, ht, rfl⟩ := bw_in_t (n := 3) q2
  have pf := pk_in (x := nI f) f 4 (by omega)
  have pt := pk_in (x := nI t) t 4 (by omega)
  have cf := nI_clamp (show f < 2 ^ 31 by omega)
  have ct := nI_clamp (show t < 2 ^ 31 by omega)
  rw [cf, ct]
  have neg1 : ((-1 : Int32) < 0) := by decide
  rcases bw_sh_k hr.2.2 (show f < 4 by omega) with ⟨h1, h2⟩ | ⟨ln, z, w⟩
  · refine s_X2_holdsF (by omega) h1 ⟨fun _ => s_X7_isSheet (bq_t q (s_X7_isSheet (bq_t q2 ?_))), fun z => absurd rfl z⟩
    rw [h2]
    exact ⟨pf, fun _ => ⟨rfl, hR⟩, fun z => absurd neg1 z⟩
  · refine s_X2_holdsT (by omega) w ⟨fun z => absurd z (by decide), fun _ => ?_⟩
    have l2 := w.1
    have z2 := w.2.1
    rcases bw_sh_k hr.2.2 (show t < 4 by omega) with ⟨h1, h2⟩ | ⟨ln', z', w'⟩
    · refine s_X2_holdsF (by omega) h1 ⟨fun _ => s_X7_isSheet (bq_t q (s_X7_isSheet (bq_t q2 ?_))), fun z => absurd rfl z⟩
      rw [h2, w.2.2.2.1]
      exact ⟨pf, fun z => absurd z (nI_pos (by omega)), fun _ => ⟨pt, fun z => absurd z (by decide), fun _ => ⟨rfl, hR⟩⟩⟩
    · refine s_X2_holdsT (by omega) w' ⟨fun z => absurd z (by decide), fun _ => ?_⟩
      have l2' := w'.1
      have z2' := w'.2.1
      rw [w.2.2.1, w'.2.2.1, w.2.2.2.1, w'.2.2.2.1]
      have go : ∀ {A B : Prop}, A → ((0 : Int32) ≤ nI ln' → A) ∧ (¬ (0 : Int32) ≤ nI ln' → B) := fun h => ⟨fun _ => h, fun z => absurd (nI_pos' (by omega)) z⟩
      refine ⟨pf, pt, fun e => ?_, fun e => s_X7_isSheet (bq_t q (s_X7_isSheet (bq_t q2 ⟨pf, fun z => absurd z (nI_pos (by omega)), fun _ => ⟨pt, go ⟨pf, pt, fun z => absurd z e, fun _ => ⟨rfl, hR⟩⟩⟩⟩)))⟩
      by_cases n0 : a5 < 0
      · unfold kX2_hasItems
        refine ⟨fun _ => ⟨fun _ => ?_, fun z => absurd rfl z⟩, fun _ => ⟨fun _ => ⟨fun _ => ?_, fun z => absurd rfl z⟩, fun z => absurd n0 z⟩⟩
        · exact s_X7_isSheet (bq_t q (s_X7_isSheet (bq_t q2 ⟨pf, fun z => absurd z (nI_pos (by omega)), fun _ => ⟨pt, go ⟨pf, pt, fun _ => ⟨fun _ => ⟨rfl, hR⟩, fun z => absurd n0 z⟩, fun z => absurd e z⟩⟩⟩)))
        · exact s_X7_isSheet (bq_t q (s_X7_isSheet (bq_t q2 ⟨pf, fun z => absurd z (nI_pos (by omega)), fun _ => ⟨pt, go ⟨pf, pt, fun _ => ⟨fun _ => ⟨rfl, hR⟩, fun z => absurd n0 z⟩, fun z => absurd e z⟩⟩⟩)))
      · obtain ⟨n, hn, rfl⟩ := nI_of n0
        refine s_X2_hasItems (by omega) w hn (bw_br (fun b1 => ?_) (fun b1 => ?_))
        · refine s_X7_isSheet (bq_t q (s_X7_isSheet (bq_t q2 ⟨pf, fun z => absurd z (nI_pos (by omega)), fun _ => ⟨pt, go ⟨pf, pt, fun _ => ⟨fun z => absurd z n0, fun _ => ⟨pf, s_X7_findsT (by omega) w hn ?_⟩⟩, fun z => absurd e z⟩⟩⟩)))
          rw [b1]
          exact ⟨fun _ => ⟨rfl, hR⟩, fun z => absurd (by decide) z⟩
        · refine s_X2_hasItems (by omega) w' hn (bw_br (fun b2 => ?_) (fun b2 => ?_))
          · refine s_X7_isSheet (bq_t q (s_X7_isSheet (bq_t q2 ⟨pf, fun z => absurd z (nI_pos (by omega)), fun _ => ⟨pt, go ⟨pf, pt, fun _ => ⟨fun z => absurd z n0, fun _ => ⟨pf, s_X7_findsT (by omega) w hn ?_⟩⟩, fun z => absurd e z⟩⟩⟩)))
            rw [b1]
            refine ⟨fun z => absurd z (by decide), fun _ => ⟨pt, s_X7_findsT (by omega) w' hn ?_⟩⟩
            rw [b2]
            exact ⟨fun z => absurd z (by decide), fun _ => ⟨rfl, hR⟩⟩
          · obtain ⟨i, hi, rfl, hiz⟩ := hi_t b1
            obtain ⟨j, hj, rfl, hjz⟩ := hi_t b2
            unfold kX2_move
            rw [sh_ix, sh_ix, nI_clamp (show 24 * f + i < 2 ^ 31 by omega), nI_clamp (show 24 * t + j < 2 ^ 31 by omega), nI_clamp hn]
            refine ⟨⟨nI_pos (by omega), nI_pos (by omega), n0, by omega, by omega⟩, s_X7_isSheet (bq_t q (s_X7_isSheet (bq_t q2 ⟨pf, fun z => absurd z (nI_pos (by omega)), fun _ => ⟨pt, go ⟨pf, pt, fun _ => ⟨fun z => absurd z n0, fun _ => ⟨pf, s_X7_findsT (by omega) w hn ?_⟩⟩, fun z => absurd e z⟩⟩⟩)))⟩
            rw [b1]
            refine ⟨fun z => absurd z (by decide), fun _ => ⟨pt, s_X7_findsT (by omega) w' hn ?_⟩⟩
            rw [b2]
            refine ⟨fun _ => s_X7_copy_1 (by omega) (by omega) (by omega) (by omega) (fun M' t1 t2 => ⟨rfl, ?_⟩), fun z => absurd (by decide) z⟩
            have key := bw_sh_new (S' := xcp S 52 52 (24 * f + i) (24 * t + j) n) (M' := M') hm hr (fun q hq => xcp_ne (by omega)) (fun q hq => t1 q (by omega) (by omega)) (bw_sh_items hr.2.2 (xcp_ne (by decide)) (xcp_ne (by decide)) (t1 18 (by decide) (by decide)) (t1 19 (by decide) (by decide)) (fun p hp => ?_))
            · exact ⟨⟨b, key.1⟩, key.2⟩
            · rw [t2 p, xcp_eq]
              by_cases d : 24 * t + j ≤ p ∧ p < 24 * t + j + n
              · rw [if_pos d, pk_cpy_in d.1 d.2]; exact hr.2.2.2 _ (by omega)
              · rw [if_neg d, pk_cpy_out (by omega)]; exact hr.2.2.2 _ hp
/-! ===== crowds ===== -/
theorem s_X6_crowds_2 {k ln z i : Nat} {a2 : Int32} (hk : k < 4) (hr : sh_row S M k ln z) (hz : i + 8 ≤ z) {post : Int32 → SX → Prop} (h : ∀ S' : SX, (∀ q, q ≠ 13 → S' q = S q) → (∀ j, j < 8 → S' 13 j = S 52 (24 * k + i + j)) → post 8 S') : ∃ g, kX6_crowds_b83 L (nI k) a2 (nI i) post g (0 : Int32) S := by
  have z2 := hr.2.1
  refine pk_loop (fun g m (s : SX) => kX6_crowds_b83 L (nI k) a2 (nI i) post g (nI m) s) (fun m s => (∀ q, q ≠ 13 → s q = S q) ∧ (∀ p, p < m → s 13 p = S 52 (24 * k + i + p))) 8 0 S (by decide) ⟨fun _ _ => rfl, fun p hp => absurd hp (by omega)⟩ ?_ ?_
  · intro g s hs
    unfold kX6_crowds_b83
    exact ⟨fun _ => h s hs.1 hs.2, fun z => absurd (by decide) z⟩
  · intro g m s hm hs hc
    unfold kX6_crowds_b83
    rw [nI_add, nI_clamp (show m < 2 ^ 31 by omega), nI_1 m]
    have hr' : sh_row s M k ln z := by unfold sh_row; rw [hs.1 50 (by decide), hs.1 51 (by decide)]; exact hr
    refine pk_le 8 m (fun z => by omega) (fun _ => s_X2_at hk hr' (by omega) (by omega) ⟨pk_in m 8 hm, hc _ ⟨fun q hq => by rw [xu_ne hq]; exact hs.1 q hq, fun p hp => ?_⟩⟩)
    rw [xu_ap, if_pos rfl, hs.1 52 (by decide)]
    by_cases c : p = m
    · rw [if_pos c, c, Nat.add_assoc]
    · rw [if_neg c, hs.2 p (by omega)]
theorem s_X7_crowds_2 {k i : Nat} {a2 : Int32} (hk : k < 4) (hz : i + 8 ≤ 24) {post : Int32 → SX → Prop} (h : ∀ M' : SX, (∀ q, q ≠ 10 → M' q = M q) → (∀ j, j < 8 → M' 10 j = M 20 (24 * k + i + j)) → post 8 M') : ∃ g, kX7_crowds_b82 N (nI k) a2 (nI i) post g (0 : Int32) M := by
  refine pk_loop (fun g m (s : SX) => kX7_crowds_b82 N (nI k) a2 (nI i) post g (nI m) s) (fun m s => (∀ q, q ≠ 10 → s q = M q) ∧ (∀ p, p < m → s 10 p = M 20 (24 * k + i + p))) 8 0 M (by decide) ⟨fun _ _ => rfl, fun p hp => absurd hp (by omega)⟩ ?_ ?_
  · intro g s hs
    unfold kX7_crowds_b82
    exact ⟨fun _ => h s hs.1 hs.2, fun z => absurd (by decide) z⟩
  · intro g m s hm hs hc
    unfold kX7_crowds_b82
    rw [sh_ix2, nI_clamp (show m < 2 ^ 31 by omega), nI_clamp (show 24 * k + i + m < 2 ^ 31 by omega), nI_1 m, hs.1 20 (by decide)]
    refine pk_le 8 m (fun z => by omega) (fun _ => ⟨pk_in (24 * k + i + m) 96 (by omega), pk_in m 8 hm, hc _ ⟨fun q hq => by rw [xu_ne hq]; exact hs.1 q hq, fun p hp => ?_⟩⟩)
    rw [xu_ap, if_pos rfl]
    by_cases c : p = m
    · rw [if_pos c, c]
    · rw [if_neg c, hs.2 p (by omega)]
theorem ok_crowds (hR : bw_R S L M N) (a1 a2 a3 : Int32) : kX6_crowds S L a1 a2 a3 (fun r S1 => kX7_crowds M N a1 a2 a3 (fun r' M1 => r = r' ∧ bw_R S1 L M1 N)) := by
  obtain ⟨⟨b, hm⟩, hr⟩ := id hR
  unfold kX6_crowds kX7_crowds
  refine s_X6_isSheet (bw_br (fun q => s_X7_isSheet (bq_f q ⟨rfl, hR⟩)) (fun q => s_X6_isLane (bw_br (fun q2 => s_X7_isSheet (bq_t q (s_X7_isLane (bq_f q2 ⟨rfl, hR⟩)))) (fun q2 => ?_))))
  obtain ⟨k, hk, rfl⟩ := bw_in_t (n := 3) q
  obtain ⟨r, r1, r2, r3⟩ := e_finds (L := L) (N := N) (n := 8) hr.2.2 (show k < 4 by omega) (by decide) a2 a3
  refine r1 _ ?_
  rcases r3 with ⟨z1, z2⟩ | ⟨rfl, ln, z, i, w1, rfl, rfl, w2, w3⟩
  · exact ⟨fun z => absurd z z1, fun _ => s_X7_isSheet (bq_t q (s_X7_isLane (bq_t q2 (r2 _ ⟨fun z => absurd z z2, fun _ => ⟨rfl, hR⟩⟩))))⟩
  have hz := w1.2.1
  have hsh := hr.2.2.2
  by_cases hA : ∀ y, y < 8 → bw_in (S 52 (24 * k + i + y)) 1 999999 = true
  · refine ⟨fun _ => ?_, fun z => absurd rfl z⟩
    refine pk_loop (fun g m (s : Unit) => kX6_crowds_b41 L (nI k) (nI ln) (nI i) _ g (nI m) S) (fun _ _ => True) 8 0 () (by decide) trivial ?_ ?_
    · intro g _ _
      unfold kX6_crowds_b41
      refine ⟨fun _ => s_X6_crowds_2 (by omega) w1 w3 (fun S' s1 s2 => s_X7_isSheet (bq_t q (s_X7_isLane (bq_t q2 (r2 _ ⟨fun _ => ?_, fun z => absurd (by decide) z⟩))))), fun z => absurd (by decide) z⟩
      refine pk_loop (fun g m (s : Unit) => kX7_crowds_b38 N (nI k) (nI ln) (nI i) _ g (nI m) M) (fun _ _ => True) 8 0 () (by decide) trivial ?_ ?_
      · intro g _ _
        unfold kX7_crowds_b38
        refine ⟨fun _ => s_X7_crowds_2 (by omega) (by omega) (fun M' t1 t2 => ⟨rfl, ?_⟩), fun z => absurd (by decide) z⟩
        have hv : ∀ y, y < 8 → 1 ≤ (S 52 (24 * k + i + y)).toNatClampNeg ∧ (S 52 (24 * k + i + y)).toNatClampNeg ≤ 999999 ∧ S 52 (24 * k + i + y) = nI (S 52 (24 * k + i + y)).toNatClampNeg := fun y hy => by
          obtain ⟨v, v1, v2, v3⟩ := bw_in_t1 (n := 999999) (hA y hy)
          rw [v3, nI_clamp (by omega)]; exact ⟨v1, v2, rfl⟩
        refine ⟨⟨_, bw_main_rows (K := fun k => decide (k = 10)) (c := fun _ y => (S 52 (24 * k + i + y)).toNatClampNeg) (fun k hk => ?_) hm (fun k' y hk hy => ?_) (fun k' k1 k2 hk => s1 _ ?_) (s1 1 (by decide)) (s1 8 (by decide)) (fun k' y hk hy => ?_) (fun k' k1 k2 hk => t1 _ ?_) (fun j hj => by rw [t1 0 (by decide)]) (fun k' y hk hy => ?_)⟩, ?_⟩
        · have := of_decide_eq_true hk; omega
        · have := of_decide_eq_true hk; subst this; exact ⟨(hv y hy).1, (hv y hy).2.1⟩
        · have hk := of_decide_eq_false hk
          intro e
          exact hk (bw_cx_inj k' k2 10 (by decide) k1 (by decide) (by show bw_cx k' = 12; omega))
        · have := of_decide_eq_true hk; subst this
          show S' 13 y = _
          rw [s2 y hy]; exact (hv y hy).2.2
        · exact of_decide_eq_false hk
        · have := of_decide_eq_true hk; subst this
          rw [t2 y hy, hsh _ (by omega)]; exact (hv y hy).2.2
        · exact bw_rest_keep hr (fun q hq => s1 q (by omega)) (by rw [s1 37 (by decide)]) (fun _ _ => rfl) (fun q hq => t1 q (by omega)) (by rw [t1 0 (by decide)]) (by rw [t1 0 (by decide)]) rfl
      · intro g m _ hm8 _ hc
        unfold kX7_crowds_b38
        rw [sh_ix2, nI_clamp (show 24 * k + i + m < 2 ^ 31 by omega), nI_1 m, hsh _ (by omega)]
        exact pk_le 8 m (fun z => by omega) (fun _ => ⟨pk_in (24 * k + i + m) 96 (by omega), s_X7_wI 1 999999 (bq_t (hA m hm8) (hc () trivial))⟩)
    · intro g m _ hm8 _ hc
      unfold kX6_crowds_b41
      rw [nI_add, nI_1 m]
      refine pk_le 8 m (fun z => by omega) (fun _ => s_X2_at (by omega) w1 (by omega) (by omega) (s_X6_wI 1 999999 (bq_t ?_ (hc () trivial))))
      rw [← Nat.add_assoc]; exact hA m hm8
  · obtain ⟨y0, ⟨y1, y2⟩, y3⟩ := pk_least (fun y => y < 8 ∧ bw_in (S 52 (24 * k + i + y)) 1 999999 = false) (by
      apply Classical.byContradiction
      intro hno
      apply hA
      intro y hy
      apply Classical.byContradiction
      intro hc
      exact hno ⟨y, hy, by simpa using hc⟩)
    have hlt : ∀ y, y < y0 → bw_in (S 52 (24 * k + i + y)) 1 999999 = true := fun y hy => by
      apply Classical.byContradiction
      intro hc
      exact y3 y hy ⟨by omega, by simpa using hc⟩
    refine ⟨fun _ => ?_, fun z => absurd rfl z⟩
    refine pk_loop (fun g m (s : Unit) => kX6_crowds_b41 L (nI k) (nI ln) (nI i) _ g (nI m) S) (fun _ _ => True) y0 0 () (Nat.zero_le _) trivial ?_ ?_
    · intro g _ _
      unfold kX6_crowds_b41
      rw [nI_add]
      refine pk_le 8 y0 (fun z => by omega) (fun _ => s_X2_at (by omega) w1 (by omega) (by omega) (s_X6_wI 1 999999 (bq_f (by rw [← Nat.add_assoc]; exact y2) ?_)))
      refine s_X7_isSheet (bq_t q (s_X7_isLane (bq_t q2 (r2 _ ⟨fun _ => ?_, fun z => absurd (by decide) z⟩))))
      refine pk_loop (fun g m (s : Unit) => kX7_crowds_b38 N (nI k) (nI ln) (nI i) _ g (nI m) M) (fun _ _ => True) y0 0 () (Nat.zero_le _) trivial ?_ ?_
      · intro g _ _
        unfold kX7_crowds_b38
        rw [sh_ix2, nI_clamp (show 24 * k + i + y0 < 2 ^ 31 by omega), hsh _ (by omega)]
        exact pk_le 8 y0 (fun z => by omega) (fun _ => ⟨pk_in (24 * k + i + y0) 96 (by omega), s_X7_wI 1 999999 (bq_f y2 ⟨rfl, hR⟩)⟩)
      · intro g m _ hm8 _ hc
        unfold kX7_crowds_b38
        rw [sh_ix2, nI_clamp (show 24 * k + i + m < 2 ^ 31 by omega), nI_1 m, hsh _ (by omega)]
        exact pk_le 8 m (fun z => by omega) (fun _ => ⟨pk_in (24 * k + i + m) 96 (by omega), s_X7_wI 1 999999 (bq_t (hlt m hm8) (hc () trivial))⟩)
    · intro g m _ hm8 _ hc
      unfold kX6_crowds_b41
      rw [nI_add, nI_1 m]
      refine pk_le 8 m (fun z => by omega) (fun _ => s_X2_at (by omega) w1 (by omega) (by omega) (s_X6_wI 1 999999 (bq_t ?_ (hc () trivial))))
      rw [← Nat.add_assoc]; exact hlt m hm8
/-! ===== book ===== -/
def bk_g (b : SN) (y w : Nat) : Bool := decide (b 2 w = y) && bw_book b w y
theorem s_X5_howManyInBk {b : SN} (hX : bw_X 1 S b) (hO : bw_ok b) {y : Nat} (hy : y < 8) {post : Int32 → Prop} (h : post (nI (fb_ct (bk_g b y) (b 0 2)))) : kX5_howManyInBook S L (nI y) post := by
  have hn := bo_n hO
  unfold kX5_howManyInBook
  refine pk_loop (fun n i (s : Nat) => kX5_howManyInBook_b4 S L (nI y) post n (nI s) (nI i)) (fun i s => s = fb_ct (bk_g b y) i) (b 0 2) 0 0 (Nat.zero_le _) rfl ?_ ?_
  · intro n s hs
    unfold kX5_howManyInBook_b4
    rw [bx_n hX]
    exact pk_le (b 0 2) (b 0 2) (fun _ => by rw [hs]; exact h) (fun z => by omega)
  · intro n i s hi hs hc
    have hyi := bo_year hO hi
    unfold kX5_howManyInBook_b4
    rw [bx_n hX, nI_clamp (show i < 2 ^ 31 by omega), bx_year hX hi, nI_1 i, nI_1 s]
    refine pk_le (b 0 2) i (fun z => by omega) (fun _ => ⟨pk_in i 24 (by omega), pk_eq (b 2 i) y (fun e => s_X5_isInBook hX hO hi hy (bw_br (fun q => hc s ?_) (fun q => hc (s + 1) ?_))) (fun e => hc s ?_)⟩)
    · rw [fb_ct_succ, hs, bk_g, q, Bool.and_false]; rfl
    · rw [fb_ct_succ, hs, bk_g, q, decide_eq_true e]; rfl
    · rw [fb_ct_succ, hs, bk_g, decide_eq_false e]; rfl
/-- both write the same items -/
theorem e_book {b : SN} {y k ln z i : Nat} (hy : y < 8) (hk : k < 4) (hz : i + fb_ct (bk_g b y) (b 0 2) ≤ z) (r : Int32) : ∀ (e w : Nat) (S M : SX), w + e = b 0 2 → bw_main S L M N b → bw_rest S L M N → sh_row S M k ln z → ∃ S' M' : SX, bw_R S' L M' N ∧ (∀ post : Int32 → SX → Prop, post r S' → kX6_book_b63 L (nI y) (nI k) (nI ln) (nI i) r post (e + 1) (nI (i + fb_ct (bk_g b y) w)) (nI w) S) ∧ (∀ post : Int32 → SX → Prop, post r M' → kX7_book_b107 N (nI y) (nI k) (nI ln) (nI i) r post (e + 1) (nI (24 * k + (i + fb_ct (bk_g b y) w))) (nI w) M) := by
  intro e
  induction e with
  | zero =>
    intro w S M hw hm hr h
    have hn := bo_n hm.1
    refine ⟨S, M, ⟨⟨b, hm⟩, hr⟩, fun post h => ?_, fun post h => ?_⟩
    · unfold kX6_book_b63
      rw [bx_n hm.2.2.1]
      exact pk_le (b 0 2) w (fun _ => h) (fun z => by omega)
    · unfold kX7_book_b107
      rw [bm_n hm.2.2.2.2.1]
      exact pk_le (b 0 2) w (fun _ => h) (fun z => by omega)
  | succ e ih =>
    intro w S M hw hm hr h
    have hn := bo_n hm.1
    have hX := hm.2.2.1
    have hM := hm.2.2.2.2.1
    have hO := hm.1
    have hww : w < b 0 2 := by omega
    have hyw := bo_year hO hww
    have z2 := h.2.1
    by_cases g : bk_g b y w = true
    · have hct : fb_ct (bk_g b y) (w + 1) = fb_ct (bk_g b y) w + 1 := by rw [fb_ct_succ, g]; rfl
      have hmo := fb_ct_mono (bk_g b y) (show w + 1 ≤ b 0 2 by omega)
      unfold bk_g at g
      rw [Bool.and_eq_true, decide_eq_true_eq] at g
      have key := bw_R_put hm hr (24 * k + (i + fb_ct (bk_g b y) w)) (sh_cast ln (nI (bw_sworn b w y)))
      obtain ⟨S2, M2, u1, u3, u4⟩ := ih (w + 1) _ _ (by omega) key.1 key.2 (by unfold sh_row; rw [xu_ne (by decide), xu_ne (by decide), xu_ne (by decide), xu_ne (by decide)]; exact h)
      rw [hct] at u3 u4
      refine ⟨S2, M2, u1, fun post hp => ?_, fun post hp => ?_⟩
      · unfold kX6_book_b63
        rw [bx_n hX, nI_clamp (show w < 2 ^ 31 by omega), bx_year hX hww, nI_1 w, nI_1, Nat.add_assoc]
        exact pk_le (b 0 2) w (fun z => by omega) (fun _ => ⟨pk_in w 24 (by omega), pk_eq (b 2 w) y (fun _ => s_X5_isInBook hX hO hww hy (bq_t g.2 (s_X5_sworn hX hO hww hy (s_X2_put hk h (by omega) (by omega) (u3 post hp))))) (fun d => absurd g.1 d)⟩)
      · unfold kX7_book_b107
        rw [bm_n hM, nI_clamp (show w < 2 ^ 31 by omega), bm_year hM hww, nI_1 w, nI_1, nI_clamp (show 24 * k + (i + fb_ct (bk_g b y) w) < 2 ^ 31 by omega)]
        refine pk_le (b 0 2) w (fun z => by omega) (fun _ => ⟨pk_in w 24 (by omega), pk_eq (b 2 w) y (fun _ => s_X7_isBooked hM hO hww hy (bq_t g.2 (s_X7_sworn hM hO hww hy (s_X7_cast h.1 ⟨pk_in (24 * k + (i + fb_ct (bk_g b y) w)) 96 (by omega), ?_⟩)))) (fun d => absurd g.1 d)⟩)
        have := u4 post hp
        rwa [show 24 * k + (i + (fb_ct (bk_g b y) w + 1)) = 24 * k + (i + fb_ct (bk_g b y) w) + 1 by omega] at this
    · have g : bk_g b y w = false := by simpa using g
      have hct : fb_ct (bk_g b y) (w + 1) = fb_ct (bk_g b y) w := by rw [fb_ct_succ, g]; rfl
      obtain ⟨S2, M2, u1, u3, u4⟩ := ih (w + 1) S M (by omega) hm hr h
      rw [hct] at u3 u4
      have g2 : b 2 w = y → bw_book b w y = false := fun d => by unfold bk_g at g; rw [decide_eq_true d] at g; simpa using g
      refine ⟨S2, M2, u1, fun post hp => ?_, fun post hp => ?_⟩
      · unfold kX6_book_b63
        rw [bx_n hX, nI_clamp (show w < 2 ^ 31 by omega), bx_year hX hww, nI_1 w]
        exact pk_le (b 0 2) w (fun z => by omega) (fun _ => ⟨pk_in w 24 (by omega), pk_eq (b 2 w) y (fun d => s_X5_isInBook hX hO hww hy (bq_f (g2 d) (u3 post hp))) (fun d => u3 post hp)⟩)
      · unfold kX7_book_b107
        rw [bm_n hM, nI_clamp (show w < 2 ^ 31 by omega), bm_year hM hww, nI_1 w]
        exact pk_le (b 0 2) w (fun z => by omega) (fun _ => ⟨pk_in w 24 (by omega), pk_eq (b 2 w) y (fun d => s_X7_isBooked hM hO hww hy (bq_f (g2 d) (u4 post hp))) (fun d => u4 post hp)⟩)
theorem s_X7_book_1 {b : SN} (hM : bw_M M b) (hO : bw_ok b) {y : Nat} (hy : y < 8) {a2 a3 a4 : Int32} {post : Int32 → SX → Prop} (h : kX7_finds M N a2 a3 a4 (nI (fb_ct (bk_g b y) (b 0 2))) (fun r82 => ((0 ≤ r82 → ∃ n107 : Nat, kX7_book_b107 N (nI y) a2 a3 a4 (nI (fb_ct (bk_g b y) (b 0 2))) post n107 (((24 : Int32) * a2) + a4) (0 : Int32) M) ∧ (¬ 0 ≤ r82 → post r82 M)))) : ∃ n, kX7_book_b29 N (nI y) a2 a3 a4 post n (0 : Int32) (0 : Int32) M := by
  have hn := bo_n hO
  refine pk_loop (fun n i (s : Nat) => kX7_book_b29 N (nI y) a2 a3 a4 post n (nI s) (nI i) M) (fun i s => s = fb_ct (bk_g b y) i) (b 0 2) 0 0 (Nat.zero_le _) rfl ?_ ?_
  · intro n s hs
    unfold kX7_book_b29
    rw [bm_n hM]
    exact pk_le (b 0 2) (b 0 2) (fun _ => by rw [hs]; exact h) (fun z => by omega)
  · intro n i s hi hs hc
    have hyi := bo_year hO hi
    unfold kX7_book_b29
    have e0 : nI s + (0 : Int32) = nI s := nI_add s 0
    rw [bm_n hM, nI_clamp (show i < 2 ^ 31 by omega), bm_year hM hi, nI_1 i, nI_1 s, e0]
    refine pk_le (b 0 2) i (fun z => by omega) (fun _ => ⟨pk_in i 24 (by omega), pk_eq (b 2 i) y (fun e => s_X7_isBooked hM hO hi hy (bw_br (fun q => hc s ?_) (fun q => hc (s + 1) ?_))) (fun e => hc s ?_)⟩)
    · rw [fb_ct_succ, hs, bk_g, q, Bool.and_false]; rfl
    · rw [fb_ct_succ, hs, bk_g, q, decide_eq_true e]; rfl
    · rw [fb_ct_succ, hs, bk_g, decide_eq_false e]; rfl
theorem ok_book (hR : bw_R S L M N) (a1 a2 a3 a4 : Int32) : kX6_book S L a1 a2 a3 a4 (fun r S1 => kX7_book M N a1 a2 a3 a4 (fun r' M1 => r = r' ∧ bw_R S1 L M1 N)) := by
  obtain ⟨⟨b, hm⟩, hr⟩ := id hR
  have hn := bo_n hm.1
  unfold kX6_book kX7_book
  refine s_X6_isYear (bw_br (fun q0 => s_X7_isYear (bq_f q0 ⟨rfl, hR⟩)) (fun q0 => s_X6_isSheet (bw_br (fun q => s_X7_isYear (bq_t q0 (s_X7_isSheet (bq_f q ⟨rfl, hR⟩)))) (fun q => s_X6_isLane (bw_br (fun q2 => s_X7_isYear (bq_t q0 (s_X7_isSheet (bq_t q (s_X7_isLane (bq_f q2 ⟨rfl, hR⟩)))))) (fun q2 => ?_))))))
  obtain ⟨y, hy, rfl⟩ := bw_in_t (n := 7) q0
  obtain ⟨k, hk, rfl⟩ := bw_in_t (n := 3) q
  have hle := fb_ct_le (bk_g b y) (b 0 2)
  obtain ⟨r, r1, r2, r3⟩ := e_finds (L := L) (N := N) (n := fb_ct (bk_g b y) (b 0 2)) hr.2.2 (show k < 4 by omega) (by omega) a3 a4
  refine s_X5_howManyInBk hm.2.2.1 hm.1 (by omega) (r1 _ ?_)
  rcases r3 with ⟨z1, z2⟩ | ⟨rfl, ln, z, i, w1, rfl, rfl, w2, w3⟩
  · exact ⟨fun z => absurd z z1, fun _ => s_X7_isYear (bq_t q0 (s_X7_isSheet (bq_t q (s_X7_isLane (bq_t q2 (s_X7_book_1 hm.2.2.2.2.1 hm.1 (by omega) (r2 _ ⟨fun z => absurd z z2, fun _ => ⟨rfl, hR⟩⟩)))))))⟩
  · obtain ⟨S2, M2, u1, u3, u4⟩ := e_book (L := L) (N := N) (show y < 8 by omega) (show k < 4 by omega) w3 (nI (fb_ct (bk_g b y) (b 0 2))) (b 0 2) 0 S M (by omega) hm hr w1
    refine ⟨fun _ => ⟨b 0 2 + 1, u3 _ (s_X7_isYear (bq_t q0 (s_X7_isSheet (bq_t q (s_X7_isLane (bq_t q2 (s_X7_book_1 hm.2.2.2.2.1 hm.1 (by omega) (r2 _ ⟨fun _ => ⟨b 0 2 + 1, ?_⟩, fun z => absurd (by decide) z⟩))))))))⟩, fun z => absurd rfl z⟩
    rw [sh_ix']
    exact u4 _ ⟨rfl, u1⟩
end OPS
