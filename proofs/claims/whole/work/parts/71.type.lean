/-! ===== the tape is typed ===== -/
def ty_b (w : Int64) (k : Nat) : Nat := w.toBitVec.toNat / 2 ^ (8 * k) % 256
theorem ty_n (w : Int64) : w = lN w.toBitVec.toNat := wb_inj (by rw [wb_tb]; simp)
theorem ty_8 {k : Nat} : (8 : Int32) * nI k = nI (8 * k) := by rw [show (8 : Int32) = nI 8 from rfl, pk_mul]
theorem ty_lt (w : Int64) (k : Nat) : ty_b w k < 256 := Nat.mod_lt _ (by decide)
theorem ty_c (w : Int64) {k : Nat} (hk : k < 8) : (((w.toUInt64 >>> (((8 : Int32) * nI k).toInt64.toUInt64 &&& Int64.toUInt64 63)).toInt64) &&& (255 : Int64)).toInt32 = nI (ty_b w k) := by
  have hw := w.toBitVec.isLt
  have e := wb_shr (n := w.toBitVec.toNat) (k := 8 * k) hw (by omega)
  rw [← ty_n w] at e
  rw [ty_8, e, show (255 : Int64) = lN (2 ^ 8 - 1) from rfl, wb_mask (Nat.lt_of_le_of_lt (Nat.div_le_self _ _) hw) (by decide), lN_i]
  rfl
theorem ty_r (w : Int64) {k : Nat} (hk : k < 8) : (w >>> (((8 : Int32) * nI k).toInt64 &&& 63)) &&& (255 : Int64) = lN (ty_b w k) := by
  rw [ty_8, wb_c (8 * k) (by omega)]
  apply wb_inj
  rw [Int64.toBitVec_and, Int64.toBitVec_shiftRight, wb_tb, wb_sm (8 * k) (by omega), wb_tb]
  apply BitVec.eq_of_getLsbD_eq
  intro i hi
  have e255 : ((255 : Int64).toBitVec).getLsbD i = decide (i < 8) := by
    show (BitVec.ofNat 64 (2 ^ 8 - 1)).getLsbD i = _
    rw [BitVec.getLsbD_ofNat, Nat.testBit_two_pow_sub_one, decide_eq_true hi, Bool.true_and]
  have es : (BitVec.ofNat 64 (8 * k)).toNat = 8 * k := by rw [BitVec.toNat_ofNat, Nat.mod_eq_of_lt (by omega)]
  rw [BitVec.getLsbD_and, e255, BitVec.sshiftRight_eq', es, BitVec.getLsbD_sshiftRight, BitVec.getLsbD_ofNat, ty_b, show 256 = 2 ^ 8 from rfl, Nat.testBit_mod_two_pow, Nat.testBit_div_two_pow, decide_eq_true hi, Bool.true_and, decide_eq_false (show ¬ 64 ≤ i by omega)]
  by_cases c : i < 8
  · rw [if_pos (by omega), decide_eq_true c]
    simp [BitVec.getLsbD, Nat.add_comm]
  · rw [decide_eq_false c]; simp
def ty_ok (w : Int64) (k : Nat) : Bool := decide (32 ≤ ty_b w k) && decide (ty_b w k ≤ 126)
theorem ty_in (w : Int64) (k : Nat) : bw_in (nI (ty_b w k)) 32 126 = ty_ok w k := bw_in_nI (by have := ty_lt w k; omega) 32 126
section OPS
variable {S M : SX} {L N : LX}
theorem s_ty_c {w : Int64} {k : Nat} (hk : k < 8) {post : Int32 → Prop} (h : post (bw_i (ty_ok w k))) : kX6_byteOf S L w (nI k) (fun r26 => kX6_isWithin S L r26.toInt64 (32 : Int64) (126 : Int64) post) := by
  unfold kX6_byteOf
  rw [ty_c w hk]
  exact s_X6_wI 32 126 (by rw [ty_in]; exact h)
theorem s_ty_r {w : Int64} {k : Nat} (hk : k < 8) {post : Int32 → Prop} (h : post (bw_i (ty_ok w k))) : kX7_in M N ((w >>> (((8 : Int32) * nI k).toInt64 &&& 63)) &&& (255 : Int64)) (32 : Int64) (126 : Int64) post := by
  have := ty_lt w k
  rw [ty_r w hk, ← nI_l (by omega)]
  exact s_X7_wI 32 126 (by rw [ty_in]; exact h)
theorem s_X3_room {n t : Nat} (ht : t ≤ 100) (h37 : S 37 0 = nI t) (hn : n < 2 ^ 30) {post : Int32 → Prop} (h : post (bw_i (decide (t + n ≤ 100)))) : kX3_hasRoomFor S L (nI n) post := by
  unfold kX3_hasRoomFor
  rw [h37, show (100 : Int32) = nI 100 from rfl, pk_sub ht]
  refine pk_lt (100 - t) n (fun q => ?_) (fun q => ?_)
  · rw [decide_eq_false (by omega)] at h; exact h
  · rw [decide_eq_true (by omega)] at h; exact h
theorem s_X6_type_2 {a1 : Int64} {n tn : Nat} (hn : n ≤ 8) (ht : tn + n ≤ 100) (h37 : S 37 0 = nI tn) {post : Int32 → SX → Prop} (h : ∀ S' : SX, (∀ q, q ≠ 37 → q ≠ 38 → S' q = S q) → S' 37 0 = nI (tn + n) → (∀ j, j < tn → S' 38 j = S 38 j) → (∀ m, m < n → S' 38 (tn + m) = nI (ty_b a1 (n - 1 - m))) → post (nI (tn + n)) S') : ∃ f, kX6_type_b69 L a1 (nI n) post f (nI n - (1 : Int32)) S := by
  refine ⟨n + 1, ?_⟩
  have e1 : nI n - (1 : Int32) = nI n + (-1) := by rw [Int32.sub_eq_add_neg]
  rw [e1]
  refine pk_loopD (fun f i (s : SX) => kX6_type_b69 L a1 (nI n) post f (nI i + (-1)) s) (fun i s => i ≤ n ∧ (∀ q, q ≠ 37 → q ≠ 38 → s q = S q) ∧ s 37 0 = nI (tn + (n - i)) ∧ (∀ j, j < tn → s 38 j = S 38 j) ∧ (∀ m, m < n - i → s 38 (tn + m) = nI (ty_b a1 (n - 1 - m)))) ?_ ?_ n S ⟨Nat.le_refl _, fun _ _ _ => rfl, by rw [Nat.sub_self]; exact h37, fun _ _ => rfl, fun m hm => absurd hm (by omega)⟩
  · intro f s hs
    unfold kX6_type_b69
    exact ⟨fun _ => by rw [hs.2.2.1]; exact h s hs.2.1 hs.2.2.1 hs.2.2.2.1 hs.2.2.2.2, fun z => absurd (by decide) z⟩
  · intro f i s hs hc
    obtain ⟨i0, i1, i2, i3, i4⟩ := hs
    have t8 := ty_lt a1 i
    unfold kX6_type_b69 kX6_byteOf kX3_add
    rw [pk_m1, ty_c a1 (by omega)]
    refine ⟨fun z => absurd z (nI_pos (by omega)), fun _ => s_X3_room (n := 1) (t := tn + (n - (i + 1))) (by omega) i2 (by decide) ?_⟩
    rw [decide_eq_true (by omega)]
    refine bf_t ?_
    rw [xu_ne (show (37 : Nat) ≠ 38 by decide), i2, nI_clamp (by omega), nI_1]
    refine ⟨pk_in (tn + (n - (i + 1))) 100 (by omega), hc _ ⟨by omega, fun q q1 q2 => by rw [xu_ne q1, xu_ne q2]; exact i1 q q1 q2, ?_, fun j hj => ?_, fun m hm => ?_⟩⟩
    · rw [xu_ap, if_pos rfl, if_pos rfl]; congr 1; omega
    · rw [xu_ne (by decide), xu_ap, if_pos rfl, if_neg (by omega)]; exact i3 j hj
    · rw [xu_ne (by decide), xu_ap, if_pos rfl]
      by_cases c : m = n - (i + 1)
      · rw [if_pos (by omega), show n - 1 - m = i by omega]
      · rw [if_neg (by omega)]; exact i4 m (by omega)
theorem s_X7_type_2 {a1 : Int64} {n tn : Nat} (hn : n ≤ 8) (ht : tn + n ≤ 100) (h37 : M 0 3 = nI tn) {post : Int32 → SX → Prop} (h : ∀ M' : SX, (∀ q, q ≠ 0 → q ≠ 14 → M' q = M q) → (∀ j, j ≠ 3 → M' 0 j = M 0 j) → M' 0 3 = nI (tn + n) → (∀ j, j < tn → M' 14 j = M 14 j) → (∀ m, m < n → M' 14 (tn + m) = nI (ty_b a1 (n - 1 - m))) → post (nI (tn + n)) M') : ∃ f, kX7_type_b73 N a1 (nI n) post f (nI n - (1 : Int32)) M := by
  refine ⟨n + 1, ?_⟩
  have e1 : nI n - (1 : Int32) = nI n + (-1) := by rw [Int32.sub_eq_add_neg]
  rw [e1]
  refine pk_loopD (fun f i (s : SX) => kX7_type_b73 N a1 (nI n) post f (nI i + (-1)) s) (fun i s => i ≤ n ∧ (∀ q, q ≠ 0 → q ≠ 14 → s q = M q) ∧ (∀ j, j ≠ 3 → s 0 j = M 0 j) ∧ s 0 3 = nI (tn + (n - i)) ∧ (∀ j, j < tn → s 14 j = M 14 j) ∧ (∀ m, m < n - i → s 14 (tn + m) = nI (ty_b a1 (n - 1 - m)))) ?_ ?_ n M ⟨Nat.le_refl _, fun _ _ _ => rfl, fun _ _ => rfl, by rw [Nat.sub_self]; exact h37, fun _ _ => rfl, fun m hm => absurd hm (by omega)⟩
  · intro f s hs
    unfold kX7_type_b73
    exact ⟨fun _ => by rw [hs.2.2.2.1]; exact h s hs.2.1 hs.2.2.1 hs.2.2.2.1 hs.2.2.2.2.1 hs.2.2.2.2.2, fun z => absurd (by decide) z⟩
  · intro f i s hs hc
    obtain ⟨i0, i1, i5, i2, i3, i4⟩ := hs
    have t8 := ty_lt a1 i
    unfold kX7_type_b73
    rw [pk_m1, ty_r a1 (by omega), lN_i]
    refine ⟨fun z => absurd z (nI_pos (by omega)), fun _ => ?_⟩
    rw [xu_ne (show (0 : Nat) ≠ 14 by decide), i2, nI_clamp (by omega), nI_1]
    refine ⟨pk_in (tn + (n - (i + 1))) 100 (by omega), hc _ ⟨by omega, fun q q1 q2 => by rw [xu_ne q1, xu_ne q2]; exact i1 q q1 q2, fun j hj => ?_, ?_, fun j hj => ?_, fun m hm => ?_⟩⟩
    · rw [xu_ap, if_pos rfl, if_neg hj, xu_ne (by decide)]; exact i5 j hj
    · rw [xu_ap, if_pos rfl, if_pos rfl]; congr 1; omega
    · rw [xu_ne (by decide), xu_ap, if_pos rfl, if_neg (by omega)]; exact i3 j hj
    · rw [xu_ne (by decide), xu_ap, if_pos rfl]
      by_cases c : m = n - (i + 1)
      · rw [if_pos (by omega), show n - 1 - m = i by omega]
      · rw [if_neg (by omega)]; exact i4 m (by omega)
theorem ok_type (hR : bw_R S L M N) (a1 : Int64) (a2 : Int32) : kX6_type S L a1 a2 (fun r S1 => kX7_type M N a1 a2 (fun r' M1 => r = r' ∧ bw_R S1 L M1 N)) := by
  obtain ⟨⟨b, hm⟩, hr⟩ := id hR
  obtain ⟨tn, tb, t1, t2, t3, t4⟩ := id hr.2.1
  unfold kX6_type kX7_type
  refine s_X6_wI 1 8 (bw_br (fun q => s_X7_wI 1 8 (bq_f q ⟨rfl, hR⟩)) (fun q => ?_))
  obtain ⟨n, n1, n2, rfl⟩ := bw_in_t1 (n := 8) q
  by_cases hA : ∀ k, k < n → ty_ok a1 k = true
  · refine pk_loop (fun g m (s : Unit) => kX6_type_b17 L a1 (nI n) _ g (nI m) S) (fun _ _ => True) n 0 () (Nat.zero_le _) trivial ?_ ?_
    · intro g _ _
      unfold kX6_type_b17
      refine pk_le n n (fun _ => s_X3_room t1 t2 (by omega) (bw_br (fun q5 => s_X7_wI 1 8 (bq_t q ?_)) (fun q5 => ?_))) (fun z => by omega)
      · have q5 := of_decide_eq_false q5
        refine pk_loop (fun g m (s : Unit) => kX7_type_b17 N a1 (nI n) _ g (nI m) M) (fun _ _ => True) n 0 () (Nat.zero_le _) trivial ?_ ?_
        · intro g _ _
          unfold kX7_type_b17
          rw [t3, nI_add]
          exact pk_le n n (fun _ => pk_le (tn + n) 100 (fun z => by omega) (fun _ => ⟨rfl, hR⟩)) (fun z => by omega)
        · intro g m _ hm8 _ hc
          unfold kX7_type_b17
          rw [nI_1 m]
          exact pk_le n m (fun z => by omega) (fun _ => s_ty_r (by omega) (bq_t (hA m hm8) (hc () trivial)))
      · have q5 := of_decide_eq_true q5
        refine s_X6_type_2 n2 q5 t2 (fun S' s1 s2 s3 s4 => s_X7_wI 1 8 (bq_t q ?_))
        refine pk_loop (fun g m (s : Unit) => kX7_type_b17 N a1 (nI n) _ g (nI m) M) (fun _ _ => True) n 0 () (Nat.zero_le _) trivial ?_ ?_
        · intro g _ _
          unfold kX7_type_b17
          rw [t3, nI_add]
          refine pk_le n n (fun _ => pk_le (tn + n) 100 (fun _ => s_X7_type_2 n2 q5 t3 (fun M' m1 m2 m3 m4 m5 => ⟨rfl, ⟨⟨b, ?_⟩, ?_, ⟨tn + n, fun j => if j < tn then tb j else ty_b a1 (n - 1 - (j - tn)), q5, s2, m3, fun j hj => ?_⟩, ?_⟩⟩)) (fun z => by omega)) (fun z => by omega)
          · exact bw_main_keep hm (fun k k1 k2 => s1 k (by omega) (by omega)) (fun _ _ _ => rfl) (fun k k1 k2 => m1 k (by omega) (by omega)) (fun j hj => m2 j (by omega)) rfl rfl
          · exact bw_img_keep hr.1 (s1 0 (by decide) (by decide)) (fun k k1 k2 => s1 k (by omega) (by omega)) (fun _ _ => rfl) (m1 16 (by decide) (by decide)) (m2 6 (by decide)) rfl
          · show S' 38 j = nI (if j < tn then tb j else ty_b a1 (n - 1 - (j - tn))) ∧ M' 14 j = nI (if j < tn then tb j else ty_b a1 (n - 1 - (j - tn))) ∧ 32 ≤ (if j < tn then tb j else ty_b a1 (n - 1 - (j - tn))) ∧ (if j < tn then tb j else ty_b a1 (n - 1 - (j - tn))) ≤ 126
            by_cases c : j < tn
            · rw [if_pos c, s3 j c, m4 j c]; exact t4 j c
            · rw [if_neg c]
              obtain ⟨m, rfl⟩ : ∃ m, j = tn + m := ⟨j - tn, by omega⟩
              have := hA (n - 1 - m) (by omega)
              unfold ty_ok at this
              rw [Bool.and_eq_true, decide_eq_true_eq, decide_eq_true_eq] at this
              rw [s4 m (by omega), m5 m (by omega), Nat.add_sub_cancel_left]
              exact ⟨rfl, rfl, this⟩
          · exact bw_sh_keep hr.2.2 (s1 50 (by decide) (by decide)) (s1 51 (by decide) (by decide)) (s1 52 (by decide) (by decide)) (m1 18 (by decide) (by decide)) (m1 19 (by decide) (by decide)) (m1 20 (by decide) (by decide))
        · intro g m _ hm8 _ hc
          unfold kX7_type_b17
          rw [nI_1 m]
          exact pk_le n m (fun z => by omega) (fun _ => s_ty_r (by omega) (bq_t (hA m hm8) (hc () trivial)))
    · intro g m _ hm8 _ hc
      unfold kX6_type_b17
      rw [nI_1 m]
      exact pk_le n m (fun z => by omega) (fun _ => s_ty_c (by omega) (bq_t (hA m hm8) (hc () trivial)))
  · obtain ⟨y0, ⟨y1, y2⟩, y3⟩ := pk_least (fun y => y < n ∧ ty_ok a1 y = false) (by
      apply Classical.byContradiction
      intro hno
      apply hA
      intro y hy
      apply Classical.byContradiction
      intro hc
      exact hno ⟨y, hy, by simpa using hc⟩)
    have hlt : ∀ y, y < y0 → ty_ok a1 y = true := fun y hy => by
      apply Classical.byContradiction
      intro hc
      exact y3 y hy ⟨by omega, by simpa using hc⟩
    refine pk_loop (fun g m (s : Unit) => kX6_type_b17 L a1 (nI n) _ g (nI m) S) (fun _ _ => True) y0 0 () (Nat.zero_le _) trivial ?_ ?_
    · intro g _ _
      unfold kX6_type_b17
      refine pk_le n y0 (fun z => by omega) (fun _ => s_ty_c (by omega) (bq_f y2 (s_X7_wI 1 8 (bq_t q ?_))))
      refine pk_loop (fun g m (s : Unit) => kX7_type_b17 N a1 (nI n) _ g (nI m) M) (fun _ _ => True) y0 0 () (Nat.zero_le _) trivial ?_ ?_
      · intro g _ _
        unfold kX7_type_b17
        exact pk_le n y0 (fun z => by omega) (fun _ => s_ty_r (by omega) (bq_f y2 ⟨rfl, hR⟩))
      · intro g m _ hm8 _ hc
        unfold kX7_type_b17
        rw [nI_1 m]
        exact pk_le n m (fun z => by omega) (fun _ => s_ty_r (by omega) (bq_t (hlt m hm8) (hc () trivial)))
    · intro g m _ hm8 _ hc
      unfold kX6_type_b17
      rw [nI_1 m]
      exact pk_le n m (fun z => by omega) (fun _ => s_ty_c (by omega) (bq_t (hlt m hm8) (hc () trivial)))
end OPS
