/-! ===== a will is burnt ===== -/
def bn_c (b : SN) (w : Nat) : SN := fun k j => if k = 5 then (if j < 4 * w then b 5 j else b 5 (j + 4)) else (if j < w then b k j else b k (j + 1))
def bn_I (M : SX) (n w k : Nat) (T : SX) : Prop := (∀ q, q ≠ 0 → ¬ (2 ≤ q ∧ q ≤ 5) → T q = M q) ∧ T 0 2 = nI n ∧ (∀ j, j ≠ 2 → T 0 j = M 0 j) ∧ (∀ j, T 2 j = if w ≤ j ∧ j < k then M 2 (j + 1) else M 2 j) ∧ (∀ j, T 3 j = if w ≤ j ∧ j < k then M 3 (j + 1) else M 3 j) ∧ (∀ j, T 4 j = if w ≤ j ∧ j < k then M 4 (j + 1) else M 4 j) ∧ (∀ j, T 5 j = if 4 * w ≤ j ∧ j < 4 * k then M 5 (j + 4) else M 5 j)
section OPS
variable {S M : SX} {L N : LX}
theorem s_X7_burn_in {a1 : Int32} {post : Int32 → SX → Prop} {K : Int32 → SX → Prop} {k : Nat} (hk : k < 23) {T : SX} (h : ∀ T' : SX, (∀ q, q ≠ 5 → T' q = T q) → (∀ j, T' 5 j = if 4 * k ≤ j ∧ j < 4 * k + 4 then T 5 (j + 4) else T 5 j) → K (nI (k + 1)) T') : ∃ n, kX7_burn_b74 L a1 post K n (nI k) (0 : Int32) T := by
  refine pk_loop (fun n i (s : SX) => kX7_burn_b74 L a1 post K n (nI k) (nI i) s) (fun i s => (∀ q, q ≠ 5 → s q = T q) ∧ (∀ j, s 5 j = if 4 * k ≤ j ∧ j < 4 * k + i then T 5 (j + 4) else T 5 j)) 4 0 T (by decide) ⟨fun _ _ => rfl, fun j => by rw [if_neg (by omega)]⟩ ?_ ?_
  · intro n s hs
    unfold kX7_burn_b74
    rw [nI_1]
    exact ⟨fun _ => h s hs.1 hs.2, fun z => absurd (by decide) z⟩
  · intro n i s hi hs hc
    have e1 : (4 : Int32) * nI k + (4 : Int32) + nI i = nI (4 * k + i + 4) := by
      rw [show (4 : Int32) = nI 4 from rfl, pk_mul, nI_add, nI_add]; congr 1; omega
    have e2 : (4 : Int32) * nI k + nI i = nI (4 * k + i) := by
      rw [show (4 : Int32) = nI 4 from rfl, pk_mul, nI_add]
    unfold kX7_burn_b74
    rw [e1, e2, nI_clamp (show 4 * k + i < 2 ^ 31 by omega), nI_clamp (show 4 * k + i + 4 < 2 ^ 31 by omega), nI_1 i]
    refine pk_le 4 i (fun z => by omega) (fun _ => ⟨pk_in (4 * k + i + 4) 96 (by omega), pk_in (4 * k + i) 96 (by omega), hc _ ⟨fun q hq => by rw [xu_ne hq]; exact hs.1 q hq, fun j => ?_⟩⟩)
    rw [xu_ap, if_pos rfl, hs.2 (4 * k + i + 4), if_neg (show ¬ (4 * k ≤ 4 * k + i + 4 ∧ 4 * k + i + 4 < 4 * k + i) by omega)]
    by_cases c : j = 4 * k + i
    · rw [if_pos c, if_pos (by omega), c]
    · rw [if_neg c, hs.2 j]
      by_cases d : 4 * k ≤ j ∧ j < 4 * k + i
      · rw [if_pos d, if_pos (by omega)]
      · rw [if_neg d, if_neg (by omega)]
theorem s_X7_burn_loop {a1 : Int32} {n w : Nat} (hn : n < 24) (hw : w ≤ n) {T0 : SX} (h0 : bn_I M n w w T0) {post : Int32 → SX → Prop} (h : ∀ T, bn_I M n w n T → post (nI n) T) : ∃ f, kX7_burn_b22 N a1 post f (nI w) T0 := by
  refine pk_loop (fun f i (s : SX) => kX7_burn_b22 N a1 post f (nI i) s) (fun i s => bn_I M n w i s ∧ w ≤ i) n w T0 hw ⟨h0, Nat.le_refl _⟩ ?_ ?_
  · intro f s hs
    unfold kX7_burn_b22
    rw [hs.1.2.1]
    exact pk_le n n (fun _ => h s hs.1) (fun z => by omega)
  · intro f i s hi hs hc
    obtain ⟨⟨i1, i2, i3, i4, i5, i6, i7⟩, hwi⟩ := hs
    have e1 : nI i + (1 : Int32) = nI (i + 1) := nI_add _ 1
    unfold kX7_burn_b22
    rw [i2, e1, nI_clamp (show i < 2 ^ 31 by omega), nI_clamp (show i + 1 < 2 ^ 31 by omega)]
    have p1 : vp_in (nI (i + 1)) 24 := pk_in (i + 1) 24 (by omega)
    have p2 : vp_in (nI i) 24 := pk_in i 24 (by omega)
    refine pk_le n i (fun z => by omega) (fun _ => ⟨p1, p2, p1, p2, p1, p2, s_X7_burn_in (by omega) (fun T' g1 g2 => hc T' ⟨⟨?_, ?_, ?_, ?_, ?_, ?_, ?_⟩, by omega⟩)⟩)
    · intro q q1 q2
      rw [g1 q (by omega), xu_ne (by omega), xu_ne (by omega), xu_ne (by omega)]; exact i1 q q1 q2
    · rw [g1 0 (by omega), xu_ne (by omega), xu_ne (by omega), xu_ne (by omega)]; exact i2
    · intro j hj
      rw [g1 0 (by omega), xu_ne (by omega), xu_ne (by omega), xu_ne (by omega)]; exact i3 j hj
    · intro j
      rw [g1 2 (by omega), xu_ne (by omega), xu_ne (by omega), xu_ap, if_pos rfl]
      by_cases c : j = i
      · rw [if_pos c, i4, if_neg (by omega), if_pos (by omega), c]
      · rw [if_neg c, i4]
        by_cases d : w ≤ j ∧ j < i
        · rw [if_pos d, if_pos (by omega)]
        · rw [if_neg d, if_neg (by omega)]
    · intro j
      rw [g1 3 (by omega), xu_ne (by omega), xu_ap, if_pos rfl, xu_ne (by omega)]
      by_cases c : j = i
      · rw [if_pos c, i5, if_neg (by omega), if_pos (by omega), c]
      · rw [if_neg c, i5]
        by_cases d : w ≤ j ∧ j < i
        · rw [if_pos d, if_pos (by omega)]
        · rw [if_neg d, if_neg (by omega)]
    · intro j
      rw [g1 4 (by omega), xu_ap, if_pos rfl, xu_ne (by omega), xu_ne (by omega)]
      by_cases c : j = i
      · rw [if_pos c, i6, if_neg (by omega), if_pos (by omega), c]
      · rw [if_neg c, i6]
        by_cases d : w ≤ j ∧ j < i
        · rw [if_pos d, if_pos (by omega)]
        · rw [if_neg d, if_neg (by omega)]
    · intro j
      have e5 : ∀ q, (xu (xu (xu s 2 i (s 2 (i + 1))) 3 i ((xu s 2 i (s 2 (i + 1))) 3 (i + 1))) 4 i ((xu (xu s 2 i (s 2 (i + 1))) 3 i ((xu s 2 i (s 2 (i + 1))) 3 (i + 1))) 4 (i + 1))) 5 q = s 5 q := fun q => by rw [xu_ne (by omega), xu_ne (by omega), xu_ne (by omega)]
      rw [g2 j, e5, e5]
      by_cases c : 4 * i ≤ j ∧ j < 4 * i + 4
      · rw [if_pos c, i7, if_neg (by omega), if_pos (by omega)]
      · rw [if_neg c, i7]
        by_cases d : 4 * w ≤ j ∧ j < 4 * i
        · rw [if_pos d, if_pos (by omega)]
        · rw [if_neg d, if_neg (by omega)]
theorem ok_burn (hR : bw_R S L M N) (a1 : Int32) : kX6_burn S L a1 (fun r S1 => kX7_burn M N a1 (fun r' M1 => r = r' ∧ bw_R S1 L M1 N)) := by
  obtain ⟨⟨b, hm⟩, hr⟩ := id hR
  have hX := hm.2.2.1
  have hM := hm.2.2.2.2.1
  have hO := hm.1
  have hn := bo_n hO
  unfold kX6_burn kX7_burn
  refine s_X4_has hX hO (bw_br (fun q => s_X7_isWill hM hO (bq_f q ⟨rfl, hR⟩)) (fun q => ?_))
  obtain ⟨w, hw, rfl⟩ := bw_in_w q
  have s1 : (1 : Int32) = nI 1 := rfl
  have s4 : (4 : Int32) = nI 4 := rfl
  unfold kX4_removeOne
  refine s_X4_has hX hO (bq_t q ?_)
  unfold kX4_move_8_8
  have e1 : nI (b 0 2) - nI w - (1 : Int32) = nI (b 0 2 - w - 1) := by rw [s1, pk_sub (by omega), pk_sub (by omega)]
  have e2 : nI w + (1 : Int32) = nI (w + 1) := nI_add _ 1
  rw [bx_n hX, e1, e2, s4, pk_mul, pk_mul, pk_mul, nI_clamp (show w + 1 < 2 ^ 31 by omega), nI_clamp (show w < 2 ^ 31 by omega), nI_clamp (show b 0 2 - w - 1 < 2 ^ 31 by omega), nI_clamp (show (w + 1) * 4 < 2 ^ 31 by omega), nI_clamp (show w * 4 < 2 ^ 31 by omega), nI_clamp (show (b 0 2 - w - 1) * 4 < 2 ^ 31 by omega)]
  have p1 : ¬ nI (w + 1) < 0 ∧ ¬ nI w < 0 ∧ ¬ nI (b 0 2 - w - 1) < 0 ∧ w + 1 + (b 0 2 - w - 1) ≤ 24 ∧ w + (b 0 2 - w - 1) ≤ 24 := ⟨nI_pos (by omega), nI_pos (by omega), nI_pos (by omega), by omega, by omega⟩
  refine ⟨p1, p1, p1, ⟨nI_pos (by omega), nI_pos (by omega), nI_pos (by omega), by omega, by omega⟩, s_X7_isWill hM hO (bq_t q ?_)⟩
  have e3 : M 0 2 - (1 : Int32) = nI (b 0 2 - 1) := by rw [bm_n hM, s1, pk_sub (by omega)]
  have e4 : S 8 0 - (1 : Int32) = nI (b 0 2 - 1) := by rw [bx_n hX, s1, pk_sub (by omega)]
  rw [e3]
  generalize hT : xcp (xcp (xcp (xcp S 9 9 (w + 1) w (b 0 2 - w - 1)) 10 10 (w + 1) w (b 0 2 - w - 1)) 11 11 (w + 1) w (b 0 2 - w - 1)) 12 12 ((w + 1) * 4) (w * 4) ((b 0 2 - w - 1) * 4) = T
  have k8 : T 8 = S 8 := by rw [← hT, xcp_ne (by decide), xcp_ne (by decide), xcp_ne (by decide), xcp_ne (by decide)]
  have ko : ∀ k, ¬ (9 ≤ k ∧ k ≤ 12) → T k = S k := fun k hk => by rw [← hT, xcp_ne (by omega), xcp_ne (by omega), xcp_ne (by omega), xcp_ne (by omega)]
  rw [k8, e4]
  refine s_X7_burn_loop (M := M) (n := b 0 2 - 1) (w := w) (by omega) (by omega) ⟨fun q q1 q2 => xu_ne q1, by rw [xu_ap, if_pos rfl, if_pos rfl], fun j hj => by rw [xu_ap, if_pos rfl, if_neg hj], fun j => by rw [xu_ne (by decide), if_neg (by omega)], fun j => by rw [xu_ne (by decide), if_neg (by omega)], fun j => by rw [xu_ne (by decide), if_neg (by omega)], fun j => by rw [xu_ne (by decide), if_neg (by omega)]⟩ (fun M' hI => ⟨by rw [xu_ap, if_pos rfl, if_pos rfl], ?_⟩)
  obtain ⟨i1, i2, i3, i4, i5, i6, i7⟩ := hI
  have x9 : T 9 = va_cpy (S 9) (S 9) (w + 1) w (b 0 2 - w - 1) := by rw [← hT, xcp_ne (by decide), xcp_ne (by decide), xcp_ne (by decide), xcp_eq]
  have x10 : T 10 = va_cpy (S 10) (S 10) (w + 1) w (b 0 2 - w - 1) := by rw [← hT, xcp_ne (by decide), xcp_ne (by decide), xcp_eq, xcp_ne (by decide)]
  have x11 : T 11 = va_cpy (S 11) (S 11) (w + 1) w (b 0 2 - w - 1) := by rw [← hT, xcp_ne (by decide), xcp_eq, xcp_ne (by decide), xcp_ne (by decide)]
  have x12 : T 12 = va_cpy (S 12) (S 12) ((w + 1) * 4) (w * 4) ((b 0 2 - w - 1) * 4) := by rw [← hT, xcp_eq, xcp_ne (by decide), xcp_ne (by decide), xcp_ne (by decide)]
  refine ⟨⟨_, bw_main_wills (n := b 0 2 - 1) (c := bn_c b w) hm (by omega) ?_ ?_ ?_ ?_ ?_ ?_ i2 ?_⟩, bw_rest_keep hr (fun k hk => by rw [xu_ne (by omega), ko k (by omega)]) (by rw [xu_ne (by omega), ko 37 (by omega)]) (fun _ _ => rfl) (fun k hk => i1 k (by omega) (by omega)) (i3 3 (by omega)) (i3 6 (by omega)) rfl⟩
  · intro k j k1 k2 hj
    rcases (show k = 2 ∨ k = 3 ∨ k = 4 ∨ k = 5 by omega) with rfl | rfl | rfl | rfl
    · simp only [bw_ln] at hj
      simp only [bn_c, show ¬ (2 = 5) by decide, if_false]
      split
      · exact bo_year hO (by omega)
      · exact bo_year hO (by omega)
    · simp only [bw_ln] at hj
      simp only [bn_c, show ¬ (3 = 5) by decide, if_false]
      split
      · exact bo_age hO (by omega)
      · exact bo_age hO (by omega)
    · simp only [bw_ln] at hj
      simp only [bn_c, show ¬ (4 = 5) by decide, if_false]
      split
      · exact bo_sex hO (by omega)
      · exact bo_sex hO (by omega)
    · simp only [bw_ln] at hj
      simp only [bn_c, if_true]
      split
      · exact bo_had hO (by omega)
      · exact bo_had hO (by omega)
  · intro k k1 k2 k3
    rw [xu_ne (by omega), ko k (by omega)]
  · rw [xu_ap, if_pos rfl, if_pos rfl]
  · intro k j k1 k2 hj
    rw [xu_ne (by omega)]
    rcases (show k = 2 ∨ k = 3 ∨ k = 4 ∨ k = 5 by omega) with rfl | rfl | rfl | rfl
    · simp only [bw_ln] at hj
      simp only [bn_c, show ¬ (2 = 5) by decide, if_false]
      show T 9 j = _
      rw [x9]
      split
      · rw [pk_cpy_out (by omega)]; exact bx_year hX (by omega)
      · rw [pk_cpy_in (by omega) (by omega), bx_year hX (by omega)]; congr 2; omega
    · simp only [bw_ln] at hj
      simp only [bn_c, show ¬ (3 = 5) by decide, if_false]
      show T 10 j = _
      rw [x10]
      split
      · rw [pk_cpy_out (by omega)]; exact bx_age hX (by omega)
      · rw [pk_cpy_in (by omega) (by omega), bx_age hX (by omega)]; congr 2; omega
    · simp only [bw_ln] at hj
      simp only [bn_c, show ¬ (4 = 5) by decide, if_false]
      show T 11 j = _
      rw [x11]
      split
      · rw [pk_cpy_out (by omega)]; exact bx_sex hX (by omega)
      · rw [pk_cpy_in (by omega) (by omega), bx_sex hX (by omega)]; congr 2; omega
    · simp only [bw_ln] at hj
      simp only [bn_c, if_true]
      show T 12 j = _
      rw [x12]
      split
      · rw [pk_cpy_out (by omega)]; exact bx_had hX (by omega)
      · rw [pk_cpy_in (by omega) (by omega), bx_had hX (by omega)]; congr 2; omega
  · intro k k1 k2 k3
    exact i1 k (by omega) k3
  · intro j hj
    exact i3 j (by omega)
  · intro k j k1 k2 hj
    rcases (show k = 2 ∨ k = 3 ∨ k = 4 ∨ k = 5 by omega) with rfl | rfl | rfl | rfl
    · simp only [bw_ln] at hj
      simp only [bn_c, show ¬ (2 = 5) by decide, if_false]
      rw [i4]
      split
      · rw [if_neg (by omega)]; exact bm_year hM (by omega)
      · rw [if_pos (by omega)]; exact bm_year hM (by omega)
    · simp only [bw_ln] at hj
      simp only [bn_c, show ¬ (3 = 5) by decide, if_false]
      rw [i5]
      split
      · rw [if_neg (by omega)]; exact bm_age hM (by omega)
      · rw [if_pos (by omega)]; exact bm_age hM (by omega)
    · simp only [bw_ln] at hj
      simp only [bn_c, show ¬ (4 = 5) by decide, if_false]
      rw [i6]
      split
      · rw [if_neg (by omega)]; exact bm_sex hM (by omega)
      · rw [if_pos (by omega)]; exact bm_sex hM (by omega)
    · simp only [bw_ln] at hj
      simp only [bn_c, if_true]
      rw [i7]
      split
      · rw [if_neg (by omega)]; exact bm_had hM (by omega)
      · rw [if_pos (by omega)]; exact bm_had hM (by omega)
end OPS
