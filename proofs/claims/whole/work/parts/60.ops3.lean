/-! ===== smooth, fights, beside ===== -/
def sm_in (a k y : Nat) : Bool := decide (a ≤ y + k) && decide (y ≤ a + k)
def sm_T (b : SN) (a k q y : Nat) : Nat := if sm_in a k y then bw_top b y y q 99 else 0
def sm_U (b : SN) (a k y : Nat) : Nat := if sm_in a k y then bw_tot b y y 99 else 0
theorem sm_zero {f : Nat → Nat} : ∀ {n : Nat}, (∀ j, j < n → f j = 0) → fb_sm f n = 0
  | 0, _ => rfl
  | n + 1, h => by rw [fb_sm_succ, sm_zero (fun j hj => h j (by omega)), h n (by omega)]
theorem sm_tail {f : Nat → Nat} {m n : Nat} (hmn : m ≤ n) (h : ∀ j, m ≤ j → j < n → f j = 0) : fb_sm f n = fb_sm f m := by
  obtain ⟨d, rfl⟩ := Nat.le.dest hmn
  rw [fb_sm_split, sm_zero (fun j hj => h (m + j) (by omega) (by omega))]; rfl
theorem sm_T_le {b : SN} (hO : bw_ok b) (a k q y : Nat) : sm_T b a k q y ≤ 767923200000 := by
  have h1 := bw_top_le b y y q 99
  have h2 := bw_tot_le hO y y 99
  unfold sm_T; split <;> omega
theorem sm_U_le {b : SN} (hO : bw_ok b) (a k y : Nat) : sm_U b a k y ≤ 76792320000 := by
  have h2 := bw_tot_le hO y y 99
  unfold sm_U; split <;> omega
section OPS
variable {S M : SX} {L N : LX}
theorem ok_smooth (hR : bw_R S L M N) (a1 a2 a3 : Int32) : kX6_smooth S L a1 a2 a3 (fun r S1 => kX7_smooth M N a1 a2 a3 (fun r' => r = r' ∧ bw_R S1 L M N)) := by
  obtain ⟨⟨b, hm⟩, hr⟩ := id hR
  have hX := hm.2.2.1
  have hM := hm.2.2.2.2.1
  have hO := hm.1
  unfold kX6_smooth
  refine ck3X 3 (fun c => ?_) (fun c => ?_)
  · unfold kX7_smooth; exact ck3M 3 (fun _ => ⟨rfl, hR⟩) (fun d => cf_t d c)
  obtain ⟨a, q, k, ha, hq1, hq, hk, rfl, rfl, rfl⟩ := bw_c3_t c
  have eT : ∀ n, n ≤ 8 → fb_sm (sm_T b a k q) n ≤ 8 * 767923200000 := fun n hn => Nat.le_trans (fb_sm_bound (fun j _ => sm_T_le hO a k q j)) (Nat.mul_le_mul hn (Nat.le_refl _))
  have eU : ∀ n, n ≤ 8 → fb_sm (sm_U b a k) n ≤ 8 * 76792320000 := fun n hn => Nat.le_trans (fb_sm_bound (fun j _ => sm_U_le hO a k j)) (Nat.mul_le_mul hn (Nat.le_refl _))
  have hT8 := eT 8 (Nat.le_refl _)
  have hU8 := eU 8 (Nat.le_refl _)
  have last : ∀ S1, lg_out S S1 → ∀ r : Int32, r = (if fb_sm (sm_U b a k) 8 = 0 then (-4 : Int32) else nI (fb_sm (sm_T b a k q) 8 * 10000 / fb_sm (sm_U b a k) 8)) → kX7_smooth M N (nI a) (nI q) (nI k) (fun r' => r = r' ∧ bw_R S1 L M N) := by
    intro S1 ho r hr0
    have hR1 := bw_R_out hR ho
    unfold kX7_smooth
    refine ck3M 3 (fun d => cf_t c d) (fun _ => ?_)
    refine pk_loop (σ := Nat × Nat) (fun n i s => kX7_smooth_b37 M N (nI a) (nI q) (nI k) (fun r' => r = r' ∧ bw_R S1 L M N) n (lN s.1) (lN s.2) (nI i)) (fun i s => s.1 = fb_sm (sm_T b a k q) i ∧ s.2 = 10 * fb_sm (sm_U b a k) i) 8 0 (0, 0) (by decide) ⟨rfl, rfl⟩ ?_ ?_
    · rintro n ⟨s1, s2⟩ ⟨e1, e2⟩
      dsimp only at e1 e2 ⊢
      subst e1 e2
      unfold kX7_smooth_b37
      refine ⟨fun _ => ⟨fun z => ?_, fun z => ⟨z, ?_, hR1⟩⟩, fun z => absurd (by decide) z⟩
      · have z1 := (pk_lEQ (b := 0) (by omega) (by decide)).mp z
        rw [if_pos (by omega)] at hr0
        exact ⟨hr0, hR1⟩
      · have z1 : 10 * fb_sm (sm_U b a k) 8 ≠ 0 := fun d => z (by rw [d]; rfl)
        rw [if_neg (by omega)] at hr0
        rw [hr0, show (100000 : Int64) = lN 100000 from rfl, lN_mul, pk_lDiv (by omega) (by omega) (by omega), lN_i, show fb_sm (sm_T b a k q) 8 * 100000 = 10 * (fb_sm (sm_T b a k q) 8 * 10000) by omega, Nat.mul_div_mul_left _ _ (by decide)]
    · rintro n i ⟨s1, s2⟩ hi ⟨e1, e2⟩ hc
      dsimp only at e1 e2 hc ⊢
      unfold kX7_smooth_b37
      refine pk_le 8 i (fun z => by omega) (fun _ => s_X7_in ?_)
      have ein : bw_inL (nI i - nI a).toInt64 (-nI k).toInt64 (nI k).toInt64 = sm_in a k i := by
        rw [bw_inL_w]
        unfold bw_in sm_in
        rw [bw_wide, bw_wide, pk_sub_toInt (by omega) (by omega), sb_negT (by omega), nI_toInt (by omega)]
        congr 1
        · exact decide_eq_decide.mpr (by omega)
        · exact decide_eq_decide.mpr (by omega)
      rw [ein]
      refine bw_br (fun z => ?_) (fun z => s_X7_topOf hM hO hi hi hq bw_none ?_)
      · rw [z]
        unfold kX7_smooth_b81
        rw [bw_lz, bw_lz, nI_1]
        refine ⟨fun _ => hc (s1, s2) ⟨?_, ?_⟩, fun d => absurd rfl d⟩
        · dsimp only; rw [fb_sm_succ, e1]; unfold sm_T; rw [z]; rfl
        · dsimp only; rw [fb_sm_succ, e2]; unfold sm_U; rw [z]; rfl
      · rw [z]
        unfold kX7_smooth_b81
        refine ⟨fun d => absurd d (by decide), fun _ => s_X7_totalOf hM hO hi hi bw_none ?_⟩
        rw [show (10 : Int64) = lN 10 from rfl, lN_mul, lN_add, lN_add, nI_1]
        refine hc (_, _) ⟨?_, ?_⟩
        · dsimp only; rw [fb_sm_succ, e1, sm_T, if_pos z]
        · dsimp only; rw [fb_sm_succ, e2, sm_U, if_pos z]; omega
  have elo : (if nI a - nI k < (0 : Int32) then (0 : Int32) else nI a - nI k) = nI (a - k) := by
    by_cases h : k ≤ a
    · rw [pk_sub h, if_neg (nI_pos (by omega))]
    · rw [if_pos (pk_sneg (by omega) (by omega)), show a - k = 0 by omega]; rfl
  have ehi : (if (7 : Int32) < nI a + nI k then (7 : Int32) else nI a + nI k) = nI (min (a + k) 7) := by
    rw [nI_add, show (7 : Int32) = nI 7 from rfl]
    by_cases h : 7 < a + k
    · rw [if_pos ((nI_ltI (by omega) (by omega)).mpr h), Nat.min_eq_right (by omega)]
    · rw [if_neg (fun z => h ((nI_ltI (by omega) (by omega)).mp z)), Nat.min_eq_left (by omega)]
  rw [elo, ehi]
  refine pk_loop (σ := Nat × Nat × SX) (fun n i s => kX6_smooth_b53 L (nI a) (nI q) (nI k) (nI (min (a + k) 7)) (fun r S1 => kX7_smooth M N (nI a) (nI q) (nI k) (fun r' => r = r' ∧ bw_R S1 L M N)) n (lN s.1) (lN s.2.1) (nI i) s.2.2) (fun i s => s.1 = fb_sm (sm_T b a k q) i ∧ s.2.1 = fb_sm (sm_U b a k) i ∧ lg_out S s.2.2 ∧ a - k ≤ i) (min (a + k) 7 + 1) (a - k) (0, 0, S) (by omega) ⟨(sm_zero (fun j hj => ?_)).symm, (sm_zero (fun j hj => ?_)).symm, lg_out_rf S, Nat.le_refl _⟩ ?_ ?_
  · unfold sm_T sm_in; rw [decide_eq_false (show ¬ a ≤ j + k by omega)]; rfl
  · unfold sm_U sm_in; rw [decide_eq_false (show ¬ a ≤ j + k by omega)]; rfl
  · rintro n ⟨s1, s2, T⟩ ⟨e1, e2, e3, e4⟩
    dsimp only at e1 e2 e3 e4 ⊢
    have f1 : fb_sm (sm_T b a k q) 8 = s1 := by
      rw [e1]; exact sm_tail (by omega) (fun j h1 h2 => by unfold sm_T sm_in; rw [decide_eq_false (show ¬ j ≤ a + k by omega), Bool.and_false]; rfl)
    have f2 : fb_sm (sm_U b a k) 8 = s2 := by
      rw [e2]; exact sm_tail (by omega) (fun j h1 h2 => by unfold sm_U sm_in; rw [decide_eq_false (show ¬ j ≤ a + k by omega), Bool.and_false]; rfl)
    rw [f1] at hT8
    rw [f2] at hU8
    unfold kX6_smooth_b53
    refine pk_lt (min (a + k) 7) (min (a + k) 7 + 1) (fun _ => ⟨fun z => last T e3 _ ?_, fun z => s_X6_parts (by omega) (by omega) (last T e3 _ ?_)⟩) (fun z => by omega)
    · have z1 := (pk_lEQ (b := 0) (by omega) (by decide)).mp z
      rw [f2, if_pos z1]
    · have z1 : s2 ≠ 0 := fun d => z (by rw [d]; rfl)
      rw [f1, f2, if_neg z1]
  · rintro n i ⟨s1, s2, T⟩ hi ⟨e1, e2, e3, e4⟩ hc
    dsimp only at e1 e2 e3 e4 hc ⊢
    have zin : sm_in a k i = true := by unfold sm_in; rw [decide_eq_true (by omega), decide_eq_true (by omega)]; rfl
    have hi8 : i < 8 := by omega
    unfold kX6_smooth_b53
    refine pk_lt (min (a + k) 7) i (fun z => by omega) (fun _ => s_X1_gather (bw_X_out hX e3) hO hi8 hi8 (fun T1 h1 h2 => s_X5_topRoom (bw_X_out (bw_X_out hX e3) h2) hO hi8 hq (s_X1_sumTop hO hi8 h1 hq bw_nobody (s_X1_sumAll hO h1 bw_nobody ?_))))
    rw [lN_add, lN_add, nI_1]
    refine hc (_, _, T1) ⟨?_, ?_, lg_out_tr e3 h2, by omega⟩
    · dsimp only; rw [fb_sm_succ, e1, sm_T, if_pos zin]
    · dsimp only; rw [fb_sm_succ, e2, sm_U, if_pos zin]
def bw_fi (b : SN) (y : Nat) : Bool := decide (b 14 y < bw_tot b y y 99) || decide (bw_tot b y y 99 + bw_un b y < b 13 y)
def bw_fb (b : SN) : Nat → Nat
  | 0 => 0
  | y + 1 => if b 12 y = 1 ∧ bw_fi b y = true then bw_fb b y ||| 2 ^ y else bw_fb b y
theorem s_X5_isFighting {b : SN} (hX : bw_X 1 S b) (hC : bw_CX 1 S L b) (hO : bw_ok b) (hK : bw_cok b) {y : Nat} (hy : y < 8) (h1 : b 12 y = 1) {post : Int32 → Prop} (h : post (bw_i (bw_fi b y))) : kX5_isFighting S L (nI y) post := by
  have t1 := bw_tot_le hO y y 99
  have t2 := bw_un_le hO y
  have hb := (hK y hy).2 h1
  obtain ⟨c1, c2⟩ := hC.2 y hy h1
  have c1 : L 15 y = lN (b 13 y) := c1
  have c2 : L 16 y = lN (b 14 y) := c2
  unfold kX5_isFighting
  rw [nI_clamp (show y < 2 ^ 31 by omega), c1, c2]
  unfold bw_fi at h
  refine s_X5_sumSworn hX hO hy hy ⟨pk_in y 8 hy, fun z => ?_, fun z => ⟨pk_in y 8 hy, s_X5_sumUnseen hX hO hy ?_⟩⟩
  · rw [decide_eq_true ((pk_lLT (by omega) (by omega)).mp z)] at h; exact h
  · have z1 : ¬ b 14 y < bw_tot b y y 99 := fun d => z ((pk_lLT (by omega) (by omega)).mpr d)
    rw [decide_eq_false z1] at h
    rw [lN_add]
    refine ⟨fun z2 => ?_, fun z2 => ?_⟩
    · have := (pk_lLE (by omega) (by omega)).mp z2
      rw [decide_eq_false (by omega)] at h; exact h
    · have : ¬ b 13 y ≤ bw_tot b y y 99 + bw_un b y := fun d => z2 ((pk_lLE (by omega) (by omega)).mpr d)
      rw [decide_eq_true (by omega)] at h; exact h
theorem ok_fights (hR : bw_R S L M N) : kX6_fights S L (fun r => kX7_fights M N (fun r' => r = r')) := by
  obtain ⟨⟨b, hO, hK, hX, hC, hM, hD⟩, hr⟩ := id hR
  obtain ⟨t, ht1, ht2, ht3⟩ := hC.1
  have key : kX7_fights M N (fun r' => nI (bw_fb b 8) = r') := by
    unfold kX7_fights
    refine pk_loop (fun n i (s : Nat) => kX7_fights_b4 M N (fun r' => nI (bw_fb b 8) = r') n (nI s) (nI i)) (fun i s => s = bw_fb b i) 8 0 0 (by decide) rfl ?_ ?_
    · intro n s hs
      unfold kX7_fights_b4
      exact ⟨fun _ => by rw [hs], fun z => absurd (by decide) z⟩
    · intro n i s hi hs hc
      have t1 := bw_tot_le hO i i 99
      have t2 := bw_un_le hO i
      have hb := hK i hi
      have h0 : nI s ||| (0 : Int32) = nI s := by rw [show (0 : Int32) = nI 0 from rfl, fa_or, Nat.or_zero]
      unfold kX7_fights_b4
      rw [nI_clamp (show i < 2 ^ 31 by omega), nI_1, h0, bt_set s i (by omega)]
      refine pk_le 8 i (fun z => by omega) (fun _ => s_X7_totalOf hM hO hi hi bw_none (s_X7_unseen hM hO hi ⟨pk_in i 8 hi, ?_⟩))
      by_cases e1 : b 12 i = 1
      · obtain ⟨d1, d2⟩ := (hD i hi).1 e1
        rw [Nat.zero_add] at d1 d2
        have hb2 := hb.2 e1
        rw [d1, d2, lN_add]
        refine ⟨fun z => absurd ((pk_lLT (b := 0) (by omega) (by decide)).mp z) (Nat.not_lt_zero _), fun _ => ⟨pk_in i 8 hi, fun z => hc _ ?_, fun z => ⟨pk_in i 8 hi, fun z2 => hc _ ?_, fun z2 => hc _ ?_⟩⟩⟩
        · have z1 := (pk_lLT (by omega) (by omega)).mp z
          rw [hs, bw_fb, if_pos ⟨e1, by simp [bw_fi, z1]⟩]
        · have z1 : ¬ b 14 i < bw_tot b i i 99 := fun d => z ((pk_lLT (by omega) (by omega)).mpr d)
          have z3 := (pk_lLE (by omega) (by omega)).mp z2
          rw [hs, bw_fb, if_neg]
          rintro ⟨-, w⟩
          unfold bw_fi at w
          rw [decide_eq_false z1, decide_eq_false (by omega)] at w
          cases w
        · have z3 : ¬ b 13 i ≤ bw_tot b i i 99 + bw_un b i := fun d => z2 ((pk_lLE (by omega) (by omega)).mpr d)
          rw [hs, bw_fb, if_pos ⟨e1, by unfold bw_fi; rw [decide_eq_true (show bw_tot b i i 99 + bw_un b i < b 13 i by omega), Bool.or_true]⟩]
      · have d2 := (hD i hi).2 (by omega)
        rw [Nat.zero_add] at d2
        rw [d2]
        refine ⟨fun _ => hc _ ?_, fun z => absurd (by decide) z⟩
        rw [hs, bw_fb, if_neg (fun w => e1 w.1)]
  unfold kX6_fights
  refine pk_loop (fun n i (s : Nat) => kX6_fights_b4 S L (fun r => kX7_fights M N (fun r' => r = r')) n (nI s) (nI i)) (fun i s => s = bw_fb b i) 8 0 0 (by decide) rfl ?_ ?_
  · intro n s hs
    unfold kX6_fights_b4
    exact ⟨fun _ => by rw [hs]; exact key, fun z => absurd (by decide) z⟩
  · intro n i s hi hs hc
    unfold kX6_fights_b4
    rw [nI_1, bt_set s i (by omega), ht2]
    refine pk_le 8 i (fun z => by omega) (fun _ => ⟨fun z => ?_, fun z => hc _ ?_⟩)
    · have z1 := (bt_1 (by omega) (by omega)).mp z
      rw [ht3 i hi, decide_eq_true_eq] at z1
      refine s_X5_isFighting hX hC hO hK hi z1 (bw_br (fun w => hc _ ?_) (fun w => hc _ ?_))
      · rw [hs, bw_fb, if_neg (fun d => by rw [w] at d; exact absurd d.2 (by decide))]
      · rw [hs, bw_fb, if_pos ⟨z1, w⟩]
    · have z1 : ¬ b 12 i = 1 := by
        intro d
        apply z
        rw [bt_1 (by omega) (by omega), ht3 i hi, d]; rfl
      rw [hs, bw_fb, if_neg (fun d => z1 d.1)]
theorem ok_beside (hR : bw_R S L M N) (a1 : Int32) (a2 a3 : Int64) : kX6_beside S L a1 a2 a3 (fun r S1 L1 => kX7_beside M N a1 a2 a3 (fun r' M1 N1 => r = r' ∧ bw_R S1 L1 M1 N1)) := by
  obtain ⟨⟨b, hO, hK, hX, hC, hM, hD⟩, hr⟩ := id hR
  have e0 : (0 : Int64).toInt = 0 := rfl
  have eB : (1000000000000000 : Int64).toInt = 1000000000000000 := rfl
  unfold kX6_beside
  refine s_X6_isYear (bw_br (fun q => ?_) (fun q => ?_))
  · unfold kX7_beside; exact s_X7_isYear (bq_f q ⟨rfl, hR⟩)
  obtain ⟨y, hy, rfl⟩ := bw_in_t (n := 7) q
  have no : (bw_inL a2 0 1000000000000000 = false ∨ bw_inL a3 a2 1000000000000000 = false) → kX7_beside M N (nI y) a2 a3 (fun r' M1 N1 => (-1 : Int32) = r' ∧ bw_R S L M1 N1) := by
    intro hno
    unfold kX7_beside
    refine s_X7_isYear (bq_t q (s_X7_in (bw_br (fun _ => ⟨rfl, hR⟩) (fun z1 => s_X7_in (bw_br (fun _ => ⟨rfl, hR⟩) (fun z2 => ?_))))))
    exfalso
    simp only [bw_inL, Bool.and_eq_true, Bool.and_eq_false_iff, decide_eq_true_eq, decide_eq_false_iff_not, Int64.le_iff_toInt_le, e0, eB] at hno z1 z2
    omega
  refine s_X6_isWithin (bw_br (fun q2 => no (Or.inl q2)) (fun q2 => s_X6_isWithin (bw_br (fun q3 => no (Or.inr q3)) (fun q3 => ?_))))
  have q2' := q2
  have q3' := q3
  simp only [bw_inL, Bool.and_eq_true, decide_eq_true_eq, Int64.le_iff_toInt_le, e0, eB] at q2' q3'
  obtain ⟨lo, hlo, rfl⟩ : ∃ k : Nat, k < 2 ^ 63 ∧ a2 = lN k := pk_lOf (by rw [Int64.lt_iff_toInt_lt, e0]; omega)
  obtain ⟨hi, hhi, rfl⟩ : ∃ k : Nat, k < 2 ^ 63 ∧ a3 = lN k := pk_lOf (by rw [Int64.lt_iff_toInt_lt, e0]; omega)
  rw [pk_lT hlo] at q2' q3'
  rw [pk_lT hhi] at q3'
  obtain ⟨t, ht1, ht2, ht3⟩ := hC.1
  have w1 : bw_inL (lN hi) 0 1000000000000000 = true := by simp only [bw_inL, Bool.and_eq_true, decide_eq_true_eq, Int64.le_iff_toInt_le, e0, eB, pk_lT hhi]; omega
  have w2 : bw_inL (lN lo) 0 (lN hi) = true := by simp only [bw_inL, Bool.and_eq_true, decide_eq_true_eq, Int64.le_iff_toInt_le, e0, pk_lT hhi, pk_lT hlo]; omega
  have hi8 := pk_in (x := nI y) y 8 (by omega)
  refine ⟨hi8, hi8, ?_⟩
  unfold kX7_beside
  refine s_X7_isYear (bq_t q (s_X7_in (bq_t w1 (s_X7_in (bq_t w2 ⟨hi8, hi8, rfl, ?_⟩)))))
  rw [nI_clamp (show y < 2 ^ 31 by omega), ht2, bt_set t y (by omega)]
  let b' : SN := fun k j => if j = y then (if k = 12 then 1 else if k = 13 then lo else if k = 14 then hi else b k j) else b k j
  have hk : ∀ k, k ≤ 11 → b' k = b k := by
    intro k hk
    funext j
    show (if j = y then (if k = 12 then 1 else if k = 13 then lo else if k = 14 then hi else b k j) else b k j) = b k j
    rw [if_neg (show k ≠ 12 by omega), if_neg (show k ≠ 13 by omega), if_neg (show k ≠ 14 by omega)]
    split <;> rfl
  have hne : ∀ k j, j ≠ y → b' k j = b k j := fun k j h => if_neg h
  have h12 : b' 12 y = 1 := by show (if y = y then _ else _) = _; rw [if_pos rfl]; rfl
  have h13 : b' 13 y = lo := by show (if y = y then _ else _) = _; rw [if_pos rfl]; rfl
  have h14 : b' 14 y = hi := by show (if y = y then _ else _) = _; rw [if_pos rfl]; rfl
  refine ⟨⟨b', ⟨?_, fun k j k1 k2 hj => ?_⟩, fun j hj => ?_, ⟨?_, fun k j k1 k2 hj => ?_⟩, ⟨⟨t ||| 2 ^ y, bt_setlt (N := 8) ht1 (by omega), by simp [xu_ap], fun j hj => ?_⟩, fun j hj hb => ?_⟩, ⟨?_, fun k j k1 k2 hj => ?_⟩, fun j hj => ?_⟩, bw_rest_keep hr (fun k hk => xu_ne (by omega)) (by rw [xu_ne (by omega)]) (fun k hk => by rw [xuL_ne (by omega), xuL_ne (by omega)]) (fun _ _ => rfl) rfl rfl (by rw [xuL_ne (by omega), xuL_ne (by omega)])⟩
  · rw [hk 0 (by omega)]; exact hO.1
  · rw [hk 0 (by omega)] at hj; rw [hk k k2]; exact hO.2 k j k1 k2 hj
  · by_cases e : j = y
    · subst e; rw [h12, h13, h14]; exact ⟨Nat.le_refl _, fun _ => by omega⟩
    · rw [hne _ _ e, hne _ _ e, hne _ _ e]; exact hK j hj
  · rw [hk 0 (by omega)]
    simp only [xu_ap]
    exact hX.1
  · have := bw_cx_ne k k2 k1
    rw [hk 0 (by omega)] at hj; rw [hk k k2, xu_ne (by omega)]; exact hX.2 k j k1 k2 hj
  · rw [bt_setb, ht3 j hj]
    by_cases e : j = y
    · subst e; rw [h12]; simp
    · rw [hne _ _ e, decide_eq_false (show ¬ y = j from fun d => e d.symm), Bool.or_false]
  · by_cases e : j = y
    · subst e; rw [h13, h14]; simp [xuL_ap]
    · rw [hne _ _ e] at hb
      rw [hne _ _ e, hne _ _ e]
      have := hC.2 j hj hb
      simpa [xuL_ap, e] using this
  · rw [hk 0 (by omega)]; exact hM.1
  · rw [hk 0 (by omega)] at hj; rw [hk k k2]; exact hM.2 k j k1 k2 hj
  · by_cases e : j = y
    · subst e; rw [h12, h13, h14]; simp [xuL_ap]
    · rw [hne _ _ e, hne _ _ e, hne _ _ e]
      have := hD j hj
      simpa [xuL_ap, e] using this
end OPS
