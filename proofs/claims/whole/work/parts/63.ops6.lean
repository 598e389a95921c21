/-! ===== heap ===== -/
def hp_is (b : SN) (ys y : Nat) : Bool := ys.testBit y && decide (0 < b 7 y)
def hp_lo (b : SN) (ys w k : Nat) : Bool := hp_is b ys (b 2 k) && (decide (b 7 (b 2 k) ≤ bw_sworn b k (b 2 k) + w) && decide (bw_sworn b k (b 2 k) ≤ b 7 (b 2 k)))
def hp_hi (b : SN) (ys w k : Nat) : Bool := hp_is b ys (b 2 k) && (decide (b 7 (b 2 k) + 1 ≤ bw_sworn b k (b 2 k)) && decide (bw_sworn b k (b 2 k) ≤ b 7 (b 2 k) + w))
def hp_k (b : SN) (ys : Nat) : Nat → Nat
  | 0 => 0
  | y + 1 => if hp_is b ys y then max (hp_k b ys y) (b 8 y) else hp_k b ys y
theorem hp_k_le {b : SN} (hO : bw_ok b) (ys : Nat) : ∀ y, y ≤ 8 → hp_k b ys y ≤ 999
  | 0, _ => Nat.zero_le _
  | y + 1, h => by
    have ih := hp_k_le hO ys y (by omega)
    have h2 := bo_keen hO (j := y) (by omega)
    rw [hp_k]
    split <;> omega
/-- a count by years -/
theorem hp_years (yr : Nat → Nat) (p : Nat → Bool) (n m : Nat) : fb_ct (fun k => decide (yr k < m + 1) && p k) n = fb_ct (fun k => decide (yr k < m) && p k) n + fb_ct (fun k => decide (yr k = m) && p k) n := by
  rw [← fb_ct_or]
  · refine fb_ct_cong (fun k _ => ?_)
    cases p k
    · simp
    · simp only [Bool.and_true]
      rw [← Bool.decide_or]
      exact decide_eq_decide.mpr (by omega)
  · rintro k - ⟨h1, h2⟩
    simp only [Bool.and_eq_true, decide_eq_true_eq] at h1 h2
    omega
section OPS
variable {S M : SX} {L N : LX}
theorem s_X5_howManyNearLine {b : SN} (hX : bw_X 1 S b) (hO : bw_ok b) {ys : Nat} (hys : ys < 256) {fr to : Int32} {g : Nat → Bool} (hg : ∀ k, k < b 0 2 → g k = (hp_is b ys (b 2 k) && bw_in (nI (bw_sworn b k (b 2 k)) - nI (b 7 (b 2 k))) fr.toInt to.toInt)) {post : Int32 → Prop} (h : post (nI (fb_ct g (b 0 2)))) : kX5_howManyNearLine S L (nI ys) fr to post := by
  have hn := bo_n hO
  unfold kX5_howManyNearLine
  refine pk_loop (fun n i (s : Nat) => kX5_howManyNearLine_b6 S L (nI ys) fr to post n (nI s) (nI i)) (fun i s => s = fb_ct g i) (b 0 2) 0 0 (Nat.zero_le _) rfl ?_ ?_
  · intro n s hs
    unfold kX5_howManyNearLine_b6
    rw [bx_n hX]
    exact pk_le (b 0 2) (b 0 2) (fun _ => by rw [hs]; exact h) (fun z => by omega)
  · intro n i s hi hs hc
    have hyi := bo_year hO hi
    have hl := bo_line hO (j := b 2 i) (by omega)
    have e := hg i hi
    unfold kX5_howManyNearLine_b6
    rw [bx_n hX, nI_clamp (show i < 2 ^ 31 by omega), bx_year hX hi, nI_clamp (show b 2 i < 2 ^ 31 by omega), bx_line hX (by omega), nI_1, nI_1]
    refine pk_le (b 0 2) i (fun z => by omega) (fun _ => ⟨pk_in i 24 (by omega), pk_in (b 2 i) 8 (by omega), fun z => pk_le (b 7 (b 2 i)) 0 (fun z2 => hc s ?_) (fun z2 => s_X5_sworn hX hO hi (by omega) (s_X6_isWithinI ?_)), fun z => hc s ?_⟩)
    · rw [fb_ct_succ, hs, e]; unfold hp_is; rw [decide_eq_false (by omega)]; simp
    · rw [bw_wide, bw_wide]
      have z1 : hp_is b ys (b 2 i) = true := by unfold hp_is; rw [(bt_1 (by omega) (by omega)).mp z, decide_eq_true (by omega)]; rfl
      refine bw_br (fun z3 => hc s ?_) (fun z3 => hc (s + 1) ?_)
      · rw [fb_ct_succ, hs, e, z1, z3]; rfl
      · rw [fb_ct_succ, hs, e, z1, z3]; rfl
    · have z1 : hp_is b ys (b 2 i) = false := by
        unfold hp_is
        cases w : ys.testBit (b 2 i) with
        | false => rfl
        | true => exact absurd ((bt_1 (by omega) (by omega)).mpr w) z
      rw [fb_ct_succ, hs, e, z1]; rfl
theorem s_X0_greatestKeen {b : SN} (hX : bw_X 1 S b) (hO : bw_ok b) {ys : Nat} (hys : ys < 256) {post : Int32 → Prop} (h : post (nI (hp_k b ys 8))) : kX0_greatestKeen S L (nI ys) post := by
  unfold kX0_greatestKeen
  refine pk_loop (fun n i (s : Nat) => kX0_greatestKeen_b4 S L (nI ys) post n (nI s) (nI i)) (fun i s => s = hp_k b ys i) 8 0 0 (by decide) rfl ?_ ?_
  · intro n s hs
    unfold kX0_greatestKeen_b4
    exact ⟨fun _ => by rw [hs]; exact h, fun z => absurd (by decide) z⟩
  · intro n i s hi hs hc
    have hl := bo_line hO hi
    have hk := bo_keen hO hi
    have hkp := hp_k_le hO ys i (by omega)
    have em : (if nI s < nI (b 8 i) then nI (b 8 i) else nI s) = nI (max s (b 8 i)) := by
      by_cases w : s < b 8 i
      · rw [if_pos ((nI_ltI (by omega) (by omega)).mpr w), Nat.max_eq_right (by omega)]
      · rw [if_neg (fun d => w ((nI_ltI (by omega) (by omega)).mp d)), Nat.max_eq_left (by omega)]
    unfold kX0_greatestKeen_b4
    rw [nI_clamp (show i < 2 ^ 31 by omega), bx_line hX hi, bx_keen hX hi, nI_1, em]
    refine pk_le 8 i (fun z => by omega) (fun _ => ⟨fun z => ⟨pk_in i 8 hi, pk_le (b 7 i) 0 (fun z2 => hc s ?_) (fun z2 => ⟨pk_in i 8 hi, hc _ ?_⟩)⟩, fun z => hc s ?_⟩)
    · rw [hp_k, hp_is, decide_eq_false (by omega), hs]; simp
    · rw [hp_k, hp_is, (bt_1 (by omega) (by omega)).mp z, decide_eq_true (by omega), hs]; rfl
    · have z1 : ys.testBit i = false := by
        cases w : ys.testBit i with
        | false => rfl
        | true => exact absurd ((bt_1 (by omega) (by omega)).mpr w) z
      rw [hp_k, hp_is, z1, hs]; rfl
theorem hp_subI {a c : Nat} (ha : a < 2 ^ 30) (hc : c < 2 ^ 30) : (nI a - nI c).toInt = (a : Int) - c := pk_sub_toInt ha hc
theorem hp_in_lo {b : SN} (hO : bw_ok b) {w k y : Nat} (hw : w ≤ 999) (hk : k < b 0 2) (hy : y < 8) : bw_in (nI (bw_sworn b k y) - nI (b 7 y)) (-nI w).toInt 0 = (decide (b 7 y ≤ bw_sworn b k y + w) && decide (bw_sworn b k y ≤ b 7 y)) := by
  have h1 := bw_sworn_le hO (y := y) hk
  have h2 := bo_line hO hy
  unfold bw_in
  rw [hp_subI (by omega) (by omega), sb_negT (by omega)]
  congr 1 <;> exact decide_eq_decide.mpr (by omega)
theorem hp_in_hi {b : SN} (hO : bw_ok b) {w k y : Nat} (hw : w ≤ 999) (hk : k < b 0 2) (hy : y < 8) : bw_in (nI (bw_sworn b k y) - nI (b 7 y)) 1 (nI w).toInt = (decide (b 7 y + 1 ≤ bw_sworn b k y) && decide (bw_sworn b k y ≤ b 7 y + w)) := by
  have h1 := bw_sworn_le hO (y := y) hk
  have h2 := bo_line hO hy
  unfold bw_in
  rw [hp_subI (by omega) (by omega), nI_toInt (by omega)]
  congr 1 <;> exact decide_eq_decide.mpr (by omega)
def hp_U (b : SN) (ys w y : Nat) : Nat := fb_ct (fun k => decide (b 2 k < y) && hp_lo b ys w k) (b 0 2)
def hp_O (b : SN) (ys w y : Nat) : Nat := fb_ct (fun k => decide (b 2 k < y) && hp_hi b ys w k) (b 0 2)
theorem s_X7_heap_loop {b : SN} (hM : bw_M M b) (hO : bw_ok b) {ys w : Nat} (hys : ys < 256) (hw : w ≤ 999) {v3 : Int32} {post : Int32 → Prop} (fin : kX7_heap_b247 M N (nI ys) (nI w) v3 post (nI (fb_ct (hp_lo b ys w) (b 0 2))) (nI (fb_ct (hp_hi b ys w) (b 0 2))) (nI (hp_k b ys 8)) (nI (fb_ct (hp_lo b ys w) (b 0 2) - fb_ct (hp_hi b ys w) (b 0 2)))) : ∃ n50 : Nat, kX7_heap_b50 M N (nI ys) (nI w) v3 post n50 (0 : Int32) (0 : Int32) (0 : Int32) (0 : Int32) := by
  have hn := bo_n hO
  have eU : hp_U b ys w 8 = fb_ct (hp_lo b ys w) (b 0 2) := fb_ct_cong (fun k hk => by have := bo_year hO hk; rw [decide_eq_true (by omega)]; rfl)
  have eO : hp_O b ys w 8 = fb_ct (hp_hi b ys w) (b 0 2) := fb_ct_cong (fun k hk => by have := bo_year hO hk; rw [decide_eq_true (by omega)]; rfl)
  have lU := fb_ct_le (hp_lo b ys w) (b 0 2)
  have lO := fb_ct_le (hp_hi b ys w) (b 0 2)
  rw [← eU, ← eO] at fin
  rw [← eU] at lU
  rw [← eO] at lO
  refine pk_loop (σ := Nat × Nat × Nat) (fun n i s => kX7_heap_b50 M N (nI ys) (nI w) v3 post n (nI s.1) (nI s.2.1) (nI s.2.2) (nI i)) (fun i s => s.1 = hp_U b ys w i ∧ s.2.1 = hp_O b ys w i ∧ s.2.2 = hp_k b ys i) 8 0 (0, 0, 0) (by decide) ⟨(ct_none (fun k _ => by simp)).symm, (ct_none (fun k _ => by simp)).symm, rfl⟩ ?_ ?_
  · rintro n ⟨s1, s2, s3⟩ ⟨e1, e2, e3⟩
    dsimp only at e1 e2 e3 ⊢
    subst e1 e2 e3
    unfold kX7_heap_b50
    refine ⟨fun _ => pk_le (hp_U b ys w 8) (hp_O b ys w 8) (fun z => ?_) (fun z => ?_), fun z => absurd (by decide) z⟩
    · rw [show hp_U b ys w 8 - hp_O b ys w 8 = 0 by omega] at fin; exact fin
    · rw [pk_sub (by omega)]; exact fin
  · rintro n i ⟨s1, s2, s3⟩ hi ⟨e1, e2, e3⟩ hc
    dsimp only at e1 e2 e3 hc ⊢
    have hl := bo_line hO hi
    have hk := bo_keen hO hi
    have hkp := hp_k_le hO ys i (by omega)
    -- the years' own counts
    have sU : hp_U b ys w (i + 1) = hp_U b ys w i + fb_ct (fun k => decide (b 2 k = i) && hp_lo b ys w k) (b 0 2) := hp_years (b 2) (hp_lo b ys w) (b 0 2) i
    have sO : hp_O b ys w (i + 1) = hp_O b ys w i + fb_ct (fun k => decide (b 2 k = i) && hp_hi b ys w k) (b 0 2) := hp_years (b 2) (hp_hi b ys w) (b 0 2) i
    have inner0 : hp_is b ys i = false → ∃ n118 : Nat, kX7_heap_b118 M N (nI ys) (nI w) v3 (nI s3) (0 : Int32) post (kX7_heap_b50 M N (nI ys) (nI w) v3 post n) n118 (nI s1) (nI s2) (nI i) (0 : Int32) := by
      intro z
      have nx : kX7_heap_b50 M N (nI ys) (nI w) v3 post n (nI s1) (nI s2) (nI s3) (nI (i + 1)) := by
        refine hc (s1, s2, s3) ⟨?_, ?_, ?_⟩
        · dsimp only; rw [sU, ct_none (fun k hk => ?_), e1]; rfl
          by_cases d : b 2 k = i
          · rw [hp_lo, d, z]; simp
          · rw [decide_eq_false d]; rfl
        · dsimp only; rw [sO, ct_none (fun k hk => ?_), e2]; rfl
          by_cases d : b 2 k = i
          · rw [hp_hi, d, z]; simp
          · rw [decide_eq_false d]; rfl
        · dsimp only; rw [hp_k, z, e3]; rfl
      refine ⟨1, ?_⟩
      unfold kX7_heap_b118
      rw [nI_1]
      exact ⟨fun _ => nx, fun _ => ⟨fun _ => nx, fun d => absurd rfl d⟩⟩
    have inner1 : ∀ s3' : Nat, hp_is b ys i = true → s3' = hp_k b ys (i + 1) → ∃ n118 : Nat, kX7_heap_b118 M N (nI ys) (nI w) v3 (nI s3') (1 : Int32) post (kX7_heap_b50 M N (nI ys) (nI w) v3 post n) n118 (nI s1) (nI s2) (nI i) (0 : Int32) := by
      intro s3' z h3
      refine pk_loop (σ := Nat × Nat) (fun m k s => kX7_heap_b118 M N (nI ys) (nI w) v3 (nI s3') (1 : Int32) post (kX7_heap_b50 M N (nI ys) (nI w) v3 post n) m (nI s.1) (nI s.2) (nI i) (nI k)) (fun k s => s.1 = s1 + fb_ct (fun k => decide (b 2 k = i) && hp_lo b ys w k) k ∧ s.2 = s2 + fb_ct (fun k => decide (b 2 k = i) && hp_hi b ys w k) k) (b 0 2) 0 (s1, s2) (Nat.zero_le _) ⟨rfl, rfl⟩ ?_ ?_
      · rintro m ⟨u, o⟩ ⟨hu, ho⟩
        dsimp only at hu ho ⊢
        unfold kX7_heap_b118
        rw [bm_n hM, nI_1]
        refine pk_le (b 0 2) (b 0 2) (fun _ => hc (u, o, s3') ⟨?_, ?_, h3⟩) (fun d => by omega)
        · dsimp only; rw [hu, sU, e1]
        · dsimp only; rw [ho, sO, e2]
      · rintro m k ⟨u, o⟩ hk2 ⟨hu, ho⟩ hcc
        dsimp only at hu ho hcc ⊢
        have hyk := bo_year hO hk2
        have h182 : ∀ d : Nat, u + d = s1 + fb_ct (fun k => decide (b 2 k = i) && hp_lo b ys w k) (k + 1) → kX7_heap_b182 M N (nI ys) (nI w) v3 (nI s3') (1 : Int32) post (kX7_heap_b118 M N (nI ys) (nI w) v3 (nI s3') (1 : Int32) post (kX7_heap_b50 M N (nI ys) (nI w) v3 post n) m) (nI o) (nI i) (nI k) (nI (bw_sworn b k i) - nI (b 7 i)) (nI u) (nI d) := by
          intro d hd
          unfold kX7_heap_b182
          rw [nI_clamp (show k < 2 ^ 31 by omega), bm_year hM hk2, nI_add, bw_iz, nI_1, nI_1]
          refine ⟨pk_in k 24 (by omega), pk_eq (b 2 k) i (fun e => s_X7_inI ?_) (fun e => hcc (u + d, o) ⟨hd, ?_⟩)⟩
          · have ez : hp_hi b ys w k = bw_in (nI (bw_sworn b k i) - nI (b 7 i)) 1 (nI w).toInt := by rw [hp_in_hi hO hw hk2 hi, hp_hi, e, z]; rfl
            rw [bw_wide, show (1 : Int64).toInt = 1 from rfl]
            refine bw_br (fun q => hcc (u + d, o) ⟨hd, ?_⟩) (fun q => hcc (u + d, o + 1) ⟨hd, ?_⟩)
            · dsimp only; rw [fb_ct_succ, ez, q, ho]; simp
            · dsimp only; rw [fb_ct_succ, ez, q, decide_eq_true e, ho]; simp; omega
          · dsimp only; rw [fb_ct_succ, decide_eq_false e, ho]; simp
        unfold kX7_heap_b118
        rw [bm_n hM]
        refine pk_le (b 0 2) k (fun d => by omega) (fun _ => ⟨fun d => absurd d (by decide), fun _ => s_X7_sworn hM hO hk2 hi ?_⟩)
        rw [nI_clamp (show i < 2 ^ 31 by omega), nI_clamp (show k < 2 ^ 31 by omega), bm_year hM hk2, bm_line hM hi]
        refine ⟨pk_in i 8 hi, pk_in k 24 (by omega), pk_eq (b 2 k) i (fun e => s_X7_inI ?_) (fun e => ?_)⟩
        · have ez : hp_lo b ys w k = bw_in (nI (bw_sworn b k i) - nI (b 7 i)) (-nI w).toInt 0 := by rw [hp_in_lo hO hw hk2 hi, hp_lo, e, z]; rfl
          rw [bw_wide, show (0 : Int64).toInt = 0 from rfl]
          refine bw_br (fun q => ?_) (fun q => h182 1 ?_)
          · unfold kX7_heap_b181
            refine h182 0 ?_
            rw [fb_ct_succ, ez, q, hu]; simp
          · rw [fb_ct_succ, ez, q, decide_eq_true e, hu]; simp; omega
        · unfold kX7_heap_b181
          refine h182 0 ?_
          rw [fb_ct_succ, decide_eq_false e, hu]; simp
    have b81 : hp_is b ys i = false → kX7_heap_b81 M N (nI ys) (nI w) v3 post (kX7_heap_b82 M N (nI ys) (nI w) v3 post (kX7_heap_b50 M N (nI ys) (nI w) v3 post n)) (nI s1) (nI s2) (nI s3) (nI i) := by
      intro z
      unfold kX7_heap_b81 kX7_heap_b82
      exact ⟨fun _ => inner0 z, fun d => absurd rfl d⟩
    unfold kX7_heap_b50
    rw [nI_clamp (show i < 2 ^ 31 by omega), bm_line hM hi]
    refine pk_le 8 i (fun z => by omega) (fun _ => ⟨fun z => ⟨pk_in i 8 hi, pk_le (b 7 i) 0 (fun z2 => b81 ?_) (fun z2 => ?_)⟩, fun z => b81 ?_⟩)
    · unfold hp_is; rw [decide_eq_false (by omega)]; simp
    · have z1 : hp_is b ys i = true := by unfold hp_is; rw [(bt_1 (by omega) (by omega)).mp z, decide_eq_true (by omega)]; rfl
      unfold kX7_heap_b82
      rw [nI_clamp (show i < 2 ^ 31 by omega), bm_keen hM hi]
      refine ⟨fun d => absurd d (by decide), fun _ => ⟨pk_in i 8 hi, pk_le (b 8 i) s3 (fun z3 => inner1 s3 z1 ?_) (fun z3 => ⟨pk_in i 8 hi, inner1 _ z1 ?_⟩)⟩⟩
      · rw [hp_k, if_pos z1, ← e3, Nat.max_eq_left z3]
      · rw [hp_k, if_pos z1, ← e3, Nat.max_eq_right (by omega)]
    · unfold hp_is
      cases q : ys.testBit i with
      | false => rfl
      | true => exact absurd ((bt_1 (by omega) (by omega)).mpr q) z
theorem ok_heap (hR : bw_R S L M N) (a1 a2 a3 : Int32) : kX6_heap S L a1 a2 a3 (fun r => kX7_heap M N a1 a2 a3 (fun r' => r = r')) := by
  obtain ⟨⟨b, hO, hK, hX, hC, hM, hD⟩, hr⟩ := id hR
  have hn := bo_n hO
  unfold kX6_heap kX7_heap
  refine s_X6_wI 1 255 (bw_br (fun q => s_X7_wI 1 255 (bq_f q rfl)) (fun q => s_X6_wI 1 999 (bw_br (fun q2 => s_X7_wI 1 255 (bq_t q (s_X7_wI 1 999 (bq_f q2 rfl)))) (fun q2 => s_X6_wI 0 3 (bw_br (fun q3 => s_X7_wI 1 255 (bq_t q (s_X7_wI 1 999 (bq_t q2 (s_X7_wI 0 3 (bq_f q3 rfl)))))) (fun q3 => ?_))))))
  have go : ∀ {A1 A2 A3 B : Prop}, B → kX7_in M N a1.toInt64 (1 : Int64) (255 : Int64) (fun r6 => (r6 = 0 → A1) ∧ (¬ r6 = 0 → kX7_in M N a2.toInt64 (1 : Int64) (999 : Int64) (fun r18 => (r18 = 0 → A2) ∧ (¬ r18 = 0 → kX7_in M N a3.toInt64 (0 : Int64) (3 : Int64) (fun r30 => (r30 = 0 → A3) ∧ (¬ r30 = 0 → B)))))) := fun h => s_X7_wI 1 255 (bq_t q (s_X7_wI 1 999 (bq_t q2 (s_X7_wI 0 3 (bq_t q3 h)))))
  obtain ⟨ys, hy1, hy2, rfl⟩ := bw_in_t1 (n := 255) q
  obtain ⟨w, hw1, hw2, rfl⟩ := bw_in_t1 (n := 999) q2
  obtain ⟨t, ht, rfl⟩ := bw_in_t (n := 3) q3
  have lU := fb_ct_le (hp_lo b ys w) (b 0 2)
  have lO := fb_ct_le (hp_hi b ys w) (b 0 2)
  refine s_X5_howManyNearLine (g := hp_lo b ys w) hX hO (by omega) (fun k hk => ?_) (s_X5_howManyNearLine (g := hp_hi b ys w) hX hO (by omega) (fun k hk => ?_) ?_)
  · have hyk := bo_year hO hk
    rw [show (0 : Int32).toInt = 0 from rfl, hp_in_lo hO hw2 hk (by omega)]; rfl
  · have hyk := bo_year hO hk
    rw [show (1 : Int32).toInt = 1 from rfl, hp_in_hi hO hw2 hk (by omega)]; rfl
  have ed : (if nI (fb_ct (hp_lo b ys w) (b 0 2)) - nI (fb_ct (hp_hi b ys w) (b 0 2)) < (0 : Int32) then (0 : Int32) else nI (fb_ct (hp_lo b ys w) (b 0 2)) - nI (fb_ct (hp_hi b ys w) (b 0 2))) = nI (fb_ct (hp_lo b ys w) (b 0 2) - fb_ct (hp_hi b ys w) (b 0 2)) := by
    by_cases h : fb_ct (hp_hi b ys w) (b 0 2) ≤ fb_ct (hp_lo b ys w) (b 0 2)
    · rw [pk_sub h, if_neg (nI_pos (by omega))]
    · rw [if_pos (pk_sneg (by omega) (by omega)), show fb_ct (hp_lo b ys w) (b 0 2) - fb_ct (hp_hi b ys w) (b 0 2) = 0 by omega]; rfl
  rw [ed]
  refine ⟨fun e => go (s_X7_heap_loop hM hO (by omega) hw2 ?_), fun e => s_X0_greatestKeen hX hO (by omega) (go (s_X7_heap_loop hM hO (by omega) hw2 ?_)), fun e => go (s_X7_heap_loop hM hO (by omega) hw2 ?_), fun e0 e1 e2 => go (s_X7_heap_loop hM hO (by omega) hw2 ?_)⟩
  · unfold kX7_heap_b247
    exact ⟨fun _ => rfl, fun d => absurd e d⟩
  · unfold kX7_heap_b247
    exact ⟨fun d => absurd (e.symm.trans d) (by decide), fun _ => ⟨fun _ => rfl, fun d => absurd e d⟩⟩
  · unfold kX7_heap_b247
    exact ⟨fun d => absurd (e.symm.trans d) (by decide), fun _ => ⟨fun d => absurd (e.symm.trans d) (by decide), fun _ => ⟨fun _ => rfl, fun d => absurd e d⟩⟩⟩
  · unfold kX7_heap_b247
    exact ⟨fun d => absurd d e0, fun _ => ⟨fun d => absurd d e1, fun _ => ⟨fun d => absurd d e2, fun _ => rfl⟩⟩⟩
end OPS
