/-! ===== share: the greatest common divisor ===== -/
theorem gc_mod {a c : Nat} (h : 0 < c) (hc : c ≤ a ∨ True) : a % c < c := Nat.mod_lt _ h
theorem gc_half {s r : Nat} (hr : 0 < r) (h : r < s) : 2 * (s % r) < s := by
  have h1 := Nat.mod_lt s hr
  have h2 : s % r + r ≤ s := by
    have e := Nat.div_add_mod s r
    have h3 : 1 ≤ s / r := Nat.div_pos (by omega) hr
    have h4 : r * 1 ≤ r * (s / r) := Nat.mul_le_mul (Nat.le_refl _) h3
    omega
  omega
theorem gc_step {g s : Nat} : Nat.gcd g s = Nat.gcd s (g % s) := by
  rw [Nat.gcd_comm g s, Nat.gcd_rec s g, Nat.gcd_comm]
section GCD
variable {S M : SX} {L N : LX}
theorem gc_X {v0 v2 : Int64} {post : Int64 → Prop} : ∀ (m g s i : Nat), g < 2 ^ 62 → s < 2 ^ 62 → s < 2 ^ m → i + 2 * m ≤ 98 → post (lN (Nat.gcd g s)) → ∃ n, kX6_commonDivisor_b9 S L v0 v2 post n (lN g) (lN s) (nI i)
  | 0, g, s, i, hg, hs, h, hi, hp => by
    have e : s = 0 := by omega
    subst e
    rw [Nat.gcd_zero_right] at hp
    refine ⟨1, ?_⟩
    unfold kX6_commonDivisor_b9
    exact ⟨fun _ => hp, fun _ => ⟨fun _ => hp, fun z => absurd rfl z⟩⟩
  | m + 1, g, s, i, hg, hs, h, hi, hp => by
    by_cases e : s = 0
    · subst e
      rw [Nat.gcd_zero_right] at hp
      refine ⟨1, ?_⟩
      unfold kX6_commonDivisor_b9
      exact ⟨fun _ => hp, fun _ => ⟨fun _ => hp, fun z => absurd rfl z⟩⟩
    · have nz : ¬ lN s = 0 := fun d => e ((pk_lEQ (b := 0) (by omega) (by decide)).mp d)
      have h1 := Nat.mod_lt g (show 0 < s by omega)
      have hp1 : post (lN (Nat.gcd s (g % s))) := by rw [← gc_step]; exact hp
      by_cases e2 : g % s = 0
      · rw [e2, Nat.gcd_zero_right] at hp1
        refine ⟨2, ?_⟩
        unfold kX6_commonDivisor_b9
        rw [pk_lRem (by omega) (by omega) (by omega), e2]
        refine pk_le 100 i (fun _ => by omega) (fun _ => ⟨fun d => absurd d nz, fun _ => ⟨nz, ?_⟩⟩)
        unfold kX6_commonDivisor_b9
        exact ⟨fun _ => hp1, fun _ => ⟨fun _ => hp1, fun z => absurd rfl z⟩⟩
      · have h2 := gc_half (s := s) (r := g % s) (by omega) h1
        have nz2 : ¬ lN (g % s) = 0 := fun d => e2 ((pk_lEQ (b := 0) (by omega) (by decide)).mp d)
        obtain ⟨n, hn⟩ := gc_X (v0 := v0) (v2 := v2) (post := post) m (g % s) (s % (g % s)) (i + 2) (by omega) (by omega) (by rw [Nat.pow_succ] at h; omega) (by omega) (by rw [← gc_step]; exact hp1)
        refine ⟨n + 2, ?_⟩
        unfold kX6_commonDivisor_b9
        rw [pk_lRem (by omega) (by omega) (by omega), nI_1]
        refine pk_le 100 i (fun _ => by omega) (fun _ => ⟨fun d => absurd d nz, fun _ => ⟨nz, ?_⟩⟩)
        unfold kX6_commonDivisor_b9
        rw [pk_lRem (by omega) (by omega) (by omega), nI_1]
        exact pk_le 100 (i + 1) (fun _ => by omega) (fun _ => ⟨fun d => absurd d nz2, fun _ => ⟨nz2, hn⟩⟩)
theorem s_X6_commonDivisor {g s : Nat} (hg : g < 2 ^ 62) (hs : s < 2 ^ 45) {post : Int64 → Prop} (h : post (lN (Nat.gcd g s))) : kX6_commonDivisor S L (lN g) (lN s) post := by
  unfold kX6_commonDivisor
  exact gc_X 45 g s 0 hg (by omega) hs (by omega) h
theorem gc_M {v1 v2 v3 : Int32} {v4 v6 : Int64} {post : Int64 → Prop} {G : Nat} (fin : ((v3 = 0 → ¬ lN G = 0 ∧ post (v6 / lN G)) ∧ (¬ v3 = 0 → ((v3 = (1 : Int32) → ¬ lN G = 0 ∧ post (v4 / lN G)) ∧ (¬ v3 = (1 : Int32) → ¬ v4 = 0 ∧ post ((v6 * (100000 : Int64)) / v4)))))) : ∀ (m g s : Nat), s < m → g < 2 ^ 62 → s < 2 ^ 62 → Nat.gcd g s = G → ∃ n, kX7_share_b74 S L v1 v2 v3 v4 v6 post n (lN g) (lN s)
  | 0, g, s, h, _, _, _ => absurd h (Nat.not_lt_zero _)
  | m + 1, g, s, h, hg, hs, hG => by
    by_cases e : s = 0
    · subst e
      rw [Nat.gcd_zero_right] at hG
      subst hG
      refine ⟨1, ?_⟩
      unfold kX7_share_b74
      exact ⟨fun _ => fin, fun z => absurd rfl z⟩
    · have nz : ¬ lN s = 0 := fun d => e ((pk_lEQ (b := 0) (by omega) (by decide)).mp d)
      have h1 := Nat.mod_lt g (show 0 < s by omega)
      obtain ⟨n, hn⟩ := gc_M fin m s (g % s) (by omega) hs (by omega) (by rw [← gc_step]; exact hG)
      refine ⟨n + 1, ?_⟩
      unfold kX7_share_b74
      rw [pk_lRem (by omega) (by omega) (by omega)]
      exact ⟨fun d => absurd d nz, fun _ => ⟨nz, hn⟩⟩
theorem ok_share (hR : bw_R S L M N) (a1 a2 a3 : Int32) : kX6_share S L a1 a2 a3 (fun r S1 => kX7_share M N a1 a2 a3 (fun r' => r = r' ∧ bw_R S1 L M N)) := by
  obtain ⟨⟨b, hm⟩, hr⟩ := id hR
  have hX := hm.2.2.1
  have hM := hm.2.2.2.2.1
  have hO := hm.1
  unfold kX6_share
  refine ck3X 2 (fun c => ?_) (fun c => ?_)
  · unfold kX7_share; exact ck3M 2 (fun _ => ⟨rfl, hR⟩) (fun d => cf_t d c)
  obtain ⟨y, q, w, hy, hq1, hq, hw, rfl, rfl, rfl⟩ := bw_c3_t c
  have t1 := bw_tot_le hO y y 99
  have t3 := bw_top_le b y y q 99
  have hpl := bw_parts_le b y y q 99
  have e10 : (10 : Int64) * lN (bw_tot b y y 99) = lN (10 * bw_tot b y y 99) := by rw [show (10 : Int64) = lN 10 from rfl, lN_mul]
  refine s_X1_gather hX hO hy hy (fun S1 h1 h2 => s_X1_sumAll hO h1 bw_nobody ⟨fun z => ?_, fun z => s_X5_topRoom (bw_X_out hX h2) hO hy hq (s_X1_sumTop hO hy h1 hq bw_nobody ?_)⟩)
  · have z1 := (pk_lEQ (b := 0) (by omega) (by decide)).mp z
    unfold kX7_share
    refine ck3M 2 (fun d => cf_t c d) (fun _ => s_X7_totalOf hM hO hy hy bw_none ?_)
    rw [e10, z1]
    exact ⟨fun _ => ⟨rfl, bw_R_out hR h2⟩, fun d => absurd rfl d⟩
  have z1 : bw_tot b y y 99 ≠ 0 := fun d => z (by rw [d]; rfl)
  have nz : ¬ lN (10 * bw_tot b y y 99) = 0 := by
    intro d
    have := (pk_lEQ (b := 0) (by omega) (by decide)).mp d
    omega
  have hR1 := bw_R_out hR h2
  have go : ∀ r : Int64, ((nI w = 0 → ¬ lN (Nat.gcd (bw_top b y y q 99) (10 * bw_tot b y y 99)) = 0 ∧ r = lN (bw_top b y y q 99) / lN (Nat.gcd (bw_top b y y q 99) (10 * bw_tot b y y 99))) ∧ (¬ nI w = 0 → ((nI w = (1 : Int32) → ¬ lN (Nat.gcd (bw_top b y y q 99) (10 * bw_tot b y y 99)) = 0 ∧ r = lN (10 * bw_tot b y y 99) / lN (Nat.gcd (bw_top b y y q 99) (10 * bw_tot b y y 99))) ∧ (¬ nI w = (1 : Int32) → ¬ lN (10 * bw_tot b y y 99) = 0 ∧ r = (lN (bw_top b y y q 99) * (100000 : Int64)) / lN (10 * bw_tot b y y 99))))) → kX7_share M N (nI y) (nI q) (nI w) (fun r' => r = r' ∧ bw_R S1 L M N) := by
    intro r hfin
    unfold kX7_share
    refine ck3M 2 (fun d => cf_t c d) (fun _ => s_X7_totalOf hM hO hy hy bw_none ?_)
    rw [e10]
    refine ⟨fun d => absurd d nz, fun _ => s_X7_topOf hM hO hy hy hq bw_none ?_⟩
    refine gc_M (G := Nat.gcd (bw_top b y y q 99) (10 * bw_tot b y y 99)) ⟨fun d => ?_, fun d => ⟨fun d1 => ?_, fun d1 => ?_⟩⟩ _ _ _ (Nat.lt_succ_self _) (by omega) (by omega) rfl
    · exact ⟨(hfin.1 d).1, (hfin.1 d).2, hR1⟩
    · exact ⟨((hfin.2 d).1 d1).1, ((hfin.2 d).1 d1).2, hR1⟩
    · exact ⟨((hfin.2 d).2 d1).1, ((hfin.2 d).2 d1).2, hR1⟩
  have hG : 0 < Nat.gcd (bw_top b y y q 99) (10 * bw_tot b y y 99) := Nat.gcd_pos_of_pos_right _ (by omega)
  have hG2 : Nat.gcd (bw_top b y y q 99) (10 * bw_tot b y y 99) ≤ 10 * bw_tot b y y 99 := Nat.gcd_le_right _ (by omega)
  have nG : ¬ lN (Nat.gcd (bw_top b y y q 99) (10 * bw_tot b y y 99)) = 0 := by
    intro d
    have := (pk_lEQ (b := 0) (by omega) (by decide)).mp d
    omega
  rw [e10]
  unfold kX6_share_b125
  refine ⟨fun d => s_X6_parts (by omega) (by omega) (go _ ⟨fun d2 => ?_, fun _ => ⟨fun d2 => ?_, fun _ => ⟨nz, ?_⟩⟩⟩), fun d => s_X6_commonDivisor (by omega) (by omega) ⟨fun d2 => s_X6_divided (by omega) (by omega) (go _ ⟨fun _ => ⟨nG, ?_⟩, fun d3 => absurd d2 d3⟩), fun d2 => s_X6_divided (by omega) (by omega) (go _ ⟨fun d3 => absurd d3 d2, fun _ => ⟨fun _ => ⟨nG, ?_⟩, fun d3 => ?_⟩⟩)⟩⟩
  · rw [d] at d2; exact absurd d2 (by decide)
  · rw [d] at d2; exact absurd d2 (by decide)
  · have e5 : bw_top b y y q 99 * 10000 / bw_tot b y y 99 = bw_parts b y y q 99 := by unfold bw_parts; rw [if_neg z1]
    rw [show (100000 : Int64) = lN 100000 from rfl, lN_mul, pk_lDiv (by omega) (by omega) (by omega), show bw_top b y y q 99 * 100000 = 10 * (bw_top b y y q 99 * 10000) by omega, Nat.mul_div_mul_left _ _ (by decide), nI_l (by rw [e5]; omega)]
  · rw [pk_lDiv (by omega) hG (by omega)]
  · rw [pk_lDiv (by omega) hG (by omega)]
  · exfalso
    have hw3 : w = 0 ∨ w = 1 ∨ w = 2 := by omega
    rcases hw3 with rfl | rfl | rfl
    · exact d2 rfl
    · exact d3 rfl
    · exact d rfl
end GCD
