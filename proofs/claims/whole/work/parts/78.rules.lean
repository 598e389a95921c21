/-! ===== rules ===== -/
section TP
variable {tb : Nat → Nat} {tn p : Nat} {S M : SX} {L N : LX}
theorem tp_sk_le : ∀ (f p : Nat), p ≤ tn → tp_sk tb tn f p ≤ tn := by
  intro f
  induction f with
  | zero => intro p h; exact h
  | succ f ih =>
    intro p h
    unfold tp_sk
    split
    · exact ih _ (by omega)
    · exact h
theorem tp_s_le {p : Nat} (h : p ≤ tn) : tp_s tb tn p ≤ tn := tp_sk_le _ _ h
theorem mD_b {m : Nat} {s : Bool × Nat} (h : s.2 ≤ tn) : (mD tb tn m s).1.2 ≤ tn := by
  have k := tp_s_le (tb := tb) h
  unfold mD
  split
  · exact h
  · split
    · have := tp_dgT ‹_›; dsimp only; omega
    · exact k
theorem mC_b {c : Nat} {s : Bool × Nat} (h : s.2 ≤ tn) : (mC tb tn c s).1.2 ≤ tn := by
  have k := tp_s_le (tb := tb) h
  unfold mC
  split
  · exact h
  · split
    · have := tp_cT ‹_›; dsimp only; omega
    · exact k
theorem mT_b {c : Nat} {s : Bool × Nat} (h : s.2 ≤ tn) : (mT tb tn c s).2 ≤ tn := by rw [mT_C]; exact mC_b h
theorem nv_b : ∀ (f q v : Nat), q ≤ tn → (tp_nv tb tn f q v).2 ≤ tn := by
  intro f
  induction f with
  | zero => intro q v h; exact h
  | succ f ih =>
    intro q v h
    unfold tp_nv
    split
    · have := tp_dgT ‹_›; exact ih _ _ (by omega)
    · exact h
theorem mN_b {m : Nat} {s : Bool × Nat} (h : s.2 ≤ tn) : (mN tb tn m s).1.2 ≤ tn := by
  have k := tp_s_le (tb := tb) h
  unfold mN
  split
  · exact h
  · split
    · split
      · exact nv_b _ _ _ k
      · exact k
    · exact k
theorem mP_b {c m : Nat} {s : Bool × Nat} (h : s.2 ≤ tn) : (mP tb tn c m s).1.2 ≤ tn := by
  unfold mP
  split
  · exact mN_b (mC_b h)
  · exact mC_b h
theorem lwS_b (h : p ≤ tn) : (lwS tb tn p).2 ≤ tn := mC_b (mC_b (mC_b (mC_b (mP_b (mP_b (mP_b (mT_b (mD_b h))))))))
theorem wlS_b (h : p ≤ tn) : (wlS tb tn p).2 ≤ tn := by
  refine mP_b (mP_b (mP_b (mN_b ?_)))
  unfold wl4
  split
  · exact mC_b (mD_b (mD_b h))
  · exact mT_b (mC_b (mD_b (mD_b h)))
theorem pf_neg : ∀ p, p ≤ 100 → ((-20 : Int32) - nI p ≤ 0) ∧ ((7 : Int32) * ((-20 : Int32) - nI p) ≤ 0) ∧ ¬ (0 < (-20 : Int32) - nI p) := by decide
theorem tpX_0 (h37 : S 37 0 = nI tn) (hb : ∀ j, j < tn → S 38 j = nI (tb j)) : tpX tb tn (xu S 37 1 (0 : Int32)) 0 :=
  ⟨by rw [xu_ap, if_pos rfl, if_neg (by decide)]; exact h37, by rw [xu_ap, if_pos rfl, if_pos rfl]; rfl, Nat.zero_le _, fun j hj => by rw [xu_ne (by decide)]; exact hb j hj⟩
theorem tpM_0 (h3 : M 0 3 = nI tn) (hb : ∀ j, j < tn → M 14 j = nI (tb j)) : tpM tb tn (xu (xu M 0 4 (0 : Int32)) 0 5 (0 : Int32)) (false, 0) :=
  ⟨by rw [xu_ap, if_pos rfl, if_neg (by decide), xu_ap, if_pos rfl, if_neg (by decide)]; exact h3, by rw [xu_ap, if_pos rfl, if_neg (by decide), xu_ap, if_pos rfl, if_pos rfl]; rfl, by rw [xu_ap, if_pos rfl, if_pos rfl]; rfl, Nat.zero_le _, fun j hj => by rw [xu_ne (by decide), xu_ne (by decide)]; exact hb j hj⟩
theorem frA_0 (M : SX) : frA M (xu (xu M 0 4 (0 : Int32)) 0 5 (0 : Int32)) := ⟨fun q h1 _ => by rw [xu_ne h1, xu_ne h1], fun j _ h2 h3 => by rw [xu_ap, if_pos rfl, if_neg h3, xu_ap, if_pos rfl, if_neg h2]⟩
theorem s_X7_rules_in {n i : Nat} {V : Nat → Nat → Nat} {T : SX} (hi : 7 * i + 7 ≤ 56) (hV : V i 0 ≤ 7) (hr : ∀ t, t < 5 → T 15 (7 * i + t) = nI (V i t)) {post : Int32 → SX → Prop} {K : Int32 → SX → Prop} (hp : ∀ T', (∀ q, ¬ (6 ≤ q ∧ q ≤ 9) → T' q = T q) → (∀ j, j < 8 → T' 6 j = (if V i 0 ≤ j then nI (V i 1) else T 6 j) ∧ T' 7 j = (if V i 0 ≤ j then nI (V i 2) else T 7 j) ∧ T' 8 j = (if V i 0 ≤ j then nI (V i 3) else T 8 j) ∧ T' 9 j = (if V i 0 ≤ j then nI (V i 4) else T 9 j)) → K (nI (7 * (i + 1))) T') : ∃ f, kX7_rules_b23 N (nI n) post K f (nI (7 * i)) (nI (V i 0)) T := by
  refine pk_loop (fun f y (s : SX) => kX7_rules_b23 N (nI n) post K f (nI (7 * i)) (nI y) s) (fun y s => V i 0 ≤ y ∧ (∀ q, ¬ (6 ≤ q ∧ q ≤ 9) → s q = T q) ∧ (∀ j, s 6 j = (if V i 0 ≤ j ∧ j < y then nI (V i 1) else T 6 j) ∧ s 7 j = (if V i 0 ≤ j ∧ j < y then nI (V i 2) else T 7 j) ∧ s 8 j = (if V i 0 ≤ j ∧ j < y then nI (V i 3) else T 8 j) ∧ s 9 j = (if V i 0 ≤ j ∧ j < y then nI (V i 4) else T 9 j))) 8 (V i 0) T (by omega) ⟨Nat.le_refl _, fun _ _ => rfl, fun j => by simp only [if_neg (show ¬ (V i 0 ≤ j ∧ j < V i 0) by omega)]; exact ⟨trivial, trivial, trivial, trivial⟩⟩ ?_ ?_
  · intro f s hs
    unfold kX7_rules_b23
    have e7 : nI (7 * i) + (7 : Int32) = nI (7 * (i + 1)) := (nI_add (7 * i) 7).trans (by congr 1)
    rw [e7]
    refine ⟨fun _ => hp s hs.2.1 (fun j hj => ?_), fun z => absurd (by decide) z⟩
    have := hs.2.2 j
    simp only [hj, and_true] at this
    exact this
  · intro f y s hy hs hc
    have a1 : nI (7 * i) + (1 : Int32) = nI (7 * i + 1) := nI_add _ 1
    have a2 : nI (7 * i) + (2 : Int32) = nI (7 * i + 2) := nI_add _ 2
    have a3 : nI (7 * i) + (3 : Int32) = nI (7 * i + 3) := nI_add _ 3
    have a4 : nI (7 * i) + (4 : Int32) = nI (7 * i + 4) := nI_add _ 4
    unfold kX7_rules_b23
    rw [a1, a2, a3, a4, nI_clamp (show y < 2 ^ 31 by omega), nI_clamp (show 7 * i + 1 < 2 ^ 31 by omega), nI_clamp (show 7 * i + 2 < 2 ^ 31 by omega), nI_clamp (show 7 * i + 3 < 2 ^ 31 by omega), nI_clamp (show 7 * i + 4 < 2 ^ 31 by omega), nI_1 y]
    have r6 : ∀ (A : SX) (k : Nat) (v : Int32), xu A 6 k v 15 = A 15 := fun A k v => xu_ne (by decide)
    have r7 : ∀ (A : SX) (k : Nat) (v : Int32), xu A 7 k v 15 = A 15 := fun A k v => xu_ne (by decide)
    have r8 : ∀ (A : SX) (k : Nat) (v : Int32), xu A 8 k v 15 = A 15 := fun A k v => xu_ne (by decide)
    simp only [r6, r7, r8, hs.2.1 15 (by decide), hr 1 (by decide), hr 2 (by decide), hr 3 (by decide), hr 4 (by decide)]
    have p8 : vp_in (nI y) 8 := pk_in y 8 hy
    refine pk_le 8 y (fun z => by omega) (fun _ => ⟨pk_in (7 * i + 1) 56 (by omega), p8, pk_in (7 * i + 2) 56 (by omega), p8, pk_in (7 * i + 3) 56 (by omega), p8, pk_in (7 * i + 4) 56 (by omega), p8, hc _ ⟨by have := hs.1; omega, fun q hq => by rw [xu_ne (by omega), xu_ne (by omega), xu_ne (by omega), xu_ne (by omega)]; exact hs.2.1 q hq, fun j => ?_⟩⟩)
    have yi := hs.1
    have := hs.2.2 j
    by_cases c : j = y
    · subst c
      rw [if_pos (by omega), if_pos (by omega), if_pos (by omega), if_pos (by omega)]
      simp [xu_ap]
    · by_cases d : V i 0 ≤ j ∧ j < y
      · simp only [if_pos d] at this
        rw [if_pos (by omega), if_pos (by omega), if_pos (by omega), if_pos (by omega)]
        simp [xu_ap, c, this]
      · simp only [if_neg d] at this
        rw [if_neg (by omega), if_neg (by omega), if_neg (by omega), if_neg (by omega)]
        simp [xu_ap, c, this]
def rm_I (V b0 : Nat → Nat → Nat) (n : Nat) (M : SX) : Prop := ∀ j, j < 8 → M 6 j = nI (lr_row V b0 n 0 j) ∧ M 7 j = nI (lr_row V b0 n 1 j) ∧ M 8 j = nI (lr_row V b0 n 2 j) ∧ M 9 j = nI (lr_row V b0 n 3 j)
theorem s_X7_rules_ap {n : Nat} {V b0 : Nat → Nat → Nat} (hn : n ≤ 8) (hV : ∀ i, V i 0 ≤ 7) (hr : rr_I V 5 n M) (h0 : rm_I V b0 0 M) {post : Int32 → SX → Prop} (hp : ∀ M', (∀ q, ¬ (6 ≤ q ∧ q ≤ 9) → M' q = M q) → rm_I V b0 n M' → post (nI n) M') : ∃ f, kX7_rules_b8 N (nI n) post f (0 : Int32) M := by
  have e7 : (7 : Int32) * nI n = nI (7 * n) := by rw [show (7 : Int32) = nI 7 from rfl, pk_mul]
  refine pk_loop (fun f i (s : SX) => kX7_rules_b8 N (nI n) post f (nI (7 * i)) s) (fun i s => (∀ q, ¬ (6 ≤ q ∧ q ≤ 9) → s q = M q) ∧ rm_I V b0 i s) n 0 M (Nat.zero_le _) ⟨fun _ _ => rfl, h0⟩ ?_ ?_
  · intro f s hs
    unfold kX7_rules_b8
    rw [e7]
    exact pk_le (7 * n) (7 * n) (fun _ => hp s hs.1 hs.2) (fun z => by omega)
  · intro f i s hi hs hc
    unfold kX7_rules_b8
    have e0 : s 15 (7 * i) = nI (V i 0) := by rw [hs.1 15 (by decide)]; exact hr i hi 0 (by decide)
    rw [e7, nI_clamp (show 7 * i < 2 ^ 31 by omega), e0]
    refine pk_le (7 * n) (7 * i) (fun z => by omega) (fun _ => ⟨pk_in (7 * i) 56 (by omega), s_X7_rules_in (by omega) (hV i) (fun t ht => by rw [hs.1 15 (by decide)]; exact hr i hi t ht) (fun T' g1 g2 => hc T' ⟨fun q hq => by rw [g1 q hq, hs.1 q hq], fun j hj => ?_⟩)⟩)
    have k := g2 j hj
    have o := hs.2 j hj
    rw [o.1, o.2.1, o.2.2.1, o.2.2.2] at k
    unfold lr_row
    by_cases c : V i 0 ≤ j
    · simp only [if_pos c] at k ⊢; exact k
    · simp only [if_neg c] at k ⊢; exact k
theorem lr_row_le {V b0 : Nat → Nat → Nat} {r B : Nat} (hV : ∀ i, V i (r + 1) ≤ B) {j : Nat} (h0 : b0 r j ≤ B) : ∀ n, lr_row V b0 n r j ≤ B := by
  intro n
  induction n with
  | zero => exact h0
  | succ n ih =>
    unfold lr_row
    split
    · exact hV n
    · exact ih
/-- nothing but the tape and the rows of its readers changed -/
theorem bw_R_read {S' M' : SX} {b : SN} (hm : bw_main S L M N b) (hr : bw_rest S L M N) (hS : ∀ q, q ≠ 37 → ¬ (39 ≤ q ∧ q ≤ 48) → S' q = S q) (hS0 : S' 37 0 = 0) (hM : frA M M') (hM0 : M' 0 3 = 0) : bw_main S' L M' N b ∧ bw_rest S' L M' N :=
  ⟨bw_main_keep hm (fun k _ h2 => hS k (by omega) (by omega)) (fun _ _ _ => rfl) (fun k h1 h2 => hM.1 k (by omega) (by omega)) (fun j hj => hM.2 j (by omega) (by omega) (by omega)) rfl rfl, bw_img_keep hr.1 (hS 0 (by decide) (by decide)) (fun k _ h2 => hS k (by omega) (by omega)) (fun _ _ => rfl) (hM.1 16 (by decide) (by decide)) (hM.2 6 (by decide) (by decide) (by decide)) rfl, ⟨0, fun _ => 32, Nat.zero_le _, hS0, hM0, fun j hj => absurd hj (by omega)⟩, bw_sh_keep hr.2.2 (hS 50 (by decide) (by decide)) (hS 51 (by decide) (by decide)) (hS 52 (by decide) (by decide)) (hM.1 18 (by decide) (by decide)) (hM.1 19 (by decide) (by decide)) (hM.1 20 (by decide) (by decide))⟩
end TP
section OPS
variable {S M : SX} {L N : LX}
theorem ok_rules (hR : bw_R S L M N) : kX6_rules S L (fun r S1 => kX7_rules M N (fun r' M1 => r = r' ∧ bw_R S1 L M1 N)) := by
  obtain ⟨⟨b, hm⟩, hr⟩ := id hR
  obtain ⟨tn, tb, t1, t2, t3, t4⟩ := id hr.2.1
  have hT : tpT tb tn := ⟨t1, fun j hj => (t4 j hj).2.2⟩
  have hX := hm.2.2.1
  have hM := hm.2.2.2.2.1
  have hO := hm.1
  have hE := pf_end_le (tb := tb) (tn := tn) (cS := lwS tb tn) (fun q hq => lwS_b hq) (fun q hq => tp_s_le hq) 8 0 (Nat.zero_le _) (by decide) (by decide)
  unfold kX6_rules kX3_clear
  refine s_X0_tf_39_3 (fun S1 f1 g1 => ⟨9, s_X3_readLaws_go hT (b0 := fun r j => b (6 + r) j) 8 0 (xu S1 37 1 0) rfl (by decide) (tpX_0 (by rw [f1 37 (by decide)]; exact t2) (fun j hj => by rw [f1 38 (by decide)]; exact (t4 j hj).1)) ?_ (fun S2 f2 i2 => ?_)⟩)
  · intro j hj
    have k := g1 j hj
    rw [xu_ne (by decide), xu_ne (by decide), xu_ne (by decide), xu_ne (by decide), k.1, k.2.1, k.2.2.1, k.2.2.2]
    exact ⟨bx_floor hX hj, bx_line hX hj, bx_keen hX hj, bx_marks hX hj⟩
  have fS : ∀ q, q ≠ 37 → ¬ (39 ≤ q ∧ q ≤ 48) → xu S2 37 0 0 q = S q := fun q h1 h2 => by rw [xu_ne h1, f2 q h1 (by omega), xu_ne h1, f1 q (by omega)]
  have fS0 : xu S2 37 0 0 37 0 = 0 := by rw [xu_ap, if_pos rfl, if_pos rfl]
  generalize hEq : pf_end tb tn (lwS tb tn) 8 0 = E at hE i2 ⊢
  have hMr : ∀ {post : Int32 → SX → Prop}, (∀ M', frA M M' → M' 0 3 = 0 → (E.2.1 = false → rr_I (lr_V tb tn) 5 (E.1 + 1) M') → post (pf_r E) M') → kX7_readAll M N (1 : Int32) post := by
    intro post h
    refine ⟨9, s_X7_readRule_go hT 8 0 _ rfl (by decide) (tpM_0 t3 (fun j hj => (t4 j hj).2.1)) (fun i hi => absurd hi (by omega)) (fun M' g1 g2 g3 => ?_)⟩
    rw [hEq] at g3 ⊢
    exact h M' (frA_t (frA_0 M) g1) g2 g3
  obtain ⟨m, wr, pl⟩ := E
  dsimp only at hE i2 hMr ⊢
  cases wr with
  | true =>
    have er : pf_r (m, true, pl) = (-20 : Int32) - nI pl := rfl
    have hpl : pl ≤ 100 := by have := hE.1; omega
    have hneg := pf_neg pl hpl
    rw [er] at hMr ⊢
    refine ⟨fun _ => ?_, fun z => absurd hneg.1 z⟩
    unfold kX7_rules
    refine hMr (fun M' g1 g2 _ => ⟨1, ?_⟩)
    unfold kX7_rules_b8
    refine ⟨fun _ => ⟨rfl, ?_⟩, fun z => absurd hneg.2.1 z⟩
    have key := bw_R_read hm hr fS fS0 g1 g2
    exact ⟨⟨b, key.1⟩, key.2⟩
  | false =>
    have er : pf_r (m, false, pl) = nI (m + 1) := rfl
    have hm8 := hE.2
    rw [er] at hMr ⊢
    refine ⟨fun z => absurd z (nI_nle (by omega) (by omega)), fun _ => s_X0_tf_3_39 (fun S3 f3 g3 => ?_)⟩
    have i2 := i2 rfl
    unfold kX7_rules
    refine hMr (fun M' k1 k2 k3 => s_X7_rules_ap (V := lr_V tb tn) (b0 := fun r j => b (6 + r) j) (by omega) (fun i => lwV_le.1) (k3 rfl) (fun j hj => ?_) (fun M2 l1 l2 => ⟨rfl, ?_⟩))
    · rw [k1.1 6 (by decide) (by decide), k1.1 7 (by decide) (by decide), k1.1 8 (by decide) (by decide), k1.1 9 (by decide) (by decide)]
      exact ⟨bm_floor hM hj, bm_line hM hj, bm_keen hM hj, bm_marks hM hj⟩
    · have key := bw_R_read hm hr fS fS0 k1 k2
      have sr : ∀ j, j < 8 → S3 4 j = nI (lr_row (lr_V tb tn) (fun r j => b (6 + r) j) (m + 1) 0 j) ∧ S3 5 j = nI (lr_row (lr_V tb tn) (fun r j => b (6 + r) j) (m + 1) 1 j) ∧ S3 6 j = nI (lr_row (lr_V tb tn) (fun r j => b (6 + r) j) (m + 1) 2 j) ∧ S3 7 j = nI (lr_row (lr_V tb tn) (fun r j => b (6 + r) j) (m + 1) 3 j) := fun j hj => by
        have k := g3 j hj
        rw [k.1, k.2.1, k.2.2.1, k.2.2.2, xu_ne (by decide), xu_ne (by decide), xu_ne (by decide), xu_ne (by decide)]
        exact i2 j hj
      have hv : ∀ i, lr_V tb tn i 1 ≤ 9999 ∧ lr_V tb tn i 2 ≤ 9999 ∧ lr_V tb tn i 3 ≤ 999 ∧ lr_V tb tn i 4 ≤ 15 := fun i => lwV_le.2
      have hK : ∀ k, (fun k => decide (6 ≤ k ∧ k ≤ 9)) k = true → k = 6 ∨ k = 7 ∨ k = 8 ∨ k = 9 := fun k hk => by have := of_decide_eq_true hk; omega
      refine ⟨⟨_, bw_main_rows (K := fun k => decide (6 ≤ k ∧ k ≤ 9)) (c := fun k j => lr_row (lr_V tb tn) (fun r j => b (6 + r) j) (m + 1) (k - 6) j) (fun k hk => ?_) key.1 (fun k j hk hj => ?_) (fun k k1 k2 hk => f3 _ ?_) (f3 1 (by decide)) (f3 8 (by decide)) (fun k j hk hj => ?_) (fun k k1 k2 hk => l1 _ ?_) (fun j hj => by rw [l1 0 (by decide)]) (fun k j hk hj => ?_)⟩, ?_⟩
      · have := hK k hk; omega
      · rcases hK k hk with rfl | rfl | rfl | rfl
        · exact ⟨Nat.zero_le _, lr_row_le (fun i => (hv i).1) (bo_floor hO hj) _⟩
        · exact ⟨Nat.zero_le _, lr_row_le (fun i => (hv i).2.1) (bo_line hO hj) _⟩
        · exact ⟨Nat.zero_le _, lr_row_le (fun i => (hv i).2.2.1) (bo_keen hO hj) _⟩
        · exact ⟨Nat.zero_le _, lr_row_le (fun i => (hv i).2.2.2) (bo_marks hO hj) _⟩
      · have hk := of_decide_eq_false hk
        rcases (show k = 1 ∨ k = 2 ∨ k = 3 ∨ k = 4 ∨ k = 5 ∨ k = 10 ∨ k = 11 by omega) with rfl | rfl | rfl | rfl | rfl | rfl | rfl <;> decide
      · rcases hK k hk with rfl | rfl | rfl | rfl
        · exact (sr j hj).1
        · exact (sr j hj).2.1
        · exact (sr j hj).2.2.1
        · exact (sr j hj).2.2.2
      · exact of_decide_eq_false hk
      · rcases hK k hk with rfl | rfl | rfl | rfl
        · exact (l2 j hj).1
        · exact (l2 j hj).2.1
        · exact (l2 j hj).2.2.1
        · exact (l2 j hj).2.2.2
      · exact bw_rest_keep key.2 (fun q hq => f3 q (by omega)) (by rw [f3 37 (by decide)]) (fun _ _ => rfl) (fun q hq => l1 q (by omega)) (by rw [l1 0 (by decide)]) (by rw [l1 0 (by decide)]) rfl
end OPS
