/-! ===== count ===== -/
def bc_f (v0 : Int32) : Int32 := (((((((v0 - (((v0.toUInt32 >>> ((1 : Int32).toUInt32 &&& Int32.toUInt32 31)).toInt32) &&& (1431655765 : Int32))) &&& (858993459 : Int32)) + ((((v0 - (((v0.toUInt32 >>> ((1 : Int32).toUInt32 &&& Int32.toUInt32 31)).toInt32) &&& (1431655765 : Int32))).toUInt32 >>> ((2 : Int32).toUInt32 &&& Int32.toUInt32 31)).toInt32) &&& (858993459 : Int32))) + (((((v0 - (((v0.toUInt32 >>> ((1 : Int32).toUInt32 &&& Int32.toUInt32 31)).toInt32) &&& (1431655765 : Int32))) &&& (858993459 : Int32)) + ((((v0 - (((v0.toUInt32 >>> ((1 : Int32).toUInt32 &&& Int32.toUInt32 31)).toInt32) &&& (1431655765 : Int32))).toUInt32 >>> ((2 : Int32).toUInt32 &&& Int32.toUInt32 31)).toInt32) &&& (858993459 : Int32))).toUInt32 >>> ((4 : Int32).toUInt32 &&& Int32.toUInt32 31)).toInt32)) &&& (252645135 : Int32)) + (((((((v0 - (((v0.toUInt32 >>> ((1 : Int32).toUInt32 &&& Int32.toUInt32 31)).toInt32) &&& (1431655765 : Int32))) &&& (858993459 : Int32)) + ((((v0 - (((v0.toUInt32 >>> ((1 : Int32).toUInt32 &&& Int32.toUInt32 31)).toInt32) &&& (1431655765 : Int32))).toUInt32 >>> ((2 : Int32).toUInt32 &&& Int32.toUInt32 31)).toInt32) &&& (858993459 : Int32))) + (((((v0 - (((v0.toUInt32 >>> ((1 : Int32).toUInt32 &&& Int32.toUInt32 31)).toInt32) &&& (1431655765 : Int32))) &&& (858993459 : Int32)) + ((((v0 - (((v0.toUInt32 >>> ((1 : Int32).toUInt32 &&& Int32.toUInt32 31)).toInt32) &&& (1431655765 : Int32))).toUInt32 >>> ((2 : Int32).toUInt32 &&& Int32.toUInt32 31)).toInt32) &&& (858993459 : Int32))).toUInt32 >>> ((4 : Int32).toUInt32 &&& Int32.toUInt32 31)).toInt32)) &&& (252645135 : Int32)).toUInt32 >>> ((8 : Int32).toUInt32 &&& Int32.toUInt32 31)).toInt32)) + ((((((((v0 - (((v0.toUInt32 >>> ((1 : Int32).toUInt32 &&& Int32.toUInt32 31)).toInt32) &&& (1431655765 : Int32))) &&& (858993459 : Int32)) + ((((v0 - (((v0.toUInt32 >>> ((1 : Int32).toUInt32 &&& Int32.toUInt32 31)).toInt32) &&& (1431655765 : Int32))).toUInt32 >>> ((2 : Int32).toUInt32 &&& Int32.toUInt32 31)).toInt32) &&& (858993459 : Int32))) + (((((v0 - (((v0.toUInt32 >>> ((1 : Int32).toUInt32 &&& Int32.toUInt32 31)).toInt32) &&& (1431655765 : Int32))) &&& (858993459 : Int32)) + ((((v0 - (((v0.toUInt32 >>> ((1 : Int32).toUInt32 &&& Int32.toUInt32 31)).toInt32) &&& (1431655765 : Int32))).toUInt32 >>> ((2 : Int32).toUInt32 &&& Int32.toUInt32 31)).toInt32) &&& (858993459 : Int32))).toUInt32 >>> ((4 : Int32).toUInt32 &&& Int32.toUInt32 31)).toInt32)) &&& (252645135 : Int32)) + (((((((v0 - (((v0.toUInt32 >>> ((1 : Int32).toUInt32 &&& Int32.toUInt32 31)).toInt32) &&& (1431655765 : Int32))) &&& (858993459 : Int32)) + ((((v0 - (((v0.toUInt32 >>> ((1 : Int32).toUInt32 &&& Int32.toUInt32 31)).toInt32) &&& (1431655765 : Int32))).toUInt32 >>> ((2 : Int32).toUInt32 &&& Int32.toUInt32 31)).toInt32) &&& (858993459 : Int32))) + (((((v0 - (((v0.toUInt32 >>> ((1 : Int32).toUInt32 &&& Int32.toUInt32 31)).toInt32) &&& (1431655765 : Int32))) &&& (858993459 : Int32)) + ((((v0 - (((v0.toUInt32 >>> ((1 : Int32).toUInt32 &&& Int32.toUInt32 31)).toInt32) &&& (1431655765 : Int32))).toUInt32 >>> ((2 : Int32).toUInt32 &&& Int32.toUInt32 31)).toInt32) &&& (858993459 : Int32))).toUInt32 >>> ((4 : Int32).toUInt32 &&& Int32.toUInt32 31)).toInt32)) &&& (252645135 : Int32)).toUInt32 >>> ((8 : Int32).toUInt32 &&& Int32.toUInt32 31)).toInt32)).toUInt32 >>> ((16 : Int32).toUInt32 &&& Int32.toUInt32 31)).toInt32)) &&& (63 : Int32)
theorem bc_all : ∀ t : Nat, t < 256 → bc_f (nI t) = nI (fb_ct (fun y => t.testBit y) 8) := by decide +kernel
theorem s_J6_bitCount {S : SX} {L : LX} {t : Nat} (ht : t < 256) {post : Int32 → Prop} (h : post (nI (fb_ct (fun y => t.testBit y) 8))) : kJ6_bitCount S L (nI t) post := by
  unfold kJ6_bitCount
  rw [← bc_all t ht] at h
  exact h
section OPS
variable {S M : SX} {L N : LX}
theorem s_X6_yearsWithShare {b : SN} (hX : bw_X 1 S b) (hO : bw_ok b) {post : Int32 → Prop} (h : post (nI (fb_ct (fun y => decide (0 < bw_tot b y y 99)) 8))) : kX6_yearsWithShare S L post := by
  unfold kX6_yearsWithShare
  refine pk_loop (fun n i (s : Nat) => kX6_yearsWithShare_b4 S L post n (nI s) (nI i)) (fun i s => s = fb_ct (fun y => decide (0 < bw_tot b y y 99)) i) 8 0 0 (by decide) rfl ?_ ?_
  · intro n s hs
    unfold kX6_yearsWithShare_b4
    exact ⟨fun _ => by rw [hs]; exact h, fun z => absurd (by decide) z⟩
  · intro n i s hi hs hc
    have t1 := bw_tot_le hO i i 99
    unfold kX6_yearsWithShare_b4
    rw [nI_1, nI_1]
    refine pk_le 8 i (fun z => by omega) (fun _ => s_X5_sumSworn hX hO hi hi ⟨fun z => hc s ?_, fun z => hc (s + 1) ?_⟩)
    · have := (pk_lLE (b := 0) (by omega) (by decide)).mp z
      rw [fb_ct_succ, hs, decide_eq_false (by omega)]; rfl
    · have : ¬ bw_tot b i i 99 ≤ 0 := fun d => z ((pk_lLE (b := 0) (by omega) (by decide)).mpr d)
      rw [fb_ct_succ, hs, decide_eq_true (by omega)]; rfl
def ct_g (b : SN) (v : Int32) (w : Nat) : Bool := !decide (v ≤ 0) && (!decide ((4 : Int32) ≤ v) && decide (nI (bw_kind b w) = v))
def ct_h (b : SN) (v : Int32) (y : Nat) : Bool := (decide (v = 4) && decide (0 < bw_tot b y y 99)) || (decide (v = 5) && decide (b 12 y = 1))
def ct_r (b : SN) (v : Int32) : Int32 := if bw_in v 0 5 then (if v = 0 then nI (b 0 2) else nI (fb_ct (ct_g b v) (b 0 2) + fb_ct (ct_h b v) 8)) else -1
theorem s_X7_count {b : SN} (hM : bw_M M b) (hO : bw_ok b) (hK : bw_cok b) (hD : bw_CM N 12 13 0 0 b) {v : Int32} {post : Int32 → Prop} (h : post (ct_r b v)) : kX7_count M N v post := by
  have hn := bo_n hO
  unfold kX7_count
  refine pk_loop (fun n i (s : Nat) => kX7_count_b4 M N v post n (nI s) (nI i)) (fun i s => s = fb_ct (ct_g b v) i) (b 0 2) 0 0 (Nat.zero_le _) rfl ?_ ?_
  · intro n s hs
    unfold kX7_count_b4
    rw [bm_n hM]
    refine pk_le (b 0 2) (b 0 2) (fun _ => ?_) (fun z => by omega)
    refine pk_loop (fun n i (s' : Nat) => kX7_count_b46 M N v post n (nI s') (nI i)) (fun i s' => s' = s + fb_ct (ct_h b v) i) 8 0 s (by decide) rfl ?_ ?_
    · intro n s' hs'
      unfold kX7_count_b46
      rw [bm_n hM]
      refine ⟨fun _ => s_X7_wI 0 5 (bw_br (fun z => ?_) (fun z => ⟨fun e => ?_, fun e => ?_⟩)), fun z => absurd (by decide) z⟩
      · unfold ct_r at h; rw [z] at h; exact h
      · unfold ct_r at h; rw [if_pos z, if_pos e] at h; exact h
      · unfold ct_r at h; rw [if_pos z, if_neg e] at h; rw [hs', hs]; exact h
    · intro n i s' hi hs' hc
      have t1 := bw_tot_le hO i i 99
      have hb := hK i hi
      have hdd := hD i hi
      rw [Nat.zero_add] at hdd
      have b71 : ¬ (v = 4 ∧ 0 < bw_tot b i i 99) → kX7_count_b71 M N v post (kX7_count_b46 M N v post n) (nI i) (nI s') := by
        intro hno
        have hh : ct_h b v i = (decide (v = 5) && decide (b 12 i = 1)) := by
          unfold ct_h
          by_cases e4 : v = 4
          · rw [decide_eq_true e4, decide_eq_false (fun d => hno ⟨e4, d⟩)]; rfl
          · rw [decide_eq_false e4]; rfl
        unfold kX7_count_b71
        rw [nI_clamp (show i < 2 ^ 31 by omega), bw_iz, nI_1, nI_1]
        refine ⟨fun e5 => ⟨pk_in i 8 hi, fun z => hc s' ?_, fun z => hc (s' + 1) ?_⟩, fun e5 => hc s' ?_⟩
        · have z1 : ¬ b 12 i = 1 := by
            intro d
            rw [(hdd.1 d).2] at z
            have := (hb.2 d).2
            exact Nat.not_lt_zero _ ((pk_lLT (b := 0) (by omega) (by decide)).mp z)
          rw [fb_ct_succ, hh, decide_eq_false z1, Bool.and_false, hs']; rfl
        · have z1 : b 12 i = 1 := by
            by_cases d : b 12 i = 1
            · exact d
            · exact absurd (by rw [hdd.2 (by omega)]; decide) z
          rw [fb_ct_succ, hh, decide_eq_true z1, decide_eq_true e5, hs']; simp; omega
        · rw [fb_ct_succ, hh, decide_eq_false e5, hs']; rfl
      unfold kX7_count_b46
      rw [nI_1, nI_1]
      refine pk_le 8 i (fun z => by omega) (fun _ => ⟨fun e4 => s_X7_totalOf hM hO hi hi bw_none ⟨fun z => hc (s' + 1) ?_, fun z => b71 ?_⟩, fun e4 => b71 (fun d => e4 d.1)⟩)
      · have z1 := (pk_lLT (a := 0) (by decide) (by omega)).mp z
        rw [fb_ct_succ, hs', ct_h, decide_eq_true e4, decide_eq_true z1]; simp; omega
      · intro d
        exact z ((pk_lLT (a := 0) (by decide) (by omega)).mpr d.2)
  · intro n i s hi hs hc
    unfold kX7_count_b4
    rw [bm_n hM, bw_iz, nI_1, nI_1]
    refine pk_le (b 0 2) i (fun z => by omega) (fun _ => ⟨fun z => hc s ?_, fun z => ⟨fun z2 => hc s ?_, fun z2 => s_X7_kind hM hO hi ⟨fun z3 => hc (s + 1) ?_, fun z3 => hc s ?_⟩⟩⟩)
    · rw [fb_ct_succ, hs, ct_g, decide_eq_true z]; rfl
    · rw [fb_ct_succ, hs, ct_g, decide_eq_true z2]; simp
    · rw [fb_ct_succ, hs, ct_g, decide_eq_false z, decide_eq_false z2, decide_eq_true z3]; rfl
    · rw [fb_ct_succ, hs, ct_g, decide_eq_false z3]; simp
theorem ct_none {p : Nat → Bool} {n : Nat} (h : ∀ k, k < n → p k = false) : fb_ct p n = 0 := fb_ct_zero.mpr h
theorem ok_count (hR : bw_R S L M N) (a1 : Int32) : kX6_count S L a1 (fun r => kX7_count M N a1 (fun r' => r = r')) := by
  obtain ⟨⟨b, hO, hK, hX, hC, hM, hD⟩, hr⟩ := id hR
  have kk : ∀ w, bw_kind b w < 4 := fun w => by unfold bw_kind; split; omega; split; omega; split <;> omega
  have kind : ∀ k : Nat, 1 ≤ k → k ≤ 3 → kX5_howManyOfKind S L (nI k) (fun r56 => kX7_count M N (nI k) (fun r' => r56 = r')) := by
    intro k h1 h3
    refine s_X5_howManyOfKind hX hO (by omega) (s_X7_count hM hO hK hD ?_)
    have e1 : bw_in (nI k) 0 5 = true := by rw [show (5 : Int) = ((5 : Nat) : Int) from rfl, show (0 : Int) = ((0 : Nat) : Int) from rfl, bw_in_nI (by omega) 0 5, decide_eq_true (by omega), decide_eq_true (by omega)]; rfl
    unfold ct_r
    rw [if_pos e1, if_neg (nI_ne0 (by omega) (by omega)), ct_none (p := ct_h b (nI k)) (fun y _ => ?_)]
    · congr 1
      refine fb_ct_cong (fun w _ => ?_)
      have hw := kk w
      unfold ct_g
      have f1 : ¬ nI k ≤ 0 := nI_nle (by omega) (by omega)
      have f2 : ¬ (4 : Int32) ≤ nI k := fun d => by have := (nI_leI (a := 4) (b := k) (by omega) (by omega)).mp d; omega
      have f3 : (nI (bw_kind b w) = nI k) ↔ bw_kind b w = k := nI_eq (by omega) (by omega)
      simp only [f1, f2, f3, decide_false, Bool.not_false, Bool.true_and]
    · unfold ct_h
      have f1 : ¬ nI k = (4 : Int32) := fun d => by have := (nI_eq (a := k) (b := 4) (by omega) (by omega)).mp d; omega
      have f2 : ¬ nI k = (5 : Int32) := fun d => by have := (nI_eq (a := k) (b := 5) (by omega) (by omega)).mp d; omega
      simp only [f1, f2, decide_false, Bool.false_and, Bool.or_false]
  obtain ⟨t, ht1, ht2, ht3⟩ := hC.1
  unfold kX6_count
  refine ⟨fun e => ?_, fun e => ?_, fun e => ?_, fun e => ?_, fun e => ?_, fun e => ?_, fun e0 e1 e2 e3 e4 e5 => ?_⟩
  · subst e
    rw [bx_n hX]
    exact s_X7_count hM hO hK hD rfl
  · subst e; exact kind 1 (by decide) (by decide)
  · subst e; exact kind 2 (by decide) (by decide)
  · subst e; exact kind 3 (by decide) (by decide)
  · subst e
    refine s_X6_yearsWithShare hX hO (s_X7_count hM hO hK hD ?_)
    unfold ct_r
    rw [if_pos (show bw_in 4 0 5 = true from rfl), if_neg (by decide), ct_none (p := ct_g b 4) (fun w _ => by simp [ct_g]), Nat.zero_add]
    congr 1
    refine fb_ct_cong (fun y _ => ?_)
    unfold ct_h
    simp
  · subst e
    rw [ht2]
    refine s_J6_bitCount ht1 (s_X7_count hM hO hK hD ?_)
    unfold ct_r
    rw [if_pos (show bw_in 5 0 5 = true from rfl), if_neg (by decide), ct_none (p := ct_g b 5) (fun w _ => by simp [ct_g]), Nat.zero_add]
    congr 1
    refine fb_ct_cong (fun y hy => ?_)
    unfold ct_h
    rw [ht3 y hy]; simp
  · refine s_X7_count hM hO hK hD ?_
    unfold ct_r
    cases z : bw_in a1 0 5 with
    | false => rfl
    | true =>
      exfalso
      obtain ⟨k, hk, rfl⟩ := bw_in_t (n := 5) z
      rcases (show k = 0 ∨ k = 1 ∨ k = 2 ∨ k = 3 ∨ k = 4 ∨ k = 5 by omega) with rfl | rfl | rfl | rfl | rfl | rfl
      · exact e0 rfl
      · exact e1 rfl
      · exact e2 rfl
      · exact e3 rfl
      · exact e4 rfl
      · exact e5 rfl
end OPS
