/-! ===== calls, one by one: class and reference answer alike and stay alike ===== -/
theorem bw_in_w {v : Int32} {n : Nat} (h : bw_in v 0 ((n : Int) - 1) = true) : ∃ j : Nat, j < n ∧ v = nI j := by
  simp only [bw_in, Bool.and_eq_true, decide_eq_true_eq] at h
  have h0 : ¬ v < 0 := by rw [Int32.lt_iff_toInt_lt]; have e : (0 : Int32).toInt = 0 := rfl; omega
  obtain ⟨j, hj, rfl⟩ := nI_of h0
  rw [nI_toInt hj] at h
  exact ⟨j, by omega, rfl⟩
theorem s_X4_has {S : SX} {L : LX} {b : SN} (hB : bw_X 1 S b) (hO : bw_ok b) {v : Int32} {post : Int32 → Prop} (h : post (bw_i (bw_in v 0 ((b 0 2 : Int) - 1)))) : kX4_has S L v post := by
  have hn := bo_n hO
  unfold kX4_has
  rw [bx_n hB]
  unfold bw_in at h
  refine ⟨fun q => ?_, fun q => ?_⟩
  · rw [Int32.lt_iff_toInt_lt] at q
    have e : (0 : Int32).toInt = 0 := rfl
    rw [decide_eq_false (by omega)] at h; exact h
  · obtain ⟨j, hj, rfl⟩ := nI_of q
    rw [nI_toInt hj] at h
    refine pk_le (b 0 2) j (fun z => ?_) (fun z => ?_)
    · rw [decide_eq_true (by omega), decide_eq_false (by omega)] at h; exact h
    · rw [decide_eq_true (by omega), decide_eq_true (by omega)] at h; exact h
theorem s_X7_isWill {S : SX} {L : LX} {b : SN} (hB : bw_M S b) (hO : bw_ok b) {v : Int32} {post : Int32 → Prop} (h : post (bw_i (bw_in v 0 ((b 0 2 : Int) - 1)))) : kX7_isWill S L v post := by
  have hn := bo_n hO
  unfold kX7_isWill
  rw [bm_n hB]
  refine s_X7_wI 0 ((b 0 2 : Int) - 1) ⟨bw_i01 _, h⟩ rfl ?_
  rw [bw_wide, show (1 : Int32) = nI 1 from rfl, pk_sub_toInt (by omega) (by omega)]
  rfl
theorem bq_f {c : Bool} {A B : Prop} (q : c = false) (h : A) : (bw_i c = 0 → A) ∧ (¬ bw_i c = 0 → B) := by rw [q]; exact bf_f h
theorem bq_t {c : Bool} {A B : Prop} (q : c = true) (h : B) : (bw_i c = 0 → A) ∧ (¬ bw_i c = 0 → B) := by rw [q]; exact bf_t h
section OPS
variable {S M : SX} {L N : LX}
theorem ok_lives (hR : bw_R S L M N) (a1 a2 : Int32) : kX6_lives S L a1 a2 (fun r S1 => kX7_lives M N a1 a2 (fun r' M1 => r = r' ∧ bw_R S1 L M1 N)) := by
  obtain ⟨⟨b, hm⟩, hr⟩ := id hR
  unfold kX6_lives kX7_lives
  refine s_X6_wI 0 5 (bw_br (fun q => s_X7_wI 0 5 (bq_f q ⟨rfl, hR⟩)) (fun q => s_X6_wI 1 400 (bw_br (fun q2 => s_X7_wI 0 5 (bq_t q (s_X7_wI 1 400 (bq_f q2 ⟨rfl, hR⟩)))) (fun q2 => ?_))))
  obtain ⟨j, hj, rfl⟩ := bw_in_t (n := 5) q
  obtain ⟨v, hv1, hv2, rfl⟩ := bw_in_t1 (n := 400) q2
  rw [nI_clamp (show j < 2 ^ 31 by omega)]
  refine ⟨pk_in j 6 (by omega), pk_in j 6 (by omega), s_X7_wI 0 5 (bq_t q (s_X7_wI 1 400 (bq_t q2 ⟨pk_in j 6 (by omega), pk_in j 6 (by omega), ?_, bw_R_set hm hr (k := 1) (by decide) (by decide) hv1 hv2⟩)))⟩
  rw [bx_lives hm.2.2.1 (by omega), bm_lives hm.2.2.2.2.1 (by omega)]
theorem ok_set (hR : bw_R S L M N) (a1 a2 : Int32) : kX6_set S L a1 a2 (fun r S1 => kX7_set M N a1 a2 (fun r' M1 => r = r' ∧ bw_R S1 L M1 N)) := by
  obtain ⟨⟨b, hm⟩, hr⟩ := id hR
  have hX := hm.2.2.1
  have hM := hm.2.2.2.2.1
  unfold kX6_set
  refine ⟨fun e => ?_, fun e => ?_⟩
  · subst e
    have h34 : bw_in a2 0 99999 = false → kX6_set_b34 L 0 a2 (fun r S1 => kX7_set M N 0 a2 (fun r' M1 => r = r' ∧ bw_R S1 L M1 N)) S := by
      intro q
      unfold kX6_set_b34
      refine ⟨fun z => absurd z (by decide), fun _ => ?_⟩
      unfold kX7_set kX7_set_b26
      exact s_X7_wI 0 1 (bf_t ⟨fun _ => s_X7_wI 0 99999 (bq_f q ⟨rfl, hR⟩), fun z => absurd rfl z⟩)
    refine s_X6_wI 0 99999 (bw_br h34 (fun q => ?_))
    obtain ⟨v, hv, rfl⟩ := bw_in_t (n := 99999) q
    unfold kX7_set kX7_set_b26 kX7_set_b49
    refine s_X7_wI 0 1 (bf_t ⟨fun _ => s_X7_wI 0 99999 (bq_t q ⟨fun _ => ⟨fun _ => ⟨?_, bw_R_set0 hm hr (by decide) (fun _ => hv) (fun z => absurd z (by decide))⟩, fun z => absurd rfl z⟩, fun z => absurd rfl z⟩), fun z => absurd rfl z⟩)
    rw [bx_rich hX, bm_rich hM]
  · unfold kX6_set_b34
    refine ⟨fun e1 => ?_, fun e1 => ?_⟩
    · subst e1
      refine s_X6_wI 0 100 (bw_br (fun q => ?_) (fun q => ?_))
      · unfold kX7_set kX7_set_b26
        exact s_X7_wI 0 1 (bf_t ⟨fun z => absurd z e, fun _ => s_X7_wI 0 100 (bq_f q ⟨rfl, hR⟩)⟩)
      · obtain ⟨v, hv, rfl⟩ := bw_in_t (n := 100) q
        unfold kX7_set kX7_set_b26 kX7_set_b49
        refine s_X7_wI 0 1 (bf_t ⟨fun z => absurd z e, fun _ => s_X7_wI 0 100 (bq_t q ⟨fun z => absurd z e, fun _ => ⟨fun z => absurd z e, fun _ => ⟨?_, bw_R_set0 hm hr (by decide) (fun z => absurd z (by decide)) (fun _ => hv)⟩⟩⟩)⟩)
        rw [bx_more hX, bm_more hM]
    · unfold kX7_set
      refine s_X7_wI 0 1 (bw_br (fun _ => ⟨rfl, hR⟩) (fun q => ?_))
      exfalso
      obtain ⟨v, hv, rfl⟩ := bw_in_t (n := 1) q
      rcases (show v = 0 ∨ v = 1 by omega) with rfl | rfl
      · exact e rfl
      · exact e1 rfl
theorem ok_had (hR : bw_R S L M N) (a1 a2 a3 : Int32) : kX6_had S L a1 a2 a3 (fun r S1 => kX7_had M N a1 a2 a3 (fun r' M1 => r = r' ∧ bw_R S1 L M1 N)) := by
  obtain ⟨⟨b, hm⟩, hr⟩ := id hR
  have hX := hm.2.2.1
  have hM := hm.2.2.2.2.1
  have hO := hm.1
  have hn := bo_n hO
  unfold kX6_had kX7_had
  refine s_X4_has hX hO (bw_br (fun q => s_X7_isWill hM hO (bq_f q ⟨rfl, hR⟩)) (fun q => s_X6_wI 0 3 (bw_br (fun q2 => s_X7_isWill hM hO (bq_t q (s_X7_wI 0 3 (bq_f q2 ⟨rfl, hR⟩)))) (fun q2 => s_X6_wI 0 9999 (bw_br (fun q3 => s_X7_isWill hM hO (bq_t q (s_X7_wI 0 3 (bq_t q2 (s_X7_wI 0 9999 (bq_f q3 ⟨rfl, hR⟩)))))) (fun q3 => ?_))))))
  obtain ⟨w, hw, rfl⟩ := bw_in_w q
  obtain ⟨k, hk, rfl⟩ := bw_in_t (n := 3) q2
  obtain ⟨v, hv, rfl⟩ := bw_in_t (n := 9999) q3
  have e1 : nI w * (4 : Int32) + nI k = nI (4 * w + k) := by rw [show (4 : Int32) = nI 4 from rfl, pk_mul, nI_add, Nat.mul_comm]
  have e2 : (4 : Int32) * nI w + nI k = nI (4 * w + k) := by rw [show (4 : Int32) = nI 4 from rfl, pk_mul, nI_add]
  rw [e1, e2, nI_clamp (show 4 * w + k < 2 ^ 31 by omega)]
  refine ⟨pk_in (4 * w + k) 96 (by omega), pk_in (4 * w + k) 96 (by omega), s_X7_isWill hM hO (bq_t q (s_X7_wI 0 3 (bq_t q2 (s_X7_wI 0 9999 (bq_t q3 ⟨pk_in (4 * w + k) 96 (by omega), pk_in (4 * w + k) 96 (by omega), ?_, bw_R_set hm hr (k := 5) (by decide) (by decide) (Nat.zero_le _) hv⟩)))))⟩
  rw [bx_had hX (by omega), bm_had hM (by omega)]
theorem ok_rule (hR : bw_R S L M N) (a1 a2 : Int32) : kX6_rule S L a1 a2 (fun r => kX7_rule M N a1 a2 (fun r' => r = r')) := by
  obtain ⟨⟨b, hm⟩, hr⟩ := id hR
  have hX := hm.2.2.1
  have hM := hm.2.2.2.2.1
  unfold kX6_rule kX7_rule
  refine s_X6_isYear (bw_br (fun q => s_X7_isYear (bq_f q rfl)) (fun q => ?_))
  obtain ⟨y, hy, rfl⟩ := bw_in_t (n := 7) q
  have go : ∀ {A B : Prop}, B → ((bw_i (bw_in (nI y) 0 7) = 0 → A) ∧ (¬ bw_i (bw_in (nI y) 0 7) = 0 → B)) := fun h => bq_t q h
  rw [nI_clamp (show y < 2 ^ 31 by omega), bx_floor hX (by omega), bx_line hX (by omega), bx_keen hX (by omega), bx_marks hX (by omega), bm_floor hM (by omega), bm_line hM (by omega), bm_keen hM (by omega), bm_marks hM (by omega)]
  have hi := pk_in (x := nI y) y 8 (by omega)
  refine ⟨fun e => ⟨hi, ?_⟩, fun e => ⟨hi, ?_⟩, fun e => ⟨hi, ?_⟩, fun e => ⟨hi, ?_⟩, fun e0 e1 e2 e3 => ?_⟩
  · subst e; exact s_X7_isYear (go (s_X7_wI 0 3 (bf_t ⟨fun _ => ⟨hi, rfl⟩, fun z => absurd rfl z⟩)))
  · subst e; exact s_X7_isYear (go (s_X7_wI 0 3 (bf_t ⟨fun z => absurd z (by decide), fun _ => ⟨fun _ => ⟨hi, rfl⟩, fun z => absurd rfl z⟩⟩)))
  · subst e; exact s_X7_isYear (go (s_X7_wI 0 3 (bf_t ⟨fun z => absurd z (by decide), fun _ => ⟨fun z => absurd z (by decide), fun _ => ⟨fun _ => ⟨hi, rfl⟩, fun z => absurd rfl z⟩⟩⟩)))
  · subst e; exact s_X7_isYear (go (s_X7_wI 0 3 (bf_t ⟨fun z => absurd z (by decide), fun _ => ⟨fun z => absurd z (by decide), fun _ => ⟨fun z => absurd z (by decide), fun _ => ⟨hi, rfl⟩⟩⟩⟩)))
  · refine s_X7_isYear (go (s_X7_wI 0 3 (bw_br (fun _ => rfl) (fun z => ?_))))
    exfalso
    obtain ⟨k, hk, rfl⟩ := bw_in_t (n := 3) z
    rcases (show k = 0 ∨ k = 1 ∨ k = 2 ∨ k = 3 by omega) with rfl | rfl | rfl | rfl
    · exact e0 rfl
    · exact e1 rfl
    · exact e2 rfl
    · exact e3 rfl
theorem ok_people (hR : bw_R S L M N) (a1 a2 a3 : Int32) : kX6_people S L a1 a2 a3 (fun r S1 => kX7_people M N a1 a2 a3 (fun r' M1 => r = r' ∧ bw_R S1 L M1 N)) := by
  obtain ⟨⟨b, hm⟩, hr⟩ := id hR
  have hX := hm.2.2.1
  have hM := hm.2.2.2.2.1
  unfold kX6_people
  refine s_X6_isYear (bw_br (fun q => ?_) (fun q => ?_))
  · unfold kX7_people; exact s_X7_isYear (bq_f q ⟨rfl, hR⟩)
  obtain ⟨y, hy, rfl⟩ := bw_in_t (n := 7) q
  have go : ∀ {A B : Prop}, B → ((bw_i (bw_in (nI y) 0 7) = 0 → A) ∧ (¬ bw_i (bw_in (nI y) 0 7) = 0 → B)) := fun h => bq_t q h
  have hi := pk_in (x := nI y) y 8 (by omega)
  have hcl := nI_clamp (show y < 2 ^ 31 by omega)
  refine ⟨fun e => ?_, fun e => ?_⟩
  · subst e
    refine s_X6_wI 1 999999 (bw_br (fun q2 => ?_) (fun q2 => ?_))
    · unfold kX6_people_b49
      refine ⟨fun z => absurd z (by decide), fun _ => ?_⟩
      unfold kX7_people kX7_people_b33
      exact s_X7_isYear (go (s_X7_wI 0 1 (bf_t ⟨fun _ => s_X7_wI 1 999999 (bq_f q2 ⟨rfl, hR⟩), fun z => absurd rfl z⟩)))
    · obtain ⟨v, hv1, hv2, rfl⟩ := bw_in_t1 (n := 999999) q2
      rw [hcl]
      refine ⟨hi, hi, ?_⟩
      unfold kX7_people kX7_people_b33 kX7_people_b60
      rw [hcl]
      refine s_X7_isYear (go (s_X7_wI 0 1 (bf_t ⟨fun _ => s_X7_wI 1 999999 (bq_t q2 ⟨fun _ => ⟨hi, fun _ => ⟨hi, ?_, bw_R_set hm hr (k := 10) (by decide) (by decide) hv1 hv2⟩, fun z => absurd rfl z⟩, fun z => absurd rfl z⟩), fun z => absurd rfl z⟩)))
      rw [bx_people hX (by omega), bm_people hM (by omega)]
  · unfold kX6_people_b49
    refine ⟨fun e1 => ?_, fun e1 => ?_⟩
    · subst e1
      refine s_X6_wI 1 999 (bw_br (fun q2 => ?_) (fun q2 => ?_))
      · unfold kX7_people kX7_people_b33
        exact s_X7_isYear (go (s_X7_wI 0 1 (bf_t ⟨fun z => absurd z e, fun _ => s_X7_wI 1 999 (bq_f q2 ⟨rfl, hR⟩)⟩)))
      · obtain ⟨v, hv1, hv2, rfl⟩ := bw_in_t1 (n := 999) q2
        rw [hcl]
        refine ⟨hi, hi, ?_⟩
        unfold kX7_people kX7_people_b33 kX7_people_b60
        rw [hcl]
        refine s_X7_isYear (go (s_X7_wI 0 1 (bf_t ⟨fun z => absurd z e, fun _ => s_X7_wI 1 999 (bq_t q2 ⟨fun z => absurd z e, fun _ => ⟨hi, fun z => absurd z e, fun _ => ⟨hi, ?_, bw_R_set hm hr (k := 11) (by decide) (by decide) hv1 hv2⟩⟩⟩)⟩)))
        rw [bx_prices hX (by omega), bm_prices hM (by omega)]
    · unfold kX7_people
      refine s_X7_isYear (go (s_X7_wI 0 1 (bw_br (fun _ => ⟨rfl, hR⟩) (fun z => ?_))))
      exfalso
      obtain ⟨k, hk, rfl⟩ := bw_in_t (n := 1) z
      rcases (show k = 0 ∨ k = 1 by omega) with rfl | rfl
      · exact e rfl
      · exact e1 rfl
theorem ok_told (hR : bw_R S L M N) (a1 a2 : Int32) : kX6_told S L a1 a2 (fun r => kX7_told M N a1 a2 (fun r' => r = r')) := by
  obtain ⟨⟨b, hm⟩, hr⟩ := id hR
  have hX := hm.2.2.1
  have hM := hm.2.2.2.2.1
  have hO := hm.1
  have hn := bo_n hO
  unfold kX6_told kX7_told
  refine s_X4_has hX hO (bw_br (fun q => s_X7_isWill hM hO (bq_f q rfl)) (fun q => ?_))
  obtain ⟨w, hw, rfl⟩ := bw_in_w q
  have hyw := bo_year hO hw
  have go : ∀ {A B : Prop}, B → ((bw_i (bw_in (nI w) 0 ((b 0 2 : Int) - 1)) = 0 → A) ∧ (¬ bw_i (bw_in (nI w) 0 ((b 0 2 : Int) - 1)) = 0 → B)) := fun h => bq_t q h
  have hi := pk_in (x := nI w) w 24 (by omega)
  have ab : ∀ {A : Prop} {k c : Nat}, k < 100 → c < 100 → k ≠ c → nI k = nI c → A := fun h1 h2 h3 h4 => absurd ((nI_eq (by omega) (by omega)).mp h4) h3
  rw [nI_clamp (show w < 2 ^ 31 by omega), bx_year hX hw, bx_age hX hw, bx_sex hX hw, bm_year hM hw, bm_age hM hw, bm_sex hM hw]
  refine ⟨hi, fun e => ?_, fun e => ⟨hi, ?_⟩, fun e => ⟨hi, ?_⟩, fun e => s_X5_seen hX hO hw (by omega) ?_, fun e => s_X5_sworn hX hO hw (by omega) ?_, fun e => s_X5_isInBook hX hO hw (by omega) ?_, fun e => s_X5_weight hX hO hw (by omega) ?_, fun e => s_X5_kind hX hO hw ?_, fun e0 e1 e2 e3 e4 e5 e6 e7 => ?_⟩
  · subst e
    exact s_X7_isWill hM hO (go (s_X7_wI 0 7 (bf_t ⟨hi, fun _ => rfl, fun z => absurd z (by decide), fun z => absurd z (by decide), fun z => absurd z (by decide), fun z => absurd z (by decide), fun z => absurd z (by decide), fun z => absurd z (by decide), fun z => absurd rfl z⟩)))
  · subst e
    exact s_X7_isWill hM hO (go (s_X7_wI 0 7 (bf_t ⟨hi, fun z => absurd z (by decide), fun _ => ⟨hi, rfl⟩, fun z => absurd z (by decide), fun z => absurd z (by decide), fun z => absurd z (by decide), fun z => absurd z (by decide), fun z => absurd z (by decide), fun _ z => absurd rfl z⟩)))
  · subst e
    exact s_X7_isWill hM hO (go (s_X7_wI 0 7 (bf_t ⟨hi, fun z => absurd z (by decide), fun z => absurd z (by decide), fun _ => ⟨hi, rfl⟩, fun z => absurd z (by decide), fun z => absurd z (by decide), fun z => absurd z (by decide), fun z => absurd z (by decide), fun _ _ z => absurd rfl z⟩)))
  · subst e
    exact s_X7_isWill hM hO (go (s_X7_wI 0 7 (bf_t ⟨hi, fun z => absurd z (by decide), fun z => absurd z (by decide), fun z => absurd z (by decide), fun _ => s_X7_seen hM hO hw (by omega) rfl, fun z => absurd z (by decide), fun z => absurd z (by decide), fun z => absurd z (by decide), fun _ _ _ z => absurd rfl z⟩)))
  · subst e
    exact s_X7_isWill hM hO (go (s_X7_wI 0 7 (bf_t ⟨hi, fun z => absurd z (by decide), fun z => absurd z (by decide), fun z => absurd z (by decide), fun z => absurd z (by decide), fun _ => s_X7_sworn hM hO hw (by omega) rfl, fun z => absurd z (by decide), fun z => absurd z (by decide), fun _ _ _ _ z => absurd rfl z⟩)))
  · subst e
    exact bw_br (fun q5 => s_X7_isWill hM hO (go (s_X7_wI 0 7 (bf_t ⟨hi, fun z => absurd z (by decide), fun z => absurd z (by decide), fun z => absurd z (by decide), fun z => absurd z (by decide), fun z => absurd z (by decide), fun _ => s_X7_isBooked hM hO hw (by omega) (bq_f q5 rfl), fun z => absurd z (by decide), fun _ _ _ _ _ z => absurd rfl z⟩)))) (fun q5 => s_X7_isWill hM hO (go (s_X7_wI 0 7 (bf_t ⟨hi, fun z => absurd z (by decide), fun z => absurd z (by decide), fun z => absurd z (by decide), fun z => absurd z (by decide), fun z => absurd z (by decide), fun _ => s_X7_isBooked hM hO hw (by omega) (bq_t q5 rfl), fun z => absurd z (by decide), fun _ _ _ _ _ z => absurd rfl z⟩))))
  · subst e
    exact s_X7_isWill hM hO (go (s_X7_wI 0 7 (bf_t ⟨hi, fun z => absurd z (by decide), fun z => absurd z (by decide), fun z => absurd z (by decide), fun z => absurd z (by decide), fun z => absurd z (by decide), fun z => absurd z (by decide), fun _ => s_X7_weight hM hO hw (by omega) rfl, fun _ _ _ _ _ _ z => absurd rfl z⟩)))
  · subst e
    exact s_X7_isWill hM hO (go (s_X7_wI 0 7 (bf_t ⟨hi, fun z => absurd z (by decide), fun z => absurd z (by decide), fun z => absurd z (by decide), fun z => absurd z (by decide), fun z => absurd z (by decide), fun z => absurd z (by decide), fun z => absurd z (by decide), fun _ _ _ _ _ _ _ => s_X7_kind hM hO hw rfl⟩)))
  · refine s_X7_isWill hM hO (go (s_X7_wI 0 7 (bw_br (fun _ => rfl) (fun z => ?_))))
    exfalso
    obtain ⟨k, hk, rfl⟩ := bw_in_t (n := 7) z
    rcases (show k = 0 ∨ k = 1 ∨ k = 2 ∨ k = 3 ∨ k = 4 ∨ k = 5 ∨ k = 6 ∨ k = 7 by omega) with rfl | rfl | rfl | rfl | rfl | rfl | rfl | rfl
    · exact e0 rfl
    · exact e1 rfl
    · exact e2 rfl
    · exact e3 rfl
    · exact e4 rfl
    · exact e5 rfl
    · exact e6 rfl
    · exact e7 rfl
theorem ok_total (hR : bw_R S L M N) (a1 a2 : Int32) : kX6_total S L a1 a2 (fun r => kX7_total M N a1 a2 (fun r' => r = r')) := by
  obtain ⟨⟨b, hm⟩, hr⟩ := id hR
  have hX := hm.2.2.1
  have hM := hm.2.2.2.2.1
  have hO := hm.1
  unfold kX6_total kX7_total
  refine s_X6_isYear (bw_br (fun q => s_X7_isYear (bq_f q rfl)) (fun q => s_X6_wI 0 1 (bw_br (fun q2 => s_X7_isYear (bq_t q (s_X7_wI 0 1 (bq_f q2 rfl)))) (fun q2 => ?_))))
  obtain ⟨y, hy, rfl⟩ := bw_in_t (n := 7) q
  refine ⟨fun e => s_X5_sumSworn hX hO (by omega) (by omega) ?_, fun e => s_X5_sumUnseen hX hO (by omega) ?_⟩
  · exact s_X7_isYear (bq_t q (s_X7_wI 0 1 (bq_t q2 ⟨fun _ => s_X7_totalOf hM hO (by omega) (by omega) bw_none rfl, fun z => absurd e z⟩)))
  · exact s_X7_isYear (bq_t q (s_X7_wI 0 1 (bq_t q2 ⟨fun z => absurd z e, fun _ => s_X7_unseen hM hO (by omega) rfl⟩)))
end OPS
