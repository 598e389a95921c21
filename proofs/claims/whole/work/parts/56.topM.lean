/-! ===== the top: the reference's choice of the best, again and again ===== -/
def tm_e (o : Option Nat) : Int32 := match o with
  | none => -4
  | some c => nI c
/-- the best so far among those from k on -/
def tm_J (f : Nat → Nat) (D : List Nat) (k : Nat) (o : Option Nat) : Prop := match o with
  | none => ∀ x, k ≤ x → x ∉ D
  | some c => k ≤ c ∧ c ∈ D ∧ ∀ x, k ≤ x → x ∈ D → x ≠ c → ls_prec f c x
theorem tm_e_neg {o : Option Nat} (h : ∀ c, o = some c → c < 24) : tm_e o < 0 ↔ o = none := by
  cases o with
  | none => exact ⟨fun _ => rfl, fun _ => by decide⟩
  | some c =>
    have hc := h c rfl
    exact ⟨fun q => absurd q (nI_pos (by omega)), fun q => by cases q⟩
theorem tm_pm (x : Int32) : x + (-1 : Int32) = x - 1 := by rw [Int32.sub_eq_add_neg]
section TOPM
variable {S : SX} {L : LX} {b : SN} {y r q wo : Nat} {v : Int32} {post : Int64 → Prop}
/-- the inner loop -/
theorem tm_inner (hB : bw_M S b) (hO : bw_ok b) (hy : y < 8) (hr : r < 8) (hv : ∀ w, w < 24 → (nI w = v ↔ w = wo)) {room sum d t : Nat} (hd : d < 2 ^ 24) (ht : t ≤ (bw_lw b y r wo).length) (hbit : ∀ k, k < 24 → d.testBit k = decide (k ∈ (bw_lw b y r wo).take t)) {K : Int64 → Int64 → Int32 → Int32 → Prop}
    (fin : ∀ o : Option Nat, tm_J (fun w => bw_sworn b w r) ((bw_lw b y r wo).drop t) 0 o → (tm_e o < 0 → kX7_topOf_b147 S L (nI y) (nI r) (nI q) v post K (lN room) (lN sum) (nI d) (tm_e o) (0 : Int32)) ∧ (¬ tm_e o < 0 → kX7_topOf_b147 S L (nI y) (nI r) (nI q) v post K (lN room) (lN sum) (nI d) (tm_e o) (1 : Int32))) :
    ∃ n45 : Nat, kX7_topOf_b45 S L (nI y) (nI r) (nI q) v post K n45 (lN room) (lN sum) (nI d) (-4 : Int32) ((S 0 2) - (1 : Int32)) := by
  have hn := bo_n hO
  rw [bm_n hB]
  have hnd : (bw_lw b y r wo).Nodup := (bw_lw_sorted b y r wo).imp (fun h e => by subst e; exact ls_irrefl h)
  have hcand : ∀ x, x < 24 → (x ∈ (bw_lw b y r wo).drop t ↔ x ∈ bw_lw b y r wo ∧ d.testBit x = false) := by
    intro x hx
    rw [hbit x hx, decide_eq_false_iff_not]
    have e : x ∈ bw_lw b y r wo ↔ x ∈ (bw_lw b y r wo).take t ∨ x ∈ (bw_lw b y r wo).drop t := by rw [← List.mem_append, List.take_append_drop]
    rw [← List.take_append_drop t (bw_lw b y r wo), List.nodup_append] at hnd
    constructor
    · intro h
      exact ⟨e.mpr (Or.inr h), fun h2 => hnd.2.2 x h2 x h rfl⟩
    · rintro ⟨h1, h2⟩
      rcases e.mp h1 with h | h
      · exact absurd h h2
      · exact h
  refine ⟨_, pk_loopD (σ := Option Nat) (fun n i o => kX7_topOf_b45 S L (nI y) (nI r) (nI q) v post K n (lN room) (lN sum) (nI d) (tm_e o) (nI i - (1 : Int32))) (fun i o => i ≤ b 0 2 ∧ (∀ c, o = some c → c < b 0 2) ∧ tm_J (fun w => bw_sworn b w r) ((bw_lw b y r wo).drop t) i o) ?_ ?_ (b 0 2) none ⟨Nat.le_refl _, (fun c h => by cases h), (fun x h1 h2 => absurd (bw_lw_mem.mp (List.mem_of_mem_drop h2)).1 (by omega))⟩⟩
  · rintro n o ⟨-, -, hj⟩
    unfold kX7_topOf_b45
    refine ⟨fun _ => fin o hj, fun z => absurd (by decide) z⟩
  · rintro n i o ⟨hi, ho, hj⟩ hc
    have hi2 : i < b 0 2 := hi
    have hyi := bo_year hO hi2
    have skip : i ∉ (bw_lw b y r wo).drop t → kX7_topOf_b45 S L (nI y) (nI r) (nI q) v post K n (lN room) (lN sum) (nI d) (tm_e o) (nI i - (1 : Int32)) := by
      intro hno
      refine hc o ⟨by omega, ho, ?_⟩
      cases o with
      | none =>
        intro x hx hD
        by_cases e : x = i
        · rw [e] at hD; exact hno hD
        · exact hj x (by omega) hD
      | some c =>
        refine ⟨by have := hj.1; omega, hj.2.1, fun x hx hD hne => ?_⟩
        by_cases e : x = i
        · rw [e] at hD; exact absurd hD hno
        · exact hj.2.2 x (by omega) hD hne
    have no92 : i ∉ (bw_lw b y r wo).drop t → kX7_topOf_b92 S L (nI y) (nI r) (nI q) v post (kX7_topOf_b93 S L (nI y) (nI r) (nI q) v post (kX7_topOf_b45 S L (nI y) (nI r) (nI q) v post K n)) (lN room) (lN sum) (nI d) (tm_e o) (nI i) := by
      intro hno
      unfold kX7_topOf_b92 kX7_topOf_b93
      rw [tm_pm]
      exact ⟨fun _ => skip hno, fun z => absurd rfl z⟩
    unfold kX7_topOf_b45
    rw [nI_pred, nI_clamp (show i < 2 ^ 31 by omega), bm_year hB hi2]
    refine ⟨fun z => absurd z (nI_pos (by omega)), fun _ => ⟨pk_in i 24 (by omega), pk_eq (b 2 i) y (fun q1 => ⟨fun q2 => no92 (fun hD => ?_), fun q2 => ⟨fun q3 => s_X7_isBooked hB hO hi2 hr (bw_br (fun q4 => no92 (fun hD => ?_)) (fun q4 => ?_)), fun q3 => no92 (fun hD => ?_)⟩⟩) (fun q1 => no92 (fun hD => ?_))⟩⟩
    · exact (bw_lw_mem.mp (List.mem_of_mem_drop hD)).2.2.2 ((hv i (by omega)).mp q2)
    · have := (bw_lw_mem.mp (List.mem_of_mem_drop hD)).2.2.1
      rw [q4] at this; cases this
    · have hD : i ∈ (bw_lw b y r wo).drop t := (hcand i (by omega)).mpr ⟨bw_lw_mem.mpr ⟨hi2, q1, q4, fun e => q2 ((hv i (by omega)).mpr e)⟩, (bt_0 (by omega) (by omega)).mp q3⟩
      have take : (∀ c, o = some c → bw_sworn b c r ≤ bw_sworn b i r) → kX7_topOf_b45 S L (nI y) (nI r) (nI q) v post K n (lN room) (lN sum) (nI d) (nI i) (nI i - (1 : Int32)) := by
        intro hle
        refine hc (some i) ⟨by omega, (fun c h => by cases h; exact hi2), Nat.le_refl _, hD, fun x hx hxD hne => ?_⟩
        cases o with
        | none => exact absurd hxD (hj x (by omega))
        | some c =>
          have h1 := hle c rfl
          by_cases e : x = c
          · subst e
            unfold ls_prec
            dsimp only
            omega
          · have h2 := hj.2.2 x (by omega) hxD e
            unfold ls_prec at h2 ⊢
            dsimp only at h2 ⊢
            omega
      unfold kX7_topOf_b93
      rw [tm_pm]
      refine ⟨fun z => absurd z (by decide), fun _ => ⟨fun z => take (fun c h => ?_), fun z => ?_⟩⟩
      · have := (tm_e_neg (o := o) (fun c h => by have := ho c h; omega)).mp z
        rw [this] at h; cases h
      · cases o with
        | none => exact absurd (by decide) z
        | some c =>
          have hc2 := ho c rfl
          have l1 := bw_sworn_le hO (y := r) hi2
          have l2 := bw_sworn_le hO (y := r) hc2
          refine s_X7_sworn hB hO hi2 hr (s_X7_sworn hB hO hc2 hr (pk_lt (bw_sworn b i r) (bw_sworn b c r) (fun z2 => ?_) (fun z2 => take (fun c2 h => by cases h; exact z2))))
          refine hc (some c) ⟨by omega, ho, by have := hj.1; omega, hj.2.1, fun x hx hxD hne => ?_⟩
          by_cases e : x = i
          · subst e; exact Or.inl z2
          · exact hj.2.2 x (by omega) hxD hne
    · have h3 := ((hcand i (by omega)).mp hD).2
      exact q3 ((bt_0 (by omega) (by omega)).mpr h3)
    · exact q1 (bw_lw_mem.mp (List.mem_of_mem_drop hD)).2.1
theorem tm_outer (hB : bw_M S b) (hO : bw_ok b) (hy : y < 8) (hr : r < 8) (hv : ∀ w, w < 24 → (nI w = v ↔ w = wo)) (h : post (lN (bw_top b y r q wo))) : ∀ (m t room sum d : Nat), (bw_lw b y r wo).length - t = m → t ≤ (bw_lw b y r wo).length → room ≤ 1000 * 999999 → sum + ls_top (fun w => bw_sworn b w r) (fun w => bw_weight b w r) ((bw_lw b y r wo).drop t) room = bw_top b y r q wo → d < 2 ^ 24 → (∀ k, k < 24 → d.testBit k = decide (k ∈ (bw_lw b y r wo).take t)) → ∃ n, kX7_topOf_b21 S L (nI y) (nI r) (nI q) v post n (lN room) (lN sum) (nI d) (1 : Int32) := by
  have hn := bo_n hO
  have htt := bw_tot_le hO y r wo
  have ht2 := bw_top_le b y r q wo
  intro m
  induction m with
  | zero =>
    intro t room sum d hm ht hroom hsum hd hbit
    have et : (bw_lw b y r wo).drop t = [] := by rw [List.drop_eq_nil_iff]; omega
    rw [et] at hsum
    have hs : sum = bw_top b y r q wo := hsum
    refine ⟨2, ?_⟩
    unfold kX7_topOf_b21
    refine ⟨fun z => absurd z (by decide), fun _ => ⟨fun _ => by rw [hs]; exact h, fun z => tm_inner hB hO hy hr hv hd ht hbit (fun o ho => ?_)⟩⟩
    rw [et] at ho
    have eo : o = none := by
      cases o with
      | none => rfl
      | some c => exact absurd ho.2.1 List.not_mem_nil
    subst eo
    refine ⟨fun _ => ?_, fun z2 => absurd (by decide) z2⟩
    unfold kX7_topOf_b147
    refine ⟨fun _ => ?_, fun z2 => absurd rfl z2⟩
    unfold kX7_topOf_b170
    refine ⟨fun z2 => absurd z2 z, fun _ => ?_⟩
    unfold kX7_topOf_b187
    refine ⟨fun _ => ?_, fun z2 => absurd rfl z2⟩
    unfold kX7_topOf_b211
    refine ⟨fun _ => ?_, fun z2 => absurd rfl z2⟩
    unfold kX7_topOf_b21
    refine ⟨fun _ => ?_, fun z2 => absurd rfl z2⟩
    rw [bw_lz, hs]
    exact h
  | succ m ih =>
    intro t room sum d hm ht hroom hsum hd hbit
    by_cases hr0 : room = 0
    · refine ⟨1, ?_⟩
      unfold kX7_topOf_b21
      refine ⟨fun z => absurd z (by decide), fun _ => ⟨fun _ => ?_, fun z => absurd (by rw [hr0]; decide) z⟩⟩
      rw [hr0, ls_top_zero] at hsum
      rw [show sum = bw_top b y r q wo from hsum]
      exact h
    · have htl : t < (bw_lw b y r wo).length := by omega
      have ec := ls_drop htl
      generalize hx : (bw_lw b y r wo)[t] = c at ec
      have hcm : c ∈ bw_lw b y r wo := by rw [← hx]; exact List.getElem_mem htl
      have hcn := (bw_lw_mem.mp hcm).1
      have l1 := bw_sworn_le hO (y := r) hcn
      have l2 := bw_weight_le hO (y := r) hcn
      rw [ec, ls_top] at hsum
      have et : (bw_lw b y r wo).take (t + 1) = (bw_lw b y r wo).take t ++ [c] := by rw [List.take_succ, List.getElem?_eq_getElem htl, hx]; rfl
      obtain ⟨n, hn2⟩ := ih (t + 1) (room - min (10 * bw_weight b c r) room) (sum + bw_sworn b c r * min (10 * bw_weight b c r) room) (d ||| 2 ^ c) (by omega) (by omega) (by omega) (by omega) (bt_setlt hd (by omega)) (fun k hk => by rw [bt_setb, hbit k hk, et]; simp only [List.mem_append, List.mem_singleton, Bool.decide_or, eq_comm])
      refine ⟨n + 1, ?_⟩
      unfold kX7_topOf_b21
      refine ⟨fun z => absurd z (by decide), fun _ => ⟨fun z => ?_, fun z => tm_inner hB hO hy hr hv hd ht hbit (fun o ho => ?_)⟩⟩
      · exact absurd ((pk_lLE (b := 0) (by omega) (by decide)).mp z) (by omega)
      have hps := bw_lw_sorted b y r wo
      rw [← List.take_append_drop t (bw_lw b y r wo), List.pairwise_append] at hps
      have eo : o = some c := by
        cases o with
        | none => exact absurd (by rw [ec]; exact List.mem_cons_self) (ho c (Nat.zero_le _))
        | some c2 =>
          obtain ⟨rr, e⟩ := ls_head hps.2.1 ho.2.1 (fun x hx hne => ho.2.2 x (Nat.zero_le _) hx hne)
          rw [ec] at e
          cases e
          rfl
      subst eo
      refine ⟨fun z2 => absurd z2 (nI_pos (by omega)), fun _ => ?_⟩
      unfold kX7_topOf_b147
      refine ⟨fun z2 => absurd z2 (by decide), fun _ => s_X7_weight hB hO hcn hr ?_⟩
      have e10 : (10 : Int64) * (nI (bw_weight b c r)).toInt64 = lN (10 * bw_weight b c r) := by rw [nI_l (by omega), show (10 : Int64) = lN 10 from rfl, lN_mul]
      rw [e10]
      have last : ∀ tn : Nat, tn = min (10 * bw_weight b c r) room → kX7_topOf_b187 S L (nI y) (nI r) (nI q) v post (kX7_topOf_b21 S L (nI y) (nI r) (nI q) v post n) (lN room) (lN sum) (nI d) (1 : Int32) (nI c) (lN tn) := by
        intro tn htn
        unfold kX7_topOf_b187
        refine ⟨fun z2 => absurd z2 (by decide), fun _ => s_X7_sworn hB hO hcn hr ?_⟩
        unfold kX7_topOf_b211
        refine ⟨fun z2 => absurd z2 (by decide), fun _ => ?_⟩
        rw [bt_set d c (by omega), nI_l (show bw_sworn b c r < 2 ^ 31 by omega), lN_mul, lN_add, lN_sub (by omega), htn, Nat.mul_comm _ (bw_sworn b c r)]
        exact hn2
      unfold kX7_topOf_b170
      refine ⟨fun z2 => last room ?_, fun z2 => last _ ?_⟩
      · have := (pk_lLE (by omega) (by omega)).mp z2
        omega
      · have : ¬ room ≤ 10 * bw_weight b c r := fun w => z2 ((pk_lLE (by omega) (by omega)).mpr w)
        omega
theorem s_X7_topOf (hB : bw_M S b) (hO : bw_ok b) (hy : y < 8) (hr : r < 8) (hq : q ≤ 1000) (hv : ∀ w, w < 24 → (nI w = v ↔ w = wo)) (h : post (lN (bw_top b y r q wo))) : kX7_topOf S L (nI y) (nI r) (nI q) v post := by
  have hp := (bo_people hO hy).2
  have hroom : q * b 10 y ≤ 1000 * 999999 := Nat.mul_le_mul hq hp
  unfold kX7_topOf
  rw [nI_clamp (show y < 2 ^ 31 by omega), bm_people hB hy, bw_mulL (by omega) (by omega)]
  refine ⟨pk_in y 8 hy, ?_⟩
  refine tm_outer (L := L) hB hO hy hr hv h _ 0 (q * b 10 y) 0 0 rfl (Nat.zero_le _) hroom (by rw [List.drop_zero]; exact Nat.zero_add _) (by decide) (fun k _ => by simp)
end TOPM
theorem s_X7_partsOf {S : SX} {L : LX} {b : SN} (hB : bw_M S b) (hO : bw_ok b) {y r q wo : Nat} (hy : y < 8) (hr : r < 8) (hq : q ≤ 1000) {v : Int32} (hv : ∀ w, w < 24 → (nI w = v ↔ w = wo)) {post : Int32 → Prop} (h : post (nI (bw_parts b y r q wo))) : kX7_partsOf S L (nI y) (nI r) (nI q) v post := by
  have ht := bw_tot_le hO y r wo
  have ht2 := bw_top_le b y r q wo
  unfold kX7_partsOf
  refine s_X7_totalOf hB hO hy hr hv ⟨fun z => ?_, fun z => s_X7_topOf hB hO hy hr hq hv ?_⟩
  · have z : bw_tot b y r wo = 0 := (pk_lEQ (by omega) (by decide)).mp z
    unfold bw_parts at h; rw [if_pos z] at h; exact h
  · have z : bw_tot b y r wo ≠ 0 := fun q => z (by rw [q]; rfl)
    unfold bw_parts at h; rw [if_neg z] at h
    rw [show (10 : Int64) = lN 10 from rfl, show (100000 : Int64) = lN 100000 from rfl, lN_mul, lN_mul]
    refine ⟨fun w => ?_, ?_⟩
    · have := (pk_lEQ (a := 10 * bw_tot b y r wo) (b := 0) (by omega) (by decide)).mp w
      omega
    · rw [pk_lDiv (by omega) (by omega) (by omega), lN_i, show bw_top b y r q wo * 100000 = 10 * (bw_top b y r q wo * 10000) by omega, Nat.mul_div_mul_left _ _ (by decide)]
      exact h
