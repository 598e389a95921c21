/-! ===== span, jump ===== -/
/-- the least, the most of p 99 and of p x with P -/
def sp_lo (p : Nat → Nat) (P : Nat → Prop) (m : Nat) : Prop := (m = p 99 ∨ ∃ x, P x ∧ m = p x) ∧ m ≤ p 99 ∧ ∀ x, P x → m ≤ p x
def sp_hi (p : Nat → Nat) (P : Nat → Prop) (m : Nat) : Prop := (m = p 99 ∨ ∃ x, P x ∧ m = p x) ∧ p 99 ≤ m ∧ ∀ x, P x → p x ≤ m
theorem sp_lo1 {p : Nat → Nat} {P : Nat → Prop} {m m' : Nat} (h : sp_lo p P m) (h' : sp_lo p P m') : m = m' := by
  obtain ⟨h1, h2, h3⟩ := h
  obtain ⟨k1, k2, k3⟩ := h'
  have a : m ≤ m' := by
    rcases k1 with e | ⟨x, hx, e⟩
    · rw [e]; exact h2
    · rw [e]; exact h3 x hx
  have c : m' ≤ m := by
    rcases h1 with e | ⟨x, hx, e⟩
    · rw [e]; exact k2
    · rw [e]; exact k3 x hx
  omega
theorem sp_hi1 {p : Nat → Nat} {P : Nat → Prop} {m m' : Nat} (h : sp_hi p P m) (h' : sp_hi p P m') : m = m' := by
  obtain ⟨h1, h2, h3⟩ := h
  obtain ⟨k1, k2, k3⟩ := h'
  have a : m' ≤ m := by
    rcases k1 with e | ⟨x, hx, e⟩
    · rw [e]; exact h2
    · rw [e]; exact h3 x hx
  have c : m ≤ m' := by
    rcases h1 with e | ⟨x, hx, e⟩
    · rw [e]; exact k2
    · rw [e]; exact k3 x hx
  omega
theorem sp_lo_c {p : Nat → Nat} {P Q : Nat → Prop} (hPQ : ∀ x, P x ↔ Q x) {m : Nat} (h : sp_lo p P m) : sp_lo p Q m := by
  obtain ⟨h1, h2, h3⟩ := h
  refine ⟨?_, h2, fun x hx => h3 x ((hPQ x).mpr hx)⟩
  rcases h1 with e | ⟨x, hx, e⟩
  · exact Or.inl e
  · exact Or.inr ⟨x, (hPQ x).mp hx, e⟩
theorem sp_hi_c {p : Nat → Nat} {P Q : Nat → Prop} (hPQ : ∀ x, P x ↔ Q x) {m : Nat} (h : sp_hi p P m) : sp_hi p Q m := by
  obtain ⟨h1, h2, h3⟩ := h
  refine ⟨?_, h2, fun x hx => h3 x ((hPQ x).mpr hx)⟩
  rcases h1 with e | ⟨x, hx, e⟩
  · exact Or.inl e
  · exact Or.inr ⟨x, (hPQ x).mp hx, e⟩
theorem sp_lo_s {p : Nat → Nat} {P Q : Nat → Prop} {z : Nat} (hPQ : ∀ x, Q x ↔ P x ∨ x = z) {m : Nat} (h : sp_lo p P m) : sp_lo p Q (if p z < m then p z else m) := by
  obtain ⟨h1, h2, h3⟩ := h
  have hz : Q z := (hPQ z).mpr (Or.inr rfl)
  by_cases c : p z < m
  · rw [if_pos c]
    refine ⟨Or.inr ⟨z, hz, rfl⟩, by omega, fun x hx => ?_⟩
    rcases (hPQ x).mp hx with w | w
    · have := h3 x w; omega
    · rw [w]; exact Nat.le_refl _
  · rw [if_neg c]
    refine ⟨?_, h2, fun x hx => ?_⟩
    · rcases h1 with e | ⟨x, hx, e⟩
      · exact Or.inl e
      · exact Or.inr ⟨x, (hPQ x).mpr (Or.inl hx), e⟩
    · rcases (hPQ x).mp hx with w | w
      · exact h3 x w
      · rw [w]; omega
theorem sp_hi_s {p : Nat → Nat} {P Q : Nat → Prop} {z : Nat} (hPQ : ∀ x, Q x ↔ P x ∨ x = z) {m : Nat} (h : sp_hi p P m) : sp_hi p Q (if m < p z then p z else m) := by
  obtain ⟨h1, h2, h3⟩ := h
  have hz : Q z := (hPQ z).mpr (Or.inr rfl)
  by_cases c : m < p z
  · rw [if_pos c]
    refine ⟨Or.inr ⟨z, hz, rfl⟩, by omega, fun x hx => ?_⟩
    rcases (hPQ x).mp hx with w | w
    · have := h3 x w; omega
    · rw [w]; exact Nat.le_refl _
  · rw [if_neg c]
    refine ⟨?_, h2, fun x hx => ?_⟩
    · rcases h1 with e | ⟨x, hx, e⟩
      · exact Or.inl e
      · exact Or.inr ⟨x, (hPQ x).mpr (Or.inl hx), e⟩
    · rcases (hPQ x).mp hx with w | w
      · exact h3 x w
      · rw [w]; omega
theorem sp_if {a c : Nat} (ha : a < 2 ^ 31) (hc : c < 2 ^ 31) : (if nI a < nI c then nI a else nI c) = nI (if a < c then a else c) := by
  by_cases h : a < c
  · rw [if_pos ((nI_ltI ha hc).mpr h), if_pos h]
  · rw [if_neg (fun d => h ((nI_ltI ha hc).mp d)), if_neg h]
theorem sp_if2 {a c : Nat} (ha : a < 2 ^ 31) (hc : c < 2 ^ 31) : (if nI a < nI c then nI c else nI a) = nI (if a < c then c else a) := by
  by_cases h : a < c
  · rw [if_pos ((nI_ltI ha hc).mpr h), if_pos h]
  · rw [if_neg (fun d => h ((nI_ltI ha hc).mp d)), if_neg h]
section OPS
variable {S M : SX} {L N : LX}
theorem s_X7_span_loop {b : SN} (hM : bw_M M b) (hO : bw_ok b) {y q : Nat} (hy : y < 8) (hq : q ≤ 1000) {v3 : Int32} {post : Int32 → Prop} {m : Nat} (hc : if v3 = 0 then sp_lo (fun k => bw_parts b y y q k) (fun x => x ∈ bw_ls b y y) m else sp_hi (fun k => bw_parts b y y q k) (fun x => x ∈ bw_ls b y y) m) (h : post (nI m)) : ∃ n56 : Nat, kX7_span_b56 M N (nI y) (nI q) v3 post n56 (nI (bw_parts b y y q 99)) (0 : Int32) := by
  have hn := bo_n hO
  have hp9 := bw_parts_le b y y q 99
  refine pk_loop (fun n i (s : Nat) => kX7_span_b56 M N (nI y) (nI q) v3 post n (nI s) (nI i)) (fun i s => s ≤ 100000 ∧ if v3 = 0 then sp_lo (fun k => bw_parts b y y q k) (fun x => x < i ∧ x ∈ bw_ls b y y) s else sp_hi (fun k => bw_parts b y y q k) (fun x => x < i ∧ x ∈ bw_ls b y y) s) (b 0 2) 0 _ (Nat.zero_le _) ⟨hp9, ?_⟩ ?_ ?_
  · split
    · exact ⟨Or.inl rfl, Nat.le_refl _, fun x hx => absurd hx.1 (Nat.not_lt_zero _)⟩
    · exact ⟨Or.inl rfl, Nat.le_refl _, fun x hx => absurd hx.1 (Nat.not_lt_zero _)⟩
  · intro n s hs
    have e : s = m := by
      by_cases e : v3 = 0
      · rw [if_pos e] at hs hc
        exact sp_lo1 (sp_lo_c (fun x => ⟨fun z => z.2, fun z => ⟨(bw_ls_mem.mp z).1, z⟩⟩) hs.2) hc
      · rw [if_neg e] at hs hc
        exact sp_hi1 (sp_hi_c (fun x => ⟨fun z => z.2, fun z => ⟨(bw_ls_mem.mp z).1, z⟩⟩) hs.2) hc
    unfold kX7_span_b56
    rw [bm_n hM]
    exact pk_le (b 0 2) (b 0 2) (fun _ => by rw [e]; exact h) (fun z => by omega)
  · rintro n i s hi ⟨hs0, hs⟩ hcc
    have hyi := bo_year hO hi
    have hpi := bw_parts_le b y y q i
    have skip : i ∉ bw_ls b y y → kX7_span_b56 M N (nI y) (nI q) v3 post n (nI s) (nI (i + 1)) := by
      intro hno
      have hx : ∀ x, (x < i ∧ x ∈ bw_ls b y y) ↔ (x < i + 1 ∧ x ∈ bw_ls b y y) := by
        intro x
        refine ⟨fun z => ⟨by omega, z.2⟩, fun z => ⟨?_, z.2⟩⟩
        rcases (show x < i ∨ x = i by omega) with w | w
        · exact w
        · rw [w] at z; exact absurd z.2 hno
      refine hcc s ⟨hs0, ?_⟩
      split
      · rename_i e; rw [if_pos e] at hs; exact sp_lo_c hx hs
      · rename_i e; rw [if_neg e] at hs; exact sp_hi_c hx hs
    unfold kX7_span_b56
    rw [bm_n hM, nI_clamp (show i < 2 ^ 31 by omega), bm_year hM hi, nI_1]
    refine pk_le (b 0 2) i (fun z => by omega) (fun _ => ⟨pk_in i 24 (by omega), pk_eq (b 2 i) y (fun e => s_X7_isBooked hM hO hi hy (bw_br (fun z => skip (fun d => ?_)) (fun z => s_X7_partsOf hM hO hy hy hq (bw_some (by omega)) ?_))) (fun e => skip (fun d => e (bw_ls_mem.mp d).2.1))⟩)
    · have := (bw_ls_mem.mp d).2.2; rw [z] at this; cases this
    · have hil : i ∈ bw_ls b y y := bw_ls_mem.mpr ⟨hi, e, z⟩
      have hx : ∀ x, (x < i + 1 ∧ x ∈ bw_ls b y y) ↔ (x < i ∧ x ∈ bw_ls b y y) ∨ x = i := by
        intro x
        constructor
        · rintro ⟨w1, w2⟩
          rcases (show x < i ∨ x = i by omega) with w | w
          · exact Or.inl ⟨w, w2⟩
          · exact Or.inr w
        · rintro (w | w)
          · exact ⟨by omega, w.2⟩
          · rw [w]; exact ⟨by omega, hil⟩
      refine ⟨fun e0 => ?_, fun e0 => ?_⟩
      · rw [if_pos e0] at hs
        have hs' := sp_lo_s hx hs
        refine pk_le s (bw_parts b y y q i) (fun g => hcc s ⟨hs0, ?_⟩) (fun g => hcc _ ⟨hpi, ?_⟩)
        · rw [if_pos e0]; rw [if_neg (by omega)] at hs'; exact hs'
        · rw [if_pos e0]; rw [if_pos (by omega)] at hs'; exact hs'
      · rw [if_neg e0] at hs
        have hs' := sp_hi_s hx hs
        refine pk_le (bw_parts b y y q i) s (fun g => hcc s ⟨hs0, ?_⟩) (fun g => hcc _ ⟨hpi, ?_⟩)
        · rw [if_neg e0]; rw [if_neg (by omega)] at hs'; exact hs'
        · rw [if_neg e0]; rw [if_pos (by omega)] at hs'; exact hs'
theorem ok_span (hR : bw_R S L M N) (a1 a2 a3 : Int32) : kX6_span S L a1 a2 a3 (fun r S1 => kX7_span M N a1 a2 a3 (fun r' => r = r' ∧ bw_R S1 L M N)) := by
  obtain ⟨⟨b, hO, hK, hX, hC, hM, hD⟩, hr⟩ := id hR
  have hn := bo_n hO
  unfold kX6_span
  refine ck3X 1 (fun c => ?_) (fun c => ?_)
  · unfold kX7_span; exact ck3M 1 (fun _ => ⟨rfl, hR⟩) (fun d => cf_t d c)
  obtain ⟨y, q, w, hy, hq1, hq, hw, rfl, rfl, rfl⟩ := bw_c3_t c
  have t1 := bw_tot_le hO y y 99
  have hlen := bw_ls_len (b := b) y y
  have hp9 := bw_parts_le b y y q 99
  refine s_X1_gather hX hO hy hy (fun S1 h1 h2 => s_X5_topRoom (bw_X_out hX h2) hO hy hq (s_X1_partsOfTop hO hy h1 hq bw_nobody ⟨fun z => ?_, fun z => ?_⟩))
  · have z1 : bw_tot b y y 99 = 0 := by
      by_cases d : bw_tot b y y 99 = 0
      · exact d
      · exact absurd z (bw_po_ne d).2
    unfold kX7_span
    refine ck3M 1 (fun d => cf_t c d) (fun _ => s_X7_totalOf hM hO hy hy bw_none ?_)
    rw [z1]
    exact ⟨fun _ => ⟨rfl, bw_R_out hR h2⟩, fun d => absurd rfl d⟩
  have z1 : bw_tot b y y 99 ≠ 0 := fun d => z (bw_po_eq d)
  rw [(bw_po_ne z1).1]
  have hR1 := bw_R_out hR h2
  refine pk_loop (σ := Nat × Nat) (fun n i s => kX6_span_b79 L (nI y) (nI q) (nI w) (lN (q * b 10 y)) (fun r S1 => kX7_span M N (nI y) (nI q) (nI w) (fun r' => r = r' ∧ bw_R S1 L M N)) n (nI s.1) (nI s.2) (nI i) S1) (fun i s => s.1 ≤ 100000 ∧ s.2 ≤ 100000 ∧ sp_lo (fun k => bw_parts b y y q k) (fun x => x ∈ (bw_ls b y y).take i) s.1 ∧ sp_hi (fun k => bw_parts b y y q k) (fun x => x ∈ (bw_ls b y y).take i) s.2) (bw_ls b y y).length 0 (bw_parts b y y q 99, bw_parts b y y q 99) (Nat.zero_le _) ⟨hp9, hp9, ⟨Or.inl rfl, Nat.le_refl _, fun x hx => by simp at hx⟩, ⟨Or.inl rfl, Nat.le_refl _, fun x hx => by simp at hx⟩⟩ ?_ ?_
  · rintro n ⟨lo, hi⟩ ⟨-, -, hlo, hhi⟩
    dsimp only at hlo hhi ⊢
    rw [List.take_length] at hlo hhi
    have fin : ∀ m, (if nI w = 0 then sp_lo (fun k => bw_parts b y y q k) (fun x => x ∈ bw_ls b y y) m else sp_hi (fun k => bw_parts b y y q k) (fun x => x ∈ bw_ls b y y) m) → kX7_span M N (nI y) (nI q) (nI w) (fun r' => nI m = r' ∧ bw_R S1 L M N) := by
      intro m hm
      unfold kX7_span
      refine ck3M 1 (fun d => cf_t c d) (fun _ => s_X7_totalOf hM hO hy hy bw_none ⟨fun d => ?_, fun _ => s_X7_partsOf hM hO hy hy hq bw_none (s_X7_span_loop hM hO hy hq hm ⟨rfl, hR1⟩)⟩)
      exact absurd ((pk_lEQ (b := 0) (by omega) (by decide)).mp d) z1
    unfold kX6_span_b79
    rw [h1.1]
    refine pk_le (bw_ls b y y).length (bw_ls b y y).length (fun _ => ⟨fun e => fin lo ?_, fun e => fin hi ?_⟩) (fun d => by omega)
    · rw [if_pos e]; exact hlo
    · rw [if_neg e]; exact hhi
  · rintro n i ⟨lo, hi⟩ hii ⟨g1, g2, hlo, hhi⟩ hcc
    dsimp only at g1 g2 hlo hhi hcc ⊢
    obtain ⟨x, e1, e2, e3, e4, e5⟩ := bw_ls_at h1 hii
    have ex : (bw_ls b y y)[i] = x := by
      have := ls_drop hii
      rw [e1] at this
      cases this
      rfl
    have hpx := bw_parts_le b y y q x
    have hx : ∀ x', x' ∈ (bw_ls b y y).take (i + 1) ↔ x' ∈ (bw_ls b y y).take i ∨ x' = x := fun x' => by rw [ls_take hii, ex]
    unfold kX6_span_b79
    rw [h1.1, nI_clamp (show i < 2 ^ 31 by omega), e3]
    refine pk_le (bw_ls b y y).length i (fun d => by omega) (fun _ => ⟨pk_in i 24 (by omega), s_X1_partsOfTop hO hy h1 hq (bw_some (by omega)) (bw_po0 ?_)⟩)
    rw [sp_if (by omega) (by omega), sp_if2 (by omega) (by omega), nI_1]
    refine hcc (if bw_parts b y y q x < lo then bw_parts b y y q x else lo, if hi < bw_parts b y y q x then bw_parts b y y q x else hi) ⟨?_, ?_, sp_lo_s hx hlo, sp_hi_s hx hhi⟩
    · dsimp only; split <;> omega
    · dsimp only; split <;> omega
def jp_d (b : SN) (q y : Nat) : Nat := ab_ (bw_parts b (y + 1) (y + 1) q 99) (bw_parts b y y q 99)
def jp_m (o : Option (Nat × Nat)) (d : Nat) : Bool := match o with
  | none => true
  | some p => decide (p.2 < d)
def jp (b : SN) (q : Nat) : Nat → Option (Nat × Nat)
  | 0 => none
  | y + 1 => if 0 < bw_tot b y y 99 ∧ 0 < bw_tot b (y + 1) (y + 1) 99 ∧ jp_m (jp b q y) (jp_d b q y) = true then some (y, jp_d b q y) else jp b q y
def jp_b (o : Option (Nat × Nat)) : Int32 := match o with
  | none => -4
  | some p => nI p.1
def jp_c (z : Int32) (o : Option (Nat × Nat)) : Int32 := match o with
  | none => z
  | some p => nI p.2
theorem jp_ok {b : SN} {q : Nat} : ∀ y, y ≤ 7 → ∀ p, jp b q y = some p → p.1 < 7 ∧ p.2 ≤ 100000
  | 0, _, p, h => by cases h
  | y + 1, hy, p, h => by
    rw [jp] at h
    split at h
    · cases h
      exact ⟨by dsimp only; omega, ab_lt (bw_parts_le _ _ _ _ _) (bw_parts_le _ _ _ _ _)⟩
    · exact jp_ok y (by omega) p h
/-- a branch: the new change is more than the best so far -/
theorem jp_br {o : Option (Nat × Nat)} {z : Int32} {d : Nat} (hz : z < 0) (hd : d ≤ 100000) (ho : ∀ p, o = some p → p.2 ≤ 100000) {A B : Prop} (f : jp_m o d = false → A) (g : jp_m o d = true → B) : (nI d ≤ jp_c z o → A) ∧ (¬ nI d ≤ jp_c z o → B) := by
  cases o with
  | none =>
    refine ⟨fun w => ?_, fun _ => g rfl⟩
    exfalso
    have w : nI d ≤ z := w
    rw [Int32.le_iff_toInt_le, nI_toInt (by omega)] at w
    rw [Int32.lt_iff_toInt_lt] at hz
    have e : (0 : Int32).toInt = 0 := rfl
    omega
  | some p =>
    have hp := ho p rfl
    exact pk_le d p.2 (fun w => f (decide_eq_false (by omega))) (fun w => g (decide_eq_true w))
theorem ok_jump (hR : bw_R S L M N) (a1 a2 : Int32) : kX6_jump S L a1 a2 (fun r S1 => kX7_jump M N a1 a2 (fun r' => r = r' ∧ bw_R S1 L M N)) := by
  obtain ⟨⟨b, hO, hK, hX, hC, hM, hD⟩, hr⟩ := id hR
  unfold kX6_jump
  refine s_X6_isTop (bw_br (fun q1 => ?_) (fun q1 => s_X6_wI 0 1 (bw_br (fun q2 => ?_) (fun q2 => ?_))))
  · unfold kX7_jump; exact s_X7_isTop (bq_f q1 ⟨rfl, hR⟩)
  · unfold kX7_jump; exact s_X7_isTop (bq_t q1 (s_X7_wI 0 1 (bq_f q2 ⟨rfl, hR⟩)))
  obtain ⟨q, hq1, hq, rfl⟩ := bw_in_t1 (n := 1000) q1
  have model : ∀ S1, lg_out S S1 → kX7_jump M N (nI q) a2 (fun r' => (if a2 = 0 then jp_b (jp b q 7) else jp_c (-4) (jp b q 7)) = r' ∧ bw_R S1 L M N) := by
    intro S1 ho
    have hR1 := bw_R_out hR ho
    unfold kX7_jump
    refine s_X7_isTop (bq_t q1 (s_X7_wI 0 1 (bq_t q2 ?_)))
    refine pk_loop (σ := Option (Nat × Nat)) (fun n i o => kX7_jump_b28 M N (nI q) a2 (fun r' => (if a2 = 0 then jp_b (jp b q 7) else jp_c (-4) (jp b q 7)) = r' ∧ bw_R S1 L M N) n (jp_b o) (jp_c (-1) o) (nI i)) (fun i o => o = jp b q i) 7 0 none (by decide) rfl ?_ ?_
    · intro n o he
      subst he
      have hok := jp_ok (b := b) (q := q) 7 (Nat.le_refl _)
      unfold kX7_jump_b28
      refine ⟨fun _ => ?_, fun z => absurd (by decide) z⟩
      cases e : jp b q 7 with
      | none =>
        refine ⟨fun _ => ⟨?_, hR1⟩, fun d => absurd (by decide) d⟩
        split <;> rfl
      | some p =>
        have hp := hok p e
        refine ⟨fun d => absurd d (nI_pos (by omega)), fun _ => ⟨fun d => ⟨by rw [if_pos d], hR1⟩, fun d => ⟨by rw [if_neg d]; rfl, hR1⟩⟩⟩
    · intro n i o hi he hcc
      subst he
      have ta := bw_tot_le hO i i 99
      have tb := bw_tot_le hO (i + 1) (i + 1) 99
      have pa := bw_parts_le b i i q 99
      have pb := bw_parts_le b (i + 1) (i + 1) q 99
      have hok := jp_ok (b := b) (q := q) i (by omega)
      have hd : jp_d b q i ≤ 100000 := ab_lt pb pa
      unfold kX7_jump_b28
      rw [nI_1]
      refine pk_le 7 i (fun z => by omega) (fun _ => s_X7_totalOf hM hO (by omega) (by omega) bw_none ⟨fun z => hcc _ ?_, fun z => s_X7_totalOf hM hO (by omega) (by omega) bw_none ⟨fun z2 => hcc _ ?_, fun z2 => s_X7_partsOf hM hO (by omega) (by omega) hq bw_none (s_X7_partsOf hM hO (by omega) (by omega) hq bw_none (ab_M (F := fun w => kX7_jump_b111 M N (nI q) a2 (fun r' => (if a2 = 0 then jp_b (jp b q 7) else jp_c (-4) (jp b q 7)) = r' ∧ bw_R S1 L M N) (kX7_jump_b28 M N (nI q) a2 (fun r' => (if a2 = 0 then jp_b (jp b q 7) else jp_c (-4) (jp b q 7)) = r' ∧ bw_R S1 L M N) n) (jp_b (jp b q i)) (jp_c (-1) (jp b q i)) (nI i) w) pb pa ?_))⟩⟩)
      · have := (pk_lLE (b := 0) (by omega) (by decide)).mp z
        rw [jp, if_neg (fun d => by omega)]
      · have := (pk_lLE (b := 0) (by omega) (by decide)).mp z2
        rw [jp, if_neg (fun d => by omega)]
      · have z1 : ¬ bw_tot b i i 99 ≤ 0 := fun d => z ((pk_lLE (b := 0) (by omega) (by decide)).mpr d)
        have z3 : ¬ bw_tot b (i + 1) (i + 1) 99 ≤ 0 := fun d => z2 ((pk_lLE (b := 0) (by omega) (by decide)).mpr d)
        unfold kX7_jump_b111 kX7_jump_b126
        rw [nI_1]
        have fl : jp_m (jp b q i) (jp_d b q i) = false → jp b q i = jp b q (i + 1) := fun w => by rw [jp, if_neg (fun d => by rw [w] at d; exact absurd d.2.2 (by decide))]
        have tr : jp_m (jp b q i) (jp_d b q i) = true → some (i, jp_d b q i) = jp b q (i + 1) := fun w => by rw [jp, if_pos ⟨by omega, by omega, w⟩]
        refine jp_br (d := jp_d b q i) (by decide) hd (fun p hp => (hok p hp).2) (fun w => jp_br (d := jp_d b q i) (by decide) hd (fun p hp => (hok p hp).2) (fun _ => hcc _ (fl w)) (fun w2 => cf_t w2 w)) (fun w => jp_br (d := jp_d b q i) (by decide) hd (fun p hp => (hok p hp).2) (fun w2 => cf_t w w2) (fun _ => ?_))
        have := hcc _ (tr w)
        exact this
  refine s_X6_partsOfYear hX hO (by decide) (by decide) hq (fun S0 h0 => ?_)
  refine pk_loop (σ := Option (Nat × Nat) × SX) (fun n i s => kX6_jump_b38 L (nI q) a2 (fun r S1 => kX7_jump M N (nI q) a2 (fun r' => r = r' ∧ bw_R S1 L M N)) n (jp_b s.1) (jp_c (-4) s.1) (bw_po b i i q 99) (nI i) s.2) (fun i s => s.1 = jp b q i ∧ lg_out S s.2) 7 0 (none, S0) (by decide) ⟨rfl, h0⟩ ?_ ?_
  · rintro n ⟨o, T⟩ ⟨he, hT⟩
    dsimp only at he hT ⊢
    subst he
    have hmm := model T hT
    unfold kX6_jump_b38
    refine ⟨fun _ => ⟨fun e => ?_, fun e => ?_⟩, fun z => absurd (by decide) z⟩
    · rw [if_pos e] at hmm; exact hmm
    · rw [if_neg e] at hmm; exact hmm
  · rintro n i ⟨o, T⟩ hi ⟨he, hT⟩ hcc
    dsimp only at he hT hcc ⊢
    subst he
    have pa := bw_parts_le b i i q 99
    have pb := bw_parts_le b (i + 1) (i + 1) q 99
    have hok := jp_ok (b := b) (q := q) i (by omega)
    have hd : jp_d b q i ≤ 100000 := ab_lt pb pa
    have no : ¬ (0 < bw_tot b i i 99 ∧ 0 < bw_tot b (i + 1) (i + 1) 99 ∧ jp_m (jp b q i) (jp_d b q i) = true) → jp b q i = jp b q (i + 1) := fun w => by rw [jp, if_neg w]
    unfold kX6_jump_b38
    rw [nI_1]
    refine pk_le 7 i (fun z => by omega) (fun _ => s_X6_partsOfYear (bw_X_out hX hT) hO (by omega) (by omega) hq (fun T1 h1 => ⟨fun z => ?_, fun z => ⟨fun z2 => ?_, fun z2 => ?_⟩⟩))
    · have z1 : bw_tot b i i 99 = 0 := by
        by_cases d : bw_tot b i i 99 = 0
        · exact d
        · exact absurd z (bw_po_ne d).2
      exact hcc (jp b q i, T1) ⟨no (fun d => by omega), lg_out_tr hT h1⟩
    · have z1 : bw_tot b (i + 1) (i + 1) 99 = 0 := by
        by_cases d : bw_tot b (i + 1) (i + 1) 99 = 0
        · exact d
        · exact absurd z2 (bw_po_ne d).2
      exact hcc (jp b q i, T1) ⟨no (fun d => by omega), lg_out_tr hT h1⟩
    · have z1 : bw_tot b i i 99 ≠ 0 := fun d => z (bw_po_eq d)
      have z3 : bw_tot b (i + 1) (i + 1) 99 ≠ 0 := fun d => z2 (bw_po_eq d)
      have e1 : (if 0 ≤ (bw_po b (i + 1) (i + 1) q 99 - bw_po b i i q 99) then (bw_po b (i + 1) (i + 1) q 99 - bw_po b i i q 99) else 0 - (bw_po b (i + 1) (i + 1) q 99 - bw_po b i i q 99)) = nI (jp_d b q i) := by rw [(bw_po_ne z1).1, (bw_po_ne z3).1]; exact ab_X pb pa
      rw [e1]
      refine jp_br (by decide) hd (fun p hp => (hok p hp).2) (fun w => hcc (jp b q i, T1) ⟨no (fun d => by rw [w] at d; exact absurd d.2.2 (by decide)), lg_out_tr hT h1⟩) (fun w => ?_)
      have := hcc (some (i, jp_d b q i), T1) ⟨by rw [jp, if_pos ⟨by omega, by omega, w⟩], lg_out_tr hT h1⟩
      exact this
end OPS
