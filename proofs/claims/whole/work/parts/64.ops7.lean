/-! ===== maker, span, jump ===== -/
def ab_ (a c : Nat) : Nat := if c ≤ a then a - c else c - a
theorem ab_lt {a c : Nat} (ha : a ≤ 100000) (hc : c ≤ 100000) : ab_ a c ≤ 100000 := by unfold ab_; split <;> omega
theorem ab_X {a c : Nat} (ha : a ≤ 100000) (hc : c ≤ 100000) : (if 0 ≤ (nI a - nI c) then (nI a - nI c) else 0 - (nI a - nI c)) = nI (ab_ a c) := by
  unfold ab_
  by_cases h : c ≤ a
  · rw [if_pos h, pk_sub h, if_pos (nI_pos' (by omega))]
  · have h1 := pk_sneg (a := a) (b := c) (by omega) (by omega)
    rw [if_neg h, if_neg (fun d => absurd h1 (Int32.not_lt.mpr d)), Int32.zero_sub, Int32.neg_sub, pk_sub (by omega)]
theorem ab_M {a c : Nat} (ha : a ≤ 100000) (hc : c ≤ 100000) {F : Int32 → Prop} (h : F (nI (ab_ a c))) : (0 ≤ (nI a - nI c) → F (nI a - nI c)) ∧ (¬ 0 ≤ (nI a - nI c) → F (-(nI a - nI c))) := by
  unfold ab_ at h
  by_cases w : c ≤ a
  · rw [if_pos w] at h
    rw [pk_sub w]
    exact ⟨fun _ => h, fun d => absurd (nI_pos' (by omega)) d⟩
  · rw [if_neg w] at h
    have h1 := pk_sneg (a := a) (b := c) (by omega) (by omega)
    refine ⟨fun d => absurd h1 (Int32.not_lt.mpr d), fun _ => ?_⟩
    rw [Int32.neg_sub, pk_sub (by omega)]; exact h
/-- the best of those with P: most by d, of like ones the first -/
def mk_P (d : Nat → Nat) (P : Nat → Prop) (o : Option Nat) : Prop := match o with
  | none => ∀ x, ¬ P x
  | some c => P c ∧ ∀ x, P x → d x < d c ∨ (d x = d c ∧ c ≤ x)
theorem mk_one {d : Nat → Nat} {P : Nat → Prop} {o o' : Option Nat} (h : mk_P d P o) (h' : mk_P d P o') : o = o' := by
  cases o with
  | none =>
    cases o' with
    | none => rfl
    | some c => exact absurd h'.1 (h c)
  | some c =>
    cases o' with
    | none => exact absurd h.1 (h' c)
    | some c' =>
      have h1 := h.2 c' h'.1
      have h2 := h'.2 c h.1
      have : c = c' := by omega
      rw [this]
theorem mk_cong {d : Nat → Nat} {P Q : Nat → Prop} (hPQ : ∀ x, P x ↔ Q x) {o : Option Nat} (h : mk_P d P o) : mk_P d Q o := by
  cases o with
  | none => exact fun x hx => h x ((hPQ x).mpr hx)
  | some c => exact ⟨(hPQ c).mp h.1, fun x hx => h.2 x ((hPQ x).mpr hx)⟩
def mk_7 (o : Option Nat) : Int32 := match o with
  | none => -1
  | some c => nI c
def mk_5 (o : Option Nat) : Int32 := match o with
  | none => -4
  | some c => nI c
def mk_8 (d : Nat → Nat) (o : Option Nat) : Int32 := match o with
  | none => -1
  | some c => nI (d c)
def mk_9 (p : Nat → Nat) (o : Option Nat) : Int32 := match o with
  | none => 0
  | some c => nI (p c)
theorem mk_neg {n : Nat} (h : n < 2 ^ 31) : (-1 : Int32) < nI n := by
  rw [Int32.lt_iff_toInt_lt, nI_toInt h]
  have e : (-1 : Int32).toInt = -1 := rfl
  omega
section OPS
variable {S M : SX} {L N : LX}
theorem bw_po_ne {b : SN} {y r q wo : Nat} (h : bw_tot b y r wo ≠ 0) : bw_po b y r q wo = nI (bw_parts b y r q wo) ∧ ¬ bw_po b y r q wo = (-4 : Int32) := by
  have hp := bw_parts_le b y r q wo
  have e1 : bw_po b y r q wo = nI (bw_parts b y r q wo) := by unfold bw_po; rw [if_neg h]
  refine ⟨e1, fun d => ?_⟩
  rw [e1] at d
  have w2 := congrArg Int32.toInt d
  rw [nI_toInt (by omega)] at w2
  have e : (-4 : Int32).toInt = -4 := rfl
  omega
theorem bw_po_eq {b : SN} {y r q wo : Nat} (h : bw_tot b y r wo = 0) : bw_po b y r q wo = (-4 : Int32) := by unfold bw_po; rw [if_pos h]
theorem ls_ne {b : SN} {y : Nat} (h : bw_tot b y y 99 ≠ 0) : ∃ x, x ∈ bw_ls b y y := by
  rw [← bw_lw_sum] at h
  unfold bw_lw at h
  cases e : bw_ls b y y with
  | nil => rw [e] at h; exact absurd rfl h
  | cons x l => exact ⟨x, List.mem_cons_self⟩
theorem ls_take {l : List Nat} {i : Nat} (h : i < l.length) (x : Nat) : x ∈ l.take (i + 1) ↔ x ∈ l.take i ∨ x = l[i] := by
  rw [List.take_succ, List.getElem?_eq_getElem h, List.mem_append]
  exact or_congr Iff.rfl List.mem_singleton
theorem s_X7_maker_loop {b : SN} (hM : bw_M M b) (hO : bw_ok b) {y q : Nat} (hy : y < 8) (hq : q ≤ 1000) {v3 : Int32} {post : Int32 → Prop} {c : Nat} (hc : mk_P (fun k => ab_ (bw_parts b y y q k) (bw_parts b y y q 99)) (fun x => x ∈ bw_ls b y y) (some c)) (h : post (if v3 = 0 then nI c else nI (bw_parts b y y q c))) : ∃ n63 : Nat, kX7_maker_b63 M N (nI y) (nI q) v3 (nI (bw_parts b y y q 99)) post n63 (-4 : Int32) (-1 : Int32) (0 : Int32) := by
  have hn := bo_n hO
  have hp9 := bw_parts_le b y y q 99
  refine pk_loop (σ := Option Nat) (fun n i o => kX7_maker_b63 M N (nI y) (nI q) v3 (nI (bw_parts b y y q 99)) post n (mk_5 o) (mk_8 (fun k => ab_ (bw_parts b y y q k) (bw_parts b y y q 99)) o) (nI i)) (fun i o => mk_P (fun k => ab_ (bw_parts b y y q k) (bw_parts b y y q 99)) (fun x => x < i ∧ x ∈ bw_ls b y y) o) (b 0 2) 0 none (Nat.zero_le _) (fun x hx => Nat.not_lt_zero _ hx.1) ?_ ?_
  · intro n o ho
    have e : o = some c := mk_one (mk_cong (fun x => ⟨fun z => z.2, fun z => ⟨(bw_ls_mem.mp z).1, z⟩⟩) ho) hc
    subst e
    have hcn := (bw_ls_mem.mp hc.1).1
    unfold kX7_maker_b63
    rw [bm_n hM]
    refine pk_le (b 0 2) (b 0 2) (fun _ => ⟨fun e => ?_, fun e => s_X7_partsOf hM hO hy hy hq (bw_some (by omega)) ?_⟩) (fun z => by omega)
    · rw [if_pos e] at h; exact h
    · rw [if_neg e] at h; exact h
  · intro n i o hi ho hcc
    have hyi := bo_year hO hi
    have hpi := bw_parts_le b y y q i
    have skip : i ∉ bw_ls b y y → kX7_maker_b63 M N (nI y) (nI q) v3 (nI (bw_parts b y y q 99)) post n (mk_5 o) (mk_8 (fun k => ab_ (bw_parts b y y q k) (bw_parts b y y q 99)) o) (nI (i + 1)) := by
      intro hno
      refine hcc o (mk_cong (fun x => ⟨fun z => ⟨by omega, z.2⟩, fun z => ⟨?_, z.2⟩⟩) ho)
      rcases (show x < i ∨ x = i by omega) with w | w
      · exact w
      · rw [w] at z; exact absurd z.2 hno
    unfold kX7_maker_b63
    rw [bm_n hM, nI_clamp (show i < 2 ^ 31 by omega), bm_year hM hi, nI_1]
    refine pk_le (b 0 2) i (fun z => by omega) (fun _ => ⟨pk_in i 24 (by omega), pk_eq (b 2 i) y (fun e => s_X7_isBooked hM hO hi hy (bw_br (fun z => skip (fun d => ?_)) (fun z => s_X7_partsOf hM hO hy hy hq (bw_some (by omega)) (ab_M (F := fun w => kX7_maker_b120 M N (nI y) (nI q) v3 (nI (bw_parts b y y q 99)) post (kX7_maker_b63 M N (nI y) (nI q) v3 (nI (bw_parts b y y q 99)) post n) (mk_5 o) (mk_8 (fun k => ab_ (bw_parts b y y q k) (bw_parts b y y q 99)) o) (nI i) w) hpi hp9 ?_)))) (fun e => skip (fun d => e (bw_ls_mem.mp d).2.1))⟩)
    · have := (bw_ls_mem.mp d).2.2; rw [z] at this; cases this
    · have hil : i ∈ bw_ls b y y := bw_ls_mem.mpr ⟨hi, e, z⟩
      have hab := ab_lt hpi hp9
      have take : (∀ c', o = some c' → ab_ (bw_parts b y y q c') (bw_parts b y y q 99) < ab_ (bw_parts b y y q i) (bw_parts b y y q 99)) → kX7_maker_b63 M N (nI y) (nI q) v3 (nI (bw_parts b y y q 99)) post n (nI i) (nI (ab_ (bw_parts b y y q i) (bw_parts b y y q 99))) (nI (i + 1)) := by
        intro hlt
        refine hcc (some i) ⟨⟨by omega, hil⟩, fun x hx => ?_⟩
        rcases (show x < i ∨ x = i by omega) with w | w
        · cases o with
          | none => exact absurd ⟨w, hx.2⟩ (ho x)
          | some c' =>
            have h1 := hlt c' rfl
            have h2 := ho.2 x ⟨w, hx.2⟩
            dsimp only at h1 h2 ⊢
            omega
        · subst w; exact Or.inr ⟨rfl, Nat.le_refl _⟩
      unfold kX7_maker_b120 kX7_maker_b136
      rw [nI_1]
      cases o with
      | none =>
        have w := mk_neg (n := ab_ (bw_parts b y y q i) (bw_parts b y y q 99)) (by omega)
        refine ⟨fun d => absurd w (Int32.not_lt.mpr d), fun _ => ⟨fun d => absurd w (Int32.not_lt.mpr d), fun _ => take (fun c' hc' => by cases hc')⟩⟩
      | some c' =>
        have hc'n := bw_parts_le b y y q c'
        have hab' := ab_lt hc'n hp9
        refine pk_le (ab_ (bw_parts b y y q i) (bw_parts b y y q 99)) (ab_ (bw_parts b y y q c') (bw_parts b y y q 99)) (fun w => pk_le (ab_ (bw_parts b y y q i) (bw_parts b y y q 99)) (ab_ (bw_parts b y y q c') (bw_parts b y y q 99)) (fun _ => ?_) (fun w2 => by omega)) (fun w => pk_le (ab_ (bw_parts b y y q i) (bw_parts b y y q 99)) (ab_ (bw_parts b y y q c') (bw_parts b y y q 99)) (fun w2 => by omega) (fun _ => take (fun c2 hc2 => by cases hc2; exact w)))
        refine hcc (some c') ⟨⟨by have := ho.1.1; omega, ho.1.2⟩, fun x hx => ?_⟩
        rcases (show x < i ∨ x = i by omega) with w3 | w3
        · exact ho.2 x ⟨w3, hx.2⟩
        · subst w3
          have := ho.1.1
          dsimp only
          omega
theorem ok_maker (hR : bw_R S L M N) (a1 a2 a3 : Int32) : kX6_maker S L a1 a2 a3 (fun r S1 => kX7_maker M N a1 a2 a3 (fun r' => r = r' ∧ bw_R S1 L M N)) := by
  obtain ⟨⟨b, hO, hK, hX, hC, hM, hD⟩, hr⟩ := id hR
  have hn := bo_n hO
  unfold kX6_maker
  refine ck3X 1 (fun c => ?_) (fun c => ?_)
  · unfold kX7_maker; exact ck3M 1 (fun _ => ⟨rfl, hR⟩) (fun d => cf_t d c)
  obtain ⟨y, q, w, hy, hq1, hq, hw, rfl, rfl, rfl⟩ := bw_c3_t c
  have t1 := bw_tot_le hO y y 99
  have hlen := bw_ls_len (b := b) y y
  have hp9 := bw_parts_le b y y q 99
  refine s_X1_gather hX hO hy hy (fun S1 h1 h2 => s_X5_topRoom (bw_X_out hX h2) hO hy hq (s_X1_partsOfTop hO hy h1 hq bw_nobody ⟨fun z => ?_, fun z => ?_⟩))
  · have z1 : bw_tot b y y 99 = 0 := by
      by_cases d : bw_tot b y y 99 = 0
      · exact d
      · exact absurd z (bw_po_ne d).2
    unfold kX7_maker
    refine ck3M 1 (fun d => cf_t c d) (fun _ => s_X7_totalOf hM hO hy hy bw_none ?_)
    rw [z1]
    exact ⟨fun _ => ⟨rfl, bw_R_out hR h2⟩, fun d => absurd rfl d⟩
  have z1 : bw_tot b y y 99 ≠ 0 := fun d => z (bw_po_eq d)
  rw [(bw_po_ne z1).1]
  have hR1 := bw_R_out hR h2
  refine pk_loop (σ := Option Nat) (fun n i o => kX6_maker_b84 L (nI y) (nI q) (nI w) (lN (q * b 10 y)) (nI (bw_parts b y y q 99)) (fun r S1 => kX7_maker M N (nI y) (nI q) (nI w) (fun r' => r = r' ∧ bw_R S1 L M N)) n (mk_7 o) (mk_8 (fun k => ab_ (bw_parts b y y q k) (bw_parts b y y q 99)) o) (mk_9 (fun k => bw_parts b y y q k) o) (nI i) S1) (fun i o => mk_P (fun k => ab_ (bw_parts b y y q k) (bw_parts b y y q 99)) (fun x => x ∈ (bw_ls b y y).take i) o) (bw_ls b y y).length 0 none (Nat.zero_le _) (fun x hx => by simp at hx) ?_ ?_
  · intro n o ho
    have ho := mk_cong (Q := fun x => x ∈ bw_ls b y y) (fun x => by rw [List.take_length]) ho
    obtain ⟨x0, hx0⟩ := ls_ne z1
    cases o with
    | none => exact absurd hx0 (ho x0)
    | some k =>
      unfold kX6_maker_b84
      rw [h1.1]
      have fin : kX7_maker M N (nI y) (nI q) (nI w) (fun r' => (if nI w = 0 then nI k else nI (bw_parts b y y q k)) = r' ∧ bw_R S1 L M N) := by
        unfold kX7_maker
        refine ck3M 1 (fun d => cf_t c d) (fun _ => s_X7_totalOf hM hO hy hy bw_none ⟨fun d => ?_, fun _ => s_X7_partsOf hM hO hy hy hq bw_none (s_X7_maker_loop hM hO hy hq ho ⟨rfl, hR1⟩)⟩)
        exact absurd ((pk_lEQ (b := 0) (by omega) (by decide)).mp d) z1
      refine pk_le (bw_ls b y y).length (bw_ls b y y).length (fun _ => ⟨fun e => ?_, fun e => ?_⟩) (fun d => by omega)
      · rw [if_pos e] at fin; exact fin
      · rw [if_neg e] at fin; exact fin
  · intro n i o hi ho hcc
    obtain ⟨x, e1, e2, e3, e4, e5⟩ := bw_ls_at h1 hi
    have ex : (bw_ls b y y)[i] = x := by
      have := ls_drop hi
      rw [e1] at this
      cases this
      rfl
    have hpx := bw_parts_le b y y q x
    have hab := ab_lt hpx hp9
    unfold kX6_maker_b84
    rw [h1.1, nI_clamp (show i < 2 ^ 31 by omega), e3]
    refine pk_le (bw_ls b y y).length i (fun d => by omega) (fun _ => ⟨pk_in i 24 (by omega), s_X1_partsOfTop hO hy h1 hq (bw_some (by omega)) (bw_po0 ?_)⟩)
    rw [ab_X hpx hp9, nI_1]
    have take : (∀ c', o = some c' → ab_ (bw_parts b y y q c') (bw_parts b y y q 99) < ab_ (bw_parts b y y q x) (bw_parts b y y q 99) ∨ (ab_ (bw_parts b y y q c') (bw_parts b y y q 99) = ab_ (bw_parts b y y q x) (bw_parts b y y q 99) ∧ x < c')) → kX6_maker_b84 L (nI y) (nI q) (nI w) (lN (q * b 10 y)) (nI (bw_parts b y y q 99)) (fun r S1 => kX7_maker M N (nI y) (nI q) (nI w) (fun r' => r = r' ∧ bw_R S1 L M N)) n (nI x) (nI (ab_ (bw_parts b y y q x) (bw_parts b y y q 99))) (nI (bw_parts b y y q x)) (nI (i + 1)) S1 := by
      intro hlt
      refine hcc (some x) ⟨(ls_take hi x).mpr (Or.inr ex.symm), fun x' hx' => ?_⟩
      rcases (ls_take hi x').mp hx' with w1 | w1
      · cases o with
        | none => exact absurd w1 (ho x')
        | some c' =>
          have g1 := hlt c' rfl
          have g2 := ho.2 x' w1
          dsimp only at g1 g2 ⊢
          omega
      · rw [ex] at w1; subst w1; exact Or.inr ⟨rfl, Nat.le_refl _⟩
    cases o with
    | none =>
      have g := mk_neg (n := ab_ (bw_parts b y y q x) (bw_parts b y y q 99)) (by omega)
      exact ⟨fun _ => take (fun c' hc' => by cases hc'), fun d => absurd g d⟩
    | some c' =>
      have hc'p := bw_parts_le b y y q c'
      have hab' := ab_lt hc'p hp9
      have hc'n : c' < b 0 2 := (bw_ls_mem.mp (List.mem_of_mem_take ho.1)).1
      have keep : (ab_ (bw_parts b y y q x) (bw_parts b y y q 99) < ab_ (bw_parts b y y q c') (bw_parts b y y q 99) ∨ (ab_ (bw_parts b y y q x) (bw_parts b y y q 99) = ab_ (bw_parts b y y q c') (bw_parts b y y q 99) ∧ c' ≤ x)) → kX6_maker_b84 L (nI y) (nI q) (nI w) (lN (q * b 10 y)) (nI (bw_parts b y y q 99)) (fun r S1 => kX7_maker M N (nI y) (nI q) (nI w) (fun r' => r = r' ∧ bw_R S1 L M N)) n (nI c') (nI (ab_ (bw_parts b y y q c') (bw_parts b y y q 99))) (nI (bw_parts b y y q c')) (nI (i + 1)) S1 := by
        intro g
        refine hcc (some c') ⟨(ls_take hi c').mpr (Or.inl ho.1), fun x' hx' => ?_⟩
        rcases (ls_take hi x').mp hx' with w1 | w1
        · exact ho.2 x' w1
        · rw [ex] at w1; subst w1; exact g
      refine pk_lt (ab_ (bw_parts b y y q c') (bw_parts b y y q 99)) (ab_ (bw_parts b y y q x) (bw_parts b y y q 99)) (fun g => take (fun c2 h => by cases h; exact Or.inl g)) (fun g => pk_eq (ab_ (bw_parts b y y q x) (bw_parts b y y q 99)) (ab_ (bw_parts b y y q c') (bw_parts b y y q 99)) (fun g2 => pk_le c' x (fun g3 => keep (Or.inr ⟨g2, g3⟩)) (fun g3 => take (fun c2 h => by cases h; exact Or.inr ⟨g2.symm, g3⟩))) (fun g2 => keep (Or.inl (by omega))))
end OPS
