/-! ===== the tape is read: what both readers do, step by step ===== -/
def tp_sk (tb : Nat → Nat) (tn : Nat) : Nat → Nat → Nat
  | 0, p => p
  | f + 1, p => if p < tn ∧ tb p = 32 then tp_sk tb tn f (p + 1) else p
def tp_s (tb : Nat → Nat) (tn p : Nat) : Nat := tp_sk tb tn (tn - p) p
def tp_c (tb : Nat → Nat) (tn c p : Nat) : Bool := decide (tp_s tb tn p < tn) && decide (tb (tp_s tb tn p) = c)
def tp_dg (tb : Nat → Nat) (tn q m : Nat) : Bool := decide (q < tn) && (decide (48 ≤ tb q) && decide (tb q ≤ 48 + m))
def tp_nv (tb : Nat → Nat) (tn : Nat) : Nat → Nat → Nat → Nat × Nat
  | 0, q, v => (v, q)
  | f + 1, q, v => if tp_dg tb tn q 9 then tp_nv tb tn f (q + 1) (min (v * 10 + tb q - 48) 10000) else (v, q)
def mD (tb : Nat → Nat) (tn m : Nat) (s : Bool × Nat) : (Bool × Nat) × Nat := if s.1 then (s, 0) else if tp_dg tb tn (tp_s tb tn s.2) m then ((false, tp_s tb tn s.2 + 1), tb (tp_s tb tn s.2) - 48) else ((true, tp_s tb tn s.2), 0)
def mC (tb : Nat → Nat) (tn c : Nat) (s : Bool × Nat) : (Bool × Nat) × Bool := if s.1 then (s, false) else if tp_c tb tn c s.2 then ((false, tp_s tb tn s.2 + 1), true) else ((false, tp_s tb tn s.2), false)
def mT (tb : Nat → Nat) (tn c : Nat) (s : Bool × Nat) : Bool × Nat := if s.1 then s else if tp_c tb tn c s.2 then (false, tp_s tb tn s.2 + 1) else (true, tp_s tb tn s.2)
def mN (tb : Nat → Nat) (tn m : Nat) (s : Bool × Nat) : (Bool × Nat) × Nat := if s.1 then (s, 0) else if tp_dg tb tn (tp_s tb tn s.2) 9 then (if (tp_nv tb tn (tn - tp_s tb tn s.2) (tp_s tb tn s.2) 0).1 ≤ m then ((false, (tp_nv tb tn (tn - tp_s tb tn s.2) (tp_s tb tn s.2) 0).2), (tp_nv tb tn (tn - tp_s tb tn s.2) (tp_s tb tn s.2) 0).1) else ((true, tp_s tb tn s.2), 0)) else ((true, tp_s tb tn s.2), 0)
def mP (tb : Nat → Nat) (tn c m : Nat) (s : Bool × Nat) : (Bool × Nat) × Nat := if (mC tb tn c s).2 then mN tb tn m (mC tb tn c s).1 else ((mC tb tn c s).1, 0)
def tpT (tb : Nat → Nat) (tn : Nat) : Prop := tn ≤ 100 ∧ ∀ j, j < tn → 32 ≤ tb j ∧ tb j ≤ 126
def tpX (tb : Nat → Nat) (tn : Nat) (S : SX) (p : Nat) : Prop := S 37 0 = nI tn ∧ S 37 1 = nI p ∧ p ≤ tn ∧ ∀ j, j < tn → S 38 j = nI (tb j)
def tpM (tb : Nat → Nat) (tn : Nat) (M : SX) (s : Bool × Nat) : Prop := M 0 3 = nI tn ∧ M 0 4 = nI s.2 ∧ M 0 5 = bw_i s.1 ∧ s.2 ≤ tn ∧ ∀ j, j < tn → M 14 j = nI (tb j)
def frX (S S' : SX) : Prop := ∀ q, q ≠ 37 → S' q = S q
def frM (M M' : SX) : Prop := (∀ q, q ≠ 0 → M' q = M q) ∧ ∀ j, j ≠ 4 → j ≠ 5 → M' 0 j = M 0 j
theorem frX_t {A B C : SX} (h : frX A B) (k : frX B C) : frX A C := fun q hq => by rw [k q hq, h q hq]
theorem frM_t {A B C : SX} (h : frM A B) (k : frM B C) : frM A C := ⟨fun q hq => by rw [k.1 q hq, h.1 q hq], fun j h1 h2 => by rw [k.2 j h1 h2, h.2 j h1 h2]⟩
theorem frX_r (A : SX) : frX A A := fun _ _ => rfl
theorem frM_r (A : SX) : frM A A := ⟨fun _ _ => rfl, fun _ _ _ => rfl⟩
theorem frX_u (A : SX) (v : Int32) : frX A (xu A 37 1 v) := fun q hq => xu_ne hq
theorem frM_u4 (A : SX) (v : Int32) : frM A (xu A 0 4 v) := ⟨fun q hq => xu_ne hq, fun j h1 h2 => by rw [xu_ap, if_pos rfl, if_neg h1]⟩
theorem frM_u5 (A : SX) (v : Int32) : frM A (xu A 0 5 v) := ⟨fun q hq => xu_ne hq, fun j h1 h2 => by rw [xu_ap, if_pos rfl, if_neg h2]⟩
section TP
variable {tb : Nat → Nat} {tn : Nat} {S M : SX} {L N : LX}
theorem tpX_u {p p' : Nat} (h : tpX tb tn S p) (hp : p' ≤ tn) : tpX tb tn (xu S 37 1 (nI p')) p' :=
  ⟨by rw [xu_ap, if_pos rfl, if_neg (by decide)]; exact h.1, by rw [xu_ap, if_pos rfl, if_pos rfl], hp, fun j hj => by rw [xu_ne (by decide)]; exact h.2.2.2 j hj⟩
theorem tpM_u4 {s : Bool × Nat} {p' : Nat} (h : tpM tb tn M s) (hp : p' ≤ tn) : tpM tb tn (xu M 0 4 (nI p')) (s.1, p') :=
  ⟨by rw [xu_ap, if_pos rfl, if_neg (by decide)]; exact h.1, by rw [xu_ap, if_pos rfl, if_pos rfl], by rw [xu_ap, if_pos rfl, if_neg (by decide)]; exact h.2.2.1, hp, fun j hj => by rw [xu_ne (by decide)]; exact h.2.2.2.2 j hj⟩
theorem tpM_u5 {s : Bool × Nat} {w : Bool} (h : tpM tb tn M s) : tpM tb tn (xu M 0 5 (bw_i w)) (w, s.2) :=
  ⟨by rw [xu_ap, if_pos rfl, if_neg (by decide)]; exact h.1, by rw [xu_ap, if_pos rfl, if_neg (by decide)]; exact h.2.1, by rw [xu_ap, if_pos rfl, if_pos rfl], h.2.2.2.1, fun j hj => by rw [xu_ne (by decide)]; exact h.2.2.2.2 j hj⟩
theorem s_X3_next_go {post : Int32 → SX → Prop} (hT : tpT tb tn) : ∀ (f p : Nat) (S : SX), tn - p = f → tpX tb tn S p → (∀ S', frX S S' → tpX tb tn S' (tp_sk tb tn f p) → post (if tp_sk tb tn f p < tn then nI (tb (tp_sk tb tn f p)) else -1) S') → kX3_next_b0 L post (f + 1) S := by
  intro f
  have h100 := hT.1
  induction f with
  | zero =>
    intro p S hf h hp
    have e : p = tn := by have := h.2.2.1; omega
    subst e
    have := hp S (frX_r S) h
    rw [if_neg (by unfold tp_sk; omega)] at this
    unfold kX3_next_b0 kX3_next_b38
    rw [h.1, h.2.1]
    exact pk_le p p (fun _ => pk_le p p (fun _ => this) (fun z => by omega)) (fun z => by omega)
  | succ f ih =>
    intro p S hf h hp
    have hlt : p < tn := by omega
    have hb := hT.2 p hlt
    unfold kX3_next_b0
    rw [h.1, h.2.1, nI_clamp (show p < 2 ^ 31 by omega), h.2.2.2 p hlt, nI_1]
    refine pk_le tn p (fun z => by omega) (fun _ => ⟨pk_in p 100 (by omega), pk_eq (tb p) 32 (fun e => ?_) (fun e => ?_)⟩)
    · refine ih (p + 1) _ (by omega) (tpX_u h (by omega)) (fun S' g1 g2 => ?_)
      have := hp S' (frX_t (frX_u S _) g1)
      unfold tp_sk at this
      rw [if_pos ⟨hlt, e⟩] at this
      exact this g2
    · have := hp S (frX_r S)
      unfold tp_sk at this
      rw [if_neg (fun d => e d.2), if_pos hlt] at this
      unfold kX3_next_b38
      rw [h.1, h.2.1, nI_clamp (show p < 2 ^ 31 by omega), h.2.2.2 p hlt]
      exact pk_le tn p (fun z => by omega) (fun _ => ⟨pk_in p 100 (by omega), this h⟩)
theorem s_X3_next (hT : tpT tb tn) {p : Nat} (h : tpX tb tn S p) {post : Int32 → SX → Prop} (hp : ∀ S', frX S S' → tpX tb tn S' (tp_s tb tn p) → post (if tp_s tb tn p < tn then nI (tb (tp_s tb tn p)) else -1) S') : kX3_next S L post := ⟨_, s_X3_next_go hT (tn - p) p S rfl h hp⟩
theorem s_X7_here_go {post : Int32 → SX → Prop} (hT : tpT tb tn) {w : Bool} : ∀ (f p : Nat) (M : SX), tn - p = f → tpM tb tn M (w, p) → (∀ M', frM M M' → tpM tb tn M' (w, tp_sk tb tn f p) → post (if tp_sk tb tn f p < tn then nI (tb (tp_sk tb tn f p)) else 0) M') → kX7_here_b0 N post (f + 1) M := by
  intro f
  have h100 := hT.1
  induction f with
  | zero =>
    intro p S hf h hp
    have e : p = tn := by have := h.2.2.2.1; omega
    subst e
    have := hp S (frM_r S) h
    rw [if_neg (by unfold tp_sk; omega)] at this
    unfold kX7_here_b0 kX7_here_b38
    rw [h.1, h.2.1]
    exact pk_le p p (fun _ => pk_le p p (fun _ => this) (fun z => by omega)) (fun z => by omega)
  | succ f ih =>
    intro p S hf h hp
    have hlt : p < tn := by omega
    have hb := hT.2 p hlt
    unfold kX7_here_b0
    rw [h.1, h.2.1, nI_clamp (show p < 2 ^ 31 by omega), h.2.2.2.2 p hlt, nI_1]
    refine pk_le tn p (fun z => by omega) (fun _ => ⟨pk_in p 100 (by omega), pk_eq (tb p) 32 (fun e => ?_) (fun e => ?_)⟩)
    · refine ih (p + 1) _ (by omega) (tpM_u4 h (by omega)) (fun S' g1 g2 => ?_)
      have := hp S' (frM_t (frM_u4 S _) g1)
      unfold tp_sk at this
      rw [if_pos ⟨hlt, e⟩] at this
      exact this g2
    · have := hp S (frM_r S)
      unfold tp_sk at this
      rw [if_neg (fun d => e d.2), if_pos hlt] at this
      unfold kX7_here_b38
      rw [h.1, h.2.1, nI_clamp (show p < 2 ^ 31 by omega), h.2.2.2.2 p hlt]
      exact pk_le tn p (fun z => by omega) (fun _ => ⟨pk_in p 100 (by omega), this h⟩)
theorem s_X7_here (hT : tpT tb tn) {s : Bool × Nat} (h : tpM tb tn M s) {post : Int32 → SX → Prop} (hp : ∀ M', frM M M' → tpM tb tn M' (s.1, tp_s tb tn s.2) → post (if tp_s tb tn s.2 < tn then nI (tb (tp_s tb tn s.2)) else 0) M') : kX7_here M N post := ⟨_, s_X7_here_go hT (tn - s.2) s.2 M rfl h hp⟩
theorem tp_cT {c p : Nat} (h : tp_c tb tn c p = true) : tp_s tb tn p < tn ∧ tb (tp_s tb tn p) = c := by
  unfold tp_c at h; rwa [Bool.and_eq_true, decide_eq_true_eq, decide_eq_true_eq] at h
theorem tp_cF {c p : Nat} (h : tp_c tb tn c p = false) : ¬ (tp_s tb tn p < tn ∧ tb (tp_s tb tn p) = c) := fun d => by
  unfold tp_c at h; rw [decide_eq_true d.1, decide_eq_true d.2] at h; exact absurd h (by decide)
theorem s_X3_takes (hT : tpT tb tn) {p c : Nat} (hc : c < 2 ^ 31) (h : tpX tb tn S p) {post : Int32 → SX → Prop} (hp : ∀ S', frX S S' → tpX tb tn S' (mC tb tn c (false, p)).1.2 → post (bw_i (mC tb tn c (false, p)).2) S') : kX3_takes S L (nI c) post := by
  unfold kX3_takes
  refine s_X3_next hT h (fun S1 g1 g2 => ?_)
  by_cases d : tp_c tb tn c p = true
  · have e := tp_cT d
    have em : mC tb tn c (false, p) = ((false, tp_s tb tn p + 1), true) := by unfold mC; simp [d]
    rw [em] at hp
    rw [if_pos e.1, e.2, g2.2.1, nI_1]
    exact ⟨fun _ => hp _ (frX_t g1 (frX_u _ _)) (tpX_u g2 (by omega)), fun z => absurd rfl z⟩
  · have d : tp_c tb tn c p = false := by simpa using d
    have e := tp_cF d
    have em : mC tb tn c (false, p) = ((false, tp_s tb tn p), false) := by unfold mC; simp [d]
    rw [em] at hp
    refine ⟨fun z => ?_, fun _ => hp _ g1 g2⟩
    exfalso
    by_cases l : tp_s tb tn p < tn
    · rw [if_pos l] at z
      have hb := hT.2 _ l
      exact e ⟨l, (nI_eq (by omega) hc).mp z⟩
    · rw [if_neg l] at z; exact nI_m1 hc z.symm
theorem s_X7_has (hT : tpT tb tn) {s : Bool × Nat} {c : Nat} (hc : c < 2 ^ 31) (h0 : 0 < c) (h : tpM tb tn M s) {post : Int32 → SX → Prop} (hp : ∀ M', frM M M' → tpM tb tn M' (mC tb tn c s).1 → post (bw_i (mC tb tn c s).2) M') : kX7_has M N (nI c) post := by
  have a0 : ∀ x : Int32, x + 0 = x := fun x => Int32.add_zero x
  obtain ⟨w, p⟩ := s
  cases w with
  | true =>
    have em : mC tb tn c (true, p) = ((true, p), false) := rfl
    rw [em] at hp
    unfold kX7_has kX7_has_b19 kX7_has_b20
    refine ⟨fun z => by rw [h.2.2.1] at z; exact absurd z (show ¬ bw_i true = 0 by decide), fun _ => ⟨fun _ => ⟨Or.inl rfl, ?_⟩, fun z => absurd rfl z⟩⟩
    rw [a0, h.2.1]
    exact hp _ (frM_u4 _ _) (tpM_u4 h h.2.2.2.1)
  | false =>
    unfold kX7_has
    refine ⟨fun _ => s_X7_here hT h (fun M1 g1 g2 => ?_), fun z => absurd h.2.2.1 z⟩
    show ((if tp_s tb tn p < tn then nI (tb (tp_s tb tn p)) else 0) = nI c → _) ∧ (¬ (if tp_s tb tn p < tn then nI (tb (tp_s tb tn p)) else 0) = nI c → _)
    by_cases d : tp_c tb tn c p = true
    · have e := tp_cT d
      have em : mC tb tn c (false, p) = ((false, tp_s tb tn p + 1), true) := by unfold mC; simp [d]
      rw [em] at hp
      rw [if_pos e.1, e.2]
      refine ⟨fun _ => ?_, fun z => absurd rfl z⟩
      unfold kX7_has_b20
      rw [g2.2.1, nI_1]
      exact ⟨fun z => absurd z (by decide), fun _ => ⟨Or.inr rfl, hp _ (frM_t g1 (frM_u4 _ _)) (tpM_u4 g2 (by have := e.1; show tp_s tb tn p + 1 ≤ tn; omega))⟩⟩
    · have d : tp_c tb tn c p = false := by simpa using d
      have e := tp_cF d
      have em : mC tb tn c (false, p) = ((false, tp_s tb tn p), false) := by unfold mC; simp [d]
      rw [em] at hp
      refine ⟨fun z => ?_, fun _ => ?_⟩
      · exfalso
        by_cases l : tp_s tb tn p < tn
        · rw [if_pos l] at z
          have hb := hT.2 _ l
          exact e ⟨l, (nI_eq (by omega) hc).mp z⟩
        · rw [if_neg l] at z; exact nI_ne0 h0 hc z.symm
      · unfold kX7_has_b19 kX7_has_b20
        rw [a0, g2.2.1]
        exact ⟨fun _ => ⟨Or.inl rfl, hp _ (frM_t g1 (frM_u4 _ _)) (tpM_u4 g2 g2.2.2.2.1)⟩, fun z => absurd rfl z⟩
theorem tp_s_fix {q : Nat} (h : tb q ≠ 32) : tp_s tb tn q = q := by
  unfold tp_s
  cases tn - q with
  | zero => rfl
  | succ f => unfold tp_sk; rw [if_neg (fun z => h z.2)]
theorem tp_dgT {q m : Nat} (h : tp_dg tb tn q m = true) : q < tn ∧ 48 ≤ tb q ∧ tb q ≤ 48 + m := by
  unfold tp_dg at h; rwa [Bool.and_eq_true, Bool.and_eq_true, decide_eq_true_eq, decide_eq_true_eq, decide_eq_true_eq] at h
theorem tp_dgF {q m : Nat} (h : tp_dg tb tn q m = false) (hq : q < tn) : bw_in (nI (tb q)) 48 (48 + m : Nat) = false ∨ ¬ tb q < 2 ^ 31 := by
  by_cases d : tb q < 2 ^ 31
  · left
    unfold tp_dg at h
    rw [decide_eq_true hq, Bool.true_and] at h
    exact (bw_in_nI d 48 (48 + m)).trans h
  · exact Or.inr d
theorem dg_sub {a m : Nat} (ha : a < 2 ^ 30) : bw_in (nI a - (48 : Int32)) 0 m = (decide (48 ≤ a) && decide (a ≤ 48 + m)) := by
  have e := pk_sub_toInt (a := a) (b := 48) ha (by decide)
  unfold bw_in
  rw [show (48 : Int32) = nI 48 from rfl, e]
  congr 1
  · exact decide_eq_decide.mpr (by omega)
  · exact decide_eq_decide.mpr (by omega)
theorem s_X3_readDigit (hT : tpT tb tn) {p m : Nat} (hm : m ≤ 9) (h : tpX tb tn S p) {post : Int32 → SX → Prop} (hp : ∀ S', frX S S' → tpX tb tn S' (mD tb tn m (false, p)).1.2 → ((mD tb tn m (false, p)).1.1 = true → post (-1) S') ∧ ((mD tb tn m (false, p)).1.1 = false → post (nI (mD tb tn m (false, p)).2) S')) : kX3_readDigit S L (nI m) post := by
  unfold kX3_readDigit
  refine s_X3_next hT h (fun S1 g1 g2 => ?_)
  have hmi : (nI m).toInt64.toInt = (m : Int) := by rw [bw_wide, nI_toInt (by omega)]
  by_cases d : tp_dg tb tn (tp_s tb tn p) m = true
  · have e := tp_dgT d
    have em : mD tb tn m (false, p) = ((false, tp_s tb tn p + 1), tb (tp_s tb tn p) - 48) := by unfold mD; simp [d]
    rw [em] at hp
    have hb := hT.2 _ e.1
    rw [if_pos e.1]
    refine s_X6_wI 0 m (bq_t ?_ ?_) rfl hmi
    · rw [dg_sub (by omega), decide_eq_true e.2.1, decide_eq_true e.2.2]; rfl
    · rw [g2.2.1, nI_1, show (48 : Int32) = nI 48 from rfl, pk_sub e.2.1]
      exact (hp _ (frX_t g1 (frX_u _ _)) (tpX_u g2 (show tp_s tb tn p + 1 ≤ tn by omega))).2 rfl
  · have d : tp_dg tb tn (tp_s tb tn p) m = false := by simpa using d
    have em : mD tb tn m (false, p) = ((true, tp_s tb tn p), 0) := by unfold mD; simp [d]
    rw [em] at hp
    refine s_X6_wI 0 m (bq_f ?_ ((hp _ g1 g2).1 rfl)) rfl hmi
    by_cases l : tp_s tb tn p < tn
    · rw [if_pos l]
      have hb := hT.2 _ l
      rw [dg_sub (by omega)]
      unfold tp_dg at d
      rw [decide_eq_true l, Bool.true_and] at d
      exact d
    · rw [if_neg l]
      unfold bw_in
      have e : ((-1 : Int32) - 48).toInt = -49 := rfl
      rw [e]; rfl
theorem s_X7_digit (hT : tpT tb tn) {s : Bool × Nat} {m : Nat} (hm : m ≤ 9) (h : tpM tb tn M s) {post : Int32 → SX → Prop} (hp : ∀ M' r, frM M M' → tpM tb tn M' (mD tb tn m s).1 → ((mD tb tn m s).1.1 = false → r = nI (mD tb tn m s).2) → post r M') : kX7_digit M N (nI m) post := by
  have a0 : ∀ x : Int32, x + 0 = x := fun x => Int32.add_zero x
  obtain ⟨w, p⟩ := s
  have hW : ∀ M1 p1, frM M M1 → tpM tb tn M1 (true, p1) → (mD tb tn m (w, p)).1 = (true, p1) → kX7_digit_b27 N (nI m) post (kX7_digit_b32 N (nI m) post) M1 ∧ True := by
    intro M1 p1 g1 g2 em
    unfold kX7_digit_b27 kX7_digit_b32 kX7_digit_b53
    refine ⟨⟨Or.inr rfl, fun z => ?_, fun _ => ⟨fun z => ?_, fun _ => ?_⟩⟩, trivial⟩
    · rw [xu_ap, if_pos rfl, if_pos rfl] at z; exact absurd z (by decide)
    · rw [xu_ap, if_pos rfl, if_pos rfl] at z; exact absurd z (by decide)
    · have g3 := tpM_u5 (w := true) g2
      have e4 : xu M1 0 5 1 0 4 = nI p1 := g3.2.1
      rw [a0, e4]
      refine hp _ _ (frM_t g1 (frM_t (frM_u5 _ _) (frM_u4 _ _))) ?_ (fun z => ?_)
      · rw [em]; exact tpM_u4 g3 g3.2.2.2.1
      · rw [em] at z; exact absurd z (show ¬ (true = false) by decide)
  cases w with
  | true =>
    unfold kX7_digit
    exact ⟨fun z => by rw [h.2.2.1] at z; exact absurd z (show ¬ bw_i true = 0 by decide), fun _ => (hW M p (frM_r M) h rfl).1⟩
  | false =>
    unfold kX7_digit
    have hhi : ((48 : Int32) + nI m).toInt64.toInt = ((48 + m : Nat) : Int) := by rw [bw_wide, show (48 : Int32) = nI 48 from rfl, nI_add, nI_toInt (by omega)]
    refine ⟨fun _ => s_X7_here hT h (fun M1 g1 g2 => ?_), fun z => absurd h.2.2.1 z⟩
    show kX7_in _ _ (if tp_s tb tn p < tn then nI (tb (tp_s tb tn p)) else 0).toInt64 _ _ _
    have hsk : tp_s tb tn (tp_s tb tn p) = tp_s tb tn p ∨ True := Or.inr trivial
    by_cases d : tp_dg tb tn (tp_s tb tn p) m = true
    · have e := tp_dgT d
      have em : mD tb tn m (false, p) = ((false, tp_s tb tn p + 1), tb (tp_s tb tn p) - 48) := by unfold mD; simp [d]
      have hb := hT.2 _ e.1
      rw [if_pos e.1]
      refine s_X7_wI 48 (48 + m : Nat) (bq_t ?_ ?_) rfl hhi
      · rw [show ((48 : Int)) = ((48 : Nat) : Int) from rfl, bw_in_nI (by omega), decide_eq_true e.2.1, decide_eq_true e.2.2]; rfl
      · unfold kX7_digit_b32
        have g3 := tpM_u5 (w := false) g2
        have g3 : tpM tb tn (xu M1 0 5 0) (false, tp_s tb tn p) := g3
        refine ⟨Or.inl rfl, fun _ => ?_, fun z => absurd (by rw [xu_ap, if_pos rfl, if_pos rfl]) z⟩
        have hs2 : tp_s tb tn (tp_s tb tn p) = tp_s tb tn p := tp_s_fix (by omega)
        refine s_X7_here hT g3 (fun M2 g4 g5 => ?_)
        show kX7_digit_b53 _ _ _ ((if tp_s tb tn (tp_s tb tn p) < tn then nI (tb (tp_s tb tn (tp_s tb tn p))) else 0) - 48) M2
        have g5 : tpM tb tn M2 (false, tp_s tb tn (tp_s tb tn p)) := g5
        rw [hs2] at g5 ⊢
        rw [if_pos e.1, show (48 : Int32) = nI 48 from rfl, pk_sub e.2.1]
        unfold kX7_digit_b53
        rw [g5.2.1, nI_1]
        refine ⟨fun _ => hp _ _ (frM_t g1 (frM_t (frM_u5 _ _) (frM_t g4 (frM_u4 _ _)))) ?_ (fun _ => by rw [em]), fun z => absurd g5.2.2.1 z⟩
        rw [em]
        exact tpM_u4 g5 (by have := e.1; omega)
    · have d : tp_dg tb tn (tp_s tb tn p) m = false := by simpa using d
      have em : mD tb tn m (false, p) = ((true, tp_s tb tn p), 0) := by unfold mD; simp [d]
      refine s_X7_wI 48 (48 + m : Nat) (bq_f ?_ ?_) rfl hhi
      · by_cases l : tp_s tb tn p < tn
        · rw [if_pos l]
          have hb := hT.2 _ l
          rcases tp_dgF d l with q | q
          · exact q
          · omega
        · rw [if_neg l]
          unfold bw_in
          have e : (0 : Int32).toInt = 0 := rfl
          rw [e]; rfl
      · have g3 : tpM tb tn M1 (false, tp_s tb tn p) := g2
        unfold kX7_digit_b27 kX7_digit_b32 kX7_digit_b53
        refine ⟨Or.inr rfl, fun z => ?_, fun _ => ⟨fun z => ?_, fun _ => ?_⟩⟩
        · rw [xu_ap, if_pos rfl, if_pos rfl] at z; exact absurd z (by decide)
        · rw [xu_ap, if_pos rfl, if_pos rfl] at z; exact absurd z (by decide)
        · have g4 := tpM_u5 (w := true) g3
          have e4 : xu M1 0 5 1 0 4 = nI (tp_s tb tn p) := g4.2.1
          rw [a0, e4]
          refine hp _ _ (frM_t g1 (frM_t (frM_u5 _ _) (frM_u4 _ _))) ?_ (fun z => ?_)
          · rw [em]; exact tpM_u4 g4 g4.2.2.2.1
          · rw [em] at z; exact absurd z (show ¬ (true = false) by decide)
end TP
