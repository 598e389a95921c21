/-! ===== numbers ===== -/
def nv_R (v x : Nat) : Prop := (v = x ∧ v ≤ 9999) ∨ (v = 10000 ∧ 10000 ≤ x ∧ x ≤ 1000000)
section TP
variable {tb : Nat → Nat} {tn : Nat} {S M : SX} {L N : LX}
theorem nv_in {b : Nat} (hb : b < 2 ^ 31) (hm : (48 ≤ b ∧ b ≤ 48 + 9) = True) : bw_in (nI b) 48 57 = true := by
  rw [show (48 : Int) = ((48 : Nat) : Int) from rfl, show (57 : Int) = ((57 : Nat) : Int) from rfl, bw_in_nI hb]
  have := hm.symm ▸ trivial
  rw [decide_eq_true this.1, decide_eq_true (show b ≤ 57 by omega)]; rfl
theorem nv_nin {q : Nat} (hT : tpT tb tn) (hq : q < tn) (h : tp_dg tb tn q 9 = false) : bw_in (nI (tb q)) 48 57 = false := by
  have hb := hT.2 q hq
  rcases tp_dgF h hq with d | d
  · exact d
  · omega
theorem s_X3_num_go (hT : tpT tb tn) {m q0 : Nat} {post : Int32 → SX → Prop} : ∀ (f q v : Nat) (S : SX), tn - q = f → v ≤ 10000 → tpX tb tn S q → (∀ S', frX S S' → tpX tb tn S' (tp_nv tb tn f q v).2 → kX3_readNumber_b96 L (nI m) (nI q0) post (nI (tp_nv tb tn f q v).1) S') → kX3_readNumber_b26 L (nI m) (nI q0) post (f + 1) (nI v) S := by
  intro f
  have h100 := hT.1
  induction f with
  | zero =>
    intro q v S hf hv h hp
    have e : q = tn := by have := h.2.2.1; omega
    unfold kX3_readNumber_b26
    rw [h.1, h.2.1]
    exact pk_le tn q (fun _ => hp S (frX_r S) h) (fun z => by omega)
  | succ f ih =>
    intro q v S hf hv h hp
    have hlt : q < tn := by omega
    have hb := hT.2 q hlt
    unfold kX3_readNumber_b26
    rw [h.1, h.2.1, nI_clamp (show q < 2 ^ 31 by omega), h.2.2.2 q hlt, nI_1]
    refine pk_le tn q (fun z => by omega) (fun _ => ⟨pk_in q 100 (by omega), ?_⟩)
    unfold tp_nv at hp
    by_cases d : tp_dg tb tn q 9 = true
    · have e := tp_dgT d
      rw [if_pos d] at hp
      refine s_X6_wI 48 57 (bq_t (nv_in (by omega) (eq_true e.2)) ⟨pk_in q 100 (by omega), ?_⟩)
      have e1 : nI v * (10 : Int32) + nI (tb q) - (48 : Int32) = nI (v * 10 + tb q - 48) := by
        rw [show (10 : Int32) = nI 10 from rfl, show (48 : Int32) = nI 48 from rfl, pk_mul, nI_add, pk_sub (by omega)]
      have e2 : (if (10000 : Int32) < nI (v * 10 + tb q - 48) then (10000 : Int32) else nI (v * 10 + tb q - 48)) = nI (min (v * 10 + tb q - 48) 10000) := by
        rw [show (10000 : Int32) = nI 10000 from rfl]
        by_cases c : 10000 < v * 10 + tb q - 48
        · rw [if_pos ((nI_ltI (a := 10000) (by decide) (by omega)).mpr c), Nat.min_eq_right (by omega)]
        · rw [if_neg (fun z => c ((nI_ltI (a := 10000) (by decide) (by omega)).mp z)), Nat.min_eq_left (by omega)]
      rw [e1, e2]
      exact ih (q + 1) _ _ (by omega) (Nat.min_le_right _ _) (tpX_u h (by omega)) (fun S' g1 g2 => hp S' (frX_t (frX_u S _) g1) g2)
    · have d : tp_dg tb tn q 9 = false := by simpa using d
      rw [if_neg (by rw [d]; decide)] at hp
      exact s_X6_wI 48 57 (bq_f (nv_nin hT hlt d) (hp S (frX_r S) h))
theorem nv_le : ∀ (f q v : Nat), v ≤ 10000 → (tp_nv tb tn f q v).1 ≤ 10000 := by
  intro f
  induction f with
  | zero => intro q v h; exact h
  | succ f ih =>
    intro q v h
    unfold tp_nv
    split
    · exact ih _ _ (Nat.min_le_right _ _)
    · exact h
theorem s_X3_readNumber (hT : tpT tb tn) {p m : Nat} (hm : m ≤ 9999) (h : tpX tb tn S p) {post : Int32 → SX → Prop} (hp : ∀ S', frX S S' → tpX tb tn S' (mN tb tn m (false, p)).1.2 → ((mN tb tn m (false, p)).1.1 = true → post (-1) S') ∧ ((mN tb tn m (false, p)).1.1 = false → post (nI (mN tb tn m (false, p)).2) S')) : kX3_readNumber S L (nI m) post := by
  have h100 := hT.1
  unfold kX3_readNumber
  refine s_X3_next hT h (fun S1 g1 g2 => ?_)
  by_cases d : tp_dg tb tn (tp_s tb tn p) 9 = true
  · have e := tp_dgT d
    have hb := hT.2 _ e.1
    rw [if_pos e.1]
    refine s_X6_wI 48 57 (bq_t (nv_in (by omega) (eq_true e.2)) ?_)
    rw [g2.2.1]
    refine ⟨_, s_X3_num_go hT (tn - tp_s tb tn p) (tp_s tb tn p) 0 S1 rfl (by decide) g2 (fun S2 g3 g4 => ?_)⟩
    have hl := nv_le (tb := tb) (tn := tn) (tn - tp_s tb tn p) (tp_s tb tn p) 0 (by decide)
    unfold kX3_readNumber_b96
    by_cases c : (tp_nv tb tn (tn - tp_s tb tn p) (tp_s tb tn p) 0).1 ≤ m
    · have em : mN tb tn m (false, p) = ((false, (tp_nv tb tn (tn - tp_s tb tn p) (tp_s tb tn p) 0).2), (tp_nv tb tn (tn - tp_s tb tn p) (tp_s tb tn p) 0).1) := by unfold mN; simp [d, c]
      rw [em] at hp
      exact pk_le (tp_nv tb tn (tn - tp_s tb tn p) (tp_s tb tn p) 0).1 m (fun _ => (hp S2 (frX_t g1 g3) g4).2 rfl) (fun z => by omega)
    · have em : mN tb tn m (false, p) = ((true, tp_s tb tn p), 0) := by unfold mN; simp [d, c]
      rw [em] at hp
      exact pk_le (tp_nv tb tn (tn - tp_s tb tn p) (tp_s tb tn p) 0).1 m (fun z => absurd z c) (fun _ => (hp _ (frX_t g1 (frX_t g3 (frX_u _ _))) (tpX_u g4 (show tp_s tb tn p ≤ tn by omega))).1 rfl)
  · have d : tp_dg tb tn (tp_s tb tn p) 9 = false := by simpa using d
    have em : mN tb tn m (false, p) = ((true, tp_s tb tn p), 0) := by unfold mN; simp [d]
    rw [em] at hp
    refine s_X6_wI 48 57 (bq_f ?_ ((hp _ g1 g2).1 rfl))
    by_cases l : tp_s tb tn p < tn
    · rw [if_pos l]; exact nv_nin hT l d
    · rw [if_neg l]; unfold bw_in; have e : (-1 : Int32).toInt = -1 := rfl; rw [e]; rfl
theorem s_X7_num_go (hT : tpT tb tn) {m q0 : Nat} {post : Int32 → SX → Prop} : ∀ (f q v x : Nat) (M : SX), tn - q = f → nv_R v x → tpM tb tn M (false, q) → (∀ M' y, frM M M' → tpM tb tn M' (false, (tp_nv tb tn f q v).2) → nv_R (tp_nv tb tn f q v).1 y → kX7_number_b112 N (nI m) (nI q0) post (nI y) M') → kX7_number_b38 N (nI m) (nI q0) post (f + 1) (nI x) M := by
  intro f
  have h100 := hT.1
  induction f with
  | zero =>
    intro q v x M hf hv h hp
    have e : q = tn := by have := h.2.2.2.1; dsimp only at this; omega
    unfold kX7_number_b38
    rw [h.1, h.2.1]
    exact pk_le tn q (fun _ => hp M x (frM_r M) h hv) (fun z => by omega)
  | succ f ih =>
    intro q v x M hf hv h hp
    have hlt : q < tn := by omega
    have hb := hT.2 q hlt
    have hx : x ≤ 1000000 := by rcases hv with ⟨rfl, z⟩ | ⟨_, _, z⟩ <;> omega
    unfold kX7_number_b38
    rw [h.1, h.2.1, nI_clamp (show q < 2 ^ 31 by omega), h.2.2.2.2 q hlt, nI_1]
    refine pk_le tn q (fun z => by omega) (fun _ => ⟨pk_in q 100 (by omega), ?_⟩)
    unfold tp_nv at hp
    by_cases d : tp_dg tb tn q 9 = true
    · have e := tp_dgT d
      rw [if_pos d] at hp
      have e1 : (10 : Int32) * nI x + nI (tb q) - (48 : Int32) = nI (10 * x + tb q - 48) := by
        rw [show (10 : Int32) = nI 10 from rfl, show (48 : Int32) = nI 48 from rfl, pk_mul, nI_add, pk_sub (by omega)]
      rw [e1]
      refine s_X7_wI 48 57 (bq_t (nv_in (by omega) (eq_true e.2)) (pk_le x 99999 (fun c => ⟨pk_in q 100 (by omega), ?_⟩) (fun c => ?_)))
      · refine ih (q + 1) _ _ _ (by omega) ?_ (tpM_u4 h (by omega)) (fun M' y g1 g2 => hp M' y (frM_t (frM_u4 M _) g1) g2)
        unfold nv_R at hv ⊢
        rcases hv with ⟨rfl, z⟩ | ⟨z1, z2, z3⟩
        · by_cases c2 : v * 10 + tb q - 48 ≤ 9999
          · left; rw [Nat.min_eq_left (by omega)]; omega
          · right; rw [Nat.min_eq_right (by omega)]; omega
        · right; rw [Nat.min_eq_right (by omega)]; omega
      · refine ih (q + 1) _ _ _ (by omega) ?_ (tpM_u4 h (by omega)) (fun M' y g1 g2 => hp M' y (frM_t (frM_u4 M _) g1) g2)
        unfold nv_R at hv ⊢
        right
        rcases hv with ⟨rfl, z⟩ | ⟨z1, z2, z3⟩
        · omega
        · rw [Nat.min_eq_right (by omega)]; omega
    · have d : tp_dg tb tn q 9 = false := by simpa using d
      rw [if_neg (by rw [d]; decide)] at hp
      exact s_X7_wI 48 57 (bq_f (nv_nin hT hlt d) (hp M x (frM_r M) h hv))
theorem s_X7_number (hT : tpT tb tn) {s : Bool × Nat} {m : Nat} (hm : m ≤ 9999) (h : tpM tb tn M s) {post : Int32 → SX → Prop} (hp : ∀ M' r, frM M M' → tpM tb tn M' (mN tb tn m s).1 → ((mN tb tn m s).1.1 = false → r = nI (mN tb tn m s).2) → post r M') : kX7_number M N (nI m) post := by
  have h100 := hT.1
  obtain ⟨w, p⟩ := s
  cases w with
  | true =>
    unfold kX7_number
    exact ⟨fun z => by rw [h.2.2.1] at z; exact absurd z (show ¬ bw_i true = 0 by decide), fun _ => hp _ _ (frM_u5 _ _) (tpM_u5 (w := true) h) (fun z => absurd z (show ¬ (true = false) by decide))⟩
  | false =>
    unfold kX7_number
    refine ⟨fun _ => s_X7_here hT h (fun M1 g1 g2 => ?_), fun z => absurd h.2.2.1 z⟩
    have g2 : tpM tb tn M1 (false, tp_s tb tn p) := g2
    show kX7_in _ _ (if tp_s tb tn p < tn then nI (tb (tp_s tb tn p)) else 0).toInt64 _ _ _
    by_cases d : tp_dg tb tn (tp_s tb tn p) 9 = true
    · have e := tp_dgT d
      have hb := hT.2 _ e.1
      rw [if_pos e.1]
      refine s_X7_wI 48 57 (bq_t (nv_in (by omega) (eq_true e.2)) ?_)
      rw [g2.2.1]
      refine ⟨_, s_X7_num_go hT (tn - tp_s tb tn p) (tp_s tb tn p) 0 0 M1 rfl (Or.inl ⟨rfl, by decide⟩) g2 (fun M2 y g3 g4 g5 => ?_)⟩
      have hy : y ≤ 1000000 := by rcases g5 with ⟨z1, z⟩ | ⟨_, _, z⟩ <;> omega
      unfold kX7_number_b112 kX7_number_b123
      by_cases c : (tp_nv tb tn (tn - tp_s tb tn p) (tp_s tb tn p) 0).1 ≤ m
      · have em : mN tb tn m (false, p) = ((false, (tp_nv tb tn (tn - tp_s tb tn p) (tp_s tb tn p) 0).2), (tp_nv tb tn (tn - tp_s tb tn p) (tp_s tb tn p) 0).1) := by unfold mN; simp [d, c]
        have ey : (tp_nv tb tn (tn - tp_s tb tn p) (tp_s tb tn p) 0).1 = y := by rcases g5 with ⟨z1, z⟩ | ⟨z0, _, z⟩ <;> omega
        have g6 : tpM tb tn (xu M2 0 5 0) (false, (tp_nv tb tn (tn - tp_s tb tn p) (tp_s tb tn p) 0).2) := tpM_u5 (w := false) g4
        refine pk_le y m (fun _ => ⟨Or.inl rfl, fun _ => ?_, fun z => absurd (by rw [xu_ap, if_pos rfl, if_pos rfl]) z⟩) (fun z => by omega)
        rw [g6.2.1]
        refine hp _ _ (frM_t g1 (frM_t g3 (frM_t (frM_u5 _ _) (frM_u4 _ _)))) ?_ (fun _ => by rw [em, ← ey])
        rw [em]; exact tpM_u4 g6 g6.2.2.2.1
      · have em : mN tb tn m (false, p) = ((true, tp_s tb tn p), 0) := by unfold mN; simp [d, c]
        have ey : ¬ y ≤ m := by rcases g5 with ⟨z1, z⟩ | ⟨z0, _, z⟩ <;> omega
        have g6 : tpM tb tn (xu M2 0 5 1) (true, (tp_nv tb tn (tn - tp_s tb tn p) (tp_s tb tn p) 0).2) := tpM_u5 (w := true) g4
        refine pk_le y m (fun z => by omega) (fun _ => ⟨Or.inr rfl, fun z => ?_, fun _ => ?_⟩)
        · rw [xu_ap, if_pos rfl, if_pos rfl] at z; exact absurd z (by decide)
        · refine hp _ _ (frM_t g1 (frM_t g3 (frM_t (frM_u5 _ _) (frM_u4 _ _)))) ?_ (fun z => ?_)
          · rw [em]; exact tpM_u4 g6 (by have := e.1; omega)
          · rw [em] at z; exact absurd z (show ¬ (true = false) by decide)
    · have d : tp_dg tb tn (tp_s tb tn p) 9 = false := by simpa using d
      have em : mN tb tn m (false, p) = ((true, tp_s tb tn p), 0) := by unfold mN; simp [d]
      refine s_X7_wI 48 57 (bq_f ?_ ?_)
      · by_cases l : tp_s tb tn p < tn
        · rw [if_pos l]; exact nv_nin hT l d
        · rw [if_neg l]; unfold bw_in; have e : (0 : Int32).toInt = 0 := rfl; rw [e]; rfl
      · refine hp _ _ (frM_t g1 (frM_u5 _ _)) ?_ (fun z => ?_)
        · rw [em]; exact tpM_u5 (w := true) g2
        · rw [em] at z; exact absurd z (show ¬ (true = false) by decide)
theorem mC_f {c p : Nat} : (mC tb tn c (false, p)).1.1 = false := by unfold mC; dsimp only; rw [if_neg (by decide)]; split <;> rfl
theorem mC_w {c : Nat} {s : Bool × Nat} (h : s.1 = true) : mC tb tn c s = (s, false) := by unfold mC; rw [if_pos h]
theorem mD_w {m : Nat} {s : Bool × Nat} (h : s.1 = true) : (mD tb tn m s).1 = s := by unfold mD; rw [if_pos h]
theorem mN_w {m : Nat} {s : Bool × Nat} (h : s.1 = true) : (mN tb tn m s).1 = s := by unfold mN; rw [if_pos h]
theorem mT_w {c : Nat} {s : Bool × Nat} (h : s.1 = true) : mT tb tn c s = s := by unfold mT; rw [if_pos h]
theorem mP_w {c m : Nat} {s : Bool × Nat} (h : s.1 = true) : (mP tb tn c m s).1 = s := by unfold mP; rw [mC_w h]; rfl
theorem mT_C {c : Nat} {s : Bool × Nat} : mT tb tn c s = (!(mC tb tn c s).2, (mC tb tn c s).1.2) := by
  obtain ⟨w, p⟩ := s
  cases w with
  | true => rfl
  | false =>
    unfold mT mC
    by_cases d : tp_c tb tn c p = true
    · simp [d]
    · simp [d]
theorem eta_f {s : Bool × Nat} (h : s.1 = false) : s = (false, s.2) := by obtain ⟨w, p⟩ := s; dsimp only at h; rw [h]
theorem s_X3_perh (hT : tpT tb tn) {p c m : Nat} (hc : c < 2 ^ 31) (hm : m ≤ 9999) (h : tpX tb tn S p) {post : Int32 → SX → Prop} (hp : ∀ S', frX S S' → tpX tb tn S' (mP tb tn c m (false, p)).1.2 → ((mP tb tn c m (false, p)).1.1 = true → post (-1) S') ∧ ((mP tb tn c m (false, p)).1.1 = false → post (nI (mP tb tn c m (false, p)).2) S')) : kX3_readPerhaps S L (nI c) (nI m) post := by
  unfold kX3_readPerhaps
  refine s_X3_takes hT hc h (fun S1 g1 g2 => bw_br (fun q => ?_) (fun q => ?_))
  · have em : mP tb tn c m (false, p) = ((mC tb tn c (false, p)).1, 0) := by unfold mP; rw [q]; rfl
    rw [em] at hp
    exact (hp S1 g1 g2).2 mC_f
  · have em : mP tb tn c m (false, p) = mN tb tn m (false, (mC tb tn c (false, p)).1.2) := by unfold mP; rw [if_pos q]; congr 1; exact eta_f mC_f
    rw [em] at hp
    exact s_X3_readNumber hT hm g2 (fun S2 g3 g4 => hp S2 (frX_t g1 g3) g4)
/-- a number behind a sign, as the reference reads it -/
theorem s_X7_perh (hT : tpT tb tn) {s : Bool × Nat} {c m : Nat} (hc : c < 2 ^ 31) (h0 : 0 < c) (hm : m ≤ 9999) (h : tpM tb tn M s) {K : Int32 → SX → Prop} (hp : ∀ M' r, frM M M' → tpM tb tn M' (mP tb tn c m s).1 → ((mP tb tn c m s).1.1 = false → r = nI (mP tb tn c m s).2) → K r M') : kX7_has M N (nI c) (fun r S1 => (r = 0 → K 0 S1) ∧ (¬ r = 0 → kX7_number S1 N (nI m) (fun r2 S2 => K r2 S2))) := by
  refine s_X7_has hT hc h0 h (fun M1 g1 g2 => bw_br (fun q => ?_) (fun q => ?_))
  · have em : mP tb tn c m s = ((mC tb tn c s).1, 0) := by unfold mP; rw [q]; rfl
    rw [em] at hp
    exact hp M1 0 g1 g2 (fun _ => rfl)
  · have em : mP tb tn c m s = mN tb tn m (mC tb tn c s).1 := by unfold mP; rw [if_pos q]
    rw [em] at hp
    exact s_X7_number hT hm g2 (fun M2 r g3 g4 g5 => hp M2 r (frM_t g1 g3) g4 g5)
theorem mD_le {m : Nat} {s : Bool × Nat} : (mD tb tn m s).2 ≤ m := by
  unfold mD
  split
  · exact Nat.zero_le _
  · split
    · have := tp_dgT ‹_›; dsimp only; omega
    · exact Nat.zero_le _
theorem mN_le {m : Nat} {s : Bool × Nat} : (mN tb tn m s).2 ≤ m := by
  unfold mN
  split
  · exact Nat.zero_le _
  · split
    · split
      · assumption
      · exact Nat.zero_le _
    · exact Nat.zero_le _
theorem mP_le {c m : Nat} {s : Bool × Nat} : (mP tb tn c m s).2 ≤ m := by
  unfold mP
  split
  · exact mN_le
  · exact Nat.zero_le _
end TP
