/-! ===== one clause: a law, a will ===== -/
section DEFS
variable (tb : Nat → Nat) (tn p : Nat)
def lw1 : (Bool × Nat) × Nat := mD tb tn 7 (false, p)
def lw2 : Bool × Nat := mT tb tn 58 (lw1 tb tn p).1
def lw3 : (Bool × Nat) × Nat := mP tb tn 102 9999 (lw2 tb tn p)
def lw4 : (Bool × Nat) × Nat := mP tb tn 108 9999 (lw3 tb tn p).1
def lw5 : (Bool × Nat) × Nat := mP tb tn 104 999 (lw4 tb tn p).1
def lw6 : (Bool × Nat) × Bool := mC tb tn 76 (lw5 tb tn p).1
def lw7 : (Bool × Nat) × Bool := mC tb tn 71 (lw6 tb tn p).1
def lw8 : (Bool × Nat) × Bool := mC tb tn 84 (lw7 tb tn p).1
def lw9 : (Bool × Nat) × Bool := mC tb tn 87 (lw8 tb tn p).1
def lwS : Bool × Nat := (lw9 tb tn p).1
def lb4 (a b c d : Bool) : Nat := (if a then 1 else 0) + (if b then 2 else 0) + (if c then 4 else 0) + (if d then 8 else 0)
def lwV (t : Nat) : Nat := if t = 0 then (lw1 tb tn p).2 else if t = 1 then (lw3 tb tn p).2 else if t = 2 then (lw4 tb tn p).2 else if t = 3 then (lw5 tb tn p).2 else lb4 (lw6 tb tn p).2 (lw7 tb tn p).2 (lw8 tb tn p).2 (lw9 tb tn p).2
def wl1 : (Bool × Nat) × Nat := mD tb tn 7 (false, p)
def wl2 : (Bool × Nat) × Nat := mD tb tn 5 (wl1 tb tn p).1
def wl3 : (Bool × Nat) × Bool := mC tb tn 109 (wl2 tb tn p).1
def wl4 : Bool × Nat := if (wl3 tb tn p).2 then (wl3 tb tn p).1 else mT tb tn 119 (wl3 tb tn p).1
def wl5 : (Bool × Nat) × Nat := mN tb tn 9999 (wl4 tb tn p)
def wl6 : (Bool × Nat) × Nat := mP tb tn 108 9999 (wl5 tb tn p).1
def wl7 : (Bool × Nat) × Nat := mP tb tn 103 9999 (wl6 tb tn p).1
def wl8 : (Bool × Nat) × Nat := mP tb tn 116 9999 (wl7 tb tn p).1
def wlS : Bool × Nat := (wl8 tb tn p).1
def wlV (t : Nat) : Nat := if t = 0 then (wl1 tb tn p).2 else if t = 1 then (wl2 tb tn p).2 else if t = 2 then (if (wl3 tb tn p).2 then 0 else 1) else if t = 3 then (wl5 tb tn p).2 else if t = 4 then (wl6 tb tn p).2 else if t = 5 then (wl7 tb tn p).2 else (wl8 tb tn p).2
end DEFS
theorem lb4_le (a b c d : Bool) : lb4 a b c d ≤ 15 := by cases a <;> cases b <;> cases c <;> cases d <;> decide
theorem br_same {c : Bool} {K : Int32 → Prop} {x y : Int32} (h : K (if c then y else x)) : (bw_i c = 0 → K x) ∧ (¬ bw_i c = 0 → K y) := by
  cases c
  · exact ⟨fun _ => h, fun z => absurd rfl z⟩
  · exact ⟨fun z => absurd z (by decide), fun _ => h⟩
def frR (k : Nat) (M M' : SX) : Prop := (∀ q, q ≠ 0 → q ≠ 15 → M' q = M q) ∧ (∀ j, j ≠ 4 → j ≠ 5 → M' 0 j = M 0 j) ∧ ∀ j, j < k → M' 15 j = M 15 j
theorem frR_t {k : Nat} {A B C : SX} (h : frR k A B) (g : frR k B C) : frR k A C := ⟨fun q h1 h2 => by rw [g.1 q h1 h2, h.1 q h1 h2], fun j h1 h2 => by rw [g.2.1 j h1 h2, h.2.1 j h1 h2], fun j hj => by rw [g.2.2 j hj, h.2.2 j hj]⟩
theorem frR_M {k : Nat} {A B : SX} (h : frM A B) : frR k A B := ⟨fun q h1 _ => h.1 q h1, h.2, fun j _ => by rw [h.1 15 (by decide)]⟩
theorem frR_u {k t : Nat} (A : SX) (v : Int32) : frR k A (xu A 15 (k + t) v) := ⟨fun q _ h2 => xu_ne h2, fun j _ _ => by rw [xu_ne (by decide)], fun j hj => by rw [xu_ap, if_pos rfl, if_neg (by omega)]⟩
section TP
variable {tb : Nat → Nat} {tn p : Nat} {S M : SX} {L N : LX}
theorem mC_1 {c : Nat} {s : Bool × Nat} : (mC tb tn c s).1.1 = s.1 := by
  obtain ⟨w, p⟩ := s
  cases w with
  | true => rfl
  | false => exact mC_f
theorem lwS_1 : (lwS tb tn p).1 = (lw5 tb tn p).1.1 := by
  unfold lwS lw9 lw8 lw7 lw6; rw [mC_1, mC_1, mC_1, mC_1]
theorem lwS5 (h : (lw5 tb tn p).1.1 = true) : lwS tb tn p = (lw5 tb tn p).1 := by
  have e6 : (lw6 tb tn p).1 = (lw5 tb tn p).1 := by unfold lw6; rw [mC_w h]
  have e7 : (lw7 tb tn p).1 = (lw5 tb tn p).1 := by unfold lw7; rw [mC_w (by rw [e6]; exact h), e6]
  have e8 : (lw8 tb tn p).1 = (lw5 tb tn p).1 := by unfold lw8; rw [mC_w (by rw [e7]; exact h), e7]
  unfold lwS lw9; rw [mC_w (by rw [e8]; exact h), e8]
theorem lwS4 (h : (lw4 tb tn p).1.1 = true) : lwS tb tn p = (lw4 tb tn p).1 := by
  have e : (lw5 tb tn p).1 = (lw4 tb tn p).1 := by unfold lw5; rw [mP_w h]
  rw [lwS5 (by rw [e]; exact h), e]
theorem lwS3 (h : (lw3 tb tn p).1.1 = true) : lwS tb tn p = (lw3 tb tn p).1 := by
  have e : (lw4 tb tn p).1 = (lw3 tb tn p).1 := by unfold lw4; rw [mP_w h]
  rw [lwS4 (by rw [e]; exact h), e]
theorem lwS2 (h : (lw2 tb tn p).1 = true) : lwS tb tn p = lw2 tb tn p := by
  have e : (lw3 tb tn p).1 = lw2 tb tn p := by unfold lw3; rw [mP_w h]
  rw [lwS3 (by rw [e]; exact h), e]
theorem lwS1 (h : (lw1 tb tn p).1.1 = true) : lwS tb tn p = (lw1 tb tn p).1 := by
  have e : lw2 tb tn p = (lw1 tb tn p).1 := by unfold lw2; rw [mT_w h]
  rw [lwS2 (by rw [e]; exact h), e]
theorem wlS7 (h : (wl7 tb tn p).1.1 = true) : wlS tb tn p = (wl7 tb tn p).1 := by unfold wlS wl8; rw [mP_w h]
theorem wlS6 (h : (wl6 tb tn p).1.1 = true) : wlS tb tn p = (wl6 tb tn p).1 := by
  have e : (wl7 tb tn p).1 = (wl6 tb tn p).1 := by unfold wl7; rw [mP_w h]
  rw [wlS7 (by rw [e]; exact h), e]
theorem wlS5 (h : (wl5 tb tn p).1.1 = true) : wlS tb tn p = (wl5 tb tn p).1 := by
  have e : (wl6 tb tn p).1 = (wl5 tb tn p).1 := by unfold wl6; rw [mP_w h]
  rw [wlS6 (by rw [e]; exact h), e]
theorem wlS4 (h : (wl4 tb tn p).1 = true) : wlS tb tn p = wl4 tb tn p := by
  have e : (wl5 tb tn p).1 = wl4 tb tn p := by unfold wl5; rw [mN_w h]
  rw [wlS5 (by rw [e]; exact h), e]
theorem wlS2 (h : (wl2 tb tn p).1.1 = true) : wlS tb tn p = (wl2 tb tn p).1 := by
  have e3 : wl3 tb tn p = ((wl2 tb tn p).1, false) := by unfold wl3; rw [mC_w h]
  have e : wl4 tb tn p = (wl2 tb tn p).1 := by unfold wl4; rw [e3]; exact mT_w h
  rw [wlS4 (by rw [e]; exact h), e]
theorem wlS1 (h : (wl1 tb tn p).1.1 = true) : wlS tb tn p = (wl1 tb tn p).1 := by
  have e : (wl2 tb tn p).1 = (wl1 tb tn p).1 := by unfold wl2; rw [mD_w h]
  rw [wlS2 (by rw [e]; exact h), e]
theorem tpM_15 {s : Bool × Nat} (h : tpM tb tn M s) (i : Nat) (v : Int32) : tpM tb tn (xu M 15 i v) s := by
  unfold tpM; rw [xu_ne (by decide), xu_ne (by decide)]; exact h
/-! the reference reads a law -/
theorem s_X7_readRule (hT : tpT tb tn) {k : Nat} (hk : k + 7 ≤ 56) (h : tpM tb tn M (false, p)) {post : SX → Prop} (hp : ∀ M', frR k M M' → tpM tb tn M' (lwS tb tn p) → ((lwS tb tn p).1 = false → ∀ t, t < 5 → M' 15 (k + t) = nI (lwV tb tn p t)) → post M') : kX7_readRule M N (nI k) post := by
  have a1 : nI k + (1 : Int32) = nI (k + 1) := nI_add k 1
  have a2 : nI k + (2 : Int32) = nI (k + 2) := nI_add k 2
  have a3 : nI k + (3 : Int32) = nI (k + 3) := nI_add k 3
  have a4 : nI k + (4 : Int32) = nI (k + 4) := nI_add k 4
  unfold kX7_readRule
  refine s_X7_digit hT (m := 7) (by decide) h (fun M1 r1 f1 (t1 : tpM tb tn M1 (lw1 tb tn p).1) (v1 : (lw1 tb tn p).1.1 = false → r1 = nI (lw1 tb tn p).2) => ⟨pk_in k 56 (by omega), ?_⟩)
  rw [nI_clamp (show k < 2 ^ 31 by omega)]
  refine s_X7_has hT (c := 58) (by decide) (by decide) (tpM_15 t1 k r1) (fun M2 f2 t2 => ?_)
  refine br_same (K := fun z => kX7_readRule_b27 N (nI k) post z M2) ?_
  have z2 : (if (mC tb tn 58 (lw1 tb tn p).1).2 then (0 : Int32) else 1) = bw_i (!(mC tb tn 58 (lw1 tb tn p).1).2) := by cases (mC tb tn 58 (lw1 tb tn p).1).2 <;> rfl
  rw [z2]
  have t3 : tpM tb tn (xu M2 0 5 (bw_i (!(mC tb tn 58 (lw1 tb tn p).1).2))) (lw2 tb tn p) := by
    unfold lw2; rw [mT_C]; exact tpM_u5 t2
  unfold kX7_readRule_b27
  refine ⟨bw_i01 _, ?_⟩
  rw [a1]
  refine s_X7_perh hT (c := 102) (m := 9999) (by decide) (by decide) (by decide) t3 (K := fun r S => kX7_readRule_b57 N (nI k) post (nI (k + 1)) r S) (fun M3 r3 f3 (t4 : tpM tb tn M3 (lw3 tb tn p).1) (v3 : (lw3 tb tn p).1.1 = false → r3 = nI (lw3 tb tn p).2) => ?_)
  unfold kX7_readRule_b57
  rw [a2, nI_clamp (show k + 1 < 2 ^ 31 by omega)]
  refine ⟨pk_in (k + 1) 56 (by omega), s_X7_perh hT (c := 108) (m := 9999) (by decide) (by decide) (by decide) (tpM_15 t4 (k + 1) r3) (K := fun r S => kX7_readRule_b85 N (nI k) post (nI (k + 2)) r S) (fun M4 r4 f4 (t5 : tpM tb tn M4 (lw4 tb tn p).1) (v4 : (lw4 tb tn p).1.1 = false → r4 = nI (lw4 tb tn p).2) => ?_)⟩
  unfold kX7_readRule_b85
  rw [a3, nI_clamp (show k + 2 < 2 ^ 31 by omega)]
  refine ⟨pk_in (k + 2) 56 (by omega), s_X7_perh hT (c := 104) (m := 999) (by decide) (by decide) (by decide) (tpM_15 t5 (k + 2) r4) (K := fun r S => kX7_readRule_b113 N (nI k) post (nI (k + 3)) r S) (fun M5 r5 f5 (t6 : tpM tb tn M5 (lw5 tb tn p).1) (v5 : (lw5 tb tn p).1.1 = false → r5 = nI (lw5 tb tn p).2) => ?_)⟩
  unfold kX7_readRule_b113
  rw [nI_clamp (show k + 3 < 2 ^ 31 by omega)]
  refine ⟨pk_in (k + 3) 56 (by omega), s_X7_has hT (c := 76) (by decide) (by decide) (tpM_15 t6 (k + 3) r5) (fun M6 f6 (t7 : tpM tb tn M6 (lw6 tb tn p).1) => br_same (c := (lw6 tb tn p).2) (K := fun z => kX7_readRule_b128 N (nI k) post z M6) ?_)⟩
  unfold kX7_readRule_b128
  refine s_X7_has hT (c := 71) (by decide) (by decide) t7 (fun M7 f7 (t8 : tpM tb tn M7 (lw7 tb tn p).1) => br_same (c := (lw7 tb tn p).2) (K := fun z => kX7_readRule_b144 N (nI k) post (if (lw6 tb tn p).2 then 1 else 0) z M7) ?_)
  unfold kX7_readRule_b144
  refine s_X7_has hT (c := 84) (by decide) (by decide) t8 (fun M8 f8 (t9 : tpM tb tn M8 (lw8 tb tn p).1) => br_same (c := (lw8 tb tn p).2) (K := fun z => kX7_readRule_b161 N (nI k) post ((if (lw6 tb tn p).2 then 1 else 0) ||| (if (lw7 tb tn p).2 then 2 else 0)) z M8) ?_)
  unfold kX7_readRule_b161
  rw [a4, nI_clamp (show k + 4 < 2 ^ 31 by omega)]
  refine s_X7_has hT (c := 87) (by decide) (by decide) t9 (fun M9 f9 (t10 : tpM tb tn M9 (lwS tb tn p)) => ?_)
  have p4 : vp_in (nI (k + 4)) 56 := pk_in (k + 4) 56 (by omega)
  refine br_same (c := (lw9 tb tn p).2) (K := fun z => vp_in (nI (k + 4)) 56 ∧ post (xu M9 15 (k + 4) ((((if (lw6 tb tn p).2 then (1 : Int32) else 0) ||| (if (lw7 tb tn p).2 then (2 : Int32) else 0)) ||| (if (lw8 tb tn p).2 then (4 : Int32) else 0)) ||| z))) ⟨p4, ?_⟩
  have c2 : M2 15 = xu M1 15 k r1 15 := f2.1 15 (by decide)
  have c3 : M3 15 = M2 15 := by rw [f3.1 15 (by decide), xu_ne (by decide)]
  have c4 : M4 15 = xu M3 15 (k + 1) r3 15 := f4.1 15 (by decide)
  have c5 : M5 15 = xu M4 15 (k + 2) r4 15 := f5.1 15 (by decide)
  have c6 : M6 15 = xu M5 15 (k + 3) r5 15 := f6.1 15 (by decide)
  have c9 : M9 15 = M6 15 := by rw [f9.1 15 (by decide), f8.1 15 (by decide), f7.1 15 (by decide)]
  refine hp _ ?_ (tpM_15 t10 _ _) (fun hf t ht => ?_)
  · refine frR_t (frR_M f1) (frR_t (frR_u (t := 0) M1 r1) (frR_t (frR_M f2) (frR_t (frR_M (frM_u5 _ _)) (frR_t (frR_M f3) (frR_t (frR_u (t := 1) M3 r3) (frR_t (frR_M f4) (frR_t (frR_u (t := 2) M4 r4) (frR_t (frR_M f5) (frR_t (frR_u (t := 3) M5 r5) (frR_t (frR_M f6) (frR_t (frR_M f7) (frR_t (frR_M f8) (frR_t (frR_M f9) (frR_u (t := 4) M9 _))))))))))))))
  · have h5 : (lw5 tb tn p).1.1 = false := by rw [← lwS_1]; exact hf
    have h4 : (lw4 tb tn p).1.1 = false := by
      apply Classical.byContradiction; intro z
      have z : (lw4 tb tn p).1.1 = true := by simpa using z
      rw [lwS4 z] at hf; rw [z] at hf; exact absurd hf (by decide)
    have h3 : (lw3 tb tn p).1.1 = false := by
      apply Classical.byContradiction; intro z
      have z : (lw3 tb tn p).1.1 = true := by simpa using z
      rw [lwS3 z] at hf; rw [z] at hf; exact absurd hf (by decide)
    have h1 : (lw1 tb tn p).1.1 = false := by
      apply Classical.byContradiction; intro z
      have z : (lw1 tb tn p).1.1 = true := by simpa using z
      rw [lwS1 z] at hf; rw [z] at hf; exact absurd hf (by decide)
    have w1 := v1 h1
    have w3 := v3 h3
    have w4 := v4 h4
    have w5 := v5 h5
    rcases (show t = 0 ∨ t = 1 ∨ t = 2 ∨ t = 3 ∨ t = 4 by omega) with rfl | rfl | rfl | rfl | rfl
    · rw [xu_ap, if_pos rfl, if_neg (by omega), c9, c6, xu_ap, if_pos rfl, if_neg (by omega), c5, xu_ap, if_pos rfl, if_neg (by omega), c4, xu_ap, if_pos rfl, if_neg (by omega), c3, c2, xu_ap, if_pos rfl, if_pos (by omega), w1]; rfl
    · rw [xu_ap, if_pos rfl, if_neg (by omega), c9, c6, xu_ap, if_pos rfl, if_neg (by omega), c5, xu_ap, if_pos rfl, if_neg (by omega), c4, xu_ap, if_pos rfl, if_pos rfl, w3]; rfl
    · rw [xu_ap, if_pos rfl, if_neg (by omega), c9, c6, xu_ap, if_pos rfl, if_neg (by omega), c5, xu_ap, if_pos rfl, if_pos rfl, w4]; rfl
    · rw [xu_ap, if_pos rfl, if_neg (by omega), c9, c6, xu_ap, if_pos rfl, if_pos rfl, w5]; rfl
    · rw [xu_ap, if_pos rfl, if_pos rfl]
      show _ = nI (lb4 (lw6 tb tn p).2 (lw7 tb tn p).2 (lw8 tb tn p).2 (lw9 tb tn p).2)
      cases (lw6 tb tn p).2 <;> cases (lw7 tb tn p).2 <;> cases (lw8 tb tn p).2 <;> cases (lw9 tb tn p).2 <;> decide
/-! the class reads a law -/
theorem s_X0_changeFrom {y : Nat} (hy : y ≤ 8) {v2 v3 v4 v5 : Int32} {post : SX → Prop} (hp : ∀ S', (∀ q, ¬ (40 ≤ q ∧ q ≤ 43) → S' q = S q) → (∀ j, j < 8 → S' 40 j = (if y ≤ j then v2 else S 40 j) ∧ S' 41 j = (if y ≤ j then v3 else S 41 j) ∧ S' 42 j = (if y ≤ j then v4 else S 42 j) ∧ S' 43 j = (if y ≤ j then v5 else S 43 j)) → post S') : kX0_changeFrom S L (nI y) v2 v3 v4 v5 post := by
  unfold kX0_changeFrom
  refine pk_loop (fun f i (s : SX) => kX0_changeFrom_b3 L (nI y) v2 v3 v4 v5 post f (nI i) s) (fun i s => y ≤ i ∧ (∀ q, ¬ (40 ≤ q ∧ q ≤ 43) → s q = S q) ∧ (∀ j, s 40 j = (if y ≤ j ∧ j < i then v2 else S 40 j) ∧ s 41 j = (if y ≤ j ∧ j < i then v3 else S 41 j) ∧ s 42 j = (if y ≤ j ∧ j < i then v4 else S 42 j) ∧ s 43 j = (if y ≤ j ∧ j < i then v5 else S 43 j))) 8 y S hy ⟨Nat.le_refl _, fun _ _ => rfl, fun j => by simp only [if_neg (show ¬ (y ≤ j ∧ j < y) by omega)]; exact ⟨trivial, trivial, trivial, trivial⟩⟩ ?_ ?_
  · intro f s hs
    unfold kX0_changeFrom_b3
    refine ⟨fun _ => hp s hs.2.1 (fun j hj => ?_), fun z => absurd (by decide) z⟩
    have := hs.2.2 j
    simp only [hj, and_true] at this
    exact this
  · intro f i s hi hs hc
    unfold kX0_changeFrom_b3
    rw [nI_clamp (show i < 2 ^ 31 by omega), nI_1 i]
    have p8 : vp_in (nI i) 8 := pk_in i 8 hi
    refine pk_le 8 i (fun z => by omega) (fun _ => ⟨p8, p8, p8, p8, hc _ ⟨by have := hs.1; omega, fun q hq => by rw [xu_ne (by omega), xu_ne (by omega), xu_ne (by omega), xu_ne (by omega)]; exact hs.2.1 q hq, fun j => ?_⟩⟩)
    have yi := hs.1
    have := hs.2.2 j
    by_cases c : j = i
    · subst c
      rw [if_pos (by omega), if_pos (by omega), if_pos (by omega), if_pos (by omega)]
      simp [xu_ap]
    · by_cases d : y ≤ j ∧ j < i
      · simp only [if_pos d] at this
        rw [if_pos (by omega), if_pos (by omega), if_pos (by omega), if_pos (by omega)]
        simp [xu_ap, c, this]
      · simp only [if_neg d] at this
        rw [if_neg (by omega), if_neg (by omega), if_neg (by omega), if_neg (by omega)]
        simp [xu_ap, c, this]
end TP
