/-! ===== all clauses ===== -/
def pf_st (tb : Nat → Nat) (tn : Nat) (cS : Nat → Bool × Nat) : Nat → Nat
  | 0 => 0
  | i + 1 => tp_s tb tn (cS (pf_st tb tn cS i)).2 + 1
def pf_end (tb : Nat → Nat) (tn : Nat) (cS : Nat → Bool × Nat) : Nat → Nat → Nat × (Bool × Nat)
  | 0, n => (n, (true, 0))
  | e + 1, n => if (cS (pf_st tb tn cS n)).1 then (n, cS (pf_st tb tn cS n)) else if tp_s tb tn (cS (pf_st tb tn cS n)).2 < tn then (if e ≠ 0 ∧ tb (tp_s tb tn (cS (pf_st tb tn cS n)).2) = 59 then pf_end tb tn cS e (n + 1) else (n, (true, tp_s tb tn (cS (pf_st tb tn cS n)).2))) else (n, (false, tp_s tb tn (cS (pf_st tb tn cS n)).2))
def pf_r (x : Nat × (Bool × Nat)) : Int32 := if x.2.1 then (-20 : Int32) - nI x.2.2 else nI (x.1 + 1)
def frA (M M' : SX) : Prop := (∀ q, q ≠ 0 → q ≠ 15 → M' q = M q) ∧ ∀ j, j ≠ 3 → j ≠ 4 → j ≠ 5 → M' 0 j = M 0 j
theorem frA_t {A B C : SX} (h : frA A B) (g : frA B C) : frA A C := ⟨fun q h1 h2 => by rw [g.1 q h1 h2, h.1 q h1 h2], fun j h1 h2 h3 => by rw [g.2 j h1 h2 h3, h.2 j h1 h2 h3]⟩
theorem frA_R {k : Nat} {A B : SX} (h : frR k A B) : frA A B := ⟨h.1, fun j _ h2 h3 => h.2.1 j h2 h3⟩
theorem frA_M {A B : SX} (h : frM A B) : frA A B := ⟨fun q h1 _ => h.1 q h1, fun j _ h2 h3 => h.2 j h2 h3⟩
section TP
variable {tb : Nat → Nat} {tn p : Nat} {S M : SX} {L N : LX}
theorem tp_sk_ne : ∀ (f p : Nat), tn ≤ p + f → tp_sk tb tn f p < tn → tb (tp_sk tb tn f p) ≠ 32 := by
  intro f
  induction f with
  | zero => intro p h q; unfold tp_sk at q; omega
  | succ f ih =>
    intro p h q
    unfold tp_sk at q ⊢
    by_cases c : p < tn ∧ tb p = 32
    · rw [if_pos c] at q ⊢; exact ih (p + 1) (by omega) q
    · rw [if_neg c] at q ⊢; exact fun z => c ⟨q, z⟩
theorem tp_s_ss (p : Nat) : tp_s tb tn (tp_s tb tn p) = tp_s tb tn p := by
  by_cases c : tp_s tb tn p < tn
  · exact tp_s_fix (tp_sk_ne _ _ (by omega) c)
  · generalize tp_s tb tn p = q at c ⊢
    unfold tp_s
    rw [show tn - q = 0 by omega]; rfl
theorem pf_59 {q : Nat} : tp_c tb tn 59 (tp_s tb tn q) = (decide (tp_s tb tn q < tn) && decide (tb (tp_s tb tn q) = 59)) := by unfold tp_c; rw [tp_s_ss]
theorem pf_w {cS : Nat → Bool × Nat} {e n : Nat} (q : (cS (pf_st tb tn cS n)).1 = true) : pf_end tb tn cS (e + 1) n = (n, cS (pf_st tb tn cS n)) := by unfold pf_end; rw [if_pos q]
theorem pf_o {cS : Nat → Bool × Nat} {e n : Nat} (q : (cS (pf_st tb tn cS n)).1 = false) (c : ¬ tp_s tb tn (cS (pf_st tb tn cS n)).2 < tn) : pf_end tb tn cS (e + 1) n = (n, (false, tp_s tb tn (cS (pf_st tb tn cS n)).2)) := by
  have q' : ¬ (cS (pf_st tb tn cS n)).1 = true := by rw [q]; decide
  unfold pf_end; rw [if_neg q', if_neg c]
theorem pf_x {cS : Nat → Bool × Nat} {e n : Nat} (q : (cS (pf_st tb tn cS n)).1 = false) (c : tp_s tb tn (cS (pf_st tb tn cS n)).2 < tn) (d : ¬ (e ≠ 0 ∧ tb (tp_s tb tn (cS (pf_st tb tn cS n)).2) = 59)) : pf_end tb tn cS (e + 1) n = (n, (true, tp_s tb tn (cS (pf_st tb tn cS n)).2)) := by
  have q' : ¬ (cS (pf_st tb tn cS n)).1 = true := by rw [q]; decide
  unfold pf_end; rw [if_neg q', if_pos c, if_neg d]
theorem pf_g {cS : Nat → Bool × Nat} {e n : Nat} (q : (cS (pf_st tb tn cS n)).1 = false) (c : tp_s tb tn (cS (pf_st tb tn cS n)).2 < tn) (d : e ≠ 0 ∧ tb (tp_s tb tn (cS (pf_st tb tn cS n)).2) = 59) : pf_end tb tn cS (e + 1) n = pf_end tb tn cS e (n + 1) := by
  have q' : ¬ (cS (pf_st tb tn cS n)).1 = true := by rw [q]; decide
  conv => lhs; unfold pf_end
  rw [if_neg q', if_pos c, if_pos d]
theorem mC_y {c : Nat} {s : Bool × Nat} (q : s.1 = false) (d : tp_s tb tn s.2 < tn ∧ tb (tp_s tb tn s.2) = c) : mC tb tn c s = ((false, tp_s tb tn s.2 + 1), true) := by
  have q' : ¬ s.1 = true := by rw [q]; decide
  have e : tp_c tb tn c s.2 = true := by unfold tp_c; rw [decide_eq_true d.1, decide_eq_true d.2]; rfl
  unfold mC; rw [if_neg q', if_pos e]
theorem mC_n {c : Nat} {s : Bool × Nat} (q : s.1 = false) (d : ¬ (tp_s tb tn s.2 < tn ∧ tb (tp_s tb tn s.2) = c)) : mC tb tn c s = ((false, tp_s tb tn s.2), false) := by
  have q' : ¬ s.1 = true := by rw [q]; decide
  have e : ¬ tp_c tb tn c s.2 = true := fun y => d (tp_cT y)
  unfold mC; rw [if_neg q', if_neg e]
theorem pf_end_le {cS : Nat → Bool × Nat} (hc : ∀ q, q ≤ tn → (cS q).2 ≤ tn) (hs : ∀ q, q ≤ tn → tp_s tb tn q ≤ tn) : ∀ (e n : Nat), pf_st tb tn cS n ≤ tn → n + e ≤ 8 → 0 < e → (pf_end tb tn cS e n).2.2 ≤ tn ∧ (pf_end tb tn cS e n).1 < 8 := by
  intro e
  induction e with
  | zero => intro n _ _ h; omega
  | succ e ih =>
    intro n h1 h2 _
    have b1 := hc _ h1
    have b2 := hs _ b1
    unfold pf_end
    split
    · exact ⟨b1, by dsimp only; omega⟩
    · split
      · split
        · rename_i c1 c2 c3
          exact ih (n + 1) (by show tp_s tb tn _ + 1 ≤ tn; omega) (by omega) (by omega)
        · exact ⟨b2, by dsimp only; omega⟩
      · exact ⟨b2, by dsimp only; omega⟩

def lr_row (V : Nat → Nat → Nat) (b0 : Nat → Nat → Nat) : Nat → Nat → Nat → Nat
  | 0, r, j => b0 r j
  | n + 1, r, j => if V n 0 ≤ j then V n (r + 1) else lr_row V b0 n r j
def lr_I (V b0 : Nat → Nat → Nat) (n : Nat) (S : SX) : Prop := ∀ j, j < 8 → S 40 j = nI (lr_row V b0 n 0 j) ∧ S 41 j = nI (lr_row V b0 n 1 j) ∧ S 42 j = nI (lr_row V b0 n 2 j) ∧ S 43 j = nI (lr_row V b0 n 3 j)
def lr_V (tb : Nat → Nat) (tn n t : Nat) : Nat := lwV tb tn (pf_st tb tn (lwS tb tn) n) t
theorem s_X3_lwI (hT : tpT tb tn) {b0 : Nat → Nat → Nat} {n : Nat} (h : tpX tb tn S (pf_st tb tn (lwS tb tn) n)) (hI : lr_I (lr_V tb tn) b0 n S) (hn : n < 8) {post : Int32 → SX → Prop} (hp : ∀ S', (∀ q, q ≠ 37 → ¬ (40 ≤ q ∧ q ≤ 43) → S' q = S q) → tpX tb tn S' (lwS tb tn (pf_st tb tn (lwS tb tn) n)).2 → ((lwS tb tn (pf_st tb tn (lwS tb tn) n)).1 = false → lr_I (lr_V tb tn) b0 (n + 1) S') → post (bw_i (!(lwS tb tn (pf_st tb tn (lwS tb tn) n)).1)) S') : kX3_readLaw S L post := by
  refine s_X3_readLaw hT h (fun S' g1 g2 g3 => hp S' g1 g2 (fun z j hj => ?_))
  have k := g3 z j hj
  have i := hI j hj
  rw [i.1, i.2.1, i.2.2.1, i.2.2.2] at k
  unfold lr_row
  show S' 40 j = nI (if lwV tb tn (pf_st tb tn (lwS tb tn) n) 0 ≤ j then lwV tb tn (pf_st tb tn (lwS tb tn) n) 1 else _) ∧ S' 41 j = nI (if lwV tb tn (pf_st tb tn (lwS tb tn) n) 0 ≤ j then lwV tb tn (pf_st tb tn (lwS tb tn) n) 2 else _) ∧ S' 42 j = nI (if lwV tb tn (pf_st tb tn (lwS tb tn) n) 0 ≤ j then lwV tb tn (pf_st tb tn (lwS tb tn) n) 3 else _) ∧ S' 43 j = nI (if lwV tb tn (pf_st tb tn (lwS tb tn) n) 0 ≤ j then lwV tb tn (pf_st tb tn (lwS tb tn) n) 4 else _)
  by_cases c : lwV tb tn (pf_st tb tn (lwS tb tn) n) 0 ≤ j
  · simp only [if_pos c] at k ⊢; exact k
  · simp only [if_neg c] at k ⊢; exact k
theorem lr_I_fr {V b0 : Nat → Nat → Nat} {n : Nat} {S S' : SX} (h : lr_I V b0 n S) (g : frX S S') : lr_I V b0 n S' := by
  unfold lr_I; rw [g 40 (by decide), g 41 (by decide), g 42 (by decide), g 43 (by decide)]; exact h

theorem s_X3_readLaws_go (hT : tpT tb tn) {b0 : Nat → Nat → Nat} {post : Int32 → SX → Prop} : ∀ (e n : Nat) (S : SX), n + e = 8 → 0 < e → tpX tb tn S (pf_st tb tn (lwS tb tn) n) → lr_I (lr_V tb tn) b0 n S → (∀ S', (∀ q, q ≠ 37 → ¬ (40 ≤ q ∧ q ≤ 43) → S' q = S q) → ((pf_end tb tn (lwS tb tn) e n).2.1 = false → lr_I (lr_V tb tn) b0 ((pf_end tb tn (lwS tb tn) e n).1 + 1) S') → post (pf_r (pf_end tb tn (lwS tb tn) e n)) S') → kX3_readLaws_b7 L post (e + 1) (nI (n + 1)) S := by
  intro e
  induction e with
  | zero => intro n S _ h; omega
  | succ e ih =>
    intro n S hn _ h hI hp
    unfold kX3_readLaws_b7 kX3_readLaws_b51 kX3_fault
    refine pk_lt 8 (n + 1) (fun z => by omega) (fun _ => s_X3_lwI hT h hI (by omega) (fun S1 f1 t1 i1 => bw_br (fun q => ?_) (fun q => ?_)))
    · have q : (lwS tb tn (pf_st tb tn (lwS tb tn) n)).1 = true := by simpa using q
      have ee : pf_end tb tn (lwS tb tn) (e + 1) n = (n, lwS tb tn (pf_st tb tn (lwS tb tn) n)) := pf_w q
      rw [ee] at hp
      have := hp S1 f1 (fun z => by rw [q] at z; exact absurd z (by decide))
      unfold pf_r at this
      rw [if_pos q] at this
      rw [t1.2.1]; exact this
    · have q : (lwS tb tn (pf_st tb tn (lwS tb tn) n)).1 = false := by simpa using q
      have i1 := i1 q
      refine s_X3_next hT t1 (fun S2 f2 t2 => ?_)
      have f12 : ∀ q, q ≠ 37 → ¬ (40 ≤ q ∧ q ≤ 43) → S2 q = S q := fun q h1 h2 => by rw [f2 q h1, f1 q h1 h2]
      have i2 := lr_I_fr i1 f2
      by_cases c : tp_s tb tn (lwS tb tn (pf_st tb tn (lwS tb tn) n)).2 < tn
      · rw [if_pos c]
        have hb := hT.2 _ c
        refine ⟨fun z => absurd z (nI_m1 (by omega)), fun _ => ?_⟩
        have hfail : ∀ S3, frX S2 S3 → tpX tb tn S3 (tp_s tb tn (lwS tb tn (pf_st tb tn (lwS tb tn) n)).2) → ¬ (e ≠ 0 ∧ tb (tp_s tb tn (lwS tb tn (pf_st tb tn (lwS tb tn) n)).2) = 59) → post ((-20 : Int32) - S3 37 1) S3 := by
          intro S3 f3 t3 d
          have ee : pf_end tb tn (lwS tb tn) (e + 1) n = (n, (true, tp_s tb tn (lwS tb tn (pf_st tb tn (lwS tb tn) n)).2)) := pf_x q c d
          rw [ee] at hp
          rw [t3.2.1]
          exact hp S3 (fun q h1 h2 => by rw [f3 q h1, f12 q h1 h2]) (fun z => absurd z (show ¬ (true = false) by decide))
        refine pk_eq (n + 1) 8 (fun z => hfail S2 (frX_r _) t2 (by omega)) (fun z => s_X3_takes hT (c := 59) (by decide) t2 (fun S3 f3 t3 => ?_))
        by_cases d : tb (tp_s tb tn (lwS tb tn (pf_st tb tn (lwS tb tn) n)).2) = 59
        · have em : mC tb tn 59 (false, tp_s tb tn (lwS tb tn (pf_st tb tn (lwS tb tn) n)).2) = ((false, tp_s tb tn (lwS tb tn (pf_st tb tn (lwS tb tn) n)).2 + 1), true) := by rw [mC_y rfl (by dsimp only; rw [tp_s_ss]; exact ⟨c, d⟩)]; dsimp only; rw [tp_s_ss]
          rw [em] at t3 ⊢
          have ee : pf_end tb tn (lwS tb tn) (e + 1) n = pf_end tb tn (lwS tb tn) e (n + 1) := pf_g q c ⟨by omega, d⟩
          rw [ee] at hp
          rw [nI_1]
          refine bf_t (ih (n + 1) S3 (by omega) (by omega) t3 (lr_I_fr i2 f3) (fun S' g1 g2 => hp S' (fun q h1 h2 => by rw [g1 q h1 h2, f3 q h1, f12 q h1 h2]) g2))
        · have em : mC tb tn 59 (false, tp_s tb tn (lwS tb tn (pf_st tb tn (lwS tb tn) n)).2) = ((false, tp_s tb tn (lwS tb tn (pf_st tb tn (lwS tb tn) n)).2), false) := by rw [mC_n rfl (by dsimp only; rw [tp_s_ss]; exact fun y => d y.2)]; dsimp only; rw [tp_s_ss]
          rw [em] at t3 ⊢
          exact bf_f (hfail S3 f3 t3 (fun z => d z.2))
      · rw [if_neg c]
        have ee : pf_end tb tn (lwS tb tn) (e + 1) n = (n, (false, tp_s tb tn (lwS tb tn (pf_st tb tn (lwS tb tn) n)).2)) := pf_o q c
        rw [ee] at hp
        exact ⟨fun _ => hp S2 f12 (fun _ => i2), fun z => absurd rfl z⟩

def wr_I (V b0 : Nat → Nat → Nat) (n : Nat) (S : SX) : Prop := S 44 0 = nI n ∧ ∀ i, i < n → S 45 i = nI (V i 0) ∧ S 46 i = nI (V i 1) ∧ S 47 i = nI (V i 2) ∧ S 48 (4 * i) = nI (V i 3) ∧ S 48 (4 * i + 1) = nI (V i 4) ∧ S 48 (4 * i + 2) = nI (V i 5) ∧ S 48 (4 * i + 3) = nI (V i 6)
def wr_V (tb : Nat → Nat) (tn n t : Nat) : Nat := wlV tb tn (pf_st tb tn (wlS tb tn) n) t
theorem s_X3_wlI (hT : tpT tb tn) {b0 : Nat → Nat → Nat} {n : Nat} (h : tpX tb tn S (pf_st tb tn (wlS tb tn) n)) (hI : wr_I (wr_V tb tn) b0 n S) (hn : n < 8) {post : Int32 → SX → Prop} (hp : ∀ S', (∀ q, q ≠ 37 → ¬ (44 ≤ q ∧ q ≤ 48) → S' q = S q) → tpX tb tn S' (wlS tb tn (pf_st tb tn (wlS tb tn) n)).2 → ((wlS tb tn (pf_st tb tn (wlS tb tn) n)).1 = false → wr_I (wr_V tb tn) b0 (n + 1) S') → post (bw_i (!(wlS tb tn (pf_st tb tn (wlS tb tn) n)).1)) S') : kX3_readWill S L post := by
  refine s_X3_readWill hT (show n < 24 by omega) hI.1 h (fun S' g1 g2 g3 => hp S' g1 g2 (fun z => ⟨(g3 z).1, fun i hi => ?_⟩))
  obtain ⟨_, p1, p2, p3, p4, p5, p6, p7, p8⟩ := g3 z
  by_cases c : i = n
  · subst c
    refine ⟨(p1 i).trans (by rw [if_pos rfl]; rfl), (p2 i).trans (by rw [if_pos rfl]; rfl), (p3 i).trans (by rw [if_pos rfl]; rfl), p5, p6, p7, p8⟩
  · have k := hI.2 i (by omega)
    refine ⟨(p1 i).trans (by rw [if_neg c]; exact k.1), (p2 i).trans (by rw [if_neg c]; exact k.2.1), (p3 i).trans (by rw [if_neg c]; exact k.2.2.1), (p4 _ (by omega)).trans k.2.2.2.1, (p4 _ (by omega)).trans k.2.2.2.2.1, (p4 _ (by omega)).trans k.2.2.2.2.2.1, (p4 _ (by omega)).trans k.2.2.2.2.2.2⟩
theorem wr_I_fr {V b0 : Nat → Nat → Nat} {n : Nat} {S S' : SX} (h : wr_I V b0 n S) (g : frX S S') : wr_I V b0 n S' := by
  unfold wr_I; rw [g 44 (by decide), g 45 (by decide), g 46 (by decide), g 47 (by decide), g 48 (by decide)]; exact h

theorem s_X3_readWills_go (hT : tpT tb tn) {b0 : Nat → Nat → Nat} {post : Int32 → SX → Prop} : ∀ (e n : Nat) (S : SX), n + e = 8 → 0 < e → tpX tb tn S (pf_st tb tn (wlS tb tn) n) → wr_I (wr_V tb tn) b0 n S → (∀ S', (∀ q, q ≠ 37 → ¬ (44 ≤ q ∧ q ≤ 48) → S' q = S q) → ((pf_end tb tn (wlS tb tn) e n).2.1 = false → wr_I (wr_V tb tn) b0 ((pf_end tb tn (wlS tb tn) e n).1 + 1) S') → post (pf_r (pf_end tb tn (wlS tb tn) e n)) S') → kX3_readWills_b7 L post (e + 1) (nI (n + 1)) S := by
  intro e
  induction e with
  | zero => intro n S _ h; omega
  | succ e ih =>
    intro n S hn _ h hI hp
    unfold kX3_readWills_b7 kX3_readWills_b51 kX3_fault
    refine pk_lt 8 (n + 1) (fun z => by omega) (fun _ => s_X3_wlI hT h hI (by omega) (fun S1 f1 t1 i1 => bw_br (fun q => ?_) (fun q => ?_)))
    · have q : (wlS tb tn (pf_st tb tn (wlS tb tn) n)).1 = true := by simpa using q
      have ee : pf_end tb tn (wlS tb tn) (e + 1) n = (n, wlS tb tn (pf_st tb tn (wlS tb tn) n)) := pf_w q
      rw [ee] at hp
      have := hp S1 f1 (fun z => by rw [q] at z; exact absurd z (by decide))
      unfold pf_r at this
      rw [if_pos q] at this
      rw [t1.2.1]; exact this
    · have q : (wlS tb tn (pf_st tb tn (wlS tb tn) n)).1 = false := by simpa using q
      have i1 := i1 q
      refine s_X3_next hT t1 (fun S2 f2 t2 => ?_)
      have f12 : ∀ q, q ≠ 37 → ¬ (44 ≤ q ∧ q ≤ 48) → S2 q = S q := fun q h1 h2 => by rw [f2 q h1, f1 q h1 h2]
      have i2 := wr_I_fr i1 f2
      by_cases c : tp_s tb tn (wlS tb tn (pf_st tb tn (wlS tb tn) n)).2 < tn
      · rw [if_pos c]
        have hb := hT.2 _ c
        refine ⟨fun z => absurd z (nI_m1 (by omega)), fun _ => ?_⟩
        have hfail : ∀ S3, frX S2 S3 → tpX tb tn S3 (tp_s tb tn (wlS tb tn (pf_st tb tn (wlS tb tn) n)).2) → ¬ (e ≠ 0 ∧ tb (tp_s tb tn (wlS tb tn (pf_st tb tn (wlS tb tn) n)).2) = 59) → post ((-20 : Int32) - S3 37 1) S3 := by
          intro S3 f3 t3 d
          have ee : pf_end tb tn (wlS tb tn) (e + 1) n = (n, (true, tp_s tb tn (wlS tb tn (pf_st tb tn (wlS tb tn) n)).2)) := pf_x q c d
          rw [ee] at hp
          rw [t3.2.1]
          exact hp S3 (fun q h1 h2 => by rw [f3 q h1, f12 q h1 h2]) (fun z => absurd z (show ¬ (true = false) by decide))
        refine pk_eq (n + 1) 8 (fun z => hfail S2 (frX_r _) t2 (by omega)) (fun z => s_X3_takes hT (c := 59) (by decide) t2 (fun S3 f3 t3 => ?_))
        by_cases d : tb (tp_s tb tn (wlS tb tn (pf_st tb tn (wlS tb tn) n)).2) = 59
        · have em : mC tb tn 59 (false, tp_s tb tn (wlS tb tn (pf_st tb tn (wlS tb tn) n)).2) = ((false, tp_s tb tn (wlS tb tn (pf_st tb tn (wlS tb tn) n)).2 + 1), true) := by rw [mC_y rfl (by dsimp only; rw [tp_s_ss]; exact ⟨c, d⟩)]; dsimp only; rw [tp_s_ss]
          rw [em] at t3 ⊢
          have ee : pf_end tb tn (wlS tb tn) (e + 1) n = pf_end tb tn (wlS tb tn) e (n + 1) := pf_g q c ⟨by omega, d⟩
          rw [ee] at hp
          rw [nI_1]
          refine bf_t (ih (n + 1) S3 (by omega) (by omega) t3 (wr_I_fr i2 f3) (fun S' g1 g2 => hp S' (fun q h1 h2 => by rw [g1 q h1 h2, f3 q h1, f12 q h1 h2]) g2))
        · have em : mC tb tn 59 (false, tp_s tb tn (wlS tb tn (pf_st tb tn (wlS tb tn) n)).2) = ((false, tp_s tb tn (wlS tb tn (pf_st tb tn (wlS tb tn) n)).2), false) := by rw [mC_n rfl (by dsimp only; rw [tp_s_ss]; exact fun y => d y.2)]; dsimp only; rw [tp_s_ss]
          rw [em] at t3 ⊢
          exact bf_f (hfail S3 f3 t3 (fun z => d z.2))
      · rw [if_neg c]
        have ee : pf_end tb tn (wlS tb tn) (e + 1) n = (n, (false, tp_s tb tn (wlS tb tn (pf_st tb tn (wlS tb tn) n)).2)) := pf_o q c
        rw [ee] at hp
        exact ⟨fun _ => hp S2 f12 (fun _ => i2), fun z => absurd rfl z⟩

/-! the reference -/
theorem s_X7_fin (hT : tpT tb tn) {v1 : Int32} {m : Nat} {s : Bool × Nat} (h : tpM tb tn M s) {post : Int32 → SX → Prop} {f : Nat} (hp : ∀ M', frA M M' → M' 0 3 = 0 → M' 15 = M 15 → post (if s.1 then (-20 : Int32) - nI s.2 else if tp_s tb tn s.2 < tn then (-20 : Int32) - nI (tp_s tb tn s.2) else nI m) M') : kX7_readAll_b14 N v1 post (f + 1) (nI m) (0 : Int32) M := by
  have hfr : ∀ (A : SX) (v : Int32), frA A (xu (xu A 0 5 v) 0 3 0) := fun A v => ⟨fun q h1 _ => by rw [xu_ne h1, xu_ne h1], fun j h1 h2 h3 => by rw [xu_ap, if_pos rfl, if_neg h1, xu_ap, if_pos rfl, if_neg h3]⟩
  have h03 : ∀ (A : SX) (v : Int32), xu (xu A 0 5 v) 0 3 0 0 3 = 0 := fun A v => by rw [xu_ap, if_pos rfl, if_pos rfl]
  have h05 : ∀ (A : SX) (v : Int32), xu (xu A 0 5 v) 0 3 0 0 5 = v := fun A v => by rw [xu_ap, if_pos rfl, if_neg (by decide), xu_ap, if_pos rfl, if_pos rfl]
  have h04 : ∀ (A : SX) (v : Int32), xu (xu A 0 5 v) 0 3 0 0 4 = A 0 4 := fun A v => by rw [xu_ap, if_pos rfl, if_neg (by decide), xu_ap, if_pos rfl, if_neg (by decide)]
  have h15 : ∀ (A : SX) (v : Int32), xu (xu A 0 5 v) 0 3 0 15 = A 15 := fun A v => by rw [xu_ne (by decide), xu_ne (by decide)]
  unfold kX7_readAll_b14
  refine ⟨fun _ => ?_, fun z => absurd rfl z⟩
  obtain ⟨w, p⟩ := s
  cases w with
  | true =>
    refine ⟨fun z => by rw [h.2.2.1] at z; exact absurd z (show ¬ bw_i true = 0 by decide), fun _ => ?_⟩
    unfold kX7_readAll_b83 kX7_readAll_b88
    refine ⟨Or.inr rfl, fun z => by rw [h05] at z; exact absurd z (by decide), fun _ => ?_⟩
    rw [h04, h.2.1]
    exact hp _ (hfr _ _) (h03 _ _) (h15 _ _)
  | false =>
    refine ⟨fun _ => s_X7_here hT h (fun M1 g1 g2 => ?_), fun z => absurd h.2.2.1 z⟩
    have g2 : tpM tb tn M1 (false, tp_s tb tn p) := g2
    show ((if tp_s tb tn p < tn then nI (tb (tp_s tb tn p)) else 0) = 0 → _) ∧ (¬ (if tp_s tb tn p < tn then nI (tb (tp_s tb tn p)) else 0) = 0 → _)
    rw [show (if (false, p).1 = true then (-20 : Int32) - nI (false, p).2 else if tp_s tb tn (false, p).2 < tn then (-20 : Int32) - nI (tp_s tb tn (false, p).2) else nI m) = (if tp_s tb tn p < tn then (-20 : Int32) - nI (tp_s tb tn p) else nI m) from rfl] at hp
    by_cases c : tp_s tb tn p < tn
    · have hb := hT.2 _ c
      rw [if_pos c] at hp ⊢
      refine ⟨fun z => absurd z (nI_ne0 (by omega) (by omega)), fun _ => ?_⟩
      unfold kX7_readAll_b83 kX7_readAll_b88
      refine ⟨Or.inr rfl, fun z => by rw [h05] at z; exact absurd z (by decide), fun _ => ?_⟩
      rw [h04, g2.2.1]
      exact hp _ (frA_t (frA_M g1) (hfr _ _)) (h03 _ _) (by rw [h15, g1.1 15 (by decide)])
    · rw [if_neg c] at hp ⊢
      refine ⟨fun _ => ?_, fun z => absurd rfl z⟩
      unfold kX7_readAll_b88
      exact ⟨Or.inl rfl, fun _ => hp _ (frA_t (frA_M g1) (hfr _ _)) (h03 _ _) (by rw [h15, g1.1 15 (by decide)]), fun z => absurd (h05 _ _) z⟩
def rr_I (V : Nat → Nat → Nat) (T n : Nat) (M : SX) : Prop := ∀ i, i < n → ∀ t, t < T → M 15 (7 * i + t) = nI (V i t)

theorem s_X7_readRule_go (hT : tpT tb tn) {post : Int32 → SX → Prop} : ∀ (e n : Nat) (M : SX), n + e = 8 → 0 < e → tpM tb tn M (false, pf_st tb tn (lwS tb tn) n) → rr_I (lr_V tb tn) 5 n M → (∀ M', frA M M' → M' 0 3 = 0 → ((pf_end tb tn (lwS tb tn) e n).2.1 = false → rr_I (lr_V tb tn) 5 ((pf_end tb tn (lwS tb tn) e n).1 + 1) M') → post (pf_r (pf_end tb tn (lwS tb tn) e n)) M') → kX7_readAll_b14 N (1 : Int32) post (e + 1) (nI n) (1 : Int32) M := by
  intro e
  induction e with
  | zero => intro n S _ h; omega
  | succ e ih =>
    intro n M hn _ h hI hp
    have e7 : (7 : Int32) * nI n = nI (7 * n) := by rw [show (7 : Int32) = nI 7 from rfl, pk_mul]
    unfold kX7_readAll_b14
    rw [e7]
    refine ⟨fun z => absurd z (by decide), fun _ => ⟨fun z => ?_, fun z => ?_⟩⟩
    exact absurd z (by decide)
    refine s_X7_readRule hT (k := 7 * n) (by omega) h (fun M1 f1 t1 v1 => ?_)
    unfold kX7_readAll_b41
    rw [nI_1]
    have i1 : (lwS tb tn (pf_st tb tn (lwS tb tn) n)).1 = false → rr_I (lr_V tb tn) 5 (n + 1) M1 := fun z i hi t ht => by
      by_cases c : i = n
      · subst c; exact v1 z t ht
      · rw [f1.2.2 _ (by omega)]; exact hI i (by omega) t ht
    have hfin : ∀ (s : Bool × Nat) (M2 : SX), frM M1 M2 → tpM tb tn M2 s → (if s.1 then (-20 : Int32) - nI s.2 else if tp_s tb tn s.2 < tn then (-20 : Int32) - nI (tp_s tb tn s.2) else nI (n + 1)) = pf_r (pf_end tb tn (lwS tb tn) (e + 1) n) → ((pf_end tb tn (lwS tb tn) (e + 1) n).2.1 = false → (lwS tb tn (pf_st tb tn (lwS tb tn) n)).1 = false ∧ (pf_end tb tn (lwS tb tn) (e + 1) n).1 = n) → ∀ f, kX7_readAll_b14 N (1 : Int32) post (f + 1) (nI (n + 1)) (0 : Int32) M2 := by
      intro s M2 f2 t2 er ei f
      refine s_X7_fin hT t2 (fun M3 f3 h3 h15 => ?_)
      rw [er]
      refine hp M3 (frA_t (frA_R f1) (frA_t (frA_M f2) f3)) h3 (fun z => ?_)
      have := ei z
      rw [this.2]
      intro i hi t ht
      rw [h15, f2.1 15 (by decide)]; exact i1 this.1 i hi t ht
    by_cases q : (lwS tb tn (pf_st tb tn (lwS tb tn) n)).1 = true
    · have ee : pf_end tb tn (lwS tb tn) (e + 1) n = (n, lwS tb tn (pf_st tb tn (lwS tb tn) n)) := pf_w q
      have er : (if (lwS tb tn (pf_st tb tn (lwS tb tn) n)).1 then (-20 : Int32) - nI (lwS tb tn (pf_st tb tn (lwS tb tn) n)).2 else if tp_s tb tn (lwS tb tn (pf_st tb tn (lwS tb tn) n)).2 < tn then (-20 : Int32) - nI (tp_s tb tn (lwS tb tn (pf_st tb tn (lwS tb tn) n)).2) else nI (n + 1)) = pf_r (pf_end tb tn (lwS tb tn) (e + 1) n) := by rw [ee]; unfold pf_r; rw [if_pos q, if_pos q]
      have ei : (pf_end tb tn (lwS tb tn) (e + 1) n).2.1 = false → (lwS tb tn (pf_st tb tn (lwS tb tn) n)).1 = false ∧ (pf_end tb tn (lwS tb tn) (e + 1) n).1 = n := fun z => by rw [ee] at z; rw [q] at z; exact absurd z (by decide)
      refine pk_le 8 (n + 1) (fun z => ?_) (fun z => ?_)
      · rw [show e + 1 = (e) + 1 from rfl]
        exact hfin _ M1 (frM_r _) t1 er ei e
      · refine s_X7_has hT (c := 59) (by decide) (by decide) t1 (fun M2 f2 t2 => ?_)
        rw [mC_w q] at t2 ⊢
        exact bf_f (hfin _ M2 f2 t2 er ei e)
    · have q : (lwS tb tn (pf_st tb tn (lwS tb tn) n)).1 = false := by simpa using q
      have eta := eta_f q
      refine pk_le 8 (n + 1) (fun z => ?_) (fun z => ?_)
      · refine hfin _ M1 (frM_r _) t1 ?_ ?_ e
        · rw [if_neg (show ¬ (lwS tb tn (pf_st tb tn (lwS tb tn) n)).1 = true by rw [q]; decide)]
          by_cases c : tp_s tb tn (lwS tb tn (pf_st tb tn (lwS tb tn) n)).2 < tn
          · rw [pf_x q c (by omega), if_pos c]; rfl
          · rw [pf_o q c, if_neg c]; rfl
        · intro y
          refine ⟨q, ?_⟩
          by_cases c : tp_s tb tn (lwS tb tn (pf_st tb tn (lwS tb tn) n)).2 < tn
          · rw [pf_x q c (by omega)]
          · rw [pf_o q c]
      · refine s_X7_has hT (c := 59) (by decide) (by decide) t1 (fun M2 f2 t2 => ?_)
        by_cases d : tp_s tb tn (lwS tb tn (pf_st tb tn (lwS tb tn) n)).2 < tn ∧ tb (tp_s tb tn (lwS tb tn (pf_st tb tn (lwS tb tn) n)).2) = 59
        · have em : mC tb tn 59 (lwS tb tn (pf_st tb tn (lwS tb tn) n)) = ((false, pf_st tb tn (lwS tb tn) (n + 1)), true) := mC_y q d
          rw [em] at t2 ⊢
          have ee : pf_end tb tn (lwS tb tn) (e + 1) n = pf_end tb tn (lwS tb tn) e (n + 1) := pf_g q d.1 ⟨by omega, d.2⟩
          rw [ee] at hp
          refine bf_t (ih (n + 1) M2 (by omega) (by omega) t2 (fun i hi t ht => by rw [f2.1 15 (by decide)]; exact i1 q i hi t ht) (fun M' g1 g2 g3 => hp M' (frA_t (frA_R f1) (frA_t (frA_M f2) g1)) g2 g3))
        · have em : mC tb tn 59 (lwS tb tn (pf_st tb tn (lwS tb tn) n)) = ((false, tp_s tb tn (lwS tb tn (pf_st tb tn (lwS tb tn) n)).2), false) := mC_n q d
          rw [em] at t2 ⊢
          refine bf_f (hfin _ M2 f2 t2 ?_ ?_ e)
          · show (if tp_s tb tn (tp_s tb tn (lwS tb tn (pf_st tb tn (lwS tb tn) n)).2) < tn then _ - nI (tp_s tb tn (tp_s tb tn (lwS tb tn (pf_st tb tn (lwS tb tn) n)).2)) else _) = _
            rw [tp_s_ss]
            by_cases c : tp_s tb tn (lwS tb tn (pf_st tb tn (lwS tb tn) n)).2 < tn
            · rw [pf_x q c (fun y => d ⟨c, y.2⟩), if_pos c]; rfl
            · rw [pf_o q c, if_neg c]; rfl
          · intro y
            refine ⟨q, ?_⟩
            by_cases c : tp_s tb tn (lwS tb tn (pf_st tb tn (lwS tb tn) n)).2 < tn
            · rw [pf_x q c (fun y => d ⟨c, y.2⟩)]
            · rw [pf_o q c]

theorem s_X7_readWill_go (hT : tpT tb tn) {post : Int32 → SX → Prop} : ∀ (e n : Nat) (M : SX), n + e = 8 → 0 < e → tpM tb tn M (false, pf_st tb tn (wlS tb tn) n) → rr_I (wr_V tb tn) 7 n M → (∀ M', frA M M' → M' 0 3 = 0 → ((pf_end tb tn (wlS tb tn) e n).2.1 = false → rr_I (wr_V tb tn) 7 ((pf_end tb tn (wlS tb tn) e n).1 + 1) M') → post (pf_r (pf_end tb tn (wlS tb tn) e n)) M') → kX7_readAll_b14 N (0 : Int32) post (e + 1) (nI n) (1 : Int32) M := by
  intro e
  induction e with
  | zero => intro n S _ h; omega
  | succ e ih =>
    intro n M hn _ h hI hp
    have e7 : (7 : Int32) * nI n = nI (7 * n) := by rw [show (7 : Int32) = nI 7 from rfl, pk_mul]
    unfold kX7_readAll_b14
    rw [e7]
    refine ⟨fun z => absurd z (by decide), fun _ => ⟨fun z => ?_, fun z => ?_⟩⟩
    rotate_left
    exact absurd rfl z
    refine s_X7_readWill hT (k := 7 * n) (by omega) h (fun M1 f1 t1 v1 => ?_)
    unfold kX7_readAll_b41
    rw [nI_1]
    have i1 : (wlS tb tn (pf_st tb tn (wlS tb tn) n)).1 = false → rr_I (wr_V tb tn) 7 (n + 1) M1 := fun z i hi t ht => by
      by_cases c : i = n
      · subst c; exact v1 z t ht
      · rw [f1.2.2 _ (by omega)]; exact hI i (by omega) t ht
    have hfin : ∀ (s : Bool × Nat) (M2 : SX), frM M1 M2 → tpM tb tn M2 s → (if s.1 then (-20 : Int32) - nI s.2 else if tp_s tb tn s.2 < tn then (-20 : Int32) - nI (tp_s tb tn s.2) else nI (n + 1)) = pf_r (pf_end tb tn (wlS tb tn) (e + 1) n) → ((pf_end tb tn (wlS tb tn) (e + 1) n).2.1 = false → (wlS tb tn (pf_st tb tn (wlS tb tn) n)).1 = false ∧ (pf_end tb tn (wlS tb tn) (e + 1) n).1 = n) → ∀ f, kX7_readAll_b14 N (0 : Int32) post (f + 1) (nI (n + 1)) (0 : Int32) M2 := by
      intro s M2 f2 t2 er ei f
      refine s_X7_fin hT t2 (fun M3 f3 h3 h15 => ?_)
      rw [er]
      refine hp M3 (frA_t (frA_R f1) (frA_t (frA_M f2) f3)) h3 (fun z => ?_)
      have := ei z
      rw [this.2]
      intro i hi t ht
      rw [h15, f2.1 15 (by decide)]; exact i1 this.1 i hi t ht
    by_cases q : (wlS tb tn (pf_st tb tn (wlS tb tn) n)).1 = true
    · have ee : pf_end tb tn (wlS tb tn) (e + 1) n = (n, wlS tb tn (pf_st tb tn (wlS tb tn) n)) := pf_w q
      have er : (if (wlS tb tn (pf_st tb tn (wlS tb tn) n)).1 then (-20 : Int32) - nI (wlS tb tn (pf_st tb tn (wlS tb tn) n)).2 else if tp_s tb tn (wlS tb tn (pf_st tb tn (wlS tb tn) n)).2 < tn then (-20 : Int32) - nI (tp_s tb tn (wlS tb tn (pf_st tb tn (wlS tb tn) n)).2) else nI (n + 1)) = pf_r (pf_end tb tn (wlS tb tn) (e + 1) n) := by rw [ee]; unfold pf_r; rw [if_pos q, if_pos q]
      have ei : (pf_end tb tn (wlS tb tn) (e + 1) n).2.1 = false → (wlS tb tn (pf_st tb tn (wlS tb tn) n)).1 = false ∧ (pf_end tb tn (wlS tb tn) (e + 1) n).1 = n := fun z => by rw [ee] at z; rw [q] at z; exact absurd z (by decide)
      refine pk_le 8 (n + 1) (fun z => ?_) (fun z => ?_)
      · rw [show e + 1 = (e) + 1 from rfl]
        exact hfin _ M1 (frM_r _) t1 er ei e
      · refine s_X7_has hT (c := 59) (by decide) (by decide) t1 (fun M2 f2 t2 => ?_)
        rw [mC_w q] at t2 ⊢
        exact bf_f (hfin _ M2 f2 t2 er ei e)
    · have q : (wlS tb tn (pf_st tb tn (wlS tb tn) n)).1 = false := by simpa using q
      have eta := eta_f q
      refine pk_le 8 (n + 1) (fun z => ?_) (fun z => ?_)
      · refine hfin _ M1 (frM_r _) t1 ?_ ?_ e
        · rw [if_neg (show ¬ (wlS tb tn (pf_st tb tn (wlS tb tn) n)).1 = true by rw [q]; decide)]
          by_cases c : tp_s tb tn (wlS tb tn (pf_st tb tn (wlS tb tn) n)).2 < tn
          · rw [pf_x q c (by omega), if_pos c]; rfl
          · rw [pf_o q c, if_neg c]; rfl
        · intro y
          refine ⟨q, ?_⟩
          by_cases c : tp_s tb tn (wlS tb tn (pf_st tb tn (wlS tb tn) n)).2 < tn
          · rw [pf_x q c (by omega)]
          · rw [pf_o q c]
      · refine s_X7_has hT (c := 59) (by decide) (by decide) t1 (fun M2 f2 t2 => ?_)
        by_cases d : tp_s tb tn (wlS tb tn (pf_st tb tn (wlS tb tn) n)).2 < tn ∧ tb (tp_s tb tn (wlS tb tn (pf_st tb tn (wlS tb tn) n)).2) = 59
        · have em : mC tb tn 59 (wlS tb tn (pf_st tb tn (wlS tb tn) n)) = ((false, pf_st tb tn (wlS tb tn) (n + 1)), true) := mC_y q d
          rw [em] at t2 ⊢
          have ee : pf_end tb tn (wlS tb tn) (e + 1) n = pf_end tb tn (wlS tb tn) e (n + 1) := pf_g q d.1 ⟨by omega, d.2⟩
          rw [ee] at hp
          refine bf_t (ih (n + 1) M2 (by omega) (by omega) t2 (fun i hi t ht => by rw [f2.1 15 (by decide)]; exact i1 q i hi t ht) (fun M' g1 g2 g3 => hp M' (frA_t (frA_R f1) (frA_t (frA_M f2) g1)) g2 g3))
        · have em : mC tb tn 59 (wlS tb tn (pf_st tb tn (wlS tb tn) n)) = ((false, tp_s tb tn (wlS tb tn (pf_st tb tn (wlS tb tn) n)).2), false) := mC_n q d
          rw [em] at t2 ⊢
          refine bf_f (hfin _ M2 f2 t2 ?_ ?_ e)
          · show (if tp_s tb tn (tp_s tb tn (wlS tb tn (pf_st tb tn (wlS tb tn) n)).2) < tn then _ - nI (tp_s tb tn (tp_s tb tn (wlS tb tn (pf_st tb tn (wlS tb tn) n)).2)) else _) = _
            rw [tp_s_ss]
            by_cases c : tp_s tb tn (wlS tb tn (pf_st tb tn (wlS tb tn) n)).2 < tn
            · rw [pf_x q c (fun y => d ⟨c, y.2⟩), if_pos c]; rfl
            · rw [pf_o q c, if_neg c]; rfl
          · intro y
            refine ⟨q, ?_⟩
            by_cases c : tp_s tb tn (wlS tb tn (pf_st tb tn (wlS tb tn) n)).2 < tn
            · rw [pf_x q c (fun y => d ⟨c, y.2⟩)]
            · rw [pf_o q c]

end TP