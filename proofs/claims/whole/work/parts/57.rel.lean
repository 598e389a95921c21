/-! ===== what class and reference hold alike ===== -/
theorem s_X6_wI {S : SX} {L : LX} {v : Int32} {lo hi : Int64} (a c : Int) {post : Int32 → Prop} (h : post (bw_i (bw_in v a c))) (e1 : lo.toInt = a := by rfl) (e2 : hi.toInt = c := by rfl) : kX6_isWithin S L v.toInt64 lo hi post := s_X6_isWithinI (by rw [e1, e2]; exact h)
theorem s_X7_wI {S : SX} {L : LX} {v : Int32} {lo hi : Int64} (a c : Int) {post : Int32 → Prop} (h : post (bw_i (bw_in v a c))) (e1 : lo.toInt = a := by rfl) (e2 : hi.toInt = c := by rfl) : kX7_in S L v.toInt64 lo hi post := s_X7_inI (by rw [e1, e2]; exact h)
theorem bf_f {A B : Prop} (h : A) : (bw_i false = 0 → A) ∧ (¬ bw_i false = 0 → B) := ⟨fun _ => h, fun z => absurd rfl z⟩
theorem bf_t {A B : Prop} (h : B) : (bw_i true = 0 → A) ∧ (¬ bw_i true = 0 → B) := ⟨fun z => absurd z (by decide), fun _ => h⟩
def bw_cok (b : SN) : Prop := ∀ y, y < 8 → b 12 y ≤ 1 ∧ (b 12 y = 1 → b 13 y ≤ b 14 y ∧ b 14 y ≤ 1000000000000000)
def bw_CX (o : Nat) (S : SX) (L : LX) (b : SN) : Prop := (∃ t : Nat, t < 256 ∧ S o 2 = nI t ∧ ∀ y, y < 8 → t.testBit y = decide (b 12 y = 1)) ∧ ∀ y, y < 8 → b 12 y = 1 → L (o + 14) y = lN (b 13 y) ∧ L (o + 15) y = lN (b 14 y)
def bw_CM (N : LX) (c1 c2 o1 o2 : Nat) (b : SN) : Prop := ∀ y, y < 8 → (b 12 y = 1 → N c1 (o1 + y) = lN (b 13 y) ∧ N c2 (o2 + y) = lN (b 14 y)) ∧ (b 12 y = 0 → N c2 (o2 + y) = -1)
def bw_off (k : Nat) : Nat := match k with
  | 1 => 0
  | 2 => 6
  | 3 => 30
  | 4 => 54
  | 5 => 78
  | 6 => 174
  | 7 => 182
  | 8 => 190
  | 9 => 198
  | 10 => 206
  | _ => 214
def bw_IM (M : SX) (N : LX) (b : SN) : Prop := (M 16 222 = nI (b 0 0) ∧ M 16 223 = nI (b 0 1) ∧ M 16 224 = nI (b 0 2)) ∧ (∀ k j : Nat, 1 ≤ k → k ≤ 11 → j < bw_ln (b 0 2) k → M 16 (bw_off k + j) = nI (b k j)) ∧ bw_CM N 17 17 0 8 b
def bw_img (S : SX) (L : LX) (M : SX) (N : LX) : Prop := (S 0 0 = 0 ∧ M 0 6 = 0) ∨ (S 0 0 = 1 ∧ M 0 6 = 1 ∧ ∃ b : SN, bw_ok b ∧ bw_cok b ∧ bw_X 17 S b ∧ bw_CX 17 S L b ∧ bw_IM M N b)
def bw_tape (S M : SX) : Prop := ∃ (tn : Nat) (tb : Nat → Nat), tn ≤ 100 ∧ S 37 0 = nI tn ∧ M 0 3 = nI tn ∧ ∀ j, j < tn → S 38 j = nI (tb j) ∧ M 14 j = nI (tb j) ∧ 32 ≤ tb j ∧ tb j ≤ 126
def bw_sh (S M : SX) : Prop := (∀ k, k < 4 → M 18 k = S 50 k ∧ (S 50 k = -1 ∨ ((∃ ln : Nat, ln ≤ 2 ∧ S 50 k = nI ln) ∧ ∃ z : Nat, z ≤ 24 ∧ S 51 k = nI z ∧ M 19 k = nI z))) ∧ ∀ j, j < 96 → M 20 j = S 52 j
def bw_rest (S : SX) (L : LX) (M : SX) (N : LX) : Prop := bw_img S L M N ∧ bw_tape S M ∧ bw_sh S M
def bw_main (S : SX) (L : LX) (M : SX) (N : LX) (b : SN) : Prop := bw_ok b ∧ bw_cok b ∧ bw_X 1 S b ∧ bw_CX 1 S L b ∧ bw_M M b ∧ bw_CM N 12 13 0 0 b
def bw_R (S : SX) (L : LX) (M : SX) (N : LX) : Prop := (∃ b : SN, bw_main S L M N b) ∧ bw_rest S L M N
theorem bw_CX_keep {o : Nat} {S S' : SX} {L L' : LX} {b : SN} (h : bw_CX o S L b) (h1 : S' o 2 = S o 2) (h2 : ∀ k, o + 14 ≤ k → k ≤ o + 15 → L' k = L k) : bw_CX o S' L' b := by
  obtain ⟨⟨t, q1, q2, q3⟩, q4⟩ := h
  refine ⟨⟨t, q1, by rw [h1]; exact q2, q3⟩, fun y hy hb => ?_⟩
  rw [h2 (o + 14) (by omega) (by omega), h2 (o + 15) (by omega) (by omega)]
  exact q4 y hy hb
theorem bw_rest_keep {S S' M M' : SX} {L L' N N' : LX} (h : bw_rest S L M N) (hS : ∀ k, (k = 0 ∨ (17 ≤ k ∧ k ≤ 32) ∨ k = 38 ∨ 49 ≤ k) → S' k = S k) (h37 : S' 37 0 = S 37 0) (hL : ∀ k, 17 ≤ k → L' k = L k) (hM : ∀ k, (k = 14 ∨ k = 16 ∨ (18 ≤ k ∧ k ≤ 20)) → M' k = M k) (hM3 : M' 0 3 = M 0 3) (hM6 : M' 0 6 = M 0 6) (hN : N' 17 = N 17) : bw_rest S' L' M' N' := by
  obtain ⟨hi, ⟨tn, tb, t1, t2, t3, t4⟩, hs1, hs2⟩ := h
  refine ⟨?_, ⟨tn, tb, t1, by rw [h37]; exact t2, by rw [hM3]; exact t3, fun j hj => by rw [hS 38 (by omega), hM 14 (by omega)]; exact t4 j hj⟩, fun k hk => by rw [hS 50 (by omega), hS 51 (by omega), hM 18 (by omega), hM 19 (by omega)]; exact hs1 k hk, fun j hj => by rw [hS 52 (by omega), hM 20 (by omega)]; exact hs2 j hj⟩
  rcases hi with ⟨i1, i2⟩ | ⟨i1, i2, b, i3, i4, i5, i6, i7, i8, i9⟩
  · exact Or.inl ⟨by rw [hS 0 (by omega)]; exact i1, by rw [hM6]; exact i2⟩
  · refine Or.inr ⟨by rw [hS 0 (by omega)]; exact i1, by rw [hM6]; exact i2, b, i3, i4, bw_X_keep i5 (fun k q1 q2 => hS k (by omega)), bw_CX_keep i6 (by rw [hS 17 (by omega)]) (fun k q1 q2 => hL k (by omega)), ⟨?_, ?_, ?_⟩⟩
    · rw [hM 16 (by omega)]; exact i7
    · rw [hM 16 (by omega)]; exact i8
    · unfold bw_CM; rw [hN]; exact i9
/-- a number of the book is changed -/
def bw_set (b : SN) (k j v : Nat) : SN := fun k' j' => if k' = k ∧ j' = j then v else b k' j'
theorem bw_set_eq (b : SN) (k j v : Nat) : bw_set b k j v k j = v := by unfold bw_set; rw [if_pos ⟨rfl, rfl⟩]
theorem bw_set_ne {b : SN} {k j v k' j' : Nat} (h : k' ≠ k ∨ j' ≠ j) : bw_set b k j v k' j' = b k' j' := by
  unfold bw_set
  rw [if_neg]
  rintro ⟨h1, h2⟩
  rcases h with h | h
  · exact h h1
  · exact h h2
theorem bw_cx_inj : ∀ k, k ≤ 11 → ∀ k', k' ≤ 11 → 1 ≤ k → 1 ≤ k' → bw_cx k = bw_cx k' → k = k' := by decide
theorem bw_cx_ne : ∀ k, k ≤ 11 → 1 ≤ k → bw_cx k ≠ 0 ∧ bw_cx k ≠ 7 := by decide
theorem bw_ok_set {b : SN} (h : bw_ok b) {k j v : Nat} (h1 : 1 ≤ k) (hl : bw_lo k ≤ v) (hh : v ≤ bw_hi k) : bw_ok (bw_set b k j v) := by
  have e : bw_set b k j v 0 = b 0 := by funext q; exact bw_set_ne (Or.inl (by omega))
  refine ⟨by rw [e]; exact h.1, fun k' j' a1 a2 hj => ?_⟩
  rw [e] at hj
  by_cases c : k' = k ∧ j' = j
  · obtain ⟨rfl, rfl⟩ := c; rw [bw_set_eq]; exact ⟨hl, hh⟩
  · rw [bw_set_ne (by omega)]; exact h.2 k' j' a1 a2 hj
theorem bw_X_set {b : SN} {S : SX} (h : bw_X 1 S b) {k j v : Nat} (h1 : 1 ≤ k) (h2 : k ≤ 11) : bw_X 1 (xu S (1 + bw_cx k) j (nI v)) (bw_set b k j v) := by
  have e : bw_set b k j v 0 = b 0 := by funext q; exact bw_set_ne (Or.inl (by omega))
  have hn := bw_cx_ne k h2 h1
  refine ⟨?_, fun k' j' a1 a2 hj => ?_⟩
  · rw [e, xu_ne (by omega), xu_ne (by omega)]; exact h.1
  · rw [e] at hj
    by_cases c : k' = k
    · subst c
      rw [xu_ap, if_pos rfl]
      by_cases c2 : j' = j
      · subst c2; rw [if_pos rfl, bw_set_eq]
      · rw [if_neg c2, bw_set_ne (Or.inr c2)]; exact h.2 k' j' a1 a2 hj
    · have c3 : bw_cx k' ≠ bw_cx k := fun q => c (bw_cx_inj k' a2 k h2 a1 h1 q)
      rw [xu_ne (by omega), bw_set_ne (Or.inl c)]; exact h.2 k' j' a1 a2 hj
theorem bw_M_set {b : SN} {M : SX} (h : bw_M M b) {k j v : Nat} (h1 : 1 ≤ k) : bw_M (xu M k j (nI v)) (bw_set b k j v) := by
  have e : bw_set b k j v 0 = b 0 := by funext q; exact bw_set_ne (Or.inl (by omega))
  refine ⟨?_, fun k' j' a1 a2 hj => ?_⟩
  · rw [e, xu_ne (by omega)]; exact h.1
  · rw [e] at hj
    by_cases c : k' = k
    · subst c
      rw [xu_ap, if_pos rfl]
      by_cases c2 : j' = j
      · subst c2; rw [if_pos rfl, bw_set_eq]
      · rw [if_neg c2, bw_set_ne (Or.inr c2)]; exact h.2 k' j' a1 a2 hj
    · rw [xu_ne c, bw_set_ne (Or.inl c)]; exact h.2 k' j' a1 a2 hj
theorem bw_cok_set {b : SN} (h : bw_cok b) {k j v : Nat} (h1 : k ≤ 11) : bw_cok (bw_set b k j v) := by
  intro y hy
  rw [bw_set_ne (Or.inl (by omega)), bw_set_ne (Or.inl (by omega)), bw_set_ne (Or.inl (by omega))]
  exact h y hy
theorem bw_CX_set {b : SN} {o : Nat} {S : SX} {L : LX} (h : bw_CX o S L b) {k j v : Nat} (h1 : k ≤ 11) : bw_CX o S L (bw_set b k j v) := by
  obtain ⟨⟨t, q1, q2, q3⟩, q4⟩ := h
  refine ⟨⟨t, q1, q2, fun y hy => ?_⟩, fun y hy => ?_⟩
  · rw [bw_set_ne (Or.inl (by omega))]; exact q3 y hy
  · rw [bw_set_ne (Or.inl (by omega)), bw_set_ne (Or.inl (by omega)), bw_set_ne (Or.inl (by omega))]; exact q4 y hy
theorem bw_CM_set {b : SN} {N : LX} {c1 c2 o1 o2 : Nat} (h : bw_CM N c1 c2 o1 o2 b) {k j v : Nat} (h1 : k ≤ 11) : bw_CM N c1 c2 o1 o2 (bw_set b k j v) := by
  intro y hy
  rw [bw_set_ne (Or.inl (by omega)), bw_set_ne (Or.inl (by omega)), bw_set_ne (Or.inl (by omega))]
  exact h y hy
/-- one number of a row of the book is changed, in class and reference -/
theorem bw_R_set {S M : SX} {L N : LX} {b : SN} (hm : bw_main S L M N b) (hr : bw_rest S L M N) {k j v : Nat} (h1 : 1 ≤ k) (h2 : k ≤ 11) (hl : bw_lo k ≤ v) (hh : v ≤ bw_hi k) : bw_R (xu S (1 + bw_cx k) j (nI v)) L (xu M k j (nI v)) N := by
  obtain ⟨m1, m2, m3, m4, m5, m6⟩ := hm
  have hn := bw_cx_ne k h2 h1
  have hn2 := bw_cx_lt k
  refine ⟨⟨bw_set b k j v, bw_ok_set m1 h1 hl hh, bw_cok_set m2 h2, bw_X_set m3 h1 h2, bw_CX_set (bw_CX_keep m4 (by rw [xu_ne (by omega)]) (fun _ _ _ => rfl)) h2, bw_M_set m5 h1, bw_CM_set m6 h2⟩, bw_rest_keep hr (fun q hq => xu_ne (by omega)) (by rw [xu_ne (by omega)]) (fun _ _ => rfl) (fun q hq => xu_ne (by omega)) (by rw [xu_ne (by omega)]) (by rw [xu_ne (by omega)]) rfl⟩
/-- RICHES or MORE is changed -/
theorem bw_R_set0 {S M : SX} {L N : LX} {b : SN} (hm : bw_main S L M N b) (hr : bw_rest S L M N) {j v : Nat} (hj : j < 2) (hv : j = 0 → v ≤ 99999) (hv1 : j = 1 → v ≤ 100) : bw_R (xu S 1 j (nI v)) L (xu M 0 j (nI v)) N := by
  obtain ⟨m1, m2, m3, m4, m5, m6⟩ := hm
  have e2 : bw_set b 0 j v 0 2 = b 0 2 := bw_set_ne (Or.inr (by omega))
  have ek : ∀ k, 1 ≤ k → bw_set b 0 j v k = b k := fun k hk => by funext q; exact bw_set_ne (Or.inl (by omega))
  refine ⟨⟨bw_set b 0 j v, ⟨?_, fun k q k1 k2 hq => ?_⟩, fun y hy => ?_, ⟨?_, fun k q k1 k2 hq => ?_⟩, ⟨?_, fun y hy => ?_⟩, ⟨?_, fun k q k1 k2 hq => ?_⟩, fun y hy => ?_⟩, bw_rest_keep hr (fun q hq => xu_ne (by omega)) (by rw [xu_ne (by omega)]) (fun _ _ => rfl) (fun q hq => xu_ne (by omega)) (by rw [xu_ap, if_pos rfl, if_neg (by omega)]) (by rw [xu_ap, if_pos rfl, if_neg (by omega)]) rfl⟩
  · rw [e2]
    rcases (show j = 0 ∨ j = 1 by omega) with rfl | rfl
    · rw [bw_set_eq, bw_set_ne (Or.inr (by omega))]; exact ⟨hv rfl, m1.1.2⟩
    · rw [bw_set_eq, bw_set_ne (Or.inr (by omega))]; exact ⟨m1.1.1, hv1 rfl, m1.1.2.2⟩
  · rw [e2] at hq; rw [ek k k1]; exact m1.2 k q k1 k2 hq
  · rw [ek 12 (by omega), ek 13 (by omega), ek 14 (by omega)]; exact m2 y hy
  · have h8 : xu S 1 j (nI v) (1 + 7) = S 8 := xu_ne (by omega)
    rw [e2, h8]
    rcases (show j = 0 ∨ j = 1 by omega) with rfl | rfl
    · rw [bw_set_eq, bw_set_ne (Or.inr (by omega)), xu_ap, xu_ap]; exact ⟨by simp, by simpa using m3.1.2.1, m3.1.2.2⟩
    · rw [bw_set_eq, bw_set_ne (Or.inr (by omega)), xu_ap, xu_ap]; exact ⟨by simpa using m3.1.1, by simp, m3.1.2.2⟩
  · have := bw_cx_ne k k2 k1
    rw [e2] at hq; rw [ek k k1, xu_ne (by omega)]; exact m3.2 k q k1 k2 hq
  · rw [ek 12 (by omega), xu_ap, if_pos rfl, if_neg (by omega)]; exact m4.1
  · rw [ek 12 (by omega), ek 13 (by omega), ek 14 (by omega)]; exact m4.2 y hy
  · rw [e2]
    rcases (show j = 0 ∨ j = 1 by omega) with rfl | rfl
    · rw [bw_set_eq, bw_set_ne (Or.inr (by omega)), xu_ap, xu_ap, xu_ap]; exact ⟨by simp, by simpa using m5.1.2.1, by simpa using m5.1.2.2⟩
    · rw [bw_set_eq, bw_set_ne (Or.inr (by omega)), xu_ap, xu_ap, xu_ap]; exact ⟨by simpa using m5.1.1, by simp, by simpa using m5.1.2.2⟩
  · rw [e2] at hq; rw [ek k k1, xu_ne (by omega)]; exact m5.2 k q k1 k2 hq
  · rw [ek 12 (by omega), ek 13 (by omega), ek 14 (by omega)]; exact m6 y hy
/-- the living's rows changed alone -/
theorem bw_R_out {S S' M : SX} {L N : LX} (h : bw_R S L M N) (ho : lg_out S S') : bw_R S' L M N := by
  obtain ⟨⟨b, m1, m2, m3, m4, m5, m6⟩, hr⟩ := h
  exact ⟨⟨b, m1, m2, bw_X_out m3 ho, bw_CX_keep m4 (by rw [ho 1 (by omega)]) (fun _ _ _ => rfl), m5, m6⟩, bw_rest_keep hr (fun k hk => ho k (by omega)) (by rw [ho 37 (by omega)]) (fun _ _ => rfl) (fun _ _ => rfl) rfl rfl rfl⟩
