/-! ===== stores, read back ===== -/
theorem xu_ap (S : SX) (c i : Nat) (v : Int32) (k j : Nat) : xu S c i v k j = if k = c then (if j = i then v else S k j) else S k j := by
  unfold xu
  by_cases h : k = c
  · rw [if_pos h, if_pos h]; subst h; rfl
  · rw [if_neg h, if_neg h]
theorem xu_ne {S : SX} {c i : Nat} {v : Int32} {k : Nat} (h : k ≠ c) : xu S c i v k = S k := by unfold xu; rw [if_neg h]
theorem xuL_ap (S : LX) (c i : Nat) (v : Int64) (k j : Nat) : xuL S c i v k j = if k = c then (if j = i then v else S k j) else S k j := by
  unfold xuL
  by_cases h : k = c
  · rw [if_pos h, if_pos h]; subst h; rfl
  · rw [if_neg h, if_neg h]
theorem xuL_ne {S : LX} {c i : Nat} {v : Int64} {k : Nat} (h : k ≠ c) : xuL S c i v k = S k := by unfold xuL; rw [if_neg h]
theorem xcp_ne {S : SX} {d a sp dp n : Nat} {k : Nat} (h : k ≠ d) : xcp S d a sp dp n k = S k := by unfold xcp; rw [if_neg h]
theorem xcp_eq (S : SX) (d a sp dp n : Nat) : xcp S d a sp dp n d = va_cpy (S a) (S d) sp dp n := by unfold xcp; rw [if_pos rfl]
theorem xcpL_ne {S : LX} {d a sp dp n : Nat} {k : Nat} (h : k ≠ d) : xcpL S d a sp dp n k = S k := by unfold xcpL; rw [if_neg h]
theorem xcpL_eq (S : LX) (d a sp dp n : Nat) : xcpL S d a sp dp n d = va_cpy (S a) (S d) sp dp n := by unfold xcpL; rw [if_pos rfl]
theorem bw_cx_lt (k : Nat) : bw_cx k ≤ 13 := by unfold bw_cx; split <;> omega
/-- the book stays, if its cells stay -/
theorem bw_X_keep {o : Nat} {S S' : SX} {b : SN} (h : bw_X o S b) (hk : ∀ k, o ≤ k → k ≤ o + 15 → S' k = S k) : bw_X o S' b := by
  obtain ⟨⟨h1, h2, h3⟩, h4⟩ := h
  refine ⟨⟨?_, ?_, ?_⟩, fun k j ka kb hj => ?_⟩
  · rw [hk o (by omega) (by omega)]; exact h1
  · rw [hk o (by omega) (by omega)]; exact h2
  · rw [hk (o + 7) (by omega) (by omega)]; exact h3
  · have := bw_cx_lt k
    rw [hk (o + bw_cx k) (by omega) (by omega)]; exact h4 k j ka kb hj
/-! ===== the living of a year, in the class's rows ===== -/
def lg_X (S : SX) (f g : Nat → Nat) (l : List Nat) : Prop := S 33 0 = nI l.length ∧ ∀ i x : Nat, l[i]? = some x → S 34 i = nI x ∧ S 35 i = nI (f x) ∧ S 36 i = nI (g x)
def lg_out (S S' : SX) : Prop := ∀ k, (k < 33 ∨ 36 < k) → S' k = S k
theorem lg_out_rf (S : SX) : lg_out S S := fun _ _ => rfl
theorem lg_out_tr {S S' S'' : SX} (h : lg_out S S') (h' : lg_out S' S'') : lg_out S S'' := fun k hk => (h' k hk).trans (h k hk)
theorem lg_out_xu {S S' : SX} (h : lg_out S S') {c i : Nat} {v : Int32} (hc : 33 ≤ c ∧ c ≤ 36) : lg_out S (xu S' c i v) := fun k hk => by rw [xu_ne (by omega)]; exact h k hk
theorem bw_X_out {S S' : SX} {b : SN} (h : bw_X 1 S b) (hk : lg_out S S') : bw_X 1 S' b := bw_X_keep h (fun k _ h2 => hk k (by omega))
theorem s_X1_insert {S : SX} {L : LX} {f g : Nat → Nat} {l : List Nat} (hL : lg_X S f g l) (hlen : l.length < 24) (hp : l.Pairwise (ls_prec f)) {w : Nat} (hf : ∀ x, (x = w ∨ x ∈ l) → f x < 2 ^ 31) {post : SX → Prop} (h : ∀ S', lg_X S' f g (ls_ins f w l) → lg_out S S' → post S') : kX1_insert S L (nI w) (nI (f w)) (nI (g w)) post := by
  have hpl := ls_pos_le f (f w) l
  unfold kX1_insert
  rw [hL.1]
  refine pk_lt l.length 24 (fun _ => ?_) (fun q => by omega)
  refine lp2 (A1 := Nat) (A2 := SX) (fun n pl T => kX1_insert_b16 L (nI w) (nI (f w)) (nI (g w)) post n (nI pl) T) (fun pl T => ls_pos f (f w) l ≤ pl ∧ pl ≤ l.length ∧ T 33 0 = nI l.length ∧ lg_out S T ∧ ∀ i x : Nat, l[i]? = some x → (i < pl → T 34 i = nI x ∧ T 35 i = nI (f x) ∧ T 36 i = nI (g x)) ∧ (pl ≤ i → T 34 (i + 1) = nI x ∧ T 35 (i + 1) = nI (f x) ∧ T 36 (i + 1) = nI (g x))) (fun pl _ => pl) ?_ l.length S ⟨hpl, Nat.le_refl _, hL.1, lg_out_rf S, fun i x hx => ⟨fun _ => hL.2 i x hx, fun hi => by rw [List.getElem?_eq_none hi] at hx; cases hx⟩⟩
  rintro n pl T ⟨h1, h2, h3, h4, h5⟩ hc
  have fin : pl = ls_pos f (f w) l → kX1_insert_b88 L (nI w) (nI (f w)) (nI (g w)) post (nI pl) T := by
    intro e
    unfold kX1_insert_b88
    rw [nI_clamp (show pl < 2 ^ 31 by omega)]
    refine ⟨pk_in pl 24 (by omega), pk_in pl 24 (by omega), pk_in pl 24 (by omega), h _ ⟨?_, fun i x hx => ?_⟩ (lg_out_xu (lg_out_xu (lg_out_xu (lg_out_xu h4 (by omega)) (by omega)) (by omega)) (by omega))⟩
    · rw [ls_len_ins]
      simp [xu_ap, h3, nI_1]
    · rw [ls_ins_get, ← e] at hx
      by_cases c1 : i < pl
      · rw [if_pos c1] at hx
        have q := (h5 i x hx).1 c1
        have ne : i ≠ pl := by omega
        simp [xu_ap, ne, q]
      · rw [if_neg c1] at hx
        by_cases c2 : i = pl
        · rw [if_pos c2] at hx
          cases hx
          simp [xu_ap, c2]
        · rw [if_neg c2] at hx
          have q := (h5 (i - 1) x hx).2 (by omega)
          rw [show i - 1 + 1 = i by omega] at q
          simp [xu_ap, c2, q]
  unfold kX1_insert_b16
  refine pk_le pl 0 (fun q => fin (by omega)) (fun q => ?_)
  have e1 : nI pl - (1 : Int32) = nI (pl - 1) := by rw [show (1 : Int32) = nI 1 from rfl, pk_sub (by omega)]
  have e2 : nI pl + (-1 : Int32) = nI (pl - 1) := by rw [show pl = (pl - 1) + 1 by omega, pk_m1]; rfl
  rw [e1, e2, nI_clamp (show pl < 2 ^ 31 by omega), nI_clamp (show pl - 1 < 2 ^ 31 by omega)]
  obtain ⟨x, hx⟩ : ∃ x, l[pl - 1]? = some x := ⟨_, List.getElem?_eq_getElem (by omega)⟩
  have hxl : x ∈ l := List.mem_of_getElem? hx
  have hx2 : l[pl - 1]'(by omega) = x := by rw [List.getElem?_eq_getElem (by omega)] at hx; exact Option.some.inj hx
  have q5 := (h5 (pl - 1) x hx).1 (by omega)
  rw [q5.2.1]
  have hfx := hf x (Or.inr hxl)
  have hfw := hf w (Or.inl rfl)
  refine ⟨pk_in (pl - 1) 24 (by omega), pk_le (f w) (f x) (fun z => fin ?_) (fun z => ?_)⟩
  · rcases Nat.lt_or_ge (pl - 1) (ls_pos f (f w) l) with z2 | z2
    · omega
    · have := ls_pos_ge f (f w) l hp (pl - 1) (by omega) z2
      rw [hx2] at this
      omega
  · have z2 : ls_pos f (f w) l ≤ pl - 1 := by
      rcases Nat.lt_or_ge (pl - 1) (ls_pos f (f w) l) with z2 | z2
      · have := ls_pos_lt f (f w) l (pl - 1) (by omega) z2
        rw [hx2] at this
        omega
      · exact z2
    refine ⟨pk_in (pl - 1) 24 (by omega), pk_in pl 24 (by omega), pk_in (pl - 1) 24 (by omega), pk_in pl 24 (by omega), pk_in (pl - 1) 24 (by omega), pk_in pl 24 (by omega), ?_⟩
    refine hc (pl - 1) _ ⟨z2, by omega, ?_, lg_out_xu (lg_out_xu (lg_out_xu h4 (by omega)) (by omega)) (by omega), fun i y hy => ⟨fun c1 => ?_, fun c1 => ?_⟩⟩ (by omega)
    · simp [xu_ap, h3]
    · have ne : i ≠ pl := by omega
      have q := (h5 i y hy).1 (by omega)
      simp [xu_ap, ne, q]
    · by_cases c2 : i = pl - 1
      · subst c2
        rw [hx] at hy
        cases hy
        have e3 : pl - 1 + 1 = pl := by omega
        have ne : pl - 1 ≠ pl := by omega
        simp [xu_ap, e3, q5, ne]
      · have q := (h5 i y hy).2 (by omega)
        have ne : i + 1 ≠ pl := by omega
        simp [xu_ap, ne, q]
def bw_p (b : SN) (y r w : Nat) : Bool := decide (b 2 w = y) && bw_book b w r
def bw_ls (b : SN) (y r : Nat) : List Nat := ls_ord (fun w => bw_sworn b w r) (bw_p b y r) (b 0 2)
theorem s_X1_gather {S : SX} {L : LX} {b : SN} (hB : bw_X 1 S b) (hO : bw_ok b) {y r : Nat} (hy : y < 8) (hr : r < 8) {post : SX → Prop} (h : ∀ S', lg_X S' (fun w => bw_sworn b w r) (fun w => bw_weight b w r) (bw_ls b y r) → lg_out S S' → post S') : kX1_gather S L (nI y) (nI r) post := by
  have hn := bo_n hO
  unfold kX1_gather
  refine pk_loop (fun n i (T : SX) => kX1_gather_b8 L (nI y) (nI r) post n (nI i) T) (fun i T => lg_X T (fun w => bw_sworn b w r) (fun w => bw_weight b w r) (ls_ord (fun w => bw_sworn b w r) (bw_p b y r) i) ∧ lg_out S T) (b 0 2) 0 _ (Nat.zero_le _) ⟨⟨by simp [xu_ap, ls_ord]; rfl, fun i x hx => by simp [ls_ord] at hx⟩, lg_out_xu (lg_out_rf S) (by omega)⟩ ?_ ?_
  · intro n T hT
    have hB' := bw_X_out hB hT.2
    unfold kX1_gather_b8
    rw [bx_n hB']
    exact pk_le (b 0 2) (b 0 2) (fun _ => h T hT.1 hT.2) (fun q => by omega)
  · intro n i T hi hT hc
    have hB' := bw_X_out hB hT.2
    have hyi := bo_year hO hi
    have hlen := ls_len_ord (fun w => bw_sworn b w r) (bw_p b y r) i
    unfold kX1_gather_b8
    rw [bx_n hB', nI_clamp (show i < 2 ^ 31 by omega), bx_year hB' hi, nI_1]
    refine pk_le (b 0 2) i (fun q => by omega) (fun _ => ⟨pk_in i 24 (by omega), pk_eq (b 2 i) y (fun q => s_X5_isInBook hB' hO hi hr (bw_br (fun z => hc T ?_) (fun z => s_X5_sworn hB' hO hi hr (s_X5_weight hB' hO hi hr (s_X1_insert hT.1 (by omega) (ls_sorted _ _ i) (fun x hx => ?_) (fun S' h1 h2 => hc S' ⟨?_, lg_out_tr hT.2 h2⟩)))))) (fun q => hc T ?_)⟩)
    · refine ⟨?_, hT.2⟩
      rw [ls_ord, if_neg (by simp [bw_p, z])]; exact hT.1
    · have hx2 : x < b 0 2 := by
        rcases hx with e | hx
        · omega
        · have := ((ls_mem_ord _ _ x i).mp hx).1; omega
      have := bw_sworn_le hO (y := r) hx2
      show bw_sworn b x r < 2 ^ 31
      omega
    · rw [ls_ord, if_pos (by simp [bw_p, z, q])]; exact h1
    · refine ⟨?_, hT.2⟩
      rw [ls_ord, if_neg (by simp [bw_p, q])]; exact hT.1
