/-! ===== the top: the class's sums over the living ===== -/
def bw_lw (b : SN) (y r wo : Nat) : List Nat := (bw_ls b y r).filter (fun x => decide (x ≠ wo))
def bw_top (b : SN) (y r q wo : Nat) : Nat := ls_top (fun w => bw_sworn b w r) (fun w => bw_weight b w r) (bw_lw b y r wo) (q * b 10 y)
def bw_parts (b : SN) (y r q wo : Nat) : Nat := if bw_tot b y r wo = 0 then 0 else bw_top b y r q wo * 10000 / bw_tot b y r wo
theorem bw_ls_mem {b : SN} {y r x : Nat} : x ∈ bw_ls b y r ↔ x < b 0 2 ∧ b 2 x = y ∧ bw_book b x r = true := by
  unfold bw_ls
  rw [ls_mem_ord]
  simp [bw_p]
theorem bw_lw_mem {b : SN} {y r wo x : Nat} : x ∈ bw_lw b y r wo ↔ x < b 0 2 ∧ b 2 x = y ∧ bw_book b x r = true ∧ x ≠ wo := by
  unfold bw_lw
  rw [List.mem_filter, bw_ls_mem]
  simp only [decide_eq_true_eq]
  constructor
  · rintro ⟨⟨h1, h2, h3⟩, h4⟩; exact ⟨h1, h2, h3, h4⟩
  · rintro ⟨h1, h2, h3, h4⟩; exact ⟨⟨h1, h2, h3⟩, h4⟩
theorem bw_lw_sorted (b : SN) (y r wo : Nat) : (bw_lw b y r wo).Pairwise (ls_prec (fun w => bw_sworn b w r)) := List.Pairwise.filter _ (ls_sorted _ _ _)
theorem bw_lw_sum (b : SN) (y r wo : Nat) : ls_sum (fun w => bw_sworn b w r * bw_weight b w r) (bw_lw b y r wo) = bw_tot b y r wo := by
  unfold bw_lw bw_ls bw_tot
  rw [ls_sum_filter, ls_sum_ord]
  refine fb_sm_cong (fun k _ => ?_)
  unfold bw_t bw_p
  by_cases h1 : b 2 k = y <;> by_cases h2 : k = wo <;> cases h3 : bw_book b k r <;> simp [h1, h2]
theorem bw_top_le (b : SN) (y r q wo : Nat) : bw_top b y r q wo ≤ 10 * bw_tot b y r wo := by
  rw [← bw_lw_sum]
  exact ls_top_le _ _ _ _
theorem bw_ls_len {b : SN} (y r : Nat) : (bw_ls b y r).length ≤ b 0 2 := ls_len_ord _ _ _
theorem lN_min {a c : Nat} (ha : a < 2 ^ 63) (hc : c < 2 ^ 63) : (if lN c < lN a then lN c else lN a) = lN (min a c) := by
  by_cases h : c < a
  · rw [if_pos ((pk_lLT hc ha).mpr h), Nat.min_eq_right (by omega)]
  · rw [if_neg (fun q => h ((pk_lLT hc ha).mp q)), Nat.min_eq_left (by omega)]
theorem ls_drop {l : List Nat} {i : Nat} (h : i < l.length) : l.drop i = l[i] :: l.drop (i + 1) := List.drop_eq_getElem_cons h
section LIV
variable {S : SX} {L : LX} {b : SN} {y r : Nat}
theorem bw_ls_at (hL : lg_X S (fun w => bw_sworn b w r) (fun w => bw_weight b w r) (bw_ls b y r)) {i : Nat} (h : i < (bw_ls b y r).length) : ∃ x, (bw_ls b y r).drop i = x :: (bw_ls b y r).drop (i + 1) ∧ x < b 0 2 ∧ S 34 i = nI x ∧ S 35 i = nI (bw_sworn b x r) ∧ S 36 i = nI (bw_weight b x r) :=
  ⟨(bw_ls b y r)[i], ls_drop h, (bw_ls_mem.mp (List.getElem_mem h)).1, hL.2 i _ (List.getElem?_eq_getElem h)⟩
theorem s_X1_sumAll (hO : bw_ok b) (hL : lg_X S (fun w => bw_sworn b w r) (fun w => bw_weight b w r) (bw_ls b y r)) {wo : Nat} {v : Int32} (hv : ∀ w, w < 24 → (nI w = v ↔ w = wo)) {post : Int64 → Prop} (h : post (lN (bw_tot b y r wo))) : kX1_sumAll S L v post := by
  have hn := bo_n hO
  have hlen := bw_ls_len (b := b) y r
  have ht := bw_tot_le hO y r wo
  unfold kX1_sumAll
  refine pk_loop (fun n i (s : Nat) => kX1_sumAll_b5 S L v post n (lN s) (nI i)) (fun i s => s + ls_sum (fun w => bw_sworn b w r * bw_weight b w r) (((bw_ls b y r).drop i).filter (fun x => decide (x ≠ wo))) = bw_tot b y r wo) (bw_ls b y r).length 0 0 (Nat.zero_le _) (by rw [List.drop_zero, Nat.zero_add]; exact bw_lw_sum b y r wo) ?_ ?_
  · intro n s hs
    rw [List.drop_length] at hs
    unfold kX1_sumAll_b5
    rw [hL.1]
    exact pk_le (bw_ls b y r).length (bw_ls b y r).length (fun _ => by rw [show s = bw_tot b y r wo from hs]; exact h) (fun q => by omega)
  · intro n i s hi hs hc
    obtain ⟨x, e1, e2, e3, e4, e5⟩ := bw_ls_at hL hi
    have h1 := bw_sworn_le hO (y := r) e2
    have h2 := bw_weight_le hO (y := r) e2
    rw [e1, List.filter_cons] at hs
    unfold kX1_sumAll_b5
    rw [hL.1, nI_clamp (show i < 2 ^ 31 by omega), e3, e4, e5, nI_1, bw_mulL (by omega) (by omega), lN_add]
    refine pk_le (bw_ls b y r).length i (fun q => by omega) (fun _ => ⟨pk_in i 24 (by omega), fun q => hc s ?_, fun q => ⟨pk_in i 24 (by omega), pk_in i 24 (by omega), hc _ ?_⟩⟩)
    · have q := (hv x (by omega)).mp q
      rw [if_neg (by simp [q])] at hs
      exact hs
    · have q : x ≠ wo := fun z => q ((hv x (by omega)).mpr z)
      rw [if_pos (decide_eq_true q), ls_sum] at hs
      omega
theorem s_X1_sumTop (hO : bw_ok b) (hy : y < 8) (hL : lg_X S (fun w => bw_sworn b w r) (fun w => bw_weight b w r) (bw_ls b y r)) {wo q : Nat} (hq : q ≤ 1000) {v : Int32} (hv : ∀ w, w < 24 → (nI w = v ↔ w = wo)) {post : Int64 → Prop} (h : post (lN (bw_top b y r q wo))) : kX1_sumTop S L (lN (q * b 10 y)) v post := by
  have hn := bo_n hO
  have hlen := bw_ls_len (b := b) y r
  have ht := bw_tot_le hO y r wo
  have ht2 := bw_top_le b y r q wo
  have hp := (bo_people hO hy).2
  have hroom : q * b 10 y ≤ 1000 * 999999 := Nat.mul_le_mul hq hp
  unfold kX1_sumTop
  refine pk_loop (σ := Nat × Nat) (fun n i s => kX1_sumTop_b9 S L (lN (q * b 10 y)) v post n (lN s.1) (lN s.2) (nI i)) (fun i s => s.1 + ls_top (fun w => bw_sworn b w r) (fun w => bw_weight b w r) (((bw_ls b y r).drop i).filter (fun x => decide (x ≠ wo))) s.2 = bw_top b y r q wo ∧ s.2 ≤ q * b 10 y) (bw_ls b y r).length 0 (0, q * b 10 y) (Nat.zero_le _) ⟨by rw [List.drop_zero]; exact Nat.zero_add _, Nat.le_refl _⟩ ?_ ?_
  · rintro n ⟨s, lf⟩ ⟨hs, hs2⟩
    dsimp only at hs hs2 ⊢
    rw [List.drop_length] at hs
    unfold kX1_sumTop_b9
    rw [hL.1]
    exact pk_le (bw_ls b y r).length (bw_ls b y r).length (fun _ => by rw [show s = bw_top b y r q wo from hs]; exact h) (fun q => by omega)
  · rintro n i ⟨s, lf⟩ hi ⟨hs, hs2⟩ hc
    dsimp only at hs hs2 hc ⊢
    obtain ⟨x, e1, e2, e3, e4, e5⟩ := bw_ls_at hL hi
    have h1 := bw_sworn_le hO (y := r) e2
    have h2 := bw_weight_le hO (y := r) e2
    rw [e1, List.filter_cons] at hs
    unfold kX1_sumTop_b9
    have e10 : (10 : Int64) * (nI (bw_weight b x r)).toInt64 = lN (10 * bw_weight b x r) := by rw [nI_l (by omega), show (10 : Int64) = lN 10 from rfl, lN_mul]
    rw [hL.1, nI_clamp (show i < 2 ^ 31 by omega), e3, e4, e5, nI_1, e10, lN_min (by omega) (by omega), nI_l (show bw_sworn b x r < 2 ^ 31 by omega), lN_mul, lN_add, lN_sub (Nat.min_le_right _ _)]
    refine pk_le (bw_ls b y r).length i (fun q => by omega) (fun _ => ⟨pk_in i 24 (by omega), fun q => hc (s, lf) ⟨?_, hs2⟩, fun q => ⟨pk_in i 24 (by omega), pk_in i 24 (by omega), hc (_, _) ⟨?_, ?_⟩⟩⟩)
    · have q := (hv x (by omega)).mp q
      rw [if_neg (by simp [q])] at hs
      exact hs
    · have q : x ≠ wo := fun z => q ((hv x (by omega)).mpr z)
      rw [if_pos (decide_eq_true q), ls_top] at hs
      dsimp only at hs ⊢
      omega
    · dsimp only; omega
theorem s_X6_divided {a c : Nat} (ha : a < 2 ^ 63) (hc : c < 2 ^ 63) {post : Int64 → Prop} (h : post (lN (a / c))) : kX6_divided S L (lN a) (lN c) post := by
  unfold kX6_divided
  refine ⟨fun q => ?_, fun q => ⟨q, ?_⟩⟩
  · have q : c = 0 := (pk_lEQ hc (by decide)).mp q
    rw [q, Nat.div_zero] at h; exact h
  · have q : c ≠ 0 := fun z => q (by rw [z]; rfl)
    rw [pk_lDiv ha (by omega) hc]; exact h
theorem s_X6_parts {a c : Nat} (ha : a * 10000 < 2 ^ 63) (hc : c < 2 ^ 63) {post : Int32 → Prop} (h : post (nI (a * 10000 / c))) : kX6_parts S L (lN a) (lN c) post := by
  unfold kX6_parts
  rw [show (10000 : Int64) = lN 10000 from rfl, lN_mul]
  refine s_X6_divided ha hc ?_
  rw [lN_i]; exact h
def bw_po (b : SN) (y r q wo : Nat) : Int32 := if bw_tot b y r wo = 0 then -4 else nI (bw_parts b y r q wo)
theorem s_X1_partsOfTop (hO : bw_ok b) (hy : y < 8) (hL : lg_X S (fun w => bw_sworn b w r) (fun w => bw_weight b w r) (bw_ls b y r)) {wo q : Nat} (hq : q ≤ 1000) {v : Int32} (hv : ∀ w, w < 24 → (nI w = v ↔ w = wo)) {post : Int32 → Prop} (h : post (bw_po b y r q wo)) : kX1_partsOfTop S L (lN (q * b 10 y)) v post := by
  have ht := bw_tot_le hO y r wo
  have ht2 := bw_top_le b y r q wo
  unfold kX1_partsOfTop
  refine s_X1_sumAll hO hL hv ⟨fun z => ?_, fun z => s_X1_sumTop hO hy hL hq hv (s_X6_parts (by omega) (by omega) ?_)⟩
  · have z : bw_tot b y r wo = 0 := (pk_lEQ (by omega) (by decide)).mp z
    unfold bw_po at h; rw [if_pos z] at h; exact h
  · have z : bw_tot b y r wo ≠ 0 := fun q => z (by rw [q]; rfl)
    unfold bw_po bw_parts at h; rw [if_neg z, if_neg z] at h; exact h
end LIV
theorem bw_parts_le (b : SN) (y r q wo : Nat) : bw_parts b y r q wo ≤ 100000 := by
  unfold bw_parts
  split
  · omega
  · rename_i z
    have ht2 := bw_top_le b y r q wo
    calc _ ≤ (bw_tot b y r wo * 100000) / bw_tot b y r wo := Nat.div_le_div_right (by omega)
      _ = 100000 := by rw [Nat.mul_div_cancel_left _ (by omega)]
/-! ===== one bit of a set ===== -/
theorem bt_sh : ∀ k, k < 32 → ((nI k &&& 31).toBitVec.smod 32).toNat = k := by decide
theorem bt_get {d k : Nat} (hd : d < 2 ^ 31) (hk : k < 32) : ((nI d >>> (nI k &&& 31)) &&& (1 : Int32)) = nI (d / 2 ^ k % 2) := by
  have h1 : d / 2 ^ k ≤ d := Nat.div_le_self _ _
  rw [pk_shrN hd (nI k &&& 31) k (bt_sh k hk), pk_andN (n := d / 2 ^ k) (by omega) 1 rfl]
theorem bt_0 {d k : Nat} (hd : d < 2 ^ 31) (hk : k < 32) : ((nI d >>> (nI k &&& 31)) &&& (1 : Int32)) = 0 ↔ d.testBit k = false := by
  rw [bt_get hd hk, bw_z (by omega), Nat.testBit_eq_decide_div_mod_eq, decide_eq_false_iff_not]
  omega
theorem bt_1 {d k : Nat} (hd : d < 2 ^ 31) (hk : k < 32) : ((nI d >>> (nI k &&& 31)) &&& (1 : Int32)) = 1 ↔ d.testBit k = true := by
  rw [bt_get hd hk, show (1 : Int32) = nI 1 from rfl, nI_eq (by omega) (by omega), Nat.testBit_eq_decide_div_mod_eq, decide_eq_true_eq]
theorem bt_one : ∀ k, k < 24 → ((1 : Int32) <<< (nI k &&& 31)) = nI (2 ^ k) := by decide
theorem bt_set (d k : Nat) (hk : k < 24) : (nI d ||| ((1 : Int32) <<< (nI k &&& 31))) = nI (d ||| 2 ^ k) := by rw [bt_one k hk, fa_or]
theorem bt_setlt {d k N : Nat} (hd : d < 2 ^ N) (hk : k < N) : d ||| 2 ^ k < 2 ^ N := Nat.or_lt_two_pow hd (Nat.pow_lt_pow_right (by decide) hk)
theorem bt_setb (d k j : Nat) : (d ||| 2 ^ k).testBit j = (d.testBit j || decide (k = j)) := by rw [Nat.testBit_or, Nat.testBit_two_pow]
