/-! ===== sums and counts over wills ===== -/
def bw_t (b : SN) (y r wo w : Nat) : Nat := if b 2 w = y ∧ w ≠ wo ∧ bw_book b w r = true then bw_sworn b w r * bw_weight b w r else 0
def bw_tot (b : SN) (y r wo : Nat) : Nat := fb_sm (bw_t b y r wo) (b 0 2)
def bw_all (b : SN) (w : Nat) : Nat := b 5 (4 * w) + b 5 (4 * w + 1) + b 5 (4 * w + 2) + b 5 (4 * w + 3)
def bw_u (b : SN) (y w : Nat) : Nat := if b 2 w = y then (bw_all b w - bw_sworn b w y) * (if bw_book b w y then bw_weight b w y else 100 * b 1 (b 3 w)) else 0
def bw_un (b : SN) (y : Nat) : Nat := fb_sm (bw_u b y) (b 0 2)
def bw_inb (b : SN) (y w : Nat) : Bool := decide (b 2 w = y) && bw_book b w y
theorem bw_seen_all {b : SN} (w y : Nat) : bw_seen b w y ≤ bw_all b w := by
  unfold bw_seen bw_all
  split
  · omega
  · split <;> split <;> split <;> omega
theorem bw_sworn_all {b : SN} (w y : Nat) : bw_sworn b w y ≤ bw_all b w := by
  have h := bw_seen_all (b := b) w y
  unfold bw_sworn
  split <;> omega
theorem bw_all_le {b : SN} (hO : bw_ok b) {w : Nat} (hw : w < b 0 2) : bw_all b w ≤ 39996 := by
  have h0 := bo_had hO (j := 4 * w) (by omega)
  have h1 := bo_had hO (j := 4 * w + 1) (by omega)
  have h2 := bo_had hO (j := 4 * w + 2) (by omega)
  have h3 := bo_had hO (j := 4 * w + 3) (by omega)
  unfold bw_all
  omega
theorem bw_t_le {b : SN} (hO : bw_ok b) {w : Nat} (hw : w < b 0 2) (y r wo : Nat) : bw_t b y r wo w ≤ 3199680000 := by
  unfold bw_t
  split
  · calc bw_sworn b w r * bw_weight b w r ≤ 39996 * 80000 := Nat.mul_le_mul (bw_sworn_le hO hw) (bw_weight_le hO hw)
      _ = 3199680000 := rfl
  · omega
theorem bw_tot_le {b : SN} (hO : bw_ok b) (y r wo : Nat) : bw_tot b y r wo ≤ 76792320000 := by
  have hn := bo_n hO
  have h := fb_sm_bound (f := bw_t b y r wo) (c := 3199680000) (n := b 0 2) (fun k hk => bw_t_le hO hk y r wo)
  unfold bw_tot
  calc _ ≤ b 0 2 * 3199680000 := h
    _ ≤ 24 * 3199680000 := Nat.mul_le_mul hn (Nat.le_refl _)
    _ = 76792320000 := rfl
theorem bw_u_w {b : SN} (hO : bw_ok b) {w : Nat} (hw : w < b 0 2) (y : Nat) : (if bw_book b w y then bw_weight b w y else 100 * b 1 (b 3 w)) ≤ 80000 := by
  have h1 := bo_age hO hw
  have h2 := (bo_lives hO (j := b 3 w) (by omega)).2
  split
  · exact bw_weight_le hO hw
  · omega
theorem bw_u_le {b : SN} (hO : bw_ok b) {w : Nat} (hw : w < b 0 2) (y : Nat) : bw_u b y w ≤ 3199680000 := by
  unfold bw_u
  split
  · have h := bw_all_le hO hw
    calc _ ≤ 39996 * 80000 := Nat.mul_le_mul (by omega) (bw_u_w hO hw y)
      _ = 3199680000 := rfl
  · omega
theorem bw_un_le {b : SN} (hO : bw_ok b) (y : Nat) : bw_un b y ≤ 76792320000 := by
  have hn := bo_n hO
  have h := fb_sm_bound (f := bw_u b y) (c := 3199680000) (n := b 0 2) (fun k hk => bw_u_le hO hk y)
  unfold bw_un
  calc _ ≤ b 0 2 * 3199680000 := h
    _ ≤ 24 * 3199680000 := Nat.mul_le_mul hn (Nat.le_refl _)
    _ = 76792320000 := rfl
theorem lN_z : (0 : Int64) = lN 0 := rfl
theorem bw_lz (n : Nat) : lN n + (0 : Int64) = lN n := by rw [lN_z, lN_add]; rfl
theorem bw_iz (n : Nat) : nI n + (0 : Int32) = nI n := by rw [show (0 : Int32) = nI 0 from rfl, nI_add]; rfl
theorem bw_mulL {a c : Nat} (ha : a < 2 ^ 31) (hc : c < 2 ^ 31) : (nI a).toInt64 * (nI c).toInt64 = lN (a * c) := by rw [nI_l ha, nI_l hc, lN_mul]
theorem s_X5_howManyOfKind {S : SX} {L : LX} {b : SN} (hB : bw_X 1 S b) (hO : bw_ok b) {k : Nat} (hk : k < 4) {post : Int32 → Prop} (h : post (nI (fb_ct (fun w => decide (bw_kind b w = k)) (b 0 2)))) : kX5_howManyOfKind S L (nI k) post := by
  have hn := bo_n hO
  unfold kX5_howManyOfKind
  refine pk_loop (fun n i (s : Nat) => kX5_howManyOfKind_b4 S L (nI k) post n (nI s) (nI i)) (fun i s => s = fb_ct (fun w => decide (bw_kind b w = k)) i) (b 0 2) 0 0 (Nat.zero_le _) rfl ?_ ?_
  · intro n s hs
    unfold kX5_howManyOfKind_b4
    rw [bx_n hB]
    exact pk_le (b 0 2) (b 0 2) (fun _ => by rw [hs]; exact h) (fun q => by omega)
  · intro n i s hi hs hc
    unfold kX5_howManyOfKind_b4
    rw [bx_n hB]
    refine pk_le (b 0 2) i (fun q => by omega) (fun _ => s_X5_kind hB hO hi ?_)
    have hkk : bw_kind b i < 4 := by unfold bw_kind; split; omega; split; omega; split <;> omega
    rw [nI_1, nI_1]
    refine pk_eq (bw_kind b i) k (fun q => hc (s + 1) ?_) (fun q => hc s ?_)
    · rw [fb_ct_succ, hs, decide_eq_true q]; rfl
    · rw [fb_ct_succ, hs, decide_eq_false q]; rfl
theorem s_X5_howManyInBook {S : SX} {L : LX} {b : SN} (hB : bw_X 1 S b) (hO : bw_ok b) {y : Nat} (hy : y < 8) {post : Int32 → Prop} (h : post (nI (fb_ct (bw_inb b y) (b 0 2)))) : kX5_howManyInBook S L (nI y) post := by
  have hn := bo_n hO
  unfold kX5_howManyInBook
  refine pk_loop (fun n i (s : Nat) => kX5_howManyInBook_b4 S L (nI y) post n (nI s) (nI i)) (fun i s => s = fb_ct (bw_inb b y) i) (b 0 2) 0 0 (Nat.zero_le _) rfl ?_ ?_
  · intro n s hs
    unfold kX5_howManyInBook_b4
    rw [bx_n hB]
    exact pk_le (b 0 2) (b 0 2) (fun _ => by rw [hs]; exact h) (fun q => by omega)
  · intro n i s hi hs hc
    have hyi := bo_year hO hi
    unfold kX5_howManyInBook_b4
    rw [bx_n hB, nI_clamp (show i < 2 ^ 31 by omega), bx_year hB hi, nI_1, nI_1]
    refine pk_le (b 0 2) i (fun q => by omega) (fun _ => ⟨pk_in i 24 (by omega), pk_eq (b 2 i) y (fun q => s_X5_isInBook hB hO hi hy (bw_br (fun z => hc s ?_) (fun z => hc (s + 1) ?_))) (fun q => hc s ?_)⟩)
    · rw [fb_ct_succ, hs]; simp [bw_inb, z]
    · rw [fb_ct_succ, hs]; simp [bw_inb, z, q]
    · rw [fb_ct_succ, hs]; simp [bw_inb, q]
theorem s_X5_sumSworn {S : SX} {L : LX} {b : SN} (hB : bw_X 1 S b) (hO : bw_ok b) {y r : Nat} (hy : y < 8) (hr : r < 8) {post : Int64 → Prop} (h : post (lN (bw_tot b y r 99))) : kX5_sumSworn S L (nI y) (nI r) post := by
  have hn := bo_n hO
  unfold kX5_sumSworn
  refine pk_loop (fun n i (s : Nat) => kX5_sumSworn_b5 S L (nI y) (nI r) post n (lN s) (nI i)) (fun i s => s = fb_sm (bw_t b y r 99) i) (b 0 2) 0 0 (Nat.zero_le _) rfl ?_ ?_
  · intro n s hs
    unfold kX5_sumSworn_b5
    rw [bx_n hB]
    exact pk_le (b 0 2) (b 0 2) (fun _ => by rw [hs]; exact h) (fun q => by omega)
  · intro n i s hi hs hc
    have hyi := bo_year hO hi
    have h1 := bw_sworn_le hO (y := r) hi
    have h2 := bw_weight_le hO (y := r) hi
    unfold kX5_sumSworn_b5
    rw [bx_n hB, nI_clamp (show i < 2 ^ 31 by omega), bx_year hB hi, nI_1]
    refine pk_le (b 0 2) i (fun q => by omega) (fun _ => ⟨pk_in i 24 (by omega), pk_eq (b 2 i) y (fun q => s_X5_isInBook hB hO hi hr (bw_br (fun z => hc s ?_) (fun z => s_X5_sworn hB hO hi hr (s_X5_weight hB hO hi hr ?_)))) (fun q => hc s ?_)⟩)
    · rw [fb_sm_succ, hs]; simp [bw_t, z]
    · rw [bw_mulL (by omega) (by omega), lN_add]
      refine hc _ ?_
      rw [fb_sm_succ, hs, bw_t, if_pos ⟨q, by omega, z⟩]
    · rw [fb_sm_succ, hs]; simp [bw_t, q]
theorem s_X7_totalOf {S : SX} {L : LX} {b : SN} (hB : bw_M S b) (hO : bw_ok b) {y r wo : Nat} (hy : y < 8) (hr : r < 8) {v : Int32} (hv : ∀ w, w < 24 → (nI w = v ↔ w = wo)) {post : Int64 → Prop} (h : post (lN (bw_tot b y r wo))) : kX7_totalOf S L (nI y) (nI r) v post := by
  have hn := bo_n hO
  unfold kX7_totalOf
  refine pk_loop (fun n i (s : Nat) => kX7_totalOf_b6 S L (nI y) (nI r) v post n (lN s) (nI i)) (fun i s => s = fb_sm (bw_t b y r wo) i) (b 0 2) 0 0 (Nat.zero_le _) rfl ?_ ?_
  · intro n s hs
    unfold kX7_totalOf_b6
    rw [bm_n hB]
    exact pk_le (b 0 2) (b 0 2) (fun _ => by rw [hs]; exact h) (fun q => by omega)
  · intro n i s hi hs hc
    have hyi := bo_year hO hi
    have h1 := bw_sworn_le hO (y := r) hi
    have h2 := bw_weight_le hO (y := r) hi
    unfold kX7_totalOf_b6
    rw [bm_n hB, nI_clamp (show i < 2 ^ 31 by omega), bm_year hB hi, nI_1, bw_lz]
    refine pk_le (b 0 2) i (fun q => by omega) (fun _ => ⟨pk_in i 24 (by omega), pk_eq (b 2 i) y (fun q => ⟨fun z0 => hc s ?_, fun z0 => s_X7_isBooked hB hO hi hr (bw_br (fun z => hc s ?_) (fun z => s_X7_sworn hB hO hi hr (s_X7_weight hB hO hi hr ?_)))⟩) (fun q => hc s ?_)⟩)
    · have z1 := (hv i (by omega)).mp z0
      rw [fb_sm_succ, hs]; simp [bw_t, z1]
    · rw [fb_sm_succ, hs]; simp [bw_t, z]
    · rw [bw_mulL (by omega) (by omega), lN_add]
      refine hc _ ?_
      rw [fb_sm_succ, hs, bw_t, if_pos ⟨q, fun z1 => z0 ((hv i (by omega)).mpr z1), z⟩]
    · rw [fb_sm_succ, hs]; simp [bw_t, q]
theorem bw_none : ∀ w, w < 24 → (nI w = (-4 : Int32) ↔ w = 99) := by decide
theorem bw_nobody : ∀ w, w < 24 → (nI w = (-1 : Int32) ↔ w = 99) := by decide
theorem bw_some {k : Nat} (hk : k < 24) : ∀ w, w < 24 → (nI w = nI k ↔ w = k) := fun w hw => nI_eq (by omega) (by omega)
theorem s_X5_allHad {S : SX} {L : LX} {b : SN} (hB : bw_X 1 S b) (hO : bw_ok b) {w : Nat} (hw : w < b 0 2) {post : Int32 → Prop} (h : post (nI (bw_all b w))) : kX5_allHad S L (nI w) post := by
  have hn := bo_n hO
  unfold kX5_allHad
  have e0 : nI w * (4 : Int32) = nI (4 * w) := by rw [show (4 : Int32) = nI 4 from rfl, pk_mul, Nat.mul_comm]
  have step : ∀ (n k acc : Nat), k < 4 → kX5_allHad_b4 S L (nI w) post n (nI (acc + b 5 (4 * w + k))) (nI (k + 1)) → kX5_allHad_b4 S L (nI w) post (n + 1) (nI acc) (nI k) := by
    intro n k acc h4 hc
    unfold kX5_allHad_b4
    rw [e0, nI_add, nI_1]
    refine pk_le 4 k (fun q => by omega) (fun _ => ⟨pk_in (4 * w + k) 96 (by omega), ?_⟩)
    rw [nI_clamp (by omega), bx_had hB (by omega), nI_add]
    exact hc
  refine ⟨5, step 4 0 0 (by omega) (step 3 1 _ (by omega) (step 2 2 _ (by omega) (step 1 3 _ (by omega) ?_)))⟩
  unfold kX5_allHad_b4
  refine ⟨fun _ => ?_, fun q => absurd (by decide) q⟩
  rw [show 0 + b 5 (4 * w + 0) + b 5 (4 * w + 1) + b 5 (4 * w + 2) + b 5 (4 * w + 3) = bw_all b w by unfold bw_all; rw [Nat.add_zero, Nat.zero_add]]
  exact h
theorem bw_sub3 {a c : Nat} (h : c ≤ a) (ha : a < 2 ^ 31) : (nI a - nI c).toInt64 = lN (a - c) := by rw [pk_sub h, nI_l (by omega)]
theorem s_X5_sumUnseen {S : SX} {L : LX} {b : SN} (hB : bw_X 1 S b) (hO : bw_ok b) {y : Nat} (hy : y < 8) {post : Int64 → Prop} (h : post (lN (bw_un b y))) : kX5_sumUnseen S L (nI y) post := by
  have hn := bo_n hO
  unfold kX5_sumUnseen
  refine pk_loop (fun n i (s : Nat) => kX5_sumUnseen_b5 S L (nI y) post n (lN s) (nI i)) (fun i s => s = fb_sm (bw_u b y) i) (b 0 2) 0 0 (Nat.zero_le _) rfl ?_ ?_
  · intro n s hs
    unfold kX5_sumUnseen_b5
    rw [bx_n hB]
    exact pk_le (b 0 2) (b 0 2) (fun _ => by rw [hs]; exact h) (fun q => by omega)
  · intro n i s hi hs hc
    have hyi := bo_year hO hi
    have hag := bo_age hO hi
    have h1 := bw_sworn_all (b := b) i y
    have h2 := bw_all_le hO hi
    have h3 := bw_u_w hO hi y
    have fin : ∀ z : Nat, z = (if bw_book b i y then bw_weight b i y else 100 * b 1 (b 3 i)) → b 2 i = y → kX5_sumUnseen_b69 S L (nI y) post (kX5_sumUnseen_b5 S L (nI y) post n) (lN s) (nI i) (nI z) := by
      intro z hz q
      unfold kX5_sumUnseen_b69
      refine s_X5_allHad hB hO hi (s_X5_sworn hB hO hi hy ?_)
      rw [bw_sub3 h1 (by omega), nI_l (show z < 2 ^ 31 by omega), lN_mul, lN_add, nI_1]
      refine hc _ ?_
      rw [fb_sm_succ, hs, bw_u, if_pos q, hz]
    unfold kX5_sumUnseen_b5
    rw [bx_n hB, nI_clamp (show i < 2 ^ 31 by omega), bx_year hB hi, bx_age hB hi, nI_clamp (show b 3 i < 2 ^ 31 by omega), bx_lives hB (show b 3 i < 6 by omega), nI_1]
    refine pk_le (b 0 2) i (fun q => by omega) (fun _ => ⟨pk_in i 24 (by omega), pk_eq (b 2 i) y (fun q => s_X5_isInBook hB hO hi hy (bw_br (fun z => ⟨pk_in i 24 (by omega), pk_in (b 3 i) 6 (by omega), ?_⟩) (fun z => s_X5_weight hB hO hi hy ?_))) (fun q => hc s ?_)⟩)
    · rw [show (100 : Int32) = nI 100 from rfl, pk_mul]
      exact fin _ (by rw [z]; rfl) q
    · exact fin _ (by rw [z]; rfl) q
    · rw [fb_sm_succ, hs]; simp [bw_u, q]
theorem s_X7_unseen {S : SX} {L : LX} {b : SN} (hB : bw_M S b) (hO : bw_ok b) {y : Nat} (hy : y < 8) {post : Int64 → Prop} (h : post (lN (bw_un b y))) : kX7_unseen S L (nI y) post := by
  have hn := bo_n hO
  unfold kX7_unseen
  refine pk_loop (fun n i (s : Nat) => kX7_unseen_b5 S L (nI y) post n (lN s) (nI i)) (fun i s => s = fb_sm (bw_u b y) i) (b 0 2) 0 0 (Nat.zero_le _) rfl ?_ ?_
  · intro n s hs
    unfold kX7_unseen_b5
    rw [bm_n hB]
    exact pk_le (b 0 2) (b 0 2) (fun _ => by rw [hs]; exact h) (fun q => by omega)
  · intro n i s hi hs hc
    have hyi := bo_year hO hi
    have hag := bo_age hO hi
    have h1 := bw_sworn_all (b := b) i y
    have h2 := bw_all_le hO hi
    have h3 := bw_u_w hO hi y
    have h5 := bw_sworn_le hO (y := y) hi
    have fin : ∀ z : Nat, z = (if bw_book b i y then bw_weight b i y else 100 * b 1 (b 3 i)) → kX7_unseen_b85 S L (nI y) post (kX7_unseen_b5 S L (nI y) post n) (lN s) (nI i) (lN (bw_all b i)) (nI z) := by
      intro z hz
      unfold kX7_unseen_b85
      rw [nI_clamp (show i < 2 ^ 31 by omega), bm_year hB hi, nI_1, bw_lz]
      refine ⟨pk_in i 24 (by omega), pk_eq (b 2 i) y (fun q => s_X7_sworn hB hO hi hy ?_) (fun q => hc s ?_)⟩
      · rw [nI_l (show bw_sworn b i y < 2 ^ 31 by omega), lN_sub h1, nI_l (show z < 2 ^ 31 by omega), lN_mul, lN_add]
        refine hc _ ?_
        rw [fb_sm_succ, hs, bw_u, if_pos q, hz]
      · rw [fb_sm_succ, hs]; simp [bw_u, q]
    have e0 : (4 : Int32) * nI i = nI (4 * i) := by rw [show (4 : Int32) = nI 4 from rfl, pk_mul]
    have step : ∀ (m k acc : Nat), k < 4 → kX7_unseen_b20 S L (nI y) post (kX7_unseen_b5 S L (nI y) post n) m (lN s) (nI i) (lN (acc + b 5 (4 * i + k))) (nI (k + 1)) → kX7_unseen_b20 S L (nI y) post (kX7_unseen_b5 S L (nI y) post n) (m + 1) (lN s) (nI i) (lN acc) (nI k) := by
      intro m k acc h4 hcc
      have h6 := bo_had hO (j := 4 * i + k) (by omega)
      unfold kX7_unseen_b20
      rw [e0, nI_add, nI_1]
      refine pk_le 4 k (fun q => by omega) (fun _ => ⟨pk_in (4 * i + k) 96 (by omega), ?_⟩)
      rw [nI_clamp (by omega), bm_had hB (by omega), nI_l (by omega), lN_add]
      exact hcc
    unfold kX7_unseen_b5
    rw [bm_n hB]
    refine pk_le (b 0 2) i (fun q => by omega) (fun _ => ⟨5, step 4 0 0 (by omega) (step 3 1 _ (by omega) (step 2 2 _ (by omega) (step 1 3 _ (by omega) ?_)))⟩)
    unfold kX7_unseen_b20
    refine ⟨fun _ => ?_, fun q => absurd (by decide) q⟩
    rw [show 0 + b 5 (4 * i + 0) + b 5 (4 * i + 1) + b 5 (4 * i + 2) + b 5 (4 * i + 3) = bw_all b i by unfold bw_all; rw [Nat.add_zero, Nat.zero_add]]
    rw [nI_clamp (show i < 2 ^ 31 by omega), bm_age hB hi, nI_clamp (show b 3 i < 2 ^ 31 by omega), bm_lives hB (show b 3 i < 6 by omega)]
    refine s_X7_isBooked hB hO hi hy (bw_br (fun z => ⟨pk_in i 24 (by omega), pk_in (b 3 i) 6 (by omega), ?_⟩) (fun z => s_X7_weight hB hO hi hy ?_))
    · rw [show (100 : Int32) = nI 100 from rfl, pk_mul]
      exact fin _ (by rw [z]; rfl)
    · exact fin _ (by rw [z]; rfl)
theorem s_X5_topRoom {S : SX} {L : LX} {b : SN} (hB : bw_X 1 S b) (hO : bw_ok b) {y q : Nat} (hy : y < 8) (hq : q ≤ 1000) {post : Int64 → Prop} (h : post (lN (q * b 10 y))) : kX5_topRoom S L (nI y) (nI q) post := by
  have hp := (bo_people hO hy).2
  unfold kX5_topRoom
  rw [nI_clamp (show y < 2 ^ 31 by omega), bx_people hB hy, bw_mulL (by omega) (by omega)]
  exact ⟨pk_in y 8 hy, h⟩
