/-! ===== the order of wills: by what is sworn, the most first, of like ones the first ===== -/
def ls_prec (f : Nat → Nat) (a c : Nat) : Prop := f c < f a ∨ (f a = f c ∧ a < c)
def ls_pos (f : Nat → Nat) (s : Nat) (l : List Nat) : Nat := (l.takeWhile (fun x => decide (s ≤ f x))).length
def ls_ins (f : Nat → Nat) (w : Nat) (l : List Nat) : List Nat := l.take (ls_pos f (f w) l) ++ w :: l.drop (ls_pos f (f w) l)
def ls_ord (f : Nat → Nat) (p : Nat → Bool) : Nat → List Nat
  | 0 => []
  | m + 1 => if p m then ls_ins f m (ls_ord f p m) else ls_ord f p m
def ls_top (f g : Nat → Nat) : List Nat → Nat → Nat
  | [], _ => 0
  | x :: l, room => f x * min (10 * g x) room + ls_top f g l (room - min (10 * g x) room)
def ls_sum (h : Nat → Nat) : List Nat → Nat
  | [] => 0
  | x :: l => h x + ls_sum h l
theorem ls_sum_app (h : Nat → Nat) : ∀ l r : List Nat, ls_sum h (l ++ r) = ls_sum h l + ls_sum h r
  | [], r => by simp [ls_sum]
  | x :: l, r => by simp only [List.cons_append, ls_sum, ls_sum_app h l r]; omega
theorem ls_sum_ins (f h : Nat → Nat) (w : Nat) (l : List Nat) : ls_sum h (ls_ins f w l) = h w + ls_sum h l := by
  have e := ls_sum_app h (l.take (ls_pos f (f w) l)) (l.drop (ls_pos f (f w) l))
  rw [List.take_append_drop] at e
  unfold ls_ins
  rw [ls_sum_app, ls_sum]
  omega
theorem ls_sum_ord (f h : Nat → Nat) (p : Nat → Bool) : ∀ m, ls_sum h (ls_ord f p m) = fb_sm (fun k => if p k then h k else 0) m
  | 0 => rfl
  | m + 1 => by
    have ih := ls_sum_ord f h p m
    rw [fb_sm_succ, ls_ord]
    cases e : p m with
    | true => rw [if_pos rfl, ls_sum_ins, ih]; simp; omega
    | false => simp; exact ih
theorem ls_mem_ins (f : Nat → Nat) (w : Nat) (l : List Nat) (x : Nat) : x ∈ ls_ins f w l ↔ x = w ∨ x ∈ l := by
  have e : x ∈ l ↔ x ∈ l.take (ls_pos f (f w) l) ∨ x ∈ l.drop (ls_pos f (f w) l) := by
    rw [← List.mem_append, List.take_append_drop]
  unfold ls_ins
  rw [List.mem_append, List.mem_cons, e]
  constructor
  · rintro (h | h | h)
    · exact Or.inr (Or.inl h)
    · exact Or.inl h
    · exact Or.inr (Or.inr h)
  · rintro (h | h | h)
    · exact Or.inr (Or.inl h)
    · exact Or.inl h
    · exact Or.inr (Or.inr h)
theorem ls_mem_ord (f : Nat → Nat) (p : Nat → Bool) (x : Nat) : ∀ m, x ∈ ls_ord f p m ↔ x < m ∧ p x = true
  | 0 => by simp [ls_ord]
  | m + 1 => by
    have ih := ls_mem_ord f p x m
    rw [ls_ord]
    cases e : p m with
    | true =>
      rw [if_pos rfl, ls_mem_ins, ih]
      constructor
      · rintro (h | h)
        · exact ⟨by omega, by rw [h]; exact e⟩
        · exact ⟨by omega, h.2⟩
      · rintro ⟨h1, h2⟩
        by_cases hx : x = m
        · exact Or.inl hx
        · exact Or.inr ⟨by omega, h2⟩
    | false =>
      simp only [Bool.false_eq_true, if_false]
      rw [ih]
      constructor
      · rintro ⟨h1, h2⟩; exact ⟨by omega, h2⟩
      · rintro ⟨h1, h2⟩
        refine ⟨?_, h2⟩
        by_cases hx : x = m
        · rw [hx, e] at h2; cases h2
        · omega
theorem ls_len_ins (f : Nat → Nat) (w : Nat) (l : List Nat) : (ls_ins f w l).length = l.length + 1 := by
  have e : (l.take (ls_pos f (f w) l) ++ l.drop (ls_pos f (f w) l)).length = l.length := by rw [List.take_append_drop]
  rw [List.length_append] at e
  unfold ls_ins
  rw [List.length_append, List.length_cons]
  omega
theorem ls_len_ord (f : Nat → Nat) (p : Nat → Bool) : ∀ m, (ls_ord f p m).length ≤ m
  | 0 => Nat.le_refl _
  | m + 1 => by
    have ih := ls_len_ord f p m
    rw [ls_ord]
    cases p m with
    | true => rw [if_pos rfl, ls_len_ins]; omega
    | false => simp; omega
theorem ls_pos_le (f : Nat → Nat) (s : Nat) : ∀ l : List Nat, ls_pos f s l ≤ l.length
  | [] => Nat.le_refl _
  | x :: l => by
    have ih := ls_pos_le f s l
    unfold ls_pos at ih ⊢
    rw [List.takeWhile_cons]
    split
    · simp only [List.length_cons]; omega
    · simp
theorem ls_pos_lt (f : Nat → Nat) (s : Nat) : ∀ (l : List Nat) (i : Nat) (h : i < l.length), i < ls_pos f s l → s ≤ f l[i]
  | [], i, h, _ => absurd h (Nat.not_lt_zero i)
  | x :: l, i, h, hi => by
    unfold ls_pos at hi
    rw [List.takeWhile_cons] at hi
    by_cases c : s ≤ f x
    · rw [if_pos (decide_eq_true c), List.length_cons] at hi
      cases i with
      | zero => exact c
      | succ i => exact ls_pos_lt f s l i (by simpa using h) (by unfold ls_pos; omega)
    · rw [if_neg (by simpa using c)] at hi
      exact absurd hi (Nat.not_lt_zero i)
theorem ls_pos_ge (f : Nat → Nat) (s : Nat) : ∀ (l : List Nat), l.Pairwise (ls_prec f) → ∀ (i : Nat) (h : i < l.length), ls_pos f s l ≤ i → f l[i] < s
  | [], _, i, h, _ => absurd h (Nat.not_lt_zero i)
  | x :: l, hp, i, h, hi => by
    rw [List.pairwise_cons] at hp
    unfold ls_pos at hi
    rw [List.takeWhile_cons] at hi
    by_cases c : s ≤ f x
    · rw [if_pos (decide_eq_true c), List.length_cons] at hi
      cases i with
      | zero => omega
      | succ i => exact ls_pos_ge f s l hp.2 i (by simpa using h) (by unfold ls_pos; omega)
    · cases i with
      | zero => simp only [List.getElem_cons_zero]; omega
      | succ i =>
        simp only [List.getElem_cons_succ]
        have := hp.1 _ (List.getElem_mem (l := l) (n := i) (by simpa using h))
        unfold ls_prec at this
        omega
theorem ls_sorted_ins (f : Nat → Nat) (w : Nat) (l : List Nat) (hl : ∀ x, x ∈ l → x < w) (hp : l.Pairwise (ls_prec f)) : (ls_ins f w l).Pairwise (ls_prec f) := by
  have ht : ∀ x, x ∈ l.take (ls_pos f (f w) l) → f w ≤ f x := by
    intro x hx
    obtain ⟨i, hi, rfl⟩ := List.getElem_of_mem hx
    rw [List.length_take] at hi
    rw [List.getElem_take]
    exact ls_pos_lt f (f w) l i (by omega) (by omega)
  have hd : ∀ x, x ∈ l.drop (ls_pos f (f w) l) → f x < f w := by
    intro x hx
    obtain ⟨i, hi, rfl⟩ := List.getElem_of_mem hx
    rw [List.length_drop] at hi
    rw [List.getElem_drop]
    exact ls_pos_ge f (f w) l hp _ (by omega) (by omega)
  have hall := hp
  rw [← List.take_append_drop (ls_pos f (f w) l) l, List.pairwise_append] at hall
  unfold ls_ins
  rw [List.pairwise_append, List.pairwise_cons]
  refine ⟨hall.1, ⟨fun x hx => Or.inl (hd x hx), hall.2.1⟩, fun x hx z hz => ?_⟩
  rcases List.mem_cons.mp hz with rfl | hz
  · have h1 := ht x hx
    have h2 := hl x (List.mem_of_mem_take hx)
    unfold ls_prec
    omega
  · exact hall.2.2 x hx z hz
theorem ls_sorted (f : Nat → Nat) (p : Nat → Bool) : ∀ m, (ls_ord f p m).Pairwise (ls_prec f)
  | 0 => List.Pairwise.nil
  | m + 1 => by
    have ih := ls_sorted f p m
    rw [ls_ord]
    cases p m with
    | true => rw [if_pos rfl]; exact ls_sorted_ins f m _ (fun x hx => ((ls_mem_ord f p x m).mp hx).1) ih
    | false => simpa using ih
theorem ls_ins_get (f : Nat → Nat) (w : Nat) (l : List Nat) (i : Nat) : (ls_ins f w l)[i]? = if i < ls_pos f (f w) l then l[i]? else if i = ls_pos f (f w) l then some w else l[i - 1]? := by
  have hp := ls_pos_le f (f w) l
  unfold ls_ins
  rw [List.getElem?_append, List.length_take, Nat.min_eq_left hp]
  by_cases h1 : i < ls_pos f (f w) l
  · rw [if_pos h1, if_pos h1, List.getElem?_take, if_pos h1]
  · rw [if_neg h1, if_neg h1]
    by_cases h2 : i = ls_pos f (f w) l
    · rw [if_pos h2, h2, Nat.sub_self]; rfl
    · rw [if_neg h2, List.getElem?_cons, if_neg (by omega), List.getElem?_drop]
      congr 1
      omega
theorem ls_top_zero (f g : Nat → Nat) : ∀ l, ls_top f g l 0 = 0
  | [] => rfl
  | x :: l => by rw [ls_top, Nat.min_zero, Nat.mul_zero, Nat.zero_sub, ls_top_zero f g l]
theorem ls_top_le (f g : Nat → Nat) : ∀ (l : List Nat) (room : Nat), ls_top f g l room ≤ 10 * ls_sum (fun x => f x * g x) l
  | [], _ => Nat.zero_le _
  | x :: l, room => by
    have ih := ls_top_le f g l (room - min (10 * g x) room)
    have h : f x * min (10 * g x) room ≤ f x * (10 * g x) := Nat.mul_le_mul (Nat.le_refl _) (Nat.min_le_left _ _)
    have e : f x * (10 * g x) = 10 * (f x * g x) := by rw [Nat.mul_left_comm]
    rw [ls_top, ls_sum]
    omega
theorem ls_head {f : Nat → Nat} {l : List Nat} (hp : l.Pairwise (ls_prec f)) {c : Nat} (hc : c ∈ l) (hb : ∀ x, x ∈ l → x ≠ c → ls_prec f c x) : ∃ r, l = c :: r := by
  cases l with
  | nil => cases hc
  | cons x r =>
    by_cases e : x = c
    · exact ⟨r, by rw [e]⟩
    · exfalso
      rw [List.pairwise_cons] at hp
      have h1 := hb x List.mem_cons_self e
      rcases List.mem_cons.mp hc with h | h
      · exact e h.symm
      · have h2 := hp.1 c h
        unfold ls_prec at h1 h2
        omega
theorem ls_irrefl {f : Nat → Nat} {a : Nat} (h : ls_prec f a a) : False := by unfold ls_prec at h; omega
theorem ls_sum_filter (h : Nat → Nat) (q : Nat → Bool) : ∀ l : List Nat, ls_sum h (l.filter q) = ls_sum (fun x => if q x then h x else 0) l
  | [] => rfl
  | x :: l => by
    rw [List.filter_cons, ls_sum]
    cases q x with
    | true => rw [if_pos rfl, ls_sum, ls_sum_filter h q l]; rfl
    | false => simp; exact ls_sum_filter h q l
