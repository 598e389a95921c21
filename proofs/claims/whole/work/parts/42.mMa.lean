abbrev rX7_in : Room := { frames := 0, cells := 0, slots := 0, locals := 0 }
set_option maxHeartbeats 4000000 in
set_option maxRecDepth 100000 in
theorem mX7_in (l : Launch) (D : va_G) (h : Nat → Nat) (cI cJ : ClassId) (hh : xdis 22 h) (S : SX) (L : LX) (v0 : Int64) (v2 : Int64) (v4 : Int64) (post : Int32 → Prop) (hw : kX7_in S L v0 v2 v4 post) : Met l yX7_in wsX7_in rX7_in (xPre D (wM h cI cJ) (mE D cI cJ) S L [.long v0, .long v2, .long v4]) (va_Qi (fun (r : Int32) (u : SX × LX) => post r ∧ u.1 = S ∧ u.2 = L) (xB D (wM h cI cJ)) (xA 22 h)) 0 0 (xA 22 h) := by
  refine Met.ofW (cc := cX7_in) (maxL := 6) (ret := (some .boolean)) (by decide) rfl ?_
  intro p e s m args below meth c s₁ B hml hv
  obtain ⟨hargs, hP, hE⟩ := hv
  have hx := B.exec
  have hb := B.bytes
  have hr := B.returns
  have hlocks := B.notSynchronized
  have hts := atoms_spec (ws := wsX7_in) B.pre
  have hown : s.vm.findClass RX7 = some m.cls := findClass_of_methodNamed B.named
  have hS : va_S (xA 22 h) s.heap s.heap [] := va_S.rf
  have hD : ∀ (S : SX) (L : LX), va_D (xA 22 h) (wM h cI cJ S L) := fun S L => wM_D hh cI cJ S L
  have hK := id hE
  have hst : xSt (xA 22 h) (mE D cI cJ) := mE_st D _ cI cJ
  skip
  have hl := lv_entry ([.long v0, .long v2, .long v4]) (n := 6) (Nat.le_of_ble_eq_true rfl)
  have hen : entryFrame m args 6 = F0 m 0 ((lg_sl ([.long v0, .long v2, .long v4]) ++ List.replicate (6 - (lg_sl ([.long v0, .long v2, .long v4])).length) Slot.unset).toArray) [] := by rw [hargs]; exact lg_entry_eq m _ _
  rw [hen]
  generalize (lg_sl ([.long v0, .long v2, .long v4]) ++ List.replicate (6 - (lg_sl ([.long v0, .long v2, .long v4])).length) Slot.unset).toArray = ls at hl ⊢
  have hl : lv_has ls 6 [(0, .long v0), (2, .long v2), (4, .long v4)] := hl
  change W p l e rX7_in s m args below meth c s.heap [] 0 0 (MQ below (va_Qi (fun (r : Int32) (u : SX × LX) => post r ∧ u.1 = S ∧ u.2 = L) (xB D (wM h cI cJ)) (xA 22 h)) args s 0 0 (xA 22 h)) (F0 m 0 ls [])
  have hret : ∀ (r : Int32) (H : Heap) (locs : List Loc) (ls : Array Slot) (pc : Nat), va_P D vwCl (wM h cI cJ S L) H → va_S (xA 22 h) s.heap H locs → post r → narrow .boolean (.int r) = .int r → decode cX7_in pc = .ok (.ireturn, 1) → W p l e rX7_in s m args below meth c H locs 0 0 (MQ below (va_Qi (fun (r : Int32) (u : SX × LX) => post r ∧ u.1 = S ∧ u.2 = L) (xB D (wM h cI cJ)) (xA 22 h)) args s 0 0 (xA 22 h)) (F0 m pc ls [.int r]) := fun r H locs ls pc hP hS hw hna hd => W.zret hx hb hr hna (fun t ht hW => ⟨⟨r, (S, L), rfl, ⟨hw, rfl, rfl⟩, show va_P D vwCl (wM h cI cJ S L) t.heap by rw [ht]; exact hP⟩, hS.F ht⟩) hS.2.2 hd
  generalize MQ below (va_Qi (fun (r : Int32) (u : SX × LX) => post r ∧ u.1 = S ∧ u.2 = L) (xB D (wM h cI cJ)) (xA 22 h)) args s 0 0 (xA 22 h) = Q at hret ⊢
  unfold kX7_in at hw
  refine lv_lload_n hx hb dX7_in_0 rfl (lv_at hl 0 rfl) ?_
  refine lv_lload_n hx hb dX7_in_1 rfl (lv_at hl 1 rfl) ?_
  refine W.lcmp hx hb dX7_in_2 ?_
  refine lv_if_lt (tgt := 17) hx hb dX7_in_3 (by decide) (fun hc => ?_) (fun hc => ?_)
  · replace hw := And.left hw ((lg_cmp_lt _ _).mp hc)
    refine lv_iconst (v := (0 : Int32)) hx hb dX7_in_17 (by decide) ?_
    exact hret _ _ _ _ _ hP hS hw rfl dX7_in_18
  · replace hw := And.right hw (fun q => hc ((lg_cmp_lt _ _).mpr q))
    refine lv_lload_n hx hb dX7_in_6 rfl (lv_at hl 0 rfl) ?_
    refine lv_lload hx hb dX7_in_7 (lv_at hl 2 rfl) ?_
    refine W.lcmp hx hb dX7_in_9 ?_
    refine lv_if_gt (tgt := 17) hx hb dX7_in_10 (by decide) (fun hc => ?_) (fun hc => ?_)
    · replace hw := And.left hw ((lg_cmp_gt _ _).mp hc)
      refine lv_iconst (v := (0 : Int32)) hx hb dX7_in_17 (by decide) ?_
      exact hret _ _ _ _ _ hP hS hw rfl dX7_in_18
    · replace hw := And.right hw (fun q => hc ((lg_cmp_gt _ _).mpr q))
      refine lv_iconst (v := (1 : Int32)) hx hb dX7_in_13 (by decide) ?_
      refine lv_goto (tgt := 18) hx hb dX7_in_14 (by decide) ?_
      exact hret _ _ _ _ _ hP hS hw rfl dX7_in_18
abbrev rX7_isYear : Room := { frames := 1, cells := 0, slots := 0, locals := 25 }
set_option maxHeartbeats 4000000 in
set_option maxRecDepth 100000 in
theorem mX7_isYear (l : Launch) (D : va_G) (h : Nat → Nat) (cI cJ : ClassId) (hh : xdis 22 h) (S : SX) (L : LX) (v0 : Int32) (post : Int32 → Prop) (hw : kX7_isYear S L v0 post) : Met l yX7_isYear wsX7_isYear rX7_isYear (xPre D (wM h cI cJ) (mE D cI cJ) S L [.int v0]) (va_Qi (fun (r : Int32) (u : SX × LX) => post r ∧ u.1 = S ∧ u.2 = L) (xB D (wM h cI cJ)) (xA 22 h)) 0 0 (xA 22 h) := by
  refine Met.ofW (cc := cX7_isYear) (maxL := 1) (ret := (some .boolean)) (by decide) rfl ?_
  intro p e s m args below meth c s₁ B hml hv
  obtain ⟨hargs, hP, hE⟩ := hv
  have hx := B.exec
  have hb := B.bytes
  have hr := B.returns
  have hlocks := B.notSynchronized
  have hts := atoms_spec (ws := wsX7_isYear) B.pre
  have hown : s.vm.findClass RX7 = some m.cls := findClass_of_methodNamed B.named
  have hS : va_S (xA 22 h) s.heap s.heap [] := va_S.rf
  have hD : ∀ (S : SX) (L : LX), va_D (xA 22 h) (wM h cI cJ S L) := fun S L => wM_D hh cI cJ S L
  have hK := id hE
  have hst : xSt (xA 22 h) (mE D cI cJ) := mE_st D _ cI cJ
  have f0 := hts (.constantLong RX7 81 (7)) (by decide +kernel)
  have hl := lv_entry ([.int v0]) (n := 1) (Nat.le_of_ble_eq_true rfl)
  have hen : entryFrame m args 1 = F0 m 0 ((lg_sl ([.int v0]) ++ List.replicate (1 - (lg_sl ([.int v0])).length) Slot.unset).toArray) [] := by rw [hargs]; exact lg_entry_eq m _ _
  rw [hen]
  generalize (lg_sl ([.int v0]) ++ List.replicate (1 - (lg_sl ([.int v0])).length) Slot.unset).toArray = ls at hl ⊢
  have hl : lv_has ls 1 [(0, .int v0)] := hl
  change W p l e rX7_isYear s m args below meth c s.heap [] 0 0 (MQ below (va_Qi (fun (r : Int32) (u : SX × LX) => post r ∧ u.1 = S ∧ u.2 = L) (xB D (wM h cI cJ)) (xA 22 h)) args s 0 0 (xA 22 h)) (F0 m 0 ls [])
  have hret : ∀ (r : Int32) (H : Heap) (locs : List Loc) (ls : Array Slot) (pc : Nat), va_P D vwCl (wM h cI cJ S L) H → va_S (xA 22 h) s.heap H locs → post r → narrow .boolean (.int r) = .int r → decode cX7_isYear pc = .ok (.ireturn, 1) → W p l e rX7_isYear s m args below meth c H locs 0 0 (MQ below (va_Qi (fun (r : Int32) (u : SX × LX) => post r ∧ u.1 = S ∧ u.2 = L) (xB D (wM h cI cJ)) (xA 22 h)) args s 0 0 (xA 22 h)) (F0 m pc ls [.int r]) := fun r H locs ls pc hP hS hw hna hd => W.zret hx hb hr hna (fun t ht hW => ⟨⟨r, (S, L), rfl, ⟨hw, rfl, rfl⟩, show va_P D vwCl (wM h cI cJ S L) t.heap by rw [ht]; exact hP⟩, hS.F ht⟩) hS.2.2 hd
  generalize MQ below (va_Qi (fun (r : Int32) (u : SX × LX) => post r ∧ u.1 = S ∧ u.2 = L) (xB D (wM h cI cJ)) (xA 22 h)) args s 0 0 (xA 22 h) = Q at hret ⊢
  unfold kX7_isYear at hw
  refine lv_iload_n hx hb dX7_isYear_0 rfl (lv_at hl 0 rfl) ?_
  refine lv_i2l hx hb dX7_isYear_1 rfl ?_
  refine lv_lconst (v := (0 : Int64)) hx hb dX7_isYear_2 (by decide) ?_
  refine lv_ldc2 (v := (7 : Int64)) hx hb hown (f0) dX7_isYear_3 ?_
  refine xSi0 (As := [.long v0.toInt64, .long (0 : Int64), .long (7 : Int64)]) (rest := []) hst hE hP hS ⟨hx, hb, hml, hown, hts⟩ (mX7_in l D h cI cJ hh S L v0.toInt64 (0 : Int64) (7 : Int64) _ hw) (va_cwS 3 hts gX7_isYear_X7_in rfl rfl rfl (by decide +kernel) ⟨Nat.le_of_ble_eq_true rfl, Nat.le_of_ble_eq_true rfl⟩) rfl hl.1 rfl (Nat.le_of_ble_eq_true rfl) dX7_isYear_6 ⟨Nat.zero_le _, Nat.zero_le _⟩ (fun r6 H locs hw hP hS => ?_)
  exact hret _ _ _ _ _ hP hS hw.2 (xb_n hw.1) dX7_isYear_9
abbrev rX7_isWill : Room := { frames := 1, cells := 0, slots := 0, locals := 25 }
set_option maxHeartbeats 4000000 in
set_option maxRecDepth 100000 in
theorem mX7_isWill (l : Launch) (D : va_G) (h : Nat → Nat) (cI cJ : ClassId) (hh : xdis 22 h) (S : SX) (L : LX) (v1 : Int32) (post : Int32 → Prop) (hw : kX7_isWill S L v1 post) : Met l yX7_isWill wsX7_isWill rX7_isWill (xPre D (wM h cI cJ) (mE D cI cJ) S L [.ref (h 0), .int v1]) (va_Qi (fun (r : Int32) (u : SX × LX) => post r ∧ u.1 = S ∧ u.2 = L) (xB D (wM h cI cJ)) (xA 22 h)) 0 0 (xA 22 h) := by
  refine Met.ofW (cc := cX7_isWill) (maxL := 2) (ret := (some .boolean)) (by decide) rfl ?_
  intro p e s m args below meth c s₁ B hml hv
  obtain ⟨hargs, hP, hE⟩ := hv
  have hx := B.exec
  have hb := B.bytes
  have hr := B.returns
  have hlocks := B.notSynchronized
  have hts := atoms_spec (ws := wsX7_isWill) B.pre
  have hown : s.vm.findClass RX7 = some m.cls := findClass_of_methodNamed B.named
  have hS : va_S (xA 22 h) s.heap s.heap [] := va_S.rf
  have hD : ∀ (S : SX) (L : LX), va_D (xA 22 h) (wM h cI cJ S L) := fun S L => wM_D hh cI cJ S L
  have hK := id hE
  have hst : xSt (xA 22 h) (mE D cI cJ) := mE_st D _ cI cJ
  have f0 := hts (.fieldLink RX7 87 "BookOfWillsModel" "wills" "I") (by decide +kernel)
  have inX7 : ∀ w ∈ u_ws RX7 TX7 28, w ∈ wsX7_isWill := fun w hw9 => List.mem_cons_of_mem _ (List.mem_append_right _ hw9)
  have hl := lv_entry ([.ref (h 0), .int v1]) (n := 2) (Nat.le_of_ble_eq_true rfl)
  have hen : entryFrame m args 2 = F0 m 0 ((lg_sl ([.ref (h 0), .int v1]) ++ List.replicate (2 - (lg_sl ([.ref (h 0), .int v1])).length) Slot.unset).toArray) [] := by rw [hargs]; exact lg_entry_eq m _ _
  rw [hen]
  generalize (lg_sl ([.ref (h 0), .int v1]) ++ List.replicate (2 - (lg_sl ([.ref (h 0), .int v1])).length) Slot.unset).toArray = ls at hl ⊢
  have hl : lv_has ls 2 [(0, .ref (h 0)), (1, .int v1)] := hl
  change W p l e rX7_isWill s m args below meth c s.heap [] 0 0 (MQ below (va_Qi (fun (r : Int32) (u : SX × LX) => post r ∧ u.1 = S ∧ u.2 = L) (xB D (wM h cI cJ)) (xA 22 h)) args s 0 0 (xA 22 h)) (F0 m 0 ls [])
  have hret : ∀ (r : Int32) (H : Heap) (locs : List Loc) (ls : Array Slot) (pc : Nat), va_P D vwCl (wM h cI cJ S L) H → va_S (xA 22 h) s.heap H locs → post r → narrow .boolean (.int r) = .int r → decode cX7_isWill pc = .ok (.ireturn, 1) → W p l e rX7_isWill s m args below meth c H locs 0 0 (MQ below (va_Qi (fun (r : Int32) (u : SX × LX) => post r ∧ u.1 = S ∧ u.2 = L) (xB D (wM h cI cJ)) (xA 22 h)) args s 0 0 (xA 22 h)) (F0 m pc ls [.int r]) := fun r H locs ls pc hP hS hw hna hd => W.zret hx hb hr hna (fun t ht hW => ⟨⟨r, (S, L), rfl, ⟨hw, rfl, rfl⟩, show va_P D vwCl (wM h cI cJ S L) t.heap by rw [ht]; exact hP⟩, hS.F ht⟩) hS.2.2 hd
  generalize MQ below (va_Qi (fun (r : Int32) (u : SX × LX) => post r ∧ u.1 = S ∧ u.2 = L) (xB D (wM h cI cJ)) (xA 22 h)) args s 0 0 (xA 22 h) = Q at hret ⊢
  unfold kX7_isWill at hw
  refine lv_iload_n hx hb dX7_isWill_0 rfl (lv_at hl 1 rfl) ?_
  refine lv_i2l hx hb dX7_isWill_1 rfl ?_
  refine lv_lconst (v := (0 : Int64)) hx hb dX7_isWill_2 (by decide) ?_
  refine lv_aload_n hx hb dX7_isWill_3 rfl (lv_at hl 0 rfl) ?_
  refine va_get (D := D) (ci := 7) (v := .int (S 0 2)) (C := RX7) (T := TX7) (N := 28) hx hb hts inX7 hown hK hP 0 wM_0 rfl 3 (by decide) f0 (fun _ h9 => h9) rfl dX7_isWill_4 ?_
  refine lv_iconst (v := (1 : Int32)) hx hb dX7_isWill_7 (by decide) ?_
  refine lv_isub hx hb dX7_isWill_8 ?_
  refine lv_i2l hx hb dX7_isWill_9 rfl ?_
  refine xSi0 (As := [.long v1.toInt64, .long (0 : Int64), .long (((S 0 2) - (1 : Int32)).toInt64)]) (rest := []) hst hE hP hS ⟨hx, hb, hml, hown, hts⟩ (mX7_in l D h cI cJ hh S L v1.toInt64 (0 : Int64) (((S 0 2) - (1 : Int32)).toInt64) _ hw) (va_cwS 3 hts gX7_isWill_X7_in rfl rfl rfl (by decide +kernel) ⟨Nat.le_of_ble_eq_true rfl, Nat.le_of_ble_eq_true rfl⟩) rfl hl.1 rfl (Nat.le_of_ble_eq_true rfl) dX7_isWill_10 ⟨Nat.zero_le _, Nat.zero_le _⟩ (fun r10 H locs hw hP hS => ?_)
  exact hret _ _ _ _ _ hP hS hw.2 (xb_n hw.1) dX7_isWill_13
abbrev rX7_lives : Room := { frames := 1, cells := 0, slots := 0, locals := 25 }
set_option maxHeartbeats 4000000 in
set_option maxRecDepth 100000 in
theorem mX7_lives (l : Launch) (D : va_G) (h : Nat → Nat) (cI cJ : ClassId) (hh : xdis 22 h) (S : SX) (L : LX) (v1 : Int32) (v2 : Int32) (post : Int32 → SX → Prop) (hw : kX7_lives S L v1 v2 post) : Met l yX7_lives wsX7_lives rX7_lives (xPre D (wM h cI cJ) (mE D cI cJ) S L [.ref (h 0), .int v1, .int v2]) (va_Qi (fun (r : Int32) (u : SX × LX) => post r u.1 ∧ u.2 = L) (xB D (wM h cI cJ)) (xA 22 h)) 0 0 (xA 22 h) := by
  refine Met.ofW (cc := cX7_lives) (maxL := 4) (ret := (some .int)) (by decide) rfl ?_
  intro p e s m args below meth c s₁ B hml hv
  obtain ⟨hargs, hP, hE⟩ := hv
  have hx := B.exec
  have hb := B.bytes
  have hr := B.returns
  have hlocks := B.notSynchronized
  have hts := atoms_spec (ws := wsX7_lives) B.pre
  have hown : s.vm.findClass RX7 = some m.cls := findClass_of_methodNamed B.named
  have hS : va_S (xA 22 h) s.heap s.heap [] := va_S.rf
  have hD : ∀ (S : SX) (L : LX), va_D (xA 22 h) (wM h cI cJ S L) := fun S L => wM_D hh cI cJ S L
  have hK := id hE
  have hst : xSt (xA 22 h) (mE D cI cJ) := mE_st D _ cI cJ
  have f0 := hts (.constantLong RX7 90 (5)) (by decide +kernel)
  have f1 := hts (.constantLong RX7 92 (400)) (by decide +kernel)
  have f2 := hts (.fieldLink RX7 7 "BookOfWillsModel" "lives" "[I") (by decide +kernel)
  have inX7 : ∀ w ∈ u_ws RX7 TX7 28, w ∈ wsX7_lives := fun w hw9 => List.mem_cons_of_mem _ (List.mem_append_right _ hw9)
  have hl := lv_entry ([.ref (h 0), .int v1, .int v2]) (n := 4) (Nat.le_of_ble_eq_true rfl)
  have hen : entryFrame m args 4 = F0 m 0 ((lg_sl ([.ref (h 0), .int v1, .int v2]) ++ List.replicate (4 - (lg_sl ([.ref (h 0), .int v1, .int v2])).length) Slot.unset).toArray) [] := by rw [hargs]; exact lg_entry_eq m _ _
  rw [hen]
  generalize (lg_sl ([.ref (h 0), .int v1, .int v2]) ++ List.replicate (4 - (lg_sl ([.ref (h 0), .int v1, .int v2])).length) Slot.unset).toArray = ls at hl ⊢
  have hl : lv_has ls 4 [(0, .ref (h 0)), (1, .int v1), (2, .int v2)] := hl
  change W p l e rX7_lives s m args below meth c s.heap [] 0 0 (MQ below (va_Qi (fun (r : Int32) (u : SX × LX) => post r u.1 ∧ u.2 = L) (xB D (wM h cI cJ)) (xA 22 h)) args s 0 0 (xA 22 h)) (F0 m 0 ls [])
  have hret : ∀ (r : Int32) (S1 : SX) (H : Heap) (locs : List Loc) (ls : Array Slot) (pc : Nat), va_P D vwCl (wM h cI cJ S1 L) H → va_S (xA 22 h) s.heap H locs → post r S1 → decode cX7_lives pc = .ok (.ireturn, 1) → W p l e rX7_lives s m args below meth c H locs 0 0 (MQ below (va_Qi (fun (r : Int32) (u : SX × LX) => post r u.1 ∧ u.2 = L) (xB D (wM h cI cJ)) (xA 22 h)) args s 0 0 (xA 22 h)) (F0 m pc ls [.int r]) := fun r S1 H locs ls pc hP hS hw hd => W.iret hx hb hr (fun t ht hW => ⟨⟨r, (S1, L), rfl, ⟨hw, rfl⟩, show va_P D vwCl (wM h cI cJ S1 L) t.heap by rw [ht]; exact hP⟩, hS.F ht⟩) hS.2.2 hd
  generalize MQ below (va_Qi (fun (r : Int32) (u : SX × LX) => post r u.1 ∧ u.2 = L) (xB D (wM h cI cJ)) (xA 22 h)) args s 0 0 (xA 22 h) = Q at hret ⊢
  unfold kX7_lives at hw
  refine lv_iload_n hx hb dX7_lives_0 rfl (lv_at hl 1 rfl) ?_
  refine lv_i2l hx hb dX7_lives_1 rfl ?_
  refine lv_lconst (v := (0 : Int64)) hx hb dX7_lives_2 (by decide) ?_
  refine lv_ldc2 (v := (5 : Int64)) hx hb hown (f0) dX7_lives_3 ?_
  refine xSi0 (As := [.long v1.toInt64, .long (0 : Int64), .long (5 : Int64)]) (rest := []) hst hE hP hS ⟨hx, hb, hml, hown, hts⟩ (mX7_in l D h cI cJ hh S L v1.toInt64 (0 : Int64) (5 : Int64) _ hw) (va_cwS 3 hts gX7_lives_X7_in rfl rfl rfl (by decide +kernel) ⟨Nat.le_of_ble_eq_true rfl, Nat.le_of_ble_eq_true rfl⟩) rfl hl.1 rfl (Nat.le_of_ble_eq_true rfl) dX7_lives_6 ⟨Nat.zero_le _, Nat.zero_le _⟩ (fun r6 H locs hw hP hS => ?_)
  refine lv_if_eq (tgt := 24) hx hb dX7_lives_9 (by decide) (fun hc => ?_) (fun hc => ?_)
  · replace hw := And.left hw hc
    refine lv_iconst (v := (-1 : Int32)) hx hb dX7_lives_24 (by decide) ?_
    exact hret _ _ _ _ _ _ hP hS hw dX7_lives_25
  · replace hw := And.right hw hc
    refine lv_iload_n hx hb dX7_lives_12 rfl (lv_at hl 2 rfl) ?_
    refine lv_i2l hx hb dX7_lives_13 rfl ?_
    refine lv_lconst (v := (1 : Int64)) hx hb dX7_lives_14 (by decide) ?_
    refine lv_ldc2 (v := (400 : Int64)) hx hb hown (f1) dX7_lives_15 ?_
    refine xSi0 (As := [.long v2.toInt64, .long (1 : Int64), .long (400 : Int64)]) (rest := []) hst hE hP hS ⟨hx, hb, hml, hown, hts⟩ (mX7_in l D h cI cJ hh S L v2.toInt64 (1 : Int64) (400 : Int64) _ hw) (va_cwS 3 hts gX7_lives_X7_in rfl rfl rfl (by decide +kernel) ⟨Nat.le_of_ble_eq_true rfl, Nat.le_of_ble_eq_true rfl⟩) rfl hl.1 rfl (Nat.le_of_ble_eq_true rfl) dX7_lives_18 ⟨Nat.zero_le _, Nat.zero_le _⟩ (fun r18 H locs hw hP hS => ?_)
    refine lv_if_ne (tgt := 26) hx hb dX7_lives_21 (by decide) (fun hc => ?_) (fun hc => ?_)
    · replace hw := And.right hw hc
      refine lv_aload_n hx hb dX7_lives_26 rfl (lv_at hl 0 rfl) ?_
      refine va_get (D := D) (ci := 7) (v := .ref (h 1)) (C := RX7) (T := TX7) (N := 28) hx hb hts inX7 hown hK hP 0 wM_0 rfl 0 (by decide) f2 (fun _ h9 => h9) rfl dX7_lives_27 ?_
      refine lv_iload_n hx hb dX7_lives_30 rfl (lv_at hl 1 rfl) ?_
      obtain ⟨hi, hw⟩ := hw
      refine va_iald hx hb hK hP 1 0 wM_1 rfl hi dX7_lives_31 ?_
      refine lv_istore_n (lv' := [(3, .int (S 1 v1.toNatClampNeg)), (0, .ref (h 0)), (1, .int v1), (2, .int v2)]) hx hb dX7_lives_32 rfl hl (by decide) rfl (fun ls hl => ?_)
      refine lv_aload_n hx hb dX7_lives_33 rfl (lv_at hl 1 rfl) ?_
      refine va_get (D := D) (ci := 7) (v := .ref (h 1)) (C := RX7) (T := TX7) (N := 28) hx hb hts inX7 hown hK hP 0 wM_0 rfl 0 (by decide) f2 (fun _ h9 => h9) rfl dX7_lives_34 ?_
      refine lv_iload_n hx hb dX7_lives_37 rfl (lv_at hl 2 rfl) ?_
      refine lv_iload_n hx hb dX7_lives_38 rfl (lv_at hl 3 rfl) ?_
      obtain ⟨hi, hw⟩ := hw
      refine x_iast (ws2 := wM h cI cJ (xu S 1 v1.toNatClampNeg v2) L) hx hb hK hP (hD _ _) hS 1 0 wM_1 rfl hi dX7_lives_39 (wM_u1 _ _) (fun H locs hP hS => ?_)
      refine lv_iload_n hx hb dX7_lives_40 rfl (lv_at hl 0 rfl) ?_
      exact hret _ _ _ _ _ _ hP hS hw dX7_lives_41
    · replace hw := And.left hw hc
      refine lv_iconst (v := (-1 : Int32)) hx hb dX7_lives_24 (by decide) ?_
      exact hret _ _ _ _ _ _ hP hS hw dX7_lives_25
abbrev rX7_set : Room := { frames := 1, cells := 0, slots := 0, locals := 25 }
set_option maxHeartbeats 4000000 in
set_option maxRecDepth 100000 in
theorem mX7_set (l : Launch) (D : va_G) (h : Nat → Nat) (cI cJ : ClassId) (hh : xdis 22 h) (S : SX) (L : LX) (v1 : Int32) (v2 : Int32) (post : Int32 → SX → Prop) (hw : kX7_set S L v1 v2 post) : Met l yX7_set wsX7_set rX7_set (xPre D (wM h cI cJ) (mE D cI cJ) S L [.ref (h 0), .int v1, .int v2]) (va_Qi (fun (r : Int32) (u : SX × LX) => post r u.1 ∧ u.2 = L) (xB D (wM h cI cJ)) (xA 22 h)) 0 0 (xA 22 h) := by
  refine Met.ofW (cc := cX7_set) (maxL := 4) (ret := (some .int)) (by decide) rfl ?_
  intro p e s m args below meth c s₁ B hml hv
  obtain ⟨hargs, hP, hE⟩ := hv
  have hx := B.exec
  have hb := B.bytes
  have hr := B.returns
  have hlocks := B.notSynchronized
  have hts := atoms_spec (ws := wsX7_set) B.pre
  have hown : s.vm.findClass RX7 = some m.cls := findClass_of_methodNamed B.named
  have hS : va_S (xA 22 h) s.heap s.heap [] := va_S.rf
  have hD : ∀ (S : SX) (L : LX), va_D (xA 22 h) (wM h cI cJ S L) := fun S L => wM_D hh cI cJ S L
  have hK := id hE
  have hst : xSt (xA 22 h) (mE D cI cJ) := mE_st D _ cI cJ
  have f0 := hts (.fieldLink RX7 98 "BookOfWillsModel" "more" "I") (by decide +kernel)
  have inX7 : ∀ w ∈ u_ws RX7 TX7 28, w ∈ wsX7_set := fun w hw9 => List.mem_cons_of_mem _ (List.mem_append_right _ hw9)
  have f2 := hts (.fieldLink RX7 14 "BookOfWillsModel" "riches" "I") (by decide +kernel)
  have f3 := hts (.constantLong RX7 96 (100)) (by decide +kernel)
  have f4 := hts (.constantLong RX7 94 (99999)) (by decide +kernel)
  have hl := lv_entry ([.ref (h 0), .int v1, .int v2]) (n := 4) (Nat.le_of_ble_eq_true rfl)
  have hen : entryFrame m args 4 = F0 m 0 ((lg_sl ([.ref (h 0), .int v1, .int v2]) ++ List.replicate (4 - (lg_sl ([.ref (h 0), .int v1, .int v2])).length) Slot.unset).toArray) [] := by rw [hargs]; exact lg_entry_eq m _ _
  rw [hen]
  generalize (lg_sl ([.ref (h 0), .int v1, .int v2]) ++ List.replicate (4 - (lg_sl ([.ref (h 0), .int v1, .int v2])).length) Slot.unset).toArray = ls at hl ⊢
  have hl : lv_has ls 4 [(0, .ref (h 0)), (1, .int v1), (2, .int v2)] := hl
  change W p l e rX7_set s m args below meth c s.heap [] 0 0 (MQ below (va_Qi (fun (r : Int32) (u : SX × LX) => post r u.1 ∧ u.2 = L) (xB D (wM h cI cJ)) (xA 22 h)) args s 0 0 (xA 22 h)) (F0 m 0 ls [])
  have hret : ∀ (r : Int32) (S1 : SX) (H : Heap) (locs : List Loc) (ls : Array Slot) (pc : Nat), va_P D vwCl (wM h cI cJ S1 L) H → va_S (xA 22 h) s.heap H locs → post r S1 → decode cX7_set pc = .ok (.ireturn, 1) → W p l e rX7_set s m args below meth c H locs 0 0 (MQ below (va_Qi (fun (r : Int32) (u : SX × LX) => post r u.1 ∧ u.2 = L) (xB D (wM h cI cJ)) (xA 22 h)) args s 0 0 (xA 22 h)) (F0 m pc ls [.int r]) := fun r S1 H locs ls pc hP hS hw hd => W.iret hx hb hr (fun t ht hW => ⟨⟨r, (S1, L), rfl, ⟨hw, rfl⟩, show va_P D vwCl (wM h cI cJ S1 L) t.heap by rw [ht]; exact hP⟩, hS.F ht⟩) hS.2.2 hd
  generalize MQ below (va_Qi (fun (r : Int32) (u : SX × LX) => post r u.1 ∧ u.2 = L) (xB D (wM h cI cJ)) (xA 22 h)) args s 0 0 (xA 22 h) = Q at hret ⊢
  have b26 : ∀ (z0 : Int64) (z1 : Int64) (z2 : Int64) (S : SX) (H : Heap) (locs : List Loc) (ls : Array Slot), lv_has ls 4 [(0, .ref (h 0)), (1, .int v1), (2, .int v2)] → va_P D vwCl (wM h cI cJ S L) H → va_S (xA 22 h) s.heap H locs → kX7_set_b26 L v1 v2 post z0 z1 z2 S → W p l e rX7_set s m args below meth c H locs 0 0 Q (F0 m 26 ls [.long z2, .long z1, .long z0]) := by
    have b49 : ∀ (z0 : Int32) (S : SX) (H : Heap) (locs : List Loc) (ls : Array Slot), lv_has ls 4 [(0, .ref (h 0)), (1, .int v1), (2, .int v2)] → va_P D vwCl (wM h cI cJ S L) H → va_S (xA 22 h) s.heap H locs → kX7_set_b49 L v1 v2 post z0 S → W p l e rX7_set s m args below meth c H locs 0 0 Q (F0 m 49 ls [.int z0]) := by
      intro z0 S H locs ls hl hP hS hw
      unfold kX7_set_b49 at hw
      refine lv_istore_n (lv' := [(3, .int z0), (0, .ref (h 0)), (1, .int v1), (2, .int v2)]) hx hb dX7_set_49 rfl hl (by decide) rfl (fun ls hl => ?_)
      refine lv_iload_n hx hb dX7_set_50 rfl (lv_at hl 2 rfl) ?_
      refine lv_if_ne (tgt := 62) hx hb dX7_set_51 (by decide) (fun hc => ?_) (fun hc => ?_)
      · replace hw := And.right hw hc
        refine lv_aload_n hx hb dX7_set_62 rfl (lv_at hl 1 rfl) ?_
        refine lv_iload_n hx hb dX7_set_63 rfl (lv_at hl 3 rfl) ?_
        refine x_put (D := D) (ci := 7) (v := .int v2) (ty := .int) (C := RX7) (T := TX7) (N := 28) (ws2 := wM h cI cJ (xu S 0 1 v2) L) hx hb hts inX7 tyX7 tyX7_ok nmX7 hown hK hP (hD _ _) hS 0 wM_0 rfl 2 (by decide) f0 (fun _ h9 => h9) rfl (by decide +kernel) rfl rfl (Nat.le_of_ble_eq_true rfl) dX7_set_64 (wM_p0_1 _) (fun H locs hP hS => ?_)
        refine lv_iload_n hx hb dX7_set_67 rfl (lv_at hl 0 rfl) ?_
        exact hret _ _ _ _ _ _ hP hS hw dX7_set_68
      · replace hw := And.left hw hc
        refine lv_aload_n hx hb dX7_set_54 rfl (lv_at hl 1 rfl) ?_
        refine lv_iload_n hx hb dX7_set_55 rfl (lv_at hl 3 rfl) ?_
        refine x_put (D := D) (ci := 7) (v := .int v2) (ty := .int) (C := RX7) (T := TX7) (N := 28) (ws2 := wM h cI cJ (xu S 0 0 v2) L) hx hb hts inX7 tyX7 tyX7_ok nmX7 hown hK hP (hD _ _) hS 0 wM_0 rfl 1 (by decide) f2 (fun _ h9 => h9) rfl (by decide +kernel) rfl rfl (Nat.le_of_ble_eq_true rfl) dX7_set_56 (wM_p0_0 _) (fun H locs hP hS => ?_)
        refine lv_goto (tgt := 67) hx hb dX7_set_59 (by decide) ?_
        refine lv_iload_n hx hb dX7_set_67 rfl (lv_at hl 0 rfl) ?_
        exact hret _ _ _ _ _ _ hP hS hw dX7_set_68
    intro z0 z1 z2 S H locs ls hl hP hS hw
    unfold kX7_set_b26 at hw
    refine xSi0 (As := [.long z0, .long z1, .long z2]) (rest := []) hst hE hP hS ⟨hx, hb, hml, hown, hts⟩ (mX7_in l D h cI cJ hh S L z0 z1 z2 _ hw) (va_cwS 3 hts gX7_set_X7_in rfl rfl rfl (by decide +kernel) ⟨Nat.le_of_ble_eq_true rfl, Nat.le_of_ble_eq_true rfl⟩) rfl hl.1 rfl (Nat.le_of_ble_eq_true rfl) dX7_set_26 ⟨Nat.zero_le _, Nat.zero_le _⟩ (fun r26 H locs hw hP hS => ?_)
    refine lv_if_ne (tgt := 34) hx hb dX7_set_29 (by decide) (fun hc => ?_) (fun hc => ?_)
    · replace hw := And.right hw hc
      refine lv_iload_n hx hb dX7_set_34 rfl (lv_at hl 1 rfl) ?_
      refine lv_if_ne (tgt := 45) hx hb dX7_set_35 (by decide) (fun hc => ?_) (fun hc => ?_)
      · replace hw := And.right hw hc
        refine lv_aload_n hx hb dX7_set_45 rfl (lv_at hl 0 rfl) ?_
        refine va_get (D := D) (ci := 7) (v := .int (S 0 1)) (C := RX7) (T := TX7) (N := 28) hx hb hts inX7 hown hK hP 0 wM_0 rfl 2 (by decide) f0 (fun _ h9 => h9) rfl dX7_set_46 ?_
        exact b49 (S 0 1) S _ _ _ (lv_sub hl [0, 1, 2] rfl) hP hS hw
      · replace hw := And.left hw hc
        refine lv_aload_n hx hb dX7_set_38 rfl (lv_at hl 0 rfl) ?_
        refine va_get (D := D) (ci := 7) (v := .int (S 0 0)) (C := RX7) (T := TX7) (N := 28) hx hb hts inX7 hown hK hP 0 wM_0 rfl 1 (by decide) f2 (fun _ h9 => h9) rfl dX7_set_39 ?_
        refine lv_goto (tgt := 49) hx hb dX7_set_42 (by decide) ?_
        exact b49 (S 0 0) S _ _ _ (lv_sub hl [0, 1, 2] rfl) hP hS hw
    · replace hw := And.left hw hc
      refine lv_iconst (v := (-1 : Int32)) hx hb dX7_set_32 (by decide) ?_
      exact hret _ _ _ _ _ _ hP hS hw dX7_set_33
  unfold kX7_set at hw
  refine lv_iload_n hx hb dX7_set_0 rfl (lv_at hl 1 rfl) ?_
  refine lv_i2l hx hb dX7_set_1 rfl ?_
  refine lv_lconst (v := (0 : Int64)) hx hb dX7_set_2 (by decide) ?_
  refine lv_lconst (v := (1 : Int64)) hx hb dX7_set_3 (by decide) ?_
  refine xSi0 (As := [.long v1.toInt64, .long (0 : Int64), .long (1 : Int64)]) (rest := []) hst hE hP hS ⟨hx, hb, hml, hown, hts⟩ (mX7_in l D h cI cJ hh S L v1.toInt64 (0 : Int64) (1 : Int64) _ hw) (va_cwS 3 hts gX7_set_X7_in rfl rfl rfl (by decide +kernel) ⟨Nat.le_of_ble_eq_true rfl, Nat.le_of_ble_eq_true rfl⟩) rfl hl.1 rfl (Nat.le_of_ble_eq_true rfl) dX7_set_4 ⟨Nat.zero_le _, Nat.zero_le _⟩ (fun r4 H locs hw hP hS => ?_)
  refine lv_if_eq (tgt := 32) hx hb dX7_set_7 (by decide) (fun hc => ?_) (fun hc => ?_)
  · replace hw := And.left hw hc
    refine lv_iconst (v := (-1 : Int32)) hx hb dX7_set_32 (by decide) ?_
    exact hret _ _ _ _ _ _ hP hS hw dX7_set_33
  · replace hw := And.right hw hc
    refine lv_iload_n hx hb dX7_set_10 rfl (lv_at hl 2 rfl) ?_
    refine lv_i2l hx hb dX7_set_11 rfl ?_
    refine lv_lconst (v := (0 : Int64)) hx hb dX7_set_12 (by decide) ?_
    refine lv_iload_n hx hb dX7_set_13 rfl (lv_at hl 1 rfl) ?_
    refine lv_if_ne (tgt := 23) hx hb dX7_set_14 (by decide) (fun hc => ?_) (fun hc => ?_)
    · replace hw := And.right hw hc
      refine lv_ldc2 (v := (100 : Int64)) hx hb hown (f3) dX7_set_23 ?_
      exact b26 v2.toInt64 (0 : Int64) (100 : Int64) S _ _ _ (lv_sub hl [0, 1, 2] rfl) hP hS hw
    · replace hw := And.left hw hc
      refine lv_ldc2 (v := (99999 : Int64)) hx hb hown (f4) dX7_set_17 ?_
      refine lv_goto (tgt := 26) hx hb dX7_set_20 (by decide) ?_
      exact b26 v2.toInt64 (0 : Int64) (99999 : Int64) S _ _ _ (lv_sub hl [0, 1, 2] rfl) hP hS hw
abbrev rX7_comes : Room := { frames := 0, cells := 0, slots := 0, locals := 0 }
set_option maxHeartbeats 4000000 in
set_option maxRecDepth 100000 in
theorem mX7_comes (l : Launch) (D : va_G) (h : Nat → Nat) (cI cJ : ClassId) (hh : xdis 22 h) (S : SX) (L : LX) (v1 : Int32) (v2 : Int32) (v3 : Int32) (v4 : Int32) (v5 : Int32) (v6 : Int32) (v7 : Int32) (post : SX → Prop) (hw : kX7_comes S L v1 v2 v3 v4 v5 v6 v7 post) : Met l yX7_comes wsX7_comes rX7_comes (xPre D (wM h cI cJ) (mE D cI cJ) S L [.ref (h 0), .int v1, .int v2, .int v3, .int v4, .int v5, .int v6, .int v7]) (va_Qv (fun (u : SX × LX) => post u.1 ∧ u.2 = L) (xB D (wM h cI cJ)) (xA 22 h)) 0 0 (xA 22 h) := by
  refine Met.ofW (cc := cX7_comes) (maxL := 8) (ret := none) (by decide) rfl ?_
  intro p e s m args below meth c s₁ B hml hv
  obtain ⟨hargs, hP, hE⟩ := hv
  have hx := B.exec
  have hb := B.bytes
  have hr := B.returns
  have hlocks := B.notSynchronized
  have hts := atoms_spec (ws := wsX7_comes) B.pre
  have hown : s.vm.findClass RX7 = some m.cls := findClass_of_methodNamed B.named
  have hS : va_S (xA 22 h) s.heap s.heap [] := va_S.rf
  have hD : ∀ (S : SX) (L : LX), va_D (xA 22 h) (wM h cI cJ S L) := fun S L => wM_D hh cI cJ S L
  have hK := id hE
  have hst : xSt (xA 22 h) (mE D cI cJ) := mE_st D _ cI cJ
  have f0 := hts (.fieldLink RX7 18 "BookOfWillsModel" "yearOf" "[I") (by decide +kernel)
  have inX7 : ∀ w ∈ u_ws RX7 TX7 28, w ∈ wsX7_comes := fun w hw9 => List.mem_cons_of_mem _ (List.mem_append_right _ hw9)
  have f2 := hts (.fieldLink RX7 87 "BookOfWillsModel" "wills" "I") (by decide +kernel)
  have f3 := hts (.fieldLink RX7 21 "BookOfWillsModel" "ageOf" "[I") (by decide +kernel)
  have f4 := hts (.fieldLink RX7 24 "BookOfWillsModel" "sexOf" "[I") (by decide +kernel)
  have f5 := hts (.fieldLink RX7 27 "BookOfWillsModel" "own" "[I") (by decide +kernel)
  have hl := lv_entry ([.ref (h 0), .int v1, .int v2, .int v3, .int v4, .int v5, .int v6, .int v7]) (n := 8) (Nat.le_of_ble_eq_true rfl)
  have hen : entryFrame m args 8 = F0 m 0 ((lg_sl ([.ref (h 0), .int v1, .int v2, .int v3, .int v4, .int v5, .int v6, .int v7]) ++ List.replicate (8 - (lg_sl ([.ref (h 0), .int v1, .int v2, .int v3, .int v4, .int v5, .int v6, .int v7])).length) Slot.unset).toArray) [] := by rw [hargs]; exact lg_entry_eq m _ _
  rw [hen]
  generalize (lg_sl ([.ref (h 0), .int v1, .int v2, .int v3, .int v4, .int v5, .int v6, .int v7]) ++ List.replicate (8 - (lg_sl ([.ref (h 0), .int v1, .int v2, .int v3, .int v4, .int v5, .int v6, .int v7])).length) Slot.unset).toArray = ls at hl ⊢
  have hl : lv_has ls 8 [(0, .ref (h 0)), (1, .int v1), (2, .int v2), (3, .int v3), (4, .int v4), (5, .int v5), (6, .int v6), (7, .int v7)] := hl
  change W p l e rX7_comes s m args below meth c s.heap [] 0 0 (MQ below (va_Qv (fun (u : SX × LX) => post u.1 ∧ u.2 = L) (xB D (wM h cI cJ)) (xA 22 h)) args s 0 0 (xA 22 h)) (F0 m 0 ls [])
  have hret : ∀ (S1 : SX) (H : Heap) (locs : List Loc) (ls : Array Slot) (pc : Nat), va_P D vwCl (wM h cI cJ S1 L) H → va_S (xA 22 h) s.heap H locs → post S1 → decode cX7_comes pc = .ok (.return_, 1) → W p l e rX7_comes s m args below meth c H locs 0 0 (MQ below (va_Qv (fun (u : SX × LX) => post u.1 ∧ u.2 = L) (xB D (wM h cI cJ)) (xA 22 h)) args s 0 0 (xA 22 h)) (F0 m pc ls []) := fun S1 H locs ls pc hP hS hw hd => W.vret hx hb hr (fun t ht hW => ⟨⟨(S1, L), rfl, ⟨hw, rfl⟩, show va_P D vwCl (wM h cI cJ S1 L) t.heap by rw [ht]; exact hP⟩, hS.F ht⟩) hS.2.2 hd
  generalize MQ below (va_Qv (fun (u : SX × LX) => post u.1 ∧ u.2 = L) (xB D (wM h cI cJ)) (xA 22 h)) args s 0 0 (xA 22 h) = Q at hret ⊢
  unfold kX7_comes at hw
  refine lv_aload_n hx hb dX7_comes_0 rfl (lv_at hl 0 rfl) ?_
  refine va_get (D := D) (ci := 7) (v := .ref (h 2)) (C := RX7) (T := TX7) (N := 28) hx hb hts inX7 hown hK hP 0 wM_0 rfl 4 (by decide) f0 (fun _ h9 => h9) rfl dX7_comes_1 ?_
  refine lv_aload_n hx hb dX7_comes_4 rfl (lv_at hl 0 rfl) ?_
  refine va_get (D := D) (ci := 7) (v := .int (S 0 2)) (C := RX7) (T := TX7) (N := 28) hx hb hts inX7 hown hK hP 0 wM_0 rfl 3 (by decide) f2 (fun _ h9 => h9) rfl dX7_comes_5 ?_
  refine lv_iload_n hx hb dX7_comes_8 rfl (lv_at hl 1 rfl) ?_
  obtain ⟨hi, hw⟩ := hw
  refine x_iast (ws2 := wM h cI cJ (xu S 2 (S 0 2).toNatClampNeg v1) L) hx hb hK hP (hD _ _) hS 2 0 wM_2 rfl hi dX7_comes_9 (wM_u2 _ _) (fun H locs hP hS => ?_)
  refine lv_aload_n hx hb dX7_comes_10 rfl (lv_at hl 0 rfl) ?_
  refine va_get (D := D) (ci := 7) (v := .ref (h 3)) (C := RX7) (T := TX7) (N := 28) hx hb hts inX7 hown hK hP 0 wM_0 rfl 5 (by decide) f3 (fun _ h9 => h9) rfl dX7_comes_11 ?_
  refine lv_aload_n hx hb dX7_comes_14 rfl (lv_at hl 0 rfl) ?_
  refine va_get (D := D) (ci := 7) (v := .int ((xu S 2 (S 0 2).toNatClampNeg v1) 0 2)) (C := RX7) (T := TX7) (N := 28) hx hb hts inX7 hown hK hP 0 wM_0 rfl 3 (by decide) f2 (fun _ h9 => h9) rfl dX7_comes_15 ?_
  refine lv_iload_n hx hb dX7_comes_18 rfl (lv_at hl 2 rfl) ?_
  obtain ⟨hi, hw⟩ := hw
  refine x_iast (ws2 := wM h cI cJ (xu (xu S 2 (S 0 2).toNatClampNeg v1) 3 ((xu S 2 (S 0 2).toNatClampNeg v1) 0 2).toNatClampNeg v2) L) hx hb hK hP (hD _ _) hS 3 0 wM_3 rfl hi dX7_comes_19 (wM_u3 _ _) (fun H locs hP hS => ?_)
  refine lv_aload_n hx hb dX7_comes_20 rfl (lv_at hl 0 rfl) ?_
  refine va_get (D := D) (ci := 7) (v := .ref (h 4)) (C := RX7) (T := TX7) (N := 28) hx hb hts inX7 hown hK hP 0 wM_0 rfl 6 (by decide) f4 (fun _ h9 => h9) rfl dX7_comes_21 ?_
  refine lv_aload_n hx hb dX7_comes_24 rfl (lv_at hl 0 rfl) ?_
  refine va_get (D := D) (ci := 7) (v := .int ((xu (xu S 2 (S 0 2).toNatClampNeg v1) 3 ((xu S 2 (S 0 2).toNatClampNeg v1) 0 2).toNatClampNeg v2) 0 2)) (C := RX7) (T := TX7) (N := 28) hx hb hts inX7 hown hK hP 0 wM_0 rfl 3 (by decide) f2 (fun _ h9 => h9) rfl dX7_comes_25 ?_
  refine lv_iload_n hx hb dX7_comes_28 rfl (lv_at hl 3 rfl) ?_
  obtain ⟨hi, hw⟩ := hw
  refine x_iast (ws2 := wM h cI cJ (xu (xu (xu S 2 (S 0 2).toNatClampNeg v1) 3 ((xu S 2 (S 0 2).toNatClampNeg v1) 0 2).toNatClampNeg v2) 4 ((xu (xu S 2 (S 0 2).toNatClampNeg v1) 3 ((xu S 2 (S 0 2).toNatClampNeg v1) 0 2).toNatClampNeg v2) 0 2).toNatClampNeg v3) L) hx hb hK hP (hD _ _) hS 4 0 wM_4 rfl hi dX7_comes_29 (wM_u4 _ _) (fun H locs hP hS => ?_)
  refine lv_aload_n hx hb dX7_comes_30 rfl (lv_at hl 0 rfl) ?_
  refine va_get (D := D) (ci := 7) (v := .ref (h 5)) (C := RX7) (T := TX7) (N := 28) hx hb hts inX7 hown hK hP 0 wM_0 rfl 7 (by decide) f5 (fun _ h9 => h9) rfl dX7_comes_31 ?_
  refine lv_iconst (v := (4 : Int32)) hx hb dX7_comes_34 (by decide) ?_
  refine lv_aload_n hx hb dX7_comes_35 rfl (lv_at hl 0 rfl) ?_
  refine va_get (D := D) (ci := 7) (v := .int ((xu (xu (xu S 2 (S 0 2).toNatClampNeg v1) 3 ((xu S 2 (S 0 2).toNatClampNeg v1) 0 2).toNatClampNeg v2) 4 ((xu (xu S 2 (S 0 2).toNatClampNeg v1) 3 ((xu S 2 (S 0 2).toNatClampNeg v1) 0 2).toNatClampNeg v2) 0 2).toNatClampNeg v3) 0 2)) (C := RX7) (T := TX7) (N := 28) hx hb hts inX7 hown hK hP 0 wM_0 rfl 3 (by decide) f2 (fun _ h9 => h9) rfl dX7_comes_36 ?_
  refine lv_imul hx hb dX7_comes_39 ?_
  refine lv_iload hx hb dX7_comes_40 (lv_at hl 4 rfl) ?_
  obtain ⟨hi, hw⟩ := hw
  refine x_iast (ws2 := wM h cI cJ (xu (xu (xu (xu S 2 (S 0 2).toNatClampNeg v1) 3 ((xu S 2 (S 0 2).toNatClampNeg v1) 0 2).toNatClampNeg v2) 4 ((xu (xu S 2 (S 0 2).toNatClampNeg v1) 3 ((xu S 2 (S 0 2).toNatClampNeg v1) 0 2).toNatClampNeg v2) 0 2).toNatClampNeg v3) 5 ((4 : Int32) * ((xu (xu (xu S 2 (S 0 2).toNatClampNeg v1) 3 ((xu S 2 (S 0 2).toNatClampNeg v1) 0 2).toNatClampNeg v2) 4 ((xu (xu S 2 (S 0 2).toNatClampNeg v1) 3 ((xu S 2 (S 0 2).toNatClampNeg v1) 0 2).toNatClampNeg v2) 0 2).toNatClampNeg v3) 0 2)).toNatClampNeg v4) L) hx hb hK hP (hD _ _) hS 5 0 wM_5 rfl hi dX7_comes_42 (wM_u5 _ _) (fun H locs hP hS => ?_)
  refine lv_aload_n hx hb dX7_comes_43 rfl (lv_at hl 0 rfl) ?_
  refine va_get (D := D) (ci := 7) (v := .ref (h 5)) (C := RX7) (T := TX7) (N := 28) hx hb hts inX7 hown hK hP 0 wM_0 rfl 7 (by decide) f5 (fun _ h9 => h9) rfl dX7_comes_44 ?_
  refine lv_iconst (v := (4 : Int32)) hx hb dX7_comes_47 (by decide) ?_
  refine lv_aload_n hx hb dX7_comes_48 rfl (lv_at hl 0 rfl) ?_
  refine va_get (D := D) (ci := 7) (v := .int ((xu (xu (xu (xu S 2 (S 0 2).toNatClampNeg v1) 3 ((xu S 2 (S 0 2).toNatClampNeg v1) 0 2).toNatClampNeg v2) 4 ((xu (xu S 2 (S 0 2).toNatClampNeg v1) 3 ((xu S 2 (S 0 2).toNatClampNeg v1) 0 2).toNatClampNeg v2) 0 2).toNatClampNeg v3) 5 ((4 : Int32) * ((xu (xu (xu S 2 (S 0 2).toNatClampNeg v1) 3 ((xu S 2 (S 0 2).toNatClampNeg v1) 0 2).toNatClampNeg v2) 4 ((xu (xu S 2 (S 0 2).toNatClampNeg v1) 3 ((xu S 2 (S 0 2).toNatClampNeg v1) 0 2).toNatClampNeg v2) 0 2).toNatClampNeg v3) 0 2)).toNatClampNeg v4) 0 2)) (C := RX7) (T := TX7) (N := 28) hx hb hts inX7 hown hK hP 0 wM_0 rfl 3 (by decide) f2 (fun _ h9 => h9) rfl dX7_comes_49 ?_
  refine lv_imul hx hb dX7_comes_52 ?_
  refine lv_iconst (v := (1 : Int32)) hx hb dX7_comes_53 (by decide) ?_
  refine lv_iadd hx hb dX7_comes_54 ?_
  refine lv_iload hx hb dX7_comes_55 (lv_at hl 5 rfl) ?_
  obtain ⟨hi, hw⟩ := hw
  refine x_iast (ws2 := wM h cI cJ (xu (xu (xu (xu (xu S 2 (S 0 2).toNatClampNeg v1) 3 ((xu S 2 (S 0 2).toNatClampNeg v1) 0 2).toNatClampNeg v2) 4 ((xu (xu S 2 (S 0 2).toNatClampNeg v1) 3 ((xu S 2 (S 0 2).toNatClampNeg v1) 0 2).toNatClampNeg v2) 0 2).toNatClampNeg v3) 5 ((4 : Int32) * ((xu (xu (xu S 2 (S 0 2).toNatClampNeg v1) 3 ((xu S 2 (S 0 2).toNatClampNeg v1) 0 2).toNatClampNeg v2) 4 ((xu (xu S 2 (S 0 2).toNatClampNeg v1) 3 ((xu S 2 (S 0 2).toNatClampNeg v1) 0 2).toNatClampNeg v2) 0 2).toNatClampNeg v3) 0 2)).toNatClampNeg v4) 5 (((4 : Int32) * ((xu (xu (xu (xu S 2 (S 0 2).toNatClampNeg v1) 3 ((xu S 2 (S 0 2).toNatClampNeg v1) 0 2).toNatClampNeg v2) 4 ((xu (xu S 2 (S 0 2).toNatClampNeg v1) 3 ((xu S 2 (S 0 2).toNatClampNeg v1) 0 2).toNatClampNeg v2) 0 2).toNatClampNeg v3) 5 ((4 : Int32) * ((xu (xu (xu S 2 (S 0 2).toNatClampNeg v1) 3 ((xu S 2 (S 0 2).toNatClampNeg v1) 0 2).toNatClampNeg v2) 4 ((xu (xu S 2 (S 0 2).toNatClampNeg v1) 3 ((xu S 2 (S 0 2).toNatClampNeg v1) 0 2).toNatClampNeg v2) 0 2).toNatClampNeg v3) 0 2)).toNatClampNeg v4) 0 2)) + (1 : Int32)).toNatClampNeg v5) L) hx hb hK hP (hD _ _) hS 5 0 wM_5 rfl hi dX7_comes_57 (wM_u5 _ _) (fun H locs hP hS => ?_)
  refine lv_aload_n hx hb dX7_comes_58 rfl (lv_at hl 0 rfl) ?_
  refine va_get (D := D) (ci := 7) (v := .ref (h 5)) (C := RX7) (T := TX7) (N := 28) hx hb hts inX7 hown hK hP 0 wM_0 rfl 7 (by decide) f5 (fun _ h9 => h9) rfl dX7_comes_59 ?_
  refine lv_iconst (v := (4 : Int32)) hx hb dX7_comes_62 (by decide) ?_
  refine lv_aload_n hx hb dX7_comes_63 rfl (lv_at hl 0 rfl) ?_
  refine va_get (D := D) (ci := 7) (v := .int ((xu (xu (xu (xu (xu S 2 (S 0 2).toNatClampNeg v1) 3 ((xu S 2 (S 0 2).toNatClampNeg v1) 0 2).toNatClampNeg v2) 4 ((xu (xu S 2 (S 0 2).toNatClampNeg v1) 3 ((xu S 2 (S 0 2).toNatClampNeg v1) 0 2).toNatClampNeg v2) 0 2).toNatClampNeg v3) 5 ((4 : Int32) * ((xu (xu (xu S 2 (S 0 2).toNatClampNeg v1) 3 ((xu S 2 (S 0 2).toNatClampNeg v1) 0 2).toNatClampNeg v2) 4 ((xu (xu S 2 (S 0 2).toNatClampNeg v1) 3 ((xu S 2 (S 0 2).toNatClampNeg v1) 0 2).toNatClampNeg v2) 0 2).toNatClampNeg v3) 0 2)).toNatClampNeg v4) 5 (((4 : Int32) * ((xu (xu (xu (xu S 2 (S 0 2).toNatClampNeg v1) 3 ((xu S 2 (S 0 2).toNatClampNeg v1) 0 2).toNatClampNeg v2) 4 ((xu (xu S 2 (S 0 2).toNatClampNeg v1) 3 ((xu S 2 (S 0 2).toNatClampNeg v1) 0 2).toNatClampNeg v2) 0 2).toNatClampNeg v3) 5 ((4 : Int32) * ((xu (xu (xu S 2 (S 0 2).toNatClampNeg v1) 3 ((xu S 2 (S 0 2).toNatClampNeg v1) 0 2).toNatClampNeg v2) 4 ((xu (xu S 2 (S 0 2).toNatClampNeg v1) 3 ((xu S 2 (S 0 2).toNatClampNeg v1) 0 2).toNatClampNeg v2) 0 2).toNatClampNeg v3) 0 2)).toNatClampNeg v4) 0 2)) + (1 : Int32)).toNatClampNeg v5) 0 2)) (C := RX7) (T := TX7) (N := 28) hx hb hts inX7 hown hK hP 0 wM_0 rfl 3 (by decide) f2 (fun _ h9 => h9) rfl dX7_comes_64 ?_
  refine lv_imul hx hb dX7_comes_67 ?_
  refine lv_iconst (v := (2 : Int32)) hx hb dX7_comes_68 (by decide) ?_
  refine lv_iadd hx hb dX7_comes_69 ?_
  refine lv_iload hx hb dX7_comes_70 (lv_at hl 6 rfl) ?_
  obtain ⟨hi, hw⟩ := hw
  refine x_iast (ws2 := wM h cI cJ (xu (xu (xu (xu (xu (xu S 2 (S 0 2).toNatClampNeg v1) 3 ((xu S 2 (S 0 2).toNatClampNeg v1) 0 2).toNatClampNeg v2) 4 ((xu (xu S 2 (S 0 2).toNatClampNeg v1) 3 ((xu S 2 (S 0 2).toNatClampNeg v1) 0 2).toNatClampNeg v2) 0 2).toNatClampNeg v3) 5 ((4 : Int32) * ((xu (xu (xu S 2 (S 0 2).toNatClampNeg v1) 3 ((xu S 2 (S 0 2).toNatClampNeg v1) 0 2).toNatClampNeg v2) 4 ((xu (xu S 2 (S 0 2).toNatClampNeg v1) 3 ((xu S 2 (S 0 2).toNatClampNeg v1) 0 2).toNatClampNeg v2) 0 2).toNatClampNeg v3) 0 2)).toNatClampNeg v4) 5 (((4 : Int32) * ((xu (xu (xu (xu S 2 (S 0 2).toNatClampNeg v1) 3 ((xu S 2 (S 0 2).toNatClampNeg v1) 0 2).toNatClampNeg v2) 4 ((xu (xu S 2 (S 0 2).toNatClampNeg v1) 3 ((xu S 2 (S 0 2).toNatClampNeg v1) 0 2).toNatClampNeg v2) 0 2).toNatClampNeg v3) 5 ((4 : Int32) * ((xu (xu (xu S 2 (S 0 2).toNatClampNeg v1) 3 ((xu S 2 (S 0 2).toNatClampNeg v1) 0 2).toNatClampNeg v2) 4 ((xu (xu S 2 (S 0 2).toNatClampNeg v1) 3 ((xu S 2 (S 0 2).toNatClampNeg v1) 0 2).toNatClampNeg v2) 0 2).toNatClampNeg v3) 0 2)).toNatClampNeg v4) 0 2)) + (1 : Int32)).toNatClampNeg v5) 5 (((4 : Int32) * ((xu (xu (xu (xu (xu S 2 (S 0 2).toNatClampNeg v1) 3 ((xu S 2 (S 0 2).toNatClampNeg v1) 0 2).toNatClampNeg v2) 4 ((xu (xu S 2 (S 0 2).toNatClampNeg v1) 3 ((xu S 2 (S 0 2).toNatClampNeg v1) 0 2).toNatClampNeg v2) 0 2).toNatClampNeg v3) 5 ((4 : Int32) * ((xu (xu (xu S 2 (S 0 2).toNatClampNeg v1) 3 ((xu S 2 (S 0 2).toNatClampNeg v1) 0 2).toNatClampNeg v2) 4 ((xu (xu S 2 (S 0 2).toNatClampNeg v1) 3 ((xu S 2 (S 0 2).toNatClampNeg v1) 0 2).toNatClampNeg v2) 0 2).toNatClampNeg v3) 0 2)).toNatClampNeg v4) 5 (((4 : Int32) * ((xu (xu (xu (xu S 2 (S 0 2).toNatClampNeg v1) 3 ((xu S 2 (S 0 2).toNatClampNeg v1) 0 2).toNatClampNeg v2) 4 ((xu (xu S 2 (S 0 2).toNatClampNeg v1) 3 ((xu S 2 (S 0 2).toNatClampNeg v1) 0 2).toNatClampNeg v2) 0 2).toNatClampNeg v3) 5 ((4 : Int32) * ((xu (xu (xu S 2 (S 0 2).toNatClampNeg v1) 3 ((xu S 2 (S 0 2).toNatClampNeg v1) 0 2).toNatClampNeg v2) 4 ((xu (xu S 2 (S 0 2).toNatClampNeg v1) 3 ((xu S 2 (S 0 2).toNatClampNeg v1) 0 2).toNatClampNeg v2) 0 2).toNatClampNeg v3) 0 2)).toNatClampNeg v4) 0 2)) + (1 : Int32)).toNatClampNeg v5) 0 2)) + (2 : Int32)).toNatClampNeg v6) L) hx hb hK hP (hD _ _) hS 5 0 wM_5 rfl hi dX7_comes_72 (wM_u5 _ _) (fun H locs hP hS => ?_)
  refine lv_aload_n hx hb dX7_comes_73 rfl (lv_at hl 0 rfl) ?_
  refine va_get (D := D) (ci := 7) (v := .ref (h 5)) (C := RX7) (T := TX7) (N := 28) hx hb hts inX7 hown hK hP 0 wM_0 rfl 7 (by decide) f5 (fun _ h9 => h9) rfl dX7_comes_74 ?_
  refine lv_iconst (v := (4 : Int32)) hx hb dX7_comes_77 (by decide) ?_
  refine lv_aload_n hx hb dX7_comes_78 rfl (lv_at hl 0 rfl) ?_
  refine va_get (D := D) (ci := 7) (v := .int ((xu (xu (xu (xu (xu (xu S 2 (S 0 2).toNatClampNeg v1) 3 ((xu S 2 (S 0 2).toNatClampNeg v1) 0 2).toNatClampNeg v2) 4 ((xu (xu S 2 (S 0 2).toNatClampNeg v1) 3 ((xu S 2 (S 0 2).toNatClampNeg v1) 0 2).toNatClampNeg v2) 0 2).toNatClampNeg v3) 5 ((4 : Int32) * ((xu (xu (xu S 2 (S 0 2).toNatClampNeg v1) 3 ((xu S 2 (S 0 2).toNatClampNeg v1) 0 2).toNatClampNeg v2) 4 ((xu (xu S 2 (S 0 2).toNatClampNeg v1) 3 ((xu S 2 (S 0 2).toNatClampNeg v1) 0 2).toNatClampNeg v2) 0 2).toNatClampNeg v3) 0 2)).toNatClampNeg v4) 5 (((4 : Int32) * ((xu (xu (xu (xu S 2 (S 0 2).toNatClampNeg v1) 3 ((xu S 2 (S 0 2).toNatClampNeg v1) 0 2).toNatClampNeg v2) 4 ((xu (xu S 2 (S 0 2).toNatClampNeg v1) 3 ((xu S 2 (S 0 2).toNatClampNeg v1) 0 2).toNatClampNeg v2) 0 2).toNatClampNeg v3) 5 ((4 : Int32) * ((xu (xu (xu S 2 (S 0 2).toNatClampNeg v1) 3 ((xu S 2 (S 0 2).toNatClampNeg v1) 0 2).toNatClampNeg v2) 4 ((xu (xu S 2 (S 0 2).toNatClampNeg v1) 3 ((xu S 2 (S 0 2).toNatClampNeg v1) 0 2).toNatClampNeg v2) 0 2).toNatClampNeg v3) 0 2)).toNatClampNeg v4) 0 2)) + (1 : Int32)).toNatClampNeg v5) 5 (((4 : Int32) * ((xu (xu (xu (xu (xu S 2 (S 0 2).toNatClampNeg v1) 3 ((xu S 2 (S 0 2).toNatClampNeg v1) 0 2).toNatClampNeg v2) 4 ((xu (xu S 2 (S 0 2).toNatClampNeg v1) 3 ((xu S 2 (S 0 2).toNatClampNeg v1) 0 2).toNatClampNeg v2) 0 2).toNatClampNeg v3) 5 ((4 : Int32) * ((xu (xu (xu S 2 (S 0 2).toNatClampNeg v1) 3 ((xu S 2 (S 0 2).toNatClampNeg v1) 0 2).toNatClampNeg v2) 4 ((xu (xu S 2 (S 0 2).toNatClampNeg v1) 3 ((xu S 2 (S 0 2).toNatClampNeg v1) 0 2).toNatClampNeg v2) 0 2).toNatClampNeg v3) 0 2)).toNatClampNeg v4) 5 (((4 : Int32) * ((xu (xu (xu (xu S 2 (S 0 2).toNatClampNeg v1) 3 ((xu S 2 (S 0 2).toNatClampNeg v1) 0 2).toNatClampNeg v2) 4 ((xu (xu S 2 (S 0 2).toNatClampNeg v1) 3 ((xu S 2 (S 0 2).toNatClampNeg v1) 0 2).toNatClampNeg v2) 0 2).toNatClampNeg v3) 5 ((4 : Int32) * ((xu (xu (xu S 2 (S 0 2).toNatClampNeg v1) 3 ((xu S 2 (S 0 2).toNatClampNeg v1) 0 2).toNatClampNeg v2) 4 ((xu (xu S 2 (S 0 2).toNatClampNeg v1) 3 ((xu S 2 (S 0 2).toNatClampNeg v1) 0 2).toNatClampNeg v2) 0 2).toNatClampNeg v3) 0 2)).toNatClampNeg v4) 0 2)) + (1 : Int32)).toNatClampNeg v5) 0 2)) + (2 : Int32)).toNatClampNeg v6) 0 2)) (C := RX7) (T := TX7) (N := 28) hx hb hts inX7 hown hK hP 0 wM_0 rfl 3 (by decide) f2 (fun _ h9 => h9) rfl dX7_comes_79 ?_
  refine lv_imul hx hb dX7_comes_82 ?_
  refine lv_iconst (v := (3 : Int32)) hx hb dX7_comes_83 (by decide) ?_
  refine lv_iadd hx hb dX7_comes_84 ?_
  refine lv_iload hx hb dX7_comes_85 (lv_at hl 7 rfl) ?_
  obtain ⟨hi, hw⟩ := hw
  refine x_iast (ws2 := wM h cI cJ (xu (xu (xu (xu (xu (xu (xu S 2 (S 0 2).toNatClampNeg v1) 3 ((xu S 2 (S 0 2).toNatClampNeg v1) 0 2).toNatClampNeg v2) 4 ((xu (xu S 2 (S 0 2).toNatClampNeg v1) 3 ((xu S 2 (S 0 2).toNatClampNeg v1) 0 2).toNatClampNeg v2) 0 2).toNatClampNeg v3) 5 ((4 : Int32) * ((xu (xu (xu S 2 (S 0 2).toNatClampNeg v1) 3 ((xu S 2 (S 0 2).toNatClampNeg v1) 0 2).toNatClampNeg v2) 4 ((xu (xu S 2 (S 0 2).toNatClampNeg v1) 3 ((xu S 2 (S 0 2).toNatClampNeg v1) 0 2).toNatClampNeg v2) 0 2).toNatClampNeg v3) 0 2)).toNatClampNeg v4) 5 (((4 : Int32) * ((xu (xu (xu (xu S 2 (S 0 2).toNatClampNeg v1) 3 ((xu S 2 (S 0 2).toNatClampNeg v1) 0 2).toNatClampNeg v2) 4 ((xu (xu S 2 (S 0 2).toNatClampNeg v1) 3 ((xu S 2 (S 0 2).toNatClampNeg v1) 0 2).toNatClampNeg v2) 0 2).toNatClampNeg v3) 5 ((4 : Int32) * ((xu (xu (xu S 2 (S 0 2).toNatClampNeg v1) 3 ((xu S 2 (S 0 2).toNatClampNeg v1) 0 2).toNatClampNeg v2) 4 ((xu (xu S 2 (S 0 2).toNatClampNeg v1) 3 ((xu S 2 (S 0 2).toNatClampNeg v1) 0 2).toNatClampNeg v2) 0 2).toNatClampNeg v3) 0 2)).toNatClampNeg v4) 0 2)) + (1 : Int32)).toNatClampNeg v5) 5 (((4 : Int32) * ((xu (xu (xu (xu (xu S 2 (S 0 2).toNatClampNeg v1) 3 ((xu S 2 (S 0 2).toNatClampNeg v1) 0 2).toNatClampNeg v2) 4 ((xu (xu S 2 (S 0 2).toNatClampNeg v1) 3 ((xu S 2 (S 0 2).toNatClampNeg v1) 0 2).toNatClampNeg v2) 0 2).toNatClampNeg v3) 5 ((4 : Int32) * ((xu (xu (xu S 2 (S 0 2).toNatClampNeg v1) 3 ((xu S 2 (S 0 2).toNatClampNeg v1) 0 2).toNatClampNeg v2) 4 ((xu (xu S 2 (S 0 2).toNatClampNeg v1) 3 ((xu S 2 (S 0 2).toNatClampNeg v1) 0 2).toNatClampNeg v2) 0 2).toNatClampNeg v3) 0 2)).toNatClampNeg v4) 5 (((4 : Int32) * ((xu (xu (xu (xu S 2 (S 0 2).toNatClampNeg v1) 3 ((xu S 2 (S 0 2).toNatClampNeg v1) 0 2).toNatClampNeg v2) 4 ((xu (xu S 2 (S 0 2).toNatClampNeg v1) 3 ((xu S 2 (S 0 2).toNatClampNeg v1) 0 2).toNatClampNeg v2) 0 2).toNatClampNeg v3) 5 ((4 : Int32) * ((xu (xu (xu S 2 (S 0 2).toNatClampNeg v1) 3 ((xu S 2 (S 0 2).toNatClampNeg v1) 0 2).toNatClampNeg v2) 4 ((xu (xu S 2 (S 0 2).toNatClampNeg v1) 3 ((xu S 2 (S 0 2).toNatClampNeg v1) 0 2).toNatClampNeg v2) 0 2).toNatClampNeg v3) 0 2)).toNatClampNeg v4) 0 2)) + (1 : Int32)).toNatClampNeg v5) 0 2)) + (2 : Int32)).toNatClampNeg v6) 5 (((4 : Int32) * ((xu (xu (xu (xu (xu (xu S 2 (S 0 2).toNatClampNeg v1) 3 ((xu S 2 (S 0 2).toNatClampNeg v1) 0 2).toNatClampNeg v2) 4 ((xu (xu S 2 (S 0 2).toNatClampNeg v1) 3 ((xu S 2 (S 0 2).toNatClampNeg v1) 0 2).toNatClampNeg v2) 0 2).toNatClampNeg v3) 5 ((4 : Int32) * ((xu (xu (xu S 2 (S 0 2).toNatClampNeg v1) 3 ((xu S 2 (S 0 2).toNatClampNeg v1) 0 2).toNatClampNeg v2) 4 ((xu (xu S 2 (S 0 2).toNatClampNeg v1) 3 ((xu S 2 (S 0 2).toNatClampNeg v1) 0 2).toNatClampNeg v2) 0 2).toNatClampNeg v3) 0 2)).toNatClampNeg v4) 5 (((4 : Int32) * ((xu (xu (xu (xu S 2 (S 0 2).toNatClampNeg v1) 3 ((xu S 2 (S 0 2).toNatClampNeg v1) 0 2).toNatClampNeg v2) 4 ((xu (xu S 2 (S 0 2).toNatClampNeg v1) 3 ((xu S 2 (S 0 2).toNatClampNeg v1) 0 2).toNatClampNeg v2) 0 2).toNatClampNeg v3) 5 ((4 : Int32) * ((xu (xu (xu S 2 (S 0 2).toNatClampNeg v1) 3 ((xu S 2 (S 0 2).toNatClampNeg v1) 0 2).toNatClampNeg v2) 4 ((xu (xu S 2 (S 0 2).toNatClampNeg v1) 3 ((xu S 2 (S 0 2).toNatClampNeg v1) 0 2).toNatClampNeg v2) 0 2).toNatClampNeg v3) 0 2)).toNatClampNeg v4) 0 2)) + (1 : Int32)).toNatClampNeg v5) 5 (((4 : Int32) * ((xu (xu (xu (xu (xu S 2 (S 0 2).toNatClampNeg v1) 3 ((xu S 2 (S 0 2).toNatClampNeg v1) 0 2).toNatClampNeg v2) 4 ((xu (xu S 2 (S 0 2).toNatClampNeg v1) 3 ((xu S 2 (S 0 2).toNatClampNeg v1) 0 2).toNatClampNeg v2) 0 2).toNatClampNeg v3) 5 ((4 : Int32) * ((xu (xu (xu S 2 (S 0 2).toNatClampNeg v1) 3 ((xu S 2 (S 0 2).toNatClampNeg v1) 0 2).toNatClampNeg v2) 4 ((xu (xu S 2 (S 0 2).toNatClampNeg v1) 3 ((xu S 2 (S 0 2).toNatClampNeg v1) 0 2).toNatClampNeg v2) 0 2).toNatClampNeg v3) 0 2)).toNatClampNeg v4) 5 (((4 : Int32) * ((xu (xu (xu (xu S 2 (S 0 2).toNatClampNeg v1) 3 ((xu S 2 (S 0 2).toNatClampNeg v1) 0 2).toNatClampNeg v2) 4 ((xu (xu S 2 (S 0 2).toNatClampNeg v1) 3 ((xu S 2 (S 0 2).toNatClampNeg v1) 0 2).toNatClampNeg v2) 0 2).toNatClampNeg v3) 5 ((4 : Int32) * ((xu (xu (xu S 2 (S 0 2).toNatClampNeg v1) 3 ((xu S 2 (S 0 2).toNatClampNeg v1) 0 2).toNatClampNeg v2) 4 ((xu (xu S 2 (S 0 2).toNatClampNeg v1) 3 ((xu S 2 (S 0 2).toNatClampNeg v1) 0 2).toNatClampNeg v2) 0 2).toNatClampNeg v3) 0 2)).toNatClampNeg v4) 0 2)) + (1 : Int32)).toNatClampNeg v5) 0 2)) + (2 : Int32)).toNatClampNeg v6) 0 2)) + (3 : Int32)).toNatClampNeg v7) L) hx hb hK hP (hD _ _) hS 5 0 wM_5 rfl hi dX7_comes_87 (wM_u5 _ _) (fun H locs hP hS => ?_)
  refine lv_aload_n hx hb dX7_comes_88 rfl (lv_at hl 0 rfl) ?_
  refine lv_dup hx hb dX7_comes_89 rfl ?_
  refine va_get (D := D) (ci := 7) (v := .int ((xu (xu (xu (xu (xu (xu (xu S 2 (S 0 2).toNatClampNeg v1) 3 ((xu S 2 (S 0 2).toNatClampNeg v1) 0 2).toNatClampNeg v2) 4 ((xu (xu S 2 (S 0 2).toNatClampNeg v1) 3 ((xu S 2 (S 0 2).toNatClampNeg v1) 0 2).toNatClampNeg v2) 0 2).toNatClampNeg v3) 5 ((4 : Int32) * ((xu (xu (xu S 2 (S 0 2).toNatClampNeg v1) 3 ((xu S 2 (S 0 2).toNatClampNeg v1) 0 2).toNatClampNeg v2) 4 ((xu (xu S 2 (S 0 2).toNatClampNeg v1) 3 ((xu S 2 (S 0 2).toNatClampNeg v1) 0 2).toNatClampNeg v2) 0 2).toNatClampNeg v3) 0 2)).toNatClampNeg v4) 5 (((4 : Int32) * ((xu (xu (xu (xu S 2 (S 0 2).toNatClampNeg v1) 3 ((xu S 2 (S 0 2).toNatClampNeg v1) 0 2).toNatClampNeg v2) 4 ((xu (xu S 2 (S 0 2).toNatClampNeg v1) 3 ((xu S 2 (S 0 2).toNatClampNeg v1) 0 2).toNatClampNeg v2) 0 2).toNatClampNeg v3) 5 ((4 : Int32) * ((xu (xu (xu S 2 (S 0 2).toNatClampNeg v1) 3 ((xu S 2 (S 0 2).toNatClampNeg v1) 0 2).toNatClampNeg v2) 4 ((xu (xu S 2 (S 0 2).toNatClampNeg v1) 3 ((xu S 2 (S 0 2).toNatClampNeg v1) 0 2).toNatClampNeg v2) 0 2).toNatClampNeg v3) 0 2)).toNatClampNeg v4) 0 2)) + (1 : Int32)).toNatClampNeg v5) 5 (((4 : Int32) * ((xu (xu (xu (xu (xu S 2 (S 0 2).toNatClampNeg v1) 3 ((xu S 2 (S 0 2).toNatClampNeg v1) 0 2).toNatClampNeg v2) 4 ((xu (xu S 2 (S 0 2).toNatClampNeg v1) 3 ((xu S 2 (S 0 2).toNatClampNeg v1) 0 2).toNatClampNeg v2) 0 2).toNatClampNeg v3) 5 ((4 : Int32) * ((xu (xu (xu S 2 (S 0 2).toNatClampNeg v1) 3 ((xu S 2 (S 0 2).toNatClampNeg v1) 0 2).toNatClampNeg v2) 4 ((xu (xu S 2 (S 0 2).toNatClampNeg v1) 3 ((xu S 2 (S 0 2).toNatClampNeg v1) 0 2).toNatClampNeg v2) 0 2).toNatClampNeg v3) 0 2)).toNatClampNeg v4) 5 (((4 : Int32) * ((xu (xu (xu (xu S 2 (S 0 2).toNatClampNeg v1) 3 ((xu S 2 (S 0 2).toNatClampNeg v1) 0 2).toNatClampNeg v2) 4 ((xu (xu S 2 (S 0 2).toNatClampNeg v1) 3 ((xu S 2 (S 0 2).toNatClampNeg v1) 0 2).toNatClampNeg v2) 0 2).toNatClampNeg v3) 5 ((4 : Int32) * ((xu (xu (xu S 2 (S 0 2).toNatClampNeg v1) 3 ((xu S 2 (S 0 2).toNatClampNeg v1) 0 2).toNatClampNeg v2) 4 ((xu (xu S 2 (S 0 2).toNatClampNeg v1) 3 ((xu S 2 (S 0 2).toNatClampNeg v1) 0 2).toNatClampNeg v2) 0 2).toNatClampNeg v3) 0 2)).toNatClampNeg v4) 0 2)) + (1 : Int32)).toNatClampNeg v5) 0 2)) + (2 : Int32)).toNatClampNeg v6) 5 (((4 : Int32) * ((xu (xu (xu (xu (xu (xu S 2 (S 0 2).toNatClampNeg v1) 3 ((xu S 2 (S 0 2).toNatClampNeg v1) 0 2).toNatClampNeg v2) 4 ((xu (xu S 2 (S 0 2).toNatClampNeg v1) 3 ((xu S 2 (S 0 2).toNatClampNeg v1) 0 2).toNatClampNeg v2) 0 2).toNatClampNeg v3) 5 ((4 : Int32) * ((xu (xu (xu S 2 (S 0 2).toNatClampNeg v1) 3 ((xu S 2 (S 0 2).toNatClampNeg v1) 0 2).toNatClampNeg v2) 4 ((xu (xu S 2 (S 0 2).toNatClampNeg v1) 3 ((xu S 2 (S 0 2).toNatClampNeg v1) 0 2).toNatClampNeg v2) 0 2).toNatClampNeg v3) 0 2)).toNatClampNeg v4) 5 (((4 : Int32) * ((xu (xu (xu (xu S 2 (S 0 2).toNatClampNeg v1) 3 ((xu S 2 (S 0 2).toNatClampNeg v1) 0 2).toNatClampNeg v2) 4 ((xu (xu S 2 (S 0 2).toNatClampNeg v1) 3 ((xu S 2 (S 0 2).toNatClampNeg v1) 0 2).toNatClampNeg v2) 0 2).toNatClampNeg v3) 5 ((4 : Int32) * ((xu (xu (xu S 2 (S 0 2).toNatClampNeg v1) 3 ((xu S 2 (S 0 2).toNatClampNeg v1) 0 2).toNatClampNeg v2) 4 ((xu (xu S 2 (S 0 2).toNatClampNeg v1) 3 ((xu S 2 (S 0 2).toNatClampNeg v1) 0 2).toNatClampNeg v2) 0 2).toNatClampNeg v3) 0 2)).toNatClampNeg v4) 0 2)) + (1 : Int32)).toNatClampNeg v5) 5 (((4 : Int32) * ((xu (xu (xu (xu (xu S 2 (S 0 2).toNatClampNeg v1) 3 ((xu S 2 (S 0 2).toNatClampNeg v1) 0 2).toNatClampNeg v2) 4 ((xu (xu S 2 (S 0 2).toNatClampNeg v1) 3 ((xu S 2 (S 0 2).toNatClampNeg v1) 0 2).toNatClampNeg v2) 0 2).toNatClampNeg v3) 5 ((4 : Int32) * ((xu (xu (xu S 2 (S 0 2).toNatClampNeg v1) 3 ((xu S 2 (S 0 2).toNatClampNeg v1) 0 2).toNatClampNeg v2) 4 ((xu (xu S 2 (S 0 2).toNatClampNeg v1) 3 ((xu S 2 (S 0 2).toNatClampNeg v1) 0 2).toNatClampNeg v2) 0 2).toNatClampNeg v3) 0 2)).toNatClampNeg v4) 5 (((4 : Int32) * ((xu (xu (xu (xu S 2 (S 0 2).toNatClampNeg v1) 3 ((xu S 2 (S 0 2).toNatClampNeg v1) 0 2).toNatClampNeg v2) 4 ((xu (xu S 2 (S 0 2).toNatClampNeg v1) 3 ((xu S 2 (S 0 2).toNatClampNeg v1) 0 2).toNatClampNeg v2) 0 2).toNatClampNeg v3) 5 ((4 : Int32) * ((xu (xu (xu S 2 (S 0 2).toNatClampNeg v1) 3 ((xu S 2 (S 0 2).toNatClampNeg v1) 0 2).toNatClampNeg v2) 4 ((xu (xu S 2 (S 0 2).toNatClampNeg v1) 3 ((xu S 2 (S 0 2).toNatClampNeg v1) 0 2).toNatClampNeg v2) 0 2).toNatClampNeg v3) 0 2)).toNatClampNeg v4) 0 2)) + (1 : Int32)).toNatClampNeg v5) 0 2)) + (2 : Int32)).toNatClampNeg v6) 0 2)) + (3 : Int32)).toNatClampNeg v7) 0 2)) (C := RX7) (T := TX7) (N := 28) hx hb hts inX7 hown hK hP 0 wM_0 rfl 3 (by decide) f2 (fun _ h9 => h9) rfl dX7_comes_90 ?_
  refine lv_iconst (v := (1 : Int32)) hx hb dX7_comes_93 (by decide) ?_
  refine lv_iadd hx hb dX7_comes_94 ?_
  refine x_put (D := D) (ci := 7) (v := .int (((xu (xu (xu (xu (xu (xu (xu S 2 (S 0 2).toNatClampNeg v1) 3 ((xu S 2 (S 0 2).toNatClampNeg v1) 0 2).toNatClampNeg v2) 4 ((xu (xu S 2 (S 0 2).toNatClampNeg v1) 3 ((xu S 2 (S 0 2).toNatClampNeg v1) 0 2).toNatClampNeg v2) 0 2).toNatClampNeg v3) 5 ((4 : Int32) * ((xu (xu (xu S 2 (S 0 2).toNatClampNeg v1) 3 ((xu S 2 (S 0 2).toNatClampNeg v1) 0 2).toNatClampNeg v2) 4 ((xu (xu S 2 (S 0 2).toNatClampNeg v1) 3 ((xu S 2 (S 0 2).toNatClampNeg v1) 0 2).toNatClampNeg v2) 0 2).toNatClampNeg v3) 0 2)).toNatClampNeg v4) 5 (((4 : Int32) * ((xu (xu (xu (xu S 2 (S 0 2).toNatClampNeg v1) 3 ((xu S 2 (S 0 2).toNatClampNeg v1) 0 2).toNatClampNeg v2) 4 ((xu (xu S 2 (S 0 2).toNatClampNeg v1) 3 ((xu S 2 (S 0 2).toNatClampNeg v1) 0 2).toNatClampNeg v2) 0 2).toNatClampNeg v3) 5 ((4 : Int32) * ((xu (xu (xu S 2 (S 0 2).toNatClampNeg v1) 3 ((xu S 2 (S 0 2).toNatClampNeg v1) 0 2).toNatClampNeg v2) 4 ((xu (xu S 2 (S 0 2).toNatClampNeg v1) 3 ((xu S 2 (S 0 2).toNatClampNeg v1) 0 2).toNatClampNeg v2) 0 2).toNatClampNeg v3) 0 2)).toNatClampNeg v4) 0 2)) + (1 : Int32)).toNatClampNeg v5) 5 (((4 : Int32) * ((xu (xu (xu (xu (xu S 2 (S 0 2).toNatClampNeg v1) 3 ((xu S 2 (S 0 2).toNatClampNeg v1) 0 2).toNatClampNeg v2) 4 ((xu (xu S 2 (S 0 2).toNatClampNeg v1) 3 ((xu S 2 (S 0 2).toNatClampNeg v1) 0 2).toNatClampNeg v2) 0 2).toNatClampNeg v3) 5 ((4 : Int32) * ((xu (xu (xu S 2 (S 0 2).toNatClampNeg v1) 3 ((xu S 2 (S 0 2).toNatClampNeg v1) 0 2).toNatClampNeg v2) 4 ((xu (xu S 2 (S 0 2).toNatClampNeg v1) 3 ((xu S 2 (S 0 2).toNatClampNeg v1) 0 2).toNatClampNeg v2) 0 2).toNatClampNeg v3) 0 2)).toNatClampNeg v4) 5 (((4 : Int32) * ((xu (xu (xu (xu S 2 (S 0 2).toNatClampNeg v1) 3 ((xu S 2 (S 0 2).toNatClampNeg v1) 0 2).toNatClampNeg v2) 4 ((xu (xu S 2 (S 0 2).toNatClampNeg v1) 3 ((xu S 2 (S 0 2).toNatClampNeg v1) 0 2).toNatClampNeg v2) 0 2).toNatClampNeg v3) 5 ((4 : Int32) * ((xu (xu (xu S 2 (S 0 2).toNatClampNeg v1) 3 ((xu S 2 (S 0 2).toNatClampNeg v1) 0 2).toNatClampNeg v2) 4 ((xu (xu S 2 (S 0 2).toNatClampNeg v1) 3 ((xu S 2 (S 0 2).toNatClampNeg v1) 0 2).toNatClampNeg v2) 0 2).toNatClampNeg v3) 0 2)).toNatClampNeg v4) 0 2)) + (1 : Int32)).toNatClampNeg v5) 0 2)) + (2 : Int32)).toNatClampNeg v6) 5 (((4 : Int32) * ((xu (xu (xu (xu (xu (xu S 2 (S 0 2).toNatClampNeg v1) 3 ((xu S 2 (S 0 2).toNatClampNeg v1) 0 2).toNatClampNeg v2) 4 ((xu (xu S 2 (S 0 2).toNatClampNeg v1) 3 ((xu S 2 (S 0 2).toNatClampNeg v1) 0 2).toNatClampNeg v2) 0 2).toNatClampNeg v3) 5 ((4 : Int32) * ((xu (xu (xu S 2 (S 0 2).toNatClampNeg v1) 3 ((xu S 2 (S 0 2).toNatClampNeg v1) 0 2).toNatClampNeg v2) 4 ((xu (xu S 2 (S 0 2).toNatClampNeg v1) 3 ((xu S 2 (S 0 2).toNatClampNeg v1) 0 2).toNatClampNeg v2) 0 2).toNatClampNeg v3) 0 2)).toNatClampNeg v4) 5 (((4 : Int32) * ((xu (xu (xu (xu S 2 (S 0 2).toNatClampNeg v1) 3 ((xu S 2 (S 0 2).toNatClampNeg v1) 0 2).toNatClampNeg v2) 4 ((xu (xu S 2 (S 0 2).toNatClampNeg v1) 3 ((xu S 2 (S 0 2).toNatClampNeg v1) 0 2).toNatClampNeg v2) 0 2).toNatClampNeg v3) 5 ((4 : Int32) * ((xu (xu (xu S 2 (S 0 2).toNatClampNeg v1) 3 ((xu S 2 (S 0 2).toNatClampNeg v1) 0 2).toNatClampNeg v2) 4 ((xu (xu S 2 (S 0 2).toNatClampNeg v1) 3 ((xu S 2 (S 0 2).toNatClampNeg v1) 0 2).toNatClampNeg v2) 0 2).toNatClampNeg v3) 0 2)).toNatClampNeg v4) 0 2)) + (1 : Int32)).toNatClampNeg v5) 5 (((4 : Int32) * ((xu (xu (xu (xu (xu S 2 (S 0 2).toNatClampNeg v1) 3 ((xu S 2 (S 0 2).toNatClampNeg v1) 0 2).toNatClampNeg v2) 4 ((xu (xu S 2 (S 0 2).toNatClampNeg v1) 3 ((xu S 2 (S 0 2).toNatClampNeg v1) 0 2).toNatClampNeg v2) 0 2).toNatClampNeg v3) 5 ((4 : Int32) * ((xu (xu (xu S 2 (S 0 2).toNatClampNeg v1) 3 ((xu S 2 (S 0 2).toNatClampNeg v1) 0 2).toNatClampNeg v2) 4 ((xu (xu S 2 (S 0 2).toNatClampNeg v1) 3 ((xu S 2 (S 0 2).toNatClampNeg v1) 0 2).toNatClampNeg v2) 0 2).toNatClampNeg v3) 0 2)).toNatClampNeg v4) 5 (((4 : Int32) * ((xu (xu (xu (xu S 2 (S 0 2).toNatClampNeg v1) 3 ((xu S 2 (S 0 2).toNatClampNeg v1) 0 2).toNatClampNeg v2) 4 ((xu (xu S 2 (S 0 2).toNatClampNeg v1) 3 ((xu S 2 (S 0 2).toNatClampNeg v1) 0 2).toNatClampNeg v2) 0 2).toNatClampNeg v3) 5 ((4 : Int32) * ((xu (xu (xu S 2 (S 0 2).toNatClampNeg v1) 3 ((xu S 2 (S 0 2).toNatClampNeg v1) 0 2).toNatClampNeg v2) 4 ((xu (xu S 2 (S 0 2).toNatClampNeg v1) 3 ((xu S 2 (S 0 2).toNatClampNeg v1) 0 2).toNatClampNeg v2) 0 2).toNatClampNeg v3) 0 2)).toNatClampNeg v4) 0 2)) + (1 : Int32)).toNatClampNeg v5) 0 2)) + (2 : Int32)).toNatClampNeg v6) 0 2)) + (3 : Int32)).toNatClampNeg v7) 0 2) + (1 : Int32))) (ty := .int) (C := RX7) (T := TX7) (N := 28) (ws2 := wM h cI cJ (xu (xu (xu (xu (xu (xu (xu (xu S 2 (S 0 2).toNatClampNeg v1) 3 ((xu S 2 (S 0 2).toNatClampNeg v1) 0 2).toNatClampNeg v2) 4 ((xu (xu S 2 (S 0 2).toNatClampNeg v1) 3 ((xu S 2 (S 0 2).toNatClampNeg v1) 0 2).toNatClampNeg v2) 0 2).toNatClampNeg v3) 5 ((4 : Int32) * ((xu (xu (xu S 2 (S 0 2).toNatClampNeg v1) 3 ((xu S 2 (S 0 2).toNatClampNeg v1) 0 2).toNatClampNeg v2) 4 ((xu (xu S 2 (S 0 2).toNatClampNeg v1) 3 ((xu S 2 (S 0 2).toNatClampNeg v1) 0 2).toNatClampNeg v2) 0 2).toNatClampNeg v3) 0 2)).toNatClampNeg v4) 5 (((4 : Int32) * ((xu (xu (xu (xu S 2 (S 0 2).toNatClampNeg v1) 3 ((xu S 2 (S 0 2).toNatClampNeg v1) 0 2).toNatClampNeg v2) 4 ((xu (xu S 2 (S 0 2).toNatClampNeg v1) 3 ((xu S 2 (S 0 2).toNatClampNeg v1) 0 2).toNatClampNeg v2) 0 2).toNatClampNeg v3) 5 ((4 : Int32) * ((xu (xu (xu S 2 (S 0 2).toNatClampNeg v1) 3 ((xu S 2 (S 0 2).toNatClampNeg v1) 0 2).toNatClampNeg v2) 4 ((xu (xu S 2 (S 0 2).toNatClampNeg v1) 3 ((xu S 2 (S 0 2).toNatClampNeg v1) 0 2).toNatClampNeg v2) 0 2).toNatClampNeg v3) 0 2)).toNatClampNeg v4) 0 2)) + (1 : Int32)).toNatClampNeg v5) 5 (((4 : Int32) * ((xu (xu (xu (xu (xu S 2 (S 0 2).toNatClampNeg v1) 3 ((xu S 2 (S 0 2).toNatClampNeg v1) 0 2).toNatClampNeg v2) 4 ((xu (xu S 2 (S 0 2).toNatClampNeg v1) 3 ((xu S 2 (S 0 2).toNatClampNeg v1) 0 2).toNatClampNeg v2) 0 2).toNatClampNeg v3) 5 ((4 : Int32) * ((xu (xu (xu S 2 (S 0 2).toNatClampNeg v1) 3 ((xu S 2 (S 0 2).toNatClampNeg v1) 0 2).toNatClampNeg v2) 4 ((xu (xu S 2 (S 0 2).toNatClampNeg v1) 3 ((xu S 2 (S 0 2).toNatClampNeg v1) 0 2).toNatClampNeg v2) 0 2).toNatClampNeg v3) 0 2)).toNatClampNeg v4) 5 (((4 : Int32) * ((xu (xu (xu (xu S 2 (S 0 2).toNatClampNeg v1) 3 ((xu S 2 (S 0 2).toNatClampNeg v1) 0 2).toNatClampNeg v2) 4 ((xu (xu S 2 (S 0 2).toNatClampNeg v1) 3 ((xu S 2 (S 0 2).toNatClampNeg v1) 0 2).toNatClampNeg v2) 0 2).toNatClampNeg v3) 5 ((4 : Int32) * ((xu (xu (xu S 2 (S 0 2).toNatClampNeg v1) 3 ((xu S 2 (S 0 2).toNatClampNeg v1) 0 2).toNatClampNeg v2) 4 ((xu (xu S 2 (S 0 2).toNatClampNeg v1) 3 ((xu S 2 (S 0 2).toNatClampNeg v1) 0 2).toNatClampNeg v2) 0 2).toNatClampNeg v3) 0 2)).toNatClampNeg v4) 0 2)) + (1 : Int32)).toNatClampNeg v5) 0 2)) + (2 : Int32)).toNatClampNeg v6) 5 (((4 : Int32) * ((xu (xu (xu (xu (xu (xu S 2 (S 0 2).toNatClampNeg v1) 3 ((xu S 2 (S 0 2).toNatClampNeg v1) 0 2).toNatClampNeg v2) 4 ((xu (xu S 2 (S 0 2).toNatClampNeg v1) 3 ((xu S 2 (S 0 2).toNatClampNeg v1) 0 2).toNatClampNeg v2) 0 2).toNatClampNeg v3) 5 ((4 : Int32) * ((xu (xu (xu S 2 (S 0 2).toNatClampNeg v1) 3 ((xu S 2 (S 0 2).toNatClampNeg v1) 0 2).toNatClampNeg v2) 4 ((xu (xu S 2 (S 0 2).toNatClampNeg v1) 3 ((xu S 2 (S 0 2).toNatClampNeg v1) 0 2).toNatClampNeg v2) 0 2).toNatClampNeg v3) 0 2)).toNatClampNeg v4) 5 (((4 : Int32) * ((xu (xu (xu (xu S 2 (S 0 2).toNatClampNeg v1) 3 ((xu S 2 (S 0 2).toNatClampNeg v1) 0 2).toNatClampNeg v2) 4 ((xu (xu S 2 (S 0 2).toNatClampNeg v1) 3 ((xu S 2 (S 0 2).toNatClampNeg v1) 0 2).toNatClampNeg v2) 0 2).toNatClampNeg v3) 5 ((4 : Int32) * ((xu (xu (xu S 2 (S 0 2).toNatClampNeg v1) 3 ((xu S 2 (S 0 2).toNatClampNeg v1) 0 2).toNatClampNeg v2) 4 ((xu (xu S 2 (S 0 2).toNatClampNeg v1) 3 ((xu S 2 (S 0 2).toNatClampNeg v1) 0 2).toNatClampNeg v2) 0 2).toNatClampNeg v3) 0 2)).toNatClampNeg v4) 0 2)) + (1 : Int32)).toNatClampNeg v5) 5 (((4 : Int32) * ((xu (xu (xu (xu (xu S 2 (S 0 2).toNatClampNeg v1) 3 ((xu S 2 (S 0 2).toNatClampNeg v1) 0 2).toNatClampNeg v2) 4 ((xu (xu S 2 (S 0 2).toNatClampNeg v1) 3 ((xu S 2 (S 0 2).toNatClampNeg v1) 0 2).toNatClampNeg v2) 0 2).toNatClampNeg v3) 5 ((4 : Int32) * ((xu (xu (xu S 2 (S 0 2).toNatClampNeg v1) 3 ((xu S 2 (S 0 2).toNatClampNeg v1) 0 2).toNatClampNeg v2) 4 ((xu (xu S 2 (S 0 2).toNatClampNeg v1) 3 ((xu S 2 (S 0 2).toNatClampNeg v1) 0 2).toNatClampNeg v2) 0 2).toNatClampNeg v3) 0 2)).toNatClampNeg v4) 5 (((4 : Int32) * ((xu (xu (xu (xu S 2 (S 0 2).toNatClampNeg v1) 3 ((xu S 2 (S 0 2).toNatClampNeg v1) 0 2).toNatClampNeg v2) 4 ((xu (xu S 2 (S 0 2).toNatClampNeg v1) 3 ((xu S 2 (S 0 2).toNatClampNeg v1) 0 2).toNatClampNeg v2) 0 2).toNatClampNeg v3) 5 ((4 : Int32) * ((xu (xu (xu S 2 (S 0 2).toNatClampNeg v1) 3 ((xu S 2 (S 0 2).toNatClampNeg v1) 0 2).toNatClampNeg v2) 4 ((xu (xu S 2 (S 0 2).toNatClampNeg v1) 3 ((xu S 2 (S 0 2).toNatClampNeg v1) 0 2).toNatClampNeg v2) 0 2).toNatClampNeg v3) 0 2)).toNatClampNeg v4) 0 2)) + (1 : Int32)).toNatClampNeg v5) 0 2)) + (2 : Int32)).toNatClampNeg v6) 0 2)) + (3 : Int32)).toNatClampNeg v7) 0 2 (((xu (xu (xu (xu (xu (xu (xu S 2 (S 0 2).toNatClampNeg v1) 3 ((xu S 2 (S 0 2).toNatClampNeg v1) 0 2).toNatClampNeg v2) 4 ((xu (xu S 2 (S 0 2).toNatClampNeg v1) 3 ((xu S 2 (S 0 2).toNatClampNeg v1) 0 2).toNatClampNeg v2) 0 2).toNatClampNeg v3) 5 ((4 : Int32) * ((xu (xu (xu S 2 (S 0 2).toNatClampNeg v1) 3 ((xu S 2 (S 0 2).toNatClampNeg v1) 0 2).toNatClampNeg v2) 4 ((xu (xu S 2 (S 0 2).toNatClampNeg v1) 3 ((xu S 2 (S 0 2).toNatClampNeg v1) 0 2).toNatClampNeg v2) 0 2).toNatClampNeg v3) 0 2)).toNatClampNeg v4) 5 (((4 : Int32) * ((xu (xu (xu (xu S 2 (S 0 2).toNatClampNeg v1) 3 ((xu S 2 (S 0 2).toNatClampNeg v1) 0 2).toNatClampNeg v2) 4 ((xu (xu S 2 (S 0 2).toNatClampNeg v1) 3 ((xu S 2 (S 0 2).toNatClampNeg v1) 0 2).toNatClampNeg v2) 0 2).toNatClampNeg v3) 5 ((4 : Int32) * ((xu (xu (xu S 2 (S 0 2).toNatClampNeg v1) 3 ((xu S 2 (S 0 2).toNatClampNeg v1) 0 2).toNatClampNeg v2) 4 ((xu (xu S 2 (S 0 2).toNatClampNeg v1) 3 ((xu S 2 (S 0 2).toNatClampNeg v1) 0 2).toNatClampNeg v2) 0 2).toNatClampNeg v3) 0 2)).toNatClampNeg v4) 0 2)) + (1 : Int32)).toNatClampNeg v5) 5 (((4 : Int32) * ((xu (xu (xu (xu (xu S 2 (S 0 2).toNatClampNeg v1) 3 ((xu S 2 (S 0 2).toNatClampNeg v1) 0 2).toNatClampNeg v2) 4 ((xu (xu S 2 (S 0 2).toNatClampNeg v1) 3 ((xu S 2 (S 0 2).toNatClampNeg v1) 0 2).toNatClampNeg v2) 0 2).toNatClampNeg v3) 5 ((4 : Int32) * ((xu (xu (xu S 2 (S 0 2).toNatClampNeg v1) 3 ((xu S 2 (S 0 2).toNatClampNeg v1) 0 2).toNatClampNeg v2) 4 ((xu (xu S 2 (S 0 2).toNatClampNeg v1) 3 ((xu S 2 (S 0 2).toNatClampNeg v1) 0 2).toNatClampNeg v2) 0 2).toNatClampNeg v3) 0 2)).toNatClampNeg v4) 5 (((4 : Int32) * ((xu (xu (xu (xu S 2 (S 0 2).toNatClampNeg v1) 3 ((xu S 2 (S 0 2).toNatClampNeg v1) 0 2).toNatClampNeg v2) 4 ((xu (xu S 2 (S 0 2).toNatClampNeg v1) 3 ((xu S 2 (S 0 2).toNatClampNeg v1) 0 2).toNatClampNeg v2) 0 2).toNatClampNeg v3) 5 ((4 : Int32) * ((xu (xu (xu S 2 (S 0 2).toNatClampNeg v1) 3 ((xu S 2 (S 0 2).toNatClampNeg v1) 0 2).toNatClampNeg v2) 4 ((xu (xu S 2 (S 0 2).toNatClampNeg v1) 3 ((xu S 2 (S 0 2).toNatClampNeg v1) 0 2).toNatClampNeg v2) 0 2).toNatClampNeg v3) 0 2)).toNatClampNeg v4) 0 2)) + (1 : Int32)).toNatClampNeg v5) 0 2)) + (2 : Int32)).toNatClampNeg v6) 5 (((4 : Int32) * ((xu (xu (xu (xu (xu (xu S 2 (S 0 2).toNatClampNeg v1) 3 ((xu S 2 (S 0 2).toNatClampNeg v1) 0 2).toNatClampNeg v2) 4 ((xu (xu S 2 (S 0 2).toNatClampNeg v1) 3 ((xu S 2 (S 0 2).toNatClampNeg v1) 0 2).toNatClampNeg v2) 0 2).toNatClampNeg v3) 5 ((4 : Int32) * ((xu (xu (xu S 2 (S 0 2).toNatClampNeg v1) 3 ((xu S 2 (S 0 2).toNatClampNeg v1) 0 2).toNatClampNeg v2) 4 ((xu (xu S 2 (S 0 2).toNatClampNeg v1) 3 ((xu S 2 (S 0 2).toNatClampNeg v1) 0 2).toNatClampNeg v2) 0 2).toNatClampNeg v3) 0 2)).toNatClampNeg v4) 5 (((4 : Int32) * ((xu (xu (xu (xu S 2 (S 0 2).toNatClampNeg v1) 3 ((xu S 2 (S 0 2).toNatClampNeg v1) 0 2).toNatClampNeg v2) 4 ((xu (xu S 2 (S 0 2).toNatClampNeg v1) 3 ((xu S 2 (S 0 2).toNatClampNeg v1) 0 2).toNatClampNeg v2) 0 2).toNatClampNeg v3) 5 ((4 : Int32) * ((xu (xu (xu S 2 (S 0 2).toNatClampNeg v1) 3 ((xu S 2 (S 0 2).toNatClampNeg v1) 0 2).toNatClampNeg v2) 4 ((xu (xu S 2 (S 0 2).toNatClampNeg v1) 3 ((xu S 2 (S 0 2).toNatClampNeg v1) 0 2).toNatClampNeg v2) 0 2).toNatClampNeg v3) 0 2)).toNatClampNeg v4) 0 2)) + (1 : Int32)).toNatClampNeg v5) 5 (((4 : Int32) * ((xu (xu (xu (xu (xu S 2 (S 0 2).toNatClampNeg v1) 3 ((xu S 2 (S 0 2).toNatClampNeg v1) 0 2).toNatClampNeg v2) 4 ((xu (xu S 2 (S 0 2).toNatClampNeg v1) 3 ((xu S 2 (S 0 2).toNatClampNeg v1) 0 2).toNatClampNeg v2) 0 2).toNatClampNeg v3) 5 ((4 : Int32) * ((xu (xu (xu S 2 (S 0 2).toNatClampNeg v1) 3 ((xu S 2 (S 0 2).toNatClampNeg v1) 0 2).toNatClampNeg v2) 4 ((xu (xu S 2 (S 0 2).toNatClampNeg v1) 3 ((xu S 2 (S 0 2).toNatClampNeg v1) 0 2).toNatClampNeg v2) 0 2).toNatClampNeg v3) 0 2)).toNatClampNeg v4) 5 (((4 : Int32) * ((xu (xu (xu (xu S 2 (S 0 2).toNatClampNeg v1) 3 ((xu S 2 (S 0 2).toNatClampNeg v1) 0 2).toNatClampNeg v2) 4 ((xu (xu S 2 (S 0 2).toNatClampNeg v1) 3 ((xu S 2 (S 0 2).toNatClampNeg v1) 0 2).toNatClampNeg v2) 0 2).toNatClampNeg v3) 5 ((4 : Int32) * ((xu (xu (xu S 2 (S 0 2).toNatClampNeg v1) 3 ((xu S 2 (S 0 2).toNatClampNeg v1) 0 2).toNatClampNeg v2) 4 ((xu (xu S 2 (S 0 2).toNatClampNeg v1) 3 ((xu S 2 (S 0 2).toNatClampNeg v1) 0 2).toNatClampNeg v2) 0 2).toNatClampNeg v3) 0 2)).toNatClampNeg v4) 0 2)) + (1 : Int32)).toNatClampNeg v5) 0 2)) + (2 : Int32)).toNatClampNeg v6) 0 2)) + (3 : Int32)).toNatClampNeg v7) 0 2) + (1 : Int32))) L) hx hb hts inX7 tyX7 tyX7_ok nmX7 hown hK hP (hD _ _) hS 0 wM_0 rfl 3 (by decide) f2 (fun _ h9 => h9) rfl (by decide +kernel) rfl rfl (Nat.le_of_ble_eq_true rfl) dX7_comes_95 (wM_p0_2 _) (fun H locs hP hS => ?_)
  exact hret _ _ _ _ _ hP hS hw dX7_comes_98
abbrev rX7_will : Room := { frames := 2, cells := 0, slots := 0, locals := 45 }
set_option maxHeartbeats 4000000 in
set_option maxRecDepth 100000 in
theorem mX7_will (l : Launch) (D : va_G) (h : Nat → Nat) (cI cJ : ClassId) (hh : xdis 22 h) (S : SX) (L : LX) (v1 : Int32) (v2 : Int32) (v3 : Int32) (v4 : Int32) (post : Int32 → SX → Prop) (hw : kX7_will S L v1 v2 v3 v4 post) : Met l yX7_will wsX7_will rX7_will (xPre D (wM h cI cJ) (mE D cI cJ) S L [.ref (h 0), .int v1, .int v2, .int v3, .int v4]) (va_Qi (fun (r : Int32) (u : SX × LX) => post r u.1 ∧ u.2 = L) (xB D (wM h cI cJ)) (xA 22 h)) 0 0 (xA 22 h) := by
  refine Met.ofW (cc := cX7_will) (maxL := 5) (ret := (some .int)) (by decide) rfl ?_
  intro p e s m args below meth c s₁ B hml hv
  obtain ⟨hargs, hP, hE⟩ := hv
  have hx := B.exec
  have hb := B.bytes
  have hr := B.returns
  have hlocks := B.notSynchronized
  have hts := atoms_spec (ws := wsX7_will) B.pre
  have hown : s.vm.findClass RX7 = some m.cls := findClass_of_methodNamed B.named
  have hS : va_S (xA 22 h) s.heap s.heap [] := va_S.rf
  have hD : ∀ (S : SX) (L : LX), va_D (xA 22 h) (wM h cI cJ S L) := fun S L => wM_D hh cI cJ S L
  have hK := id hE
  have hst : xSt (xA 22 h) (mE D cI cJ) := mE_st D _ cI cJ
  have f0 := hts (.constantLong RX7 90 (5)) (by decide +kernel)
  have f1 := hts (.constantLong RX7 105 (9999)) (by decide +kernel)
  have f2 := hts (.fieldLink RX7 87 "BookOfWillsModel" "wills" "I") (by decide +kernel)
  have inX7 : ∀ w ∈ u_ws RX7 TX7 28, w ∈ wsX7_will := fun w hw9 => List.mem_cons_of_mem _ (List.mem_append_right _ hw9)
  have hl := lv_entry ([.ref (h 0), .int v1, .int v2, .int v3, .int v4]) (n := 5) (Nat.le_of_ble_eq_true rfl)
  have hen : entryFrame m args 5 = F0 m 0 ((lg_sl ([.ref (h 0), .int v1, .int v2, .int v3, .int v4]) ++ List.replicate (5 - (lg_sl ([.ref (h 0), .int v1, .int v2, .int v3, .int v4])).length) Slot.unset).toArray) [] := by rw [hargs]; exact lg_entry_eq m _ _
  rw [hen]
  generalize (lg_sl ([.ref (h 0), .int v1, .int v2, .int v3, .int v4]) ++ List.replicate (5 - (lg_sl ([.ref (h 0), .int v1, .int v2, .int v3, .int v4])).length) Slot.unset).toArray = ls at hl ⊢
  have hl : lv_has ls 5 [(0, .ref (h 0)), (1, .int v1), (2, .int v2), (3, .int v3), (4, .int v4)] := hl
  change W p l e rX7_will s m args below meth c s.heap [] 0 0 (MQ below (va_Qi (fun (r : Int32) (u : SX × LX) => post r u.1 ∧ u.2 = L) (xB D (wM h cI cJ)) (xA 22 h)) args s 0 0 (xA 22 h)) (F0 m 0 ls [])
  have hret : ∀ (r : Int32) (S1 : SX) (H : Heap) (locs : List Loc) (ls : Array Slot) (pc : Nat), va_P D vwCl (wM h cI cJ S1 L) H → va_S (xA 22 h) s.heap H locs → post r S1 → decode cX7_will pc = .ok (.ireturn, 1) → W p l e rX7_will s m args below meth c H locs 0 0 (MQ below (va_Qi (fun (r : Int32) (u : SX × LX) => post r u.1 ∧ u.2 = L) (xB D (wM h cI cJ)) (xA 22 h)) args s 0 0 (xA 22 h)) (F0 m pc ls [.int r]) := fun r S1 H locs ls pc hP hS hw hd => W.iret hx hb hr (fun t ht hW => ⟨⟨r, (S1, L), rfl, ⟨hw, rfl⟩, show va_P D vwCl (wM h cI cJ S1 L) t.heap by rw [ht]; exact hP⟩, hS.F ht⟩) hS.2.2 hd
  generalize MQ below (va_Qi (fun (r : Int32) (u : SX × LX) => post r u.1 ∧ u.2 = L) (xB D (wM h cI cJ)) (xA 22 h)) args s 0 0 (xA 22 h) = Q at hret ⊢
  unfold kX7_will at hw
  refine lv_iload_n hx hb dX7_will_0 rfl (lv_at hl 1 rfl) ?_
  refine xSi0 (As := [.int v1]) (rest := []) hst hE hP hS ⟨hx, hb, hml, hown, hts⟩ (mX7_isYear l D h cI cJ hh S L v1 _ hw) (va_cwS 1 hts gX7_will_X7_isYear rfl rfl rfl (by decide +kernel) ⟨Nat.le_of_ble_eq_true rfl, Nat.le_of_ble_eq_true rfl⟩) rfl hl.1 rfl (Nat.le_of_ble_eq_true rfl) dX7_will_1 ⟨Nat.zero_le _, Nat.zero_le _⟩ (fun r1 H locs hw hP hS => ?_)
  refine lv_if_eq (tgt := 42) hx hb dX7_will_4 (by decide) (fun hc => ?_) (fun hc => ?_)
  · replace hw := And.left hw hc
    refine lv_iconst (v := (-1 : Int32)) hx hb dX7_will_42 (by decide) ?_
    exact hret _ _ _ _ _ _ hP hS hw dX7_will_43
  · replace hw := And.right hw hc
    refine lv_iload_n hx hb dX7_will_7 rfl (lv_at hl 2 rfl) ?_
    refine lv_i2l hx hb dX7_will_8 rfl ?_
    refine lv_lconst (v := (0 : Int64)) hx hb dX7_will_9 (by decide) ?_
    refine lv_ldc2 (v := (5 : Int64)) hx hb hown (f0) dX7_will_10 ?_
    refine xSi0 (As := [.long v2.toInt64, .long (0 : Int64), .long (5 : Int64)]) (rest := []) hst hE hP hS ⟨hx, hb, hml, hown, hts⟩ (mX7_in l D h cI cJ hh S L v2.toInt64 (0 : Int64) (5 : Int64) _ hw) (va_cwS 3 hts gX7_will_X7_in rfl rfl rfl (by decide +kernel) ⟨Nat.le_of_ble_eq_true rfl, Nat.le_of_ble_eq_true rfl⟩) rfl hl.1 rfl (Nat.le_of_ble_eq_true rfl) dX7_will_13 ⟨Nat.zero_le _, Nat.zero_le _⟩ (fun r13 H locs hw hP hS => ?_)
    refine lv_if_eq (tgt := 42) hx hb dX7_will_16 (by decide) (fun hc => ?_) (fun hc => ?_)
    · replace hw := And.left hw hc
      refine lv_iconst (v := (-1 : Int32)) hx hb dX7_will_42 (by decide) ?_
      exact hret _ _ _ _ _ _ hP hS hw dX7_will_43
    · replace hw := And.right hw hc
      refine lv_iload_n hx hb dX7_will_19 rfl (lv_at hl 3 rfl) ?_
      refine lv_i2l hx hb dX7_will_20 rfl ?_
      refine lv_lconst (v := (0 : Int64)) hx hb dX7_will_21 (by decide) ?_
      refine lv_lconst (v := (1 : Int64)) hx hb dX7_will_22 (by decide) ?_
      refine xSi0 (As := [.long v3.toInt64, .long (0 : Int64), .long (1 : Int64)]) (rest := []) hst hE hP hS ⟨hx, hb, hml, hown, hts⟩ (mX7_in l D h cI cJ hh S L v3.toInt64 (0 : Int64) (1 : Int64) _ hw) (va_cwS 3 hts gX7_will_X7_in rfl rfl rfl (by decide +kernel) ⟨Nat.le_of_ble_eq_true rfl, Nat.le_of_ble_eq_true rfl⟩) rfl hl.1 rfl (Nat.le_of_ble_eq_true rfl) dX7_will_23 ⟨Nat.zero_le _, Nat.zero_le _⟩ (fun r23 H locs hw hP hS => ?_)
      refine lv_if_eq (tgt := 42) hx hb dX7_will_26 (by decide) (fun hc => ?_) (fun hc => ?_)
      · replace hw := And.left hw hc
        refine lv_iconst (v := (-1 : Int32)) hx hb dX7_will_42 (by decide) ?_
        exact hret _ _ _ _ _ _ hP hS hw dX7_will_43
      · replace hw := And.right hw hc
        refine lv_iload hx hb dX7_will_29 (lv_at hl 4 rfl) ?_
        refine lv_i2l hx hb dX7_will_31 rfl ?_
        refine lv_lconst (v := (0 : Int64)) hx hb dX7_will_32 (by decide) ?_
        refine lv_ldc2 (v := (9999 : Int64)) hx hb hown (f1) dX7_will_33 ?_
        refine xSi0 (As := [.long v4.toInt64, .long (0 : Int64), .long (9999 : Int64)]) (rest := []) hst hE hP hS ⟨hx, hb, hml, hown, hts⟩ (mX7_in l D h cI cJ hh S L v4.toInt64 (0 : Int64) (9999 : Int64) _ hw) (va_cwS 3 hts gX7_will_X7_in rfl rfl rfl (by decide +kernel) ⟨Nat.le_of_ble_eq_true rfl, Nat.le_of_ble_eq_true rfl⟩) rfl hl.1 rfl (Nat.le_of_ble_eq_true rfl) dX7_will_36 ⟨Nat.zero_le _, Nat.zero_le _⟩ (fun r36 H locs hw hP hS => ?_)
        refine lv_if_ne (tgt := 44) hx hb dX7_will_39 (by decide) (fun hc => ?_) (fun hc => ?_)
        · replace hw := And.right hw hc
          refine lv_aload_n hx hb dX7_will_44 rfl (lv_at hl 0 rfl) ?_
          refine va_get (D := D) (ci := 7) (v := .int (S 0 2)) (C := RX7) (T := TX7) (N := 28) hx hb hts inX7 hown hK hP 0 wM_0 rfl 3 (by decide) f2 (fun _ h9 => h9) rfl dX7_will_45 ?_
          refine lv_bipush (v := (24 : Int32)) hx hb dX7_will_48 (by decide) ?_
          refine lv_icmp_ne (tgt := 56) hx hb dX7_will_50 (by decide) (fun hc => ?_) (fun hc => ?_)
          · replace hw := And.right hw hc
            refine lv_aload_n hx hb dX7_will_56 rfl (lv_at hl 0 rfl) ?_
            refine lv_iload_n hx hb dX7_will_57 rfl (lv_at hl 1 rfl) ?_
            refine lv_iload_n hx hb dX7_will_58 rfl (lv_at hl 2 rfl) ?_
            refine lv_iload_n hx hb dX7_will_59 rfl (lv_at hl 3 rfl) ?_
            refine lv_iload hx hb dX7_will_60 (lv_at hl 4 rfl) ?_
            refine lv_iconst (v := (0 : Int32)) hx hb dX7_will_62 (by decide) ?_
            refine lv_iconst (v := (0 : Int32)) hx hb dX7_will_63 (by decide) ?_
            refine lv_iconst (v := (0 : Int32)) hx hb dX7_will_64 (by decide) ?_
            refine xVv1 (As := [.int v1, .int v2, .int v3, .int v4, .int (0 : Int32), .int (0 : Int32), .int (0 : Int32)]) (rest := []) hst hE hP hS ⟨hx, hb, hml, hown, hts⟩ (va_recv hK hP (ci := 7) (q := (RX7, TX7, 28)) rfl wM_0) (mX7_comes l D h cI cJ hh S L v1 v2 v3 v4 (0 : Int32) (0 : Int32) (0 : Int32) _ hw) (cwV 7 hts gX7_will_X7_comes rfl rfl rfl (by decide +kernel) ⟨Nat.le_of_ble_eq_true rfl, Nat.le_of_ble_eq_true rfl⟩) rfl hl.1 rfl (Nat.le_of_ble_eq_true rfl) dX7_will_65 ⟨Nat.zero_le _, Nat.zero_le _⟩ (fun S65 H locs hw hP hS => ?_)
            refine lv_aload_n hx hb dX7_will_68 rfl (lv_at hl 0 rfl) ?_
            refine va_get (D := D) (ci := 7) (v := .int (S65 0 2)) (C := RX7) (T := TX7) (N := 28) hx hb hts inX7 hown hK hP 0 wM_0 rfl 3 (by decide) f2 (fun _ h9 => h9) rfl dX7_will_69 ?_
            refine lv_iconst (v := (1 : Int32)) hx hb dX7_will_72 (by decide) ?_
            refine lv_isub hx hb dX7_will_73 ?_
            exact hret _ _ _ _ _ _ hP hS hw dX7_will_74
          · replace hw := And.left hw hc
            refine lv_bipush (v := (-3 : Int32)) hx hb dX7_will_53 (by decide) ?_
            exact hret _ _ _ _ _ _ hP hS hw dX7_will_55
        · replace hw := And.left hw hc
          refine lv_iconst (v := (-1 : Int32)) hx hb dX7_will_42 (by decide) ?_
          exact hret _ _ _ _ _ _ hP hS hw dX7_will_43
abbrev rX7_had : Room := { frames := 2, cells := 0, slots := 0, locals := 46 }
set_option maxHeartbeats 4000000 in
set_option maxRecDepth 100000 in
theorem mX7_had (l : Launch) (D : va_G) (h : Nat → Nat) (cI cJ : ClassId) (hh : xdis 22 h) (S : SX) (L : LX) (v1 : Int32) (v2 : Int32) (v3 : Int32) (post : Int32 → SX → Prop) (hw : kX7_had S L v1 v2 v3 post) : Met l yX7_had wsX7_had rX7_had (xPre D (wM h cI cJ) (mE D cI cJ) S L [.ref (h 0), .int v1, .int v2, .int v3]) (va_Qi (fun (r : Int32) (u : SX × LX) => post r u.1 ∧ u.2 = L) (xB D (wM h cI cJ)) (xA 22 h)) 0 0 (xA 22 h) := by
  refine Met.ofW (cc := cX7_had) (maxL := 5) (ret := (some .int)) (by decide) rfl ?_
  intro p e s m args below meth c s₁ B hml hv
  obtain ⟨hargs, hP, hE⟩ := hv
  have hx := B.exec
  have hb := B.bytes
  have hr := B.returns
  have hlocks := B.notSynchronized
  have hts := atoms_spec (ws := wsX7_had) B.pre
  have hown : s.vm.findClass RX7 = some m.cls := findClass_of_methodNamed B.named
  have hS : va_S (xA 22 h) s.heap s.heap [] := va_S.rf
  have hD : ∀ (S : SX) (L : LX), va_D (xA 22 h) (wM h cI cJ S L) := fun S L => wM_D hh cI cJ S L
  have hK := id hE
  have hst : xSt (xA 22 h) (mE D cI cJ) := mE_st D _ cI cJ
  have f0 := hts (.constantLong RX7 114 (3)) (by decide +kernel)
  have f1 := hts (.constantLong RX7 105 (9999)) (by decide +kernel)
  have f2 := hts (.fieldLink RX7 27 "BookOfWillsModel" "own" "[I") (by decide +kernel)
  have inX7 : ∀ w ∈ u_ws RX7 TX7 28, w ∈ wsX7_had := fun w hw9 => List.mem_cons_of_mem _ (List.mem_append_right _ hw9)
  have hl := lv_entry ([.ref (h 0), .int v1, .int v2, .int v3]) (n := 5) (Nat.le_of_ble_eq_true rfl)
  have hen : entryFrame m args 5 = F0 m 0 ((lg_sl ([.ref (h 0), .int v1, .int v2, .int v3]) ++ List.replicate (5 - (lg_sl ([.ref (h 0), .int v1, .int v2, .int v3])).length) Slot.unset).toArray) [] := by rw [hargs]; exact lg_entry_eq m _ _
  rw [hen]
  generalize (lg_sl ([.ref (h 0), .int v1, .int v2, .int v3]) ++ List.replicate (5 - (lg_sl ([.ref (h 0), .int v1, .int v2, .int v3])).length) Slot.unset).toArray = ls at hl ⊢
  have hl : lv_has ls 5 [(0, .ref (h 0)), (1, .int v1), (2, .int v2), (3, .int v3)] := hl
  change W p l e rX7_had s m args below meth c s.heap [] 0 0 (MQ below (va_Qi (fun (r : Int32) (u : SX × LX) => post r u.1 ∧ u.2 = L) (xB D (wM h cI cJ)) (xA 22 h)) args s 0 0 (xA 22 h)) (F0 m 0 ls [])
  have hret : ∀ (r : Int32) (S1 : SX) (H : Heap) (locs : List Loc) (ls : Array Slot) (pc : Nat), va_P D vwCl (wM h cI cJ S1 L) H → va_S (xA 22 h) s.heap H locs → post r S1 → decode cX7_had pc = .ok (.ireturn, 1) → W p l e rX7_had s m args below meth c H locs 0 0 (MQ below (va_Qi (fun (r : Int32) (u : SX × LX) => post r u.1 ∧ u.2 = L) (xB D (wM h cI cJ)) (xA 22 h)) args s 0 0 (xA 22 h)) (F0 m pc ls [.int r]) := fun r S1 H locs ls pc hP hS hw hd => W.iret hx hb hr (fun t ht hW => ⟨⟨r, (S1, L), rfl, ⟨hw, rfl⟩, show va_P D vwCl (wM h cI cJ S1 L) t.heap by rw [ht]; exact hP⟩, hS.F ht⟩) hS.2.2 hd
  generalize MQ below (va_Qi (fun (r : Int32) (u : SX × LX) => post r u.1 ∧ u.2 = L) (xB D (wM h cI cJ)) (xA 22 h)) args s 0 0 (xA 22 h) = Q at hret ⊢
  unfold kX7_had at hw
  refine lv_aload_n hx hb dX7_had_0 rfl (lv_at hl 0 rfl) ?_
  refine lv_iload_n hx hb dX7_had_1 rfl (lv_at hl 1 rfl) ?_
  refine xVi0 (As := [.int v1]) (rest := []) hst hE hP hS ⟨hx, hb, hml, hown, hts⟩ (va_recv hK hP (ci := 7) (q := (RX7, TX7, 28)) rfl wM_0) (mX7_isWill l D h cI cJ hh S L v1 _ hw) (cwV 1 hts gX7_had_X7_isWill rfl rfl rfl (by decide +kernel) ⟨Nat.le_of_ble_eq_true rfl, Nat.le_of_ble_eq_true rfl⟩) rfl hl.1 rfl (Nat.le_of_ble_eq_true rfl) dX7_had_2 ⟨Nat.zero_le _, Nat.zero_le _⟩ (fun r2 H locs hw hP hS => ?_)
  refine lv_if_eq (tgt := 32) hx hb dX7_had_5 (by decide) (fun hc => ?_) (fun hc => ?_)
  · replace hw := And.left hw hc
    refine lv_iconst (v := (-1 : Int32)) hx hb dX7_had_32 (by decide) ?_
    exact hret _ _ _ _ _ _ hP hS hw dX7_had_33
  · replace hw := And.right hw hc
    refine lv_iload_n hx hb dX7_had_8 rfl (lv_at hl 2 rfl) ?_
    refine lv_i2l hx hb dX7_had_9 rfl ?_
    refine lv_lconst (v := (0 : Int64)) hx hb dX7_had_10 (by decide) ?_
    refine lv_ldc2 (v := (3 : Int64)) hx hb hown (f0) dX7_had_11 ?_
    refine xSi0 (As := [.long v2.toInt64, .long (0 : Int64), .long (3 : Int64)]) (rest := []) hst hE hP hS ⟨hx, hb, hml, hown, hts⟩ (mX7_in l D h cI cJ hh S L v2.toInt64 (0 : Int64) (3 : Int64) _ hw) (va_cwS 3 hts gX7_had_X7_in rfl rfl rfl (by decide +kernel) ⟨Nat.le_of_ble_eq_true rfl, Nat.le_of_ble_eq_true rfl⟩) rfl hl.1 rfl (Nat.le_of_ble_eq_true rfl) dX7_had_14 ⟨Nat.zero_le _, Nat.zero_le _⟩ (fun r14 H locs hw hP hS => ?_)
    refine lv_if_eq (tgt := 32) hx hb dX7_had_17 (by decide) (fun hc => ?_) (fun hc => ?_)
    · replace hw := And.left hw hc
      refine lv_iconst (v := (-1 : Int32)) hx hb dX7_had_32 (by decide) ?_
      exact hret _ _ _ _ _ _ hP hS hw dX7_had_33
    · replace hw := And.right hw hc
      refine lv_iload_n hx hb dX7_had_20 rfl (lv_at hl 3 rfl) ?_
      refine lv_i2l hx hb dX7_had_21 rfl ?_
      refine lv_lconst (v := (0 : Int64)) hx hb dX7_had_22 (by decide) ?_
      refine lv_ldc2 (v := (9999 : Int64)) hx hb hown (f1) dX7_had_23 ?_
      refine xSi0 (As := [.long v3.toInt64, .long (0 : Int64), .long (9999 : Int64)]) (rest := []) hst hE hP hS ⟨hx, hb, hml, hown, hts⟩ (mX7_in l D h cI cJ hh S L v3.toInt64 (0 : Int64) (9999 : Int64) _ hw) (va_cwS 3 hts gX7_had_X7_in rfl rfl rfl (by decide +kernel) ⟨Nat.le_of_ble_eq_true rfl, Nat.le_of_ble_eq_true rfl⟩) rfl hl.1 rfl (Nat.le_of_ble_eq_true rfl) dX7_had_26 ⟨Nat.zero_le _, Nat.zero_le _⟩ (fun r26 H locs hw hP hS => ?_)
      refine lv_if_ne (tgt := 34) hx hb dX7_had_29 (by decide) (fun hc => ?_) (fun hc => ?_)
      · replace hw := And.right hw hc
        refine lv_aload_n hx hb dX7_had_34 rfl (lv_at hl 0 rfl) ?_
        refine va_get (D := D) (ci := 7) (v := .ref (h 5)) (C := RX7) (T := TX7) (N := 28) hx hb hts inX7 hown hK hP 0 wM_0 rfl 7 (by decide) f2 (fun _ h9 => h9) rfl dX7_had_35 ?_
        refine lv_iconst (v := (4 : Int32)) hx hb dX7_had_38 (by decide) ?_
        refine lv_iload_n hx hb dX7_had_39 rfl (lv_at hl 1 rfl) ?_
        refine lv_imul hx hb dX7_had_40 ?_
        refine lv_iload_n hx hb dX7_had_41 rfl (lv_at hl 2 rfl) ?_
        refine lv_iadd hx hb dX7_had_42 ?_
        obtain ⟨hi, hw⟩ := hw
        refine va_iald hx hb hK hP 5 0 wM_5 rfl hi dX7_had_43 ?_
        refine lv_istore (lv' := [(4, .int (S 5 (((4 : Int32) * v1) + v2).toNatClampNeg)), (0, .ref (h 0)), (1, .int v1), (2, .int v2), (3, .int v3)]) hx hb dX7_had_44 hl (by decide) rfl (fun ls hl => ?_)
        refine lv_aload_n hx hb dX7_had_46 rfl (lv_at hl 1 rfl) ?_
        refine va_get (D := D) (ci := 7) (v := .ref (h 5)) (C := RX7) (T := TX7) (N := 28) hx hb hts inX7 hown hK hP 0 wM_0 rfl 7 (by decide) f2 (fun _ h9 => h9) rfl dX7_had_47 ?_
        refine lv_iconst (v := (4 : Int32)) hx hb dX7_had_50 (by decide) ?_
        refine lv_iload_n hx hb dX7_had_51 rfl (lv_at hl 2 rfl) ?_
        refine lv_imul hx hb dX7_had_52 ?_
        refine lv_iload_n hx hb dX7_had_53 rfl (lv_at hl 3 rfl) ?_
        refine lv_iadd hx hb dX7_had_54 ?_
        refine lv_iload_n hx hb dX7_had_55 rfl (lv_at hl 4 rfl) ?_
        obtain ⟨hi, hw⟩ := hw
        refine x_iast (ws2 := wM h cI cJ (xu S 5 (((4 : Int32) * v1) + v2).toNatClampNeg v3) L) hx hb hK hP (hD _ _) hS 5 0 wM_5 rfl hi dX7_had_56 (wM_u5 _ _) (fun H locs hP hS => ?_)
        refine lv_iload hx hb dX7_had_57 (lv_at hl 0 rfl) ?_
        exact hret _ _ _ _ _ _ hP hS hw dX7_had_59
      · replace hw := And.left hw hc
        refine lv_iconst (v := (-1 : Int32)) hx hb dX7_had_32 (by decide) ?_
        exact hret _ _ _ _ _ _ hP hS hw dX7_had_33
abbrev rX7_seen : Room := { frames := 0, cells := 0, slots := 0, locals := 0 }
set_option maxHeartbeats 4000000 in
set_option maxRecDepth 100000 in
theorem mX7_seen (l : Launch) (D : va_G) (h : Nat → Nat) (cI cJ : ClassId) (hh : xdis 22 h) (S : SX) (L : LX) (v1 : Int32) (v2 : Int32) (post : Int32 → Prop) (hw : kX7_seen S L v1 v2 post) : Met l yX7_seen wsX7_seen rX7_seen (xPre D (wM h cI cJ) (mE D cI cJ) S L [.ref (h 0), .int v1, .int v2]) (va_Qi (fun (r : Int32) (u : SX × LX) => post r ∧ u.1 = S ∧ u.2 = L) (xB D (wM h cI cJ)) (xA 22 h)) 0 0 (xA 22 h) := by
  refine Met.ofW (cc := cX7_seen) (maxL := 6) (ret := (some .int)) (by decide) rfl ?_
  intro p e s m args below meth c s₁ B hml hv
  obtain ⟨hargs, hP, hE⟩ := hv
  have hx := B.exec
  have hb := B.bytes
  have hr := B.returns
  have hlocks := B.notSynchronized
  have hts := atoms_spec (ws := wsX7_seen) B.pre
  have hown : s.vm.findClass RX7 = some m.cls := findClass_of_methodNamed B.named
  have hS : va_S (xA 22 h) s.heap s.heap [] := va_S.rf
  have hD : ∀ (S : SX) (L : LX), va_D (xA 22 h) (wM h cI cJ S L) := fun S L => wM_D hh cI cJ S L
  have hK := id hE
  have hst : xSt (xA 22 h) (mE D cI cJ) := mE_st D _ cI cJ
  have f0 := hts (.fieldLink RX7 27 "BookOfWillsModel" "own" "[I") (by decide +kernel)
  have inX7 : ∀ w ∈ u_ws RX7 TX7 28, w ∈ wsX7_seen := fun w hw9 => List.mem_cons_of_mem _ (List.mem_append_right _ hw9)
  have f2 := hts (.fieldLink RX7 39 "BookOfWillsModel" "marks" "[I") (by decide +kernel)
  have f3 := hts (.fieldLink RX7 24 "BookOfWillsModel" "sexOf" "[I") (by decide +kernel)
  have hl := lv_entry ([.ref (h 0), .int v1, .int v2]) (n := 6) (Nat.le_of_ble_eq_true rfl)
  have hen : entryFrame m args 6 = F0 m 0 ((lg_sl ([.ref (h 0), .int v1, .int v2]) ++ List.replicate (6 - (lg_sl ([.ref (h 0), .int v1, .int v2])).length) Slot.unset).toArray) [] := by rw [hargs]; exact lg_entry_eq m _ _
  rw [hen]
  generalize (lg_sl ([.ref (h 0), .int v1, .int v2]) ++ List.replicate (6 - (lg_sl ([.ref (h 0), .int v1, .int v2])).length) Slot.unset).toArray = ls at hl ⊢
  have hl : lv_has ls 6 [(0, .ref (h 0)), (1, .int v1), (2, .int v2)] := hl
  change W p l e rX7_seen s m args below meth c s.heap [] 0 0 (MQ below (va_Qi (fun (r : Int32) (u : SX × LX) => post r ∧ u.1 = S ∧ u.2 = L) (xB D (wM h cI cJ)) (xA 22 h)) args s 0 0 (xA 22 h)) (F0 m 0 ls [])
  have hret : ∀ (r : Int32) (H : Heap) (locs : List Loc) (ls : Array Slot) (pc : Nat), va_P D vwCl (wM h cI cJ S L) H → va_S (xA 22 h) s.heap H locs → post r → decode cX7_seen pc = .ok (.ireturn, 1) → W p l e rX7_seen s m args below meth c H locs 0 0 (MQ below (va_Qi (fun (r : Int32) (u : SX × LX) => post r ∧ u.1 = S ∧ u.2 = L) (xB D (wM h cI cJ)) (xA 22 h)) args s 0 0 (xA 22 h)) (F0 m pc ls [.int r]) := fun r H locs ls pc hP hS hw hd => W.iret hx hb hr (fun t ht hW => ⟨⟨r, (S, L), rfl, ⟨hw, rfl, rfl⟩, show va_P D vwCl (wM h cI cJ S L) t.heap by rw [ht]; exact hP⟩, hS.F ht⟩) hS.2.2 hd
  generalize MQ below (va_Qi (fun (r : Int32) (u : SX × LX) => post r ∧ u.1 = S ∧ u.2 = L) (xB D (wM h cI cJ)) (xA 22 h)) args s 0 0 (xA 22 h) = Q at hret ⊢
  have b39 : ∀ (v3 : Int32) (n39 : Nat) (v4 : Int32) (v5 : Int32) (H : Heap) (locs : List Loc) (ls : Array Slot), lv_has ls 6 [(0, .ref (h 0)), (1, .int v1), (3, .int v3), (4, .int v4), (5, .int v5)] → va_P D vwCl (wM h cI cJ S L) H → va_S (xA 22 h) s.heap H locs → kX7_seen_b39 S L v1 v2 v3 post n39 v4 v5 → W p l e rX7_seen s m args below meth c H locs 0 0 Q (F0 m 39 ls []) := by
    intro v3 n39
    induction n39 with
    | zero => intro v4 v5 H locs ls hl hP hS hw; exact absurd hw id
    | succ n39 i39 =>
      intro v4 v5 H locs ls hl hP hS hw
      unfold kX7_seen_b39 at hw
      refine lv_iload hx hb dX7_seen_39 (lv_at hl 4 rfl) ?_
      refine lv_iconst (v := (3 : Int32)) hx hb dX7_seen_41 (by decide) ?_
      refine lv_icmp_ge (tgt := 83) hx hb dX7_seen_42 (by decide) (fun hc => ?_) (fun hc => ?_)
      · replace hw := And.left hw hc
        refine lv_iload hx hb dX7_seen_83 (lv_at hl 3 rfl) ?_
        exact hret _ _ _ _ _ hP hS hw dX7_seen_85
      · replace hw := And.right hw hc
        refine lv_iload hx hb dX7_seen_45 (lv_at hl 3 rfl) ?_
        refine lv_iload_n hx hb dX7_seen_47 rfl (lv_at hl 2 rfl) ?_
        refine lv_iload hx hb dX7_seen_48 (lv_at hl 4 rfl) ?_
        refine lv_ishr hx hb dX7_seen_50 ?_
        refine lv_iconst (v := (1 : Int32)) hx hb dX7_seen_51 (by decide) ?_
        refine lv_iand hx hb dX7_seen_52 ?_
        refine lv_iconst (v := (1 : Int32)) hx hb dX7_seen_53 (by decide) ?_
        refine lv_icmp_ne (tgt := 73) hx hb dX7_seen_54 (by decide) (fun hc => ?_) (fun hc => ?_)
        · replace hw := And.right hw hc
          refine lv_iconst (v := (0 : Int32)) hx hb dX7_seen_73 (by decide) ?_
          refine lv_iadd hx hb dX7_seen_74 ?_
          refine lv_istore (lv' := [(4, .int (v4 + (0 : Int32))), (0, .ref (h 0)), (1, .int v1), (3, .int v3), (5, .int v5)]) hx hb dX7_seen_75 hl (by decide) rfl (fun ls hl => ?_)
          refine lv_iinc (v := v5 + (1 : Int32)) (lv' := [(5, .int (v5 + (1 : Int32))), (4, .int (v4 + (0 : Int32))), (0, .ref (h 0)), (1, .int v1), (3, .int v3)]) hx hb dX7_seen_77 hl (k := 4) rfl rfl (by decide) rfl (fun ls hl => ?_)
          refine lv_goto (tgt := 39) hx hb dX7_seen_80 (by decide) ?_
          exact i39 (v4 + (0 : Int32)) (v5 + (1 : Int32)) _ _ _ (lv_sub hl [2, 3, 4, 1, 0] rfl) hP hS hw
        · replace hw := And.left hw hc
          refine lv_aload_n hx hb dX7_seen_57 rfl (lv_at hl 0 rfl) ?_
          refine va_get (D := D) (ci := 7) (v := .ref (h 5)) (C := RX7) (T := TX7) (N := 28) hx hb hts inX7 hown hK hP 0 wM_0 rfl 7 (by decide) f0 (fun _ h9 => h9) rfl dX7_seen_58 ?_
          refine lv_iconst (v := (4 : Int32)) hx hb dX7_seen_61 (by decide) ?_
          refine lv_iload_n hx hb dX7_seen_62 rfl (lv_at hl 1 rfl) ?_
          refine lv_imul hx hb dX7_seen_63 ?_
          refine lv_iconst (v := (1 : Int32)) hx hb dX7_seen_64 (by decide) ?_
          refine lv_iadd hx hb dX7_seen_65 ?_
          refine lv_iload hx hb dX7_seen_66 (lv_at hl 4 rfl) ?_
          refine lv_iadd hx hb dX7_seen_68 ?_
          obtain ⟨hi, hw⟩ := hw
          refine va_iald hx hb hK hP 5 0 wM_5 rfl hi dX7_seen_69 ?_
          refine lv_goto (tgt := 74) hx hb dX7_seen_70 (by decide) ?_
          refine lv_iadd hx hb dX7_seen_74 ?_
          refine lv_istore (lv' := [(4, .int (v4 + (S 5 ((((4 : Int32) * v1) + (1 : Int32)) + v5).toNatClampNeg))), (0, .ref (h 0)), (1, .int v1), (3, .int v3), (5, .int v5)]) hx hb dX7_seen_75 hl (by decide) rfl (fun ls hl => ?_)
          refine lv_iinc (v := v5 + (1 : Int32)) (lv' := [(5, .int (v5 + (1 : Int32))), (4, .int (v4 + (S 5 ((((4 : Int32) * v1) + (1 : Int32)) + v5).toNatClampNeg))), (0, .ref (h 0)), (1, .int v1), (3, .int v3)]) hx hb dX7_seen_77 hl (k := 4) rfl rfl (by decide) rfl (fun ls hl => ?_)
          refine lv_goto (tgt := 39) hx hb dX7_seen_80 (by decide) ?_
          exact i39 (v4 + (S 5 ((((4 : Int32) * v1) + (1 : Int32)) + v5).toNatClampNeg)) (v5 + (1 : Int32)) _ _ _ (lv_sub hl [2, 3, 4, 1, 0] rfl) hP hS hw
  unfold kX7_seen at hw
  refine lv_aload_n hx hb dX7_seen_0 rfl (lv_at hl 0 rfl) ?_
  refine va_get (D := D) (ci := 7) (v := .ref (h 9)) (C := RX7) (T := TX7) (N := 28) hx hb hts inX7 hown hK hP 0 wM_0 rfl 11 (by decide) f2 (fun _ h9 => h9) rfl dX7_seen_1 ?_
  refine lv_iload_n hx hb dX7_seen_4 rfl (lv_at hl 2 rfl) ?_
  obtain ⟨hi, hw⟩ := hw
  refine va_iald hx hb hK hP 9 0 wM_9 rfl hi dX7_seen_5 ?_
  refine lv_istore_n (lv' := [(3, .int (S 9 v2.toNatClampNeg)), (0, .ref (h 0)), (1, .int v1), (2, .int v2)]) hx hb dX7_seen_6 rfl hl (by decide) rfl (fun ls hl => ?_)
  refine lv_aload_n hx hb dX7_seen_7 rfl (lv_at hl 1 rfl) ?_
  refine va_get (D := D) (ci := 7) (v := .ref (h 4)) (C := RX7) (T := TX7) (N := 28) hx hb hts inX7 hown hK hP 0 wM_0 rfl 6 (by decide) f3 (fun _ h9 => h9) rfl dX7_seen_8 ?_
  refine lv_iload_n hx hb dX7_seen_11 rfl (lv_at hl 2 rfl) ?_
  obtain ⟨hi, hw⟩ := hw
  refine va_iald hx hb hK hP 4 0 wM_4 rfl hi dX7_seen_12 ?_
  refine lv_iconst (v := (1 : Int32)) hx hb dX7_seen_13 (by decide) ?_
  refine lv_icmp_ne (tgt := 26) hx hb dX7_seen_14 (by decide) (fun hc => ?_) (fun hc => ?_)
  · replace hw := And.right hw hc
    refine lv_aload_n hx hb dX7_seen_26 rfl (lv_at hl 1 rfl) ?_
    refine va_get (D := D) (ci := 7) (v := .ref (h 5)) (C := RX7) (T := TX7) (N := 28) hx hb hts inX7 hown hK hP 0 wM_0 rfl 7 (by decide) f0 (fun _ h9 => h9) rfl dX7_seen_27 ?_
    refine lv_iconst (v := (4 : Int32)) hx hb dX7_seen_30 (by decide) ?_
    refine lv_iload_n hx hb dX7_seen_31 rfl (lv_at hl 2 rfl) ?_
    refine lv_imul hx hb dX7_seen_32 ?_
    obtain ⟨hi, hw⟩ := hw
    refine va_iald hx hb hK hP 5 0 wM_5 rfl hi dX7_seen_33 ?_
    refine lv_istore (lv' := [(4, .int (S 5 ((4 : Int32) * v1).toNatClampNeg)), (3, .int (S 9 v2.toNatClampNeg)), (0, .ref (h 0)), (1, .int v1), (2, .int v2)]) hx hb dX7_seen_34 hl (by decide) rfl (fun ls hl => ?_)
    refine lv_iconst (v := (0 : Int32)) hx hb dX7_seen_36 (by decide) ?_
    refine lv_istore (lv' := [(5, .int (0 : Int32)), (4, .int (S 5 ((4 : Int32) * v1).toNatClampNeg)), (3, .int (S 9 v2.toNatClampNeg)), (0, .ref (h 0)), (1, .int v1), (2, .int v2)]) hx hb dX7_seen_37 hl (by decide) rfl (fun ls hl => ?_)
    obtain ⟨n39, hw⟩ := hw
    exact b39 (S 9 v2.toNatClampNeg) n39 (S 5 ((4 : Int32) * v1).toNatClampNeg) (0 : Int32) _ _ _ (lv_sub hl [3, 4, 2, 1, 0] rfl) hP hS hw
  · replace hw := And.left hw hc
    refine lv_iload_n hx hb dX7_seen_17 rfl (lv_at hl 0 rfl) ?_
    refine lv_bipush (v := (8 : Int32)) hx hb dX7_seen_18 (by decide) ?_
    refine lv_iand hx hb dX7_seen_20 ?_
    refine lv_if_ne (tgt := 26) hx hb dX7_seen_21 (by decide) (fun hc => ?_) (fun hc => ?_)
    · replace hw := And.right hw hc
      refine lv_aload_n hx hb dX7_seen_26 rfl (lv_at hl 1 rfl) ?_
      refine va_get (D := D) (ci := 7) (v := .ref (h 5)) (C := RX7) (T := TX7) (N := 28) hx hb hts inX7 hown hK hP 0 wM_0 rfl 7 (by decide) f0 (fun _ h9 => h9) rfl dX7_seen_27 ?_
      refine lv_iconst (v := (4 : Int32)) hx hb dX7_seen_30 (by decide) ?_
      refine lv_iload_n hx hb dX7_seen_31 rfl (lv_at hl 2 rfl) ?_
      refine lv_imul hx hb dX7_seen_32 ?_
      obtain ⟨hi, hw⟩ := hw
      refine va_iald hx hb hK hP 5 0 wM_5 rfl hi dX7_seen_33 ?_
      refine lv_istore (lv' := [(4, .int (S 5 ((4 : Int32) * v1).toNatClampNeg)), (3, .int (S 9 v2.toNatClampNeg)), (0, .ref (h 0)), (1, .int v1), (2, .int v2)]) hx hb dX7_seen_34 hl (by decide) rfl (fun ls hl => ?_)
      refine lv_iconst (v := (0 : Int32)) hx hb dX7_seen_36 (by decide) ?_
      refine lv_istore (lv' := [(5, .int (0 : Int32)), (4, .int (S 5 ((4 : Int32) * v1).toNatClampNeg)), (3, .int (S 9 v2.toNatClampNeg)), (0, .ref (h 0)), (1, .int v1), (2, .int v2)]) hx hb dX7_seen_37 hl (by decide) rfl (fun ls hl => ?_)
      obtain ⟨n39, hw⟩ := hw
      exact b39 (S 9 v2.toNatClampNeg) n39 (S 5 ((4 : Int32) * v1).toNatClampNeg) (0 : Int32) _ _ _ (lv_sub hl [3, 4, 2, 1, 0] rfl) hP hS hw
    · replace hw := And.left hw hc
      refine lv_iconst (v := (0 : Int32)) hx hb dX7_seen_24 (by decide) ?_
      exact hret _ _ _ _ _ hP hS hw dX7_seen_25
abbrev rX7_sworn : Room := { frames := 1, cells := 0, slots := 0, locals := 25 }
set_option maxHeartbeats 4000000 in
set_option maxRecDepth 100000 in
theorem mX7_sworn (l : Launch) (D : va_G) (h : Nat → Nat) (cI cJ : ClassId) (hh : xdis 22 h) (S : SX) (L : LX) (v1 : Int32) (v2 : Int32) (post : Int32 → Prop) (hw : kX7_sworn S L v1 v2 post) : Met l yX7_sworn wsX7_sworn rX7_sworn (xPre D (wM h cI cJ) (mE D cI cJ) S L [.ref (h 0), .int v1, .int v2]) (va_Qi (fun (r : Int32) (u : SX × LX) => post r ∧ u.1 = S ∧ u.2 = L) (xB D (wM h cI cJ)) (xA 22 h)) 0 0 (xA 22 h) := by
  refine Met.ofW (cc := cX7_sworn) (maxL := 5) (ret := (some .int)) (by decide) rfl ?_
  intro p e s m args below meth c s₁ B hml hv
  obtain ⟨hargs, hP, hE⟩ := hv
  have hx := B.exec
  have hb := B.bytes
  have hr := B.returns
  have hlocks := B.notSynchronized
  have hts := atoms_spec (ws := wsX7_sworn) B.pre
  have hown : s.vm.findClass RX7 = some m.cls := findClass_of_methodNamed B.named
  have hS : va_S (xA 22 h) s.heap s.heap [] := va_S.rf
  have hD : ∀ (S : SX) (L : LX), va_D (xA 22 h) (wM h cI cJ S L) := fun S L => wM_D hh cI cJ S L
  have hK := id hE
  have hst : xSt (xA 22 h) (mE D cI cJ) := mE_st D _ cI cJ
  have f0 := hts (.fieldLink RX7 33 "BookOfWillsModel" "lines" "[I") (by decide +kernel)
  have inX7 : ∀ w ∈ u_ws RX7 TX7 28, w ∈ wsX7_sworn := fun w hw9 => List.mem_cons_of_mem _ (List.mem_append_right _ hw9)
  have f2 := hts (.fieldLink RX7 36 "BookOfWillsModel" "keens" "[I") (by decide +kernel)
  have hl := lv_entry ([.ref (h 0), .int v1, .int v2]) (n := 5) (Nat.le_of_ble_eq_true rfl)
  have hen : entryFrame m args 5 = F0 m 0 ((lg_sl ([.ref (h 0), .int v1, .int v2]) ++ List.replicate (5 - (lg_sl ([.ref (h 0), .int v1, .int v2])).length) Slot.unset).toArray) [] := by rw [hargs]; exact lg_entry_eq m _ _
  rw [hen]
  generalize (lg_sl ([.ref (h 0), .int v1, .int v2]) ++ List.replicate (5 - (lg_sl ([.ref (h 0), .int v1, .int v2])).length) Slot.unset).toArray = ls at hl ⊢
  have hl : lv_has ls 5 [(0, .ref (h 0)), (1, .int v1), (2, .int v2)] := hl
  change W p l e rX7_sworn s m args below meth c s.heap [] 0 0 (MQ below (va_Qi (fun (r : Int32) (u : SX × LX) => post r ∧ u.1 = S ∧ u.2 = L) (xB D (wM h cI cJ)) (xA 22 h)) args s 0 0 (xA 22 h)) (F0 m 0 ls [])
  have hret : ∀ (r : Int32) (H : Heap) (locs : List Loc) (ls : Array Slot) (pc : Nat), va_P D vwCl (wM h cI cJ S L) H → va_S (xA 22 h) s.heap H locs → post r → decode cX7_sworn pc = .ok (.ireturn, 1) → W p l e rX7_sworn s m args below meth c H locs 0 0 (MQ below (va_Qi (fun (r : Int32) (u : SX × LX) => post r ∧ u.1 = S ∧ u.2 = L) (xB D (wM h cI cJ)) (xA 22 h)) args s 0 0 (xA 22 h)) (F0 m pc ls [.int r]) := fun r H locs ls pc hP hS hw hd => W.iret hx hb hr (fun t ht hW => ⟨⟨r, (S, L), rfl, ⟨hw, rfl, rfl⟩, show va_P D vwCl (wM h cI cJ S L) t.heap by rw [ht]; exact hP⟩, hS.F ht⟩) hS.2.2 hd
  generalize MQ below (va_Qi (fun (r : Int32) (u : SX × LX) => post r ∧ u.1 = S ∧ u.2 = L) (xB D (wM h cI cJ)) (xA 22 h)) args s 0 0 (xA 22 h) = Q at hret ⊢
  unfold kX7_sworn at hw
  refine lv_aload_n hx hb dX7_sworn_0 rfl (lv_at hl 0 rfl) ?_
  refine lv_iload_n hx hb dX7_sworn_1 rfl (lv_at hl 1 rfl) ?_
  refine lv_iload_n hx hb dX7_sworn_2 rfl (lv_at hl 2 rfl) ?_
  refine xVi0 (As := [.int v1, .int v2]) (rest := []) hst hE hP hS ⟨hx, hb, hml, hown, hts⟩ (va_recv hK hP (ci := 7) (q := (RX7, TX7, 28)) rfl wM_0) (mX7_seen l D h cI cJ hh S L v1 v2 _ hw) (cwV 2 hts gX7_sworn_X7_seen rfl rfl rfl (by decide +kernel) ⟨Nat.le_of_ble_eq_true rfl, Nat.le_of_ble_eq_true rfl⟩) rfl hl.1 rfl (Nat.le_of_ble_eq_true rfl) dX7_sworn_3 ⟨Nat.zero_le _, Nat.zero_le _⟩ (fun r3 H locs hw hP hS => ?_)
  refine lv_istore_n (lv' := [(3, .int r3), (0, .ref (h 0)), (1, .int v1), (2, .int v2)]) hx hb dX7_sworn_6 rfl hl (by decide) rfl (fun ls hl => ?_)
  refine lv_aload_n hx hb dX7_sworn_7 rfl (lv_at hl 1 rfl) ?_
  refine va_get (D := D) (ci := 7) (v := .ref (h 7)) (C := RX7) (T := TX7) (N := 28) hx hb hts inX7 hown hK hP 0 wM_0 rfl 9 (by decide) f0 (fun _ h9 => h9) rfl dX7_sworn_8 ?_
  refine lv_iload_n hx hb dX7_sworn_11 rfl (lv_at hl 3 rfl) ?_
  obtain ⟨hi, hw⟩ := hw
  refine va_iald hx hb hK hP 7 0 wM_7 rfl hi dX7_sworn_12 ?_
  refine lv_istore (lv' := [(4, .int (S 7 v2.toNatClampNeg)), (3, .int r3), (0, .ref (h 0)), (1, .int v1), (2, .int v2)]) hx hb dX7_sworn_13 hl (by decide) rfl (fun ls hl => ?_)
  refine lv_iload hx hb dX7_sworn_15 (lv_at hl 0 rfl) ?_
  refine lv_if_le (tgt := 44) hx hb dX7_sworn_17 (by decide) (fun hc => ?_) (fun hc => ?_)
  · replace hw := And.left hw hc
    refine lv_iload_n hx hb dX7_sworn_44 rfl (lv_at hl 1 rfl) ?_
    exact hret _ _ _ _ _ hP hS hw dX7_sworn_45
  · replace hw := And.right hw hc
    refine lv_iload_n hx hb dX7_sworn_20 rfl (lv_at hl 1 rfl) ?_
    refine lv_iload hx hb dX7_sworn_21 (lv_at hl 0 rfl) ?_
    refine lv_icmp_le (tgt := 44) hx hb dX7_sworn_23 (by decide) (fun hc => ?_) (fun hc => ?_)
    · replace hw := And.left hw hc
      refine lv_iload_n hx hb dX7_sworn_44 rfl (lv_at hl 1 rfl) ?_
      exact hret _ _ _ _ _ hP hS hw dX7_sworn_45
    · replace hw := And.right hw hc
      refine lv_iload_n hx hb dX7_sworn_26 rfl (lv_at hl 1 rfl) ?_
      refine lv_iload hx hb dX7_sworn_27 (lv_at hl 0 rfl) ?_
      refine lv_isub hx hb dX7_sworn_29 ?_
      refine lv_aload_n hx hb dX7_sworn_30 rfl (lv_at hl 2 rfl) ?_
      refine va_get (D := D) (ci := 7) (v := .ref (h 8)) (C := RX7) (T := TX7) (N := 28) hx hb hts inX7 hown hK hP 0 wM_0 rfl 10 (by decide) f2 (fun _ h9 => h9) rfl dX7_sworn_31 ?_
      refine lv_iload_n hx hb dX7_sworn_34 rfl (lv_at hl 4 rfl) ?_
      obtain ⟨hi, hw⟩ := hw
      refine va_iald hx hb hK hP 8 0 wM_8 rfl hi dX7_sworn_35 ?_
      refine lv_icmp_gt (tgt := 44) hx hb dX7_sworn_36 (by decide) (fun hc => ?_) (fun hc => ?_)
      · replace hw := And.left hw hc
        refine lv_iload_n hx hb dX7_sworn_44 rfl (lv_at hl 1 rfl) ?_
        exact hret _ _ _ _ _ hP hS hw dX7_sworn_45
      · replace hw := And.right hw hc
        refine lv_iload hx hb dX7_sworn_39 (lv_at hl 0 rfl) ?_
        refine lv_goto (tgt := 45) hx hb dX7_sworn_41 (by decide) ?_
        exact hret _ _ _ _ _ hP hS hw dX7_sworn_45
abbrev rX7_isBooked : Room := { frames := 2, cells := 0, slots := 0, locals := 49 }
set_option maxHeartbeats 4000000 in
set_option maxRecDepth 100000 in
theorem mX7_isBooked (l : Launch) (D : va_G) (h : Nat → Nat) (cI cJ : ClassId) (hh : xdis 22 h) (S : SX) (L : LX) (v1 : Int32) (v2 : Int32) (post : Int32 → Prop) (hw : kX7_isBooked S L v1 v2 post) : Met l yX7_isBooked wsX7_isBooked rX7_isBooked (xPre D (wM h cI cJ) (mE D cI cJ) S L [.ref (h 0), .int v1, .int v2]) (va_Qi (fun (r : Int32) (u : SX × LX) => post r ∧ u.1 = S ∧ u.2 = L) (xB D (wM h cI cJ)) (xA 22 h)) 0 0 (xA 22 h) := by
  refine Met.ofW (cc := cX7_isBooked) (maxL := 4) (ret := (some .boolean)) (by decide) rfl ?_
  intro p e s m args below meth c s₁ B hml hv
  obtain ⟨hargs, hP, hE⟩ := hv
  have hx := B.exec
  have hb := B.bytes
  have hr := B.returns
  have hlocks := B.notSynchronized
  have hts := atoms_spec (ws := wsX7_isBooked) B.pre
  have hown : s.vm.findClass RX7 = some m.cls := findClass_of_methodNamed B.named
  have hS : va_S (xA 22 h) s.heap s.heap [] := va_S.rf
  have hD : ∀ (S : SX) (L : LX), va_D (xA 22 h) (wM h cI cJ S L) := fun S L => wM_D hh cI cJ S L
  have hK := id hE
  have hst : xSt (xA 22 h) (mE D cI cJ) := mE_st D _ cI cJ
  have f0 := hts (.fieldLink RX7 30 "BookOfWillsModel" "floors" "[I") (by decide +kernel)
  have inX7 : ∀ w ∈ u_ws RX7 TX7 28, w ∈ wsX7_isBooked := fun w hw9 => List.mem_cons_of_mem _ (List.mem_append_right _ hw9)
  have hl := lv_entry ([.ref (h 0), .int v1, .int v2]) (n := 4) (Nat.le_of_ble_eq_true rfl)
  have hen : entryFrame m args 4 = F0 m 0 ((lg_sl ([.ref (h 0), .int v1, .int v2]) ++ List.replicate (4 - (lg_sl ([.ref (h 0), .int v1, .int v2])).length) Slot.unset).toArray) [] := by rw [hargs]; exact lg_entry_eq m _ _
  rw [hen]
  generalize (lg_sl ([.ref (h 0), .int v1, .int v2]) ++ List.replicate (4 - (lg_sl ([.ref (h 0), .int v1, .int v2])).length) Slot.unset).toArray = ls at hl ⊢
  have hl : lv_has ls 4 [(0, .ref (h 0)), (1, .int v1), (2, .int v2)] := hl
  change W p l e rX7_isBooked s m args below meth c s.heap [] 0 0 (MQ below (va_Qi (fun (r : Int32) (u : SX × LX) => post r ∧ u.1 = S ∧ u.2 = L) (xB D (wM h cI cJ)) (xA 22 h)) args s 0 0 (xA 22 h)) (F0 m 0 ls [])
  have hret : ∀ (r : Int32) (H : Heap) (locs : List Loc) (ls : Array Slot) (pc : Nat), va_P D vwCl (wM h cI cJ S L) H → va_S (xA 22 h) s.heap H locs → post r → narrow .boolean (.int r) = .int r → decode cX7_isBooked pc = .ok (.ireturn, 1) → W p l e rX7_isBooked s m args below meth c H locs 0 0 (MQ below (va_Qi (fun (r : Int32) (u : SX × LX) => post r ∧ u.1 = S ∧ u.2 = L) (xB D (wM h cI cJ)) (xA 22 h)) args s 0 0 (xA 22 h)) (F0 m pc ls [.int r]) := fun r H locs ls pc hP hS hw hna hd => W.zret hx hb hr hna (fun t ht hW => ⟨⟨r, (S, L), rfl, ⟨hw, rfl, rfl⟩, show va_P D vwCl (wM h cI cJ S L) t.heap by rw [ht]; exact hP⟩, hS.F ht⟩) hS.2.2 hd
  generalize MQ below (va_Qi (fun (r : Int32) (u : SX × LX) => post r ∧ u.1 = S ∧ u.2 = L) (xB D (wM h cI cJ)) (xA 22 h)) args s 0 0 (xA 22 h) = Q at hret ⊢
  unfold kX7_isBooked at hw
  refine lv_aload_n hx hb dX7_isBooked_0 rfl (lv_at hl 0 rfl) ?_
  refine lv_iload_n hx hb dX7_isBooked_1 rfl (lv_at hl 1 rfl) ?_
  refine lv_iload_n hx hb dX7_isBooked_2 rfl (lv_at hl 2 rfl) ?_
  refine xVi0 (As := [.int v1, .int v2]) (rest := []) hst hE hP hS ⟨hx, hb, hml, hown, hts⟩ (va_recv hK hP (ci := 7) (q := (RX7, TX7, 28)) rfl wM_0) (mX7_sworn l D h cI cJ hh S L v1 v2 _ hw) (cwV 2 hts gX7_isBooked_X7_sworn rfl rfl rfl (by decide +kernel) ⟨Nat.le_of_ble_eq_true rfl, Nat.le_of_ble_eq_true rfl⟩) rfl hl.1 rfl (Nat.le_of_ble_eq_true rfl) dX7_isBooked_3 ⟨Nat.zero_le _, Nat.zero_le _⟩ (fun r3 H locs hw hP hS => ?_)
  refine lv_istore_n (lv' := [(3, .int r3), (0, .ref (h 0)), (1, .int v1), (2, .int v2)]) hx hb dX7_isBooked_6 rfl hl (by decide) rfl (fun ls hl => ?_)
  refine lv_iload_n hx hb dX7_isBooked_7 rfl (lv_at hl 0 rfl) ?_
  refine lv_if_le (tgt := 25) hx hb dX7_isBooked_8 (by decide) (fun hc => ?_) (fun hc => ?_)
  · replace hw := And.left hw hc
    refine lv_iconst (v := (0 : Int32)) hx hb dX7_isBooked_25 (by decide) ?_
    exact hret _ _ _ _ _ hP hS hw rfl dX7_isBooked_26
  · replace hw := And.right hw hc
    refine lv_iload_n hx hb dX7_isBooked_11 rfl (lv_at hl 0 rfl) ?_
    refine lv_aload_n hx hb dX7_isBooked_12 rfl (lv_at hl 1 rfl) ?_
    refine va_get (D := D) (ci := 7) (v := .ref (h 6)) (C := RX7) (T := TX7) (N := 28) hx hb hts inX7 hown hK hP 0 wM_0 rfl 8 (by decide) f0 (fun _ h9 => h9) rfl dX7_isBooked_13 ?_
    refine lv_iload_n hx hb dX7_isBooked_16 rfl (lv_at hl 3 rfl) ?_
    obtain ⟨hi, hw⟩ := hw
    refine va_iald hx hb hK hP 6 0 wM_6 rfl hi dX7_isBooked_17 ?_
    refine lv_icmp_lt (tgt := 25) hx hb dX7_isBooked_18 (by decide) (fun hc => ?_) (fun hc => ?_)
    · replace hw := And.left hw hc
      refine lv_iconst (v := (0 : Int32)) hx hb dX7_isBooked_25 (by decide) ?_
      exact hret _ _ _ _ _ hP hS hw rfl dX7_isBooked_26
    · replace hw := And.right hw hc
      refine lv_iconst (v := (1 : Int32)) hx hb dX7_isBooked_21 (by decide) ?_
      refine lv_goto (tgt := 26) hx hb dX7_isBooked_22 (by decide) ?_
      exact hret _ _ _ _ _ hP hS hw rfl dX7_isBooked_26
abbrev rX7_weight : Room := { frames := 2, cells := 0, slots := 0, locals := 49 }
set_option maxHeartbeats 4000000 in
set_option maxRecDepth 100000 in
theorem mX7_weight (l : Launch) (D : va_G) (h : Nat → Nat) (cI cJ : ClassId) (hh : xdis 22 h) (S : SX) (L : LX) (v1 : Int32) (v2 : Int32) (post : Int32 → Prop) (hw : kX7_weight S L v1 v2 post) : Met l yX7_weight wsX7_weight rX7_weight (xPre D (wM h cI cJ) (mE D cI cJ) S L [.ref (h 0), .int v1, .int v2]) (va_Qi (fun (r : Int32) (u : SX × LX) => post r ∧ u.1 = S ∧ u.2 = L) (xB D (wM h cI cJ)) (xA 22 h)) 0 0 (xA 22 h) := by
  refine Met.ofW (cc := cX7_weight) (maxL := 3) (ret := (some .int)) (by decide) rfl ?_
  intro p e s m args below meth c s₁ B hml hv
  obtain ⟨hargs, hP, hE⟩ := hv
  have hx := B.exec
  have hb := B.bytes
  have hr := B.returns
  have hlocks := B.notSynchronized
  have hts := atoms_spec (ws := wsX7_weight) B.pre
  have hown : s.vm.findClass RX7 = some m.cls := findClass_of_methodNamed B.named
  have hS : va_S (xA 22 h) s.heap s.heap [] := va_S.rf
  have hD : ∀ (S : SX) (L : LX), va_D (xA 22 h) (wM h cI cJ S L) := fun S L => wM_D hh cI cJ S L
  have hK := id hE
  have hst : xSt (xA 22 h) (mE D cI cJ) := mE_st D _ cI cJ
  have f0 := hts (.fieldLink RX7 14 "BookOfWillsModel" "riches" "I") (by decide +kernel)
  have inX7 : ∀ w ∈ u_ws RX7 TX7 28, w ∈ wsX7_weight := fun w hw9 => List.mem_cons_of_mem _ (List.mem_append_right _ hw9)
  have f2 := hts (.fieldLink RX7 7 "BookOfWillsModel" "lives" "[I") (by decide +kernel)
  have f3 := hts (.fieldLink RX7 21 "BookOfWillsModel" "ageOf" "[I") (by decide +kernel)
  have f4 := hts (.fieldLink RX7 98 "BookOfWillsModel" "more" "I") (by decide +kernel)
  have hl := lv_entry ([.ref (h 0), .int v1, .int v2]) (n := 3) (Nat.le_of_ble_eq_true rfl)
  have hen : entryFrame m args 3 = F0 m 0 ((lg_sl ([.ref (h 0), .int v1, .int v2]) ++ List.replicate (3 - (lg_sl ([.ref (h 0), .int v1, .int v2])).length) Slot.unset).toArray) [] := by rw [hargs]; exact lg_entry_eq m _ _
  rw [hen]
  generalize (lg_sl ([.ref (h 0), .int v1, .int v2]) ++ List.replicate (3 - (lg_sl ([.ref (h 0), .int v1, .int v2])).length) Slot.unset).toArray = ls at hl ⊢
  have hl : lv_has ls 3 [(0, .ref (h 0)), (1, .int v1), (2, .int v2)] := hl
  change W p l e rX7_weight s m args below meth c s.heap [] 0 0 (MQ below (va_Qi (fun (r : Int32) (u : SX × LX) => post r ∧ u.1 = S ∧ u.2 = L) (xB D (wM h cI cJ)) (xA 22 h)) args s 0 0 (xA 22 h)) (F0 m 0 ls [])
  have hret : ∀ (r : Int32) (H : Heap) (locs : List Loc) (ls : Array Slot) (pc : Nat), va_P D vwCl (wM h cI cJ S L) H → va_S (xA 22 h) s.heap H locs → post r → decode cX7_weight pc = .ok (.ireturn, 1) → W p l e rX7_weight s m args below meth c H locs 0 0 (MQ below (va_Qi (fun (r : Int32) (u : SX × LX) => post r ∧ u.1 = S ∧ u.2 = L) (xB D (wM h cI cJ)) (xA 22 h)) args s 0 0 (xA 22 h)) (F0 m pc ls [.int r]) := fun r H locs ls pc hP hS hw hd => W.iret hx hb hr (fun t ht hW => ⟨⟨r, (S, L), rfl, ⟨hw, rfl, rfl⟩, show va_P D vwCl (wM h cI cJ S L) t.heap by rw [ht]; exact hP⟩, hS.F ht⟩) hS.2.2 hd
  generalize MQ below (va_Qi (fun (r : Int32) (u : SX × LX) => post r ∧ u.1 = S ∧ u.2 = L) (xB D (wM h cI cJ)) (xA 22 h)) args s 0 0 (xA 22 h) = Q at hret ⊢
  unfold kX7_weight at hw
  refine lv_aload_n hx hb dX7_weight_0 rfl (lv_at hl 0 rfl) ?_
  refine lv_iload_n hx hb dX7_weight_1 rfl (lv_at hl 1 rfl) ?_
  refine lv_iload_n hx hb dX7_weight_2 rfl (lv_at hl 2 rfl) ?_
  refine xVi0 (As := [.int v1, .int v2]) (rest := []) hst hE hP hS ⟨hx, hb, hml, hown, hts⟩ (va_recv hK hP (ci := 7) (q := (RX7, TX7, 28)) rfl wM_0) (mX7_sworn l D h cI cJ hh S L v1 v2 _ hw) (cwV 2 hts gX7_weight_X7_sworn rfl rfl rfl (by decide +kernel) ⟨Nat.le_of_ble_eq_true rfl, Nat.le_of_ble_eq_true rfl⟩) rfl hl.1 rfl (Nat.le_of_ble_eq_true rfl) dX7_weight_3 ⟨Nat.zero_le _, Nat.zero_le _⟩ (fun r3 H locs hw hP hS => ?_)
  refine lv_aload_n hx hb dX7_weight_6 rfl (lv_at hl 0 rfl) ?_
  refine va_get (D := D) (ci := 7) (v := .int (S 0 0)) (C := RX7) (T := TX7) (N := 28) hx hb hts inX7 hown hK hP 0 wM_0 rfl 1 (by decide) f0 (fun _ h9 => h9) rfl dX7_weight_7 ?_
  refine lv_icmp_lt (tgt := 23) hx hb dX7_weight_10 (by decide) (fun hc => ?_) (fun hc => ?_)
  · replace hw := And.left hw hc
    refine lv_bipush (v := (100 : Int32)) hx hb dX7_weight_23 (by decide) ?_
    refine lv_aload_n hx hb dX7_weight_25 rfl (lv_at hl 0 rfl) ?_
    refine va_get (D := D) (ci := 7) (v := .ref (h 1)) (C := RX7) (T := TX7) (N := 28) hx hb hts inX7 hown hK hP 0 wM_0 rfl 0 (by decide) f2 (fun _ h9 => h9) rfl dX7_weight_26 ?_
    refine lv_aload_n hx hb dX7_weight_29 rfl (lv_at hl 0 rfl) ?_
    refine va_get (D := D) (ci := 7) (v := .ref (h 3)) (C := RX7) (T := TX7) (N := 28) hx hb hts inX7 hown hK hP 0 wM_0 rfl 5 (by decide) f3 (fun _ h9 => h9) rfl dX7_weight_30 ?_
    refine lv_iload_n hx hb dX7_weight_33 rfl (lv_at hl 1 rfl) ?_
    obtain ⟨hi, hw⟩ := hw
    refine va_iald hx hb hK hP 3 0 wM_3 rfl hi dX7_weight_34 ?_
    obtain ⟨hi, hw⟩ := hw
    refine va_iald hx hb hK hP 1 0 wM_1 rfl hi dX7_weight_35 ?_
    refine lv_imul hx hb dX7_weight_36 ?_
    exact hret _ _ _ _ _ hP hS hw dX7_weight_37
  · replace hw := And.right hw hc
    refine lv_bipush (v := (100 : Int32)) hx hb dX7_weight_13 (by decide) ?_
    refine lv_aload_n hx hb dX7_weight_15 rfl (lv_at hl 0 rfl) ?_
    refine va_get (D := D) (ci := 7) (v := .int (S 0 1)) (C := RX7) (T := TX7) (N := 28) hx hb hts inX7 hown hK hP 0 wM_0 rfl 2 (by decide) f4 (fun _ h9 => h9) rfl dX7_weight_16 ?_
    refine lv_iadd hx hb dX7_weight_19 ?_
    refine lv_goto (tgt := 25) hx hb dX7_weight_20 (by decide) ?_
    refine lv_aload_n hx hb dX7_weight_25 rfl (lv_at hl 0 rfl) ?_
    refine va_get (D := D) (ci := 7) (v := .ref (h 1)) (C := RX7) (T := TX7) (N := 28) hx hb hts inX7 hown hK hP 0 wM_0 rfl 0 (by decide) f2 (fun _ h9 => h9) rfl dX7_weight_26 ?_
    refine lv_aload_n hx hb dX7_weight_29 rfl (lv_at hl 0 rfl) ?_
    refine va_get (D := D) (ci := 7) (v := .ref (h 3)) (C := RX7) (T := TX7) (N := 28) hx hb hts inX7 hown hK hP 0 wM_0 rfl 5 (by decide) f3 (fun _ h9 => h9) rfl dX7_weight_30 ?_
    refine lv_iload_n hx hb dX7_weight_33 rfl (lv_at hl 1 rfl) ?_
    obtain ⟨hi, hw⟩ := hw
    refine va_iald hx hb hK hP 3 0 wM_3 rfl hi dX7_weight_34 ?_
    obtain ⟨hi, hw⟩ := hw
    refine va_iald hx hb hK hP 1 0 wM_1 rfl hi dX7_weight_35 ?_
    refine lv_imul hx hb dX7_weight_36 ?_
    exact hret _ _ _ _ _ hP hS hw dX7_weight_37
abbrev rX7_kind : Room := { frames := 3, cells := 0, slots := 0, locals := 72 }
set_option maxHeartbeats 4000000 in
set_option maxRecDepth 100000 in
theorem mX7_kind (l : Launch) (D : va_G) (h : Nat → Nat) (cI cJ : ClassId) (hh : xdis 22 h) (S : SX) (L : LX) (v1 : Int32) (post : Int32 → Prop) (hw : kX7_kind S L v1 post) : Met l yX7_kind wsX7_kind rX7_kind (xPre D (wM h cI cJ) (mE D cI cJ) S L [.ref (h 0), .int v1]) (va_Qi (fun (r : Int32) (u : SX × LX) => post r ∧ u.1 = S ∧ u.2 = L) (xB D (wM h cI cJ)) (xA 22 h)) 0 0 (xA 22 h) := by
  refine Met.ofW (cc := cX7_kind) (maxL := 4) (ret := (some .int)) (by decide) rfl ?_
  intro p e s m args below meth c s₁ B hml hv
  obtain ⟨hargs, hP, hE⟩ := hv
  have hx := B.exec
  have hb := B.bytes
  have hr := B.returns
  have hlocks := B.notSynchronized
  have hts := atoms_spec (ws := wsX7_kind) B.pre
  have hown : s.vm.findClass RX7 = some m.cls := findClass_of_methodNamed B.named
  have hS : va_S (xA 22 h) s.heap s.heap [] := va_S.rf
  have hD : ∀ (S : SX) (L : LX), va_D (xA 22 h) (wM h cI cJ S L) := fun S L => wM_D hh cI cJ S L
  have hK := id hE
  have hst : xSt (xA 22 h) (mE D cI cJ) := mE_st D _ cI cJ
  have f0 := hts (.fieldLink RX7 18 "BookOfWillsModel" "yearOf" "[I") (by decide +kernel)
  have inX7 : ∀ w ∈ u_ws RX7 TX7 28, w ∈ wsX7_kind := fun w hw9 => List.mem_cons_of_mem _ (List.mem_append_right _ hw9)
  have f2 := hts (.fieldLink RX7 14 "BookOfWillsModel" "riches" "I") (by decide +kernel)
  have hl := lv_entry ([.ref (h 0), .int v1]) (n := 4) (Nat.le_of_ble_eq_true rfl)
  have hen : entryFrame m args 4 = F0 m 0 ((lg_sl ([.ref (h 0), .int v1]) ++ List.replicate (4 - (lg_sl ([.ref (h 0), .int v1])).length) Slot.unset).toArray) [] := by rw [hargs]; exact lg_entry_eq m _ _
  rw [hen]
  generalize (lg_sl ([.ref (h 0), .int v1]) ++ List.replicate (4 - (lg_sl ([.ref (h 0), .int v1])).length) Slot.unset).toArray = ls at hl ⊢
  have hl : lv_has ls 4 [(0, .ref (h 0)), (1, .int v1)] := hl
  change W p l e rX7_kind s m args below meth c s.heap [] 0 0 (MQ below (va_Qi (fun (r : Int32) (u : SX × LX) => post r ∧ u.1 = S ∧ u.2 = L) (xB D (wM h cI cJ)) (xA 22 h)) args s 0 0 (xA 22 h)) (F0 m 0 ls [])
  have hret : ∀ (r : Int32) (H : Heap) (locs : List Loc) (ls : Array Slot) (pc : Nat), va_P D vwCl (wM h cI cJ S L) H → va_S (xA 22 h) s.heap H locs → post r → decode cX7_kind pc = .ok (.ireturn, 1) → W p l e rX7_kind s m args below meth c H locs 0 0 (MQ below (va_Qi (fun (r : Int32) (u : SX × LX) => post r ∧ u.1 = S ∧ u.2 = L) (xB D (wM h cI cJ)) (xA 22 h)) args s 0 0 (xA 22 h)) (F0 m pc ls [.int r]) := fun r H locs ls pc hP hS hw hd => W.iret hx hb hr (fun t ht hW => ⟨⟨r, (S, L), rfl, ⟨hw, rfl, rfl⟩, show va_P D vwCl (wM h cI cJ S L) t.heap by rw [ht]; exact hP⟩, hS.F ht⟩) hS.2.2 hd
  generalize MQ below (va_Qi (fun (r : Int32) (u : SX × LX) => post r ∧ u.1 = S ∧ u.2 = L) (xB D (wM h cI cJ)) (xA 22 h)) args s 0 0 (xA 22 h) = Q at hret ⊢
  unfold kX7_kind at hw
  refine lv_aload_n hx hb dX7_kind_0 rfl (lv_at hl 0 rfl) ?_
  refine va_get (D := D) (ci := 7) (v := .ref (h 2)) (C := RX7) (T := TX7) (N := 28) hx hb hts inX7 hown hK hP 0 wM_0 rfl 4 (by decide) f0 (fun _ h9 => h9) rfl dX7_kind_1 ?_
  refine lv_iload_n hx hb dX7_kind_4 rfl (lv_at hl 1 rfl) ?_
  obtain ⟨hi, hw⟩ := hw
  refine va_iald hx hb hK hP 2 0 wM_2 rfl hi dX7_kind_5 ?_
  refine lv_istore_n (lv' := [(2, .int (S 2 v1.toNatClampNeg)), (0, .ref (h 0)), (1, .int v1)]) hx hb dX7_kind_6 rfl hl (by decide) rfl (fun ls hl => ?_)
  refine lv_aload_n hx hb dX7_kind_7 rfl (lv_at hl 1 rfl) ?_
  refine lv_iload_n hx hb dX7_kind_8 rfl (lv_at hl 2 rfl) ?_
  refine lv_iload_n hx hb dX7_kind_9 rfl (lv_at hl 0 rfl) ?_
  refine xVi0 (As := [.int v1, .int (S 2 v1.toNatClampNeg)]) (rest := []) hst hE hP hS ⟨hx, hb, hml, hown, hts⟩ (va_recv hK hP (ci := 7) (q := (RX7, TX7, 28)) rfl wM_0) (mX7_sworn l D h cI cJ hh S L v1 (S 2 v1.toNatClampNeg) _ hw) (cwV 2 hts gX7_kind_X7_sworn rfl rfl rfl (by decide +kernel) ⟨Nat.le_of_ble_eq_true rfl, Nat.le_of_ble_eq_true rfl⟩) rfl hl.1 rfl (Nat.le_of_ble_eq_true rfl) dX7_kind_10 ⟨Nat.zero_le _, Nat.zero_le _⟩ (fun r10 H locs hw hP hS => ?_)
  refine lv_istore_n (lv' := [(3, .int r10), (2, .int (S 2 v1.toNatClampNeg)), (0, .ref (h 0)), (1, .int v1)]) hx hb dX7_kind_13 rfl hl (by decide) rfl (fun ls hl => ?_)
  refine lv_aload_n hx hb dX7_kind_14 rfl (lv_at hl 2 rfl) ?_
  refine lv_iload_n hx hb dX7_kind_15 rfl (lv_at hl 3 rfl) ?_
  refine lv_iload_n hx hb dX7_kind_16 rfl (lv_at hl 1 rfl) ?_
  refine xVi0 (As := [.int v1, .int (S 2 v1.toNatClampNeg)]) (rest := []) hst hE hP hS ⟨hx, hb, hml, hown, hts⟩ (va_recv hK hP (ci := 7) (q := (RX7, TX7, 28)) rfl wM_0) (mX7_isBooked l D h cI cJ hh S L v1 (S 2 v1.toNatClampNeg) _ hw) (cwV 2 hts gX7_kind_X7_isBooked rfl rfl rfl (by decide +kernel) ⟨Nat.le_of_ble_eq_true rfl, Nat.le_of_ble_eq_true rfl⟩) rfl hl.1 rfl (Nat.le_of_ble_eq_true rfl) dX7_kind_17 ⟨Nat.zero_le _, Nat.zero_le _⟩ (fun r17 H locs hw hP hS => ?_)
  refine lv_if_ne (tgt := 27) hx hb dX7_kind_20 (by decide) (fun hc => ?_) (fun hc => ?_)
  · replace hw := And.right hw hc
    refine lv_iload_n hx hb dX7_kind_27 rfl (lv_at hl 0 rfl) ?_
    refine lv_aload_n hx hb dX7_kind_28 rfl (lv_at hl 2 rfl) ?_
    refine lv_iload_n hx hb dX7_kind_29 rfl (lv_at hl 3 rfl) ?_
    refine lv_iload_n hx hb dX7_kind_30 rfl (lv_at hl 1 rfl) ?_
    refine xVi0 (As := [.int v1, .int (S 2 v1.toNatClampNeg)]) (rest := [.int r10]) hst hE hP hS ⟨hx, hb, hml, hown, hts⟩ (va_recv hK hP (ci := 7) (q := (RX7, TX7, 28)) rfl wM_0) (mX7_seen l D h cI cJ hh S L v1 (S 2 v1.toNatClampNeg) _ hw) (cwV 2 hts gX7_kind_X7_seen rfl rfl rfl (by decide +kernel) ⟨Nat.le_of_ble_eq_true rfl, Nat.le_of_ble_eq_true rfl⟩) rfl hl.1 rfl (Nat.le_of_ble_eq_true rfl) dX7_kind_31 ⟨Nat.zero_le _, Nat.zero_le _⟩ (fun r31 H locs hw hP hS => ?_)
    refine lv_icmp_eq (tgt := 41) hx hb dX7_kind_34 (by decide) (fun hc => ?_) (fun hc => ?_)
    · replace hw := And.left hw hc
      refine lv_iload_n hx hb dX7_kind_41 rfl (lv_at hl 0 rfl) ?_
      refine lv_aload_n hx hb dX7_kind_42 rfl (lv_at hl 2 rfl) ?_
      refine va_get (D := D) (ci := 7) (v := .int (S 0 0)) (C := RX7) (T := TX7) (N := 28) hx hb hts inX7 hown hK hP 0 wM_0 rfl 1 (by decide) f2 (fun _ h9 => h9) rfl dX7_kind_43 ?_
      refine lv_icmp_lt (tgt := 53) hx hb dX7_kind_46 (by decide) (fun hc => ?_) (fun hc => ?_)
      · replace hw := And.left hw hc
        refine lv_iconst (v := (0 : Int32)) hx hb dX7_kind_53 (by decide) ?_
        exact hret _ _ _ _ _ hP hS hw dX7_kind_54
      · replace hw := And.right hw hc
        refine lv_iconst (v := (3 : Int32)) hx hb dX7_kind_49 (by decide) ?_
        refine lv_goto (tgt := 54) hx hb dX7_kind_50 (by decide) ?_
        exact hret _ _ _ _ _ hP hS hw dX7_kind_54
    · replace hw := And.right hw hc
      refine lv_iconst (v := (2 : Int32)) hx hb dX7_kind_37 (by decide) ?_
      refine lv_goto (tgt := 54) hx hb dX7_kind_38 (by decide) ?_
      exact hret _ _ _ _ _ hP hS hw dX7_kind_54
  · replace hw := And.left hw hc
    refine lv_iconst (v := (1 : Int32)) hx hb dX7_kind_23 (by decide) ?_
    refine lv_goto (tgt := 54) hx hb dX7_kind_24 (by decide) ?_
    exact hret _ _ _ _ _ hP hS hw dX7_kind_54
abbrev rX7_told : Room := { frames := 4, cells := 0, slots := 0, locals := 95 }
set_option maxHeartbeats 4000000 in
set_option maxRecDepth 100000 in
theorem mX7_told (l : Launch) (D : va_G) (h : Nat → Nat) (cI cJ : ClassId) (hh : xdis 22 h) (S : SX) (L : LX) (v1 : Int32) (v2 : Int32) (post : Int32 → Prop) (hw : kX7_told S L v1 v2 post) : Met l yX7_told wsX7_told rX7_told (xPre D (wM h cI cJ) (mE D cI cJ) S L [.ref (h 0), .int v1, .int v2]) (va_Qi (fun (r : Int32) (u : SX × LX) => post r ∧ u.1 = S ∧ u.2 = L) (xB D (wM h cI cJ)) (xA 22 h)) 0 0 (xA 22 h) := by
  refine Met.ofW (cc := cX7_told) (maxL := 4) (ret := (some .int)) (by decide) rfl ?_
  intro p e s m args below meth c s₁ B hml hv
  obtain ⟨hargs, hP, hE⟩ := hv
  have hx := B.exec
  have hb := B.bytes
  have hr := B.returns
  have hlocks := B.notSynchronized
  have hts := atoms_spec (ws := wsX7_told) B.pre
  have hown : s.vm.findClass RX7 = some m.cls := findClass_of_methodNamed B.named
  have hS : va_S (xA 22 h) s.heap s.heap [] := va_S.rf
  have hD : ∀ (S : SX) (L : LX), va_D (xA 22 h) (wM h cI cJ S L) := fun S L => wM_D hh cI cJ S L
  have hK := id hE
  have hst : xSt (xA 22 h) (mE D cI cJ) := mE_st D _ cI cJ
  have f0 := hts (.constantLong RX7 81 (7)) (by decide +kernel)
  have f1 := hts (.fieldLink RX7 18 "BookOfWillsModel" "yearOf" "[I") (by decide +kernel)
  have inX7 : ∀ w ∈ u_ws RX7 TX7 28, w ∈ wsX7_told := fun w hw9 => List.mem_cons_of_mem _ (List.mem_append_right _ hw9)
  have f3 := hts (.fieldLink RX7 21 "BookOfWillsModel" "ageOf" "[I") (by decide +kernel)
  have f4 := hts (.fieldLink RX7 24 "BookOfWillsModel" "sexOf" "[I") (by decide +kernel)
  have hl := lv_entry ([.ref (h 0), .int v1, .int v2]) (n := 4) (Nat.le_of_ble_eq_true rfl)
  have hen : entryFrame m args 4 = F0 m 0 ((lg_sl ([.ref (h 0), .int v1, .int v2]) ++ List.replicate (4 - (lg_sl ([.ref (h 0), .int v1, .int v2])).length) Slot.unset).toArray) [] := by rw [hargs]; exact lg_entry_eq m _ _
  rw [hen]
  generalize (lg_sl ([.ref (h 0), .int v1, .int v2]) ++ List.replicate (4 - (lg_sl ([.ref (h 0), .int v1, .int v2])).length) Slot.unset).toArray = ls at hl ⊢
  have hl : lv_has ls 4 [(0, .ref (h 0)), (1, .int v1), (2, .int v2)] := hl
  change W p l e rX7_told s m args below meth c s.heap [] 0 0 (MQ below (va_Qi (fun (r : Int32) (u : SX × LX) => post r ∧ u.1 = S ∧ u.2 = L) (xB D (wM h cI cJ)) (xA 22 h)) args s 0 0 (xA 22 h)) (F0 m 0 ls [])
  have hret : ∀ (r : Int32) (H : Heap) (locs : List Loc) (ls : Array Slot) (pc : Nat), va_P D vwCl (wM h cI cJ S L) H → va_S (xA 22 h) s.heap H locs → post r → decode cX7_told pc = .ok (.ireturn, 1) → W p l e rX7_told s m args below meth c H locs 0 0 (MQ below (va_Qi (fun (r : Int32) (u : SX × LX) => post r ∧ u.1 = S ∧ u.2 = L) (xB D (wM h cI cJ)) (xA 22 h)) args s 0 0 (xA 22 h)) (F0 m pc ls [.int r]) := fun r H locs ls pc hP hS hw hd => W.iret hx hb hr (fun t ht hW => ⟨⟨r, (S, L), rfl, ⟨hw, rfl, rfl⟩, show va_P D vwCl (wM h cI cJ S L) t.heap by rw [ht]; exact hP⟩, hS.F ht⟩) hS.2.2 hd
  generalize MQ below (va_Qi (fun (r : Int32) (u : SX × LX) => post r ∧ u.1 = S ∧ u.2 = L) (xB D (wM h cI cJ)) (xA 22 h)) args s 0 0 (xA 22 h) = Q at hret ⊢
  unfold kX7_told at hw
  refine lv_aload_n hx hb dX7_told_0 rfl (lv_at hl 0 rfl) ?_
  refine lv_iload_n hx hb dX7_told_1 rfl (lv_at hl 1 rfl) ?_
  refine xVi0 (As := [.int v1]) (rest := []) hst hE hP hS ⟨hx, hb, hml, hown, hts⟩ (va_recv hK hP (ci := 7) (q := (RX7, TX7, 28)) rfl wM_0) (mX7_isWill l D h cI cJ hh S L v1 _ hw) (cwV 1 hts gX7_told_X7_isWill rfl rfl rfl (by decide +kernel) ⟨Nat.le_of_ble_eq_true rfl, Nat.le_of_ble_eq_true rfl⟩) rfl hl.1 rfl (Nat.le_of_ble_eq_true rfl) dX7_told_2 ⟨Nat.zero_le _, Nat.zero_le _⟩ (fun r2 H locs hw hP hS => ?_)
  refine lv_if_eq (tgt := 20) hx hb dX7_told_5 (by decide) (fun hc => ?_) (fun hc => ?_)
  · replace hw := And.left hw hc
    refine lv_iconst (v := (-1 : Int32)) hx hb dX7_told_20 (by decide) ?_
    exact hret _ _ _ _ _ hP hS hw dX7_told_21
  · replace hw := And.right hw hc
    refine lv_iload_n hx hb dX7_told_8 rfl (lv_at hl 2 rfl) ?_
    refine lv_i2l hx hb dX7_told_9 rfl ?_
    refine lv_lconst (v := (0 : Int64)) hx hb dX7_told_10 (by decide) ?_
    refine lv_ldc2 (v := (7 : Int64)) hx hb hown (f0) dX7_told_11 ?_
    refine xSi0 (As := [.long v2.toInt64, .long (0 : Int64), .long (7 : Int64)]) (rest := []) hst hE hP hS ⟨hx, hb, hml, hown, hts⟩ (mX7_in l D h cI cJ hh S L v2.toInt64 (0 : Int64) (7 : Int64) _ hw) (va_cwS 3 hts gX7_told_X7_in rfl rfl rfl (by decide +kernel) ⟨Nat.le_of_ble_eq_true rfl, Nat.le_of_ble_eq_true rfl⟩) rfl hl.1 rfl (Nat.le_of_ble_eq_true rfl) dX7_told_14 ⟨Nat.zero_le _, Nat.zero_le _⟩ (fun r14 H locs hw hP hS => ?_)
    refine lv_if_ne (tgt := 22) hx hb dX7_told_17 (by decide) (fun hc => ?_) (fun hc => ?_)
    · replace hw := And.right hw hc
      refine lv_aload_n hx hb dX7_told_22 rfl (lv_at hl 0 rfl) ?_
      refine va_get (D := D) (ci := 7) (v := .ref (h 2)) (C := RX7) (T := TX7) (N := 28) hx hb hts inX7 hown hK hP 0 wM_0 rfl 4 (by decide) f1 (fun _ h9 => h9) rfl dX7_told_23 ?_
      refine lv_iload_n hx hb dX7_told_26 rfl (lv_at hl 1 rfl) ?_
      obtain ⟨hi, hw⟩ := hw
      refine va_iald hx hb hK hP 2 0 wM_2 rfl hi dX7_told_27 ?_
      refine lv_istore_n (lv' := [(3, .int (S 2 v1.toNatClampNeg)), (0, .ref (h 0)), (1, .int v1), (2, .int v2)]) hx hb dX7_told_28 rfl hl (by decide) rfl (fun ls hl => ?_)
      refine lv_iload_n hx hb dX7_told_29 rfl (lv_at hl 3 rfl) ?_
      by_cases hc0 : v2 = (0 : Int32)
      · replace hw := And.left (hw) hc0
        refine lv_tableIn (off := 42) (tgt := 72) hx hb dX7_told_30 (by rw [hc0]; decide) (by rw [hc0]; decide) (by rw [hc0]; decide) (by decide) ?_
        refine lv_iload_n hx hb dX7_told_72 rfl (lv_at hl 0 rfl) ?_
        exact hret _ _ _ _ _ hP hS hw dX7_told_73
      by_cases hc1 : v2 = (1 : Int32)
      · replace hw := And.left (And.right (hw)) hc1
        refine lv_tableIn (off := 44) (tgt := 74) hx hb dX7_told_30 (by rw [hc1]; decide) (by rw [hc1]; decide) (by rw [hc1]; decide) (by decide) ?_
        refine lv_aload_n hx hb dX7_told_74 rfl (lv_at hl 1 rfl) ?_
        refine va_get (D := D) (ci := 7) (v := .ref (h 3)) (C := RX7) (T := TX7) (N := 28) hx hb hts inX7 hown hK hP 0 wM_0 rfl 5 (by decide) f3 (fun _ h9 => h9) rfl dX7_told_75 ?_
        refine lv_iload_n hx hb dX7_told_78 rfl (lv_at hl 2 rfl) ?_
        obtain ⟨hi, hw⟩ := hw
        refine va_iald hx hb hK hP 3 0 wM_3 rfl hi dX7_told_79 ?_
        exact hret _ _ _ _ _ hP hS hw dX7_told_80
      by_cases hc2 : v2 = (2 : Int32)
      · replace hw := And.left (And.right (And.right (hw))) hc2
        refine lv_tableIn (off := 51) (tgt := 81) hx hb dX7_told_30 (by rw [hc2]; decide) (by rw [hc2]; decide) (by rw [hc2]; decide) (by decide) ?_
        refine lv_aload_n hx hb dX7_told_81 rfl (lv_at hl 1 rfl) ?_
        refine va_get (D := D) (ci := 7) (v := .ref (h 4)) (C := RX7) (T := TX7) (N := 28) hx hb hts inX7 hown hK hP 0 wM_0 rfl 6 (by decide) f4 (fun _ h9 => h9) rfl dX7_told_82 ?_
        refine lv_iload_n hx hb dX7_told_85 rfl (lv_at hl 2 rfl) ?_
        obtain ⟨hi, hw⟩ := hw
        refine va_iald hx hb hK hP 4 0 wM_4 rfl hi dX7_told_86 ?_
        exact hret _ _ _ _ _ hP hS hw dX7_told_87
      by_cases hc3 : v2 = (3 : Int32)
      · replace hw := And.left (And.right (And.right (And.right (hw)))) hc3
        refine lv_tableIn (off := 58) (tgt := 88) hx hb dX7_told_30 (by rw [hc3]; decide) (by rw [hc3]; decide) (by rw [hc3]; decide) (by decide) ?_
        refine lv_aload_n hx hb dX7_told_88 rfl (lv_at hl 1 rfl) ?_
        refine lv_iload_n hx hb dX7_told_89 rfl (lv_at hl 2 rfl) ?_
        refine lv_iload_n hx hb dX7_told_90 rfl (lv_at hl 0 rfl) ?_
        refine xVi0 (As := [.int v1, .int (S 2 v1.toNatClampNeg)]) (rest := []) hst hE hP hS ⟨hx, hb, hml, hown, hts⟩ (va_recv hK hP (ci := 7) (q := (RX7, TX7, 28)) rfl wM_0) (mX7_seen l D h cI cJ hh S L v1 (S 2 v1.toNatClampNeg) _ hw) (cwV 2 hts gX7_told_X7_seen rfl rfl rfl (by decide +kernel) ⟨Nat.le_of_ble_eq_true rfl, Nat.le_of_ble_eq_true rfl⟩) rfl hl.1 rfl (Nat.le_of_ble_eq_true rfl) dX7_told_91 ⟨Nat.zero_le _, Nat.zero_le _⟩ (fun r91 H locs hw hP hS => ?_)
        exact hret _ _ _ _ _ hP hS hw dX7_told_94
      by_cases hc4 : v2 = (4 : Int32)
      · replace hw := And.left (And.right (And.right (And.right (And.right (hw))))) hc4
        refine lv_tableIn (off := 65) (tgt := 95) hx hb dX7_told_30 (by rw [hc4]; decide) (by rw [hc4]; decide) (by rw [hc4]; decide) (by decide) ?_
        refine lv_aload_n hx hb dX7_told_95 rfl (lv_at hl 1 rfl) ?_
        refine lv_iload_n hx hb dX7_told_96 rfl (lv_at hl 2 rfl) ?_
        refine lv_iload_n hx hb dX7_told_97 rfl (lv_at hl 0 rfl) ?_
        refine xVi0 (As := [.int v1, .int (S 2 v1.toNatClampNeg)]) (rest := []) hst hE hP hS ⟨hx, hb, hml, hown, hts⟩ (va_recv hK hP (ci := 7) (q := (RX7, TX7, 28)) rfl wM_0) (mX7_sworn l D h cI cJ hh S L v1 (S 2 v1.toNatClampNeg) _ hw) (cwV 2 hts gX7_told_X7_sworn rfl rfl rfl (by decide +kernel) ⟨Nat.le_of_ble_eq_true rfl, Nat.le_of_ble_eq_true rfl⟩) rfl hl.1 rfl (Nat.le_of_ble_eq_true rfl) dX7_told_98 ⟨Nat.zero_le _, Nat.zero_le _⟩ (fun r98 H locs hw hP hS => ?_)
        exact hret _ _ _ _ _ hP hS hw dX7_told_101
      by_cases hc5 : v2 = (5 : Int32)
      · replace hw := And.left (And.right (And.right (And.right (And.right (And.right (hw)))))) hc5
        refine lv_tableIn (off := 72) (tgt := 102) hx hb dX7_told_30 (by rw [hc5]; decide) (by rw [hc5]; decide) (by rw [hc5]; decide) (by decide) ?_
        refine lv_aload_n hx hb dX7_told_102 rfl (lv_at hl 1 rfl) ?_
        refine lv_iload_n hx hb dX7_told_103 rfl (lv_at hl 2 rfl) ?_
        refine lv_iload_n hx hb dX7_told_104 rfl (lv_at hl 0 rfl) ?_
        refine xVi0 (As := [.int v1, .int (S 2 v1.toNatClampNeg)]) (rest := []) hst hE hP hS ⟨hx, hb, hml, hown, hts⟩ (va_recv hK hP (ci := 7) (q := (RX7, TX7, 28)) rfl wM_0) (mX7_isBooked l D h cI cJ hh S L v1 (S 2 v1.toNatClampNeg) _ hw) (cwV 2 hts gX7_told_X7_isBooked rfl rfl rfl (by decide +kernel) ⟨Nat.le_of_ble_eq_true rfl, Nat.le_of_ble_eq_true rfl⟩) rfl hl.1 rfl (Nat.le_of_ble_eq_true rfl) dX7_told_105 ⟨Nat.zero_le _, Nat.zero_le _⟩ (fun r105 H locs hw hP hS => ?_)
        refine lv_if_eq (tgt := 115) hx hb dX7_told_108 (by decide) (fun hc => ?_) (fun hc => ?_)
        · replace hw := And.left hw hc
          refine lv_iconst (v := (0 : Int32)) hx hb dX7_told_115 (by decide) ?_
          exact hret _ _ _ _ _ hP hS hw dX7_told_116
        · replace hw := And.right hw hc
          refine lv_iconst (v := (1 : Int32)) hx hb dX7_told_111 (by decide) ?_
          refine lv_goto (tgt := 116) hx hb dX7_told_112 (by decide) ?_
          exact hret _ _ _ _ _ hP hS hw dX7_told_116
      by_cases hc6 : v2 = (6 : Int32)
      · replace hw := And.left (And.right (And.right (And.right (And.right (And.right (And.right (hw))))))) hc6
        refine lv_tableIn (off := 87) (tgt := 117) hx hb dX7_told_30 (by rw [hc6]; decide) (by rw [hc6]; decide) (by rw [hc6]; decide) (by decide) ?_
        refine lv_aload_n hx hb dX7_told_117 rfl (lv_at hl 1 rfl) ?_
        refine lv_iload_n hx hb dX7_told_118 rfl (lv_at hl 2 rfl) ?_
        refine lv_iload_n hx hb dX7_told_119 rfl (lv_at hl 0 rfl) ?_
        refine xVi0 (As := [.int v1, .int (S 2 v1.toNatClampNeg)]) (rest := []) hst hE hP hS ⟨hx, hb, hml, hown, hts⟩ (va_recv hK hP (ci := 7) (q := (RX7, TX7, 28)) rfl wM_0) (mX7_weight l D h cI cJ hh S L v1 (S 2 v1.toNatClampNeg) _ hw) (cwV 2 hts gX7_told_X7_weight rfl rfl rfl (by decide +kernel) ⟨Nat.le_of_ble_eq_true rfl, Nat.le_of_ble_eq_true rfl⟩) rfl hl.1 rfl (Nat.le_of_ble_eq_true rfl) dX7_told_120 ⟨Nat.zero_le _, Nat.zero_le _⟩ (fun r120 H locs hw hP hS => ?_)
        exact hret _ _ _ _ _ hP hS hw dX7_told_123
      replace hw := And.right (And.right (And.right (And.right (And.right (And.right (And.right (hw))))))) hc0 hc1 hc2 hc3 hc4 hc5 hc6
      refine lv_tableOut (tgt := 124) hx hb dX7_told_30 (x_out v2 (fun k h1 h2 => ?_)) (by decide) ?_
      · rcases (show k = 0 ∨ k = 1 ∨ k = 2 ∨ k = 3 ∨ k = 4 ∨ k = 5 ∨ k = 6 by omega) with rfl | rfl | rfl | rfl | rfl | rfl | rfl
        · exact hc0
        · exact hc1
        · exact hc2
        · exact hc3
        · exact hc4
        · exact hc5
        · exact hc6
      refine lv_aload_n hx hb dX7_told_124 rfl (lv_at hl 1 rfl) ?_
      refine lv_iload_n hx hb dX7_told_125 rfl (lv_at hl 2 rfl) ?_
      refine xVi0 (As := [.int v1]) (rest := []) hst hE hP hS ⟨hx, hb, hml, hown, hts⟩ (va_recv hK hP (ci := 7) (q := (RX7, TX7, 28)) rfl wM_0) (mX7_kind l D h cI cJ hh S L v1 _ hw) (cwV 1 hts gX7_told_X7_kind rfl rfl rfl (by decide +kernel) ⟨Nat.le_of_ble_eq_true rfl, Nat.le_of_ble_eq_true rfl⟩) rfl hl.1 rfl (Nat.le_of_ble_eq_true rfl) dX7_told_126 ⟨Nat.zero_le _, Nat.zero_le _⟩ (fun r126 H locs hw hP hS => ?_)
      exact hret _ _ _ _ _ hP hS hw dX7_told_129
    · replace hw := And.left hw hc
      refine lv_iconst (v := (-1 : Int32)) hx hb dX7_told_20 (by decide) ?_
      exact hret _ _ _ _ _ hP hS hw dX7_told_21
abbrev rX7_burn : Room := { frames := 2, cells := 0, slots := 0, locals := 46 }
set_option maxHeartbeats 4000000 in
set_option maxRecDepth 100000 in
theorem mX7_burn (l : Launch) (D : va_G) (h : Nat → Nat) (cI cJ : ClassId) (hh : xdis 22 h) (S : SX) (L : LX) (v1 : Int32) (post : Int32 → SX → Prop) (hw : kX7_burn S L v1 post) : Met l yX7_burn wsX7_burn rX7_burn (xPre D (wM h cI cJ) (mE D cI cJ) S L [.ref (h 0), .int v1]) (va_Qi (fun (r : Int32) (u : SX × LX) => post r u.1 ∧ u.2 = L) (xB D (wM h cI cJ)) (xA 22 h)) 0 0 (xA 22 h) := by
  refine Met.ofW (cc := cX7_burn) (maxL := 4) (ret := (some .int)) (by decide) rfl ?_
  intro p e s m args below meth c s₁ B hml hv
  obtain ⟨hargs, hP, hE⟩ := hv
  have hx := B.exec
  have hb := B.bytes
  have hr := B.returns
  have hlocks := B.notSynchronized
  have hts := atoms_spec (ws := wsX7_burn) B.pre
  have hown : s.vm.findClass RX7 = some m.cls := findClass_of_methodNamed B.named
  have hS : va_S (xA 22 h) s.heap s.heap [] := va_S.rf
  have hD : ∀ (S : SX) (L : LX), va_D (xA 22 h) (wM h cI cJ S L) := fun S L => wM_D hh cI cJ S L
  have hK := id hE
  have hst : xSt (xA 22 h) (mE D cI cJ) := mE_st D _ cI cJ
  have f0 := hts (.fieldLink RX7 27 "BookOfWillsModel" "own" "[I") (by decide +kernel)
  have inX7 : ∀ w ∈ u_ws RX7 TX7 28, w ∈ wsX7_burn := fun w hw9 => List.mem_cons_of_mem _ (List.mem_append_right _ hw9)
  have f2 := hts (.fieldLink RX7 87 "BookOfWillsModel" "wills" "I") (by decide +kernel)
  have f3 := hts (.fieldLink RX7 18 "BookOfWillsModel" "yearOf" "[I") (by decide +kernel)
  have f4 := hts (.fieldLink RX7 21 "BookOfWillsModel" "ageOf" "[I") (by decide +kernel)
  have f5 := hts (.fieldLink RX7 24 "BookOfWillsModel" "sexOf" "[I") (by decide +kernel)
  have hl := lv_entry ([.ref (h 0), .int v1]) (n := 4) (Nat.le_of_ble_eq_true rfl)
  have hen : entryFrame m args 4 = F0 m 0 ((lg_sl ([.ref (h 0), .int v1]) ++ List.replicate (4 - (lg_sl ([.ref (h 0), .int v1])).length) Slot.unset).toArray) [] := by rw [hargs]; exact lg_entry_eq m _ _
  rw [hen]
  generalize (lg_sl ([.ref (h 0), .int v1]) ++ List.replicate (4 - (lg_sl ([.ref (h 0), .int v1])).length) Slot.unset).toArray = ls at hl ⊢
  have hl : lv_has ls 4 [(0, .ref (h 0)), (1, .int v1)] := hl
  change W p l e rX7_burn s m args below meth c s.heap [] 0 0 (MQ below (va_Qi (fun (r : Int32) (u : SX × LX) => post r u.1 ∧ u.2 = L) (xB D (wM h cI cJ)) (xA 22 h)) args s 0 0 (xA 22 h)) (F0 m 0 ls [])
  have hret : ∀ (r : Int32) (S1 : SX) (H : Heap) (locs : List Loc) (ls : Array Slot) (pc : Nat), va_P D vwCl (wM h cI cJ S1 L) H → va_S (xA 22 h) s.heap H locs → post r S1 → decode cX7_burn pc = .ok (.ireturn, 1) → W p l e rX7_burn s m args below meth c H locs 0 0 (MQ below (va_Qi (fun (r : Int32) (u : SX × LX) => post r u.1 ∧ u.2 = L) (xB D (wM h cI cJ)) (xA 22 h)) args s 0 0 (xA 22 h)) (F0 m pc ls [.int r]) := fun r S1 H locs ls pc hP hS hw hd => W.iret hx hb hr (fun t ht hW => ⟨⟨r, (S1, L), rfl, ⟨hw, rfl⟩, show va_P D vwCl (wM h cI cJ S1 L) t.heap by rw [ht]; exact hP⟩, hS.F ht⟩) hS.2.2 hd
  generalize MQ below (va_Qi (fun (r : Int32) (u : SX × LX) => post r u.1 ∧ u.2 = L) (xB D (wM h cI cJ)) (xA 22 h)) args s 0 0 (xA 22 h) = Q at hret ⊢
  have b22 : ∀  (n22 : Nat) (v2 : Int32) (S : SX) (H : Heap) (locs : List Loc) (ls : Array Slot), lv_has ls 4 [(0, .ref (h 0)), (2, .int v2)] → va_P D vwCl (wM h cI cJ S L) H → va_S (xA 22 h) s.heap H locs → kX7_burn_b22 L v1 post n22 v2 S → W p l e rX7_burn s m args below meth c H locs 0 0 Q (F0 m 22 ls []) := by
    intro n22
    induction n22 with
    | zero => intro v2 S H locs ls hl hP hS hw; exact absurd hw id
    | succ n22 i22 =>
      have b74 : ∀  (n74 : Nat) (v2 : Int32) (v3 : Int32) (S : SX) (H : Heap) (locs : List Loc) (ls : Array Slot), lv_has ls 4 [(0, .ref (h 0)), (2, .int v2), (3, .int v3)] → va_P D vwCl (wM h cI cJ S L) H → va_S (xA 22 h) s.heap H locs → kX7_burn_b74 L v1 post (kX7_burn_b22 L v1 post n22) n74 v2 v3 S → W p l e rX7_burn s m args below meth c H locs 0 0 Q (F0 m 74 ls []) := by
        intro n74
        induction n74 with
        | zero => intro v2 v3 S H locs ls hl hP hS hw; exact absurd hw id
        | succ n74 i74 =>
          intro v2 v3 S H locs ls hl hP hS hw
          unfold kX7_burn_b74 at hw
          refine lv_iload_n hx hb dX7_burn_74 rfl (lv_at hl 2 rfl) ?_
          refine lv_iconst (v := (4 : Int32)) hx hb dX7_burn_75 (by decide) ?_
          refine lv_icmp_ge (tgt := 107) hx hb dX7_burn_76 (by decide) (fun hc => ?_) (fun hc => ?_)
          · replace hw := And.left hw hc
            refine lv_iinc (v := v2 + (1 : Int32)) (lv' := [(2, .int (v2 + (1 : Int32))), (0, .ref (h 0)), (3, .int v3)]) hx hb dX7_burn_107 hl (k := 1) rfl rfl (by decide) rfl (fun ls hl => ?_)
            refine lv_goto (tgt := 22) hx hb dX7_burn_110 (by decide) ?_
            exact i22 (v2 + (1 : Int32)) S _ _ _ (lv_sub hl [1, 0] rfl) hP hS hw
          · replace hw := And.right hw hc
            refine lv_aload_n hx hb dX7_burn_79 rfl (lv_at hl 0 rfl) ?_
            refine va_get (D := D) (ci := 7) (v := .ref (h 5)) (C := RX7) (T := TX7) (N := 28) hx hb hts inX7 hown hK hP 0 wM_0 rfl 7 (by decide) f0 (fun _ h9 => h9) rfl dX7_burn_80 ?_
            refine lv_iconst (v := (4 : Int32)) hx hb dX7_burn_83 (by decide) ?_
            refine lv_iload_n hx hb dX7_burn_84 rfl (lv_at hl 1 rfl) ?_
            refine lv_imul hx hb dX7_burn_85 ?_
            refine lv_iload_n hx hb dX7_burn_86 rfl (lv_at hl 2 rfl) ?_
            refine lv_iadd hx hb dX7_burn_87 ?_
            refine lv_aload_n hx hb dX7_burn_88 rfl (lv_at hl 0 rfl) ?_
            refine va_get (D := D) (ci := 7) (v := .ref (h 5)) (C := RX7) (T := TX7) (N := 28) hx hb hts inX7 hown hK hP 0 wM_0 rfl 7 (by decide) f0 (fun _ h9 => h9) rfl dX7_burn_89 ?_
            refine lv_iconst (v := (4 : Int32)) hx hb dX7_burn_92 (by decide) ?_
            refine lv_iload_n hx hb dX7_burn_93 rfl (lv_at hl 1 rfl) ?_
            refine lv_imul hx hb dX7_burn_94 ?_
            refine lv_iconst (v := (4 : Int32)) hx hb dX7_burn_95 (by decide) ?_
            refine lv_iadd hx hb dX7_burn_96 ?_
            refine lv_iload_n hx hb dX7_burn_97 rfl (lv_at hl 2 rfl) ?_
            refine lv_iadd hx hb dX7_burn_98 ?_
            obtain ⟨hi, hw⟩ := hw
            refine va_iald hx hb hK hP 5 0 wM_5 rfl hi dX7_burn_99 ?_
            obtain ⟨hi, hw⟩ := hw
            refine x_iast (ws2 := wM h cI cJ (xu S 5 (((4 : Int32) * v2) + v3).toNatClampNeg (S 5 ((((4 : Int32) * v2) + (4 : Int32)) + v3).toNatClampNeg)) L) hx hb hK hP (hD _ _) hS 5 0 wM_5 rfl hi dX7_burn_100 (wM_u5 _ _) (fun H locs hP hS => ?_)
            refine lv_iinc (v := v3 + (1 : Int32)) (lv' := [(3, .int (v3 + (1 : Int32))), (0, .ref (h 0)), (2, .int v2)]) hx hb dX7_burn_101 hl (k := 2) rfl rfl (by decide) rfl (fun ls hl => ?_)
            refine lv_goto (tgt := 74) hx hb dX7_burn_104 (by decide) ?_
            exact i74 v2 (v3 + (1 : Int32)) (xu S 5 (((4 : Int32) * v2) + v3).toNatClampNeg (S 5 ((((4 : Int32) * v2) + (4 : Int32)) + v3).toNatClampNeg)) _ _ _ (lv_sub hl [1, 2, 0] rfl) hP hS hw
      intro v2 S H locs ls hl hP hS hw
      unfold kX7_burn_b22 at hw
      refine lv_iload_n hx hb dX7_burn_22 rfl (lv_at hl 1 rfl) ?_
      refine lv_aload_n hx hb dX7_burn_23 rfl (lv_at hl 0 rfl) ?_
      refine va_get (D := D) (ci := 7) (v := .int (S 0 2)) (C := RX7) (T := TX7) (N := 28) hx hb hts inX7 hown hK hP 0 wM_0 rfl 3 (by decide) f2 (fun _ h9 => h9) rfl dX7_burn_24 ?_
      refine lv_icmp_ge (tgt := 113) hx hb dX7_burn_27 (by decide) (fun hc => ?_) (fun hc => ?_)
      · replace hw := And.left hw hc
        refine lv_aload_n hx hb dX7_burn_113 rfl (lv_at hl 0 rfl) ?_
        refine va_get (D := D) (ci := 7) (v := .int (S 0 2)) (C := RX7) (T := TX7) (N := 28) hx hb hts inX7 hown hK hP 0 wM_0 rfl 3 (by decide) f2 (fun _ h9 => h9) rfl dX7_burn_114 ?_
        exact hret _ _ _ _ _ _ hP hS hw dX7_burn_117
      · replace hw := And.right hw hc
        refine lv_aload_n hx hb dX7_burn_30 rfl (lv_at hl 0 rfl) ?_
        refine va_get (D := D) (ci := 7) (v := .ref (h 2)) (C := RX7) (T := TX7) (N := 28) hx hb hts inX7 hown hK hP 0 wM_0 rfl 4 (by decide) f3 (fun _ h9 => h9) rfl dX7_burn_31 ?_
        refine lv_iload_n hx hb dX7_burn_34 rfl (lv_at hl 1 rfl) ?_
        refine lv_aload_n hx hb dX7_burn_35 rfl (lv_at hl 0 rfl) ?_
        refine va_get (D := D) (ci := 7) (v := .ref (h 2)) (C := RX7) (T := TX7) (N := 28) hx hb hts inX7 hown hK hP 0 wM_0 rfl 4 (by decide) f3 (fun _ h9 => h9) rfl dX7_burn_36 ?_
        refine lv_iload_n hx hb dX7_burn_39 rfl (lv_at hl 1 rfl) ?_
        refine lv_iconst (v := (1 : Int32)) hx hb dX7_burn_40 (by decide) ?_
        refine lv_iadd hx hb dX7_burn_41 ?_
        obtain ⟨hi, hw⟩ := hw
        refine va_iald hx hb hK hP 2 0 wM_2 rfl hi dX7_burn_42 ?_
        obtain ⟨hi, hw⟩ := hw
        refine x_iast (ws2 := wM h cI cJ (xu S 2 v2.toNatClampNeg (S 2 (v2 + (1 : Int32)).toNatClampNeg)) L) hx hb hK hP (hD _ _) hS 2 0 wM_2 rfl hi dX7_burn_43 (wM_u2 _ _) (fun H locs hP hS => ?_)
        refine lv_aload_n hx hb dX7_burn_44 rfl (lv_at hl 0 rfl) ?_
        refine va_get (D := D) (ci := 7) (v := .ref (h 3)) (C := RX7) (T := TX7) (N := 28) hx hb hts inX7 hown hK hP 0 wM_0 rfl 5 (by decide) f4 (fun _ h9 => h9) rfl dX7_burn_45 ?_
        refine lv_iload_n hx hb dX7_burn_48 rfl (lv_at hl 1 rfl) ?_
        refine lv_aload_n hx hb dX7_burn_49 rfl (lv_at hl 0 rfl) ?_
        refine va_get (D := D) (ci := 7) (v := .ref (h 3)) (C := RX7) (T := TX7) (N := 28) hx hb hts inX7 hown hK hP 0 wM_0 rfl 5 (by decide) f4 (fun _ h9 => h9) rfl dX7_burn_50 ?_
        refine lv_iload_n hx hb dX7_burn_53 rfl (lv_at hl 1 rfl) ?_
        refine lv_iconst (v := (1 : Int32)) hx hb dX7_burn_54 (by decide) ?_
        refine lv_iadd hx hb dX7_burn_55 ?_
        obtain ⟨hi, hw⟩ := hw
        refine va_iald hx hb hK hP 3 0 wM_3 rfl hi dX7_burn_56 ?_
        obtain ⟨hi, hw⟩ := hw
        refine x_iast (ws2 := wM h cI cJ (xu (xu S 2 v2.toNatClampNeg (S 2 (v2 + (1 : Int32)).toNatClampNeg)) 3 v2.toNatClampNeg ((xu S 2 v2.toNatClampNeg (S 2 (v2 + (1 : Int32)).toNatClampNeg)) 3 (v2 + (1 : Int32)).toNatClampNeg)) L) hx hb hK hP (hD _ _) hS 3 0 wM_3 rfl hi dX7_burn_57 (wM_u3 _ _) (fun H locs hP hS => ?_)
        refine lv_aload_n hx hb dX7_burn_58 rfl (lv_at hl 0 rfl) ?_
        refine va_get (D := D) (ci := 7) (v := .ref (h 4)) (C := RX7) (T := TX7) (N := 28) hx hb hts inX7 hown hK hP 0 wM_0 rfl 6 (by decide) f5 (fun _ h9 => h9) rfl dX7_burn_59 ?_
        refine lv_iload_n hx hb dX7_burn_62 rfl (lv_at hl 1 rfl) ?_
        refine lv_aload_n hx hb dX7_burn_63 rfl (lv_at hl 0 rfl) ?_
        refine va_get (D := D) (ci := 7) (v := .ref (h 4)) (C := RX7) (T := TX7) (N := 28) hx hb hts inX7 hown hK hP 0 wM_0 rfl 6 (by decide) f5 (fun _ h9 => h9) rfl dX7_burn_64 ?_
        refine lv_iload_n hx hb dX7_burn_67 rfl (lv_at hl 1 rfl) ?_
        refine lv_iconst (v := (1 : Int32)) hx hb dX7_burn_68 (by decide) ?_
        refine lv_iadd hx hb dX7_burn_69 ?_
        obtain ⟨hi, hw⟩ := hw
        refine va_iald hx hb hK hP 4 0 wM_4 rfl hi dX7_burn_70 ?_
        obtain ⟨hi, hw⟩ := hw
        refine x_iast (ws2 := wM h cI cJ (xu (xu (xu S 2 v2.toNatClampNeg (S 2 (v2 + (1 : Int32)).toNatClampNeg)) 3 v2.toNatClampNeg ((xu S 2 v2.toNatClampNeg (S 2 (v2 + (1 : Int32)).toNatClampNeg)) 3 (v2 + (1 : Int32)).toNatClampNeg)) 4 v2.toNatClampNeg ((xu (xu S 2 v2.toNatClampNeg (S 2 (v2 + (1 : Int32)).toNatClampNeg)) 3 v2.toNatClampNeg ((xu S 2 v2.toNatClampNeg (S 2 (v2 + (1 : Int32)).toNatClampNeg)) 3 (v2 + (1 : Int32)).toNatClampNeg)) 4 (v2 + (1 : Int32)).toNatClampNeg)) L) hx hb hK hP (hD _ _) hS 4 0 wM_4 rfl hi dX7_burn_71 (wM_u4 _ _) (fun H locs hP hS => ?_)
        refine lv_iconst (v := (0 : Int32)) hx hb dX7_burn_72 (by decide) ?_
        refine lv_istore_n (lv' := [(3, .int (0 : Int32)), (0, .ref (h 0)), (2, .int v2)]) hx hb dX7_burn_73 rfl hl (by decide) rfl (fun ls hl => ?_)
        obtain ⟨n74, hw⟩ := hw
        exact b74  n74 v2 (0 : Int32) (xu (xu (xu S 2 v2.toNatClampNeg (S 2 (v2 + (1 : Int32)).toNatClampNeg)) 3 v2.toNatClampNeg ((xu S 2 v2.toNatClampNeg (S 2 (v2 + (1 : Int32)).toNatClampNeg)) 3 (v2 + (1 : Int32)).toNatClampNeg)) 4 v2.toNatClampNeg ((xu (xu S 2 v2.toNatClampNeg (S 2 (v2 + (1 : Int32)).toNatClampNeg)) 3 v2.toNatClampNeg ((xu S 2 v2.toNatClampNeg (S 2 (v2 + (1 : Int32)).toNatClampNeg)) 3 (v2 + (1 : Int32)).toNatClampNeg)) 4 (v2 + (1 : Int32)).toNatClampNeg)) _ _ _ (lv_sub hl [1, 2, 0] rfl) hP hS hw
  unfold kX7_burn at hw
  refine lv_aload_n hx hb dX7_burn_0 rfl (lv_at hl 0 rfl) ?_
  refine lv_iload_n hx hb dX7_burn_1 rfl (lv_at hl 1 rfl) ?_
  refine xVi0 (As := [.int v1]) (rest := []) hst hE hP hS ⟨hx, hb, hml, hown, hts⟩ (va_recv hK hP (ci := 7) (q := (RX7, TX7, 28)) rfl wM_0) (mX7_isWill l D h cI cJ hh S L v1 _ hw) (cwV 1 hts gX7_burn_X7_isWill rfl rfl rfl (by decide +kernel) ⟨Nat.le_of_ble_eq_true rfl, Nat.le_of_ble_eq_true rfl⟩) rfl hl.1 rfl (Nat.le_of_ble_eq_true rfl) dX7_burn_2 ⟨Nat.zero_le _, Nat.zero_le _⟩ (fun r2 H locs hw hP hS => ?_)
  refine lv_if_ne (tgt := 10) hx hb dX7_burn_5 (by decide) (fun hc => ?_) (fun hc => ?_)
  · replace hw := And.right hw hc
    refine lv_aload_n hx hb dX7_burn_10 rfl (lv_at hl 0 rfl) ?_
    refine lv_dup hx hb dX7_burn_11 rfl ?_
    refine va_get (D := D) (ci := 7) (v := .int (S 0 2)) (C := RX7) (T := TX7) (N := 28) hx hb hts inX7 hown hK hP 0 wM_0 rfl 3 (by decide) f2 (fun _ h9 => h9) rfl dX7_burn_12 ?_
    refine lv_iconst (v := (1 : Int32)) hx hb dX7_burn_15 (by decide) ?_
    refine lv_isub hx hb dX7_burn_16 ?_
    refine x_put (D := D) (ci := 7) (v := .int ((S 0 2) - (1 : Int32))) (ty := .int) (C := RX7) (T := TX7) (N := 28) (ws2 := wM h cI cJ (xu S 0 2 ((S 0 2) - (1 : Int32))) L) hx hb hts inX7 tyX7 tyX7_ok nmX7 hown hK hP (hD _ _) hS 0 wM_0 rfl 3 (by decide) f2 (fun _ h9 => h9) rfl (by decide +kernel) rfl rfl (Nat.le_of_ble_eq_true rfl) dX7_burn_17 (wM_p0_2 _) (fun H locs hP hS => ?_)
    refine lv_iload_n hx hb dX7_burn_20 rfl (lv_at hl 1 rfl) ?_
    refine lv_istore_n (lv' := [(2, .int v1), (0, .ref (h 0)), (1, .int v1)]) hx hb dX7_burn_21 rfl hl (by decide) rfl (fun ls hl => ?_)
    obtain ⟨n22, hw⟩ := hw
    exact b22  n22 v1 (xu S 0 2 ((S 0 2) - (1 : Int32))) _ _ _ (lv_sub hl [1, 0] rfl) hP hS hw
  · replace hw := And.left hw hc
    refine lv_iconst (v := (-1 : Int32)) hx hb dX7_burn_8 (by decide) ?_
    exact hret _ _ _ _ _ _ hP hS hw dX7_burn_9
abbrev rX7_draw : Room := { frames := 2, cells := 0, slots := 0, locals := 45 }
set_option maxHeartbeats 4000000 in
set_option maxRecDepth 100000 in
theorem mX7_draw (l : Launch) (D : va_G) (h : Nat → Nat) (cI cJ : ClassId) (hh : xdis 22 h) (S : SX) (L : LX) (v1 : Int64) (v3 : Int32) (v4 : Int32) (post : Int32 → SX → Prop) (hw : kX7_draw S L v1 v3 v4 post) : Met l yX7_draw wsX7_draw rX7_draw (xPre D (wM h cI cJ) (mE D cI cJ) S L [.ref (h 0), .long v1, .int v3, .int v4]) (va_Qi (fun (r : Int32) (u : SX × LX) => post r u.1 ∧ u.2 = L) (xB D (wM h cI cJ)) (xA 22 h)) 0 0 (xA 22 h) := by
  refine Met.ofW (cc := cX7_draw) (maxL := 10) (ret := (some .int)) (by decide) rfl ?_
  intro p e s m args below meth c s₁ B hml hv
  obtain ⟨hargs, hP, hE⟩ := hv
  have hx := B.exec
  have hb := B.bytes
  have hr := B.returns
  have hlocks := B.notSynchronized
  have hts := atoms_spec (ws := wsX7_draw) B.pre
  have hown : s.vm.findClass RX7 = some m.cls := findClass_of_methodNamed B.named
  have hS : va_S (xA 22 h) s.heap s.heap [] := va_S.rf
  have hD : ∀ (S : SX) (L : LX), va_D (xA 22 h) (wM h cI cJ S L) := fun S L => wM_D hh cI cJ S L
  have hK := id hE
  have hst : xSt (xA 22 h) (mE D cI cJ) := mE_st D _ cI cJ
  have f0 := hts (.fieldLink RX7 87 "BookOfWillsModel" "wills" "I") (by decide +kernel)
  have inX7 : ∀ w ∈ u_ws RX7 TX7 28, w ∈ wsX7_draw := fun w hw9 => List.mem_cons_of_mem _ (List.mem_append_right _ hw9)
  have f2 := hts (.constantLong RX7 136 (6364136223846793005)) (by decide +kernel)
  have f3 := hts (.constantLong RX7 138 (1442695040888963407)) (by decide +kernel)
  have f4 := hts (.constantLong RX7 134 (24)) (by decide +kernel)
  have hl := lv_entry ([.ref (h 0), .long v1, .int v3, .int v4]) (n := 10) (Nat.le_of_ble_eq_true rfl)
  have hen : entryFrame m args 10 = F0 m 0 ((lg_sl ([.ref (h 0), .long v1, .int v3, .int v4]) ++ List.replicate (10 - (lg_sl ([.ref (h 0), .long v1, .int v3, .int v4])).length) Slot.unset).toArray) [] := by rw [hargs]; exact lg_entry_eq m _ _
  rw [hen]
  generalize (lg_sl ([.ref (h 0), .long v1, .int v3, .int v4]) ++ List.replicate (10 - (lg_sl ([.ref (h 0), .long v1, .int v3, .int v4])).length) Slot.unset).toArray = ls at hl ⊢
  have hl : lv_has ls 10 [(0, .ref (h 0)), (1, .long v1), (3, .int v3), (4, .int v4)] := hl
  change W p l e rX7_draw s m args below meth c s.heap [] 0 0 (MQ below (va_Qi (fun (r : Int32) (u : SX × LX) => post r u.1 ∧ u.2 = L) (xB D (wM h cI cJ)) (xA 22 h)) args s 0 0 (xA 22 h)) (F0 m 0 ls [])
  have hret : ∀ (r : Int32) (S1 : SX) (H : Heap) (locs : List Loc) (ls : Array Slot) (pc : Nat), va_P D vwCl (wM h cI cJ S1 L) H → va_S (xA 22 h) s.heap H locs → post r S1 → decode cX7_draw pc = .ok (.ireturn, 1) → W p l e rX7_draw s m args below meth c H locs 0 0 (MQ below (va_Qi (fun (r : Int32) (u : SX × LX) => post r u.1 ∧ u.2 = L) (xB D (wM h cI cJ)) (xA 22 h)) args s 0 0 (xA 22 h)) (F0 m pc ls [.int r]) := fun r S1 H locs ls pc hP hS hw hd => W.iret hx hb hr (fun t ht hW => ⟨⟨r, (S1, L), rfl, ⟨hw, rfl⟩, show va_P D vwCl (wM h cI cJ S1 L) t.heap by rw [ht]; exact hP⟩, hS.F ht⟩) hS.2.2 hd
  generalize MQ below (va_Qi (fun (r : Int32) (u : SX × LX) => post r u.1 ∧ u.2 = L) (xB D (wM h cI cJ)) (xA 22 h)) args s 0 0 (xA 22 h) = Q at hret ⊢
  have b43 : ∀  (n43 : Nat) (v5 : Int64) (v7 : Int32) (S : SX) (H : Heap) (locs : List Loc) (ls : Array Slot), lv_has ls 10 [(0, .ref (h 0)), (3, .int v3), (4, .int v4), (5, .long v5), (7, .int v7)] → va_P D vwCl (wM h cI cJ S L) H → va_S (xA 22 h) s.heap H locs → kX7_draw_b43 L v1 v3 v4 post n43 v5 v7 S → W p l e rX7_draw s m args below meth c H locs 0 0 Q (F0 m 43 ls []) := by
    intro n43
    induction n43 with
    | zero => intro v5 v7 S H locs ls hl hP hS hw; exact absurd hw id
    | succ n43 i43 =>
      intro v5 v7 S H locs ls hl hP hS hw
      unfold kX7_draw_b43 at hw
      refine lv_iload hx hb dX7_draw_43 (lv_at hl 4 rfl) ?_
      refine lv_iload hx hb dX7_draw_45 (lv_at hl 2 rfl) ?_
      refine lv_icmp_ge (tgt := 116) hx hb dX7_draw_47 (by decide) (fun hc => ?_) (fun hc => ?_)
      · replace hw := And.left hw hc
        refine lv_aload_n hx hb dX7_draw_116 rfl (lv_at hl 0 rfl) ?_
        refine va_get (D := D) (ci := 7) (v := .int (S 0 2)) (C := RX7) (T := TX7) (N := 28) hx hb hts inX7 hown hK hP 0 wM_0 rfl 3 (by decide) f0 (fun _ h9 => h9) rfl dX7_draw_117 ?_
        exact hret _ _ _ _ _ _ hP hS hw dX7_draw_120
      · replace hw := And.right hw hc
        refine lv_lload hx hb dX7_draw_50 (lv_at hl 3 rfl) ?_
        refine lv_ldc2 (v := (6364136223846793005 : Int64)) hx hb hown (f2) dX7_draw_52 ?_
        refine lv_lmul hx hb dX7_draw_55 ?_
        refine lv_ldc2 (v := (1442695040888963407 : Int64)) hx hb hown (f3) dX7_draw_56 ?_
        refine lv_ladd hx hb dX7_draw_59 ?_
        refine lv_lstore (lv' := [(5, .long ((v5 * (6364136223846793005 : Int64)) + (1442695040888963407 : Int64))), (0, .ref (h 0)), (3, .int v3), (4, .int v4), (7, .int v7)]) hx hb dX7_draw_60 hl (by decide) rfl (fun ls hl => ?_)
        refine lv_lload hx hb dX7_draw_62 (lv_at hl 0 rfl) ?_
        refine lv_bipush (v := (33 : Int32)) hx hb dX7_draw_64 (by decide) ?_
        refine lv_lushr hx hb dX7_draw_66 rfl ?_
        refine lv_l2i hx hb dX7_draw_67 rfl ?_
        refine lv_istore (lv' := [(8, .int (((((v5 * (6364136223846793005 : Int64)) + (1442695040888963407 : Int64)).toUInt64 >>> ((33 : Int32).toInt64.toUInt64 &&& Int64.toUInt64 63)).toInt64).toInt32)), (5, .long ((v5 * (6364136223846793005 : Int64)) + (1442695040888963407 : Int64))), (0, .ref (h 0)), (3, .int v3), (4, .int v4), (7, .int v7)]) hx hb dX7_draw_68 hl (by decide) rfl (fun ls hl => ?_)
        refine lv_iload hx hb dX7_draw_70 (lv_at hl 0 rfl) ?_
        refine lv_bipush (v := (12 : Int32)) hx hb dX7_draw_72 (by decide) ?_
        refine lv_idiv hx hb dX7_draw_74 (by decide) ?_
        refine lv_sipush (v := (10000 : Int32)) hx hb dX7_draw_75 (by decide) ?_
        refine lv_irem hx hb dX7_draw_78 (by decide) ?_
        refine lv_istore (lv' := [(9, .int (((((((v5 * (6364136223846793005 : Int64)) + (1442695040888963407 : Int64)).toUInt64 >>> ((33 : Int32).toInt64.toUInt64 &&& Int64.toUInt64 63)).toInt64).toInt32) / (12 : Int32)) - ((((((v5 * (6364136223846793005 : Int64)) + (1442695040888963407 : Int64)).toUInt64 >>> ((33 : Int32).toInt64.toUInt64 &&& Int64.toUInt64 63)).toInt64).toInt32) / (12 : Int32)) / (10000 : Int32) * (10000 : Int32))), (8, .int (((((v5 * (6364136223846793005 : Int64)) + (1442695040888963407 : Int64)).toUInt64 >>> ((33 : Int32).toInt64.toUInt64 &&& Int64.toUInt64 63)).toInt64).toInt32)), (5, .long ((v5 * (6364136223846793005 : Int64)) + (1442695040888963407 : Int64))), (0, .ref (h 0)), (3, .int v3), (4, .int v4), (7, .int v7)]) hx hb dX7_draw_79 hl (by decide) rfl (fun ls hl => ?_)
        refine lv_aload_n hx hb dX7_draw_81 rfl (lv_at hl 3 rfl) ?_
        refine lv_iload_n hx hb dX7_draw_82 rfl (lv_at hl 4 rfl) ?_
        refine lv_iload hx hb dX7_draw_83 (lv_at hl 1 rfl) ?_
        refine lv_bipush (v := (6 : Int32)) hx hb dX7_draw_85 (by decide) ?_
        refine lv_irem hx hb dX7_draw_87 (by decide) ?_
        refine lv_iload hx hb dX7_draw_88 (lv_at hl 1 rfl) ?_
        refine lv_bipush (v := (6 : Int32)) hx hb dX7_draw_90 (by decide) ?_
        refine lv_idiv hx hb dX7_draw_92 (by decide) ?_
        refine lv_iconst (v := (2 : Int32)) hx hb dX7_draw_93 (by decide) ?_
        refine lv_irem hx hb dX7_draw_94 (by decide) ?_
        refine lv_iload hx hb dX7_draw_95 (lv_at hl 0 rfl) ?_
        refine lv_iload hx hb dX7_draw_97 (lv_at hl 0 rfl) ?_
        refine lv_imul hx hb dX7_draw_99 ?_
        refine lv_sipush (v := (10000 : Int32)) hx hb dX7_draw_100 (by decide) ?_
        refine lv_idiv hx hb dX7_draw_103 (by decide) ?_
        refine lv_iconst (v := (0 : Int32)) hx hb dX7_draw_104 (by decide) ?_
        refine lv_iconst (v := (0 : Int32)) hx hb dX7_draw_105 (by decide) ?_
        refine lv_iconst (v := (0 : Int32)) hx hb dX7_draw_106 (by decide) ?_
        refine xVv1 (As := [.int v3, .int ((((((v5 * (6364136223846793005 : Int64)) + (1442695040888963407 : Int64)).toUInt64 >>> ((33 : Int32).toInt64.toUInt64 &&& Int64.toUInt64 63)).toInt64).toInt32) - (((((v5 * (6364136223846793005 : Int64)) + (1442695040888963407 : Int64)).toUInt64 >>> ((33 : Int32).toInt64.toUInt64 &&& Int64.toUInt64 63)).toInt64).toInt32) / (6 : Int32) * (6 : Int32)), .int (((((((v5 * (6364136223846793005 : Int64)) + (1442695040888963407 : Int64)).toUInt64 >>> ((33 : Int32).toInt64.toUInt64 &&& Int64.toUInt64 63)).toInt64).toInt32) / (6 : Int32)) - ((((((v5 * (6364136223846793005 : Int64)) + (1442695040888963407 : Int64)).toUInt64 >>> ((33 : Int32).toInt64.toUInt64 &&& Int64.toUInt64 63)).toInt64).toInt32) / (6 : Int32)) / (2 : Int32) * (2 : Int32)), .int (((((((((v5 * (6364136223846793005 : Int64)) + (1442695040888963407 : Int64)).toUInt64 >>> ((33 : Int32).toInt64.toUInt64 &&& Int64.toUInt64 63)).toInt64).toInt32) / (12 : Int32)) - ((((((v5 * (6364136223846793005 : Int64)) + (1442695040888963407 : Int64)).toUInt64 >>> ((33 : Int32).toInt64.toUInt64 &&& Int64.toUInt64 63)).toInt64).toInt32) / (12 : Int32)) / (10000 : Int32) * (10000 : Int32)) * (((((((v5 * (6364136223846793005 : Int64)) + (1442695040888963407 : Int64)).toUInt64 >>> ((33 : Int32).toInt64.toUInt64 &&& Int64.toUInt64 63)).toInt64).toInt32) / (12 : Int32)) - ((((((v5 * (6364136223846793005 : Int64)) + (1442695040888963407 : Int64)).toUInt64 >>> ((33 : Int32).toInt64.toUInt64 &&& Int64.toUInt64 63)).toInt64).toInt32) / (12 : Int32)) / (10000 : Int32) * (10000 : Int32))) / (10000 : Int32)), .int (0 : Int32), .int (0 : Int32), .int (0 : Int32)]) (rest := []) hst hE hP hS ⟨hx, hb, hml, hown, hts⟩ (va_recv hK hP (ci := 7) (q := (RX7, TX7, 28)) rfl wM_0) (mX7_comes l D h cI cJ hh S L v3 ((((((v5 * (6364136223846793005 : Int64)) + (1442695040888963407 : Int64)).toUInt64 >>> ((33 : Int32).toInt64.toUInt64 &&& Int64.toUInt64 63)).toInt64).toInt32) - (((((v5 * (6364136223846793005 : Int64)) + (1442695040888963407 : Int64)).toUInt64 >>> ((33 : Int32).toInt64.toUInt64 &&& Int64.toUInt64 63)).toInt64).toInt32) / (6 : Int32) * (6 : Int32)) (((((((v5 * (6364136223846793005 : Int64)) + (1442695040888963407 : Int64)).toUInt64 >>> ((33 : Int32).toInt64.toUInt64 &&& Int64.toUInt64 63)).toInt64).toInt32) / (6 : Int32)) - ((((((v5 * (6364136223846793005 : Int64)) + (1442695040888963407 : Int64)).toUInt64 >>> ((33 : Int32).toInt64.toUInt64 &&& Int64.toUInt64 63)).toInt64).toInt32) / (6 : Int32)) / (2 : Int32) * (2 : Int32)) (((((((((v5 * (6364136223846793005 : Int64)) + (1442695040888963407 : Int64)).toUInt64 >>> ((33 : Int32).toInt64.toUInt64 &&& Int64.toUInt64 63)).toInt64).toInt32) / (12 : Int32)) - ((((((v5 * (6364136223846793005 : Int64)) + (1442695040888963407 : Int64)).toUInt64 >>> ((33 : Int32).toInt64.toUInt64 &&& Int64.toUInt64 63)).toInt64).toInt32) / (12 : Int32)) / (10000 : Int32) * (10000 : Int32)) * (((((((v5 * (6364136223846793005 : Int64)) + (1442695040888963407 : Int64)).toUInt64 >>> ((33 : Int32).toInt64.toUInt64 &&& Int64.toUInt64 63)).toInt64).toInt32) / (12 : Int32)) - ((((((v5 * (6364136223846793005 : Int64)) + (1442695040888963407 : Int64)).toUInt64 >>> ((33 : Int32).toInt64.toUInt64 &&& Int64.toUInt64 63)).toInt64).toInt32) / (12 : Int32)) / (10000 : Int32) * (10000 : Int32))) / (10000 : Int32)) (0 : Int32) (0 : Int32) (0 : Int32) _ hw) (cwV 7 hts gX7_draw_X7_comes rfl rfl rfl (by decide +kernel) ⟨Nat.le_of_ble_eq_true rfl, Nat.le_of_ble_eq_true rfl⟩) rfl hl.1 rfl (Nat.le_of_ble_eq_true rfl) dX7_draw_107 ⟨Nat.zero_le _, Nat.zero_le _⟩ (fun S107 H locs hw hP hS => ?_)
        refine lv_iinc (v := v7 + (1 : Int32)) (lv' := [(7, .int (v7 + (1 : Int32))), (9, .int (((((((v5 * (6364136223846793005 : Int64)) + (1442695040888963407 : Int64)).toUInt64 >>> ((33 : Int32).toInt64.toUInt64 &&& Int64.toUInt64 63)).toInt64).toInt32) / (12 : Int32)) - ((((((v5 * (6364136223846793005 : Int64)) + (1442695040888963407 : Int64)).toUInt64 >>> ((33 : Int32).toInt64.toUInt64 &&& Int64.toUInt64 63)).toInt64).toInt32) / (12 : Int32)) / (10000 : Int32) * (10000 : Int32))), (8, .int (((((v5 * (6364136223846793005 : Int64)) + (1442695040888963407 : Int64)).toUInt64 >>> ((33 : Int32).toInt64.toUInt64 &&& Int64.toUInt64 63)).toInt64).toInt32)), (5, .long ((v5 * (6364136223846793005 : Int64)) + (1442695040888963407 : Int64))), (0, .ref (h 0)), (3, .int v3), (4, .int v4)]) hx hb dX7_draw_110 hl (k := 6) rfl rfl (by decide) rfl (fun ls hl => ?_)
        refine lv_goto (tgt := 43) hx hb dX7_draw_113 (by decide) ?_
        exact i43 ((v5 * (6364136223846793005 : Int64)) + (1442695040888963407 : Int64)) (v7 + (1 : Int32)) S107 _ _ _ (lv_sub hl [4, 5, 6, 3, 0] rfl) hP hS hw
  unfold kX7_draw at hw
  refine lv_iload_n hx hb dX7_draw_0 rfl (lv_at hl 2 rfl) ?_
  refine xSi0 (As := [.int v3]) (rest := []) hst hE hP hS ⟨hx, hb, hml, hown, hts⟩ (mX7_isYear l D h cI cJ hh S L v3 _ hw) (va_cwS 1 hts gX7_draw_X7_isYear rfl rfl rfl (by decide +kernel) ⟨Nat.le_of_ble_eq_true rfl, Nat.le_of_ble_eq_true rfl⟩) rfl hl.1 rfl (Nat.le_of_ble_eq_true rfl) dX7_draw_1 ⟨Nat.zero_le _, Nat.zero_le _⟩ (fun r1 H locs hw hP hS => ?_)
  refine lv_if_eq (tgt := 20) hx hb dX7_draw_4 (by decide) (fun hc => ?_) (fun hc => ?_)
  · replace hw := And.left hw hc
    refine lv_iconst (v := (-1 : Int32)) hx hb dX7_draw_20 (by decide) ?_
    exact hret _ _ _ _ _ _ hP hS hw dX7_draw_21
  · replace hw := And.right hw hc
    refine lv_iload hx hb dX7_draw_7 (lv_at hl 3 rfl) ?_
    refine lv_i2l hx hb dX7_draw_9 rfl ?_
    refine lv_lconst (v := (1 : Int64)) hx hb dX7_draw_10 (by decide) ?_
    refine lv_ldc2 (v := (24 : Int64)) hx hb hown (f4) dX7_draw_11 ?_
    refine xSi0 (As := [.long v4.toInt64, .long (1 : Int64), .long (24 : Int64)]) (rest := []) hst hE hP hS ⟨hx, hb, hml, hown, hts⟩ (mX7_in l D h cI cJ hh S L v4.toInt64 (1 : Int64) (24 : Int64) _ hw) (va_cwS 3 hts gX7_draw_X7_in rfl rfl rfl (by decide +kernel) ⟨Nat.le_of_ble_eq_true rfl, Nat.le_of_ble_eq_true rfl⟩) rfl hl.1 rfl (Nat.le_of_ble_eq_true rfl) dX7_draw_14 ⟨Nat.zero_le _, Nat.zero_le _⟩ (fun r14 H locs hw hP hS => ?_)
    refine lv_if_ne (tgt := 22) hx hb dX7_draw_17 (by decide) (fun hc => ?_) (fun hc => ?_)
    · replace hw := And.right hw hc
      refine lv_aload_n hx hb dX7_draw_22 rfl (lv_at hl 0 rfl) ?_
      refine va_get (D := D) (ci := 7) (v := .int (S 0 2)) (C := RX7) (T := TX7) (N := 28) hx hb hts inX7 hown hK hP 0 wM_0 rfl 3 (by decide) f0 (fun _ h9 => h9) rfl dX7_draw_23 ?_
      refine lv_iload hx hb dX7_draw_26 (lv_at hl 3 rfl) ?_
      refine lv_iadd hx hb dX7_draw_28 ?_
      refine lv_bipush (v := (24 : Int32)) hx hb dX7_draw_29 (by decide) ?_
      refine lv_icmp_le (tgt := 37) hx hb dX7_draw_31 (by decide) (fun hc => ?_) (fun hc => ?_)
      · replace hw := And.left hw hc
        refine lv_lload_n hx hb dX7_draw_37 rfl (lv_at hl 1 rfl) ?_
        refine lv_lstore (lv' := [(5, .long v1), (0, .ref (h 0)), (1, .long v1), (3, .int v3), (4, .int v4)]) hx hb dX7_draw_38 hl (by decide) rfl (fun ls hl => ?_)
        refine lv_iconst (v := (0 : Int32)) hx hb dX7_draw_40 (by decide) ?_
        refine lv_istore (lv' := [(7, .int (0 : Int32)), (5, .long v1), (0, .ref (h 0)), (1, .long v1), (3, .int v3), (4, .int v4)]) hx hb dX7_draw_41 hl (by decide) rfl (fun ls hl => ?_)
        obtain ⟨n43, hw⟩ := hw
        exact b43  n43 v1 (0 : Int32) S _ _ _ (lv_sub hl [2, 4, 5, 1, 0] rfl) hP hS hw
      · replace hw := And.right hw hc
        refine lv_bipush (v := (-3 : Int32)) hx hb dX7_draw_34 (by decide) ?_
        exact hret _ _ _ _ _ _ hP hS hw dX7_draw_36
    · replace hw := And.left hw hc
      refine lv_iconst (v := (-1 : Int32)) hx hb dX7_draw_20 (by decide) ?_
      exact hret _ _ _ _ _ _ hP hS hw dX7_draw_21
abbrev rX7_people : Room := { frames := 2, cells := 0, slots := 0, locals := 45 }
set_option maxHeartbeats 4000000 in
set_option maxRecDepth 100000 in
theorem mX7_people (l : Launch) (D : va_G) (h : Nat → Nat) (cI cJ : ClassId) (hh : xdis 22 h) (S : SX) (L : LX) (v1 : Int32) (v2 : Int32) (v3 : Int32) (post : Int32 → SX → Prop) (hw : kX7_people S L v1 v2 v3 post) : Met l yX7_people wsX7_people rX7_people (xPre D (wM h cI cJ) (mE D cI cJ) S L [.ref (h 0), .int v1, .int v2, .int v3]) (va_Qi (fun (r : Int32) (u : SX × LX) => post r u.1 ∧ u.2 = L) (xB D (wM h cI cJ)) (xA 22 h)) 0 0 (xA 22 h) := by
  refine Met.ofW (cc := cX7_people) (maxL := 5) (ret := (some .int)) (by decide) rfl ?_
  intro p e s m args below meth c s₁ B hml hv
  obtain ⟨hargs, hP, hE⟩ := hv
  have hx := B.exec
  have hb := B.bytes
  have hr := B.returns
  have hlocks := B.notSynchronized
  have hts := atoms_spec (ws := wsX7_people) B.pre
  have hown : s.vm.findClass RX7 = some m.cls := findClass_of_methodNamed B.named
  have hS : va_S (xA 22 h) s.heap s.heap [] := va_S.rf
  have hD : ∀ (S : SX) (L : LX), va_D (xA 22 h) (wM h cI cJ S L) := fun S L => wM_D hh cI cJ S L
  have hK := id hE
  have hst : xSt (xA 22 h) (mE D cI cJ) := mE_st D _ cI cJ
  have f0 := hts (.fieldLink RX7 45 "BookOfWillsModel" "prices" "[I") (by decide +kernel)
  have inX7 : ∀ w ∈ u_ws RX7 TX7 28, w ∈ wsX7_people := fun w hw9 => List.mem_cons_of_mem _ (List.mem_append_right _ hw9)
  have f2 := hts (.fieldLink RX7 42 "BookOfWillsModel" "crowd" "[I") (by decide +kernel)
  have f3 := hts (.constantLong RX7 142 (999)) (by decide +kernel)
  have f4 := hts (.constantLong RX7 140 (999999)) (by decide +kernel)
  have hl := lv_entry ([.ref (h 0), .int v1, .int v2, .int v3]) (n := 5) (Nat.le_of_ble_eq_true rfl)
  have hen : entryFrame m args 5 = F0 m 0 ((lg_sl ([.ref (h 0), .int v1, .int v2, .int v3]) ++ List.replicate (5 - (lg_sl ([.ref (h 0), .int v1, .int v2, .int v3])).length) Slot.unset).toArray) [] := by rw [hargs]; exact lg_entry_eq m _ _
  rw [hen]
  generalize (lg_sl ([.ref (h 0), .int v1, .int v2, .int v3]) ++ List.replicate (5 - (lg_sl ([.ref (h 0), .int v1, .int v2, .int v3])).length) Slot.unset).toArray = ls at hl ⊢
  have hl : lv_has ls 5 [(0, .ref (h 0)), (1, .int v1), (2, .int v2), (3, .int v3)] := hl
  change W p l e rX7_people s m args below meth c s.heap [] 0 0 (MQ below (va_Qi (fun (r : Int32) (u : SX × LX) => post r u.1 ∧ u.2 = L) (xB D (wM h cI cJ)) (xA 22 h)) args s 0 0 (xA 22 h)) (F0 m 0 ls [])
  have hret : ∀ (r : Int32) (S1 : SX) (H : Heap) (locs : List Loc) (ls : Array Slot) (pc : Nat), va_P D vwCl (wM h cI cJ S1 L) H → va_S (xA 22 h) s.heap H locs → post r S1 → decode cX7_people pc = .ok (.ireturn, 1) → W p l e rX7_people s m args below meth c H locs 0 0 (MQ below (va_Qi (fun (r : Int32) (u : SX × LX) => post r u.1 ∧ u.2 = L) (xB D (wM h cI cJ)) (xA 22 h)) args s 0 0 (xA 22 h)) (F0 m pc ls [.int r]) := fun r S1 H locs ls pc hP hS hw hd => W.iret hx hb hr (fun t ht hW => ⟨⟨r, (S1, L), rfl, ⟨hw, rfl⟩, show va_P D vwCl (wM h cI cJ S1 L) t.heap by rw [ht]; exact hP⟩, hS.F ht⟩) hS.2.2 hd
  generalize MQ below (va_Qi (fun (r : Int32) (u : SX × LX) => post r u.1 ∧ u.2 = L) (xB D (wM h cI cJ)) (xA 22 h)) args s 0 0 (xA 22 h) = Q at hret ⊢
  have b33 : ∀ (z0 : Int64) (z1 : Int64) (z2 : Int64) (S : SX) (H : Heap) (locs : List Loc) (ls : Array Slot), lv_has ls 5 [(0, .ref (h 0)), (1, .int v1), (2, .int v2), (3, .int v3)] → va_P D vwCl (wM h cI cJ S L) H → va_S (xA 22 h) s.heap H locs → kX7_people_b33 L v1 v2 v3 post z0 z1 z2 S → W p l e rX7_people s m args below meth c H locs 0 0 Q (F0 m 33 ls [.long z2, .long z1, .long z0]) := by
    have b60 : ∀ (z0 : Int32) (S : SX) (H : Heap) (locs : List Loc) (ls : Array Slot), lv_has ls 5 [(0, .ref (h 0)), (1, .int v1), (2, .int v2), (3, .int v3)] → va_P D vwCl (wM h cI cJ S L) H → va_S (xA 22 h) s.heap H locs → kX7_people_b60 L v1 v2 v3 post z0 S → W p l e rX7_people s m args below meth c H locs 0 0 Q (F0 m 60 ls [.int z0]) := by
      intro z0 S H locs ls hl hP hS hw
      unfold kX7_people_b60 at hw
      refine lv_istore (lv' := [(4, .int z0), (0, .ref (h 0)), (1, .int v1), (2, .int v2), (3, .int v3)]) hx hb dX7_people_60 hl (by decide) rfl (fun ls hl => ?_)
      refine lv_iload_n hx hb dX7_people_62 rfl (lv_at hl 3 rfl) ?_
      refine lv_if_ne (tgt := 76) hx hb dX7_people_63 (by decide) (fun hc => ?_) (fun hc => ?_)
      · replace hw := And.right hw hc
        refine lv_aload_n hx hb dX7_people_76 rfl (lv_at hl 1 rfl) ?_
        refine va_get (D := D) (ci := 7) (v := .ref (h 11)) (C := RX7) (T := TX7) (N := 28) hx hb hts inX7 hown hK hP 0 wM_0 rfl 13 (by decide) f0 (fun _ h9 => h9) rfl dX7_people_77 ?_
        refine lv_iload_n hx hb dX7_people_80 rfl (lv_at hl 2 rfl) ?_
        refine lv_iload_n hx hb dX7_people_81 rfl (lv_at hl 4 rfl) ?_
        obtain ⟨hi, hw⟩ := hw
        refine x_iast (ws2 := wM h cI cJ (xu S 11 v1.toNatClampNeg v3) L) hx hb hK hP (hD _ _) hS 11 0 wM_11 rfl hi dX7_people_82 (wM_u11 _ _) (fun H locs hP hS => ?_)
        refine lv_iload hx hb dX7_people_83 (lv_at hl 0 rfl) ?_
        exact hret _ _ _ _ _ _ hP hS hw dX7_people_85
      · replace hw := And.left hw hc
        refine lv_aload_n hx hb dX7_people_66 rfl (lv_at hl 1 rfl) ?_
        refine va_get (D := D) (ci := 7) (v := .ref (h 10)) (C := RX7) (T := TX7) (N := 28) hx hb hts inX7 hown hK hP 0 wM_0 rfl 12 (by decide) f2 (fun _ h9 => h9) rfl dX7_people_67 ?_
        refine lv_iload_n hx hb dX7_people_70 rfl (lv_at hl 2 rfl) ?_
        refine lv_iload_n hx hb dX7_people_71 rfl (lv_at hl 4 rfl) ?_
        obtain ⟨hi, hw⟩ := hw
        refine x_iast (ws2 := wM h cI cJ (xu S 10 v1.toNatClampNeg v3) L) hx hb hK hP (hD _ _) hS 10 0 wM_10 rfl hi dX7_people_72 (wM_u10 _ _) (fun H locs hP hS => ?_)
        refine lv_goto (tgt := 83) hx hb dX7_people_73 (by decide) ?_
        refine lv_iload hx hb dX7_people_83 (lv_at hl 0 rfl) ?_
        exact hret _ _ _ _ _ _ hP hS hw dX7_people_85
    intro z0 z1 z2 S H locs ls hl hP hS hw
    unfold kX7_people_b33 at hw
    refine xSi0 (As := [.long z0, .long z1, .long z2]) (rest := []) hst hE hP hS ⟨hx, hb, hml, hown, hts⟩ (mX7_in l D h cI cJ hh S L z0 z1 z2 _ hw) (va_cwS 3 hts gX7_people_X7_in rfl rfl rfl (by decide +kernel) ⟨Nat.le_of_ble_eq_true rfl, Nat.le_of_ble_eq_true rfl⟩) rfl hl.1 rfl (Nat.le_of_ble_eq_true rfl) dX7_people_33 ⟨Nat.zero_le _, Nat.zero_le _⟩ (fun r33 H locs hw hP hS => ?_)
    refine lv_if_ne (tgt := 41) hx hb dX7_people_36 (by decide) (fun hc => ?_) (fun hc => ?_)
    · replace hw := And.right hw hc
      refine lv_iload_n hx hb dX7_people_41 rfl (lv_at hl 2 rfl) ?_
      refine lv_if_ne (tgt := 54) hx hb dX7_people_42 (by decide) (fun hc => ?_) (fun hc => ?_)
      · replace hw := And.right hw hc
        refine lv_aload_n hx hb dX7_people_54 rfl (lv_at hl 0 rfl) ?_
        refine va_get (D := D) (ci := 7) (v := .ref (h 11)) (C := RX7) (T := TX7) (N := 28) hx hb hts inX7 hown hK hP 0 wM_0 rfl 13 (by decide) f0 (fun _ h9 => h9) rfl dX7_people_55 ?_
        refine lv_iload_n hx hb dX7_people_58 rfl (lv_at hl 1 rfl) ?_
        obtain ⟨hi, hw⟩ := hw
        refine va_iald hx hb hK hP 11 0 wM_11 rfl hi dX7_people_59 ?_
        exact b60 (S 11 v1.toNatClampNeg) S _ _ _ (lv_sub hl [0, 1, 2, 3] rfl) hP hS hw
      · replace hw := And.left hw hc
        refine lv_aload_n hx hb dX7_people_45 rfl (lv_at hl 0 rfl) ?_
        refine va_get (D := D) (ci := 7) (v := .ref (h 10)) (C := RX7) (T := TX7) (N := 28) hx hb hts inX7 hown hK hP 0 wM_0 rfl 12 (by decide) f2 (fun _ h9 => h9) rfl dX7_people_46 ?_
        refine lv_iload_n hx hb dX7_people_49 rfl (lv_at hl 1 rfl) ?_
        obtain ⟨hi, hw⟩ := hw
        refine va_iald hx hb hK hP 10 0 wM_10 rfl hi dX7_people_50 ?_
        refine lv_goto (tgt := 60) hx hb dX7_people_51 (by decide) ?_
        exact b60 (S 10 v1.toNatClampNeg) S _ _ _ (lv_sub hl [0, 1, 2, 3] rfl) hP hS hw
    · replace hw := And.left hw hc
      refine lv_iconst (v := (-1 : Int32)) hx hb dX7_people_39 (by decide) ?_
      exact hret _ _ _ _ _ _ hP hS hw dX7_people_40
  unfold kX7_people at hw
  refine lv_iload_n hx hb dX7_people_0 rfl (lv_at hl 1 rfl) ?_
  refine xSi0 (As := [.int v1]) (rest := []) hst hE hP hS ⟨hx, hb, hml, hown, hts⟩ (mX7_isYear l D h cI cJ hh S L v1 _ hw) (va_cwS 1 hts gX7_people_X7_isYear rfl rfl rfl (by decide +kernel) ⟨Nat.le_of_ble_eq_true rfl, Nat.le_of_ble_eq_true rfl⟩) rfl hl.1 rfl (Nat.le_of_ble_eq_true rfl) dX7_people_1 ⟨Nat.zero_le _, Nat.zero_le _⟩ (fun r1 H locs hw hP hS => ?_)
  refine lv_if_eq (tgt := 39) hx hb dX7_people_4 (by decide) (fun hc => ?_) (fun hc => ?_)
  · replace hw := And.left hw hc
    refine lv_iconst (v := (-1 : Int32)) hx hb dX7_people_39 (by decide) ?_
    exact hret _ _ _ _ _ _ hP hS hw dX7_people_40
  · replace hw := And.right hw hc
    refine lv_iload_n hx hb dX7_people_7 rfl (lv_at hl 2 rfl) ?_
    refine lv_i2l hx hb dX7_people_8 rfl ?_
    refine lv_lconst (v := (0 : Int64)) hx hb dX7_people_9 (by decide) ?_
    refine lv_lconst (v := (1 : Int64)) hx hb dX7_people_10 (by decide) ?_
    refine xSi0 (As := [.long v2.toInt64, .long (0 : Int64), .long (1 : Int64)]) (rest := []) hst hE hP hS ⟨hx, hb, hml, hown, hts⟩ (mX7_in l D h cI cJ hh S L v2.toInt64 (0 : Int64) (1 : Int64) _ hw) (va_cwS 3 hts gX7_people_X7_in rfl rfl rfl (by decide +kernel) ⟨Nat.le_of_ble_eq_true rfl, Nat.le_of_ble_eq_true rfl⟩) rfl hl.1 rfl (Nat.le_of_ble_eq_true rfl) dX7_people_11 ⟨Nat.zero_le _, Nat.zero_le _⟩ (fun r11 H locs hw hP hS => ?_)
    refine lv_if_eq (tgt := 39) hx hb dX7_people_14 (by decide) (fun hc => ?_) (fun hc => ?_)
    · replace hw := And.left hw hc
      refine lv_iconst (v := (-1 : Int32)) hx hb dX7_people_39 (by decide) ?_
      exact hret _ _ _ _ _ _ hP hS hw dX7_people_40
    · replace hw := And.right hw hc
      refine lv_iload_n hx hb dX7_people_17 rfl (lv_at hl 3 rfl) ?_
      refine lv_i2l hx hb dX7_people_18 rfl ?_
      refine lv_lconst (v := (1 : Int64)) hx hb dX7_people_19 (by decide) ?_
      refine lv_iload_n hx hb dX7_people_20 rfl (lv_at hl 2 rfl) ?_
      refine lv_if_ne (tgt := 30) hx hb dX7_people_21 (by decide) (fun hc => ?_) (fun hc => ?_)
      · replace hw := And.right hw hc
        refine lv_ldc2 (v := (999 : Int64)) hx hb hown (f3) dX7_people_30 ?_
        exact b33 v3.toInt64 (1 : Int64) (999 : Int64) S _ _ _ (lv_sub hl [0, 1, 2, 3] rfl) hP hS hw
      · replace hw := And.left hw hc
        refine lv_ldc2 (v := (999999 : Int64)) hx hb hown (f4) dX7_people_24 ?_
        refine lv_goto (tgt := 33) hx hb dX7_people_27 (by decide) ?_
        exact b33 v3.toInt64 (1 : Int64) (999999 : Int64) S _ _ _ (lv_sub hl [0, 1, 2, 3] rfl) hP hS hw
abbrev rX7_rule : Room := { frames := 2, cells := 0, slots := 0, locals := 45 }
set_option maxHeartbeats 4000000 in
set_option maxRecDepth 100000 in
theorem mX7_rule (l : Launch) (D : va_G) (h : Nat → Nat) (cI cJ : ClassId) (hh : xdis 22 h) (S : SX) (L : LX) (v1 : Int32) (v2 : Int32) (post : Int32 → Prop) (hw : kX7_rule S L v1 v2 post) : Met l yX7_rule wsX7_rule rX7_rule (xPre D (wM h cI cJ) (mE D cI cJ) S L [.ref (h 0), .int v1, .int v2]) (va_Qi (fun (r : Int32) (u : SX × LX) => post r ∧ u.1 = S ∧ u.2 = L) (xB D (wM h cI cJ)) (xA 22 h)) 0 0 (xA 22 h) := by
  refine Met.ofW (cc := cX7_rule) (maxL := 3) (ret := (some .int)) (by decide) rfl ?_
  intro p e s m args below meth c s₁ B hml hv
  obtain ⟨hargs, hP, hE⟩ := hv
  have hx := B.exec
  have hb := B.bytes
  have hr := B.returns
  have hlocks := B.notSynchronized
  have hts := atoms_spec (ws := wsX7_rule) B.pre
  have hown : s.vm.findClass RX7 = some m.cls := findClass_of_methodNamed B.named
  have hS : va_S (xA 22 h) s.heap s.heap [] := va_S.rf
  have hD : ∀ (S : SX) (L : LX), va_D (xA 22 h) (wM h cI cJ S L) := fun S L => wM_D hh cI cJ S L
  have hK := id hE
  have hst : xSt (xA 22 h) (mE D cI cJ) := mE_st D _ cI cJ
  have f0 := hts (.constantLong RX7 114 (3)) (by decide +kernel)
  have f1 := hts (.fieldLink RX7 39 "BookOfWillsModel" "marks" "[I") (by decide +kernel)
  have inX7 : ∀ w ∈ u_ws RX7 TX7 28, w ∈ wsX7_rule := fun w hw9 => List.mem_cons_of_mem _ (List.mem_append_right _ hw9)
  have f3 := hts (.fieldLink RX7 36 "BookOfWillsModel" "keens" "[I") (by decide +kernel)
  have f4 := hts (.fieldLink RX7 33 "BookOfWillsModel" "lines" "[I") (by decide +kernel)
  have f5 := hts (.fieldLink RX7 30 "BookOfWillsModel" "floors" "[I") (by decide +kernel)
  have hl := lv_entry ([.ref (h 0), .int v1, .int v2]) (n := 3) (Nat.le_of_ble_eq_true rfl)
  have hen : entryFrame m args 3 = F0 m 0 ((lg_sl ([.ref (h 0), .int v1, .int v2]) ++ List.replicate (3 - (lg_sl ([.ref (h 0), .int v1, .int v2])).length) Slot.unset).toArray) [] := by rw [hargs]; exact lg_entry_eq m _ _
  rw [hen]
  generalize (lg_sl ([.ref (h 0), .int v1, .int v2]) ++ List.replicate (3 - (lg_sl ([.ref (h 0), .int v1, .int v2])).length) Slot.unset).toArray = ls at hl ⊢
  have hl : lv_has ls 3 [(0, .ref (h 0)), (1, .int v1), (2, .int v2)] := hl
  change W p l e rX7_rule s m args below meth c s.heap [] 0 0 (MQ below (va_Qi (fun (r : Int32) (u : SX × LX) => post r ∧ u.1 = S ∧ u.2 = L) (xB D (wM h cI cJ)) (xA 22 h)) args s 0 0 (xA 22 h)) (F0 m 0 ls [])
  have hret : ∀ (r : Int32) (H : Heap) (locs : List Loc) (ls : Array Slot) (pc : Nat), va_P D vwCl (wM h cI cJ S L) H → va_S (xA 22 h) s.heap H locs → post r → decode cX7_rule pc = .ok (.ireturn, 1) → W p l e rX7_rule s m args below meth c H locs 0 0 (MQ below (va_Qi (fun (r : Int32) (u : SX × LX) => post r ∧ u.1 = S ∧ u.2 = L) (xB D (wM h cI cJ)) (xA 22 h)) args s 0 0 (xA 22 h)) (F0 m pc ls [.int r]) := fun r H locs ls pc hP hS hw hd => W.iret hx hb hr (fun t ht hW => ⟨⟨r, (S, L), rfl, ⟨hw, rfl, rfl⟩, show va_P D vwCl (wM h cI cJ S L) t.heap by rw [ht]; exact hP⟩, hS.F ht⟩) hS.2.2 hd
  generalize MQ below (va_Qi (fun (r : Int32) (u : SX × LX) => post r ∧ u.1 = S ∧ u.2 = L) (xB D (wM h cI cJ)) (xA 22 h)) args s 0 0 (xA 22 h) = Q at hret ⊢
  unfold kX7_rule at hw
  refine lv_iload_n hx hb dX7_rule_0 rfl (lv_at hl 1 rfl) ?_
  refine xSi0 (As := [.int v1]) (rest := []) hst hE hP hS ⟨hx, hb, hml, hown, hts⟩ (mX7_isYear l D h cI cJ hh S L v1 _ hw) (va_cwS 1 hts gX7_rule_X7_isYear rfl rfl rfl (by decide +kernel) ⟨Nat.le_of_ble_eq_true rfl, Nat.le_of_ble_eq_true rfl⟩) rfl hl.1 rfl (Nat.le_of_ble_eq_true rfl) dX7_rule_1 ⟨Nat.zero_le _, Nat.zero_le _⟩ (fun r1 H locs hw hP hS => ?_)
  refine lv_if_eq (tgt := 19) hx hb dX7_rule_4 (by decide) (fun hc => ?_) (fun hc => ?_)
  · replace hw := And.left hw hc
    refine lv_iconst (v := (-1 : Int32)) hx hb dX7_rule_19 (by decide) ?_
    exact hret _ _ _ _ _ hP hS hw dX7_rule_20
  · replace hw := And.right hw hc
    refine lv_iload_n hx hb dX7_rule_7 rfl (lv_at hl 2 rfl) ?_
    refine lv_i2l hx hb dX7_rule_8 rfl ?_
    refine lv_lconst (v := (0 : Int64)) hx hb dX7_rule_9 (by decide) ?_
    refine lv_ldc2 (v := (3 : Int64)) hx hb hown (f0) dX7_rule_10 ?_
    refine xSi0 (As := [.long v2.toInt64, .long (0 : Int64), .long (3 : Int64)]) (rest := []) hst hE hP hS ⟨hx, hb, hml, hown, hts⟩ (mX7_in l D h cI cJ hh S L v2.toInt64 (0 : Int64) (3 : Int64) _ hw) (va_cwS 3 hts gX7_rule_X7_in rfl rfl rfl (by decide +kernel) ⟨Nat.le_of_ble_eq_true rfl, Nat.le_of_ble_eq_true rfl⟩) rfl hl.1 rfl (Nat.le_of_ble_eq_true rfl) dX7_rule_13 ⟨Nat.zero_le _, Nat.zero_le _⟩ (fun r13 H locs hw hP hS => ?_)
    refine lv_if_ne (tgt := 21) hx hb dX7_rule_16 (by decide) (fun hc => ?_) (fun hc => ?_)
    · replace hw := And.right hw hc
      refine lv_iload_n hx hb dX7_rule_21 rfl (lv_at hl 2 rfl) ?_
      refine lv_if_ne (tgt := 34) hx hb dX7_rule_22 (by decide) (fun hc => ?_) (fun hc => ?_)
      · replace hw := And.right hw hc
        refine lv_iload_n hx hb dX7_rule_34 rfl (lv_at hl 2 rfl) ?_
        refine lv_iconst (v := (1 : Int32)) hx hb dX7_rule_35 (by decide) ?_
        refine lv_icmp_ne (tgt := 48) hx hb dX7_rule_36 (by decide) (fun hc => ?_) (fun hc => ?_)
        · replace hw := And.right hw hc
          refine lv_iload_n hx hb dX7_rule_48 rfl (lv_at hl 2 rfl) ?_
          refine lv_iconst (v := (2 : Int32)) hx hb dX7_rule_49 (by decide) ?_
          refine lv_icmp_ne (tgt := 62) hx hb dX7_rule_50 (by decide) (fun hc => ?_) (fun hc => ?_)
          · replace hw := And.right hw hc
            refine lv_aload_n hx hb dX7_rule_62 rfl (lv_at hl 0 rfl) ?_
            refine va_get (D := D) (ci := 7) (v := .ref (h 9)) (C := RX7) (T := TX7) (N := 28) hx hb hts inX7 hown hK hP 0 wM_0 rfl 11 (by decide) f1 (fun _ h9 => h9) rfl dX7_rule_63 ?_
            refine lv_iload_n hx hb dX7_rule_66 rfl (lv_at hl 1 rfl) ?_
            obtain ⟨hi, hw⟩ := hw
            refine va_iald hx hb hK hP 9 0 wM_9 rfl hi dX7_rule_67 ?_
            exact hret _ _ _ _ _ hP hS hw dX7_rule_68
          · replace hw := And.left hw hc
            refine lv_aload_n hx hb dX7_rule_53 rfl (lv_at hl 0 rfl) ?_
            refine va_get (D := D) (ci := 7) (v := .ref (h 8)) (C := RX7) (T := TX7) (N := 28) hx hb hts inX7 hown hK hP 0 wM_0 rfl 10 (by decide) f3 (fun _ h9 => h9) rfl dX7_rule_54 ?_
            refine lv_iload_n hx hb dX7_rule_57 rfl (lv_at hl 1 rfl) ?_
            obtain ⟨hi, hw⟩ := hw
            refine va_iald hx hb hK hP 8 0 wM_8 rfl hi dX7_rule_58 ?_
            refine lv_goto (tgt := 68) hx hb dX7_rule_59 (by decide) ?_
            exact hret _ _ _ _ _ hP hS hw dX7_rule_68
        · replace hw := And.left hw hc
          refine lv_aload_n hx hb dX7_rule_39 rfl (lv_at hl 0 rfl) ?_
          refine va_get (D := D) (ci := 7) (v := .ref (h 7)) (C := RX7) (T := TX7) (N := 28) hx hb hts inX7 hown hK hP 0 wM_0 rfl 9 (by decide) f4 (fun _ h9 => h9) rfl dX7_rule_40 ?_
          refine lv_iload_n hx hb dX7_rule_43 rfl (lv_at hl 1 rfl) ?_
          obtain ⟨hi, hw⟩ := hw
          refine va_iald hx hb hK hP 7 0 wM_7 rfl hi dX7_rule_44 ?_
          refine lv_goto (tgt := 68) hx hb dX7_rule_45 (by decide) ?_
          exact hret _ _ _ _ _ hP hS hw dX7_rule_68
      · replace hw := And.left hw hc
        refine lv_aload_n hx hb dX7_rule_25 rfl (lv_at hl 0 rfl) ?_
        refine va_get (D := D) (ci := 7) (v := .ref (h 6)) (C := RX7) (T := TX7) (N := 28) hx hb hts inX7 hown hK hP 0 wM_0 rfl 8 (by decide) f5 (fun _ h9 => h9) rfl dX7_rule_26 ?_
        refine lv_iload_n hx hb dX7_rule_29 rfl (lv_at hl 1 rfl) ?_
        obtain ⟨hi, hw⟩ := hw
        refine va_iald hx hb hK hP 6 0 wM_6 rfl hi dX7_rule_30 ?_
        refine lv_goto (tgt := 68) hx hb dX7_rule_31 (by decide) ?_
        exact hret _ _ _ _ _ hP hS hw dX7_rule_68
    · replace hw := And.left hw hc
      refine lv_iconst (v := (-1 : Int32)) hx hb dX7_rule_19 (by decide) ?_
      exact hret _ _ _ _ _ hP hS hw dX7_rule_20
abbrev rX7_type : Room := { frames := 1, cells := 0, slots := 0, locals := 25 }
set_option maxHeartbeats 4000000 in
set_option maxRecDepth 100000 in
theorem mX7_type (l : Launch) (D : va_G) (h : Nat → Nat) (cI cJ : ClassId) (hh : xdis 22 h) (S : SX) (L : LX) (v1 : Int64) (v3 : Int32) (post : Int32 → SX → Prop) (hw : kX7_type S L v1 v3 post) : Met l yX7_type wsX7_type rX7_type (xPre D (wM h cI cJ) (mE D cI cJ) S L [.ref (h 0), .long v1, .int v3]) (va_Qi (fun (r : Int32) (u : SX × LX) => post r u.1 ∧ u.2 = L) (xB D (wM h cI cJ)) (xA 22 h)) 0 0 (xA 22 h) := by
  refine Met.ofW (cc := cX7_type) (maxL := 5) (ret := (some .int)) (by decide) rfl ?_
  intro p e s m args below meth c s₁ B hml hv
  obtain ⟨hargs, hP, hE⟩ := hv
  have hx := B.exec
  have hb := B.bytes
  have hr := B.returns
  have hlocks := B.notSynchronized
  have hts := atoms_spec (ws := wsX7_type) B.pre
  have hown : s.vm.findClass RX7 = some m.cls := findClass_of_methodNamed B.named
  have hS : va_S (xA 22 h) s.heap s.heap [] := va_S.rf
  have hD : ∀ (S : SX) (L : LX), va_D (xA 22 h) (wM h cI cJ S L) := fun S L => wM_D hh cI cJ S L
  have hK := id hE
  have hst : xSt (xA 22 h) (mE D cI cJ) := mE_st D _ cI cJ
  have f0 := hts (.fieldLink RX7 152 "BookOfWillsModel" "taped" "I") (by decide +kernel)
  have inX7 : ∀ w ∈ u_ws RX7 TX7 28, w ∈ wsX7_type := fun w hw9 => List.mem_cons_of_mem _ (List.mem_append_right _ hw9)
  have f2 := hts (.fieldLink RX7 55 "BookOfWillsModel" "tape" "[I") (by decide +kernel)
  have f3 := hts (.constantLong RX7 146 (255)) (by decide +kernel)
  have f4 := hts (.constantLong RX7 148 (32)) (by decide +kernel)
  have f5 := hts (.constantLong RX7 150 (126)) (by decide +kernel)
  have f6 := hts (.constantLong RX7 144 (8)) (by decide +kernel)
  have hl := lv_entry ([.ref (h 0), .long v1, .int v3]) (n := 5) (Nat.le_of_ble_eq_true rfl)
  have hen : entryFrame m args 5 = F0 m 0 ((lg_sl ([.ref (h 0), .long v1, .int v3]) ++ List.replicate (5 - (lg_sl ([.ref (h 0), .long v1, .int v3])).length) Slot.unset).toArray) [] := by rw [hargs]; exact lg_entry_eq m _ _
  rw [hen]
  generalize (lg_sl ([.ref (h 0), .long v1, .int v3]) ++ List.replicate (5 - (lg_sl ([.ref (h 0), .long v1, .int v3])).length) Slot.unset).toArray = ls at hl ⊢
  have hl : lv_has ls 5 [(0, .ref (h 0)), (1, .long v1), (3, .int v3)] := hl
  change W p l e rX7_type s m args below meth c s.heap [] 0 0 (MQ below (va_Qi (fun (r : Int32) (u : SX × LX) => post r u.1 ∧ u.2 = L) (xB D (wM h cI cJ)) (xA 22 h)) args s 0 0 (xA 22 h)) (F0 m 0 ls [])
  have hret : ∀ (r : Int32) (S1 : SX) (H : Heap) (locs : List Loc) (ls : Array Slot) (pc : Nat), va_P D vwCl (wM h cI cJ S1 L) H → va_S (xA 22 h) s.heap H locs → post r S1 → decode cX7_type pc = .ok (.ireturn, 1) → W p l e rX7_type s m args below meth c H locs 0 0 (MQ below (va_Qi (fun (r : Int32) (u : SX × LX) => post r u.1 ∧ u.2 = L) (xB D (wM h cI cJ)) (xA 22 h)) args s 0 0 (xA 22 h)) (F0 m pc ls [.int r]) := fun r S1 H locs ls pc hP hS hw hd => W.iret hx hb hr (fun t ht hW => ⟨⟨r, (S1, L), rfl, ⟨hw, rfl⟩, show va_P D vwCl (wM h cI cJ S1 L) t.heap by rw [ht]; exact hP⟩, hS.F ht⟩) hS.2.2 hd
  generalize MQ below (va_Qi (fun (r : Int32) (u : SX × LX) => post r u.1 ∧ u.2 = L) (xB D (wM h cI cJ)) (xA 22 h)) args s 0 0 (xA 22 h) = Q at hret ⊢
  have b17 : ∀  (n17 : Nat) (v4 : Int32) (S : SX) (H : Heap) (locs : List Loc) (ls : Array Slot), lv_has ls 5 [(0, .ref (h 0)), (1, .long v1), (3, .int v3), (4, .int v4)] → va_P D vwCl (wM h cI cJ S L) H → va_S (xA 22 h) s.heap H locs → kX7_type_b17 L v1 v3 post n17 v4 S → W p l e rX7_type s m args below meth c H locs 0 0 Q (F0 m 17 ls []) := by
    intro n17
    induction n17 with
    | zero => intro v4 S H locs ls hl hP hS hw; exact absurd hw id
    | succ n17 i17 =>
      have b73 : ∀  (n73 : Nat) (v4 : Int32) (S : SX) (H : Heap) (locs : List Loc) (ls : Array Slot), lv_has ls 5 [(0, .ref (h 0)), (1, .long v1), (4, .int v4)] → va_P D vwCl (wM h cI cJ S L) H → va_S (xA 22 h) s.heap H locs → kX7_type_b73 L v1 v3 post n73 v4 S → W p l e rX7_type s m args below meth c H locs 0 0 Q (F0 m 73 ls []) := by
        intro n73
        induction n73 with
        | zero => intro v4 S H locs ls hl hP hS hw; exact absurd hw id
        | succ n73 i73 =>
          intro v4 S H locs ls hl hP hS hw
          unfold kX7_type_b73 at hw
          refine lv_iload hx hb dX7_type_73 (lv_at hl 2 rfl) ?_
          refine lv_if_lt (tgt := 115) hx hb dX7_type_75 (by decide) (fun hc => ?_) (fun hc => ?_)
          · replace hw := And.left hw hc
            refine lv_aload_n hx hb dX7_type_115 rfl (lv_at hl 0 rfl) ?_
            refine va_get (D := D) (ci := 7) (v := .int (S 0 3)) (C := RX7) (T := TX7) (N := 28) hx hb hts inX7 hown hK hP 0 wM_0 rfl 17 (by decide) f0 (fun _ h9 => h9) rfl dX7_type_116 ?_
            exact hret _ _ _ _ _ _ hP hS hw dX7_type_119
          · replace hw := And.right hw hc
            refine lv_aload_n hx hb dX7_type_78 rfl (lv_at hl 0 rfl) ?_
            refine va_get (D := D) (ci := 7) (v := .ref (h 14)) (C := RX7) (T := TX7) (N := 28) hx hb hts inX7 hown hK hP 0 wM_0 rfl 16 (by decide) f2 (fun _ h9 => h9) rfl dX7_type_79 ?_
            refine lv_aload_n hx hb dX7_type_82 rfl (lv_at hl 0 rfl) ?_
            refine va_get (D := D) (ci := 7) (v := .int (S 0 3)) (C := RX7) (T := TX7) (N := 28) hx hb hts inX7 hown hK hP 0 wM_0 rfl 17 (by decide) f0 (fun _ h9 => h9) rfl dX7_type_83 ?_
            refine lv_lload_n hx hb dX7_type_86 rfl (lv_at hl 1 rfl) ?_
            refine lv_bipush (v := (8 : Int32)) hx hb dX7_type_87 (by decide) ?_
            refine lv_iload hx hb dX7_type_89 (lv_at hl 2 rfl) ?_
            refine lv_imul hx hb dX7_type_91 ?_
            refine lv_lshr hx hb dX7_type_92 rfl ?_
            refine lv_ldc2 (v := (255 : Int64)) hx hb hown (f3) dX7_type_93 ?_
            refine lv_land hx hb dX7_type_96 ?_
            refine lv_l2i hx hb dX7_type_97 rfl ?_
            obtain ⟨hi, hw⟩ := hw
            refine x_iast (ws2 := wM h cI cJ (xu S 14 (S 0 3).toNatClampNeg (((v1 >>> (((8 : Int32) * v4).toInt64 &&& 63)) &&& (255 : Int64)).toInt32)) L) hx hb hK hP (hD _ _) hS 14 0 wM_14 rfl hi dX7_type_98 (wM_u14 _ _) (fun H locs hP hS => ?_)
            refine lv_aload_n hx hb dX7_type_99 rfl (lv_at hl 0 rfl) ?_
            refine lv_dup hx hb dX7_type_100 rfl ?_
            refine va_get (D := D) (ci := 7) (v := .int ((xu S 14 (S 0 3).toNatClampNeg (((v1 >>> (((8 : Int32) * v4).toInt64 &&& 63)) &&& (255 : Int64)).toInt32)) 0 3)) (C := RX7) (T := TX7) (N := 28) hx hb hts inX7 hown hK hP 0 wM_0 rfl 17 (by decide) f0 (fun _ h9 => h9) rfl dX7_type_101 ?_
            refine lv_iconst (v := (1 : Int32)) hx hb dX7_type_104 (by decide) ?_
            refine lv_iadd hx hb dX7_type_105 ?_
            refine x_put (D := D) (ci := 7) (v := .int (((xu S 14 (S 0 3).toNatClampNeg (((v1 >>> (((8 : Int32) * v4).toInt64 &&& 63)) &&& (255 : Int64)).toInt32)) 0 3) + (1 : Int32))) (ty := .int) (C := RX7) (T := TX7) (N := 28) (ws2 := wM h cI cJ (xu (xu S 14 (S 0 3).toNatClampNeg (((v1 >>> (((8 : Int32) * v4).toInt64 &&& 63)) &&& (255 : Int64)).toInt32)) 0 3 (((xu S 14 (S 0 3).toNatClampNeg (((v1 >>> (((8 : Int32) * v4).toInt64 &&& 63)) &&& (255 : Int64)).toInt32)) 0 3) + (1 : Int32))) L) hx hb hts inX7 tyX7 tyX7_ok nmX7 hown hK hP (hD _ _) hS 0 wM_0 rfl 17 (by decide) f0 (fun _ h9 => h9) rfl (by decide +kernel) rfl rfl (Nat.le_of_ble_eq_true rfl) dX7_type_106 (wM_p0_3 _) (fun H locs hP hS => ?_)
            refine lv_iinc (v := v4 + (-1 : Int32)) (lv' := [(4, .int (v4 + (-1 : Int32))), (0, .ref (h 0)), (1, .long v1)]) hx hb dX7_type_109 hl (k := 2) rfl rfl (by decide) rfl (fun ls hl => ?_)
            refine lv_goto (tgt := 73) hx hb dX7_type_112 (by decide) ?_
            exact i73 (v4 + (-1 : Int32)) (xu (xu S 14 (S 0 3).toNatClampNeg (((v1 >>> (((8 : Int32) * v4).toInt64 &&& 63)) &&& (255 : Int64)).toInt32)) 0 3 (((xu S 14 (S 0 3).toNatClampNeg (((v1 >>> (((8 : Int32) * v4).toInt64 &&& 63)) &&& (255 : Int64)).toInt32)) 0 3) + (1 : Int32))) _ _ _ (lv_sub hl [1, 2, 0] rfl) hP hS hw
      intro v4 S H locs ls hl hP hS hw
      unfold kX7_type_b17 at hw
      refine lv_iload hx hb dX7_type_17 (lv_at hl 3 rfl) ?_
      refine lv_iload_n hx hb dX7_type_19 rfl (lv_at hl 2 rfl) ?_
      refine lv_icmp_ge (tgt := 54) hx hb dX7_type_20 (by decide) (fun hc => ?_) (fun hc => ?_)
      · replace hw := And.left hw hc
        refine lv_aload_n hx hb dX7_type_54 rfl (lv_at hl 0 rfl) ?_
        refine va_get (D := D) (ci := 7) (v := .int (S 0 3)) (C := RX7) (T := TX7) (N := 28) hx hb hts inX7 hown hK hP 0 wM_0 rfl 17 (by decide) f0 (fun _ h9 => h9) rfl dX7_type_55 ?_
        refine lv_iload_n hx hb dX7_type_58 rfl (lv_at hl 2 rfl) ?_
        refine lv_iadd hx hb dX7_type_59 ?_
        refine lv_bipush (v := (100 : Int32)) hx hb dX7_type_60 (by decide) ?_
        refine lv_icmp_le (tgt := 68) hx hb dX7_type_62 (by decide) (fun hc => ?_) (fun hc => ?_)
        · replace hw := And.left hw hc
          refine lv_iload_n hx hb dX7_type_68 rfl (lv_at hl 2 rfl) ?_
          refine lv_iconst (v := (1 : Int32)) hx hb dX7_type_69 (by decide) ?_
          refine lv_isub hx hb dX7_type_70 ?_
          refine lv_istore (lv' := [(4, .int (v3 - (1 : Int32))), (0, .ref (h 0)), (1, .long v1), (3, .int v3)]) hx hb dX7_type_71 hl (by decide) rfl (fun ls hl => ?_)
          obtain ⟨n73, hw⟩ := hw
          exact b73  n73 (v3 - (1 : Int32)) S _ _ _ (lv_sub hl [1, 2, 0] rfl) hP hS hw
        · replace hw := And.right hw hc
          refine lv_bipush (v := (-3 : Int32)) hx hb dX7_type_65 (by decide) ?_
          exact hret _ _ _ _ _ _ hP hS hw dX7_type_67
      · replace hw := And.right hw hc
        refine lv_lload_n hx hb dX7_type_23 rfl (lv_at hl 1 rfl) ?_
        refine lv_bipush (v := (8 : Int32)) hx hb dX7_type_24 (by decide) ?_
        refine lv_iload hx hb dX7_type_26 (lv_at hl 3 rfl) ?_
        refine lv_imul hx hb dX7_type_28 ?_
        refine lv_lshr hx hb dX7_type_29 rfl ?_
        refine lv_ldc2 (v := (255 : Int64)) hx hb hown (f3) dX7_type_30 ?_
        refine lv_land hx hb dX7_type_33 ?_
        refine lv_ldc2 (v := (32 : Int64)) hx hb hown (f4) dX7_type_34 ?_
        refine lv_ldc2 (v := (126 : Int64)) hx hb hown (f5) dX7_type_37 ?_
        refine xSi0 (As := [.long ((v1 >>> (((8 : Int32) * v4).toInt64 &&& 63)) &&& (255 : Int64)), .long (32 : Int64), .long (126 : Int64)]) (rest := []) hst hE hP hS ⟨hx, hb, hml, hown, hts⟩ (mX7_in l D h cI cJ hh S L ((v1 >>> (((8 : Int32) * v4).toInt64 &&& 63)) &&& (255 : Int64)) (32 : Int64) (126 : Int64) _ hw) (va_cwS 3 hts gX7_type_X7_in rfl rfl rfl (by decide +kernel) ⟨Nat.le_of_ble_eq_true rfl, Nat.le_of_ble_eq_true rfl⟩) rfl hl.1 rfl (Nat.le_of_ble_eq_true rfl) dX7_type_40 ⟨Nat.zero_le _, Nat.zero_le _⟩ (fun r40 H locs hw hP hS => ?_)
        refine lv_if_ne (tgt := 48) hx hb dX7_type_43 (by decide) (fun hc => ?_) (fun hc => ?_)
        · replace hw := And.right hw hc
          refine lv_iinc (v := v4 + (1 : Int32)) (lv' := [(4, .int (v4 + (1 : Int32))), (0, .ref (h 0)), (1, .long v1), (3, .int v3)]) hx hb dX7_type_48 hl (k := 3) rfl rfl (by decide) rfl (fun ls hl => ?_)
          refine lv_goto (tgt := 17) hx hb dX7_type_51 (by decide) ?_
          exact i17 (v4 + (1 : Int32)) S _ _ _ (lv_sub hl [1, 2, 3, 0] rfl) hP hS hw
        · replace hw := And.left hw hc
          refine lv_iconst (v := (-1 : Int32)) hx hb dX7_type_46 (by decide) ?_
          exact hret _ _ _ _ _ _ hP hS hw dX7_type_47
  unfold kX7_type at hw
  refine lv_iload_n hx hb dX7_type_0 rfl (lv_at hl 2 rfl) ?_
  refine lv_i2l hx hb dX7_type_1 rfl ?_
  refine lv_lconst (v := (1 : Int64)) hx hb dX7_type_2 (by decide) ?_
  refine lv_ldc2 (v := (8 : Int64)) hx hb hown (f6) dX7_type_3 ?_
  refine xSi0 (As := [.long v3.toInt64, .long (1 : Int64), .long (8 : Int64)]) (rest := []) hst hE hP hS ⟨hx, hb, hml, hown, hts⟩ (mX7_in l D h cI cJ hh S L v3.toInt64 (1 : Int64) (8 : Int64) _ hw) (va_cwS 3 hts gX7_type_X7_in rfl rfl rfl (by decide +kernel) ⟨Nat.le_of_ble_eq_true rfl, Nat.le_of_ble_eq_true rfl⟩) rfl hl.1 rfl (Nat.le_of_ble_eq_true rfl) dX7_type_6 ⟨Nat.zero_le _, Nat.zero_le _⟩ (fun r6 H locs hw hP hS => ?_)
  refine lv_if_ne (tgt := 14) hx hb dX7_type_9 (by decide) (fun hc => ?_) (fun hc => ?_)
  · replace hw := And.right hw hc
    refine lv_iconst (v := (0 : Int32)) hx hb dX7_type_14 (by decide) ?_
    refine lv_istore (lv' := [(4, .int (0 : Int32)), (0, .ref (h 0)), (1, .long v1), (3, .int v3)]) hx hb dX7_type_15 hl (by decide) rfl (fun ls hl => ?_)
    obtain ⟨n17, hw⟩ := hw
    exact b17  n17 (0 : Int32) S _ _ _ (lv_sub hl [1, 2, 3, 0] rfl) hP hS hw
  · replace hw := And.left hw hc
    refine lv_iconst (v := (-1 : Int32)) hx hb dX7_type_12 (by decide) ?_
    exact hret _ _ _ _ _ _ hP hS hw dX7_type_13
abbrev rX7_here : Room := { frames := 0, cells := 0, slots := 0, locals := 0 }
set_option maxHeartbeats 4000000 in
set_option maxRecDepth 100000 in
theorem mX7_here (l : Launch) (D : va_G) (h : Nat → Nat) (cI cJ : ClassId) (hh : xdis 22 h) (S : SX) (L : LX) (post : Int32 → SX → Prop) (hw : kX7_here S L  post) : Met l yX7_here wsX7_here rX7_here (xPre D (wM h cI cJ) (mE D cI cJ) S L [.ref (h 0)]) (va_Qi (fun (r : Int32) (u : SX × LX) => post r u.1 ∧ u.2 = L) (xB D (wM h cI cJ)) (xA 22 h)) 0 0 (xA 22 h) := by
  refine Met.ofW (cc := cX7_here) (maxL := 1) (ret := (some .int)) (by decide) rfl ?_
  intro p e s m args below meth c s₁ B hml hv
  obtain ⟨hargs, hP, hE⟩ := hv
  have hx := B.exec
  have hb := B.bytes
  have hr := B.returns
  have hlocks := B.notSynchronized
  have hts := atoms_spec (ws := wsX7_here) B.pre
  have hown : s.vm.findClass RX7 = some m.cls := findClass_of_methodNamed B.named
  have hS : va_S (xA 22 h) s.heap s.heap [] := va_S.rf
  have hD : ∀ (S : SX) (L : LX), va_D (xA 22 h) (wM h cI cJ S L) := fun S L => wM_D hh cI cJ S L
  have hK := id hE
  have hst : xSt (xA 22 h) (mE D cI cJ) := mE_st D _ cI cJ
  have f0 := hts (.fieldLink RX7 155 "BookOfWillsModel" "at" "I") (by decide +kernel)
  have inX7 : ∀ w ∈ u_ws RX7 TX7 28, w ∈ wsX7_here := fun w hw9 => List.mem_cons_of_mem _ (List.mem_append_right _ hw9)
  have f2 := hts (.fieldLink RX7 152 "BookOfWillsModel" "taped" "I") (by decide +kernel)
  have f3 := hts (.fieldLink RX7 55 "BookOfWillsModel" "tape" "[I") (by decide +kernel)
  have hl := lv_entry ([.ref (h 0)]) (n := 1) (Nat.le_of_ble_eq_true rfl)
  have hen : entryFrame m args 1 = F0 m 0 ((lg_sl ([.ref (h 0)]) ++ List.replicate (1 - (lg_sl ([.ref (h 0)])).length) Slot.unset).toArray) [] := by rw [hargs]; exact lg_entry_eq m _ _
  rw [hen]
  generalize (lg_sl ([.ref (h 0)]) ++ List.replicate (1 - (lg_sl ([.ref (h 0)])).length) Slot.unset).toArray = ls at hl ⊢
  have hl : lv_has ls 1 [(0, .ref (h 0))] := hl
  change W p l e rX7_here s m args below meth c s.heap [] 0 0 (MQ below (va_Qi (fun (r : Int32) (u : SX × LX) => post r u.1 ∧ u.2 = L) (xB D (wM h cI cJ)) (xA 22 h)) args s 0 0 (xA 22 h)) (F0 m 0 ls [])
  have hret : ∀ (r : Int32) (S1 : SX) (H : Heap) (locs : List Loc) (ls : Array Slot) (pc : Nat), va_P D vwCl (wM h cI cJ S1 L) H → va_S (xA 22 h) s.heap H locs → post r S1 → decode cX7_here pc = .ok (.ireturn, 1) → W p l e rX7_here s m args below meth c H locs 0 0 (MQ below (va_Qi (fun (r : Int32) (u : SX × LX) => post r u.1 ∧ u.2 = L) (xB D (wM h cI cJ)) (xA 22 h)) args s 0 0 (xA 22 h)) (F0 m pc ls [.int r]) := fun r S1 H locs ls pc hP hS hw hd => W.iret hx hb hr (fun t ht hW => ⟨⟨r, (S1, L), rfl, ⟨hw, rfl⟩, show va_P D vwCl (wM h cI cJ S1 L) t.heap by rw [ht]; exact hP⟩, hS.F ht⟩) hS.2.2 hd
  generalize MQ below (va_Qi (fun (r : Int32) (u : SX × LX) => post r u.1 ∧ u.2 = L) (xB D (wM h cI cJ)) (xA 22 h)) args s 0 0 (xA 22 h) = Q at hret ⊢
  have b0 : ∀  (n0 : Nat) (S : SX) (H : Heap) (locs : List Loc) (ls : Array Slot), lv_has ls 1 [(0, .ref (h 0))] → va_P D vwCl (wM h cI cJ S L) H → va_S (xA 22 h) s.heap H locs → kX7_here_b0 L post n0 S → W p l e rX7_here s m args below meth c H locs 0 0 Q (F0 m 0 ls []) := by
    intro n0
    induction n0 with
    | zero => intro S H locs ls hl hP hS hw; exact absurd hw id
    | succ n0 i0 =>
      have b38 : ∀ (S : SX) (H : Heap) (locs : List Loc) (ls : Array Slot), lv_has ls 1 [(0, .ref (h 0))] → va_P D vwCl (wM h cI cJ S L) H → va_S (xA 22 h) s.heap H locs → kX7_here_b38 L post S → W p l e rX7_here s m args below meth c H locs 0 0 Q (F0 m 38 ls []) := by
        intro S H locs ls hl hP hS hw
        unfold kX7_here_b38 at hw
        refine lv_aload_n hx hb dX7_here_38 rfl (lv_at hl 0 rfl) ?_
        refine va_get (D := D) (ci := 7) (v := .int (S 0 4)) (C := RX7) (T := TX7) (N := 28) hx hb hts inX7 hown hK hP 0 wM_0 rfl 18 (by decide) f0 (fun _ h9 => h9) rfl dX7_here_39 ?_
        refine lv_aload_n hx hb dX7_here_42 rfl (lv_at hl 0 rfl) ?_
        refine va_get (D := D) (ci := 7) (v := .int (S 0 3)) (C := RX7) (T := TX7) (N := 28) hx hb hts inX7 hown hK hP 0 wM_0 rfl 17 (by decide) f2 (fun _ h9 => h9) rfl dX7_here_43 ?_
        refine lv_icmp_ge (tgt := 61) hx hb dX7_here_46 (by decide) (fun hc => ?_) (fun hc => ?_)
        · replace hw := And.left hw hc
          refine lv_iconst (v := (0 : Int32)) hx hb dX7_here_61 (by decide) ?_
          exact hret _ _ _ _ _ _ hP hS hw dX7_here_62
        · replace hw := And.right hw hc
          refine lv_aload_n hx hb dX7_here_49 rfl (lv_at hl 0 rfl) ?_
          refine va_get (D := D) (ci := 7) (v := .ref (h 14)) (C := RX7) (T := TX7) (N := 28) hx hb hts inX7 hown hK hP 0 wM_0 rfl 16 (by decide) f3 (fun _ h9 => h9) rfl dX7_here_50 ?_
          refine lv_aload_n hx hb dX7_here_53 rfl (lv_at hl 0 rfl) ?_
          refine va_get (D := D) (ci := 7) (v := .int (S 0 4)) (C := RX7) (T := TX7) (N := 28) hx hb hts inX7 hown hK hP 0 wM_0 rfl 18 (by decide) f0 (fun _ h9 => h9) rfl dX7_here_54 ?_
          obtain ⟨hi, hw⟩ := hw
          refine va_iald hx hb hK hP 14 0 wM_14 rfl hi dX7_here_57 ?_
          refine lv_goto (tgt := 62) hx hb dX7_here_58 (by decide) ?_
          exact hret _ _ _ _ _ _ hP hS hw dX7_here_62
      intro S H locs ls hl hP hS hw
      unfold kX7_here_b0 at hw
      refine lv_aload_n hx hb dX7_here_0 rfl (lv_at hl 0 rfl) ?_
      refine va_get (D := D) (ci := 7) (v := .int (S 0 4)) (C := RX7) (T := TX7) (N := 28) hx hb hts inX7 hown hK hP 0 wM_0 rfl 18 (by decide) f0 (fun _ h9 => h9) rfl dX7_here_1 ?_
      refine lv_aload_n hx hb dX7_here_4 rfl (lv_at hl 0 rfl) ?_
      refine va_get (D := D) (ci := 7) (v := .int (S 0 3)) (C := RX7) (T := TX7) (N := 28) hx hb hts inX7 hown hK hP 0 wM_0 rfl 17 (by decide) f2 (fun _ h9 => h9) rfl dX7_here_5 ?_
      refine lv_icmp_ge (tgt := 38) hx hb dX7_here_8 (by decide) (fun hc => ?_) (fun hc => ?_)
      · replace hw := And.left hw hc
        exact b38 S _ _ _ (lv_sub hl [0] rfl) hP hS hw
      · replace hw := And.right hw hc
        refine lv_aload_n hx hb dX7_here_11 rfl (lv_at hl 0 rfl) ?_
        refine va_get (D := D) (ci := 7) (v := .ref (h 14)) (C := RX7) (T := TX7) (N := 28) hx hb hts inX7 hown hK hP 0 wM_0 rfl 16 (by decide) f3 (fun _ h9 => h9) rfl dX7_here_12 ?_
        refine lv_aload_n hx hb dX7_here_15 rfl (lv_at hl 0 rfl) ?_
        refine va_get (D := D) (ci := 7) (v := .int (S 0 4)) (C := RX7) (T := TX7) (N := 28) hx hb hts inX7 hown hK hP 0 wM_0 rfl 18 (by decide) f0 (fun _ h9 => h9) rfl dX7_here_16 ?_
        obtain ⟨hi, hw⟩ := hw
        refine va_iald hx hb hK hP 14 0 wM_14 rfl hi dX7_here_19 ?_
        refine lv_bipush (v := (32 : Int32)) hx hb dX7_here_20 (by decide) ?_
        refine lv_icmp_ne (tgt := 38) hx hb dX7_here_22 (by decide) (fun hc => ?_) (fun hc => ?_)
        · replace hw := And.right hw hc
          exact b38 S _ _ _ (lv_sub hl [0] rfl) hP hS hw
        · replace hw := And.left hw hc
          refine lv_aload_n hx hb dX7_here_25 rfl (lv_at hl 0 rfl) ?_
          refine lv_dup hx hb dX7_here_26 rfl ?_
          refine va_get (D := D) (ci := 7) (v := .int (S 0 4)) (C := RX7) (T := TX7) (N := 28) hx hb hts inX7 hown hK hP 0 wM_0 rfl 18 (by decide) f0 (fun _ h9 => h9) rfl dX7_here_27 ?_
          refine lv_iconst (v := (1 : Int32)) hx hb dX7_here_30 (by decide) ?_
          refine lv_iadd hx hb dX7_here_31 ?_
          refine x_put (D := D) (ci := 7) (v := .int ((S 0 4) + (1 : Int32))) (ty := .int) (C := RX7) (T := TX7) (N := 28) (ws2 := wM h cI cJ (xu S 0 4 ((S 0 4) + (1 : Int32))) L) hx hb hts inX7 tyX7 tyX7_ok nmX7 hown hK hP (hD _ _) hS 0 wM_0 rfl 18 (by decide) f0 (fun _ h9 => h9) rfl (by decide +kernel) rfl rfl (Nat.le_of_ble_eq_true rfl) dX7_here_32 (wM_p0_4 _) (fun H locs hP hS => ?_)
          refine lv_goto (tgt := 0) hx hb dX7_here_35 (by decide) ?_
          exact i0 (xu S 0 4 ((S 0 4) + (1 : Int32))) _ _ _ (lv_sub hl [0] rfl) hP hS hw
  unfold kX7_here at hw
  obtain ⟨n0, hw⟩ := hw
  exact b0  n0 S _ _ _ (lv_sub hl [0] rfl) hP hS hw
abbrev rX7_has : Room := { frames := 1, cells := 0, slots := 0, locals := 20 }
set_option maxHeartbeats 4000000 in
set_option maxRecDepth 100000 in
theorem mX7_has (l : Launch) (D : va_G) (h : Nat → Nat) (cI cJ : ClassId) (hh : xdis 22 h) (S : SX) (L : LX) (v1 : Int32) (post : Int32 → SX → Prop) (hw : kX7_has S L v1 post) : Met l yX7_has wsX7_has rX7_has (xPre D (wM h cI cJ) (mE D cI cJ) S L [.ref (h 0), .int v1]) (va_Qi (fun (r : Int32) (u : SX × LX) => post r u.1 ∧ u.2 = L) (xB D (wM h cI cJ)) (xA 22 h)) 0 0 (xA 22 h) := by
  refine Met.ofW (cc := cX7_has) (maxL := 3) (ret := (some .boolean)) (by decide) rfl ?_
  intro p e s m args below meth c s₁ B hml hv
  obtain ⟨hargs, hP, hE⟩ := hv
  have hx := B.exec
  have hb := B.bytes
  have hr := B.returns
  have hlocks := B.notSynchronized
  have hts := atoms_spec (ws := wsX7_has) B.pre
  have hown : s.vm.findClass RX7 = some m.cls := findClass_of_methodNamed B.named
  have hS : va_S (xA 22 h) s.heap s.heap [] := va_S.rf
  have hD : ∀ (S : SX) (L : LX), va_D (xA 22 h) (wM h cI cJ S L) := fun S L => wM_D hh cI cJ S L
  have hK := id hE
  have hst : xSt (xA 22 h) (mE D cI cJ) := mE_st D _ cI cJ
  have f0 := hts (.fieldLink RX7 155 "BookOfWillsModel" "at" "I") (by decide +kernel)
  have inX7 : ∀ w ∈ u_ws RX7 TX7 28, w ∈ wsX7_has := fun w hw9 => List.mem_cons_of_mem _ (List.mem_append_right _ hw9)
  have f2 := hts (.fieldLink RX7 158 "BookOfWillsModel" "wrong" "Z") (by decide +kernel)
  have hl := lv_entry ([.ref (h 0), .int v1]) (n := 3) (Nat.le_of_ble_eq_true rfl)
  have hen : entryFrame m args 3 = F0 m 0 ((lg_sl ([.ref (h 0), .int v1]) ++ List.replicate (3 - (lg_sl ([.ref (h 0), .int v1])).length) Slot.unset).toArray) [] := by rw [hargs]; exact lg_entry_eq m _ _
  rw [hen]
  generalize (lg_sl ([.ref (h 0), .int v1]) ++ List.replicate (3 - (lg_sl ([.ref (h 0), .int v1])).length) Slot.unset).toArray = ls at hl ⊢
  have hl : lv_has ls 3 [(0, .ref (h 0)), (1, .int v1)] := hl
  change W p l e rX7_has s m args below meth c s.heap [] 0 0 (MQ below (va_Qi (fun (r : Int32) (u : SX × LX) => post r u.1 ∧ u.2 = L) (xB D (wM h cI cJ)) (xA 22 h)) args s 0 0 (xA 22 h)) (F0 m 0 ls [])
  have hret : ∀ (r : Int32) (S1 : SX) (H : Heap) (locs : List Loc) (ls : Array Slot) (pc : Nat), va_P D vwCl (wM h cI cJ S1 L) H → va_S (xA 22 h) s.heap H locs → post r S1 → narrow .boolean (.int r) = .int r → decode cX7_has pc = .ok (.ireturn, 1) → W p l e rX7_has s m args below meth c H locs 0 0 (MQ below (va_Qi (fun (r : Int32) (u : SX × LX) => post r u.1 ∧ u.2 = L) (xB D (wM h cI cJ)) (xA 22 h)) args s 0 0 (xA 22 h)) (F0 m pc ls [.int r]) := fun r S1 H locs ls pc hP hS hw hna hd => W.zret hx hb hr hna (fun t ht hW => ⟨⟨r, (S1, L), rfl, ⟨hw, rfl⟩, show va_P D vwCl (wM h cI cJ S1 L) t.heap by rw [ht]; exact hP⟩, hS.F ht⟩) hS.2.2 hd
  generalize MQ below (va_Qi (fun (r : Int32) (u : SX × LX) => post r u.1 ∧ u.2 = L) (xB D (wM h cI cJ)) (xA 22 h)) args s 0 0 (xA 22 h) = Q at hret ⊢
  have b20 : ∀ (z0 : Int32) (S : SX) (H : Heap) (locs : List Loc) (ls : Array Slot), lv_has ls 3 [(0, .ref (h 0))] → va_P D vwCl (wM h cI cJ S L) H → va_S (xA 22 h) s.heap H locs → kX7_has_b20 L v1 post z0 S → W p l e rX7_has s m args below meth c H locs 0 0 Q (F0 m 20 ls [.int z0]) := by
    intro z0 S H locs ls hl hP hS hw
    unfold kX7_has_b20 at hw
    refine lv_istore_n (lv' := [(2, .int z0), (0, .ref (h 0))]) hx hb dX7_has_20 rfl hl (by decide) rfl (fun ls hl => ?_)
    refine lv_aload_n hx hb dX7_has_21 rfl (lv_at hl 1 rfl) ?_
    refine lv_dup hx hb dX7_has_22 rfl ?_
    refine va_get (D := D) (ci := 7) (v := .int (S 0 4)) (C := RX7) (T := TX7) (N := 28) hx hb hts inX7 hown hK hP 0 wM_0 rfl 18 (by decide) f0 (fun _ h9 => h9) rfl dX7_has_23 ?_
    refine lv_iload_n hx hb dX7_has_26 rfl (lv_at hl 0 rfl) ?_
    refine lv_if_eq (tgt := 34) hx hb dX7_has_27 (by decide) (fun hc => ?_) (fun hc => ?_)
    · replace hw := And.left hw hc
      refine lv_iconst (v := (0 : Int32)) hx hb dX7_has_34 (by decide) ?_
      refine lv_iadd hx hb dX7_has_35 ?_
      refine x_put (D := D) (ci := 7) (v := .int ((S 0 4) + (0 : Int32))) (ty := .int) (C := RX7) (T := TX7) (N := 28) (ws2 := wM h cI cJ (xu S 0 4 ((S 0 4) + (0 : Int32))) L) hx hb hts inX7 tyX7 tyX7_ok nmX7 hown hK hP (hD _ _) hS 0 wM_0 rfl 18 (by decide) f0 (fun _ h9 => h9) rfl (by decide +kernel) rfl rfl (Nat.le_of_ble_eq_true rfl) dX7_has_36 (wM_p0_4 _) (fun H locs hP hS => ?_)
      refine lv_iload_n hx hb dX7_has_39 rfl (lv_at hl 0 rfl) ?_
      exact hret _ _ _ _ _ _ hP hS hw.2 (xb_n hw.1) dX7_has_40
    · replace hw := And.right hw hc
      refine lv_iconst (v := (1 : Int32)) hx hb dX7_has_30 (by decide) ?_
      refine lv_goto (tgt := 35) hx hb dX7_has_31 (by decide) ?_
      refine lv_iadd hx hb dX7_has_35 ?_
      refine x_put (D := D) (ci := 7) (v := .int ((S 0 4) + (1 : Int32))) (ty := .int) (C := RX7) (T := TX7) (N := 28) (ws2 := wM h cI cJ (xu S 0 4 ((S 0 4) + (1 : Int32))) L) hx hb hts inX7 tyX7 tyX7_ok nmX7 hown hK hP (hD _ _) hS 0 wM_0 rfl 18 (by decide) f0 (fun _ h9 => h9) rfl (by decide +kernel) rfl rfl (Nat.le_of_ble_eq_true rfl) dX7_has_36 (wM_p0_4 _) (fun H locs hP hS => ?_)
      refine lv_iload_n hx hb dX7_has_39 rfl (lv_at hl 0 rfl) ?_
      exact hret _ _ _ _ _ _ hP hS hw.2 (xb_n hw.1) dX7_has_40
  have b19 : ∀ (S : SX) (H : Heap) (locs : List Loc) (ls : Array Slot), lv_has ls 3 [(0, .ref (h 0))] → va_P D vwCl (wM h cI cJ S L) H → va_S (xA 22 h) s.heap H locs → kX7_has_b19 L v1 post (kX7_has_b20 L v1 post) S → W p l e rX7_has s m args below meth c H locs 0 0 Q (F0 m 19 ls []) := by
    intro S H locs ls hl hP hS hw
    unfold kX7_has_b19 at hw
    refine lv_iconst (v := (0 : Int32)) hx hb dX7_has_19 (by decide) ?_
    exact b20 (0 : Int32) S _ _ _ (lv_sub hl [0] rfl) hP hS hw
  unfold kX7_has at hw
  refine lv_aload_n hx hb dX7_has_0 rfl (lv_at hl 0 rfl) ?_
  refine va_get (D := D) (ci := 7) (v := .int (S 0 5)) (C := RX7) (T := TX7) (N := 28) hx hb hts inX7 hown hK hP 0 wM_0 rfl 19 (by decide) f2 (fun _ h9 => h9) rfl dX7_has_1 ?_
  refine lv_if_ne (tgt := 19) hx hb dX7_has_4 (by decide) (fun hc => ?_) (fun hc => ?_)
  · replace hw := And.right hw hc
    exact b19 S _ _ _ (lv_sub hl [0] rfl) hP hS hw
  · replace hw := And.left hw hc
    refine lv_aload_n hx hb dX7_has_7 rfl (lv_at hl 0 rfl) ?_
    refine xVi1 (As := []) (rest := []) hst hE hP hS ⟨hx, hb, hml, hown, hts⟩ (va_recv hK hP (ci := 7) (q := (RX7, TX7, 28)) rfl wM_0) (mX7_here l D h cI cJ hh S L  _ hw) (cwV 0 hts gX7_has_X7_here rfl rfl rfl (by decide +kernel) ⟨Nat.le_of_ble_eq_true rfl, Nat.le_of_ble_eq_true rfl⟩) rfl hl.1 rfl (Nat.le_of_ble_eq_true rfl) dX7_has_8 ⟨Nat.zero_le _, Nat.zero_le _⟩ (fun r8 S8 H locs hw hP hS => ?_)
    refine lv_iload_n hx hb dX7_has_11 rfl (lv_at hl 1 rfl) ?_
    refine lv_icmp_ne (tgt := 19) hx hb dX7_has_12 (by decide) (fun hc => ?_) (fun hc => ?_)
    · replace hw := And.right hw hc
      exact b19 S8 _ _ _ (lv_sub hl [0] rfl) hP hS hw
    · replace hw := And.left hw hc
      refine lv_iconst (v := (1 : Int32)) hx hb dX7_has_15 (by decide) ?_
      refine lv_goto (tgt := 20) hx hb dX7_has_16 (by decide) ?_
      exact b20 (1 : Int32) S8 _ _ _ (lv_sub hl [0] rfl) hP hS hw
abbrev rX7_digit : Room := { frames := 1, cells := 0, slots := 0, locals := 25 }
set_option maxHeartbeats 4000000 in
set_option maxRecDepth 100000 in
theorem mX7_digit (l : Launch) (D : va_G) (h : Nat → Nat) (cI cJ : ClassId) (hh : xdis 22 h) (S : SX) (L : LX) (v1 : Int32) (post : Int32 → SX → Prop) (hw : kX7_digit S L v1 post) : Met l yX7_digit wsX7_digit rX7_digit (xPre D (wM h cI cJ) (mE D cI cJ) S L [.ref (h 0), .int v1]) (va_Qi (fun (r : Int32) (u : SX × LX) => post r u.1 ∧ u.2 = L) (xB D (wM h cI cJ)) (xA 22 h)) 0 0 (xA 22 h) := by
  refine Met.ofW (cc := cX7_digit) (maxL := 3) (ret := (some .int)) (by decide) rfl ?_
  intro p e s m args below meth c s₁ B hml hv
  obtain ⟨hargs, hP, hE⟩ := hv
  have hx := B.exec
  have hb := B.bytes
  have hr := B.returns
  have hlocks := B.notSynchronized
  have hts := atoms_spec (ws := wsX7_digit) B.pre
  have hown : s.vm.findClass RX7 = some m.cls := findClass_of_methodNamed B.named
  have hS : va_S (xA 22 h) s.heap s.heap [] := va_S.rf
  have hD : ∀ (S : SX) (L : LX), va_D (xA 22 h) (wM h cI cJ S L) := fun S L => wM_D hh cI cJ S L
  have hK := id hE
  have hst : xSt (xA 22 h) (mE D cI cJ) := mE_st D _ cI cJ
  have f0 := hts (.fieldLink RX7 155 "BookOfWillsModel" "at" "I") (by decide +kernel)
  have inX7 : ∀ w ∈ u_ws RX7 TX7 28, w ∈ wsX7_digit := fun w hw9 => List.mem_cons_of_mem _ (List.mem_append_right _ hw9)
  have f2 := hts (.fieldLink RX7 158 "BookOfWillsModel" "wrong" "Z") (by decide +kernel)
  have f3 := hts (.constantLong RX7 166 (48)) (by decide +kernel)
  have hl := lv_entry ([.ref (h 0), .int v1]) (n := 3) (Nat.le_of_ble_eq_true rfl)
  have hen : entryFrame m args 3 = F0 m 0 ((lg_sl ([.ref (h 0), .int v1]) ++ List.replicate (3 - (lg_sl ([.ref (h 0), .int v1])).length) Slot.unset).toArray) [] := by rw [hargs]; exact lg_entry_eq m _ _
  rw [hen]
  generalize (lg_sl ([.ref (h 0), .int v1]) ++ List.replicate (3 - (lg_sl ([.ref (h 0), .int v1])).length) Slot.unset).toArray = ls at hl ⊢
  have hl : lv_has ls 3 [(0, .ref (h 0)), (1, .int v1)] := hl
  change W p l e rX7_digit s m args below meth c s.heap [] 0 0 (MQ below (va_Qi (fun (r : Int32) (u : SX × LX) => post r u.1 ∧ u.2 = L) (xB D (wM h cI cJ)) (xA 22 h)) args s 0 0 (xA 22 h)) (F0 m 0 ls [])
  have hret : ∀ (r : Int32) (S1 : SX) (H : Heap) (locs : List Loc) (ls : Array Slot) (pc : Nat), va_P D vwCl (wM h cI cJ S1 L) H → va_S (xA 22 h) s.heap H locs → post r S1 → decode cX7_digit pc = .ok (.ireturn, 1) → W p l e rX7_digit s m args below meth c H locs 0 0 (MQ below (va_Qi (fun (r : Int32) (u : SX × LX) => post r u.1 ∧ u.2 = L) (xB D (wM h cI cJ)) (xA 22 h)) args s 0 0 (xA 22 h)) (F0 m pc ls [.int r]) := fun r S1 H locs ls pc hP hS hw hd => W.iret hx hb hr (fun t ht hW => ⟨⟨r, (S1, L), rfl, ⟨hw, rfl⟩, show va_P D vwCl (wM h cI cJ S1 L) t.heap by rw [ht]; exact hP⟩, hS.F ht⟩) hS.2.2 hd
  generalize MQ below (va_Qi (fun (r : Int32) (u : SX × LX) => post r u.1 ∧ u.2 = L) (xB D (wM h cI cJ)) (xA 22 h)) args s 0 0 (xA 22 h) = Q at hret ⊢
  have b32 : ∀ (z1 : Int32) (S : SX) (H : Heap) (locs : List Loc) (ls : Array Slot), lv_has ls 3 [(0, .ref (h 0))] → va_P D vwCl (wM h cI cJ S L) H → va_S (xA 22 h) s.heap H locs → kX7_digit_b32 L v1 post z1 S → W p l e rX7_digit s m args below meth c H locs 0 0 Q (F0 m 32 ls [.int z1, .ref (h 0)]) := by
    have b53 : ∀ (z0 : Int32) (S : SX) (H : Heap) (locs : List Loc) (ls : Array Slot), lv_has ls 3 [(0, .ref (h 0))] → va_P D vwCl (wM h cI cJ S L) H → va_S (xA 22 h) s.heap H locs → kX7_digit_b53 L v1 post z0 S → W p l e rX7_digit s m args below meth c H locs 0 0 Q (F0 m 53 ls [.int z0]) := by
      intro z0 S H locs ls hl hP hS hw
      unfold kX7_digit_b53 at hw
      refine lv_istore_n (lv' := [(2, .int z0), (0, .ref (h 0))]) hx hb dX7_digit_53 rfl hl (by decide) rfl (fun ls hl => ?_)
      refine lv_aload_n hx hb dX7_digit_54 rfl (lv_at hl 1 rfl) ?_
      refine lv_dup hx hb dX7_digit_55 rfl ?_
      refine va_get (D := D) (ci := 7) (v := .int (S 0 4)) (C := RX7) (T := TX7) (N := 28) hx hb hts inX7 hown hK hP 0 wM_0 rfl 18 (by decide) f0 (fun _ h9 => h9) rfl dX7_digit_56 ?_
      refine lv_aload_n hx hb dX7_digit_59 rfl (lv_at hl 1 rfl) ?_
      refine va_get (D := D) (ci := 7) (v := .int (S 0 5)) (C := RX7) (T := TX7) (N := 28) hx hb hts inX7 hown hK hP 0 wM_0 rfl 19 (by decide) f2 (fun _ h9 => h9) rfl dX7_digit_60 ?_
      refine lv_if_eq (tgt := 70) hx hb dX7_digit_63 (by decide) (fun hc => ?_) (fun hc => ?_)
      · replace hw := And.left hw hc
        refine lv_iconst (v := (1 : Int32)) hx hb dX7_digit_70 (by decide) ?_
        refine lv_iadd hx hb dX7_digit_71 ?_
        refine x_put (D := D) (ci := 7) (v := .int ((S 0 4) + (1 : Int32))) (ty := .int) (C := RX7) (T := TX7) (N := 28) (ws2 := wM h cI cJ (xu S 0 4 ((S 0 4) + (1 : Int32))) L) hx hb hts inX7 tyX7 tyX7_ok nmX7 hown hK hP (hD _ _) hS 0 wM_0 rfl 18 (by decide) f0 (fun _ h9 => h9) rfl (by decide +kernel) rfl rfl (Nat.le_of_ble_eq_true rfl) dX7_digit_72 (wM_p0_4 _) (fun H locs hP hS => ?_)
        refine lv_iload_n hx hb dX7_digit_75 rfl (lv_at hl 0 rfl) ?_
        exact hret _ _ _ _ _ _ hP hS hw dX7_digit_76
      · replace hw := And.right hw hc
        refine lv_iconst (v := (0 : Int32)) hx hb dX7_digit_66 (by decide) ?_
        refine lv_goto (tgt := 71) hx hb dX7_digit_67 (by decide) ?_
        refine lv_iadd hx hb dX7_digit_71 ?_
        refine x_put (D := D) (ci := 7) (v := .int ((S 0 4) + (0 : Int32))) (ty := .int) (C := RX7) (T := TX7) (N := 28) (ws2 := wM h cI cJ (xu S 0 4 ((S 0 4) + (0 : Int32))) L) hx hb hts inX7 tyX7 tyX7_ok nmX7 hown hK hP (hD _ _) hS 0 wM_0 rfl 18 (by decide) f0 (fun _ h9 => h9) rfl (by decide +kernel) rfl rfl (Nat.le_of_ble_eq_true rfl) dX7_digit_72 (wM_p0_4 _) (fun H locs hP hS => ?_)
        refine lv_iload_n hx hb dX7_digit_75 rfl (lv_at hl 0 rfl) ?_
        exact hret _ _ _ _ _ _ hP hS hw dX7_digit_76
    intro z1 S H locs ls hl hP hS hw
    unfold kX7_digit_b32 at hw
    obtain ⟨hi, hw⟩ := hw
    refine x_put (D := D) (ci := 7) (v := .int z1) (ty := .boolean) (C := RX7) (T := TX7) (N := 28) (ws2 := wM h cI cJ (xu S 0 5 z1) L) hx hb hts inX7 tyX7 tyX7_ok nmX7 hown hK hP (hD _ _) hS 0 wM_0 rfl 19 (by decide) f2 (fun _ h9 => h9) rfl (by decide +kernel) (xb_n hi) (xb_f hi) (Nat.le_of_ble_eq_true rfl) dX7_digit_32 (wM_p0_5 _) (fun H locs hP hS => ?_)
    refine lv_aload_n hx hb dX7_digit_35 rfl (lv_at hl 0 rfl) ?_
    refine va_get (D := D) (ci := 7) (v := .int ((xu S 0 5 z1) 0 5)) (C := RX7) (T := TX7) (N := 28) hx hb hts inX7 hown hK hP 0 wM_0 rfl 19 (by decide) f2 (fun _ h9 => h9) rfl dX7_digit_36 ?_
    refine lv_if_eq (tgt := 46) hx hb dX7_digit_39 (by decide) (fun hc => ?_) (fun hc => ?_)
    · replace hw := And.left hw hc
      refine lv_aload_n hx hb dX7_digit_46 rfl (lv_at hl 0 rfl) ?_
      refine xVi1 (As := []) (rest := []) hst hE hP hS ⟨hx, hb, hml, hown, hts⟩ (va_recv hK hP (ci := 7) (q := (RX7, TX7, 28)) rfl wM_0) (mX7_here l D h cI cJ hh (xu S 0 5 z1) L  _ hw) (cwV 0 hts gX7_digit_X7_here rfl rfl rfl (by decide +kernel) ⟨Nat.le_of_ble_eq_true rfl, Nat.le_of_ble_eq_true rfl⟩) rfl hl.1 rfl (Nat.le_of_ble_eq_true rfl) dX7_digit_47 ⟨Nat.zero_le _, Nat.zero_le _⟩ (fun r47 S47 H locs hw hP hS => ?_)
      refine lv_bipush (v := (48 : Int32)) hx hb dX7_digit_50 (by decide) ?_
      refine lv_isub hx hb dX7_digit_52 ?_
      exact b53 (r47 - (48 : Int32)) S47 _ _ _ (lv_sub hl [0] rfl) hP hS hw
    · replace hw := And.right hw hc
      refine lv_iconst (v := (0 : Int32)) hx hb dX7_digit_42 (by decide) ?_
      refine lv_goto (tgt := 53) hx hb dX7_digit_43 (by decide) ?_
      exact b53 (0 : Int32) (xu S 0 5 z1) _ _ _ (lv_sub hl [0] rfl) hP hS hw
  have b27 : ∀ (S : SX) (H : Heap) (locs : List Loc) (ls : Array Slot), lv_has ls 3 [(0, .ref (h 0))] → va_P D vwCl (wM h cI cJ S L) H → va_S (xA 22 h) s.heap H locs → kX7_digit_b27 L v1 post (kX7_digit_b32 L v1 post) S → W p l e rX7_digit s m args below meth c H locs 0 0 Q (F0 m 27 ls [.ref (h 0)]) := by
    intro S H locs ls hl hP hS hw
    unfold kX7_digit_b27 at hw
    refine lv_iconst (v := (1 : Int32)) hx hb dX7_digit_27 (by decide) ?_
    refine lv_goto (tgt := 32) hx hb dX7_digit_28 (by decide) ?_
    exact b32 (1 : Int32) S _ _ _ (lv_sub hl [0] rfl) hP hS hw
  unfold kX7_digit at hw
  refine lv_aload_n hx hb dX7_digit_0 rfl (lv_at hl 0 rfl) ?_
  refine lv_aload_n hx hb dX7_digit_1 rfl (lv_at hl 0 rfl) ?_
  refine va_get (D := D) (ci := 7) (v := .int (S 0 5)) (C := RX7) (T := TX7) (N := 28) hx hb hts inX7 hown hK hP 0 wM_0 rfl 19 (by decide) f2 (fun _ h9 => h9) rfl dX7_digit_2 ?_
  refine lv_if_ne (tgt := 27) hx hb dX7_digit_5 (by decide) (fun hc => ?_) (fun hc => ?_)
  · replace hw := And.right hw hc
    exact b27 S _ _ _ (lv_sub hl [0] rfl) hP hS hw
  · replace hw := And.left hw hc
    refine lv_aload_n hx hb dX7_digit_8 rfl (lv_at hl 0 rfl) ?_
    refine xVi1 (As := []) (rest := [.ref (h 0)]) hst hE hP hS ⟨hx, hb, hml, hown, hts⟩ (va_recv hK hP (ci := 7) (q := (RX7, TX7, 28)) rfl wM_0) (mX7_here l D h cI cJ hh S L  _ hw) (cwV 0 hts gX7_digit_X7_here rfl rfl rfl (by decide +kernel) ⟨Nat.le_of_ble_eq_true rfl, Nat.le_of_ble_eq_true rfl⟩) rfl hl.1 rfl (Nat.le_of_ble_eq_true rfl) dX7_digit_9 ⟨Nat.zero_le _, Nat.zero_le _⟩ (fun r9 S9 H locs hw hP hS => ?_)
    refine lv_i2l hx hb dX7_digit_12 rfl ?_
    refine lv_ldc2 (v := (48 : Int64)) hx hb hown (f3) dX7_digit_13 ?_
    refine lv_bipush (v := (48 : Int32)) hx hb dX7_digit_16 (by decide) ?_
    refine lv_iload_n hx hb dX7_digit_18 rfl (lv_at hl 1 rfl) ?_
    refine lv_iadd hx hb dX7_digit_19 ?_
    refine lv_i2l hx hb dX7_digit_20 rfl ?_
    refine xSi0 (As := [.long r9.toInt64, .long (48 : Int64), .long (((48 : Int32) + v1).toInt64)]) (rest := [.ref (h 0)]) hst hE hP hS ⟨hx, hb, hml, hown, hts⟩ (mX7_in l D h cI cJ hh S9 L r9.toInt64 (48 : Int64) (((48 : Int32) + v1).toInt64) _ hw) (va_cwS 3 hts gX7_digit_X7_in rfl rfl rfl (by decide +kernel) ⟨Nat.le_of_ble_eq_true rfl, Nat.le_of_ble_eq_true rfl⟩) rfl hl.1 rfl (Nat.le_of_ble_eq_true rfl) dX7_digit_21 ⟨Nat.zero_le _, Nat.zero_le _⟩ (fun r21 H locs hw hP hS => ?_)
    refine lv_if_ne (tgt := 31) hx hb dX7_digit_24 (by decide) (fun hc => ?_) (fun hc => ?_)
    · replace hw := And.right hw hc
      refine lv_iconst (v := (0 : Int32)) hx hb dX7_digit_31 (by decide) ?_
      exact b32 (0 : Int32) S9 _ _ _ (lv_sub hl [0] rfl) hP hS hw
    · replace hw := And.left hw hc
      exact b27 S9 _ _ _ (lv_sub hl [0] rfl) hP hS hw
abbrev rX7_number : Room := { frames := 1, cells := 0, slots := 0, locals := 25 }
set_option maxHeartbeats 4000000 in
set_option maxRecDepth 100000 in
theorem mX7_number (l : Launch) (D : va_G) (h : Nat → Nat) (cI cJ : ClassId) (hh : xdis 22 h) (S : SX) (L : LX) (v1 : Int32) (post : Int32 → SX → Prop) (hw : kX7_number S L v1 post) : Met l yX7_number wsX7_number rX7_number (xPre D (wM h cI cJ) (mE D cI cJ) S L [.ref (h 0), .int v1]) (va_Qi (fun (r : Int32) (u : SX × LX) => post r u.1 ∧ u.2 = L) (xB D (wM h cI cJ)) (xA 22 h)) 0 0 (xA 22 h) := by
  refine Met.ofW (cc := cX7_number) (maxL := 4) (ret := (some .int)) (by decide) rfl ?_
  intro p e s m args below meth c s₁ B hml hv
  obtain ⟨hargs, hP, hE⟩ := hv
  have hx := B.exec
  have hb := B.bytes
  have hr := B.returns
  have hlocks := B.notSynchronized
  have hts := atoms_spec (ws := wsX7_number) B.pre
  have hown : s.vm.findClass RX7 = some m.cls := findClass_of_methodNamed B.named
  have hS : va_S (xA 22 h) s.heap s.heap [] := va_S.rf
  have hD : ∀ (S : SX) (L : LX), va_D (xA 22 h) (wM h cI cJ S L) := fun S L => wM_D hh cI cJ S L
  have hK := id hE
  have hst : xSt (xA 22 h) (mE D cI cJ) := mE_st D _ cI cJ
  have f0 := hts (.fieldLink RX7 158 "BookOfWillsModel" "wrong" "Z") (by decide +kernel)
  have inX7 : ∀ w ∈ u_ws RX7 TX7 28, w ∈ wsX7_number := fun w hw9 => List.mem_cons_of_mem _ (List.mem_append_right _ hw9)
  have f2 := hts (.fieldLink RX7 155 "BookOfWillsModel" "at" "I") (by decide +kernel)
  have f3 := hts (.fieldLink RX7 152 "BookOfWillsModel" "taped" "I") (by decide +kernel)
  have f4 := hts (.fieldLink RX7 55 "BookOfWillsModel" "tape" "[I") (by decide +kernel)
  have f5 := hts (.constantLong RX7 166 (48)) (by decide +kernel)
  have f6 := hts (.constantLong RX7 168 (57)) (by decide +kernel)
  have f7 := hts (.constant RX7 13 (99999)) (by decide +kernel)
  have hl := lv_entry ([.ref (h 0), .int v1]) (n := 4) (Nat.le_of_ble_eq_true rfl)
  have hen : entryFrame m args 4 = F0 m 0 ((lg_sl ([.ref (h 0), .int v1]) ++ List.replicate (4 - (lg_sl ([.ref (h 0), .int v1])).length) Slot.unset).toArray) [] := by rw [hargs]; exact lg_entry_eq m _ _
  rw [hen]
  generalize (lg_sl ([.ref (h 0), .int v1]) ++ List.replicate (4 - (lg_sl ([.ref (h 0), .int v1])).length) Slot.unset).toArray = ls at hl ⊢
  have hl : lv_has ls 4 [(0, .ref (h 0)), (1, .int v1)] := hl
  change W p l e rX7_number s m args below meth c s.heap [] 0 0 (MQ below (va_Qi (fun (r : Int32) (u : SX × LX) => post r u.1 ∧ u.2 = L) (xB D (wM h cI cJ)) (xA 22 h)) args s 0 0 (xA 22 h)) (F0 m 0 ls [])
  have hret : ∀ (r : Int32) (S1 : SX) (H : Heap) (locs : List Loc) (ls : Array Slot) (pc : Nat), va_P D vwCl (wM h cI cJ S1 L) H → va_S (xA 22 h) s.heap H locs → post r S1 → decode cX7_number pc = .ok (.ireturn, 1) → W p l e rX7_number s m args below meth c H locs 0 0 (MQ below (va_Qi (fun (r : Int32) (u : SX × LX) => post r u.1 ∧ u.2 = L) (xB D (wM h cI cJ)) (xA 22 h)) args s 0 0 (xA 22 h)) (F0 m pc ls [.int r]) := fun r S1 H locs ls pc hP hS hw hd => W.iret hx hb hr (fun t ht hW => ⟨⟨r, (S1, L), rfl, ⟨hw, rfl⟩, show va_P D vwCl (wM h cI cJ S1 L) t.heap by rw [ht]; exact hP⟩, hS.F ht⟩) hS.2.2 hd
  generalize MQ below (va_Qi (fun (r : Int32) (u : SX × LX) => post r u.1 ∧ u.2 = L) (xB D (wM h cI cJ)) (xA 22 h)) args s 0 0 (xA 22 h) = Q at hret ⊢
  have b38 : ∀ (v2 : Int32) (n38 : Nat) (v3 : Int32) (S : SX) (H : Heap) (locs : List Loc) (ls : Array Slot), lv_has ls 4 [(0, .ref (h 0)), (1, .int v1), (2, .int v2), (3, .int v3)] → va_P D vwCl (wM h cI cJ S L) H → va_S (xA 22 h) s.heap H locs → kX7_number_b38 L v1 v2 post n38 v3 S → W p l e rX7_number s m args below meth c H locs 0 0 Q (F0 m 38 ls []) := by
    intro v2 n38
    induction n38 with
    | zero => intro v3 S H locs ls hl hP hS hw; exact absurd hw id
    | succ n38 i38 =>
      have b112 : ∀ (v3 : Int32) (S : SX) (H : Heap) (locs : List Loc) (ls : Array Slot), lv_has ls 4 [(0, .ref (h 0)), (1, .int v1), (2, .int v2), (3, .int v3)] → va_P D vwCl (wM h cI cJ S L) H → va_S (xA 22 h) s.heap H locs → kX7_number_b112 L v1 v2 post v3 S → W p l e rX7_number s m args below meth c H locs 0 0 Q (F0 m 112 ls []) := by
        have b123 : ∀ (v3 : Int32) (z1 : Int32) (S : SX) (H : Heap) (locs : List Loc) (ls : Array Slot), lv_has ls 4 [(0, .ref (h 0)), (2, .int v2), (3, .int v3)] → va_P D vwCl (wM h cI cJ S L) H → va_S (xA 22 h) s.heap H locs → kX7_number_b123 L v1 v2 post v3 z1 S → W p l e rX7_number s m args below meth c H locs 0 0 Q (F0 m 123 ls [.int z1, .ref (h 0)]) := by
          intro v3 z1 S H locs ls hl hP hS hw
          unfold kX7_number_b123 at hw
          obtain ⟨hi, hw⟩ := hw
          refine x_put (D := D) (ci := 7) (v := .int z1) (ty := .boolean) (C := RX7) (T := TX7) (N := 28) (ws2 := wM h cI cJ (xu S 0 5 z1) L) hx hb hts inX7 tyX7 tyX7_ok nmX7 hown hK hP (hD _ _) hS 0 wM_0 rfl 19 (by decide) f0 (fun _ h9 => h9) rfl (by decide +kernel) (xb_n hi) (xb_f hi) (Nat.le_of_ble_eq_true rfl) dX7_number_123 (wM_p0_5 _) (fun H locs hP hS => ?_)
          refine lv_aload_n hx hb dX7_number_126 rfl (lv_at hl 0 rfl) ?_
          refine lv_aload_n hx hb dX7_number_127 rfl (lv_at hl 0 rfl) ?_
          refine va_get (D := D) (ci := 7) (v := .int ((xu S 0 5 z1) 0 5)) (C := RX7) (T := TX7) (N := 28) hx hb hts inX7 hown hK hP 0 wM_0 rfl 19 (by decide) f0 (fun _ h9 => h9) rfl dX7_number_128 ?_
          refine lv_if_eq (tgt := 138) hx hb dX7_number_131 (by decide) (fun hc => ?_) (fun hc => ?_)
          · replace hw := And.left hw hc
            refine lv_aload_n hx hb dX7_number_138 rfl (lv_at hl 0 rfl) ?_
            refine va_get (D := D) (ci := 7) (v := .int ((xu S 0 5 z1) 0 4)) (C := RX7) (T := TX7) (N := 28) hx hb hts inX7 hown hK hP 0 wM_0 rfl 18 (by decide) f2 (fun _ h9 => h9) rfl dX7_number_139 ?_
            refine x_put (D := D) (ci := 7) (v := .int ((xu S 0 5 z1) 0 4)) (ty := .int) (C := RX7) (T := TX7) (N := 28) (ws2 := wM h cI cJ (xu (xu S 0 5 z1) 0 4 ((xu S 0 5 z1) 0 4)) L) hx hb hts inX7 tyX7 tyX7_ok nmX7 hown hK hP (hD _ _) hS 0 wM_0 rfl 18 (by decide) f2 (fun _ h9 => h9) rfl (by decide +kernel) rfl rfl (Nat.le_of_ble_eq_true rfl) dX7_number_142 (wM_p0_4 _) (fun H locs hP hS => ?_)
            refine lv_iload_n hx hb dX7_number_145 rfl (lv_at hl 2 rfl) ?_
            exact hret _ _ _ _ _ _ hP hS hw dX7_number_146
          · replace hw := And.right hw hc
            refine lv_iload_n hx hb dX7_number_134 rfl (lv_at hl 1 rfl) ?_
            refine lv_goto (tgt := 142) hx hb dX7_number_135 (by decide) ?_
            refine x_put (D := D) (ci := 7) (v := .int v2) (ty := .int) (C := RX7) (T := TX7) (N := 28) (ws2 := wM h cI cJ (xu (xu S 0 5 z1) 0 4 v2) L) hx hb hts inX7 tyX7 tyX7_ok nmX7 hown hK hP (hD _ _) hS 0 wM_0 rfl 18 (by decide) f2 (fun _ h9 => h9) rfl (by decide +kernel) rfl rfl (Nat.le_of_ble_eq_true rfl) dX7_number_142 (wM_p0_4 _) (fun H locs hP hS => ?_)
            refine lv_iload_n hx hb dX7_number_145 rfl (lv_at hl 2 rfl) ?_
            exact hret _ _ _ _ _ _ hP hS hw dX7_number_146
        intro v3 S H locs ls hl hP hS hw
        unfold kX7_number_b112 at hw
        refine lv_aload_n hx hb dX7_number_112 rfl (lv_at hl 0 rfl) ?_
        refine lv_iload_n hx hb dX7_number_113 rfl (lv_at hl 3 rfl) ?_
        refine lv_iload_n hx hb dX7_number_114 rfl (lv_at hl 1 rfl) ?_
        refine lv_icmp_le (tgt := 122) hx hb dX7_number_115 (by decide) (fun hc => ?_) (fun hc => ?_)
        · replace hw := And.left hw hc
          refine lv_iconst (v := (0 : Int32)) hx hb dX7_number_122 (by decide) ?_
          exact b123 v3 (0 : Int32) S _ _ _ (lv_sub hl [0, 2, 3] rfl) hP hS hw
        · replace hw := And.right hw hc
          refine lv_iconst (v := (1 : Int32)) hx hb dX7_number_118 (by decide) ?_
          refine lv_goto (tgt := 123) hx hb dX7_number_119 (by decide) ?_
          exact b123 v3 (1 : Int32) S _ _ _ (lv_sub hl [0, 2, 3] rfl) hP hS hw
      intro v3 S H locs ls hl hP hS hw
      unfold kX7_number_b38 at hw
      refine lv_aload_n hx hb dX7_number_38 rfl (lv_at hl 0 rfl) ?_
      refine va_get (D := D) (ci := 7) (v := .int (S 0 4)) (C := RX7) (T := TX7) (N := 28) hx hb hts inX7 hown hK hP 0 wM_0 rfl 18 (by decide) f2 (fun _ h9 => h9) rfl dX7_number_39 ?_
      refine lv_aload_n hx hb dX7_number_42 rfl (lv_at hl 0 rfl) ?_
      refine va_get (D := D) (ci := 7) (v := .int (S 0 3)) (C := RX7) (T := TX7) (N := 28) hx hb hts inX7 hown hK hP 0 wM_0 rfl 17 (by decide) f3 (fun _ h9 => h9) rfl dX7_number_43 ?_
      refine lv_icmp_ge (tgt := 112) hx hb dX7_number_46 (by decide) (fun hc => ?_) (fun hc => ?_)
      · replace hw := And.left hw hc
        exact b112 v3 S _ _ _ (lv_sub hl [0, 1, 2, 3] rfl) hP hS hw
      · replace hw := And.right hw hc
        refine lv_aload_n hx hb dX7_number_49 rfl (lv_at hl 0 rfl) ?_
        refine va_get (D := D) (ci := 7) (v := .ref (h 14)) (C := RX7) (T := TX7) (N := 28) hx hb hts inX7 hown hK hP 0 wM_0 rfl 16 (by decide) f4 (fun _ h9 => h9) rfl dX7_number_50 ?_
        refine lv_aload_n hx hb dX7_number_53 rfl (lv_at hl 0 rfl) ?_
        refine va_get (D := D) (ci := 7) (v := .int (S 0 4)) (C := RX7) (T := TX7) (N := 28) hx hb hts inX7 hown hK hP 0 wM_0 rfl 18 (by decide) f2 (fun _ h9 => h9) rfl dX7_number_54 ?_
        obtain ⟨hi, hw⟩ := hw
        refine va_iald hx hb hK hP 14 0 wM_14 rfl hi dX7_number_57 ?_
        refine lv_i2l hx hb dX7_number_58 rfl ?_
        refine lv_ldc2 (v := (48 : Int64)) hx hb hown (f5) dX7_number_59 ?_
        refine lv_ldc2 (v := (57 : Int64)) hx hb hown (f6) dX7_number_62 ?_
        refine xSi0 (As := [.long ((S 14 (S 0 4).toNatClampNeg).toInt64), .long (48 : Int64), .long (57 : Int64)]) (rest := []) hst hE hP hS ⟨hx, hb, hml, hown, hts⟩ (mX7_in l D h cI cJ hh S L ((S 14 (S 0 4).toNatClampNeg).toInt64) (48 : Int64) (57 : Int64) _ hw) (va_cwS 3 hts gX7_number_X7_in rfl rfl rfl (by decide +kernel) ⟨Nat.le_of_ble_eq_true rfl, Nat.le_of_ble_eq_true rfl⟩) rfl hl.1 rfl (Nat.le_of_ble_eq_true rfl) dX7_number_65 ⟨Nat.zero_le _, Nat.zero_le _⟩ (fun r65 H locs hw hP hS => ?_)
        refine lv_if_eq (tgt := 112) hx hb dX7_number_68 (by decide) (fun hc => ?_) (fun hc => ?_)
        · replace hw := And.left hw hc
          exact b112 v3 S _ _ _ (lv_sub hl [0, 1, 2, 3] rfl) hP hS hw
        · replace hw := And.right hw hc
          refine lv_iload_n hx hb dX7_number_71 rfl (lv_at hl 3 rfl) ?_
          refine lv_ldc (v := (99999 : Int32)) hx hb hown (f7) dX7_number_72 ?_
          refine lv_icmp_le (tgt := 81) hx hb dX7_number_74 (by decide) (fun hc => ?_) (fun hc => ?_)
          · replace hw := And.left hw hc
            refine lv_bipush (v := (10 : Int32)) hx hb dX7_number_81 (by decide) ?_
            refine lv_iload_n hx hb dX7_number_83 rfl (lv_at hl 3 rfl) ?_
            refine lv_imul hx hb dX7_number_84 ?_
            refine lv_aload_n hx hb dX7_number_85 rfl (lv_at hl 0 rfl) ?_
            refine va_get (D := D) (ci := 7) (v := .ref (h 14)) (C := RX7) (T := TX7) (N := 28) hx hb hts inX7 hown hK hP 0 wM_0 rfl 16 (by decide) f4 (fun _ h9 => h9) rfl dX7_number_86 ?_
            refine lv_aload_n hx hb dX7_number_89 rfl (lv_at hl 0 rfl) ?_
            refine va_get (D := D) (ci := 7) (v := .int (S 0 4)) (C := RX7) (T := TX7) (N := 28) hx hb hts inX7 hown hK hP 0 wM_0 rfl 18 (by decide) f2 (fun _ h9 => h9) rfl dX7_number_90 ?_
            obtain ⟨hi, hw⟩ := hw
            refine va_iald hx hb hK hP 14 0 wM_14 rfl hi dX7_number_93 ?_
            refine lv_iadd hx hb dX7_number_94 ?_
            refine lv_bipush (v := (48 : Int32)) hx hb dX7_number_95 (by decide) ?_
            refine lv_isub hx hb dX7_number_97 ?_
            refine lv_istore_n (lv' := [(3, .int ((((10 : Int32) * v3) + (S 14 (S 0 4).toNatClampNeg)) - (48 : Int32))), (0, .ref (h 0)), (1, .int v1), (2, .int v2)]) hx hb dX7_number_98 rfl hl (by decide) rfl (fun ls hl => ?_)
            refine lv_aload_n hx hb dX7_number_99 rfl (lv_at hl 1 rfl) ?_
            refine lv_dup hx hb dX7_number_100 rfl ?_
            refine va_get (D := D) (ci := 7) (v := .int (S 0 4)) (C := RX7) (T := TX7) (N := 28) hx hb hts inX7 hown hK hP 0 wM_0 rfl 18 (by decide) f2 (fun _ h9 => h9) rfl dX7_number_101 ?_
            refine lv_iconst (v := (1 : Int32)) hx hb dX7_number_104 (by decide) ?_
            refine lv_iadd hx hb dX7_number_105 ?_
            refine x_put (D := D) (ci := 7) (v := .int ((S 0 4) + (1 : Int32))) (ty := .int) (C := RX7) (T := TX7) (N := 28) (ws2 := wM h cI cJ (xu S 0 4 ((S 0 4) + (1 : Int32))) L) hx hb hts inX7 tyX7 tyX7_ok nmX7 hown hK hP (hD _ _) hS 0 wM_0 rfl 18 (by decide) f2 (fun _ h9 => h9) rfl (by decide +kernel) rfl rfl (Nat.le_of_ble_eq_true rfl) dX7_number_106 (wM_p0_4 _) (fun H locs hP hS => ?_)
            refine lv_goto (tgt := 38) hx hb dX7_number_109 (by decide) ?_
            exact i38 ((((10 : Int32) * v3) + (S 14 (S 0 4).toNatClampNeg)) - (48 : Int32)) (xu S 0 4 ((S 0 4) + (1 : Int32))) _ _ _ (lv_sub hl [1, 2, 3, 0] rfl) hP hS hw
          · replace hw := And.right hw hc
            refine lv_iload_n hx hb dX7_number_77 rfl (lv_at hl 3 rfl) ?_
            refine lv_goto (tgt := 98) hx hb dX7_number_78 (by decide) ?_
            refine lv_istore_n (lv' := [(3, .int v3), (0, .ref (h 0)), (1, .int v1), (2, .int v2)]) hx hb dX7_number_98 rfl hl (by decide) rfl (fun ls hl => ?_)
            refine lv_aload_n hx hb dX7_number_99 rfl (lv_at hl 1 rfl) ?_
            refine lv_dup hx hb dX7_number_100 rfl ?_
            refine va_get (D := D) (ci := 7) (v := .int (S 0 4)) (C := RX7) (T := TX7) (N := 28) hx hb hts inX7 hown hK hP 0 wM_0 rfl 18 (by decide) f2 (fun _ h9 => h9) rfl dX7_number_101 ?_
            refine lv_iconst (v := (1 : Int32)) hx hb dX7_number_104 (by decide) ?_
            refine lv_iadd hx hb dX7_number_105 ?_
            refine x_put (D := D) (ci := 7) (v := .int ((S 0 4) + (1 : Int32))) (ty := .int) (C := RX7) (T := TX7) (N := 28) (ws2 := wM h cI cJ (xu S 0 4 ((S 0 4) + (1 : Int32))) L) hx hb hts inX7 tyX7 tyX7_ok nmX7 hown hK hP (hD _ _) hS 0 wM_0 rfl 18 (by decide) f2 (fun _ h9 => h9) rfl (by decide +kernel) rfl rfl (Nat.le_of_ble_eq_true rfl) dX7_number_106 (wM_p0_4 _) (fun H locs hP hS => ?_)
            refine lv_goto (tgt := 38) hx hb dX7_number_109 (by decide) ?_
            exact i38 v3 (xu S 0 4 ((S 0 4) + (1 : Int32))) _ _ _ (lv_sub hl [1, 2, 3, 0] rfl) hP hS hw
  unfold kX7_number at hw
  refine lv_aload_n hx hb dX7_number_0 rfl (lv_at hl 0 rfl) ?_
  refine va_get (D := D) (ci := 7) (v := .int (S 0 5)) (C := RX7) (T := TX7) (N := 28) hx hb hts inX7 hown hK hP 0 wM_0 rfl 19 (by decide) f0 (fun _ h9 => h9) rfl dX7_number_1 ?_
  refine lv_if_ne (tgt := 24) hx hb dX7_number_4 (by decide) (fun hc => ?_) (fun hc => ?_)
  · replace hw := And.right hw hc
    refine lv_aload_n hx hb dX7_number_24 rfl (lv_at hl 0 rfl) ?_
    refine lv_iconst (v := (1 : Int32)) hx hb dX7_number_25 (by decide) ?_
    refine x_put (D := D) (ci := 7) (v := .int (1 : Int32)) (ty := .boolean) (C := RX7) (T := TX7) (N := 28) (ws2 := wM h cI cJ (xu S 0 5 (1 : Int32)) L) hx hb hts inX7 tyX7 tyX7_ok nmX7 hown hK hP (hD _ _) hS 0 wM_0 rfl 19 (by decide) f0 (fun _ h9 => h9) rfl (by decide +kernel) rfl rfl (Nat.le_of_ble_eq_true rfl) dX7_number_26 (wM_p0_5 _) (fun H locs hP hS => ?_)
    refine lv_iconst (v := (0 : Int32)) hx hb dX7_number_29 (by decide) ?_
    exact hret _ _ _ _ _ _ hP hS hw dX7_number_30
  · replace hw := And.left hw hc
    refine lv_aload_n hx hb dX7_number_7 rfl (lv_at hl 0 rfl) ?_
    refine xVi1 (As := []) (rest := []) hst hE hP hS ⟨hx, hb, hml, hown, hts⟩ (va_recv hK hP (ci := 7) (q := (RX7, TX7, 28)) rfl wM_0) (mX7_here l D h cI cJ hh S L  _ hw) (cwV 0 hts gX7_number_X7_here rfl rfl rfl (by decide +kernel) ⟨Nat.le_of_ble_eq_true rfl, Nat.le_of_ble_eq_true rfl⟩) rfl hl.1 rfl (Nat.le_of_ble_eq_true rfl) dX7_number_8 ⟨Nat.zero_le _, Nat.zero_le _⟩ (fun r8 S8 H locs hw hP hS => ?_)
    refine lv_i2l hx hb dX7_number_11 rfl ?_
    refine lv_ldc2 (v := (48 : Int64)) hx hb hown (f5) dX7_number_12 ?_
    refine lv_ldc2 (v := (57 : Int64)) hx hb hown (f6) dX7_number_15 ?_
    refine xSi0 (As := [.long r8.toInt64, .long (48 : Int64), .long (57 : Int64)]) (rest := []) hst hE hP hS ⟨hx, hb, hml, hown, hts⟩ (mX7_in l D h cI cJ hh S8 L r8.toInt64 (48 : Int64) (57 : Int64) _ hw) (va_cwS 3 hts gX7_number_X7_in rfl rfl rfl (by decide +kernel) ⟨Nat.le_of_ble_eq_true rfl, Nat.le_of_ble_eq_true rfl⟩) rfl hl.1 rfl (Nat.le_of_ble_eq_true rfl) dX7_number_18 ⟨Nat.zero_le _, Nat.zero_le _⟩ (fun r18 H locs hw hP hS => ?_)
    refine lv_if_ne (tgt := 31) hx hb dX7_number_21 (by decide) (fun hc => ?_) (fun hc => ?_)
    · replace hw := And.right hw hc
      refine lv_aload_n hx hb dX7_number_31 rfl (lv_at hl 0 rfl) ?_
      refine va_get (D := D) (ci := 7) (v := .int (S8 0 4)) (C := RX7) (T := TX7) (N := 28) hx hb hts inX7 hown hK hP 0 wM_0 rfl 18 (by decide) f2 (fun _ h9 => h9) rfl dX7_number_32 ?_
      refine lv_istore_n (lv' := [(2, .int (S8 0 4)), (0, .ref (h 0)), (1, .int v1)]) hx hb dX7_number_35 rfl hl (by decide) rfl (fun ls hl => ?_)
      refine lv_iconst (v := (0 : Int32)) hx hb dX7_number_36 (by decide) ?_
      refine lv_istore_n (lv' := [(3, .int (0 : Int32)), (2, .int (S8 0 4)), (0, .ref (h 0)), (1, .int v1)]) hx hb dX7_number_37 rfl hl (by decide) rfl (fun ls hl => ?_)
      obtain ⟨n38, hw⟩ := hw
      exact b38 (S8 0 4) n38 (0 : Int32) S8 _ _ _ (lv_sub hl [2, 3, 1, 0] rfl) hP hS hw
    · replace hw := And.left hw hc
      refine lv_aload_n hx hb dX7_number_24 rfl (lv_at hl 0 rfl) ?_
      refine lv_iconst (v := (1 : Int32)) hx hb dX7_number_25 (by decide) ?_
      refine x_put (D := D) (ci := 7) (v := .int (1 : Int32)) (ty := .boolean) (C := RX7) (T := TX7) (N := 28) (ws2 := wM h cI cJ (xu S8 0 5 (1 : Int32)) L) hx hb hts inX7 tyX7 tyX7_ok nmX7 hown hK hP (hD _ _) hS 0 wM_0 rfl 19 (by decide) f0 (fun _ h9 => h9) rfl (by decide +kernel) rfl rfl (Nat.le_of_ble_eq_true rfl) dX7_number_26 (wM_p0_5 _) (fun H locs hP hS => ?_)
      refine lv_iconst (v := (0 : Int32)) hx hb dX7_number_29 (by decide) ?_
      exact hret _ _ _ _ _ _ hP hS hw dX7_number_30
abbrev rX7_readRule : Room := { frames := 2, cells := 0, slots := 0, locals := 48 }
set_option maxHeartbeats 4000000 in
set_option maxRecDepth 100000 in
theorem mX7_readRule (l : Launch) (D : va_G) (h : Nat → Nat) (cI cJ : ClassId) (hh : xdis 22 h) (S : SX) (L : LX) (v1 : Int32) (post : SX → Prop) (hw : kX7_readRule S L v1 post) : Met l yX7_readRule wsX7_readRule rX7_readRule (xPre D (wM h cI cJ) (mE D cI cJ) S L [.ref (h 0), .int v1]) (va_Qv (fun (u : SX × LX) => post u.1 ∧ u.2 = L) (xB D (wM h cI cJ)) (xA 22 h)) 0 0 (xA 22 h) := by
  refine Met.ofW (cc := cX7_readRule) (maxL := 3) (ret := none) (by decide) rfl ?_
  intro p e s m args below meth c s₁ B hml hv
  obtain ⟨hargs, hP, hE⟩ := hv
  have hx := B.exec
  have hb := B.bytes
  have hr := B.returns
  have hlocks := B.notSynchronized
  have hts := atoms_spec (ws := wsX7_readRule) B.pre
  have hown : s.vm.findClass RX7 = some m.cls := findClass_of_methodNamed B.named
  have hS : va_S (xA 22 h) s.heap s.heap [] := va_S.rf
  have hD : ∀ (S : SX) (L : LX), va_D (xA 22 h) (wM h cI cJ S L) := fun S L => wM_D hh cI cJ S L
  have hK := id hE
  have hst : xSt (xA 22 h) (mE D cI cJ) := mE_st D _ cI cJ
  have f0 := hts (.fieldLink RX7 58 "BookOfWillsModel" "read" "[I") (by decide +kernel)
  have inX7 : ∀ w ∈ u_ws RX7 TX7 28, w ∈ wsX7_readRule := fun w hw9 => List.mem_cons_of_mem _ (List.mem_append_right _ hw9)
  have f2 := hts (.fieldLink RX7 158 "BookOfWillsModel" "wrong" "Z") (by decide +kernel)
  have hl := lv_entry ([.ref (h 0), .int v1]) (n := 3) (Nat.le_of_ble_eq_true rfl)
  have hen : entryFrame m args 3 = F0 m 0 ((lg_sl ([.ref (h 0), .int v1]) ++ List.replicate (3 - (lg_sl ([.ref (h 0), .int v1])).length) Slot.unset).toArray) [] := by rw [hargs]; exact lg_entry_eq m _ _
  rw [hen]
  generalize (lg_sl ([.ref (h 0), .int v1]) ++ List.replicate (3 - (lg_sl ([.ref (h 0), .int v1])).length) Slot.unset).toArray = ls at hl ⊢
  have hl : lv_has ls 3 [(0, .ref (h 0)), (1, .int v1)] := hl
  change W p l e rX7_readRule s m args below meth c s.heap [] 0 0 (MQ below (va_Qv (fun (u : SX × LX) => post u.1 ∧ u.2 = L) (xB D (wM h cI cJ)) (xA 22 h)) args s 0 0 (xA 22 h)) (F0 m 0 ls [])
  have hret : ∀ (S1 : SX) (H : Heap) (locs : List Loc) (ls : Array Slot) (pc : Nat), va_P D vwCl (wM h cI cJ S1 L) H → va_S (xA 22 h) s.heap H locs → post S1 → decode cX7_readRule pc = .ok (.return_, 1) → W p l e rX7_readRule s m args below meth c H locs 0 0 (MQ below (va_Qv (fun (u : SX × LX) => post u.1 ∧ u.2 = L) (xB D (wM h cI cJ)) (xA 22 h)) args s 0 0 (xA 22 h)) (F0 m pc ls []) := fun S1 H locs ls pc hP hS hw hd => W.vret hx hb hr (fun t ht hW => ⟨⟨(S1, L), rfl, ⟨hw, rfl⟩, show va_P D vwCl (wM h cI cJ S1 L) t.heap by rw [ht]; exact hP⟩, hS.F ht⟩) hS.2.2 hd
  generalize MQ below (va_Qv (fun (u : SX × LX) => post u.1 ∧ u.2 = L) (xB D (wM h cI cJ)) (xA 22 h)) args s 0 0 (xA 22 h) = Q at hret ⊢
  have b27 : ∀ (z1 : Int32) (S : SX) (H : Heap) (locs : List Loc) (ls : Array Slot), lv_has ls 3 [(0, .ref (h 0)), (1, .int v1)] → va_P D vwCl (wM h cI cJ S L) H → va_S (xA 22 h) s.heap H locs → kX7_readRule_b27 L v1 post z1 S → W p l e rX7_readRule s m args below meth c H locs 0 0 Q (F0 m 27 ls [.int z1, .ref (h 0)]) := by
    have b57 : ∀ (z1 : Int32) (z2 : Int32) (S : SX) (H : Heap) (locs : List Loc) (ls : Array Slot), lv_has ls 3 [(0, .ref (h 0)), (1, .int v1)] → va_P D vwCl (wM h cI cJ S L) H → va_S (xA 22 h) s.heap H locs → kX7_readRule_b57 L v1 post z1 z2 S → W p l e rX7_readRule s m args below meth c H locs 0 0 Q (F0 m 57 ls [.int z2, .int z1, .ref (h 15)]) := by
      have b85 : ∀ (z1 : Int32) (z2 : Int32) (S : SX) (H : Heap) (locs : List Loc) (ls : Array Slot), lv_has ls 3 [(0, .ref (h 0)), (1, .int v1)] → va_P D vwCl (wM h cI cJ S L) H → va_S (xA 22 h) s.heap H locs → kX7_readRule_b85 L v1 post z1 z2 S → W p l e rX7_readRule s m args below meth c H locs 0 0 Q (F0 m 85 ls [.int z2, .int z1, .ref (h 15)]) := by
        have b113 : ∀ (z1 : Int32) (z2 : Int32) (S : SX) (H : Heap) (locs : List Loc) (ls : Array Slot), lv_has ls 3 [(0, .ref (h 0)), (1, .int v1)] → va_P D vwCl (wM h cI cJ S L) H → va_S (xA 22 h) s.heap H locs → kX7_readRule_b113 L v1 post z1 z2 S → W p l e rX7_readRule s m args below meth c H locs 0 0 Q (F0 m 113 ls [.int z2, .int z1, .ref (h 15)]) := by
          have b128 : ∀ (z0 : Int32) (S : SX) (H : Heap) (locs : List Loc) (ls : Array Slot), lv_has ls 3 [(0, .ref (h 0)), (1, .int v1)] → va_P D vwCl (wM h cI cJ S L) H → va_S (xA 22 h) s.heap H locs → kX7_readRule_b128 L v1 post z0 S → W p l e rX7_readRule s m args below meth c H locs 0 0 Q (F0 m 128 ls [.int z0]) := by
            have b144 : ∀ (z0 : Int32) (z1 : Int32) (S : SX) (H : Heap) (locs : List Loc) (ls : Array Slot), lv_has ls 3 [(0, .ref (h 0)), (1, .int v1)] → va_P D vwCl (wM h cI cJ S L) H → va_S (xA 22 h) s.heap H locs → kX7_readRule_b144 L v1 post z0 z1 S → W p l e rX7_readRule s m args below meth c H locs 0 0 Q (F0 m 144 ls [.int z1, .int z0]) := by
              have b161 : ∀ (z0 : Int32) (z1 : Int32) (S : SX) (H : Heap) (locs : List Loc) (ls : Array Slot), lv_has ls 3 [(0, .ref (h 0)), (1, .int v1)] → va_P D vwCl (wM h cI cJ S L) H → va_S (xA 22 h) s.heap H locs → kX7_readRule_b161 L v1 post z0 z1 S → W p l e rX7_readRule s m args below meth c H locs 0 0 Q (F0 m 161 ls [.int z1, .int z0]) := by
                intro z0 z1 S H locs ls hl hP hS hw
                unfold kX7_readRule_b161 at hw
                refine lv_ior hx hb dX7_readRule_161 ?_
                refine lv_istore_n (lv' := [(2, .int (z0 ||| z1)), (0, .ref (h 0)), (1, .int v1)]) hx hb dX7_readRule_162 rfl hl (by decide) rfl (fun ls hl => ?_)
                refine lv_iload_n hx hb dX7_readRule_163 rfl (lv_at hl 0 rfl) ?_
                refine lv_aload_n hx hb dX7_readRule_164 rfl (lv_at hl 1 rfl) ?_
                refine lv_bipush (v := (87 : Int32)) hx hb dX7_readRule_165 (by decide) ?_
                refine xVi1 (As := [.int (87 : Int32)]) (rest := [.int (z0 ||| z1)]) hst hE hP hS ⟨hx, hb, hml, hown, hts⟩ (va_recv hK hP (ci := 7) (q := (RX7, TX7, 28)) rfl wM_0) (mX7_has l D h cI cJ hh S L (87 : Int32) _ hw) (cwV 1 hts gX7_readRule_X7_has rfl rfl rfl (by decide +kernel) ⟨Nat.le_of_ble_eq_true rfl, Nat.le_of_ble_eq_true rfl⟩) rfl hl.1 rfl (Nat.le_of_ble_eq_true rfl) dX7_readRule_167 ⟨Nat.zero_le _, Nat.zero_le _⟩ (fun r167 S167 H locs hw hP hS => ?_)
                refine lv_if_eq (tgt := 178) hx hb dX7_readRule_170 (by decide) (fun hc => ?_) (fun hc => ?_)
                · replace hw := And.left hw hc
                  refine lv_iconst (v := (0 : Int32)) hx hb dX7_readRule_178 (by decide) ?_
                  refine lv_ior hx hb dX7_readRule_179 ?_
                  refine lv_istore_n (lv' := [(2, .int ((z0 ||| z1) ||| (0 : Int32))), (0, .ref (h 0)), (1, .int v1)]) hx hb dX7_readRule_180 rfl hl (by decide) rfl (fun ls hl => ?_)
                  refine lv_aload_n hx hb dX7_readRule_181 rfl (lv_at hl 1 rfl) ?_
                  refine va_get (D := D) (ci := 7) (v := .ref (h 15)) (C := RX7) (T := TX7) (N := 28) hx hb hts inX7 hown hK hP 0 wM_0 rfl 20 (by decide) f0 (fun _ h9 => h9) rfl dX7_readRule_182 ?_
                  refine lv_iload_n hx hb dX7_readRule_185 rfl (lv_at hl 2 rfl) ?_
                  refine lv_iconst (v := (4 : Int32)) hx hb dX7_readRule_186 (by decide) ?_
                  refine lv_iadd hx hb dX7_readRule_187 ?_
                  refine lv_iload_n hx hb dX7_readRule_188 rfl (lv_at hl 0 rfl) ?_
                  obtain ⟨hi, hw⟩ := hw
                  refine x_iast (ws2 := wM h cI cJ (xu S167 15 (v1 + (4 : Int32)).toNatClampNeg ((z0 ||| z1) ||| (0 : Int32))) L) hx hb hK hP (hD _ _) hS 15 0 wM_15 rfl hi dX7_readRule_189 (wM_u15 _ _) (fun H locs hP hS => ?_)
                  exact hret _ _ _ _ _ hP hS hw dX7_readRule_190
                · replace hw := And.right hw hc
                  refine lv_bipush (v := (8 : Int32)) hx hb dX7_readRule_173 (by decide) ?_
                  refine lv_goto (tgt := 179) hx hb dX7_readRule_175 (by decide) ?_
                  refine lv_ior hx hb dX7_readRule_179 ?_
                  refine lv_istore_n (lv' := [(2, .int ((z0 ||| z1) ||| (8 : Int32))), (0, .ref (h 0)), (1, .int v1)]) hx hb dX7_readRule_180 rfl hl (by decide) rfl (fun ls hl => ?_)
                  refine lv_aload_n hx hb dX7_readRule_181 rfl (lv_at hl 1 rfl) ?_
                  refine va_get (D := D) (ci := 7) (v := .ref (h 15)) (C := RX7) (T := TX7) (N := 28) hx hb hts inX7 hown hK hP 0 wM_0 rfl 20 (by decide) f0 (fun _ h9 => h9) rfl dX7_readRule_182 ?_
                  refine lv_iload_n hx hb dX7_readRule_185 rfl (lv_at hl 2 rfl) ?_
                  refine lv_iconst (v := (4 : Int32)) hx hb dX7_readRule_186 (by decide) ?_
                  refine lv_iadd hx hb dX7_readRule_187 ?_
                  refine lv_iload_n hx hb dX7_readRule_188 rfl (lv_at hl 0 rfl) ?_
                  obtain ⟨hi, hw⟩ := hw
                  refine x_iast (ws2 := wM h cI cJ (xu S167 15 (v1 + (4 : Int32)).toNatClampNeg ((z0 ||| z1) ||| (8 : Int32))) L) hx hb hK hP (hD _ _) hS 15 0 wM_15 rfl hi dX7_readRule_189 (wM_u15 _ _) (fun H locs hP hS => ?_)
                  exact hret _ _ _ _ _ hP hS hw dX7_readRule_190
              intro z0 z1 S H locs ls hl hP hS hw
              unfold kX7_readRule_b144 at hw
              refine lv_ior hx hb dX7_readRule_144 ?_
              refine lv_istore_n (lv' := [(2, .int (z0 ||| z1)), (0, .ref (h 0)), (1, .int v1)]) hx hb dX7_readRule_145 rfl hl (by decide) rfl (fun ls hl => ?_)
              refine lv_iload_n hx hb dX7_readRule_146 rfl (lv_at hl 0 rfl) ?_
              refine lv_aload_n hx hb dX7_readRule_147 rfl (lv_at hl 1 rfl) ?_
              refine lv_bipush (v := (84 : Int32)) hx hb dX7_readRule_148 (by decide) ?_
              refine xVi1 (As := [.int (84 : Int32)]) (rest := [.int (z0 ||| z1)]) hst hE hP hS ⟨hx, hb, hml, hown, hts⟩ (va_recv hK hP (ci := 7) (q := (RX7, TX7, 28)) rfl wM_0) (mX7_has l D h cI cJ hh S L (84 : Int32) _ hw) (cwV 1 hts gX7_readRule_X7_has rfl rfl rfl (by decide +kernel) ⟨Nat.le_of_ble_eq_true rfl, Nat.le_of_ble_eq_true rfl⟩) rfl hl.1 rfl (Nat.le_of_ble_eq_true rfl) dX7_readRule_150 ⟨Nat.zero_le _, Nat.zero_le _⟩ (fun r150 S150 H locs hw hP hS => ?_)
              refine lv_if_eq (tgt := 160) hx hb dX7_readRule_153 (by decide) (fun hc => ?_) (fun hc => ?_)
              · replace hw := And.left hw hc
                refine lv_iconst (v := (0 : Int32)) hx hb dX7_readRule_160 (by decide) ?_
                exact b161 (z0 ||| z1) (0 : Int32) S150 _ _ _ (lv_sub hl [1, 2] rfl) hP hS hw
              · replace hw := And.right hw hc
                refine lv_iconst (v := (4 : Int32)) hx hb dX7_readRule_156 (by decide) ?_
                refine lv_goto (tgt := 161) hx hb dX7_readRule_157 (by decide) ?_
                exact b161 (z0 ||| z1) (4 : Int32) S150 _ _ _ (lv_sub hl [1, 2] rfl) hP hS hw
            intro z0 S H locs ls hl hP hS hw
            unfold kX7_readRule_b128 at hw
            refine lv_istore_n (lv' := [(2, .int z0), (0, .ref (h 0)), (1, .int v1)]) hx hb dX7_readRule_128 rfl hl (by decide) rfl (fun ls hl => ?_)
            refine lv_iload_n hx hb dX7_readRule_129 rfl (lv_at hl 0 rfl) ?_
            refine lv_aload_n hx hb dX7_readRule_130 rfl (lv_at hl 1 rfl) ?_
            refine lv_bipush (v := (71 : Int32)) hx hb dX7_readRule_131 (by decide) ?_
            refine xVi1 (As := [.int (71 : Int32)]) (rest := [.int z0]) hst hE hP hS ⟨hx, hb, hml, hown, hts⟩ (va_recv hK hP (ci := 7) (q := (RX7, TX7, 28)) rfl wM_0) (mX7_has l D h cI cJ hh S L (71 : Int32) _ hw) (cwV 1 hts gX7_readRule_X7_has rfl rfl rfl (by decide +kernel) ⟨Nat.le_of_ble_eq_true rfl, Nat.le_of_ble_eq_true rfl⟩) rfl hl.1 rfl (Nat.le_of_ble_eq_true rfl) dX7_readRule_133 ⟨Nat.zero_le _, Nat.zero_le _⟩ (fun r133 S133 H locs hw hP hS => ?_)
            refine lv_if_eq (tgt := 143) hx hb dX7_readRule_136 (by decide) (fun hc => ?_) (fun hc => ?_)
            · replace hw := And.left hw hc
              refine lv_iconst (v := (0 : Int32)) hx hb dX7_readRule_143 (by decide) ?_
              exact b144 z0 (0 : Int32) S133 _ _ _ (lv_sub hl [1, 2] rfl) hP hS hw
            · replace hw := And.right hw hc
              refine lv_iconst (v := (2 : Int32)) hx hb dX7_readRule_139 (by decide) ?_
              refine lv_goto (tgt := 144) hx hb dX7_readRule_140 (by decide) ?_
              exact b144 z0 (2 : Int32) S133 _ _ _ (lv_sub hl [1, 2] rfl) hP hS hw
          intro z1 z2 S H locs ls hl hP hS hw
          unfold kX7_readRule_b113 at hw
          obtain ⟨hi, hw⟩ := hw
          refine x_iast (ws2 := wM h cI cJ (xu S 15 z1.toNatClampNeg z2) L) hx hb hK hP (hD _ _) hS 15 0 wM_15 rfl hi dX7_readRule_113 (wM_u15 _ _) (fun H locs hP hS => ?_)
          refine lv_aload_n hx hb dX7_readRule_114 rfl (lv_at hl 0 rfl) ?_
          refine lv_bipush (v := (76 : Int32)) hx hb dX7_readRule_115 (by decide) ?_
          refine xVi1 (As := [.int (76 : Int32)]) (rest := []) hst hE hP hS ⟨hx, hb, hml, hown, hts⟩ (va_recv hK hP (ci := 7) (q := (RX7, TX7, 28)) rfl wM_0) (mX7_has l D h cI cJ hh (xu S 15 z1.toNatClampNeg z2) L (76 : Int32) _ hw) (cwV 1 hts gX7_readRule_X7_has rfl rfl rfl (by decide +kernel) ⟨Nat.le_of_ble_eq_true rfl, Nat.le_of_ble_eq_true rfl⟩) rfl hl.1 rfl (Nat.le_of_ble_eq_true rfl) dX7_readRule_117 ⟨Nat.zero_le _, Nat.zero_le _⟩ (fun r117 S117 H locs hw hP hS => ?_)
          refine lv_if_eq (tgt := 127) hx hb dX7_readRule_120 (by decide) (fun hc => ?_) (fun hc => ?_)
          · replace hw := And.left hw hc
            refine lv_iconst (v := (0 : Int32)) hx hb dX7_readRule_127 (by decide) ?_
            exact b128 (0 : Int32) S117 _ _ _ (lv_sub hl [0, 1] rfl) hP hS hw
          · replace hw := And.right hw hc
            refine lv_iconst (v := (1 : Int32)) hx hb dX7_readRule_123 (by decide) ?_
            refine lv_goto (tgt := 128) hx hb dX7_readRule_124 (by decide) ?_
            exact b128 (1 : Int32) S117 _ _ _ (lv_sub hl [0, 1] rfl) hP hS hw
        intro z1 z2 S H locs ls hl hP hS hw
        unfold kX7_readRule_b85 at hw
        obtain ⟨hi, hw⟩ := hw
        refine x_iast (ws2 := wM h cI cJ (xu S 15 z1.toNatClampNeg z2) L) hx hb hK hP (hD _ _) hS 15 0 wM_15 rfl hi dX7_readRule_85 (wM_u15 _ _) (fun H locs hP hS => ?_)
        refine lv_aload_n hx hb dX7_readRule_86 rfl (lv_at hl 0 rfl) ?_
        refine va_get (D := D) (ci := 7) (v := .ref (h 15)) (C := RX7) (T := TX7) (N := 28) hx hb hts inX7 hown hK hP 0 wM_0 rfl 20 (by decide) f0 (fun _ h9 => h9) rfl dX7_readRule_87 ?_
        refine lv_iload_n hx hb dX7_readRule_90 rfl (lv_at hl 1 rfl) ?_
        refine lv_iconst (v := (3 : Int32)) hx hb dX7_readRule_91 (by decide) ?_
        refine lv_iadd hx hb dX7_readRule_92 ?_
        refine lv_aload_n hx hb dX7_readRule_93 rfl (lv_at hl 0 rfl) ?_
        refine lv_bipush (v := (104 : Int32)) hx hb dX7_readRule_94 (by decide) ?_
        refine xVi1 (As := [.int (104 : Int32)]) (rest := [.int (v1 + (3 : Int32)), .ref (h 15)]) hst hE hP hS ⟨hx, hb, hml, hown, hts⟩ (va_recv hK hP (ci := 7) (q := (RX7, TX7, 28)) rfl wM_0) (mX7_has l D h cI cJ hh (xu S 15 z1.toNatClampNeg z2) L (104 : Int32) _ hw) (cwV 1 hts gX7_readRule_X7_has rfl rfl rfl (by decide +kernel) ⟨Nat.le_of_ble_eq_true rfl, Nat.le_of_ble_eq_true rfl⟩) rfl hl.1 rfl (Nat.le_of_ble_eq_true rfl) dX7_readRule_96 ⟨Nat.zero_le _, Nat.zero_le _⟩ (fun r96 S96 H locs hw hP hS => ?_)
        refine lv_if_eq (tgt := 112) hx hb dX7_readRule_99 (by decide) (fun hc => ?_) (fun hc => ?_)
        · replace hw := And.left hw hc
          refine lv_iconst (v := (0 : Int32)) hx hb dX7_readRule_112 (by decide) ?_
          exact b113 (v1 + (3 : Int32)) (0 : Int32) S96 _ _ _ (lv_sub hl [0, 1] rfl) hP hS hw
        · replace hw := And.right hw hc
          refine lv_aload_n hx hb dX7_readRule_102 rfl (lv_at hl 0 rfl) ?_
          refine lv_sipush (v := (999 : Int32)) hx hb dX7_readRule_103 (by decide) ?_
          refine xVi1 (As := [.int (999 : Int32)]) (rest := [.int (v1 + (3 : Int32)), .ref (h 15)]) hst hE hP hS ⟨hx, hb, hml, hown, hts⟩ (va_recv hK hP (ci := 7) (q := (RX7, TX7, 28)) rfl wM_0) (mX7_number l D h cI cJ hh S96 L (999 : Int32) _ hw) (cwV 1 hts gX7_readRule_X7_number rfl rfl rfl (by decide +kernel) ⟨Nat.le_of_ble_eq_true rfl, Nat.le_of_ble_eq_true rfl⟩) rfl hl.1 rfl (Nat.le_of_ble_eq_true rfl) dX7_readRule_106 ⟨Nat.zero_le _, Nat.zero_le _⟩ (fun r106 S106 H locs hw hP hS => ?_)
          refine lv_goto (tgt := 113) hx hb dX7_readRule_109 (by decide) ?_
          exact b113 (v1 + (3 : Int32)) r106 S106 _ _ _ (lv_sub hl [0, 1] rfl) hP hS hw
      intro z1 z2 S H locs ls hl hP hS hw
      unfold kX7_readRule_b57 at hw
      obtain ⟨hi, hw⟩ := hw
      refine x_iast (ws2 := wM h cI cJ (xu S 15 z1.toNatClampNeg z2) L) hx hb hK hP (hD _ _) hS 15 0 wM_15 rfl hi dX7_readRule_57 (wM_u15 _ _) (fun H locs hP hS => ?_)
      refine lv_aload_n hx hb dX7_readRule_58 rfl (lv_at hl 0 rfl) ?_
      refine va_get (D := D) (ci := 7) (v := .ref (h 15)) (C := RX7) (T := TX7) (N := 28) hx hb hts inX7 hown hK hP 0 wM_0 rfl 20 (by decide) f0 (fun _ h9 => h9) rfl dX7_readRule_59 ?_
      refine lv_iload_n hx hb dX7_readRule_62 rfl (lv_at hl 1 rfl) ?_
      refine lv_iconst (v := (2 : Int32)) hx hb dX7_readRule_63 (by decide) ?_
      refine lv_iadd hx hb dX7_readRule_64 ?_
      refine lv_aload_n hx hb dX7_readRule_65 rfl (lv_at hl 0 rfl) ?_
      refine lv_bipush (v := (108 : Int32)) hx hb dX7_readRule_66 (by decide) ?_
      refine xVi1 (As := [.int (108 : Int32)]) (rest := [.int (v1 + (2 : Int32)), .ref (h 15)]) hst hE hP hS ⟨hx, hb, hml, hown, hts⟩ (va_recv hK hP (ci := 7) (q := (RX7, TX7, 28)) rfl wM_0) (mX7_has l D h cI cJ hh (xu S 15 z1.toNatClampNeg z2) L (108 : Int32) _ hw) (cwV 1 hts gX7_readRule_X7_has rfl rfl rfl (by decide +kernel) ⟨Nat.le_of_ble_eq_true rfl, Nat.le_of_ble_eq_true rfl⟩) rfl hl.1 rfl (Nat.le_of_ble_eq_true rfl) dX7_readRule_68 ⟨Nat.zero_le _, Nat.zero_le _⟩ (fun r68 S68 H locs hw hP hS => ?_)
      refine lv_if_eq (tgt := 84) hx hb dX7_readRule_71 (by decide) (fun hc => ?_) (fun hc => ?_)
      · replace hw := And.left hw hc
        refine lv_iconst (v := (0 : Int32)) hx hb dX7_readRule_84 (by decide) ?_
        exact b85 (v1 + (2 : Int32)) (0 : Int32) S68 _ _ _ (lv_sub hl [0, 1] rfl) hP hS hw
      · replace hw := And.right hw hc
        refine lv_aload_n hx hb dX7_readRule_74 rfl (lv_at hl 0 rfl) ?_
        refine lv_sipush (v := (9999 : Int32)) hx hb dX7_readRule_75 (by decide) ?_
        refine xVi1 (As := [.int (9999 : Int32)]) (rest := [.int (v1 + (2 : Int32)), .ref (h 15)]) hst hE hP hS ⟨hx, hb, hml, hown, hts⟩ (va_recv hK hP (ci := 7) (q := (RX7, TX7, 28)) rfl wM_0) (mX7_number l D h cI cJ hh S68 L (9999 : Int32) _ hw) (cwV 1 hts gX7_readRule_X7_number rfl rfl rfl (by decide +kernel) ⟨Nat.le_of_ble_eq_true rfl, Nat.le_of_ble_eq_true rfl⟩) rfl hl.1 rfl (Nat.le_of_ble_eq_true rfl) dX7_readRule_78 ⟨Nat.zero_le _, Nat.zero_le _⟩ (fun r78 S78 H locs hw hP hS => ?_)
        refine lv_goto (tgt := 85) hx hb dX7_readRule_81 (by decide) ?_
        exact b85 (v1 + (2 : Int32)) r78 S78 _ _ _ (lv_sub hl [0, 1] rfl) hP hS hw
    intro z1 S H locs ls hl hP hS hw
    unfold kX7_readRule_b27 at hw
    obtain ⟨hi, hw⟩ := hw
    refine x_put (D := D) (ci := 7) (v := .int z1) (ty := .boolean) (C := RX7) (T := TX7) (N := 28) (ws2 := wM h cI cJ (xu S 0 5 z1) L) hx hb hts inX7 tyX7 tyX7_ok nmX7 hown hK hP (hD _ _) hS 0 wM_0 rfl 19 (by decide) f2 (fun _ h9 => h9) rfl (by decide +kernel) (xb_n hi) (xb_f hi) (Nat.le_of_ble_eq_true rfl) dX7_readRule_27 (wM_p0_5 _) (fun H locs hP hS => ?_)
    refine lv_aload_n hx hb dX7_readRule_30 rfl (lv_at hl 0 rfl) ?_
    refine va_get (D := D) (ci := 7) (v := .ref (h 15)) (C := RX7) (T := TX7) (N := 28) hx hb hts inX7 hown hK hP 0 wM_0 rfl 20 (by decide) f0 (fun _ h9 => h9) rfl dX7_readRule_31 ?_
    refine lv_iload_n hx hb dX7_readRule_34 rfl (lv_at hl 1 rfl) ?_
    refine lv_iconst (v := (1 : Int32)) hx hb dX7_readRule_35 (by decide) ?_
    refine lv_iadd hx hb dX7_readRule_36 ?_
    refine lv_aload_n hx hb dX7_readRule_37 rfl (lv_at hl 0 rfl) ?_
    refine lv_bipush (v := (102 : Int32)) hx hb dX7_readRule_38 (by decide) ?_
    refine xVi1 (As := [.int (102 : Int32)]) (rest := [.int (v1 + (1 : Int32)), .ref (h 15)]) hst hE hP hS ⟨hx, hb, hml, hown, hts⟩ (va_recv hK hP (ci := 7) (q := (RX7, TX7, 28)) rfl wM_0) (mX7_has l D h cI cJ hh (xu S 0 5 z1) L (102 : Int32) _ hw) (cwV 1 hts gX7_readRule_X7_has rfl rfl rfl (by decide +kernel) ⟨Nat.le_of_ble_eq_true rfl, Nat.le_of_ble_eq_true rfl⟩) rfl hl.1 rfl (Nat.le_of_ble_eq_true rfl) dX7_readRule_40 ⟨Nat.zero_le _, Nat.zero_le _⟩ (fun r40 S40 H locs hw hP hS => ?_)
    refine lv_if_eq (tgt := 56) hx hb dX7_readRule_43 (by decide) (fun hc => ?_) (fun hc => ?_)
    · replace hw := And.left hw hc
      refine lv_iconst (v := (0 : Int32)) hx hb dX7_readRule_56 (by decide) ?_
      exact b57 (v1 + (1 : Int32)) (0 : Int32) S40 _ _ _ (lv_sub hl [0, 1] rfl) hP hS hw
    · replace hw := And.right hw hc
      refine lv_aload_n hx hb dX7_readRule_46 rfl (lv_at hl 0 rfl) ?_
      refine lv_sipush (v := (9999 : Int32)) hx hb dX7_readRule_47 (by decide) ?_
      refine xVi1 (As := [.int (9999 : Int32)]) (rest := [.int (v1 + (1 : Int32)), .ref (h 15)]) hst hE hP hS ⟨hx, hb, hml, hown, hts⟩ (va_recv hK hP (ci := 7) (q := (RX7, TX7, 28)) rfl wM_0) (mX7_number l D h cI cJ hh S40 L (9999 : Int32) _ hw) (cwV 1 hts gX7_readRule_X7_number rfl rfl rfl (by decide +kernel) ⟨Nat.le_of_ble_eq_true rfl, Nat.le_of_ble_eq_true rfl⟩) rfl hl.1 rfl (Nat.le_of_ble_eq_true rfl) dX7_readRule_50 ⟨Nat.zero_le _, Nat.zero_le _⟩ (fun r50 S50 H locs hw hP hS => ?_)
      refine lv_goto (tgt := 57) hx hb dX7_readRule_53 (by decide) ?_
      exact b57 (v1 + (1 : Int32)) r50 S50 _ _ _ (lv_sub hl [0, 1] rfl) hP hS hw
  unfold kX7_readRule at hw
  refine lv_aload_n hx hb dX7_readRule_0 rfl (lv_at hl 0 rfl) ?_
  refine va_get (D := D) (ci := 7) (v := .ref (h 15)) (C := RX7) (T := TX7) (N := 28) hx hb hts inX7 hown hK hP 0 wM_0 rfl 20 (by decide) f0 (fun _ h9 => h9) rfl dX7_readRule_1 ?_
  refine lv_iload_n hx hb dX7_readRule_4 rfl (lv_at hl 1 rfl) ?_
  refine lv_aload_n hx hb dX7_readRule_5 rfl (lv_at hl 0 rfl) ?_
  refine lv_bipush (v := (7 : Int32)) hx hb dX7_readRule_6 (by decide) ?_
  refine xVi1 (As := [.int (7 : Int32)]) (rest := [.int v1, .ref (h 15)]) hst hE hP hS ⟨hx, hb, hml, hown, hts⟩ (va_recv hK hP (ci := 7) (q := (RX7, TX7, 28)) rfl wM_0) (mX7_digit l D h cI cJ hh S L (7 : Int32) _ hw) (cwV 1 hts gX7_readRule_X7_digit rfl rfl rfl (by decide +kernel) ⟨Nat.le_of_ble_eq_true rfl, Nat.le_of_ble_eq_true rfl⟩) rfl hl.1 rfl (Nat.le_of_ble_eq_true rfl) dX7_readRule_8 ⟨Nat.zero_le _, Nat.zero_le _⟩ (fun r8 S8 H locs hw hP hS => ?_)
  obtain ⟨hi, hw⟩ := hw
  refine x_iast (ws2 := wM h cI cJ (xu S8 15 v1.toNatClampNeg r8) L) hx hb hK hP (hD _ _) hS 15 0 wM_15 rfl hi dX7_readRule_11 (wM_u15 _ _) (fun H locs hP hS => ?_)
  refine lv_aload_n hx hb dX7_readRule_12 rfl (lv_at hl 0 rfl) ?_
  refine lv_aload_n hx hb dX7_readRule_13 rfl (lv_at hl 0 rfl) ?_
  refine lv_bipush (v := (58 : Int32)) hx hb dX7_readRule_14 (by decide) ?_
  refine xVi1 (As := [.int (58 : Int32)]) (rest := [.ref (h 0)]) hst hE hP hS ⟨hx, hb, hml, hown, hts⟩ (va_recv hK hP (ci := 7) (q := (RX7, TX7, 28)) rfl wM_0) (mX7_has l D h cI cJ hh (xu S8 15 v1.toNatClampNeg r8) L (58 : Int32) _ hw) (cwV 1 hts gX7_readRule_X7_has rfl rfl rfl (by decide +kernel) ⟨Nat.le_of_ble_eq_true rfl, Nat.le_of_ble_eq_true rfl⟩) rfl hl.1 rfl (Nat.le_of_ble_eq_true rfl) dX7_readRule_16 ⟨Nat.zero_le _, Nat.zero_le _⟩ (fun r16 S16 H locs hw hP hS => ?_)
  refine lv_if_ne (tgt := 26) hx hb dX7_readRule_19 (by decide) (fun hc => ?_) (fun hc => ?_)
  · replace hw := And.right hw hc
    refine lv_iconst (v := (0 : Int32)) hx hb dX7_readRule_26 (by decide) ?_
    exact b27 (0 : Int32) S16 _ _ _ (lv_sub hl [0, 1] rfl) hP hS hw
  · replace hw := And.left hw hc
    refine lv_iconst (v := (1 : Int32)) hx hb dX7_readRule_22 (by decide) ?_
    refine lv_goto (tgt := 27) hx hb dX7_readRule_23 (by decide) ?_
    exact b27 (1 : Int32) S16 _ _ _ (lv_sub hl [0, 1] rfl) hP hS hw
abbrev rX7_readWill : Room := { frames := 2, cells := 0, slots := 0, locals := 48 }
set_option maxHeartbeats 4000000 in
set_option maxRecDepth 100000 in
theorem mX7_readWill (l : Launch) (D : va_G) (h : Nat → Nat) (cI cJ : ClassId) (hh : xdis 22 h) (S : SX) (L : LX) (v1 : Int32) (post : SX → Prop) (hw : kX7_readWill S L v1 post) : Met l yX7_readWill wsX7_readWill rX7_readWill (xPre D (wM h cI cJ) (mE D cI cJ) S L [.ref (h 0), .int v1]) (va_Qv (fun (u : SX × LX) => post u.1 ∧ u.2 = L) (xB D (wM h cI cJ)) (xA 22 h)) 0 0 (xA 22 h) := by
  refine Met.ofW (cc := cX7_readWill) (maxL := 3) (ret := none) (by decide) rfl ?_
  intro p e s m args below meth c s₁ B hml hv
  obtain ⟨hargs, hP, hE⟩ := hv
  have hx := B.exec
  have hb := B.bytes
  have hr := B.returns
  have hlocks := B.notSynchronized
  have hts := atoms_spec (ws := wsX7_readWill) B.pre
  have hown : s.vm.findClass RX7 = some m.cls := findClass_of_methodNamed B.named
  have hS : va_S (xA 22 h) s.heap s.heap [] := va_S.rf
  have hD : ∀ (S : SX) (L : LX), va_D (xA 22 h) (wM h cI cJ S L) := fun S L => wM_D hh cI cJ S L
  have hK := id hE
  have hst : xSt (xA 22 h) (mE D cI cJ) := mE_st D _ cI cJ
  have f0 := hts (.fieldLink RX7 58 "BookOfWillsModel" "read" "[I") (by decide +kernel)
  have inX7 : ∀ w ∈ u_ws RX7 TX7 28, w ∈ wsX7_readWill := fun w hw9 => List.mem_cons_of_mem _ (List.mem_append_right _ hw9)
  have f2 := hts (.fieldLink RX7 158 "BookOfWillsModel" "wrong" "Z") (by decide +kernel)
  have hl := lv_entry ([.ref (h 0), .int v1]) (n := 3) (Nat.le_of_ble_eq_true rfl)
  have hen : entryFrame m args 3 = F0 m 0 ((lg_sl ([.ref (h 0), .int v1]) ++ List.replicate (3 - (lg_sl ([.ref (h 0), .int v1])).length) Slot.unset).toArray) [] := by rw [hargs]; exact lg_entry_eq m _ _
  rw [hen]
  generalize (lg_sl ([.ref (h 0), .int v1]) ++ List.replicate (3 - (lg_sl ([.ref (h 0), .int v1])).length) Slot.unset).toArray = ls at hl ⊢
  have hl : lv_has ls 3 [(0, .ref (h 0)), (1, .int v1)] := hl
  change W p l e rX7_readWill s m args below meth c s.heap [] 0 0 (MQ below (va_Qv (fun (u : SX × LX) => post u.1 ∧ u.2 = L) (xB D (wM h cI cJ)) (xA 22 h)) args s 0 0 (xA 22 h)) (F0 m 0 ls [])
  have hret : ∀ (S1 : SX) (H : Heap) (locs : List Loc) (ls : Array Slot) (pc : Nat), va_P D vwCl (wM h cI cJ S1 L) H → va_S (xA 22 h) s.heap H locs → post S1 → decode cX7_readWill pc = .ok (.return_, 1) → W p l e rX7_readWill s m args below meth c H locs 0 0 (MQ below (va_Qv (fun (u : SX × LX) => post u.1 ∧ u.2 = L) (xB D (wM h cI cJ)) (xA 22 h)) args s 0 0 (xA 22 h)) (F0 m pc ls []) := fun S1 H locs ls pc hP hS hw hd => W.vret hx hb hr (fun t ht hW => ⟨⟨(S1, L), rfl, ⟨hw, rfl⟩, show va_P D vwCl (wM h cI cJ S1 L) t.heap by rw [ht]; exact hP⟩, hS.F ht⟩) hS.2.2 hd
  generalize MQ below (va_Qv (fun (u : SX × LX) => post u.1 ∧ u.2 = L) (xB D (wM h cI cJ)) (xA 22 h)) args s 0 0 (xA 22 h) = Q at hret ⊢
  have b51 : ∀ (v2 : Int32) (z1 : Int32) (S : SX) (H : Heap) (locs : List Loc) (ls : Array Slot), lv_has ls 3 [(0, .ref (h 0)), (1, .int v1), (2, .int v2)] → va_P D vwCl (wM h cI cJ S L) H → va_S (xA 22 h) s.heap H locs → kX7_readWill_b51 L v1 post v2 z1 S → W p l e rX7_readWill s m args below meth c H locs 0 0 Q (F0 m 51 ls [.int z1, .ref (h 0)]) := by
    have b70 : ∀ (z1 : Int32) (z2 : Int32) (S : SX) (H : Heap) (locs : List Loc) (ls : Array Slot), lv_has ls 3 [(0, .ref (h 0)), (1, .int v1)] → va_P D vwCl (wM h cI cJ S L) H → va_S (xA 22 h) s.heap H locs → kX7_readWill_b70 L v1 post z1 z2 S → W p l e rX7_readWill s m args below meth c H locs 0 0 Q (F0 m 70 ls [.int z2, .int z1, .ref (h 15)]) := by
      have b113 : ∀ (z1 : Int32) (z2 : Int32) (S : SX) (H : Heap) (locs : List Loc) (ls : Array Slot), lv_has ls 3 [(0, .ref (h 0)), (1, .int v1)] → va_P D vwCl (wM h cI cJ S L) H → va_S (xA 22 h) s.heap H locs → kX7_readWill_b113 L v1 post z1 z2 S → W p l e rX7_readWill s m args below meth c H locs 0 0 Q (F0 m 113 ls [.int z2, .int z1, .ref (h 15)]) := by
        have b141 : ∀ (z1 : Int32) (z2 : Int32) (S : SX) (H : Heap) (locs : List Loc) (ls : Array Slot), lv_has ls 3 [(0, .ref (h 0)), (1, .int v1)] → va_P D vwCl (wM h cI cJ S L) H → va_S (xA 22 h) s.heap H locs → kX7_readWill_b141 L v1 post z1 z2 S → W p l e rX7_readWill s m args below meth c H locs 0 0 Q (F0 m 141 ls [.int z2, .int z1, .ref (h 15)]) := by
          intro z1 z2 S H locs ls hl hP hS hw
          unfold kX7_readWill_b141 at hw
          obtain ⟨hi, hw⟩ := hw
          refine x_iast (ws2 := wM h cI cJ (xu S 15 z1.toNatClampNeg z2) L) hx hb hK hP (hD _ _) hS 15 0 wM_15 rfl hi dX7_readWill_141 (wM_u15 _ _) (fun H locs hP hS => ?_)
          refine lv_aload_n hx hb dX7_readWill_142 rfl (lv_at hl 0 rfl) ?_
          refine va_get (D := D) (ci := 7) (v := .ref (h 15)) (C := RX7) (T := TX7) (N := 28) hx hb hts inX7 hown hK hP 0 wM_0 rfl 20 (by decide) f0 (fun _ h9 => h9) rfl dX7_readWill_143 ?_
          refine lv_iload_n hx hb dX7_readWill_146 rfl (lv_at hl 1 rfl) ?_
          refine lv_bipush (v := (6 : Int32)) hx hb dX7_readWill_147 (by decide) ?_
          refine lv_iadd hx hb dX7_readWill_149 ?_
          refine lv_aload_n hx hb dX7_readWill_150 rfl (lv_at hl 0 rfl) ?_
          refine lv_bipush (v := (116 : Int32)) hx hb dX7_readWill_151 (by decide) ?_
          refine xVi1 (As := [.int (116 : Int32)]) (rest := [.int (v1 + (6 : Int32)), .ref (h 15)]) hst hE hP hS ⟨hx, hb, hml, hown, hts⟩ (va_recv hK hP (ci := 7) (q := (RX7, TX7, 28)) rfl wM_0) (mX7_has l D h cI cJ hh (xu S 15 z1.toNatClampNeg z2) L (116 : Int32) _ hw) (cwV 1 hts gX7_readWill_X7_has rfl rfl rfl (by decide +kernel) ⟨Nat.le_of_ble_eq_true rfl, Nat.le_of_ble_eq_true rfl⟩) rfl hl.1 rfl (Nat.le_of_ble_eq_true rfl) dX7_readWill_153 ⟨Nat.zero_le _, Nat.zero_le _⟩ (fun r153 S153 H locs hw hP hS => ?_)
          refine lv_if_eq (tgt := 169) hx hb dX7_readWill_156 (by decide) (fun hc => ?_) (fun hc => ?_)
          · replace hw := And.left hw hc
            refine lv_iconst (v := (0 : Int32)) hx hb dX7_readWill_169 (by decide) ?_
            obtain ⟨hi, hw⟩ := hw
            refine x_iast (ws2 := wM h cI cJ (xu S153 15 (v1 + (6 : Int32)).toNatClampNeg (0 : Int32)) L) hx hb hK hP (hD _ _) hS 15 0 wM_15 rfl hi dX7_readWill_170 (wM_u15 _ _) (fun H locs hP hS => ?_)
            exact hret _ _ _ _ _ hP hS hw dX7_readWill_171
          · replace hw := And.right hw hc
            refine lv_aload_n hx hb dX7_readWill_159 rfl (lv_at hl 0 rfl) ?_
            refine lv_sipush (v := (9999 : Int32)) hx hb dX7_readWill_160 (by decide) ?_
            refine xVi1 (As := [.int (9999 : Int32)]) (rest := [.int (v1 + (6 : Int32)), .ref (h 15)]) hst hE hP hS ⟨hx, hb, hml, hown, hts⟩ (va_recv hK hP (ci := 7) (q := (RX7, TX7, 28)) rfl wM_0) (mX7_number l D h cI cJ hh S153 L (9999 : Int32) _ hw) (cwV 1 hts gX7_readWill_X7_number rfl rfl rfl (by decide +kernel) ⟨Nat.le_of_ble_eq_true rfl, Nat.le_of_ble_eq_true rfl⟩) rfl hl.1 rfl (Nat.le_of_ble_eq_true rfl) dX7_readWill_163 ⟨Nat.zero_le _, Nat.zero_le _⟩ (fun r163 S163 H locs hw hP hS => ?_)
            refine lv_goto (tgt := 170) hx hb dX7_readWill_166 (by decide) ?_
            obtain ⟨hi, hw⟩ := hw
            refine x_iast (ws2 := wM h cI cJ (xu S163 15 (v1 + (6 : Int32)).toNatClampNeg r163) L) hx hb hK hP (hD _ _) hS 15 0 wM_15 rfl hi dX7_readWill_170 (wM_u15 _ _) (fun H locs hP hS => ?_)
            exact hret _ _ _ _ _ hP hS hw dX7_readWill_171
        intro z1 z2 S H locs ls hl hP hS hw
        unfold kX7_readWill_b113 at hw
        obtain ⟨hi, hw⟩ := hw
        refine x_iast (ws2 := wM h cI cJ (xu S 15 z1.toNatClampNeg z2) L) hx hb hK hP (hD _ _) hS 15 0 wM_15 rfl hi dX7_readWill_113 (wM_u15 _ _) (fun H locs hP hS => ?_)
        refine lv_aload_n hx hb dX7_readWill_114 rfl (lv_at hl 0 rfl) ?_
        refine va_get (D := D) (ci := 7) (v := .ref (h 15)) (C := RX7) (T := TX7) (N := 28) hx hb hts inX7 hown hK hP 0 wM_0 rfl 20 (by decide) f0 (fun _ h9 => h9) rfl dX7_readWill_115 ?_
        refine lv_iload_n hx hb dX7_readWill_118 rfl (lv_at hl 1 rfl) ?_
        refine lv_iconst (v := (5 : Int32)) hx hb dX7_readWill_119 (by decide) ?_
        refine lv_iadd hx hb dX7_readWill_120 ?_
        refine lv_aload_n hx hb dX7_readWill_121 rfl (lv_at hl 0 rfl) ?_
        refine lv_bipush (v := (103 : Int32)) hx hb dX7_readWill_122 (by decide) ?_
        refine xVi1 (As := [.int (103 : Int32)]) (rest := [.int (v1 + (5 : Int32)), .ref (h 15)]) hst hE hP hS ⟨hx, hb, hml, hown, hts⟩ (va_recv hK hP (ci := 7) (q := (RX7, TX7, 28)) rfl wM_0) (mX7_has l D h cI cJ hh (xu S 15 z1.toNatClampNeg z2) L (103 : Int32) _ hw) (cwV 1 hts gX7_readWill_X7_has rfl rfl rfl (by decide +kernel) ⟨Nat.le_of_ble_eq_true rfl, Nat.le_of_ble_eq_true rfl⟩) rfl hl.1 rfl (Nat.le_of_ble_eq_true rfl) dX7_readWill_124 ⟨Nat.zero_le _, Nat.zero_le _⟩ (fun r124 S124 H locs hw hP hS => ?_)
        refine lv_if_eq (tgt := 140) hx hb dX7_readWill_127 (by decide) (fun hc => ?_) (fun hc => ?_)
        · replace hw := And.left hw hc
          refine lv_iconst (v := (0 : Int32)) hx hb dX7_readWill_140 (by decide) ?_
          exact b141 (v1 + (5 : Int32)) (0 : Int32) S124 _ _ _ (lv_sub hl [0, 1] rfl) hP hS hw
        · replace hw := And.right hw hc
          refine lv_aload_n hx hb dX7_readWill_130 rfl (lv_at hl 0 rfl) ?_
          refine lv_sipush (v := (9999 : Int32)) hx hb dX7_readWill_131 (by decide) ?_
          refine xVi1 (As := [.int (9999 : Int32)]) (rest := [.int (v1 + (5 : Int32)), .ref (h 15)]) hst hE hP hS ⟨hx, hb, hml, hown, hts⟩ (va_recv hK hP (ci := 7) (q := (RX7, TX7, 28)) rfl wM_0) (mX7_number l D h cI cJ hh S124 L (9999 : Int32) _ hw) (cwV 1 hts gX7_readWill_X7_number rfl rfl rfl (by decide +kernel) ⟨Nat.le_of_ble_eq_true rfl, Nat.le_of_ble_eq_true rfl⟩) rfl hl.1 rfl (Nat.le_of_ble_eq_true rfl) dX7_readWill_134 ⟨Nat.zero_le _, Nat.zero_le _⟩ (fun r134 S134 H locs hw hP hS => ?_)
          refine lv_goto (tgt := 141) hx hb dX7_readWill_137 (by decide) ?_
          exact b141 (v1 + (5 : Int32)) r134 S134 _ _ _ (lv_sub hl [0, 1] rfl) hP hS hw
      intro z1 z2 S H locs ls hl hP hS hw
      unfold kX7_readWill_b70 at hw
      obtain ⟨hi, hw⟩ := hw
      refine x_iast (ws2 := wM h cI cJ (xu S 15 z1.toNatClampNeg z2) L) hx hb hK hP (hD _ _) hS 15 0 wM_15 rfl hi dX7_readWill_70 (wM_u15 _ _) (fun H locs hP hS => ?_)
      refine lv_aload_n hx hb dX7_readWill_71 rfl (lv_at hl 0 rfl) ?_
      refine va_get (D := D) (ci := 7) (v := .ref (h 15)) (C := RX7) (T := TX7) (N := 28) hx hb hts inX7 hown hK hP 0 wM_0 rfl 20 (by decide) f0 (fun _ h9 => h9) rfl dX7_readWill_72 ?_
      refine lv_iload_n hx hb dX7_readWill_75 rfl (lv_at hl 1 rfl) ?_
      refine lv_iconst (v := (3 : Int32)) hx hb dX7_readWill_76 (by decide) ?_
      refine lv_iadd hx hb dX7_readWill_77 ?_
      refine lv_aload_n hx hb dX7_readWill_78 rfl (lv_at hl 0 rfl) ?_
      refine lv_sipush (v := (9999 : Int32)) hx hb dX7_readWill_79 (by decide) ?_
      refine xVi1 (As := [.int (9999 : Int32)]) (rest := [.int (v1 + (3 : Int32)), .ref (h 15)]) hst hE hP hS ⟨hx, hb, hml, hown, hts⟩ (va_recv hK hP (ci := 7) (q := (RX7, TX7, 28)) rfl wM_0) (mX7_number l D h cI cJ hh (xu S 15 z1.toNatClampNeg z2) L (9999 : Int32) _ hw) (cwV 1 hts gX7_readWill_X7_number rfl rfl rfl (by decide +kernel) ⟨Nat.le_of_ble_eq_true rfl, Nat.le_of_ble_eq_true rfl⟩) rfl hl.1 rfl (Nat.le_of_ble_eq_true rfl) dX7_readWill_82 ⟨Nat.zero_le _, Nat.zero_le _⟩ (fun r82 S82 H locs hw hP hS => ?_)
      obtain ⟨hi, hw⟩ := hw
      refine x_iast (ws2 := wM h cI cJ (xu S82 15 (v1 + (3 : Int32)).toNatClampNeg r82) L) hx hb hK hP (hD _ _) hS 15 0 wM_15 rfl hi dX7_readWill_85 (wM_u15 _ _) (fun H locs hP hS => ?_)
      refine lv_aload_n hx hb dX7_readWill_86 rfl (lv_at hl 0 rfl) ?_
      refine va_get (D := D) (ci := 7) (v := .ref (h 15)) (C := RX7) (T := TX7) (N := 28) hx hb hts inX7 hown hK hP 0 wM_0 rfl 20 (by decide) f0 (fun _ h9 => h9) rfl dX7_readWill_87 ?_
      refine lv_iload_n hx hb dX7_readWill_90 rfl (lv_at hl 1 rfl) ?_
      refine lv_iconst (v := (4 : Int32)) hx hb dX7_readWill_91 (by decide) ?_
      refine lv_iadd hx hb dX7_readWill_92 ?_
      refine lv_aload_n hx hb dX7_readWill_93 rfl (lv_at hl 0 rfl) ?_
      refine lv_bipush (v := (108 : Int32)) hx hb dX7_readWill_94 (by decide) ?_
      refine xVi1 (As := [.int (108 : Int32)]) (rest := [.int (v1 + (4 : Int32)), .ref (h 15)]) hst hE hP hS ⟨hx, hb, hml, hown, hts⟩ (va_recv hK hP (ci := 7) (q := (RX7, TX7, 28)) rfl wM_0) (mX7_has l D h cI cJ hh (xu S82 15 (v1 + (3 : Int32)).toNatClampNeg r82) L (108 : Int32) _ hw) (cwV 1 hts gX7_readWill_X7_has rfl rfl rfl (by decide +kernel) ⟨Nat.le_of_ble_eq_true rfl, Nat.le_of_ble_eq_true rfl⟩) rfl hl.1 rfl (Nat.le_of_ble_eq_true rfl) dX7_readWill_96 ⟨Nat.zero_le _, Nat.zero_le _⟩ (fun r96 S96 H locs hw hP hS => ?_)
      refine lv_if_eq (tgt := 112) hx hb dX7_readWill_99 (by decide) (fun hc => ?_) (fun hc => ?_)
      · replace hw := And.left hw hc
        refine lv_iconst (v := (0 : Int32)) hx hb dX7_readWill_112 (by decide) ?_
        exact b113 (v1 + (4 : Int32)) (0 : Int32) S96 _ _ _ (lv_sub hl [0, 1] rfl) hP hS hw
      · replace hw := And.right hw hc
        refine lv_aload_n hx hb dX7_readWill_102 rfl (lv_at hl 0 rfl) ?_
        refine lv_sipush (v := (9999 : Int32)) hx hb dX7_readWill_103 (by decide) ?_
        refine xVi1 (As := [.int (9999 : Int32)]) (rest := [.int (v1 + (4 : Int32)), .ref (h 15)]) hst hE hP hS ⟨hx, hb, hml, hown, hts⟩ (va_recv hK hP (ci := 7) (q := (RX7, TX7, 28)) rfl wM_0) (mX7_number l D h cI cJ hh S96 L (9999 : Int32) _ hw) (cwV 1 hts gX7_readWill_X7_number rfl rfl rfl (by decide +kernel) ⟨Nat.le_of_ble_eq_true rfl, Nat.le_of_ble_eq_true rfl⟩) rfl hl.1 rfl (Nat.le_of_ble_eq_true rfl) dX7_readWill_106 ⟨Nat.zero_le _, Nat.zero_le _⟩ (fun r106 S106 H locs hw hP hS => ?_)
        refine lv_goto (tgt := 113) hx hb dX7_readWill_109 (by decide) ?_
        exact b113 (v1 + (4 : Int32)) r106 S106 _ _ _ (lv_sub hl [0, 1] rfl) hP hS hw
    intro v2 z1 S H locs ls hl hP hS hw
    unfold kX7_readWill_b51 at hw
    obtain ⟨hi, hw⟩ := hw
    refine x_put (D := D) (ci := 7) (v := .int z1) (ty := .boolean) (C := RX7) (T := TX7) (N := 28) (ws2 := wM h cI cJ (xu S 0 5 z1) L) hx hb hts inX7 tyX7 tyX7_ok nmX7 hown hK hP (hD _ _) hS 0 wM_0 rfl 19 (by decide) f2 (fun _ h9 => h9) rfl (by decide +kernel) (xb_n hi) (xb_f hi) (Nat.le_of_ble_eq_true rfl) dX7_readWill_51 (wM_p0_5 _) (fun H locs hP hS => ?_)
    refine lv_aload_n hx hb dX7_readWill_54 rfl (lv_at hl 0 rfl) ?_
    refine va_get (D := D) (ci := 7) (v := .ref (h 15)) (C := RX7) (T := TX7) (N := 28) hx hb hts inX7 hown hK hP 0 wM_0 rfl 20 (by decide) f0 (fun _ h9 => h9) rfl dX7_readWill_55 ?_
    refine lv_iload_n hx hb dX7_readWill_58 rfl (lv_at hl 1 rfl) ?_
    refine lv_iconst (v := (2 : Int32)) hx hb dX7_readWill_59 (by decide) ?_
    refine lv_iadd hx hb dX7_readWill_60 ?_
    refine lv_iload_n hx hb dX7_readWill_61 rfl (lv_at hl 2 rfl) ?_
    refine lv_if_eq (tgt := 69) hx hb dX7_readWill_62 (by decide) (fun hc => ?_) (fun hc => ?_)
    · replace hw := And.left hw hc
      refine lv_iconst (v := (1 : Int32)) hx hb dX7_readWill_69 (by decide) ?_
      exact b70 (v1 + (2 : Int32)) (1 : Int32) (xu S 0 5 z1) _ _ _ (lv_sub hl [0, 1] rfl) hP hS hw
    · replace hw := And.right hw hc
      refine lv_iconst (v := (0 : Int32)) hx hb dX7_readWill_65 (by decide) ?_
      refine lv_goto (tgt := 70) hx hb dX7_readWill_66 (by decide) ?_
      exact b70 (v1 + (2 : Int32)) (0 : Int32) (xu S 0 5 z1) _ _ _ (lv_sub hl [0, 1] rfl) hP hS hw
  have b50 : ∀ (v2 : Int32) (S : SX) (H : Heap) (locs : List Loc) (ls : Array Slot), lv_has ls 3 [(0, .ref (h 0)), (1, .int v1), (2, .int v2)] → va_P D vwCl (wM h cI cJ S L) H → va_S (xA 22 h) s.heap H locs → kX7_readWill_b50 L v1 post (kX7_readWill_b51 L v1 post) v2 S → W p l e rX7_readWill s m args below meth c H locs 0 0 Q (F0 m 50 ls [.ref (h 0)]) := by
    intro v2 S H locs ls hl hP hS hw
    unfold kX7_readWill_b50 at hw
    refine lv_iconst (v := (0 : Int32)) hx hb dX7_readWill_50 (by decide) ?_
    exact b51 v2 (0 : Int32) S _ _ _ (lv_sub hl [0, 1, 2] rfl) hP hS hw
  unfold kX7_readWill at hw
  refine lv_aload_n hx hb dX7_readWill_0 rfl (lv_at hl 0 rfl) ?_
  refine va_get (D := D) (ci := 7) (v := .ref (h 15)) (C := RX7) (T := TX7) (N := 28) hx hb hts inX7 hown hK hP 0 wM_0 rfl 20 (by decide) f0 (fun _ h9 => h9) rfl dX7_readWill_1 ?_
  refine lv_iload_n hx hb dX7_readWill_4 rfl (lv_at hl 1 rfl) ?_
  refine lv_aload_n hx hb dX7_readWill_5 rfl (lv_at hl 0 rfl) ?_
  refine lv_bipush (v := (7 : Int32)) hx hb dX7_readWill_6 (by decide) ?_
  refine xVi1 (As := [.int (7 : Int32)]) (rest := [.int v1, .ref (h 15)]) hst hE hP hS ⟨hx, hb, hml, hown, hts⟩ (va_recv hK hP (ci := 7) (q := (RX7, TX7, 28)) rfl wM_0) (mX7_digit l D h cI cJ hh S L (7 : Int32) _ hw) (cwV 1 hts gX7_readWill_X7_digit rfl rfl rfl (by decide +kernel) ⟨Nat.le_of_ble_eq_true rfl, Nat.le_of_ble_eq_true rfl⟩) rfl hl.1 rfl (Nat.le_of_ble_eq_true rfl) dX7_readWill_8 ⟨Nat.zero_le _, Nat.zero_le _⟩ (fun r8 S8 H locs hw hP hS => ?_)
  obtain ⟨hi, hw⟩ := hw
  refine x_iast (ws2 := wM h cI cJ (xu S8 15 v1.toNatClampNeg r8) L) hx hb hK hP (hD _ _) hS 15 0 wM_15 rfl hi dX7_readWill_11 (wM_u15 _ _) (fun H locs hP hS => ?_)
  refine lv_aload_n hx hb dX7_readWill_12 rfl (lv_at hl 0 rfl) ?_
  refine va_get (D := D) (ci := 7) (v := .ref (h 15)) (C := RX7) (T := TX7) (N := 28) hx hb hts inX7 hown hK hP 0 wM_0 rfl 20 (by decide) f0 (fun _ h9 => h9) rfl dX7_readWill_13 ?_
  refine lv_iload_n hx hb dX7_readWill_16 rfl (lv_at hl 1 rfl) ?_
  refine lv_iconst (v := (1 : Int32)) hx hb dX7_readWill_17 (by decide) ?_
  refine lv_iadd hx hb dX7_readWill_18 ?_
  refine lv_aload_n hx hb dX7_readWill_19 rfl (lv_at hl 0 rfl) ?_
  refine lv_iconst (v := (5 : Int32)) hx hb dX7_readWill_20 (by decide) ?_
  refine xVi1 (As := [.int (5 : Int32)]) (rest := [.int (v1 + (1 : Int32)), .ref (h 15)]) hst hE hP hS ⟨hx, hb, hml, hown, hts⟩ (va_recv hK hP (ci := 7) (q := (RX7, TX7, 28)) rfl wM_0) (mX7_digit l D h cI cJ hh (xu S8 15 v1.toNatClampNeg r8) L (5 : Int32) _ hw) (cwV 1 hts gX7_readWill_X7_digit rfl rfl rfl (by decide +kernel) ⟨Nat.le_of_ble_eq_true rfl, Nat.le_of_ble_eq_true rfl⟩) rfl hl.1 rfl (Nat.le_of_ble_eq_true rfl) dX7_readWill_21 ⟨Nat.zero_le _, Nat.zero_le _⟩ (fun r21 S21 H locs hw hP hS => ?_)
  obtain ⟨hi, hw⟩ := hw
  refine x_iast (ws2 := wM h cI cJ (xu S21 15 (v1 + (1 : Int32)).toNatClampNeg r21) L) hx hb hK hP (hD _ _) hS 15 0 wM_15 rfl hi dX7_readWill_24 (wM_u15 _ _) (fun H locs hP hS => ?_)
  refine lv_aload_n hx hb dX7_readWill_25 rfl (lv_at hl 0 rfl) ?_
  refine lv_bipush (v := (109 : Int32)) hx hb dX7_readWill_26 (by decide) ?_
  refine xVi1 (As := [.int (109 : Int32)]) (rest := []) hst hE hP hS ⟨hx, hb, hml, hown, hts⟩ (va_recv hK hP (ci := 7) (q := (RX7, TX7, 28)) rfl wM_0) (mX7_has l D h cI cJ hh (xu S21 15 (v1 + (1 : Int32)).toNatClampNeg r21) L (109 : Int32) _ hw) (cwV 1 hts gX7_readWill_X7_has rfl rfl rfl (by decide +kernel) ⟨Nat.le_of_ble_eq_true rfl, Nat.le_of_ble_eq_true rfl⟩) rfl hl.1 rfl (Nat.le_of_ble_eq_true rfl) dX7_readWill_28 ⟨Nat.zero_le _, Nat.zero_le _⟩ (fun r28 S28 H locs hw hP hS => ?_)
  refine lv_istore_n (lv' := [(2, .int r28), (0, .ref (h 0)), (1, .int v1)]) hx hb dX7_readWill_31 rfl hl (by decide) rfl (fun ls hl => ?_)
  refine lv_aload_n hx hb dX7_readWill_32 rfl (lv_at hl 1 rfl) ?_
  refine lv_iload_n hx hb dX7_readWill_33 rfl (lv_at hl 0 rfl) ?_
  refine lv_if_ne (tgt := 50) hx hb dX7_readWill_34 (by decide) (fun hc => ?_) (fun hc => ?_)
  · replace hw := And.right hw hc
    exact b50 r28 S28 _ _ _ (lv_sub hl [1, 2, 0] rfl) hP hS hw
  · replace hw := And.left hw hc
    refine lv_aload_n hx hb dX7_readWill_37 rfl (lv_at hl 1 rfl) ?_
    refine lv_bipush (v := (119 : Int32)) hx hb dX7_readWill_38 (by decide) ?_
    refine xVi1 (As := [.int (119 : Int32)]) (rest := [.ref (h 0)]) hst hE hP hS ⟨hx, hb, hml, hown, hts⟩ (va_recv hK hP (ci := 7) (q := (RX7, TX7, 28)) rfl wM_0) (mX7_has l D h cI cJ hh S28 L (119 : Int32) _ hw) (cwV 1 hts gX7_readWill_X7_has rfl rfl rfl (by decide +kernel) ⟨Nat.le_of_ble_eq_true rfl, Nat.le_of_ble_eq_true rfl⟩) rfl hl.1 rfl (Nat.le_of_ble_eq_true rfl) dX7_readWill_40 ⟨Nat.zero_le _, Nat.zero_le _⟩ (fun r40 S40 H locs hw hP hS => ?_)
    refine lv_if_ne (tgt := 50) hx hb dX7_readWill_43 (by decide) (fun hc => ?_) (fun hc => ?_)
    · replace hw := And.right hw hc
      exact b50 r28 S40 _ _ _ (lv_sub hl [1, 2, 0] rfl) hP hS hw
    · replace hw := And.left hw hc
      refine lv_iconst (v := (1 : Int32)) hx hb dX7_readWill_46 (by decide) ?_
      refine lv_goto (tgt := 51) hx hb dX7_readWill_47 (by decide) ?_
      exact b51 r28 (1 : Int32) S40 _ _ _ (lv_sub hl [1, 2, 0] rfl) hP hS hw
abbrev rX7_readAll : Room := { frames := 3, cells := 0, slots := 0, locals := 70 }
set_option maxHeartbeats 4000000 in
set_option maxRecDepth 100000 in
theorem mX7_readAll (l : Launch) (D : va_G) (h : Nat → Nat) (cI cJ : ClassId) (hh : xdis 22 h) (S : SX) (L : LX) (v1 : Int32) (post : Int32 → SX → Prop) (hw : kX7_readAll S L v1 post) : Met l yX7_readAll wsX7_readAll rX7_readAll (xPre D (wM h cI cJ) (mE D cI cJ) S L [.ref (h 0), .int v1]) (va_Qi (fun (r : Int32) (u : SX × LX) => post r u.1 ∧ u.2 = L) (xB D (wM h cI cJ)) (xA 22 h)) 0 0 (xA 22 h) := by
  refine Met.ofW (cc := cX7_readAll) (maxL := 4) (ret := (some .int)) (by decide) rfl ?_
  intro p e s m args below meth c s₁ B hml hv
  obtain ⟨hargs, hP, hE⟩ := hv
  have hx := B.exec
  have hb := B.bytes
  have hr := B.returns
  have hlocks := B.notSynchronized
  have hts := atoms_spec (ws := wsX7_readAll) B.pre
  have hown : s.vm.findClass RX7 = some m.cls := findClass_of_methodNamed B.named
  have hS : va_S (xA 22 h) s.heap s.heap [] := va_S.rf
  have hD : ∀ (S : SX) (L : LX), va_D (xA 22 h) (wM h cI cJ S L) := fun S L => wM_D hh cI cJ S L
  have hK := id hE
  have hst : xSt (xA 22 h) (mE D cI cJ) := mE_st D _ cI cJ
  have f0 := hts (.fieldLink RX7 158 "BookOfWillsModel" "wrong" "Z") (by decide +kernel)
  have inX7 : ∀ w ∈ u_ws RX7 TX7 28, w ∈ wsX7_readAll := fun w hw9 => List.mem_cons_of_mem _ (List.mem_append_right _ hw9)
  have f2 := hts (.fieldLink RX7 152 "BookOfWillsModel" "taped" "I") (by decide +kernel)
  have f3 := hts (.fieldLink RX7 155 "BookOfWillsModel" "at" "I") (by decide +kernel)
  have hl := lv_entry ([.ref (h 0), .int v1]) (n := 4) (Nat.le_of_ble_eq_true rfl)
  have hen : entryFrame m args 4 = F0 m 0 ((lg_sl ([.ref (h 0), .int v1]) ++ List.replicate (4 - (lg_sl ([.ref (h 0), .int v1])).length) Slot.unset).toArray) [] := by rw [hargs]; exact lg_entry_eq m _ _
  rw [hen]
  generalize (lg_sl ([.ref (h 0), .int v1]) ++ List.replicate (4 - (lg_sl ([.ref (h 0), .int v1])).length) Slot.unset).toArray = ls at hl ⊢
  have hl : lv_has ls 4 [(0, .ref (h 0)), (1, .int v1)] := hl
  change W p l e rX7_readAll s m args below meth c s.heap [] 0 0 (MQ below (va_Qi (fun (r : Int32) (u : SX × LX) => post r u.1 ∧ u.2 = L) (xB D (wM h cI cJ)) (xA 22 h)) args s 0 0 (xA 22 h)) (F0 m 0 ls [])
  have hret : ∀ (r : Int32) (S1 : SX) (H : Heap) (locs : List Loc) (ls : Array Slot) (pc : Nat), va_P D vwCl (wM h cI cJ S1 L) H → va_S (xA 22 h) s.heap H locs → post r S1 → decode cX7_readAll pc = .ok (.ireturn, 1) → W p l e rX7_readAll s m args below meth c H locs 0 0 (MQ below (va_Qi (fun (r : Int32) (u : SX × LX) => post r u.1 ∧ u.2 = L) (xB D (wM h cI cJ)) (xA 22 h)) args s 0 0 (xA 22 h)) (F0 m pc ls [.int r]) := fun r S1 H locs ls pc hP hS hw hd => W.iret hx hb hr (fun t ht hW => ⟨⟨r, (S1, L), rfl, ⟨hw, rfl⟩, show va_P D vwCl (wM h cI cJ S1 L) t.heap by rw [ht]; exact hP⟩, hS.F ht⟩) hS.2.2 hd
  generalize MQ below (va_Qi (fun (r : Int32) (u : SX × LX) => post r u.1 ∧ u.2 = L) (xB D (wM h cI cJ)) (xA 22 h)) args s 0 0 (xA 22 h) = Q at hret ⊢
  have b14 : ∀  (n14 : Nat) (v2 : Int32) (v3 : Int32) (S : SX) (H : Heap) (locs : List Loc) (ls : Array Slot), lv_has ls 4 [(0, .ref (h 0)), (1, .int v1), (2, .int v2), (3, .int v3)] → va_P D vwCl (wM h cI cJ S L) H → va_S (xA 22 h) s.heap H locs → kX7_readAll_b14 L v1 post n14 v2 v3 S → W p l e rX7_readAll s m args below meth c H locs 0 0 Q (F0 m 14 ls []) := by
    intro n14
    induction n14 with
    | zero => intro v2 v3 S H locs ls hl hP hS hw; exact absurd hw id
    | succ n14 i14 =>
      have b41 : ∀ (v2 : Int32) (S : SX) (H : Heap) (locs : List Loc) (ls : Array Slot), lv_has ls 4 [(0, .ref (h 0)), (1, .int v1), (2, .int v2)] → va_P D vwCl (wM h cI cJ S L) H → va_S (xA 22 h) s.heap H locs → kX7_readAll_b41 L v1 post (kX7_readAll_b14 L v1 post n14) v2 S → W p l e rX7_readAll s m args below meth c H locs 0 0 Q (F0 m 41 ls []) := by
        intro v2 S H locs ls hl hP hS hw
        unfold kX7_readAll_b41 at hw
        refine lv_iinc (v := v2 + (1 : Int32)) (lv' := [(2, .int (v2 + (1 : Int32))), (0, .ref (h 0)), (1, .int v1)]) hx hb dX7_readAll_41 hl (k := 2) rfl rfl (by decide) rfl (fun ls hl => ?_)
        refine lv_iload_n hx hb dX7_readAll_44 rfl (lv_at hl 0 rfl) ?_
        refine lv_bipush (v := (8 : Int32)) hx hb dX7_readAll_45 (by decide) ?_
        refine lv_icmp_ge (tgt := 63) hx hb dX7_readAll_47 (by decide) (fun hc => ?_) (fun hc => ?_)
        · replace hw := And.left hw hc
          refine lv_iconst (v := (0 : Int32)) hx hb dX7_readAll_63 (by decide) ?_
          refine lv_istore_n (lv' := [(3, .int (0 : Int32)), (2, .int (v2 + (1 : Int32))), (0, .ref (h 0)), (1, .int v1)]) hx hb dX7_readAll_64 rfl hl (by decide) rfl (fun ls hl => ?_)
          refine lv_goto (tgt := 14) hx hb dX7_readAll_65 (by decide) ?_
          exact i14 (v2 + (1 : Int32)) (0 : Int32) S _ _ _ (lv_sub hl [2, 3, 1, 0] rfl) hP hS hw
        · replace hw := And.right hw hc
          refine lv_aload_n hx hb dX7_readAll_50 rfl (lv_at hl 1 rfl) ?_
          refine lv_bipush (v := (59 : Int32)) hx hb dX7_readAll_51 (by decide) ?_
          refine xVi1 (As := [.int (59 : Int32)]) (rest := []) hst hE hP hS ⟨hx, hb, hml, hown, hts⟩ (va_recv hK hP (ci := 7) (q := (RX7, TX7, 28)) rfl wM_0) (mX7_has l D h cI cJ hh S L (59 : Int32) _ hw) (cwV 1 hts gX7_readAll_X7_has rfl rfl rfl (by decide +kernel) ⟨Nat.le_of_ble_eq_true rfl, Nat.le_of_ble_eq_true rfl⟩) rfl hl.1 rfl (Nat.le_of_ble_eq_true rfl) dX7_readAll_53 ⟨Nat.zero_le _, Nat.zero_le _⟩ (fun r53 S53 H locs hw hP hS => ?_)
          refine lv_if_eq (tgt := 63) hx hb dX7_readAll_56 (by decide) (fun hc => ?_) (fun hc => ?_)
          · replace hw := And.left hw hc
            refine lv_iconst (v := (0 : Int32)) hx hb dX7_readAll_63 (by decide) ?_
            refine lv_istore_n (lv' := [(3, .int (0 : Int32)), (2, .int (v2 + (1 : Int32))), (0, .ref (h 0)), (1, .int v1)]) hx hb dX7_readAll_64 rfl hl (by decide) rfl (fun ls hl => ?_)
            refine lv_goto (tgt := 14) hx hb dX7_readAll_65 (by decide) ?_
            exact i14 (v2 + (1 : Int32)) (0 : Int32) S53 _ _ _ (lv_sub hl [2, 3, 1, 0] rfl) hP hS hw
          · replace hw := And.right hw hc
            refine lv_iconst (v := (1 : Int32)) hx hb dX7_readAll_59 (by decide) ?_
            refine lv_goto (tgt := 64) hx hb dX7_readAll_60 (by decide) ?_
            refine lv_istore_n (lv' := [(3, .int (1 : Int32)), (2, .int (v2 + (1 : Int32))), (0, .ref (h 0)), (1, .int v1)]) hx hb dX7_readAll_64 rfl hl (by decide) rfl (fun ls hl => ?_)
            refine lv_goto (tgt := 14) hx hb dX7_readAll_65 (by decide) ?_
            exact i14 (v2 + (1 : Int32)) (1 : Int32) S53 _ _ _ (lv_sub hl [2, 3, 1, 0] rfl) hP hS hw
      have b88 : ∀ (v2 : Int32) (z1 : Int32) (S : SX) (H : Heap) (locs : List Loc) (ls : Array Slot), lv_has ls 4 [(0, .ref (h 0)), (2, .int v2)] → va_P D vwCl (wM h cI cJ S L) H → va_S (xA 22 h) s.heap H locs → kX7_readAll_b88 L v1 post v2 z1 S → W p l e rX7_readAll s m args below meth c H locs 0 0 Q (F0 m 88 ls [.int z1, .ref (h 0)]) := by
        intro v2 z1 S H locs ls hl hP hS hw
        unfold kX7_readAll_b88 at hw
        obtain ⟨hi, hw⟩ := hw
        refine x_put (D := D) (ci := 7) (v := .int z1) (ty := .boolean) (C := RX7) (T := TX7) (N := 28) (ws2 := wM h cI cJ (xu S 0 5 z1) L) hx hb hts inX7 tyX7 tyX7_ok nmX7 hown hK hP (hD _ _) hS 0 wM_0 rfl 19 (by decide) f0 (fun _ h9 => h9) rfl (by decide +kernel) (xb_n hi) (xb_f hi) (Nat.le_of_ble_eq_true rfl) dX7_readAll_88 (wM_p0_5 _) (fun H locs hP hS => ?_)
        refine lv_aload_n hx hb dX7_readAll_91 rfl (lv_at hl 0 rfl) ?_
        refine lv_iconst (v := (0 : Int32)) hx hb dX7_readAll_92 (by decide) ?_
        refine x_put (D := D) (ci := 7) (v := .int (0 : Int32)) (ty := .int) (C := RX7) (T := TX7) (N := 28) (ws2 := wM h cI cJ (xu (xu S 0 5 z1) 0 3 (0 : Int32)) L) hx hb hts inX7 tyX7 tyX7_ok nmX7 hown hK hP (hD _ _) hS 0 wM_0 rfl 17 (by decide) f2 (fun _ h9 => h9) rfl (by decide +kernel) rfl rfl (Nat.le_of_ble_eq_true rfl) dX7_readAll_93 (wM_p0_3 _) (fun H locs hP hS => ?_)
        refine lv_aload_n hx hb dX7_readAll_96 rfl (lv_at hl 0 rfl) ?_
        refine va_get (D := D) (ci := 7) (v := .int ((xu (xu S 0 5 z1) 0 3 (0 : Int32)) 0 5)) (C := RX7) (T := TX7) (N := 28) hx hb hts inX7 hown hK hP 0 wM_0 rfl 19 (by decide) f0 (fun _ h9 => h9) rfl dX7_readAll_97 ?_
        refine lv_if_eq (tgt := 113) hx hb dX7_readAll_100 (by decide) (fun hc => ?_) (fun hc => ?_)
        · replace hw := And.left hw hc
          refine lv_iload_n hx hb dX7_readAll_113 rfl (lv_at hl 1 rfl) ?_
          exact hret _ _ _ _ _ _ hP hS hw dX7_readAll_114
        · replace hw := And.right hw hc
          refine lv_bipush (v := (-20 : Int32)) hx hb dX7_readAll_103 (by decide) ?_
          refine lv_aload_n hx hb dX7_readAll_105 rfl (lv_at hl 0 rfl) ?_
          refine va_get (D := D) (ci := 7) (v := .int ((xu (xu S 0 5 z1) 0 3 (0 : Int32)) 0 4)) (C := RX7) (T := TX7) (N := 28) hx hb hts inX7 hown hK hP 0 wM_0 rfl 18 (by decide) f3 (fun _ h9 => h9) rfl dX7_readAll_106 ?_
          refine lv_isub hx hb dX7_readAll_109 ?_
          refine lv_goto (tgt := 114) hx hb dX7_readAll_110 (by decide) ?_
          exact hret _ _ _ _ _ _ hP hS hw dX7_readAll_114
      have b83 : ∀ (v2 : Int32) (S : SX) (H : Heap) (locs : List Loc) (ls : Array Slot), lv_has ls 4 [(0, .ref (h 0)), (2, .int v2)] → va_P D vwCl (wM h cI cJ S L) H → va_S (xA 22 h) s.heap H locs → kX7_readAll_b83 L v1 post (kX7_readAll_b88 L v1 post) v2 S → W p l e rX7_readAll s m args below meth c H locs 0 0 Q (F0 m 83 ls [.ref (h 0)]) := by
        intro v2 S H locs ls hl hP hS hw
        unfold kX7_readAll_b83 at hw
        refine lv_iconst (v := (1 : Int32)) hx hb dX7_readAll_83 (by decide) ?_
        refine lv_goto (tgt := 88) hx hb dX7_readAll_84 (by decide) ?_
        exact b88 v2 (1 : Int32) S _ _ _ (lv_sub hl [0, 1] rfl) hP hS hw
      intro v2 v3 S H locs ls hl hP hS hw
      unfold kX7_readAll_b14 at hw
      refine lv_iload_n hx hb dX7_readAll_14 rfl (lv_at hl 3 rfl) ?_
      refine lv_if_eq (tgt := 68) hx hb dX7_readAll_15 (by decide) (fun hc => ?_) (fun hc => ?_)
      · replace hw := And.left hw hc
        refine lv_aload_n hx hb dX7_readAll_68 rfl (lv_at hl 0 rfl) ?_
        refine lv_aload_n hx hb dX7_readAll_69 rfl (lv_at hl 0 rfl) ?_
        refine va_get (D := D) (ci := 7) (v := .int (S 0 5)) (C := RX7) (T := TX7) (N := 28) hx hb hts inX7 hown hK hP 0 wM_0 rfl 19 (by decide) f0 (fun _ h9 => h9) rfl dX7_readAll_70 ?_
        refine lv_if_ne (tgt := 83) hx hb dX7_readAll_73 (by decide) (fun hc => ?_) (fun hc => ?_)
        · replace hw := And.right hw hc
          exact b83 v2 S _ _ _ (lv_sub hl [0, 2] rfl) hP hS hw
        · replace hw := And.left hw hc
          refine lv_aload_n hx hb dX7_readAll_76 rfl (lv_at hl 0 rfl) ?_
          refine xVi1 (As := []) (rest := [.ref (h 0)]) hst hE hP hS ⟨hx, hb, hml, hown, hts⟩ (va_recv hK hP (ci := 7) (q := (RX7, TX7, 28)) rfl wM_0) (mX7_here l D h cI cJ hh S L  _ hw) (cwV 0 hts gX7_readAll_X7_here rfl rfl rfl (by decide +kernel) ⟨Nat.le_of_ble_eq_true rfl, Nat.le_of_ble_eq_true rfl⟩) rfl hl.1 rfl (Nat.le_of_ble_eq_true rfl) dX7_readAll_77 ⟨Nat.zero_le _, Nat.zero_le _⟩ (fun r77 S77 H locs hw hP hS => ?_)
          refine lv_if_eq (tgt := 87) hx hb dX7_readAll_80 (by decide) (fun hc => ?_) (fun hc => ?_)
          · replace hw := And.left hw hc
            refine lv_iconst (v := (0 : Int32)) hx hb dX7_readAll_87 (by decide) ?_
            exact b88 v2 (0 : Int32) S77 _ _ _ (lv_sub hl [0, 2] rfl) hP hS hw
          · replace hw := And.right hw hc
            exact b83 v2 S77 _ _ _ (lv_sub hl [0, 2] rfl) hP hS hw
      · replace hw := And.right hw hc
        refine lv_iload_n hx hb dX7_readAll_18 rfl (lv_at hl 1 rfl) ?_
        refine lv_if_eq (tgt := 33) hx hb dX7_readAll_19 (by decide) (fun hc => ?_) (fun hc => ?_)
        · replace hw := And.left hw hc
          refine lv_aload_n hx hb dX7_readAll_33 rfl (lv_at hl 0 rfl) ?_
          refine lv_bipush (v := (7 : Int32)) hx hb dX7_readAll_34 (by decide) ?_
          refine lv_iload_n hx hb dX7_readAll_36 rfl (lv_at hl 2 rfl) ?_
          refine lv_imul hx hb dX7_readAll_37 ?_
          refine xVv1 (As := [.int ((7 : Int32) * v2)]) (rest := []) hst hE hP hS ⟨hx, hb, hml, hown, hts⟩ (va_recv hK hP (ci := 7) (q := (RX7, TX7, 28)) rfl wM_0) (mX7_readWill l D h cI cJ hh S L ((7 : Int32) * v2) _ hw) (cwV 1 hts gX7_readAll_X7_readWill rfl rfl rfl (by decide +kernel) ⟨Nat.le_of_ble_eq_true rfl, Nat.le_of_ble_eq_true rfl⟩) rfl hl.1 rfl (Nat.le_of_ble_eq_true rfl) dX7_readAll_38 ⟨Nat.zero_le _, Nat.zero_le _⟩ (fun S38 H locs hw hP hS => ?_)
          exact b41 v2 S38 _ _ _ (lv_sub hl [0, 1, 2] rfl) hP hS hw
        · replace hw := And.right hw hc
          refine lv_aload_n hx hb dX7_readAll_22 rfl (lv_at hl 0 rfl) ?_
          refine lv_bipush (v := (7 : Int32)) hx hb dX7_readAll_23 (by decide) ?_
          refine lv_iload_n hx hb dX7_readAll_25 rfl (lv_at hl 2 rfl) ?_
          refine lv_imul hx hb dX7_readAll_26 ?_
          refine xVv1 (As := [.int ((7 : Int32) * v2)]) (rest := []) hst hE hP hS ⟨hx, hb, hml, hown, hts⟩ (va_recv hK hP (ci := 7) (q := (RX7, TX7, 28)) rfl wM_0) (mX7_readRule l D h cI cJ hh S L ((7 : Int32) * v2) _ hw) (cwV 1 hts gX7_readAll_X7_readRule rfl rfl rfl (by decide +kernel) ⟨Nat.le_of_ble_eq_true rfl, Nat.le_of_ble_eq_true rfl⟩) rfl hl.1 rfl (Nat.le_of_ble_eq_true rfl) dX7_readAll_27 ⟨Nat.zero_le _, Nat.zero_le _⟩ (fun S27 H locs hw hP hS => ?_)
          refine lv_goto (tgt := 41) hx hb dX7_readAll_30 (by decide) ?_
          exact b41 v2 S27 _ _ _ (lv_sub hl [0, 1, 2] rfl) hP hS hw
  unfold kX7_readAll at hw
  refine lv_aload_n hx hb dX7_readAll_0 rfl (lv_at hl 0 rfl) ?_
  refine lv_iconst (v := (0 : Int32)) hx hb dX7_readAll_1 (by decide) ?_
  refine x_put (D := D) (ci := 7) (v := .int (0 : Int32)) (ty := .int) (C := RX7) (T := TX7) (N := 28) (ws2 := wM h cI cJ (xu S 0 4 (0 : Int32)) L) hx hb hts inX7 tyX7 tyX7_ok nmX7 hown hK hP (hD _ _) hS 0 wM_0 rfl 18 (by decide) f3 (fun _ h9 => h9) rfl (by decide +kernel) rfl rfl (Nat.le_of_ble_eq_true rfl) dX7_readAll_2 (wM_p0_4 _) (fun H locs hP hS => ?_)
  refine lv_aload_n hx hb dX7_readAll_5 rfl (lv_at hl 0 rfl) ?_
  refine lv_iconst (v := (0 : Int32)) hx hb dX7_readAll_6 (by decide) ?_
  refine x_put (D := D) (ci := 7) (v := .int (0 : Int32)) (ty := .boolean) (C := RX7) (T := TX7) (N := 28) (ws2 := wM h cI cJ (xu (xu S 0 4 (0 : Int32)) 0 5 (0 : Int32)) L) hx hb hts inX7 tyX7 tyX7_ok nmX7 hown hK hP (hD _ _) hS 0 wM_0 rfl 19 (by decide) f0 (fun _ h9 => h9) rfl (by decide +kernel) rfl rfl (Nat.le_of_ble_eq_true rfl) dX7_readAll_7 (wM_p0_5 _) (fun H locs hP hS => ?_)
  refine lv_iconst (v := (0 : Int32)) hx hb dX7_readAll_10 (by decide) ?_
  refine lv_istore_n (lv' := [(2, .int (0 : Int32)), (0, .ref (h 0)), (1, .int v1)]) hx hb dX7_readAll_11 rfl hl (by decide) rfl (fun ls hl => ?_)
  refine lv_iconst (v := (1 : Int32)) hx hb dX7_readAll_12 (by decide) ?_
  refine lv_istore_n (lv' := [(3, .int (1 : Int32)), (2, .int (0 : Int32)), (0, .ref (h 0)), (1, .int v1)]) hx hb dX7_readAll_13 rfl hl (by decide) rfl (fun ls hl => ?_)
  obtain ⟨n14, hw⟩ := hw
  exact b14  n14 (0 : Int32) (1 : Int32) (xu (xu S 0 4 (0 : Int32)) 0 5 (0 : Int32)) _ _ _ (lv_sub hl [2, 3, 1, 0] rfl) hP hS hw
abbrev rX7_rules : Room := { frames := 4, cells := 0, slots := 0, locals := 93 }
set_option maxHeartbeats 4000000 in
set_option maxRecDepth 100000 in
theorem mX7_rules (l : Launch) (D : va_G) (h : Nat → Nat) (cI cJ : ClassId) (hh : xdis 22 h) (S : SX) (L : LX) (post : Int32 → SX → Prop) (hw : kX7_rules S L  post) : Met l yX7_rules wsX7_rules rX7_rules (xPre D (wM h cI cJ) (mE D cI cJ) S L [.ref (h 0)]) (va_Qi (fun (r : Int32) (u : SX × LX) => post r u.1 ∧ u.2 = L) (xB D (wM h cI cJ)) (xA 22 h)) 0 0 (xA 22 h) := by
  refine Met.ofW (cc := cX7_rules) (maxL := 4) (ret := (some .int)) (by decide) rfl ?_
  intro p e s m args below meth c s₁ B hml hv
  obtain ⟨hargs, hP, hE⟩ := hv
  have hx := B.exec
  have hb := B.bytes
  have hr := B.returns
  have hlocks := B.notSynchronized
  have hts := atoms_spec (ws := wsX7_rules) B.pre
  have hown : s.vm.findClass RX7 = some m.cls := findClass_of_methodNamed B.named
  have hS : va_S (xA 22 h) s.heap s.heap [] := va_S.rf
  have hD : ∀ (S : SX) (L : LX), va_D (xA 22 h) (wM h cI cJ S L) := fun S L => wM_D hh cI cJ S L
  have hK := id hE
  have hst : xSt (xA 22 h) (mE D cI cJ) := mE_st D _ cI cJ
  have f0 := hts (.fieldLink RX7 30 "BookOfWillsModel" "floors" "[I") (by decide +kernel)
  have inX7 : ∀ w ∈ u_ws RX7 TX7 28, w ∈ wsX7_rules := fun w hw9 => List.mem_cons_of_mem _ (List.mem_append_right _ hw9)
  have f2 := hts (.fieldLink RX7 58 "BookOfWillsModel" "read" "[I") (by decide +kernel)
  have f3 := hts (.fieldLink RX7 33 "BookOfWillsModel" "lines" "[I") (by decide +kernel)
  have f4 := hts (.fieldLink RX7 36 "BookOfWillsModel" "keens" "[I") (by decide +kernel)
  have f5 := hts (.fieldLink RX7 39 "BookOfWillsModel" "marks" "[I") (by decide +kernel)
  have hl := lv_entry ([.ref (h 0)]) (n := 4) (Nat.le_of_ble_eq_true rfl)
  have hen : entryFrame m args 4 = F0 m 0 ((lg_sl ([.ref (h 0)]) ++ List.replicate (4 - (lg_sl ([.ref (h 0)])).length) Slot.unset).toArray) [] := by rw [hargs]; exact lg_entry_eq m _ _
  rw [hen]
  generalize (lg_sl ([.ref (h 0)]) ++ List.replicate (4 - (lg_sl ([.ref (h 0)])).length) Slot.unset).toArray = ls at hl ⊢
  have hl : lv_has ls 4 [(0, .ref (h 0))] := hl
  change W p l e rX7_rules s m args below meth c s.heap [] 0 0 (MQ below (va_Qi (fun (r : Int32) (u : SX × LX) => post r u.1 ∧ u.2 = L) (xB D (wM h cI cJ)) (xA 22 h)) args s 0 0 (xA 22 h)) (F0 m 0 ls [])
  have hret : ∀ (r : Int32) (S1 : SX) (H : Heap) (locs : List Loc) (ls : Array Slot) (pc : Nat), va_P D vwCl (wM h cI cJ S1 L) H → va_S (xA 22 h) s.heap H locs → post r S1 → decode cX7_rules pc = .ok (.ireturn, 1) → W p l e rX7_rules s m args below meth c H locs 0 0 (MQ below (va_Qi (fun (r : Int32) (u : SX × LX) => post r u.1 ∧ u.2 = L) (xB D (wM h cI cJ)) (xA 22 h)) args s 0 0 (xA 22 h)) (F0 m pc ls [.int r]) := fun r S1 H locs ls pc hP hS hw hd => W.iret hx hb hr (fun t ht hW => ⟨⟨r, (S1, L), rfl, ⟨hw, rfl⟩, show va_P D vwCl (wM h cI cJ S1 L) t.heap by rw [ht]; exact hP⟩, hS.F ht⟩) hS.2.2 hd
  generalize MQ below (va_Qi (fun (r : Int32) (u : SX × LX) => post r u.1 ∧ u.2 = L) (xB D (wM h cI cJ)) (xA 22 h)) args s 0 0 (xA 22 h) = Q at hret ⊢
  have b8 : ∀ (v1 : Int32) (n8 : Nat) (v2 : Int32) (S : SX) (H : Heap) (locs : List Loc) (ls : Array Slot), lv_has ls 4 [(0, .ref (h 0)), (1, .int v1), (2, .int v2)] → va_P D vwCl (wM h cI cJ S L) H → va_S (xA 22 h) s.heap H locs → kX7_rules_b8 L v1 post n8 v2 S → W p l e rX7_rules s m args below meth c H locs 0 0 Q (F0 m 8 ls []) := by
    intro v1 n8
    induction n8 with
    | zero => intro v2 S H locs ls hl hP hS hw; exact absurd hw id
    | succ n8 i8 =>
      have b23 : ∀  (n23 : Nat) (v2 : Int32) (v3 : Int32) (S : SX) (H : Heap) (locs : List Loc) (ls : Array Slot), lv_has ls 4 [(0, .ref (h 0)), (1, .int v1), (2, .int v2), (3, .int v3)] → va_P D vwCl (wM h cI cJ S L) H → va_S (xA 22 h) s.heap H locs → kX7_rules_b23 L v1 post (kX7_rules_b8 L v1 post n8) n23 v2 v3 S → W p l e rX7_rules s m args below meth c H locs 0 0 Q (F0 m 23 ls []) := by
        intro n23
        induction n23 with
        | zero => intro v2 v3 S H locs ls hl hP hS hw; exact absurd hw id
        | succ n23 i23 =>
          intro v2 v3 S H locs ls hl hP hS hw
          unfold kX7_rules_b23 at hw
          refine lv_iload_n hx hb dX7_rules_23 rfl (lv_at hl 3 rfl) ?_
          refine lv_bipush (v := (8 : Int32)) hx hb dX7_rules_24 (by decide) ?_
          refine lv_icmp_ge (tgt := 91) hx hb dX7_rules_26 (by decide) (fun hc => ?_) (fun hc => ?_)
          · replace hw := And.left hw hc
            refine lv_iinc (v := v2 + (7 : Int32)) (lv' := [(2, .int (v2 + (7 : Int32))), (0, .ref (h 0)), (1, .int v1), (3, .int v3)]) hx hb dX7_rules_91 hl (k := 2) rfl rfl (by decide) rfl (fun ls hl => ?_)
            refine lv_goto (tgt := 8) hx hb dX7_rules_94 (by decide) ?_
            exact i8 (v2 + (7 : Int32)) S _ _ _ (lv_sub hl [1, 2, 0] rfl) hP hS hw
          · replace hw := And.right hw hc
            refine lv_aload_n hx hb dX7_rules_29 rfl (lv_at hl 0 rfl) ?_
            refine va_get (D := D) (ci := 7) (v := .ref (h 6)) (C := RX7) (T := TX7) (N := 28) hx hb hts inX7 hown hK hP 0 wM_0 rfl 8 (by decide) f0 (fun _ h9 => h9) rfl dX7_rules_30 ?_
            refine lv_iload_n hx hb dX7_rules_33 rfl (lv_at hl 3 rfl) ?_
            refine lv_aload_n hx hb dX7_rules_34 rfl (lv_at hl 0 rfl) ?_
            refine va_get (D := D) (ci := 7) (v := .ref (h 15)) (C := RX7) (T := TX7) (N := 28) hx hb hts inX7 hown hK hP 0 wM_0 rfl 20 (by decide) f2 (fun _ h9 => h9) rfl dX7_rules_35 ?_
            refine lv_iload_n hx hb dX7_rules_38 rfl (lv_at hl 2 rfl) ?_
            refine lv_iconst (v := (1 : Int32)) hx hb dX7_rules_39 (by decide) ?_
            refine lv_iadd hx hb dX7_rules_40 ?_
            obtain ⟨hi, hw⟩ := hw
            refine va_iald hx hb hK hP 15 0 wM_15 rfl hi dX7_rules_41 ?_
            obtain ⟨hi, hw⟩ := hw
            refine x_iast (ws2 := wM h cI cJ (xu S 6 v3.toNatClampNeg (S 15 (v2 + (1 : Int32)).toNatClampNeg)) L) hx hb hK hP (hD _ _) hS 6 0 wM_6 rfl hi dX7_rules_42 (wM_u6 _ _) (fun H locs hP hS => ?_)
            refine lv_aload_n hx hb dX7_rules_43 rfl (lv_at hl 0 rfl) ?_
            refine va_get (D := D) (ci := 7) (v := .ref (h 7)) (C := RX7) (T := TX7) (N := 28) hx hb hts inX7 hown hK hP 0 wM_0 rfl 9 (by decide) f3 (fun _ h9 => h9) rfl dX7_rules_44 ?_
            refine lv_iload_n hx hb dX7_rules_47 rfl (lv_at hl 3 rfl) ?_
            refine lv_aload_n hx hb dX7_rules_48 rfl (lv_at hl 0 rfl) ?_
            refine va_get (D := D) (ci := 7) (v := .ref (h 15)) (C := RX7) (T := TX7) (N := 28) hx hb hts inX7 hown hK hP 0 wM_0 rfl 20 (by decide) f2 (fun _ h9 => h9) rfl dX7_rules_49 ?_
            refine lv_iload_n hx hb dX7_rules_52 rfl (lv_at hl 2 rfl) ?_
            refine lv_iconst (v := (2 : Int32)) hx hb dX7_rules_53 (by decide) ?_
            refine lv_iadd hx hb dX7_rules_54 ?_
            obtain ⟨hi, hw⟩ := hw
            refine va_iald hx hb hK hP 15 0 wM_15 rfl hi dX7_rules_55 ?_
            obtain ⟨hi, hw⟩ := hw
            refine x_iast (ws2 := wM h cI cJ (xu (xu S 6 v3.toNatClampNeg (S 15 (v2 + (1 : Int32)).toNatClampNeg)) 7 v3.toNatClampNeg ((xu S 6 v3.toNatClampNeg (S 15 (v2 + (1 : Int32)).toNatClampNeg)) 15 (v2 + (2 : Int32)).toNatClampNeg)) L) hx hb hK hP (hD _ _) hS 7 0 wM_7 rfl hi dX7_rules_56 (wM_u7 _ _) (fun H locs hP hS => ?_)
            refine lv_aload_n hx hb dX7_rules_57 rfl (lv_at hl 0 rfl) ?_
            refine va_get (D := D) (ci := 7) (v := .ref (h 8)) (C := RX7) (T := TX7) (N := 28) hx hb hts inX7 hown hK hP 0 wM_0 rfl 10 (by decide) f4 (fun _ h9 => h9) rfl dX7_rules_58 ?_
            refine lv_iload_n hx hb dX7_rules_61 rfl (lv_at hl 3 rfl) ?_
            refine lv_aload_n hx hb dX7_rules_62 rfl (lv_at hl 0 rfl) ?_
            refine va_get (D := D) (ci := 7) (v := .ref (h 15)) (C := RX7) (T := TX7) (N := 28) hx hb hts inX7 hown hK hP 0 wM_0 rfl 20 (by decide) f2 (fun _ h9 => h9) rfl dX7_rules_63 ?_
            refine lv_iload_n hx hb dX7_rules_66 rfl (lv_at hl 2 rfl) ?_
            refine lv_iconst (v := (3 : Int32)) hx hb dX7_rules_67 (by decide) ?_
            refine lv_iadd hx hb dX7_rules_68 ?_
            obtain ⟨hi, hw⟩ := hw
            refine va_iald hx hb hK hP 15 0 wM_15 rfl hi dX7_rules_69 ?_
            obtain ⟨hi, hw⟩ := hw
            refine x_iast (ws2 := wM h cI cJ (xu (xu (xu S 6 v3.toNatClampNeg (S 15 (v2 + (1 : Int32)).toNatClampNeg)) 7 v3.toNatClampNeg ((xu S 6 v3.toNatClampNeg (S 15 (v2 + (1 : Int32)).toNatClampNeg)) 15 (v2 + (2 : Int32)).toNatClampNeg)) 8 v3.toNatClampNeg ((xu (xu S 6 v3.toNatClampNeg (S 15 (v2 + (1 : Int32)).toNatClampNeg)) 7 v3.toNatClampNeg ((xu S 6 v3.toNatClampNeg (S 15 (v2 + (1 : Int32)).toNatClampNeg)) 15 (v2 + (2 : Int32)).toNatClampNeg)) 15 (v2 + (3 : Int32)).toNatClampNeg)) L) hx hb hK hP (hD _ _) hS 8 0 wM_8 rfl hi dX7_rules_70 (wM_u8 _ _) (fun H locs hP hS => ?_)
            refine lv_aload_n hx hb dX7_rules_71 rfl (lv_at hl 0 rfl) ?_
            refine va_get (D := D) (ci := 7) (v := .ref (h 9)) (C := RX7) (T := TX7) (N := 28) hx hb hts inX7 hown hK hP 0 wM_0 rfl 11 (by decide) f5 (fun _ h9 => h9) rfl dX7_rules_72 ?_
            refine lv_iload_n hx hb dX7_rules_75 rfl (lv_at hl 3 rfl) ?_
            refine lv_aload_n hx hb dX7_rules_76 rfl (lv_at hl 0 rfl) ?_
            refine va_get (D := D) (ci := 7) (v := .ref (h 15)) (C := RX7) (T := TX7) (N := 28) hx hb hts inX7 hown hK hP 0 wM_0 rfl 20 (by decide) f2 (fun _ h9 => h9) rfl dX7_rules_77 ?_
            refine lv_iload_n hx hb dX7_rules_80 rfl (lv_at hl 2 rfl) ?_
            refine lv_iconst (v := (4 : Int32)) hx hb dX7_rules_81 (by decide) ?_
            refine lv_iadd hx hb dX7_rules_82 ?_
            obtain ⟨hi, hw⟩ := hw
            refine va_iald hx hb hK hP 15 0 wM_15 rfl hi dX7_rules_83 ?_
            obtain ⟨hi, hw⟩ := hw
            refine x_iast (ws2 := wM h cI cJ (xu (xu (xu (xu S 6 v3.toNatClampNeg (S 15 (v2 + (1 : Int32)).toNatClampNeg)) 7 v3.toNatClampNeg ((xu S 6 v3.toNatClampNeg (S 15 (v2 + (1 : Int32)).toNatClampNeg)) 15 (v2 + (2 : Int32)).toNatClampNeg)) 8 v3.toNatClampNeg ((xu (xu S 6 v3.toNatClampNeg (S 15 (v2 + (1 : Int32)).toNatClampNeg)) 7 v3.toNatClampNeg ((xu S 6 v3.toNatClampNeg (S 15 (v2 + (1 : Int32)).toNatClampNeg)) 15 (v2 + (2 : Int32)).toNatClampNeg)) 15 (v2 + (3 : Int32)).toNatClampNeg)) 9 v3.toNatClampNeg ((xu (xu (xu S 6 v3.toNatClampNeg (S 15 (v2 + (1 : Int32)).toNatClampNeg)) 7 v3.toNatClampNeg ((xu S 6 v3.toNatClampNeg (S 15 (v2 + (1 : Int32)).toNatClampNeg)) 15 (v2 + (2 : Int32)).toNatClampNeg)) 8 v3.toNatClampNeg ((xu (xu S 6 v3.toNatClampNeg (S 15 (v2 + (1 : Int32)).toNatClampNeg)) 7 v3.toNatClampNeg ((xu S 6 v3.toNatClampNeg (S 15 (v2 + (1 : Int32)).toNatClampNeg)) 15 (v2 + (2 : Int32)).toNatClampNeg)) 15 (v2 + (3 : Int32)).toNatClampNeg)) 15 (v2 + (4 : Int32)).toNatClampNeg)) L) hx hb hK hP (hD _ _) hS 9 0 wM_9 rfl hi dX7_rules_84 (wM_u9 _ _) (fun H locs hP hS => ?_)
            refine lv_iinc (v := v3 + (1 : Int32)) (lv' := [(3, .int (v3 + (1 : Int32))), (0, .ref (h 0)), (1, .int v1), (2, .int v2)]) hx hb dX7_rules_85 hl (k := 3) rfl rfl (by decide) rfl (fun ls hl => ?_)
            refine lv_goto (tgt := 23) hx hb dX7_rules_88 (by decide) ?_
            exact i23 v2 (v3 + (1 : Int32)) (xu (xu (xu (xu S 6 v3.toNatClampNeg (S 15 (v2 + (1 : Int32)).toNatClampNeg)) 7 v3.toNatClampNeg ((xu S 6 v3.toNatClampNeg (S 15 (v2 + (1 : Int32)).toNatClampNeg)) 15 (v2 + (2 : Int32)).toNatClampNeg)) 8 v3.toNatClampNeg ((xu (xu S 6 v3.toNatClampNeg (S 15 (v2 + (1 : Int32)).toNatClampNeg)) 7 v3.toNatClampNeg ((xu S 6 v3.toNatClampNeg (S 15 (v2 + (1 : Int32)).toNatClampNeg)) 15 (v2 + (2 : Int32)).toNatClampNeg)) 15 (v2 + (3 : Int32)).toNatClampNeg)) 9 v3.toNatClampNeg ((xu (xu (xu S 6 v3.toNatClampNeg (S 15 (v2 + (1 : Int32)).toNatClampNeg)) 7 v3.toNatClampNeg ((xu S 6 v3.toNatClampNeg (S 15 (v2 + (1 : Int32)).toNatClampNeg)) 15 (v2 + (2 : Int32)).toNatClampNeg)) 8 v3.toNatClampNeg ((xu (xu S 6 v3.toNatClampNeg (S 15 (v2 + (1 : Int32)).toNatClampNeg)) 7 v3.toNatClampNeg ((xu S 6 v3.toNatClampNeg (S 15 (v2 + (1 : Int32)).toNatClampNeg)) 15 (v2 + (2 : Int32)).toNatClampNeg)) 15 (v2 + (3 : Int32)).toNatClampNeg)) 15 (v2 + (4 : Int32)).toNatClampNeg)) _ _ _ (lv_sub hl [1, 2, 3, 0] rfl) hP hS hw
      intro v2 S H locs ls hl hP hS hw
      unfold kX7_rules_b8 at hw
      refine lv_iload_n hx hb dX7_rules_8 rfl (lv_at hl 2 rfl) ?_
      refine lv_bipush (v := (7 : Int32)) hx hb dX7_rules_9 (by decide) ?_
      refine lv_iload_n hx hb dX7_rules_11 rfl (lv_at hl 1 rfl) ?_
      refine lv_imul hx hb dX7_rules_12 ?_
      refine lv_icmp_ge (tgt := 97) hx hb dX7_rules_13 (by decide) (fun hc => ?_) (fun hc => ?_)
      · replace hw := And.left hw hc
        refine lv_iload_n hx hb dX7_rules_97 rfl (lv_at hl 1 rfl) ?_
        exact hret _ _ _ _ _ _ hP hS hw dX7_rules_98
      · replace hw := And.right hw hc
        refine lv_aload_n hx hb dX7_rules_16 rfl (lv_at hl 0 rfl) ?_
        refine va_get (D := D) (ci := 7) (v := .ref (h 15)) (C := RX7) (T := TX7) (N := 28) hx hb hts inX7 hown hK hP 0 wM_0 rfl 20 (by decide) f2 (fun _ h9 => h9) rfl dX7_rules_17 ?_
        refine lv_iload_n hx hb dX7_rules_20 rfl (lv_at hl 2 rfl) ?_
        obtain ⟨hi, hw⟩ := hw
        refine va_iald hx hb hK hP 15 0 wM_15 rfl hi dX7_rules_21 ?_
        refine lv_istore_n (lv' := [(3, .int (S 15 v2.toNatClampNeg)), (0, .ref (h 0)), (1, .int v1), (2, .int v2)]) hx hb dX7_rules_22 rfl hl (by decide) rfl (fun ls hl => ?_)
        obtain ⟨n23, hw⟩ := hw
        exact b23  n23 v2 (S 15 v2.toNatClampNeg) S _ _ _ (lv_sub hl [1, 2, 3, 0] rfl) hP hS hw
  unfold kX7_rules at hw
  refine lv_aload_n hx hb dX7_rules_0 rfl (lv_at hl 0 rfl) ?_
  refine lv_iconst (v := (1 : Int32)) hx hb dX7_rules_1 (by decide) ?_
  refine xVi1 (As := [.int (1 : Int32)]) (rest := []) hst hE hP hS ⟨hx, hb, hml, hown, hts⟩ (va_recv hK hP (ci := 7) (q := (RX7, TX7, 28)) rfl wM_0) (mX7_readAll l D h cI cJ hh S L (1 : Int32) _ hw) (cwV 1 hts gX7_rules_X7_readAll rfl rfl rfl (by decide +kernel) ⟨Nat.le_of_ble_eq_true rfl, Nat.le_of_ble_eq_true rfl⟩) rfl hl.1 rfl (Nat.le_of_ble_eq_true rfl) dX7_rules_2 ⟨Nat.zero_le _, Nat.zero_le _⟩ (fun r2 S2 H locs hw hP hS => ?_)
  refine lv_istore_n (lv' := [(1, .int r2), (0, .ref (h 0))]) hx hb dX7_rules_5 rfl hl (by decide) rfl (fun ls hl => ?_)
  refine lv_iconst (v := (0 : Int32)) hx hb dX7_rules_6 (by decide) ?_
  refine lv_istore_n (lv' := [(2, .int (0 : Int32)), (1, .int r2), (0, .ref (h 0))]) hx hb dX7_rules_7 rfl hl (by decide) rfl (fun ls hl => ?_)
  obtain ⟨n8, hw⟩ := hw
  exact b8 r2 n8 (0 : Int32) S2 _ _ _ (lv_sub hl [2, 1, 0] rfl) hP hS hw
abbrev rX7_wills : Room := { frames := 4, cells := 0, slots := 0, locals := 93 }
set_option maxHeartbeats 4000000 in
set_option maxRecDepth 100000 in
theorem mX7_wills (l : Launch) (D : va_G) (h : Nat → Nat) (cI cJ : ClassId) (hh : xdis 22 h) (S : SX) (L : LX) (post : Int32 → SX → Prop) (hw : kX7_wills S L  post) : Met l yX7_wills wsX7_wills rX7_wills (xPre D (wM h cI cJ) (mE D cI cJ) S L [.ref (h 0)]) (va_Qi (fun (r : Int32) (u : SX × LX) => post r u.1 ∧ u.2 = L) (xB D (wM h cI cJ)) (xA 22 h)) 0 0 (xA 22 h) := by
  refine Met.ofW (cc := cX7_wills) (maxL := 3) (ret := (some .int)) (by decide) rfl ?_
  intro p e s m args below meth c s₁ B hml hv
  obtain ⟨hargs, hP, hE⟩ := hv
  have hx := B.exec
  have hb := B.bytes
  have hr := B.returns
  have hlocks := B.notSynchronized
  have hts := atoms_spec (ws := wsX7_wills) B.pre
  have hown : s.vm.findClass RX7 = some m.cls := findClass_of_methodNamed B.named
  have hS : va_S (xA 22 h) s.heap s.heap [] := va_S.rf
  have hD : ∀ (S : SX) (L : LX), va_D (xA 22 h) (wM h cI cJ S L) := fun S L => wM_D hh cI cJ S L
  have hK := id hE
  have hst : xSt (xA 22 h) (mE D cI cJ) := mE_st D _ cI cJ
  have f0 := hts (.fieldLink RX7 58 "BookOfWillsModel" "read" "[I") (by decide +kernel)
  have inX7 : ∀ w ∈ u_ws RX7 TX7 28, w ∈ wsX7_wills := fun w hw9 => List.mem_cons_of_mem _ (List.mem_append_right _ hw9)
  have f2 := hts (.fieldLink RX7 87 "BookOfWillsModel" "wills" "I") (by decide +kernel)
  have hl := lv_entry ([.ref (h 0)]) (n := 3) (Nat.le_of_ble_eq_true rfl)
  have hen : entryFrame m args 3 = F0 m 0 ((lg_sl ([.ref (h 0)]) ++ List.replicate (3 - (lg_sl ([.ref (h 0)])).length) Slot.unset).toArray) [] := by rw [hargs]; exact lg_entry_eq m _ _
  rw [hen]
  generalize (lg_sl ([.ref (h 0)]) ++ List.replicate (3 - (lg_sl ([.ref (h 0)])).length) Slot.unset).toArray = ls at hl ⊢
  have hl : lv_has ls 3 [(0, .ref (h 0))] := hl
  change W p l e rX7_wills s m args below meth c s.heap [] 0 0 (MQ below (va_Qi (fun (r : Int32) (u : SX × LX) => post r u.1 ∧ u.2 = L) (xB D (wM h cI cJ)) (xA 22 h)) args s 0 0 (xA 22 h)) (F0 m 0 ls [])
  have hret : ∀ (r : Int32) (S1 : SX) (H : Heap) (locs : List Loc) (ls : Array Slot) (pc : Nat), va_P D vwCl (wM h cI cJ S1 L) H → va_S (xA 22 h) s.heap H locs → post r S1 → decode cX7_wills pc = .ok (.ireturn, 1) → W p l e rX7_wills s m args below meth c H locs 0 0 (MQ below (va_Qi (fun (r : Int32) (u : SX × LX) => post r u.1 ∧ u.2 = L) (xB D (wM h cI cJ)) (xA 22 h)) args s 0 0 (xA 22 h)) (F0 m pc ls [.int r]) := fun r S1 H locs ls pc hP hS hw hd => W.iret hx hb hr (fun t ht hW => ⟨⟨r, (S1, L), rfl, ⟨hw, rfl⟩, show va_P D vwCl (wM h cI cJ S1 L) t.heap by rw [ht]; exact hP⟩, hS.F ht⟩) hS.2.2 hd
  generalize MQ below (va_Qi (fun (r : Int32) (u : SX × LX) => post r u.1 ∧ u.2 = L) (xB D (wM h cI cJ)) (xA 22 h)) args s 0 0 (xA 22 h) = Q at hret ⊢
  have b26 : ∀ (v1 : Int32) (n26 : Nat) (v2 : Int32) (S : SX) (H : Heap) (locs : List Loc) (ls : Array Slot), lv_has ls 3 [(0, .ref (h 0)), (1, .int v1), (2, .int v2)] → va_P D vwCl (wM h cI cJ S L) H → va_S (xA 22 h) s.heap H locs → kX7_wills_b26 L v1 post n26 v2 S → W p l e rX7_wills s m args below meth c H locs 0 0 Q (F0 m 26 ls []) := by
    intro v1 n26
    induction n26 with
    | zero => intro v2 S H locs ls hl hP hS hw; exact absurd hw id
    | succ n26 i26 =>
      intro v2 S H locs ls hl hP hS hw
      unfold kX7_wills_b26 at hw
      refine lv_iload_n hx hb dX7_wills_26 rfl (lv_at hl 2 rfl) ?_
      refine lv_bipush (v := (7 : Int32)) hx hb dX7_wills_27 (by decide) ?_
      refine lv_iload_n hx hb dX7_wills_29 rfl (lv_at hl 1 rfl) ?_
      refine lv_imul hx hb dX7_wills_30 ?_
      refine lv_icmp_ge (tgt := 99) hx hb dX7_wills_31 (by decide) (fun hc => ?_) (fun hc => ?_)
      · replace hw := And.left hw hc
        refine lv_iload_n hx hb dX7_wills_99 rfl (lv_at hl 1 rfl) ?_
        exact hret _ _ _ _ _ _ hP hS hw dX7_wills_100
      · replace hw := And.right hw hc
        refine lv_aload_n hx hb dX7_wills_34 rfl (lv_at hl 0 rfl) ?_
        refine lv_aload_n hx hb dX7_wills_35 rfl (lv_at hl 0 rfl) ?_
        refine va_get (D := D) (ci := 7) (v := .ref (h 15)) (C := RX7) (T := TX7) (N := 28) hx hb hts inX7 hown hK hP 0 wM_0 rfl 20 (by decide) f0 (fun _ h9 => h9) rfl dX7_wills_36 ?_
        refine lv_iload_n hx hb dX7_wills_39 rfl (lv_at hl 2 rfl) ?_
        obtain ⟨hi, hw⟩ := hw
        refine va_iald hx hb hK hP 15 0 wM_15 rfl hi dX7_wills_40 ?_
        refine lv_aload_n hx hb dX7_wills_41 rfl (lv_at hl 0 rfl) ?_
        refine va_get (D := D) (ci := 7) (v := .ref (h 15)) (C := RX7) (T := TX7) (N := 28) hx hb hts inX7 hown hK hP 0 wM_0 rfl 20 (by decide) f0 (fun _ h9 => h9) rfl dX7_wills_42 ?_
        refine lv_iload_n hx hb dX7_wills_45 rfl (lv_at hl 2 rfl) ?_
        refine lv_iconst (v := (1 : Int32)) hx hb dX7_wills_46 (by decide) ?_
        refine lv_iadd hx hb dX7_wills_47 ?_
        obtain ⟨hi, hw⟩ := hw
        refine va_iald hx hb hK hP 15 0 wM_15 rfl hi dX7_wills_48 ?_
        refine lv_aload_n hx hb dX7_wills_49 rfl (lv_at hl 0 rfl) ?_
        refine va_get (D := D) (ci := 7) (v := .ref (h 15)) (C := RX7) (T := TX7) (N := 28) hx hb hts inX7 hown hK hP 0 wM_0 rfl 20 (by decide) f0 (fun _ h9 => h9) rfl dX7_wills_50 ?_
        refine lv_iload_n hx hb dX7_wills_53 rfl (lv_at hl 2 rfl) ?_
        refine lv_iconst (v := (2 : Int32)) hx hb dX7_wills_54 (by decide) ?_
        refine lv_iadd hx hb dX7_wills_55 ?_
        obtain ⟨hi, hw⟩ := hw
        refine va_iald hx hb hK hP 15 0 wM_15 rfl hi dX7_wills_56 ?_
        refine lv_aload_n hx hb dX7_wills_57 rfl (lv_at hl 0 rfl) ?_
        refine va_get (D := D) (ci := 7) (v := .ref (h 15)) (C := RX7) (T := TX7) (N := 28) hx hb hts inX7 hown hK hP 0 wM_0 rfl 20 (by decide) f0 (fun _ h9 => h9) rfl dX7_wills_58 ?_
        refine lv_iload_n hx hb dX7_wills_61 rfl (lv_at hl 2 rfl) ?_
        refine lv_iconst (v := (3 : Int32)) hx hb dX7_wills_62 (by decide) ?_
        refine lv_iadd hx hb dX7_wills_63 ?_
        obtain ⟨hi, hw⟩ := hw
        refine va_iald hx hb hK hP 15 0 wM_15 rfl hi dX7_wills_64 ?_
        refine lv_aload_n hx hb dX7_wills_65 rfl (lv_at hl 0 rfl) ?_
        refine va_get (D := D) (ci := 7) (v := .ref (h 15)) (C := RX7) (T := TX7) (N := 28) hx hb hts inX7 hown hK hP 0 wM_0 rfl 20 (by decide) f0 (fun _ h9 => h9) rfl dX7_wills_66 ?_
        refine lv_iload_n hx hb dX7_wills_69 rfl (lv_at hl 2 rfl) ?_
        refine lv_iconst (v := (4 : Int32)) hx hb dX7_wills_70 (by decide) ?_
        refine lv_iadd hx hb dX7_wills_71 ?_
        obtain ⟨hi, hw⟩ := hw
        refine va_iald hx hb hK hP 15 0 wM_15 rfl hi dX7_wills_72 ?_
        refine lv_aload_n hx hb dX7_wills_73 rfl (lv_at hl 0 rfl) ?_
        refine va_get (D := D) (ci := 7) (v := .ref (h 15)) (C := RX7) (T := TX7) (N := 28) hx hb hts inX7 hown hK hP 0 wM_0 rfl 20 (by decide) f0 (fun _ h9 => h9) rfl dX7_wills_74 ?_
        refine lv_iload_n hx hb dX7_wills_77 rfl (lv_at hl 2 rfl) ?_
        refine lv_iconst (v := (5 : Int32)) hx hb dX7_wills_78 (by decide) ?_
        refine lv_iadd hx hb dX7_wills_79 ?_
        obtain ⟨hi, hw⟩ := hw
        refine va_iald hx hb hK hP 15 0 wM_15 rfl hi dX7_wills_80 ?_
        refine lv_aload_n hx hb dX7_wills_81 rfl (lv_at hl 0 rfl) ?_
        refine va_get (D := D) (ci := 7) (v := .ref (h 15)) (C := RX7) (T := TX7) (N := 28) hx hb hts inX7 hown hK hP 0 wM_0 rfl 20 (by decide) f0 (fun _ h9 => h9) rfl dX7_wills_82 ?_
        refine lv_iload_n hx hb dX7_wills_85 rfl (lv_at hl 2 rfl) ?_
        refine lv_bipush (v := (6 : Int32)) hx hb dX7_wills_86 (by decide) ?_
        refine lv_iadd hx hb dX7_wills_88 ?_
        obtain ⟨hi, hw⟩ := hw
        refine va_iald hx hb hK hP 15 0 wM_15 rfl hi dX7_wills_89 ?_
        refine xVv1 (As := [.int (S 15 v2.toNatClampNeg), .int (S 15 (v2 + (1 : Int32)).toNatClampNeg), .int (S 15 (v2 + (2 : Int32)).toNatClampNeg), .int (S 15 (v2 + (3 : Int32)).toNatClampNeg), .int (S 15 (v2 + (4 : Int32)).toNatClampNeg), .int (S 15 (v2 + (5 : Int32)).toNatClampNeg), .int (S 15 (v2 + (6 : Int32)).toNatClampNeg)]) (rest := []) hst hE hP hS ⟨hx, hb, hml, hown, hts⟩ (va_recv hK hP (ci := 7) (q := (RX7, TX7, 28)) rfl wM_0) (mX7_comes l D h cI cJ hh S L (S 15 v2.toNatClampNeg) (S 15 (v2 + (1 : Int32)).toNatClampNeg) (S 15 (v2 + (2 : Int32)).toNatClampNeg) (S 15 (v2 + (3 : Int32)).toNatClampNeg) (S 15 (v2 + (4 : Int32)).toNatClampNeg) (S 15 (v2 + (5 : Int32)).toNatClampNeg) (S 15 (v2 + (6 : Int32)).toNatClampNeg) _ hw) (cwV 7 hts gX7_wills_X7_comes rfl rfl rfl (by decide +kernel) ⟨Nat.le_of_ble_eq_true rfl, Nat.le_of_ble_eq_true rfl⟩) rfl hl.1 rfl (Nat.le_of_ble_eq_true rfl) dX7_wills_90 ⟨Nat.zero_le _, Nat.zero_le _⟩ (fun S90 H locs hw hP hS => ?_)
        refine lv_iinc (v := v2 + (7 : Int32)) (lv' := [(2, .int (v2 + (7 : Int32))), (0, .ref (h 0)), (1, .int v1)]) hx hb dX7_wills_93 hl (k := 2) rfl rfl (by decide) rfl (fun ls hl => ?_)
        refine lv_goto (tgt := 26) hx hb dX7_wills_96 (by decide) ?_
        exact i26 (v2 + (7 : Int32)) S90 _ _ _ (lv_sub hl [1, 2, 0] rfl) hP hS hw
  unfold kX7_wills at hw
  refine lv_aload_n hx hb dX7_wills_0 rfl (lv_at hl 0 rfl) ?_
  refine lv_iconst (v := (0 : Int32)) hx hb dX7_wills_1 (by decide) ?_
  refine xVi1 (As := [.int (0 : Int32)]) (rest := []) hst hE hP hS ⟨hx, hb, hml, hown, hts⟩ (va_recv hK hP (ci := 7) (q := (RX7, TX7, 28)) rfl wM_0) (mX7_readAll l D h cI cJ hh S L (0 : Int32) _ hw) (cwV 1 hts gX7_wills_X7_readAll rfl rfl rfl (by decide +kernel) ⟨Nat.le_of_ble_eq_true rfl, Nat.le_of_ble_eq_true rfl⟩) rfl hl.1 rfl (Nat.le_of_ble_eq_true rfl) dX7_wills_2 ⟨Nat.zero_le _, Nat.zero_le _⟩ (fun r2 S2 H locs hw hP hS => ?_)
  refine lv_istore_n (lv' := [(1, .int r2), (0, .ref (h 0))]) hx hb dX7_wills_5 rfl hl (by decide) rfl (fun ls hl => ?_)
  refine lv_iload_n hx hb dX7_wills_6 rfl (lv_at hl 0 rfl) ?_
  refine lv_if_le (tgt := 24) hx hb dX7_wills_7 (by decide) (fun hc => ?_) (fun hc => ?_)
  · replace hw := And.left hw hc
    refine lv_iconst (v := (0 : Int32)) hx hb dX7_wills_24 (by decide) ?_
    refine lv_istore_n (lv' := [(2, .int (0 : Int32)), (1, .int r2), (0, .ref (h 0))]) hx hb dX7_wills_25 rfl hl (by decide) rfl (fun ls hl => ?_)
    obtain ⟨n26, hw⟩ := hw
    exact b26 r2 n26 (0 : Int32) S2 _ _ _ (lv_sub hl [2, 1, 0] rfl) hP hS hw
  · replace hw := And.right hw hc
    refine lv_aload_n hx hb dX7_wills_10 rfl (lv_at hl 1 rfl) ?_
    refine va_get (D := D) (ci := 7) (v := .int (S2 0 2)) (C := RX7) (T := TX7) (N := 28) hx hb hts inX7 hown hK hP 0 wM_0 rfl 3 (by decide) f2 (fun _ h9 => h9) rfl dX7_wills_11 ?_
    refine lv_iload_n hx hb dX7_wills_14 rfl (lv_at hl 0 rfl) ?_
    refine lv_iadd hx hb dX7_wills_15 ?_
    refine lv_bipush (v := (24 : Int32)) hx hb dX7_wills_16 (by decide) ?_
    refine lv_icmp_le (tgt := 24) hx hb dX7_wills_18 (by decide) (fun hc => ?_) (fun hc => ?_)
    · replace hw := And.left hw hc
      refine lv_iconst (v := (0 : Int32)) hx hb dX7_wills_24 (by decide) ?_
      refine lv_istore_n (lv' := [(2, .int (0 : Int32)), (1, .int r2), (0, .ref (h 0))]) hx hb dX7_wills_25 rfl hl (by decide) rfl (fun ls hl => ?_)
      obtain ⟨n26, hw⟩ := hw
      exact b26 r2 n26 (0 : Int32) S2 _ _ _ (lv_sub hl [2, 1, 0] rfl) hP hS hw
    · replace hw := And.right hw hc
      refine lv_bipush (v := (-3 : Int32)) hx hb dX7_wills_21 (by decide) ?_
      exact hret _ _ _ _ _ _ hP hS hw dX7_wills_23
abbrev rX7_totalOf : Room := { frames := 3, cells := 0, slots := 0, locals := 72 }
set_option maxHeartbeats 4000000 in
set_option maxRecDepth 100000 in
theorem mX7_totalOf (l : Launch) (D : va_G) (h : Nat → Nat) (cI cJ : ClassId) (hh : xdis 22 h) (S : SX) (L : LX) (v1 : Int32) (v2 : Int32) (v3 : Int32) (post : Int64 → Prop) (hw : kX7_totalOf S L v1 v2 v3 post) : Met l yX7_totalOf wsX7_totalOf rX7_totalOf (xPre D (wM h cI cJ) (mE D cI cJ) S L [.ref (h 0), .int v1, .int v2, .int v3]) (va_Ql (fun (r : Int64) (u : SX × LX) => post r ∧ u.1 = S ∧ u.2 = L) (xB D (wM h cI cJ)) (xA 22 h)) 0 0 (xA 22 h) := by
  refine Met.ofW (cc := cX7_totalOf) (maxL := 7) (ret := (some .long)) (by decide) rfl ?_
  intro p e s m args below meth c s₁ B hml hv
  obtain ⟨hargs, hP, hE⟩ := hv
  have hx := B.exec
  have hb := B.bytes
  have hr := B.returns
  have hlocks := B.notSynchronized
  have hts := atoms_spec (ws := wsX7_totalOf) B.pre
  have hown : s.vm.findClass RX7 = some m.cls := findClass_of_methodNamed B.named
  have hS : va_S (xA 22 h) s.heap s.heap [] := va_S.rf
  have hD : ∀ (S : SX) (L : LX), va_D (xA 22 h) (wM h cI cJ S L) := fun S L => wM_D hh cI cJ S L
  have hK := id hE
  have hst : xSt (xA 22 h) (mE D cI cJ) := mE_st D _ cI cJ
  have f0 := hts (.fieldLink RX7 87 "BookOfWillsModel" "wills" "I") (by decide +kernel)
  have inX7 : ∀ w ∈ u_ws RX7 TX7 28, w ∈ wsX7_totalOf := fun w hw9 => List.mem_cons_of_mem _ (List.mem_append_right _ hw9)
  have f2 := hts (.fieldLink RX7 18 "BookOfWillsModel" "yearOf" "[I") (by decide +kernel)
  have hl := lv_entry ([.ref (h 0), .int v1, .int v2, .int v3]) (n := 7) (Nat.le_of_ble_eq_true rfl)
  have hen : entryFrame m args 7 = F0 m 0 ((lg_sl ([.ref (h 0), .int v1, .int v2, .int v3]) ++ List.replicate (7 - (lg_sl ([.ref (h 0), .int v1, .int v2, .int v3])).length) Slot.unset).toArray) [] := by rw [hargs]; exact lg_entry_eq m _ _
  rw [hen]
  generalize (lg_sl ([.ref (h 0), .int v1, .int v2, .int v3]) ++ List.replicate (7 - (lg_sl ([.ref (h 0), .int v1, .int v2, .int v3])).length) Slot.unset).toArray = ls at hl ⊢
  have hl : lv_has ls 7 [(0, .ref (h 0)), (1, .int v1), (2, .int v2), (3, .int v3)] := hl
  change W p l e rX7_totalOf s m args below meth c s.heap [] 0 0 (MQ below (va_Ql (fun (r : Int64) (u : SX × LX) => post r ∧ u.1 = S ∧ u.2 = L) (xB D (wM h cI cJ)) (xA 22 h)) args s 0 0 (xA 22 h)) (F0 m 0 ls [])
  have hret : ∀ (r : Int64) (H : Heap) (locs : List Loc) (ls : Array Slot) (pc : Nat), va_P D vwCl (wM h cI cJ S L) H → va_S (xA 22 h) s.heap H locs → post r → decode cX7_totalOf pc = .ok (.lreturn, 1) → W p l e rX7_totalOf s m args below meth c H locs 0 0 (MQ below (va_Ql (fun (r : Int64) (u : SX × LX) => post r ∧ u.1 = S ∧ u.2 = L) (xB D (wM h cI cJ)) (xA 22 h)) args s 0 0 (xA 22 h)) (F0 m pc ls [.long r]) := fun r H locs ls pc hP hS hw hd => W.lret hx hb hr (fun t ht hW => ⟨⟨r, (S, L), rfl, ⟨hw, rfl, rfl⟩, show va_P D vwCl (wM h cI cJ S L) t.heap by rw [ht]; exact hP⟩, hS.F ht⟩) hS.2.2 hd
  generalize MQ below (va_Ql (fun (r : Int64) (u : SX × LX) => post r ∧ u.1 = S ∧ u.2 = L) (xB D (wM h cI cJ)) (xA 22 h)) args s 0 0 (xA 22 h) = Q at hret ⊢
  have b6 : ∀  (n6 : Nat) (v4 : Int64) (v6 : Int32) (H : Heap) (locs : List Loc) (ls : Array Slot), lv_has ls 7 [(0, .ref (h 0)), (1, .int v1), (2, .int v2), (3, .int v3), (4, .long v4), (6, .int v6)] → va_P D vwCl (wM h cI cJ S L) H → va_S (xA 22 h) s.heap H locs → kX7_totalOf_b6 S L v1 v2 v3 post n6 v4 v6 → W p l e rX7_totalOf s m args below meth c H locs 0 0 Q (F0 m 6 ls []) := by
    intro n6
    induction n6 with
    | zero => intro v4 v6 H locs ls hl hP hS hw; exact absurd hw id
    | succ n6 i6 =>
      intro v4 v6 H locs ls hl hP hS hw
      unfold kX7_totalOf_b6 at hw
      refine lv_iload hx hb dX7_totalOf_6 (lv_at hl 5 rfl) ?_
      refine lv_aload_n hx hb dX7_totalOf_8 rfl (lv_at hl 0 rfl) ?_
      refine va_get (D := D) (ci := 7) (v := .int (S 0 2)) (C := RX7) (T := TX7) (N := 28) hx hb hts inX7 hown hK hP 0 wM_0 rfl 3 (by decide) f0 (fun _ h9 => h9) rfl dX7_totalOf_9 ?_
      refine lv_icmp_ge (tgt := 74) hx hb dX7_totalOf_12 (by decide) (fun hc => ?_) (fun hc => ?_)
      · replace hw := And.left hw hc
        refine lv_lload hx hb dX7_totalOf_74 (lv_at hl 4 rfl) ?_
        exact hret _ _ _ _ _ hP hS hw dX7_totalOf_76
      · replace hw := And.right hw hc
        refine lv_lload hx hb dX7_totalOf_15 (lv_at hl 4 rfl) ?_
        refine lv_aload_n hx hb dX7_totalOf_17 rfl (lv_at hl 0 rfl) ?_
        refine va_get (D := D) (ci := 7) (v := .ref (h 2)) (C := RX7) (T := TX7) (N := 28) hx hb hts inX7 hown hK hP 0 wM_0 rfl 4 (by decide) f2 (fun _ h9 => h9) rfl dX7_totalOf_18 ?_
        refine lv_iload hx hb dX7_totalOf_21 (lv_at hl 5 rfl) ?_
        obtain ⟨hi, hw⟩ := hw
        refine va_iald hx hb hK hP 2 0 wM_2 rfl hi dX7_totalOf_23 ?_
        refine lv_iload_n hx hb dX7_totalOf_24 rfl (lv_at hl 1 rfl) ?_
        refine lv_icmp_ne (tgt := 64) hx hb dX7_totalOf_25 (by decide) (fun hc => ?_) (fun hc => ?_)
        · replace hw := And.right hw hc
          refine lv_lconst (v := (0 : Int64)) hx hb dX7_totalOf_64 (by decide) ?_
          refine lv_ladd hx hb dX7_totalOf_65 ?_
          refine lv_lstore (lv' := [(4, .long (v4 + (0 : Int64))), (0, .ref (h 0)), (1, .int v1), (2, .int v2), (3, .int v3), (6, .int v6)]) hx hb dX7_totalOf_66 hl (by decide) rfl (fun ls hl => ?_)
          refine lv_iinc (v := v6 + (1 : Int32)) (lv' := [(6, .int (v6 + (1 : Int32))), (4, .long (v4 + (0 : Int64))), (0, .ref (h 0)), (1, .int v1), (2, .int v2), (3, .int v3)]) hx hb dX7_totalOf_68 hl (k := 5) rfl rfl (by decide) rfl (fun ls hl => ?_)
          refine lv_goto (tgt := 6) hx hb dX7_totalOf_71 (by decide) ?_
          exact i6 (v4 + (0 : Int64)) (v6 + (1 : Int32)) _ _ _ (lv_sub hl [2, 3, 4, 5, 1, 0] rfl) hP hS hw
        · replace hw := And.left hw hc
          refine lv_iload hx hb dX7_totalOf_28 (lv_at hl 5 rfl) ?_
          refine lv_iload_n hx hb dX7_totalOf_30 rfl (lv_at hl 3 rfl) ?_
          refine lv_icmp_eq (tgt := 64) hx hb dX7_totalOf_31 (by decide) (fun hc => ?_) (fun hc => ?_)
          · replace hw := And.left hw hc
            refine lv_lconst (v := (0 : Int64)) hx hb dX7_totalOf_64 (by decide) ?_
            refine lv_ladd hx hb dX7_totalOf_65 ?_
            refine lv_lstore (lv' := [(4, .long (v4 + (0 : Int64))), (0, .ref (h 0)), (1, .int v1), (2, .int v2), (3, .int v3), (6, .int v6)]) hx hb dX7_totalOf_66 hl (by decide) rfl (fun ls hl => ?_)
            refine lv_iinc (v := v6 + (1 : Int32)) (lv' := [(6, .int (v6 + (1 : Int32))), (4, .long (v4 + (0 : Int64))), (0, .ref (h 0)), (1, .int v1), (2, .int v2), (3, .int v3)]) hx hb dX7_totalOf_68 hl (k := 5) rfl rfl (by decide) rfl (fun ls hl => ?_)
            refine lv_goto (tgt := 6) hx hb dX7_totalOf_71 (by decide) ?_
            exact i6 (v4 + (0 : Int64)) (v6 + (1 : Int32)) _ _ _ (lv_sub hl [2, 3, 4, 5, 1, 0] rfl) hP hS hw
          · replace hw := And.right hw hc
            refine lv_aload_n hx hb dX7_totalOf_34 rfl (lv_at hl 0 rfl) ?_
            refine lv_iload hx hb dX7_totalOf_35 (lv_at hl 5 rfl) ?_
            refine lv_iload_n hx hb dX7_totalOf_37 rfl (lv_at hl 2 rfl) ?_
            refine xVi0 (As := [.int v6, .int v2]) (rest := [.long v4]) hst hE hP hS ⟨hx, hb, hml, hown, hts⟩ (va_recv hK hP (ci := 7) (q := (RX7, TX7, 28)) rfl wM_0) (mX7_isBooked l D h cI cJ hh S L v6 v2 _ hw) (cwV 2 hts gX7_totalOf_X7_isBooked rfl rfl rfl (by decide +kernel) ⟨Nat.le_of_ble_eq_true rfl, Nat.le_of_ble_eq_true rfl⟩) rfl hl.1 rfl (Nat.le_of_ble_eq_true rfl) dX7_totalOf_38 ⟨Nat.zero_le _, Nat.zero_le _⟩ (fun r38 H locs hw hP hS => ?_)
            refine lv_if_eq (tgt := 64) hx hb dX7_totalOf_41 (by decide) (fun hc => ?_) (fun hc => ?_)
            · replace hw := And.left hw hc
              refine lv_lconst (v := (0 : Int64)) hx hb dX7_totalOf_64 (by decide) ?_
              refine lv_ladd hx hb dX7_totalOf_65 ?_
              refine lv_lstore (lv' := [(4, .long (v4 + (0 : Int64))), (0, .ref (h 0)), (1, .int v1), (2, .int v2), (3, .int v3), (6, .int v6)]) hx hb dX7_totalOf_66 hl (by decide) rfl (fun ls hl => ?_)
              refine lv_iinc (v := v6 + (1 : Int32)) (lv' := [(6, .int (v6 + (1 : Int32))), (4, .long (v4 + (0 : Int64))), (0, .ref (h 0)), (1, .int v1), (2, .int v2), (3, .int v3)]) hx hb dX7_totalOf_68 hl (k := 5) rfl rfl (by decide) rfl (fun ls hl => ?_)
              refine lv_goto (tgt := 6) hx hb dX7_totalOf_71 (by decide) ?_
              exact i6 (v4 + (0 : Int64)) (v6 + (1 : Int32)) _ _ _ (lv_sub hl [2, 3, 4, 5, 1, 0] rfl) hP hS hw
            · replace hw := And.right hw hc
              refine lv_aload_n hx hb dX7_totalOf_44 rfl (lv_at hl 0 rfl) ?_
              refine lv_iload hx hb dX7_totalOf_45 (lv_at hl 5 rfl) ?_
              refine lv_iload_n hx hb dX7_totalOf_47 rfl (lv_at hl 2 rfl) ?_
              refine xVi0 (As := [.int v6, .int v2]) (rest := [.long v4]) hst hE hP hS ⟨hx, hb, hml, hown, hts⟩ (va_recv hK hP (ci := 7) (q := (RX7, TX7, 28)) rfl wM_0) (mX7_sworn l D h cI cJ hh S L v6 v2 _ hw) (cwV 2 hts gX7_totalOf_X7_sworn rfl rfl rfl (by decide +kernel) ⟨Nat.le_of_ble_eq_true rfl, Nat.le_of_ble_eq_true rfl⟩) rfl hl.1 rfl (Nat.le_of_ble_eq_true rfl) dX7_totalOf_48 ⟨Nat.zero_le _, Nat.zero_le _⟩ (fun r48 H locs hw hP hS => ?_)
              refine lv_i2l hx hb dX7_totalOf_51 rfl ?_
              refine lv_aload_n hx hb dX7_totalOf_52 rfl (lv_at hl 0 rfl) ?_
              refine lv_iload hx hb dX7_totalOf_53 (lv_at hl 5 rfl) ?_
              refine lv_iload_n hx hb dX7_totalOf_55 rfl (lv_at hl 2 rfl) ?_
              refine xVi0 (As := [.int v6, .int v2]) (rest := [.long r48.toInt64, .long v4]) hst hE hP hS ⟨hx, hb, hml, hown, hts⟩ (va_recv hK hP (ci := 7) (q := (RX7, TX7, 28)) rfl wM_0) (mX7_weight l D h cI cJ hh S L v6 v2 _ hw) (cwV 2 hts gX7_totalOf_X7_weight rfl rfl rfl (by decide +kernel) ⟨Nat.le_of_ble_eq_true rfl, Nat.le_of_ble_eq_true rfl⟩) rfl hl.1 rfl (Nat.le_of_ble_eq_true rfl) dX7_totalOf_56 ⟨Nat.zero_le _, Nat.zero_le _⟩ (fun r56 H locs hw hP hS => ?_)
              refine lv_i2l hx hb dX7_totalOf_59 rfl ?_
              refine lv_lmul hx hb dX7_totalOf_60 ?_
              refine lv_goto (tgt := 65) hx hb dX7_totalOf_61 (by decide) ?_
              refine lv_ladd hx hb dX7_totalOf_65 ?_
              refine lv_lstore (lv' := [(4, .long (v4 + (r48.toInt64 * r56.toInt64))), (0, .ref (h 0)), (1, .int v1), (2, .int v2), (3, .int v3), (6, .int v6)]) hx hb dX7_totalOf_66 hl (by decide) rfl (fun ls hl => ?_)
              refine lv_iinc (v := v6 + (1 : Int32)) (lv' := [(6, .int (v6 + (1 : Int32))), (4, .long (v4 + (r48.toInt64 * r56.toInt64))), (0, .ref (h 0)), (1, .int v1), (2, .int v2), (3, .int v3)]) hx hb dX7_totalOf_68 hl (k := 5) rfl rfl (by decide) rfl (fun ls hl => ?_)
              refine lv_goto (tgt := 6) hx hb dX7_totalOf_71 (by decide) ?_
              exact i6 (v4 + (r48.toInt64 * r56.toInt64)) (v6 + (1 : Int32)) _ _ _ (lv_sub hl [2, 3, 4, 5, 1, 0] rfl) hP hS hw
  unfold kX7_totalOf at hw
  refine lv_lconst (v := (0 : Int64)) hx hb dX7_totalOf_0 (by decide) ?_
  refine lv_lstore (lv' := [(4, .long (0 : Int64)), (0, .ref (h 0)), (1, .int v1), (2, .int v2), (3, .int v3)]) hx hb dX7_totalOf_1 hl (by decide) rfl (fun ls hl => ?_)
  refine lv_iconst (v := (0 : Int32)) hx hb dX7_totalOf_3 (by decide) ?_
  refine lv_istore (lv' := [(6, .int (0 : Int32)), (4, .long (0 : Int64)), (0, .ref (h 0)), (1, .int v1), (2, .int v2), (3, .int v3)]) hx hb dX7_totalOf_4 hl (by decide) rfl (fun ls hl => ?_)
  obtain ⟨n6, hw⟩ := hw
  exact b6  n6 (0 : Int64) (0 : Int32) _ _ _ (lv_sub hl [2, 3, 4, 5, 1, 0] rfl) hP hS hw
abbrev rX7_topOf : Room := { frames := 3, cells := 0, slots := 0, locals := 72 }
set_option maxHeartbeats 4000000 in
set_option maxRecDepth 100000 in
theorem mX7_topOf (l : Launch) (D : va_G) (h : Nat → Nat) (cI cJ : ClassId) (hh : xdis 22 h) (S : SX) (L : LX) (v1 : Int32) (v2 : Int32) (v3 : Int32) (v4 : Int32) (post : Int64 → Prop) (hw : kX7_topOf S L v1 v2 v3 v4 post) : Met l yX7_topOf wsX7_topOf rX7_topOf (xPre D (wM h cI cJ) (mE D cI cJ) S L [.ref (h 0), .int v1, .int v2, .int v3, .int v4]) (va_Ql (fun (r : Int64) (u : SX × LX) => post r ∧ u.1 = S ∧ u.2 = L) (xB D (wM h cI cJ)) (xA 22 h)) 0 0 (xA 22 h) := by
  refine Met.ofW (cc := cX7_topOf) (maxL := 14) (ret := (some .long)) (by decide) rfl ?_
  intro p e s m args below meth c s₁ B hml hv
  obtain ⟨hargs, hP, hE⟩ := hv
  have hx := B.exec
  have hb := B.bytes
  have hr := B.returns
  have hlocks := B.notSynchronized
  have hts := atoms_spec (ws := wsX7_topOf) B.pre
  have hown : s.vm.findClass RX7 = some m.cls := findClass_of_methodNamed B.named
  have hS : va_S (xA 22 h) s.heap s.heap [] := va_S.rf
  have hD : ∀ (S : SX) (L : LX), va_D (xA 22 h) (wM h cI cJ S L) := fun S L => wM_D hh cI cJ S L
  have hK := id hE
  have hst : xSt (xA 22 h) (mE D cI cJ) := mE_st D _ cI cJ
  have f0 := hts (.constantLong RX7 190 (10)) (by decide +kernel)
  have f1 := hts (.fieldLink RX7 18 "BookOfWillsModel" "yearOf" "[I") (by decide +kernel)
  have inX7 : ∀ w ∈ u_ws RX7 TX7 28, w ∈ wsX7_topOf := fun w hw9 => List.mem_cons_of_mem _ (List.mem_append_right _ hw9)
  have f3 := hts (.fieldLink RX7 87 "BookOfWillsModel" "wills" "I") (by decide +kernel)
  have f4 := hts (.fieldLink RX7 42 "BookOfWillsModel" "crowd" "[I") (by decide +kernel)
  have hl := lv_entry ([.ref (h 0), .int v1, .int v2, .int v3, .int v4]) (n := 14) (Nat.le_of_ble_eq_true rfl)
  have hen : entryFrame m args 14 = F0 m 0 ((lg_sl ([.ref (h 0), .int v1, .int v2, .int v3, .int v4]) ++ List.replicate (14 - (lg_sl ([.ref (h 0), .int v1, .int v2, .int v3, .int v4])).length) Slot.unset).toArray) [] := by rw [hargs]; exact lg_entry_eq m _ _
  rw [hen]
  generalize (lg_sl ([.ref (h 0), .int v1, .int v2, .int v3, .int v4]) ++ List.replicate (14 - (lg_sl ([.ref (h 0), .int v1, .int v2, .int v3, .int v4])).length) Slot.unset).toArray = ls at hl ⊢
  have hl : lv_has ls 14 [(0, .ref (h 0)), (1, .int v1), (2, .int v2), (3, .int v3), (4, .int v4)] := hl
  change W p l e rX7_topOf s m args below meth c s.heap [] 0 0 (MQ below (va_Ql (fun (r : Int64) (u : SX × LX) => post r ∧ u.1 = S ∧ u.2 = L) (xB D (wM h cI cJ)) (xA 22 h)) args s 0 0 (xA 22 h)) (F0 m 0 ls [])
  have hret : ∀ (r : Int64) (H : Heap) (locs : List Loc) (ls : Array Slot) (pc : Nat), va_P D vwCl (wM h cI cJ S L) H → va_S (xA 22 h) s.heap H locs → post r → decode cX7_topOf pc = .ok (.lreturn, 1) → W p l e rX7_topOf s m args below meth c H locs 0 0 (MQ below (va_Ql (fun (r : Int64) (u : SX × LX) => post r ∧ u.1 = S ∧ u.2 = L) (xB D (wM h cI cJ)) (xA 22 h)) args s 0 0 (xA 22 h)) (F0 m pc ls [.long r]) := fun r H locs ls pc hP hS hw hd => W.lret hx hb hr (fun t ht hW => ⟨⟨r, (S, L), rfl, ⟨hw, rfl, rfl⟩, show va_P D vwCl (wM h cI cJ S L) t.heap by rw [ht]; exact hP⟩, hS.F ht⟩) hS.2.2 hd
  generalize MQ below (va_Ql (fun (r : Int64) (u : SX × LX) => post r ∧ u.1 = S ∧ u.2 = L) (xB D (wM h cI cJ)) (xA 22 h)) args s 0 0 (xA 22 h) = Q at hret ⊢
  have b21 : ∀  (n21 : Nat) (v5 : Int64) (v7 : Int64) (v9 : Int32) (v10 : Int32) (H : Heap) (locs : List Loc) (ls : Array Slot), lv_has ls 14 [(0, .ref (h 0)), (1, .int v1), (2, .int v2), (4, .int v4), (5, .long v5), (7, .long v7), (9, .int v9), (10, .int v10)] → va_P D vwCl (wM h cI cJ S L) H → va_S (xA 22 h) s.heap H locs → kX7_topOf_b21 S L v1 v2 v3 v4 post n21 v5 v7 v9 v10 → W p l e rX7_topOf s m args below meth c H locs 0 0 Q (F0 m 21 ls []) := by
    intro n21
    induction n21 with
    | zero => intro v5 v7 v9 v10 H locs ls hl hP hS hw; exact absurd hw id
    | succ n21 i21 =>
      have b45 : ∀  (n45 : Nat) (v5 : Int64) (v7 : Int64) (v9 : Int32) (v11 : Int32) (v12 : Int32) (H : Heap) (locs : List Loc) (ls : Array Slot), lv_has ls 14 [(0, .ref (h 0)), (1, .int v1), (2, .int v2), (4, .int v4), (5, .long v5), (7, .long v7), (9, .int v9), (11, .int v11), (12, .int v12)] → va_P D vwCl (wM h cI cJ S L) H → va_S (xA 22 h) s.heap H locs → kX7_topOf_b45 S L v1 v2 v3 v4 post (kX7_topOf_b21 S L v1 v2 v3 v4 post n21) n45 v5 v7 v9 v11 v12 → W p l e rX7_topOf s m args below meth c H locs 0 0 Q (F0 m 45 ls []) := by
        intro n45
        induction n45 with
        | zero => intro v5 v7 v9 v11 v12 H locs ls hl hP hS hw; exact absurd hw id
        | succ n45 i45 =>
          have b93 : ∀ (v5 : Int64) (v7 : Int64) (v9 : Int32) (v11 : Int32) (v12 : Int32) (z0 : Int32) (H : Heap) (locs : List Loc) (ls : Array Slot), lv_has ls 14 [(0, .ref (h 0)), (1, .int v1), (2, .int v2), (4, .int v4), (5, .long v5), (7, .long v7), (9, .int v9), (11, .int v11), (12, .int v12)] → va_P D vwCl (wM h cI cJ S L) H → va_S (xA 22 h) s.heap H locs → kX7_topOf_b93 S L v1 v2 v3 v4 post (kX7_topOf_b45 S L v1 v2 v3 v4 post (kX7_topOf_b21 S L v1 v2 v3 v4 post n21) n45) v5 v7 v9 v11 v12 z0 → W p l e rX7_topOf s m args below meth c H locs 0 0 Q (F0 m 93 ls [.int z0]) := by
            intro v5 v7 v9 v11 v12 z0 H locs ls hl hP hS hw
            unfold kX7_topOf_b93 at hw
            refine lv_istore (lv' := [(13, .int z0), (0, .ref (h 0)), (1, .int v1), (2, .int v2), (4, .int v4), (5, .long v5), (7, .long v7), (9, .int v9), (11, .int v11), (12, .int v12)]) hx hb dX7_topOf_93 hl (by decide) rfl (fun ls hl => ?_)
            refine lv_iload hx hb dX7_topOf_95 (lv_at hl 0 rfl) ?_
            refine lv_if_eq (tgt := 127) hx hb dX7_topOf_97 (by decide) (fun hc => ?_) (fun hc => ?_)
            · replace hw := And.left hw hc
              refine lv_iload hx hb dX7_topOf_127 (lv_at hl 8 rfl) ?_
              refine lv_istore (lv' := [(11, .int v11), (13, .int z0), (0, .ref (h 0)), (1, .int v1), (2, .int v2), (4, .int v4), (5, .long v5), (7, .long v7), (9, .int v9), (12, .int v12)]) hx hb dX7_topOf_129 hl (by decide) rfl (fun ls hl => ?_)
              refine lv_iinc (v := v12 + (-1 : Int32)) (lv' := [(12, .int (v12 + (-1 : Int32))), (11, .int v11), (13, .int z0), (0, .ref (h 0)), (1, .int v1), (2, .int v2), (4, .int v4), (5, .long v5), (7, .long v7), (9, .int v9)]) hx hb dX7_topOf_131 hl (k := 9) rfl rfl (by decide) rfl (fun ls hl => ?_)
              refine lv_goto (tgt := 45) hx hb dX7_topOf_134 (by decide) ?_
              exact i45 v5 v7 v9 v11 (v12 + (-1 : Int32)) _ _ _ (lv_sub hl [3, 4, 5, 6, 7, 8, 9, 1, 0] rfl) hP hS hw
            · replace hw := And.right hw hc
              refine lv_iload hx hb dX7_topOf_100 (lv_at hl 8 rfl) ?_
              refine lv_if_lt (tgt := 122) hx hb dX7_topOf_102 (by decide) (fun hc => ?_) (fun hc => ?_)
              · replace hw := And.left hw hc
                refine lv_iload hx hb dX7_topOf_122 (lv_at hl 9 rfl) ?_
                refine lv_goto (tgt := 129) hx hb dX7_topOf_124 (by decide) ?_
                refine lv_istore (lv' := [(11, .int v12), (13, .int z0), (0, .ref (h 0)), (1, .int v1), (2, .int v2), (4, .int v4), (5, .long v5), (7, .long v7), (9, .int v9), (12, .int v12)]) hx hb dX7_topOf_129 hl (by decide) rfl (fun ls hl => ?_)
                refine lv_iinc (v := v12 + (-1 : Int32)) (lv' := [(12, .int (v12 + (-1 : Int32))), (11, .int v12), (13, .int z0), (0, .ref (h 0)), (1, .int v1), (2, .int v2), (4, .int v4), (5, .long v5), (7, .long v7), (9, .int v9)]) hx hb dX7_topOf_131 hl (k := 9) rfl rfl (by decide) rfl (fun ls hl => ?_)
                refine lv_goto (tgt := 45) hx hb dX7_topOf_134 (by decide) ?_
                exact i45 v5 v7 v9 v12 (v12 + (-1 : Int32)) _ _ _ (lv_sub hl [3, 4, 5, 6, 7, 8, 9, 1, 0] rfl) hP hS hw
              · replace hw := And.right hw hc
                refine lv_aload_n hx hb dX7_topOf_105 rfl (lv_at hl 1 rfl) ?_
                refine lv_iload hx hb dX7_topOf_106 (lv_at hl 9 rfl) ?_
                refine lv_iload_n hx hb dX7_topOf_108 rfl (lv_at hl 3 rfl) ?_
                refine xVi0 (As := [.int v12, .int v2]) (rest := []) hst hE hP hS ⟨hx, hb, hml, hown, hts⟩ (va_recv hK hP (ci := 7) (q := (RX7, TX7, 28)) rfl wM_0) (mX7_sworn l D h cI cJ hh S L v12 v2 _ hw) (cwV 2 hts gX7_topOf_X7_sworn rfl rfl rfl (by decide +kernel) ⟨Nat.le_of_ble_eq_true rfl, Nat.le_of_ble_eq_true rfl⟩) rfl hl.1 rfl (Nat.le_of_ble_eq_true rfl) dX7_topOf_109 ⟨Nat.zero_le _, Nat.zero_le _⟩ (fun r109 H locs hw hP hS => ?_)
                refine lv_aload_n hx hb dX7_topOf_112 rfl (lv_at hl 1 rfl) ?_
                refine lv_iload hx hb dX7_topOf_113 (lv_at hl 8 rfl) ?_
                refine lv_iload_n hx hb dX7_topOf_115 rfl (lv_at hl 3 rfl) ?_
                refine xVi0 (As := [.int v11, .int v2]) (rest := [.int r109]) hst hE hP hS ⟨hx, hb, hml, hown, hts⟩ (va_recv hK hP (ci := 7) (q := (RX7, TX7, 28)) rfl wM_0) (mX7_sworn l D h cI cJ hh S L v11 v2 _ hw) (cwV 2 hts gX7_topOf_X7_sworn rfl rfl rfl (by decide +kernel) ⟨Nat.le_of_ble_eq_true rfl, Nat.le_of_ble_eq_true rfl⟩) rfl hl.1 rfl (Nat.le_of_ble_eq_true rfl) dX7_topOf_116 ⟨Nat.zero_le _, Nat.zero_le _⟩ (fun r116 H locs hw hP hS => ?_)
                refine lv_icmp_lt (tgt := 127) hx hb dX7_topOf_119 (by decide) (fun hc => ?_) (fun hc => ?_)
                · replace hw := And.left hw hc
                  refine lv_iload hx hb dX7_topOf_127 (lv_at hl 8 rfl) ?_
                  refine lv_istore (lv' := [(11, .int v11), (13, .int z0), (0, .ref (h 0)), (1, .int v1), (2, .int v2), (4, .int v4), (5, .long v5), (7, .long v7), (9, .int v9), (12, .int v12)]) hx hb dX7_topOf_129 hl (by decide) rfl (fun ls hl => ?_)
                  refine lv_iinc (v := v12 + (-1 : Int32)) (lv' := [(12, .int (v12 + (-1 : Int32))), (11, .int v11), (13, .int z0), (0, .ref (h 0)), (1, .int v1), (2, .int v2), (4, .int v4), (5, .long v5), (7, .long v7), (9, .int v9)]) hx hb dX7_topOf_131 hl (k := 9) rfl rfl (by decide) rfl (fun ls hl => ?_)
                  refine lv_goto (tgt := 45) hx hb dX7_topOf_134 (by decide) ?_
                  exact i45 v5 v7 v9 v11 (v12 + (-1 : Int32)) _ _ _ (lv_sub hl [3, 4, 5, 6, 7, 8, 9, 1, 0] rfl) hP hS hw
                · replace hw := And.right hw hc
                  refine lv_iload hx hb dX7_topOf_122 (lv_at hl 9 rfl) ?_
                  refine lv_goto (tgt := 129) hx hb dX7_topOf_124 (by decide) ?_
                  refine lv_istore (lv' := [(11, .int v12), (13, .int z0), (0, .ref (h 0)), (1, .int v1), (2, .int v2), (4, .int v4), (5, .long v5), (7, .long v7), (9, .int v9), (12, .int v12)]) hx hb dX7_topOf_129 hl (by decide) rfl (fun ls hl => ?_)
                  refine lv_iinc (v := v12 + (-1 : Int32)) (lv' := [(12, .int (v12 + (-1 : Int32))), (11, .int v12), (13, .int z0), (0, .ref (h 0)), (1, .int v1), (2, .int v2), (4, .int v4), (5, .long v5), (7, .long v7), (9, .int v9)]) hx hb dX7_topOf_131 hl (k := 9) rfl rfl (by decide) rfl (fun ls hl => ?_)
                  refine lv_goto (tgt := 45) hx hb dX7_topOf_134 (by decide) ?_
                  exact i45 v5 v7 v9 v12 (v12 + (-1 : Int32)) _ _ _ (lv_sub hl [3, 4, 5, 6, 7, 8, 9, 1, 0] rfl) hP hS hw
          have b92 : ∀ (v5 : Int64) (v7 : Int64) (v9 : Int32) (v11 : Int32) (v12 : Int32) (H : Heap) (locs : List Loc) (ls : Array Slot), lv_has ls 14 [(0, .ref (h 0)), (1, .int v1), (2, .int v2), (4, .int v4), (5, .long v5), (7, .long v7), (9, .int v9), (11, .int v11), (12, .int v12)] → va_P D vwCl (wM h cI cJ S L) H → va_S (xA 22 h) s.heap H locs → kX7_topOf_b92 S L v1 v2 v3 v4 post (kX7_topOf_b93 S L v1 v2 v3 v4 post (kX7_topOf_b45 S L v1 v2 v3 v4 post (kX7_topOf_b21 S L v1 v2 v3 v4 post n21) n45)) v5 v7 v9 v11 v12 → W p l e rX7_topOf s m args below meth c H locs 0 0 Q (F0 m 92 ls []) := by
            intro v5 v7 v9 v11 v12 H locs ls hl hP hS hw
            unfold kX7_topOf_b92 at hw
            refine lv_iconst (v := (0 : Int32)) hx hb dX7_topOf_92 (by decide) ?_
            exact b93 v5 v7 v9 v11 v12 (0 : Int32) _ _ _ (lv_sub hl [0, 1, 2, 3, 4, 5, 6, 7, 8] rfl) hP hS hw
          have b147 : ∀ (v5 : Int64) (v7 : Int64) (v9 : Int32) (v11 : Int32) (z0 : Int32) (H : Heap) (locs : List Loc) (ls : Array Slot), lv_has ls 14 [(0, .ref (h 0)), (1, .int v1), (2, .int v2), (4, .int v4), (5, .long v5), (7, .long v7), (9, .int v9), (11, .int v11)] → va_P D vwCl (wM h cI cJ S L) H → va_S (xA 22 h) s.heap H locs → kX7_topOf_b147 S L v1 v2 v3 v4 post (kX7_topOf_b21 S L v1 v2 v3 v4 post n21) v5 v7 v9 v11 z0 → W p l e rX7_topOf s m args below meth c H locs 0 0 Q (F0 m 147 ls [.int z0]) := by
            have b170 : ∀ (v5 : Int64) (v7 : Int64) (v9 : Int32) (v10 : Int32) (v11 : Int32) (z0 : Int64) (H : Heap) (locs : List Loc) (ls : Array Slot), lv_has ls 14 [(0, .ref (h 0)), (1, .int v1), (2, .int v2), (4, .int v4), (5, .long v5), (7, .long v7), (9, .int v9), (10, .int v10), (11, .int v11)] → va_P D vwCl (wM h cI cJ S L) H → va_S (xA 22 h) s.heap H locs → kX7_topOf_b170 S L v1 v2 v3 v4 post (kX7_topOf_b21 S L v1 v2 v3 v4 post n21) v5 v7 v9 v10 v11 z0 → W p l e rX7_topOf s m args below meth c H locs 0 0 Q (F0 m 170 ls [.long z0]) := by
              have b187 : ∀ (v5 : Int64) (v7 : Int64) (v9 : Int32) (v10 : Int32) (v11 : Int32) (z0 : Int64) (H : Heap) (locs : List Loc) (ls : Array Slot), lv_has ls 14 [(0, .ref (h 0)), (1, .int v1), (2, .int v2), (4, .int v4), (5, .long v5), (7, .long v7), (9, .int v9), (10, .int v10), (11, .int v11)] → va_P D vwCl (wM h cI cJ S L) H → va_S (xA 22 h) s.heap H locs → kX7_topOf_b187 S L v1 v2 v3 v4 post (kX7_topOf_b21 S L v1 v2 v3 v4 post n21) v5 v7 v9 v10 v11 z0 → W p l e rX7_topOf s m args below meth c H locs 0 0 Q (F0 m 187 ls [.long z0]) := by
                have b211 : ∀ (v5 : Int64) (v9 : Int32) (v10 : Int32) (v11 : Int32) (v12 : Int64) (z0 : Int64) (z1 : Int64) (H : Heap) (locs : List Loc) (ls : Array Slot), lv_has ls 14 [(0, .ref (h 0)), (1, .int v1), (2, .int v2), (4, .int v4), (5, .long v5), (9, .int v9), (10, .int v10), (11, .int v11), (12, .long v12)] → va_P D vwCl (wM h cI cJ S L) H → va_S (xA 22 h) s.heap H locs → kX7_topOf_b211 S L v1 v2 v3 v4 post (kX7_topOf_b21 S L v1 v2 v3 v4 post n21) v5 v9 v10 v11 v12 z0 z1 → W p l e rX7_topOf s m args below meth c H locs 0 0 Q (F0 m 211 ls [.long z1, .long z0]) := by
                  intro v5 v9 v10 v11 v12 z0 z1 H locs ls hl hP hS hw
                  unfold kX7_topOf_b211 at hw
                  refine lv_ladd hx hb dX7_topOf_211 ?_
                  refine lv_lstore (lv' := [(7, .long (z0 + z1)), (0, .ref (h 0)), (1, .int v1), (2, .int v2), (4, .int v4), (5, .long v5), (9, .int v9), (10, .int v10), (11, .int v11), (12, .long v12)]) hx hb dX7_topOf_212 hl (by decide) rfl (fun ls hl => ?_)
                  refine lv_lload hx hb dX7_topOf_214 (lv_at hl 5 rfl) ?_
                  refine lv_lload hx hb dX7_topOf_216 (lv_at hl 9 rfl) ?_
                  refine lv_lsub hx hb dX7_topOf_218 ?_
                  refine lv_lstore (lv' := [(5, .long (v5 - v12)), (7, .long (z0 + z1)), (0, .ref (h 0)), (1, .int v1), (2, .int v2), (4, .int v4), (9, .int v9), (10, .int v10), (11, .int v11), (12, .long v12)]) hx hb dX7_topOf_219 hl (by decide) rfl (fun ls hl => ?_)
                  refine lv_iload hx hb dX7_topOf_221 (lv_at hl 6 rfl) ?_
                  refine lv_iload hx hb dX7_topOf_223 (lv_at hl 7 rfl) ?_
                  refine lv_if_eq (tgt := 235) hx hb dX7_topOf_225 (by decide) (fun hc => ?_) (fun hc => ?_)
                  · replace hw := And.left hw hc
                    refine lv_iconst (v := (0 : Int32)) hx hb dX7_topOf_235 (by decide) ?_
                    refine lv_ior hx hb dX7_topOf_236 ?_
                    refine lv_istore (lv' := [(9, .int (v9 ||| (0 : Int32))), (5, .long (v5 - v12)), (7, .long (z0 + z1)), (0, .ref (h 0)), (1, .int v1), (2, .int v2), (4, .int v4), (10, .int v10), (11, .int v11), (12, .long v12)]) hx hb dX7_topOf_237 hl (by decide) rfl (fun ls hl => ?_)
                    refine lv_goto (tgt := 21) hx hb dX7_topOf_239 (by decide) ?_
                    exact i21 (v5 - v12) (z0 + z1) (v9 ||| (0 : Int32)) v10 _ _ _ (lv_sub hl [3, 4, 5, 6, 1, 2, 0, 7] rfl) hP hS hw
                  · replace hw := And.right hw hc
                    refine lv_iconst (v := (1 : Int32)) hx hb dX7_topOf_228 (by decide) ?_
                    refine lv_iload hx hb dX7_topOf_229 (lv_at hl 8 rfl) ?_
                    refine lv_ishl hx hb dX7_topOf_231 ?_
                    refine lv_goto (tgt := 236) hx hb dX7_topOf_232 (by decide) ?_
                    refine lv_ior hx hb dX7_topOf_236 ?_
                    refine lv_istore (lv' := [(9, .int (v9 ||| ((1 : Int32) <<< (v11 &&& 31)))), (5, .long (v5 - v12)), (7, .long (z0 + z1)), (0, .ref (h 0)), (1, .int v1), (2, .int v2), (4, .int v4), (10, .int v10), (11, .int v11), (12, .long v12)]) hx hb dX7_topOf_237 hl (by decide) rfl (fun ls hl => ?_)
                    refine lv_goto (tgt := 21) hx hb dX7_topOf_239 (by decide) ?_
                    exact i21 (v5 - v12) (z0 + z1) (v9 ||| ((1 : Int32) <<< (v11 &&& 31))) v10 _ _ _ (lv_sub hl [3, 4, 5, 6, 1, 2, 0, 7] rfl) hP hS hw
                intro v5 v7 v9 v10 v11 z0 H locs ls hl hP hS hw
                unfold kX7_topOf_b187 at hw
                refine lv_lstore (lv' := [(12, .long z0), (0, .ref (h 0)), (1, .int v1), (2, .int v2), (4, .int v4), (5, .long v5), (7, .long v7), (9, .int v9), (10, .int v10), (11, .int v11)]) hx hb dX7_topOf_187 hl (by decide) rfl (fun ls hl => ?_)
                refine lv_lload hx hb dX7_topOf_189 (lv_at hl 6 rfl) ?_
                refine lv_iload hx hb dX7_topOf_191 (lv_at hl 8 rfl) ?_
                refine lv_if_eq (tgt := 210) hx hb dX7_topOf_193 (by decide) (fun hc => ?_) (fun hc => ?_)
                · replace hw := And.left hw hc
                  refine lv_lconst (v := (0 : Int64)) hx hb dX7_topOf_210 (by decide) ?_
                  exact b211 v5 v9 v10 v11 z0 v7 (0 : Int64) _ _ _ (lv_sub hl [1, 2, 3, 4, 5, 7, 8, 9, 0] rfl) hP hS hw
                · replace hw := And.right hw hc
                  refine lv_lload hx hb dX7_topOf_196 (lv_at hl 0 rfl) ?_
                  refine lv_aload_n hx hb dX7_topOf_198 rfl (lv_at hl 1 rfl) ?_
                  refine lv_iload hx hb dX7_topOf_199 (lv_at hl 9 rfl) ?_
                  refine lv_iload_n hx hb dX7_topOf_201 rfl (lv_at hl 3 rfl) ?_
                  refine xVi0 (As := [.int v11, .int v2]) (rest := [.long z0, .long v7]) hst hE hP hS ⟨hx, hb, hml, hown, hts⟩ (va_recv hK hP (ci := 7) (q := (RX7, TX7, 28)) rfl wM_0) (mX7_sworn l D h cI cJ hh S L v11 v2 _ hw) (cwV 2 hts gX7_topOf_X7_sworn rfl rfl rfl (by decide +kernel) ⟨Nat.le_of_ble_eq_true rfl, Nat.le_of_ble_eq_true rfl⟩) rfl hl.1 rfl (Nat.le_of_ble_eq_true rfl) dX7_topOf_202 ⟨Nat.zero_le _, Nat.zero_le _⟩ (fun r202 H locs hw hP hS => ?_)
                  refine lv_i2l hx hb dX7_topOf_205 rfl ?_
                  refine lv_lmul hx hb dX7_topOf_206 ?_
                  refine lv_goto (tgt := 211) hx hb dX7_topOf_207 (by decide) ?_
                  exact b211 v5 v9 v10 v11 z0 v7 (z0 * r202.toInt64) _ _ _ (lv_sub hl [1, 2, 3, 4, 5, 7, 8, 9, 0] rfl) hP hS hw
              intro v5 v7 v9 v10 v11 z0 H locs ls hl hP hS hw
              unfold kX7_topOf_b170 at hw
              refine lv_lstore (lv' := [(12, .long z0), (0, .ref (h 0)), (1, .int v1), (2, .int v2), (4, .int v4), (5, .long v5), (7, .long v7), (9, .int v9), (10, .int v10), (11, .int v11)]) hx hb dX7_topOf_170 hl (by decide) rfl (fun ls hl => ?_)
              refine lv_lload hx hb dX7_topOf_172 (lv_at hl 0 rfl) ?_
              refine lv_lload hx hb dX7_topOf_174 (lv_at hl 5 rfl) ?_
              refine W.lcmp hx hb dX7_topOf_176 ?_
              refine lv_if_ge (tgt := 185) hx hb dX7_topOf_177 (by decide) (fun hc => ?_) (fun hc => ?_)
              · replace hw := And.left hw ((lg_cmp_ge _ _).mp hc)
                refine lv_lload hx hb dX7_topOf_185 (lv_at hl 5 rfl) ?_
                exact b187 v5 v7 v9 v10 v11 v5 _ _ _ (lv_sub hl [1, 2, 3, 4, 5, 6, 7, 8, 9] rfl) hP hS hw
              · replace hw := And.right hw (fun q => hc ((lg_cmp_ge _ _).mpr q))
                refine lv_lload hx hb dX7_topOf_180 (lv_at hl 0 rfl) ?_
                refine lv_goto (tgt := 187) hx hb dX7_topOf_182 (by decide) ?_
                exact b187 v5 v7 v9 v10 v11 z0 _ _ _ (lv_sub hl [1, 2, 3, 4, 5, 6, 7, 8, 9] rfl) hP hS hw
            intro v5 v7 v9 v11 z0 H locs ls hl hP hS hw
            unfold kX7_topOf_b147 at hw
            refine lv_istore (lv' := [(10, .int z0), (0, .ref (h 0)), (1, .int v1), (2, .int v2), (4, .int v4), (5, .long v5), (7, .long v7), (9, .int v9), (11, .int v11)]) hx hb dX7_topOf_147 hl (by decide) rfl (fun ls hl => ?_)
            refine lv_iload hx hb dX7_topOf_149 (lv_at hl 0 rfl) ?_
            refine lv_if_eq (tgt := 169) hx hb dX7_topOf_151 (by decide) (fun hc => ?_) (fun hc => ?_)
            · replace hw := And.left hw hc
              refine lv_lconst (v := (0 : Int64)) hx hb dX7_topOf_169 (by decide) ?_
              exact b170 v5 v7 v9 z0 v11 (0 : Int64) _ _ _ (lv_sub hl [1, 2, 3, 4, 5, 6, 7, 0, 8] rfl) hP hS hw
            · replace hw := And.right hw hc
              refine lv_ldc2 (v := (10 : Int64)) hx hb hown (f0) dX7_topOf_154 ?_
              refine lv_aload_n hx hb dX7_topOf_157 rfl (lv_at hl 1 rfl) ?_
              refine lv_iload hx hb dX7_topOf_158 (lv_at hl 8 rfl) ?_
              refine lv_iload_n hx hb dX7_topOf_160 rfl (lv_at hl 3 rfl) ?_
              refine xVi0 (As := [.int v11, .int v2]) (rest := [.long (10 : Int64)]) hst hE hP hS ⟨hx, hb, hml, hown, hts⟩ (va_recv hK hP (ci := 7) (q := (RX7, TX7, 28)) rfl wM_0) (mX7_weight l D h cI cJ hh S L v11 v2 _ hw) (cwV 2 hts gX7_topOf_X7_weight rfl rfl rfl (by decide +kernel) ⟨Nat.le_of_ble_eq_true rfl, Nat.le_of_ble_eq_true rfl⟩) rfl hl.1 rfl (Nat.le_of_ble_eq_true rfl) dX7_topOf_161 ⟨Nat.zero_le _, Nat.zero_le _⟩ (fun r161 H locs hw hP hS => ?_)
              refine lv_i2l hx hb dX7_topOf_164 rfl ?_
              refine lv_lmul hx hb dX7_topOf_165 ?_
              refine lv_goto (tgt := 170) hx hb dX7_topOf_166 (by decide) ?_
              exact b170 v5 v7 v9 z0 v11 ((10 : Int64) * r161.toInt64) _ _ _ (lv_sub hl [1, 2, 3, 4, 5, 6, 7, 0, 8] rfl) hP hS hw
          intro v5 v7 v9 v11 v12 H locs ls hl hP hS hw
          unfold kX7_topOf_b45 at hw
          refine lv_iload hx hb dX7_topOf_45 (lv_at hl 8 rfl) ?_
          refine lv_if_lt (tgt := 137) hx hb dX7_topOf_47 (by decide) (fun hc => ?_) (fun hc => ?_)
          · replace hw := And.left hw hc
            refine lv_iload hx hb dX7_topOf_137 (lv_at hl 7 rfl) ?_
            refine lv_if_lt (tgt := 146) hx hb dX7_topOf_139 (by decide) (fun hc => ?_) (fun hc => ?_)
            · replace hw := And.left hw hc
              refine lv_iconst (v := (0 : Int32)) hx hb dX7_topOf_146 (by decide) ?_
              exact b147 v5 v7 v9 v11 (0 : Int32) _ _ _ (lv_sub hl [0, 1, 2, 3, 4, 5, 6, 7] rfl) hP hS hw
            · replace hw := And.right hw hc
              refine lv_iconst (v := (1 : Int32)) hx hb dX7_topOf_142 (by decide) ?_
              refine lv_goto (tgt := 147) hx hb dX7_topOf_143 (by decide) ?_
              exact b147 v5 v7 v9 v11 (1 : Int32) _ _ _ (lv_sub hl [0, 1, 2, 3, 4, 5, 6, 7] rfl) hP hS hw
          · replace hw := And.right hw hc
            refine lv_aload_n hx hb dX7_topOf_50 rfl (lv_at hl 0 rfl) ?_
            refine va_get (D := D) (ci := 7) (v := .ref (h 2)) (C := RX7) (T := TX7) (N := 28) hx hb hts inX7 hown hK hP 0 wM_0 rfl 4 (by decide) f1 (fun _ h9 => h9) rfl dX7_topOf_51 ?_
            refine lv_iload hx hb dX7_topOf_54 (lv_at hl 8 rfl) ?_
            obtain ⟨hi, hw⟩ := hw
            refine va_iald hx hb hK hP 2 0 wM_2 rfl hi dX7_topOf_56 ?_
            refine lv_iload_n hx hb dX7_topOf_57 rfl (lv_at hl 1 rfl) ?_
            refine lv_icmp_ne (tgt := 92) hx hb dX7_topOf_58 (by decide) (fun hc => ?_) (fun hc => ?_)
            · replace hw := And.right hw hc
              exact b92 v5 v7 v9 v11 v12 _ _ _ (lv_sub hl [0, 1, 2, 3, 4, 5, 6, 7, 8] rfl) hP hS hw
            · replace hw := And.left hw hc
              refine lv_iload hx hb dX7_topOf_61 (lv_at hl 8 rfl) ?_
              refine lv_iload hx hb dX7_topOf_63 (lv_at hl 3 rfl) ?_
              refine lv_icmp_eq (tgt := 92) hx hb dX7_topOf_65 (by decide) (fun hc => ?_) (fun hc => ?_)
              · replace hw := And.left hw hc
                exact b92 v5 v7 v9 v11 v12 _ _ _ (lv_sub hl [0, 1, 2, 3, 4, 5, 6, 7, 8] rfl) hP hS hw
              · replace hw := And.right hw hc
                refine lv_iload hx hb dX7_topOf_68 (lv_at hl 6 rfl) ?_
                refine lv_iload hx hb dX7_topOf_70 (lv_at hl 8 rfl) ?_
                refine lv_ishr hx hb dX7_topOf_72 ?_
                refine lv_iconst (v := (1 : Int32)) hx hb dX7_topOf_73 (by decide) ?_
                refine lv_iand hx hb dX7_topOf_74 ?_
                refine lv_if_ne (tgt := 92) hx hb dX7_topOf_75 (by decide) (fun hc => ?_) (fun hc => ?_)
                · replace hw := And.right hw hc
                  exact b92 v5 v7 v9 v11 v12 _ _ _ (lv_sub hl [0, 1, 2, 3, 4, 5, 6, 7, 8] rfl) hP hS hw
                · replace hw := And.left hw hc
                  refine lv_aload_n hx hb dX7_topOf_78 rfl (lv_at hl 0 rfl) ?_
                  refine lv_iload hx hb dX7_topOf_79 (lv_at hl 8 rfl) ?_
                  refine lv_iload_n hx hb dX7_topOf_81 rfl (lv_at hl 2 rfl) ?_
                  refine xVi0 (As := [.int v12, .int v2]) (rest := []) hst hE hP hS ⟨hx, hb, hml, hown, hts⟩ (va_recv hK hP (ci := 7) (q := (RX7, TX7, 28)) rfl wM_0) (mX7_isBooked l D h cI cJ hh S L v12 v2 _ hw) (cwV 2 hts gX7_topOf_X7_isBooked rfl rfl rfl (by decide +kernel) ⟨Nat.le_of_ble_eq_true rfl, Nat.le_of_ble_eq_true rfl⟩) rfl hl.1 rfl (Nat.le_of_ble_eq_true rfl) dX7_topOf_82 ⟨Nat.zero_le _, Nat.zero_le _⟩ (fun r82 H locs hw hP hS => ?_)
                  refine lv_if_eq (tgt := 92) hx hb dX7_topOf_85 (by decide) (fun hc => ?_) (fun hc => ?_)
                  · replace hw := And.left hw hc
                    exact b92 v5 v7 v9 v11 v12 _ _ _ (lv_sub hl [0, 1, 2, 3, 4, 5, 6, 7, 8] rfl) hP hS hw
                  · replace hw := And.right hw hc
                    refine lv_iconst (v := (1 : Int32)) hx hb dX7_topOf_88 (by decide) ?_
                    refine lv_goto (tgt := 93) hx hb dX7_topOf_89 (by decide) ?_
                    exact b93 v5 v7 v9 v11 v12 (1 : Int32) _ _ _ (lv_sub hl [0, 1, 2, 3, 4, 5, 6, 7, 8] rfl) hP hS hw
      intro v5 v7 v9 v10 H locs ls hl hP hS hw
      unfold kX7_topOf_b21 at hw
      refine lv_iload hx hb dX7_topOf_21 (lv_at hl 7 rfl) ?_
      refine lv_if_eq (tgt := 242) hx hb dX7_topOf_23 (by decide) (fun hc => ?_) (fun hc => ?_)
      · replace hw := And.left hw hc
        refine lv_lload hx hb dX7_topOf_242 (lv_at hl 5 rfl) ?_
        exact hret _ _ _ _ _ hP hS hw dX7_topOf_244
      · replace hw := And.right hw hc
        refine lv_lload hx hb dX7_topOf_26 (lv_at hl 4 rfl) ?_
        refine lv_lconst (v := (0 : Int64)) hx hb dX7_topOf_28 (by decide) ?_
        refine W.lcmp hx hb dX7_topOf_29 ?_
        refine lv_if_le (tgt := 242) hx hb dX7_topOf_30 (by decide) (fun hc => ?_) (fun hc => ?_)
        · replace hw := And.left hw ((lg_cmp_le _ _).mp hc)
          refine lv_lload hx hb dX7_topOf_242 (lv_at hl 5 rfl) ?_
          exact hret _ _ _ _ _ hP hS hw dX7_topOf_244
        · replace hw := And.right hw (fun q => hc ((lg_cmp_le _ _).mpr q))
          refine lv_bipush (v := (-4 : Int32)) hx hb dX7_topOf_33 (by decide) ?_
          refine lv_istore (lv' := [(11, .int (-4 : Int32)), (0, .ref (h 0)), (1, .int v1), (2, .int v2), (4, .int v4), (5, .long v5), (7, .long v7), (9, .int v9), (10, .int v10)]) hx hb dX7_topOf_35 hl (by decide) rfl (fun ls hl => ?_)
          refine lv_aload_n hx hb dX7_topOf_37 rfl (lv_at hl 1 rfl) ?_
          refine va_get (D := D) (ci := 7) (v := .int (S 0 2)) (C := RX7) (T := TX7) (N := 28) hx hb hts inX7 hown hK hP 0 wM_0 rfl 3 (by decide) f3 (fun _ h9 => h9) rfl dX7_topOf_38 ?_
          refine lv_iconst (v := (1 : Int32)) hx hb dX7_topOf_41 (by decide) ?_
          refine lv_isub hx hb dX7_topOf_42 ?_
          refine lv_istore (lv' := [(12, .int ((S 0 2) - (1 : Int32))), (11, .int (-4 : Int32)), (0, .ref (h 0)), (1, .int v1), (2, .int v2), (4, .int v4), (5, .long v5), (7, .long v7), (9, .int v9), (10, .int v10)]) hx hb dX7_topOf_43 hl (by decide) rfl (fun ls hl => ?_)
          obtain ⟨n45, hw⟩ := hw
          exact b45  n45 v5 v7 v9 (-4 : Int32) ((S 0 2) - (1 : Int32)) _ _ _ (lv_sub hl [2, 3, 4, 5, 6, 7, 8, 1, 0] rfl) hP hS hw
  unfold kX7_topOf at hw
  refine lv_iload_n hx hb dX7_topOf_0 rfl (lv_at hl 3 rfl) ?_
  refine lv_i2l hx hb dX7_topOf_1 rfl ?_
  refine lv_aload_n hx hb dX7_topOf_2 rfl (lv_at hl 0 rfl) ?_
  refine va_get (D := D) (ci := 7) (v := .ref (h 10)) (C := RX7) (T := TX7) (N := 28) hx hb hts inX7 hown hK hP 0 wM_0 rfl 12 (by decide) f4 (fun _ h9 => h9) rfl dX7_topOf_3 ?_
  refine lv_iload_n hx hb dX7_topOf_6 rfl (lv_at hl 1 rfl) ?_
  obtain ⟨hi, hw⟩ := hw
  refine va_iald hx hb hK hP 10 0 wM_10 rfl hi dX7_topOf_7 ?_
  refine lv_i2l hx hb dX7_topOf_8 rfl ?_
  refine lv_lmul hx hb dX7_topOf_9 ?_
  refine lv_lstore (lv' := [(5, .long (v3.toInt64 * ((S 10 v1.toNatClampNeg).toInt64))), (0, .ref (h 0)), (1, .int v1), (2, .int v2), (3, .int v3), (4, .int v4)]) hx hb dX7_topOf_10 hl (by decide) rfl (fun ls hl => ?_)
  refine lv_lconst (v := (0 : Int64)) hx hb dX7_topOf_12 (by decide) ?_
  refine lv_lstore (lv' := [(7, .long (0 : Int64)), (5, .long (v3.toInt64 * ((S 10 v1.toNatClampNeg).toInt64))), (0, .ref (h 0)), (1, .int v1), (2, .int v2), (3, .int v3), (4, .int v4)]) hx hb dX7_topOf_13 hl (by decide) rfl (fun ls hl => ?_)
  refine lv_iconst (v := (0 : Int32)) hx hb dX7_topOf_15 (by decide) ?_
  refine lv_istore (lv' := [(9, .int (0 : Int32)), (7, .long (0 : Int64)), (5, .long (v3.toInt64 * ((S 10 v1.toNatClampNeg).toInt64))), (0, .ref (h 0)), (1, .int v1), (2, .int v2), (3, .int v3), (4, .int v4)]) hx hb dX7_topOf_16 hl (by decide) rfl (fun ls hl => ?_)
  refine lv_iconst (v := (1 : Int32)) hx hb dX7_topOf_18 (by decide) ?_
  refine lv_istore (lv' := [(10, .int (1 : Int32)), (9, .int (0 : Int32)), (7, .long (0 : Int64)), (5, .long (v3.toInt64 * ((S 10 v1.toNatClampNeg).toInt64))), (0, .ref (h 0)), (1, .int v1), (2, .int v2), (3, .int v3), (4, .int v4)]) hx hb dX7_topOf_19 hl (by decide) rfl (fun ls hl => ?_)
  obtain ⟨n21, hw⟩ := hw
  exact b21  n21 (v3.toInt64 * ((S 10 v1.toNatClampNeg).toInt64)) (0 : Int64) (0 : Int32) (1 : Int32) _ _ _ (lv_sub hl [4, 5, 6, 8, 3, 2, 1, 0] rfl) hP hS hw
abbrev rX7_partsOf : Room := { frames := 4, cells := 0, slots := 0, locals := 105 }
set_option maxHeartbeats 4000000 in
set_option maxRecDepth 100000 in
theorem mX7_partsOf (l : Launch) (D : va_G) (h : Nat → Nat) (cI cJ : ClassId) (hh : xdis 22 h) (S : SX) (L : LX) (v1 : Int32) (v2 : Int32) (v3 : Int32) (v4 : Int32) (post : Int32 → Prop) (hw : kX7_partsOf S L v1 v2 v3 v4 post) : Met l yX7_partsOf wsX7_partsOf rX7_partsOf (xPre D (wM h cI cJ) (mE D cI cJ) S L [.ref (h 0), .int v1, .int v2, .int v3, .int v4]) (va_Qi (fun (r : Int32) (u : SX × LX) => post r ∧ u.1 = S ∧ u.2 = L) (xB D (wM h cI cJ)) (xA 22 h)) 0 0 (xA 22 h) := by
  refine Met.ofW (cc := cX7_partsOf) (maxL := 7) (ret := (some .int)) (by decide) rfl ?_
  intro p e s m args below meth c s₁ B hml hv
  obtain ⟨hargs, hP, hE⟩ := hv
  have hx := B.exec
  have hb := B.bytes
  have hr := B.returns
  have hlocks := B.notSynchronized
  have hts := atoms_spec (ws := wsX7_partsOf) B.pre
  have hown : s.vm.findClass RX7 = some m.cls := findClass_of_methodNamed B.named
  have hS : va_S (xA 22 h) s.heap s.heap [] := va_S.rf
  have hD : ∀ (S : SX) (L : LX), va_D (xA 22 h) (wM h cI cJ S L) := fun S L => wM_D hh cI cJ S L
  have hK := id hE
  have hst : xSt (xA 22 h) (mE D cI cJ) := mE_st D _ cI cJ
  have f0 := hts (.constantLong RX7 200 (100000)) (by decide +kernel)
  have f1 := hts (.constantLong RX7 190 (10)) (by decide +kernel)
  have hl := lv_entry ([.ref (h 0), .int v1, .int v2, .int v3, .int v4]) (n := 7) (Nat.le_of_ble_eq_true rfl)
  have hen : entryFrame m args 7 = F0 m 0 ((lg_sl ([.ref (h 0), .int v1, .int v2, .int v3, .int v4]) ++ List.replicate (7 - (lg_sl ([.ref (h 0), .int v1, .int v2, .int v3, .int v4])).length) Slot.unset).toArray) [] := by rw [hargs]; exact lg_entry_eq m _ _
  rw [hen]
  generalize (lg_sl ([.ref (h 0), .int v1, .int v2, .int v3, .int v4]) ++ List.replicate (7 - (lg_sl ([.ref (h 0), .int v1, .int v2, .int v3, .int v4])).length) Slot.unset).toArray = ls at hl ⊢
  have hl : lv_has ls 7 [(0, .ref (h 0)), (1, .int v1), (2, .int v2), (3, .int v3), (4, .int v4)] := hl
  change W p l e rX7_partsOf s m args below meth c s.heap [] 0 0 (MQ below (va_Qi (fun (r : Int32) (u : SX × LX) => post r ∧ u.1 = S ∧ u.2 = L) (xB D (wM h cI cJ)) (xA 22 h)) args s 0 0 (xA 22 h)) (F0 m 0 ls [])
  have hret : ∀ (r : Int32) (H : Heap) (locs : List Loc) (ls : Array Slot) (pc : Nat), va_P D vwCl (wM h cI cJ S L) H → va_S (xA 22 h) s.heap H locs → post r → decode cX7_partsOf pc = .ok (.ireturn, 1) → W p l e rX7_partsOf s m args below meth c H locs 0 0 (MQ below (va_Qi (fun (r : Int32) (u : SX × LX) => post r ∧ u.1 = S ∧ u.2 = L) (xB D (wM h cI cJ)) (xA 22 h)) args s 0 0 (xA 22 h)) (F0 m pc ls [.int r]) := fun r H locs ls pc hP hS hw hd => W.iret hx hb hr (fun t ht hW => ⟨⟨r, (S, L), rfl, ⟨hw, rfl, rfl⟩, show va_P D vwCl (wM h cI cJ S L) t.heap by rw [ht]; exact hP⟩, hS.F ht⟩) hS.2.2 hd
  generalize MQ below (va_Qi (fun (r : Int32) (u : SX × LX) => post r ∧ u.1 = S ∧ u.2 = L) (xB D (wM h cI cJ)) (xA 22 h)) args s 0 0 (xA 22 h) = Q at hret ⊢
  unfold kX7_partsOf at hw
  refine lv_aload_n hx hb dX7_partsOf_0 rfl (lv_at hl 0 rfl) ?_
  refine lv_iload_n hx hb dX7_partsOf_1 rfl (lv_at hl 1 rfl) ?_
  refine lv_iload_n hx hb dX7_partsOf_2 rfl (lv_at hl 2 rfl) ?_
  refine lv_iload hx hb dX7_partsOf_3 (lv_at hl 4 rfl) ?_
  refine xVl0 (As := [.int v1, .int v2, .int v4]) (rest := []) hst hE hP hS ⟨hx, hb, hml, hown, hts⟩ (va_recv hK hP (ci := 7) (q := (RX7, TX7, 28)) rfl wM_0) (mX7_totalOf l D h cI cJ hh S L v1 v2 v4 _ hw) (cwV 3 hts gX7_partsOf_X7_totalOf rfl rfl rfl (by decide +kernel) ⟨Nat.le_of_ble_eq_true rfl, Nat.le_of_ble_eq_true rfl⟩) rfl hl.1 rfl (Nat.le_of_ble_eq_true rfl) dX7_partsOf_5 ⟨Nat.zero_le _, Nat.zero_le _⟩ (fun r5 H locs hw hP hS => ?_)
  refine lv_lstore (lv' := [(5, .long r5), (0, .ref (h 0)), (1, .int v1), (2, .int v2), (3, .int v3), (4, .int v4)]) hx hb dX7_partsOf_8 hl (by decide) rfl (fun ls hl => ?_)
  refine lv_lload hx hb dX7_partsOf_10 (lv_at hl 0 rfl) ?_
  refine lv_lconst (v := (0 : Int64)) hx hb dX7_partsOf_12 (by decide) ?_
  refine W.lcmp hx hb dX7_partsOf_13 ?_
  refine lv_if_ne (tgt := 21) hx hb dX7_partsOf_14 (by decide) (fun hc => ?_) (fun hc => ?_)
  · replace hw := And.right hw (fun q => hc ((lg_cmp_eq _ _).mpr q))
    refine lv_aload_n hx hb dX7_partsOf_21 rfl (lv_at hl 1 rfl) ?_
    refine lv_iload_n hx hb dX7_partsOf_22 rfl (lv_at hl 2 rfl) ?_
    refine lv_iload_n hx hb dX7_partsOf_23 rfl (lv_at hl 3 rfl) ?_
    refine lv_iload_n hx hb dX7_partsOf_24 rfl (lv_at hl 4 rfl) ?_
    refine lv_iload hx hb dX7_partsOf_25 (lv_at hl 5 rfl) ?_
    refine xVl0 (As := [.int v1, .int v2, .int v3, .int v4]) (rest := []) hst hE hP hS ⟨hx, hb, hml, hown, hts⟩ (va_recv hK hP (ci := 7) (q := (RX7, TX7, 28)) rfl wM_0) (mX7_topOf l D h cI cJ hh S L v1 v2 v3 v4 _ hw) (cwV 4 hts gX7_partsOf_X7_topOf rfl rfl rfl (by decide +kernel) ⟨Nat.le_of_ble_eq_true rfl, Nat.le_of_ble_eq_true rfl⟩) rfl hl.1 rfl (Nat.le_of_ble_eq_true rfl) dX7_partsOf_27 ⟨Nat.zero_le _, Nat.zero_le _⟩ (fun r27 H locs hw hP hS => ?_)
    refine lv_ldc2 (v := (100000 : Int64)) hx hb hown (f0) dX7_partsOf_30 ?_
    refine lv_lmul hx hb dX7_partsOf_33 ?_
    refine lv_ldc2 (v := (10 : Int64)) hx hb hown (f1) dX7_partsOf_34 ?_
    refine lv_lload hx hb dX7_partsOf_37 (lv_at hl 0 rfl) ?_
    refine lv_lmul hx hb dX7_partsOf_39 ?_
    obtain ⟨hi, hw⟩ := hw
    refine lv_ldiv hx hb dX7_partsOf_40 hi ?_
    refine lv_l2i hx hb dX7_partsOf_41 rfl ?_
    exact hret _ _ _ _ _ hP hS hw dX7_partsOf_42
  · replace hw := And.left hw ((lg_cmp_eq _ _).mp hc)
    refine lv_iconst (v := (0 : Int32)) hx hb dX7_partsOf_17 (by decide) ?_
    refine lv_goto (tgt := 42) hx hb dX7_partsOf_18 (by decide) ?_
    exact hret _ _ _ _ _ hP hS hw dX7_partsOf_42
abbrev rX7_unseen : Room := { frames := 3, cells := 0, slots := 0, locals := 72 }
set_option maxHeartbeats 4000000 in
set_option maxRecDepth 100000 in
theorem mX7_unseen (l : Launch) (D : va_G) (h : Nat → Nat) (cI cJ : ClassId) (hh : xdis 22 h) (S : SX) (L : LX) (v1 : Int32) (post : Int64 → Prop) (hw : kX7_unseen S L v1 post) : Met l yX7_unseen wsX7_unseen rX7_unseen (xPre D (wM h cI cJ) (mE D cI cJ) S L [.ref (h 0), .int v1]) (va_Ql (fun (r : Int64) (u : SX × LX) => post r ∧ u.1 = S ∧ u.2 = L) (xB D (wM h cI cJ)) (xA 22 h)) 0 0 (xA 22 h) := by
  refine Met.ofW (cc := cX7_unseen) (maxL := 8) (ret := (some .long)) (by decide) rfl ?_
  intro p e s m args below meth c s₁ B hml hv
  obtain ⟨hargs, hP, hE⟩ := hv
  have hx := B.exec
  have hb := B.bytes
  have hr := B.returns
  have hlocks := B.notSynchronized
  have hts := atoms_spec (ws := wsX7_unseen) B.pre
  have hown : s.vm.findClass RX7 = some m.cls := findClass_of_methodNamed B.named
  have hS : va_S (xA 22 h) s.heap s.heap [] := va_S.rf
  have hD : ∀ (S : SX) (L : LX), va_D (xA 22 h) (wM h cI cJ S L) := fun S L => wM_D hh cI cJ S L
  have hK := id hE
  have hst : xSt (xA 22 h) (mE D cI cJ) := mE_st D _ cI cJ
  have f0 := hts (.fieldLink RX7 18 "BookOfWillsModel" "yearOf" "[I") (by decide +kernel)
  have inX7 : ∀ w ∈ u_ws RX7 TX7 28, w ∈ wsX7_unseen := fun w hw9 => List.mem_cons_of_mem _ (List.mem_append_right _ hw9)
  have f2 := hts (.fieldLink RX7 7 "BookOfWillsModel" "lives" "[I") (by decide +kernel)
  have f3 := hts (.fieldLink RX7 21 "BookOfWillsModel" "ageOf" "[I") (by decide +kernel)
  have f4 := hts (.fieldLink RX7 27 "BookOfWillsModel" "own" "[I") (by decide +kernel)
  have f5 := hts (.fieldLink RX7 87 "BookOfWillsModel" "wills" "I") (by decide +kernel)
  have hl := lv_entry ([.ref (h 0), .int v1]) (n := 8) (Nat.le_of_ble_eq_true rfl)
  have hen : entryFrame m args 8 = F0 m 0 ((lg_sl ([.ref (h 0), .int v1]) ++ List.replicate (8 - (lg_sl ([.ref (h 0), .int v1])).length) Slot.unset).toArray) [] := by rw [hargs]; exact lg_entry_eq m _ _
  rw [hen]
  generalize (lg_sl ([.ref (h 0), .int v1]) ++ List.replicate (8 - (lg_sl ([.ref (h 0), .int v1])).length) Slot.unset).toArray = ls at hl ⊢
  have hl : lv_has ls 8 [(0, .ref (h 0)), (1, .int v1)] := hl
  change W p l e rX7_unseen s m args below meth c s.heap [] 0 0 (MQ below (va_Ql (fun (r : Int64) (u : SX × LX) => post r ∧ u.1 = S ∧ u.2 = L) (xB D (wM h cI cJ)) (xA 22 h)) args s 0 0 (xA 22 h)) (F0 m 0 ls [])
  have hret : ∀ (r : Int64) (H : Heap) (locs : List Loc) (ls : Array Slot) (pc : Nat), va_P D vwCl (wM h cI cJ S L) H → va_S (xA 22 h) s.heap H locs → post r → decode cX7_unseen pc = .ok (.lreturn, 1) → W p l e rX7_unseen s m args below meth c H locs 0 0 (MQ below (va_Ql (fun (r : Int64) (u : SX × LX) => post r ∧ u.1 = S ∧ u.2 = L) (xB D (wM h cI cJ)) (xA 22 h)) args s 0 0 (xA 22 h)) (F0 m pc ls [.long r]) := fun r H locs ls pc hP hS hw hd => W.lret hx hb hr (fun t ht hW => ⟨⟨r, (S, L), rfl, ⟨hw, rfl, rfl⟩, show va_P D vwCl (wM h cI cJ S L) t.heap by rw [ht]; exact hP⟩, hS.F ht⟩) hS.2.2 hd
  generalize MQ below (va_Ql (fun (r : Int64) (u : SX × LX) => post r ∧ u.1 = S ∧ u.2 = L) (xB D (wM h cI cJ)) (xA 22 h)) args s 0 0 (xA 22 h) = Q at hret ⊢
  have b5 : ∀  (n5 : Nat) (v2 : Int64) (v4 : Int32) (H : Heap) (locs : List Loc) (ls : Array Slot), lv_has ls 8 [(0, .ref (h 0)), (1, .int v1), (2, .long v2), (4, .int v4)] → va_P D vwCl (wM h cI cJ S L) H → va_S (xA 22 h) s.heap H locs → kX7_unseen_b5 S L v1 post n5 v2 v4 → W p l e rX7_unseen s m args below meth c H locs 0 0 Q (F0 m 5 ls []) := by
    intro n5
    induction n5 with
    | zero => intro v2 v4 H locs ls hl hP hS hw; exact absurd hw id
    | succ n5 i5 =>
      have b20 : ∀  (n20 : Nat) (v2 : Int64) (v4 : Int32) (v5 : Int64) (v7 : Int32) (H : Heap) (locs : List Loc) (ls : Array Slot), lv_has ls 8 [(0, .ref (h 0)), (1, .int v1), (2, .long v2), (4, .int v4), (5, .long v5), (7, .int v7)] → va_P D vwCl (wM h cI cJ S L) H → va_S (xA 22 h) s.heap H locs → kX7_unseen_b20 S L v1 post (kX7_unseen_b5 S L v1 post n5) n20 v2 v4 v5 v7 → W p l e rX7_unseen s m args below meth c H locs 0 0 Q (F0 m 20 ls []) := by
        intro n20
        induction n20 with
        | zero => intro v2 v4 v5 v7 H locs ls hl hP hS hw; exact absurd hw id
        | succ n20 i20 =>
          have b85 : ∀ (v2 : Int64) (v4 : Int32) (v5 : Int64) (z0 : Int32) (H : Heap) (locs : List Loc) (ls : Array Slot), lv_has ls 8 [(0, .ref (h 0)), (1, .int v1), (2, .long v2), (4, .int v4), (5, .long v5)] → va_P D vwCl (wM h cI cJ S L) H → va_S (xA 22 h) s.heap H locs → kX7_unseen_b85 S L v1 post (kX7_unseen_b5 S L v1 post n5) v2 v4 v5 z0 → W p l e rX7_unseen s m args below meth c H locs 0 0 Q (F0 m 85 ls [.int z0]) := by
            intro v2 v4 v5 z0 H locs ls hl hP hS hw
            unfold kX7_unseen_b85 at hw
            refine lv_istore (lv' := [(7, .int z0), (0, .ref (h 0)), (1, .int v1), (2, .long v2), (4, .int v4), (5, .long v5)]) hx hb dX7_unseen_85 hl (by decide) rfl (fun ls hl => ?_)
            refine lv_lload_n hx hb dX7_unseen_87 rfl (lv_at hl 3 rfl) ?_
            refine lv_aload_n hx hb dX7_unseen_88 rfl (lv_at hl 1 rfl) ?_
            refine va_get (D := D) (ci := 7) (v := .ref (h 2)) (C := RX7) (T := TX7) (N := 28) hx hb hts inX7 hown hK hP 0 wM_0 rfl 4 (by decide) f0 (fun _ h9 => h9) rfl dX7_unseen_89 ?_
            refine lv_iload hx hb dX7_unseen_92 (lv_at hl 4 rfl) ?_
            obtain ⟨hi, hw⟩ := hw
            refine va_iald hx hb hK hP 2 0 wM_2 rfl hi dX7_unseen_94 ?_
            refine lv_iload_n hx hb dX7_unseen_95 rfl (lv_at hl 2 rfl) ?_
            refine lv_icmp_ne (tgt := 117) hx hb dX7_unseen_96 (by decide) (fun hc => ?_) (fun hc => ?_)
            · replace hw := And.right hw hc
              refine lv_lconst (v := (0 : Int64)) hx hb dX7_unseen_117 (by decide) ?_
              refine lv_ladd hx hb dX7_unseen_118 ?_
              refine lv_lstore_n (lv' := [(2, .long (v2 + (0 : Int64))), (7, .int z0), (0, .ref (h 0)), (1, .int v1), (4, .int v4), (5, .long v5)]) hx hb dX7_unseen_119 rfl hl (by decide) rfl (fun ls hl => ?_)
              refine lv_iinc (v := v4 + (1 : Int32)) (lv' := [(4, .int (v4 + (1 : Int32))), (2, .long (v2 + (0 : Int64))), (7, .int z0), (0, .ref (h 0)), (1, .int v1), (5, .long v5)]) hx hb dX7_unseen_120 hl (k := 4) rfl rfl (by decide) rfl (fun ls hl => ?_)
              refine lv_goto (tgt := 5) hx hb dX7_unseen_123 (by decide) ?_
              exact i5 (v2 + (0 : Int64)) (v4 + (1 : Int32)) _ _ _ (lv_sub hl [3, 4, 1, 0] rfl) hP hS hw
            · replace hw := And.left hw hc
              refine lv_lload hx hb dX7_unseen_99 (lv_at hl 5 rfl) ?_
              refine lv_aload_n hx hb dX7_unseen_101 rfl (lv_at hl 1 rfl) ?_
              refine lv_iload hx hb dX7_unseen_102 (lv_at hl 4 rfl) ?_
              refine lv_iload_n hx hb dX7_unseen_104 rfl (lv_at hl 2 rfl) ?_
              refine xVi0 (As := [.int v4, .int v1]) (rest := [.long v5, .long v2]) hst hE hP hS ⟨hx, hb, hml, hown, hts⟩ (va_recv hK hP (ci := 7) (q := (RX7, TX7, 28)) rfl wM_0) (mX7_sworn l D h cI cJ hh S L v4 v1 _ hw) (cwV 2 hts gX7_unseen_X7_sworn rfl rfl rfl (by decide +kernel) ⟨Nat.le_of_ble_eq_true rfl, Nat.le_of_ble_eq_true rfl⟩) rfl hl.1 rfl (Nat.le_of_ble_eq_true rfl) dX7_unseen_105 ⟨Nat.zero_le _, Nat.zero_le _⟩ (fun r105 H locs hw hP hS => ?_)
              refine lv_i2l hx hb dX7_unseen_108 rfl ?_
              refine lv_lsub hx hb dX7_unseen_109 ?_
              refine lv_iload hx hb dX7_unseen_110 (lv_at hl 0 rfl) ?_
              refine lv_i2l hx hb dX7_unseen_112 rfl ?_
              refine lv_lmul hx hb dX7_unseen_113 ?_
              refine lv_goto (tgt := 118) hx hb dX7_unseen_114 (by decide) ?_
              refine lv_ladd hx hb dX7_unseen_118 ?_
              refine lv_lstore_n (lv' := [(2, .long (v2 + ((v5 - r105.toInt64) * z0.toInt64))), (7, .int z0), (0, .ref (h 0)), (1, .int v1), (4, .int v4), (5, .long v5)]) hx hb dX7_unseen_119 rfl hl (by decide) rfl (fun ls hl => ?_)
              refine lv_iinc (v := v4 + (1 : Int32)) (lv' := [(4, .int (v4 + (1 : Int32))), (2, .long (v2 + ((v5 - r105.toInt64) * z0.toInt64))), (7, .int z0), (0, .ref (h 0)), (1, .int v1), (5, .long v5)]) hx hb dX7_unseen_120 hl (k := 4) rfl rfl (by decide) rfl (fun ls hl => ?_)
              refine lv_goto (tgt := 5) hx hb dX7_unseen_123 (by decide) ?_
              exact i5 (v2 + ((v5 - r105.toInt64) * z0.toInt64)) (v4 + (1 : Int32)) _ _ _ (lv_sub hl [3, 4, 1, 0] rfl) hP hS hw
          intro v2 v4 v5 v7 H locs ls hl hP hS hw
          unfold kX7_unseen_b20 at hw
          refine lv_iload hx hb dX7_unseen_20 (lv_at hl 5 rfl) ?_
          refine lv_iconst (v := (4 : Int32)) hx hb dX7_unseen_22 (by decide) ?_
          refine lv_icmp_ge (tgt := 50) hx hb dX7_unseen_23 (by decide) (fun hc => ?_) (fun hc => ?_)
          · replace hw := And.left hw hc
            refine lv_aload_n hx hb dX7_unseen_50 rfl (lv_at hl 0 rfl) ?_
            refine lv_iload hx hb dX7_unseen_51 (lv_at hl 3 rfl) ?_
            refine lv_iload_n hx hb dX7_unseen_53 rfl (lv_at hl 1 rfl) ?_
            refine xVi0 (As := [.int v4, .int v1]) (rest := []) hst hE hP hS ⟨hx, hb, hml, hown, hts⟩ (va_recv hK hP (ci := 7) (q := (RX7, TX7, 28)) rfl wM_0) (mX7_isBooked l D h cI cJ hh S L v4 v1 _ hw) (cwV 2 hts gX7_unseen_X7_isBooked rfl rfl rfl (by decide +kernel) ⟨Nat.le_of_ble_eq_true rfl, Nat.le_of_ble_eq_true rfl⟩) rfl hl.1 rfl (Nat.le_of_ble_eq_true rfl) dX7_unseen_54 ⟨Nat.zero_le _, Nat.zero_le _⟩ (fun r54 H locs hw hP hS => ?_)
            refine lv_if_eq (tgt := 70) hx hb dX7_unseen_57 (by decide) (fun hc => ?_) (fun hc => ?_)
            · replace hw := And.left hw hc
              refine lv_bipush (v := (100 : Int32)) hx hb dX7_unseen_70 (by decide) ?_
              refine lv_aload_n hx hb dX7_unseen_72 rfl (lv_at hl 0 rfl) ?_
              refine va_get (D := D) (ci := 7) (v := .ref (h 1)) (C := RX7) (T := TX7) (N := 28) hx hb hts inX7 hown hK hP 0 wM_0 rfl 0 (by decide) f2 (fun _ h9 => h9) rfl dX7_unseen_73 ?_
              refine lv_aload_n hx hb dX7_unseen_76 rfl (lv_at hl 0 rfl) ?_
              refine va_get (D := D) (ci := 7) (v := .ref (h 3)) (C := RX7) (T := TX7) (N := 28) hx hb hts inX7 hown hK hP 0 wM_0 rfl 5 (by decide) f3 (fun _ h9 => h9) rfl dX7_unseen_77 ?_
              refine lv_iload hx hb dX7_unseen_80 (lv_at hl 3 rfl) ?_
              obtain ⟨hi, hw⟩ := hw
              refine va_iald hx hb hK hP 3 0 wM_3 rfl hi dX7_unseen_82 ?_
              obtain ⟨hi, hw⟩ := hw
              refine va_iald hx hb hK hP 1 0 wM_1 rfl hi dX7_unseen_83 ?_
              refine lv_imul hx hb dX7_unseen_84 ?_
              exact b85 v2 v4 v5 ((100 : Int32) * (S 1 (S 3 v4.toNatClampNeg).toNatClampNeg)) _ _ _ (lv_sub hl [0, 1, 2, 3, 4] rfl) hP hS hw
            · replace hw := And.right hw hc
              refine lv_aload_n hx hb dX7_unseen_60 rfl (lv_at hl 0 rfl) ?_
              refine lv_iload hx hb dX7_unseen_61 (lv_at hl 3 rfl) ?_
              refine lv_iload_n hx hb dX7_unseen_63 rfl (lv_at hl 1 rfl) ?_
              refine xVi0 (As := [.int v4, .int v1]) (rest := []) hst hE hP hS ⟨hx, hb, hml, hown, hts⟩ (va_recv hK hP (ci := 7) (q := (RX7, TX7, 28)) rfl wM_0) (mX7_weight l D h cI cJ hh S L v4 v1 _ hw) (cwV 2 hts gX7_unseen_X7_weight rfl rfl rfl (by decide +kernel) ⟨Nat.le_of_ble_eq_true rfl, Nat.le_of_ble_eq_true rfl⟩) rfl hl.1 rfl (Nat.le_of_ble_eq_true rfl) dX7_unseen_64 ⟨Nat.zero_le _, Nat.zero_le _⟩ (fun r64 H locs hw hP hS => ?_)
              refine lv_goto (tgt := 85) hx hb dX7_unseen_67 (by decide) ?_
              exact b85 v2 v4 v5 r64 _ _ _ (lv_sub hl [0, 1, 2, 3, 4] rfl) hP hS hw
          · replace hw := And.right hw hc
            refine lv_lload hx hb dX7_unseen_26 (lv_at hl 4 rfl) ?_
            refine lv_aload_n hx hb dX7_unseen_28 rfl (lv_at hl 0 rfl) ?_
            refine va_get (D := D) (ci := 7) (v := .ref (h 5)) (C := RX7) (T := TX7) (N := 28) hx hb hts inX7 hown hK hP 0 wM_0 rfl 7 (by decide) f4 (fun _ h9 => h9) rfl dX7_unseen_29 ?_
            refine lv_iconst (v := (4 : Int32)) hx hb dX7_unseen_32 (by decide) ?_
            refine lv_iload hx hb dX7_unseen_33 (lv_at hl 3 rfl) ?_
            refine lv_imul hx hb dX7_unseen_35 ?_
            refine lv_iload hx hb dX7_unseen_36 (lv_at hl 5 rfl) ?_
            refine lv_iadd hx hb dX7_unseen_38 ?_
            obtain ⟨hi, hw⟩ := hw
            refine va_iald hx hb hK hP 5 0 wM_5 rfl hi dX7_unseen_39 ?_
            refine lv_i2l hx hb dX7_unseen_40 rfl ?_
            refine lv_ladd hx hb dX7_unseen_41 ?_
            refine lv_lstore (lv' := [(5, .long (v5 + ((S 5 (((4 : Int32) * v4) + v7).toNatClampNeg).toInt64))), (0, .ref (h 0)), (1, .int v1), (2, .long v2), (4, .int v4), (7, .int v7)]) hx hb dX7_unseen_42 hl (by decide) rfl (fun ls hl => ?_)
            refine lv_iinc (v := v7 + (1 : Int32)) (lv' := [(7, .int (v7 + (1 : Int32))), (5, .long (v5 + ((S 5 (((4 : Int32) * v4) + v7).toNatClampNeg).toInt64))), (0, .ref (h 0)), (1, .int v1), (2, .long v2), (4, .int v4)]) hx hb dX7_unseen_44 hl (k := 5) rfl rfl (by decide) rfl (fun ls hl => ?_)
            refine lv_goto (tgt := 20) hx hb dX7_unseen_47 (by decide) ?_
            exact i20 v2 v4 (v5 + ((S 5 (((4 : Int32) * v4) + v7).toNatClampNeg).toInt64)) (v7 + (1 : Int32)) _ _ _ (lv_sub hl [2, 3, 4, 5, 1, 0] rfl) hP hS hw
      intro v2 v4 H locs ls hl hP hS hw
      unfold kX7_unseen_b5 at hw
      refine lv_iload hx hb dX7_unseen_5 (lv_at hl 3 rfl) ?_
      refine lv_aload_n hx hb dX7_unseen_7 rfl (lv_at hl 0 rfl) ?_
      refine va_get (D := D) (ci := 7) (v := .int (S 0 2)) (C := RX7) (T := TX7) (N := 28) hx hb hts inX7 hown hK hP 0 wM_0 rfl 3 (by decide) f5 (fun _ h9 => h9) rfl dX7_unseen_8 ?_
      refine lv_icmp_ge (tgt := 126) hx hb dX7_unseen_11 (by decide) (fun hc => ?_) (fun hc => ?_)
      · replace hw := And.left hw hc
        refine lv_lload_n hx hb dX7_unseen_126 rfl (lv_at hl 2 rfl) ?_
        exact hret _ _ _ _ _ hP hS hw dX7_unseen_127
      · replace hw := And.right hw hc
        refine lv_lconst (v := (0 : Int64)) hx hb dX7_unseen_14 (by decide) ?_
        refine lv_lstore (lv' := [(5, .long (0 : Int64)), (0, .ref (h 0)), (1, .int v1), (2, .long v2), (4, .int v4)]) hx hb dX7_unseen_15 hl (by decide) rfl (fun ls hl => ?_)
        refine lv_iconst (v := (0 : Int32)) hx hb dX7_unseen_17 (by decide) ?_
        refine lv_istore (lv' := [(7, .int (0 : Int32)), (5, .long (0 : Int64)), (0, .ref (h 0)), (1, .int v1), (2, .long v2), (4, .int v4)]) hx hb dX7_unseen_18 hl (by decide) rfl (fun ls hl => ?_)
        obtain ⟨n20, hw⟩ := hw
        exact b20  n20 v2 v4 (0 : Int64) (0 : Int32) _ _ _ (lv_sub hl [2, 3, 4, 5, 1, 0] rfl) hP hS hw
  unfold kX7_unseen at hw
  refine lv_lconst (v := (0 : Int64)) hx hb dX7_unseen_0 (by decide) ?_
  refine lv_lstore_n (lv' := [(2, .long (0 : Int64)), (0, .ref (h 0)), (1, .int v1)]) hx hb dX7_unseen_1 rfl hl (by decide) rfl (fun ls hl => ?_)
  refine lv_iconst (v := (0 : Int32)) hx hb dX7_unseen_2 (by decide) ?_
  refine lv_istore (lv' := [(4, .int (0 : Int32)), (2, .long (0 : Int64)), (0, .ref (h 0)), (1, .int v1)]) hx hb dX7_unseen_3 hl (by decide) rfl (fun ls hl => ?_)
  obtain ⟨n5, hw⟩ := hw
  exact b5  n5 (0 : Int64) (0 : Int32) _ _ _ (lv_sub hl [2, 3, 1, 0] rfl) hP hS hw
abbrev rX7_count : Room := { frames := 4, cells := 0, slots := 0, locals := 98 }
set_option maxHeartbeats 4000000 in
set_option maxRecDepth 100000 in
theorem mX7_count (l : Launch) (D : va_G) (h : Nat → Nat) (cI cJ : ClassId) (hh : xdis 22 h) (S : SX) (L : LX) (v1 : Int32) (post : Int32 → Prop) (hw : kX7_count S L v1 post) : Met l yX7_count wsX7_count rX7_count (xPre D (wM h cI cJ) (mE D cI cJ) S L [.ref (h 0), .int v1]) (va_Qi (fun (r : Int32) (u : SX × LX) => post r ∧ u.1 = S ∧ u.2 = L) (xB D (wM h cI cJ)) (xA 22 h)) 0 0 (xA 22 h) := by
  refine Met.ofW (cc := cX7_count) (maxL := 4) (ret := (some .int)) (by decide) rfl ?_
  intro p e s m args below meth c s₁ B hml hv
  obtain ⟨hargs, hP, hE⟩ := hv
  have hx := B.exec
  have hb := B.bytes
  have hr := B.returns
  have hlocks := B.notSynchronized
  have hts := atoms_spec (ws := wsX7_count) B.pre
  have hown : s.vm.findClass RX7 = some m.cls := findClass_of_methodNamed B.named
  have hS : va_S (xA 22 h) s.heap s.heap [] := va_S.rf
  have hD : ∀ (S : SX) (L : LX), va_D (xA 22 h) (wM h cI cJ S L) := fun S L => wM_D hh cI cJ S L
  have hK := id hE
  have hst : xSt (xA 22 h) (mE D cI cJ) := mE_st D _ cI cJ
  have f0 := hts (.fieldLink RX7 52 "BookOfWillsModel" "counted" "[J") (by decide +kernel)
  have inX7 : ∀ w ∈ u_ws RX7 TX7 28, w ∈ wsX7_count := fun w hw9 => List.mem_cons_of_mem _ (List.mem_append_right _ hw9)
  have f2 := hts (.constantLong RX7 90 (5)) (by decide +kernel)
  have f3 := hts (.fieldLink RX7 87 "BookOfWillsModel" "wills" "I") (by decide +kernel)
  have hl := lv_entry ([.ref (h 0), .int v1]) (n := 4) (Nat.le_of_ble_eq_true rfl)
  have hen : entryFrame m args 4 = F0 m 0 ((lg_sl ([.ref (h 0), .int v1]) ++ List.replicate (4 - (lg_sl ([.ref (h 0), .int v1])).length) Slot.unset).toArray) [] := by rw [hargs]; exact lg_entry_eq m _ _
  rw [hen]
  generalize (lg_sl ([.ref (h 0), .int v1]) ++ List.replicate (4 - (lg_sl ([.ref (h 0), .int v1])).length) Slot.unset).toArray = ls at hl ⊢
  have hl : lv_has ls 4 [(0, .ref (h 0)), (1, .int v1)] := hl
  change W p l e rX7_count s m args below meth c s.heap [] 0 0 (MQ below (va_Qi (fun (r : Int32) (u : SX × LX) => post r ∧ u.1 = S ∧ u.2 = L) (xB D (wM h cI cJ)) (xA 22 h)) args s 0 0 (xA 22 h)) (F0 m 0 ls [])
  have hret : ∀ (r : Int32) (H : Heap) (locs : List Loc) (ls : Array Slot) (pc : Nat), va_P D vwCl (wM h cI cJ S L) H → va_S (xA 22 h) s.heap H locs → post r → decode cX7_count pc = .ok (.ireturn, 1) → W p l e rX7_count s m args below meth c H locs 0 0 (MQ below (va_Qi (fun (r : Int32) (u : SX × LX) => post r ∧ u.1 = S ∧ u.2 = L) (xB D (wM h cI cJ)) (xA 22 h)) args s 0 0 (xA 22 h)) (F0 m pc ls [.int r]) := fun r H locs ls pc hP hS hw hd => W.iret hx hb hr (fun t ht hW => ⟨⟨r, (S, L), rfl, ⟨hw, rfl, rfl⟩, show va_P D vwCl (wM h cI cJ S L) t.heap by rw [ht]; exact hP⟩, hS.F ht⟩) hS.2.2 hd
  generalize MQ below (va_Qi (fun (r : Int32) (u : SX × LX) => post r ∧ u.1 = S ∧ u.2 = L) (xB D (wM h cI cJ)) (xA 22 h)) args s 0 0 (xA 22 h) = Q at hret ⊢
  have b4 : ∀  (n4 : Nat) (v2 : Int32) (v3 : Int32) (H : Heap) (locs : List Loc) (ls : Array Slot), lv_has ls 4 [(0, .ref (h 0)), (1, .int v1), (2, .int v2), (3, .int v3)] → va_P D vwCl (wM h cI cJ S L) H → va_S (xA 22 h) s.heap H locs → kX7_count_b4 S L v1 post n4 v2 v3 → W p l e rX7_count s m args below meth c H locs 0 0 Q (F0 m 4 ls []) := by
    intro n4
    induction n4 with
    | zero => intro v2 v3 H locs ls hl hP hS hw; exact absurd hw id
    | succ n4 i4 =>
      have b46 : ∀  (n46 : Nat) (v2 : Int32) (v3 : Int32) (H : Heap) (locs : List Loc) (ls : Array Slot), lv_has ls 4 [(0, .ref (h 0)), (1, .int v1), (2, .int v2), (3, .int v3)] → va_P D vwCl (wM h cI cJ S L) H → va_S (xA 22 h) s.heap H locs → kX7_count_b46 S L v1 post n46 v2 v3 → W p l e rX7_count s m args below meth c H locs 0 0 Q (F0 m 46 ls []) := by
        intro n46
        induction n46 with
        | zero => intro v2 v3 H locs ls hl hP hS hw; exact absurd hw id
        | succ n46 i46 =>
          have b71 : ∀ (v3 : Int32) (z0 : Int32) (H : Heap) (locs : List Loc) (ls : Array Slot), lv_has ls 4 [(0, .ref (h 0)), (1, .int v1), (3, .int v3)] → va_P D vwCl (wM h cI cJ S L) H → va_S (xA 22 h) s.heap H locs → kX7_count_b71 S L v1 post (kX7_count_b46 S L v1 post n46) v3 z0 → W p l e rX7_count s m args below meth c H locs 0 0 Q (F0 m 71 ls [.int z0]) := by
            intro v3 z0 H locs ls hl hP hS hw
            unfold kX7_count_b71 at hw
            refine lv_iload_n hx hb dX7_count_71 rfl (lv_at hl 1 rfl) ?_
            refine lv_iconst (v := (5 : Int32)) hx hb dX7_count_72 (by decide) ?_
            refine lv_icmp_ne (tgt := 91) hx hb dX7_count_73 (by decide) (fun hc => ?_) (fun hc => ?_)
            · replace hw := And.right hw hc
              refine lv_iconst (v := (0 : Int32)) hx hb dX7_count_91 (by decide) ?_
              refine lv_iadd hx hb dX7_count_92 ?_
              refine lv_istore_n (lv' := [(2, .int (z0 + (0 : Int32))), (0, .ref (h 0)), (1, .int v1), (3, .int v3)]) hx hb dX7_count_93 rfl hl (by decide) rfl (fun ls hl => ?_)
              refine lv_iinc (v := v3 + (1 : Int32)) (lv' := [(3, .int (v3 + (1 : Int32))), (2, .int (z0 + (0 : Int32))), (0, .ref (h 0)), (1, .int v1)]) hx hb dX7_count_94 hl (k := 3) rfl rfl (by decide) rfl (fun ls hl => ?_)
              refine lv_goto (tgt := 46) hx hb dX7_count_97 (by decide) ?_
              exact i46 (z0 + (0 : Int32)) (v3 + (1 : Int32)) _ _ _ (lv_sub hl [2, 3, 1, 0] rfl) hP hS hw
            · replace hw := And.left hw hc
              refine lv_aload_n hx hb dX7_count_76 rfl (lv_at hl 0 rfl) ?_
              refine va_get (D := D) (ci := 7) (v := .ref (h 13)) (C := RX7) (T := TX7) (N := 28) hx hb hts inX7 hown hK hP 0 wM_0 rfl 15 (by decide) f0 (fun _ h9 => h9) rfl dX7_count_77 ?_
              refine lv_iload_n hx hb dX7_count_80 rfl (lv_at hl 2 rfl) ?_
              obtain ⟨hi, hw⟩ := hw
              refine va_lald hx hb hK hP 13 1 wM_13 rfl hi dX7_count_81 ?_
              refine lv_lconst (v := (0 : Int64)) hx hb dX7_count_82 (by decide) ?_
              refine W.lcmp hx hb dX7_count_83 ?_
              refine lv_if_lt (tgt := 91) hx hb dX7_count_84 (by decide) (fun hc => ?_) (fun hc => ?_)
              · replace hw := And.left hw ((lg_cmp_lt _ _).mp hc)
                refine lv_iconst (v := (0 : Int32)) hx hb dX7_count_91 (by decide) ?_
                refine lv_iadd hx hb dX7_count_92 ?_
                refine lv_istore_n (lv' := [(2, .int (z0 + (0 : Int32))), (0, .ref (h 0)), (1, .int v1), (3, .int v3)]) hx hb dX7_count_93 rfl hl (by decide) rfl (fun ls hl => ?_)
                refine lv_iinc (v := v3 + (1 : Int32)) (lv' := [(3, .int (v3 + (1 : Int32))), (2, .int (z0 + (0 : Int32))), (0, .ref (h 0)), (1, .int v1)]) hx hb dX7_count_94 hl (k := 3) rfl rfl (by decide) rfl (fun ls hl => ?_)
                refine lv_goto (tgt := 46) hx hb dX7_count_97 (by decide) ?_
                exact i46 (z0 + (0 : Int32)) (v3 + (1 : Int32)) _ _ _ (lv_sub hl [2, 3, 1, 0] rfl) hP hS hw
              · replace hw := And.right hw (fun q => hc ((lg_cmp_lt _ _).mpr q))
                refine lv_iconst (v := (1 : Int32)) hx hb dX7_count_87 (by decide) ?_
                refine lv_goto (tgt := 92) hx hb dX7_count_88 (by decide) ?_
                refine lv_iadd hx hb dX7_count_92 ?_
                refine lv_istore_n (lv' := [(2, .int (z0 + (1 : Int32))), (0, .ref (h 0)), (1, .int v1), (3, .int v3)]) hx hb dX7_count_93 rfl hl (by decide) rfl (fun ls hl => ?_)
                refine lv_iinc (v := v3 + (1 : Int32)) (lv' := [(3, .int (v3 + (1 : Int32))), (2, .int (z0 + (1 : Int32))), (0, .ref (h 0)), (1, .int v1)]) hx hb dX7_count_94 hl (k := 3) rfl rfl (by decide) rfl (fun ls hl => ?_)
                refine lv_goto (tgt := 46) hx hb dX7_count_97 (by decide) ?_
                exact i46 (z0 + (1 : Int32)) (v3 + (1 : Int32)) _ _ _ (lv_sub hl [2, 3, 1, 0] rfl) hP hS hw
          intro v2 v3 H locs ls hl hP hS hw
          unfold kX7_count_b46 at hw
          refine lv_iload_n hx hb dX7_count_46 rfl (lv_at hl 3 rfl) ?_
          refine lv_bipush (v := (8 : Int32)) hx hb dX7_count_47 (by decide) ?_
          refine lv_icmp_ge (tgt := 100) hx hb dX7_count_49 (by decide) (fun hc => ?_) (fun hc => ?_)
          · replace hw := And.left hw hc
            refine lv_iload_n hx hb dX7_count_100 rfl (lv_at hl 1 rfl) ?_
            refine lv_i2l hx hb dX7_count_101 rfl ?_
            refine lv_lconst (v := (0 : Int64)) hx hb dX7_count_102 (by decide) ?_
            refine lv_ldc2 (v := (5 : Int64)) hx hb hown (f2) dX7_count_103 ?_
            refine xSi0 (As := [.long v1.toInt64, .long (0 : Int64), .long (5 : Int64)]) (rest := []) hst hE hP hS ⟨hx, hb, hml, hown, hts⟩ (mX7_in l D h cI cJ hh S L v1.toInt64 (0 : Int64) (5 : Int64) _ hw) (va_cwS 3 hts gX7_count_X7_in rfl rfl rfl (by decide +kernel) ⟨Nat.le_of_ble_eq_true rfl, Nat.le_of_ble_eq_true rfl⟩) rfl hl.1 rfl (Nat.le_of_ble_eq_true rfl) dX7_count_106 ⟨Nat.zero_le _, Nat.zero_le _⟩ (fun r106 H locs hw hP hS => ?_)
            refine lv_if_ne (tgt := 116) hx hb dX7_count_109 (by decide) (fun hc => ?_) (fun hc => ?_)
            · replace hw := And.right hw hc
              refine lv_iload_n hx hb dX7_count_116 rfl (lv_at hl 1 rfl) ?_
              refine lv_if_ne (tgt := 127) hx hb dX7_count_117 (by decide) (fun hc => ?_) (fun hc => ?_)
              · replace hw := And.right hw hc
                refine lv_iload_n hx hb dX7_count_127 rfl (lv_at hl 2 rfl) ?_
                exact hret _ _ _ _ _ hP hS hw dX7_count_128
              · replace hw := And.left hw hc
                refine lv_aload_n hx hb dX7_count_120 rfl (lv_at hl 0 rfl) ?_
                refine va_get (D := D) (ci := 7) (v := .int (S 0 2)) (C := RX7) (T := TX7) (N := 28) hx hb hts inX7 hown hK hP 0 wM_0 rfl 3 (by decide) f3 (fun _ h9 => h9) rfl dX7_count_121 ?_
                refine lv_goto (tgt := 128) hx hb dX7_count_124 (by decide) ?_
                exact hret _ _ _ _ _ hP hS hw dX7_count_128
            · replace hw := And.left hw hc
              refine lv_iconst (v := (-1 : Int32)) hx hb dX7_count_112 (by decide) ?_
              refine lv_goto (tgt := 128) hx hb dX7_count_113 (by decide) ?_
              exact hret _ _ _ _ _ hP hS hw dX7_count_128
          · replace hw := And.right hw hc
            refine lv_iload_n hx hb dX7_count_52 rfl (lv_at hl 2 rfl) ?_
            refine lv_iload_n hx hb dX7_count_53 rfl (lv_at hl 1 rfl) ?_
            refine lv_iconst (v := (4 : Int32)) hx hb dX7_count_54 (by decide) ?_
            refine lv_icmp_ne (tgt := 71) hx hb dX7_count_55 (by decide) (fun hc => ?_) (fun hc => ?_)
            · replace hw := And.right hw hc
              exact b71 v3 v2 _ _ _ (lv_sub hl [0, 1, 3] rfl) hP hS hw
            · replace hw := And.left hw hc
              refine lv_aload_n hx hb dX7_count_58 rfl (lv_at hl 0 rfl) ?_
              refine lv_iload_n hx hb dX7_count_59 rfl (lv_at hl 3 rfl) ?_
              refine lv_iload_n hx hb dX7_count_60 rfl (lv_at hl 3 rfl) ?_
              refine lv_bipush (v := (-4 : Int32)) hx hb dX7_count_61 (by decide) ?_
              refine xVl0 (As := [.int v3, .int v3, .int (-4 : Int32)]) (rest := [.int v2]) hst hE hP hS ⟨hx, hb, hml, hown, hts⟩ (va_recv hK hP (ci := 7) (q := (RX7, TX7, 28)) rfl wM_0) (mX7_totalOf l D h cI cJ hh S L v3 v3 (-4 : Int32) _ hw) (cwV 3 hts gX7_count_X7_totalOf rfl rfl rfl (by decide +kernel) ⟨Nat.le_of_ble_eq_true rfl, Nat.le_of_ble_eq_true rfl⟩) rfl hl.1 rfl (Nat.le_of_ble_eq_true rfl) dX7_count_63 ⟨Nat.zero_le _, Nat.zero_le _⟩ (fun r63 H locs hw hP hS => ?_)
              refine lv_lconst (v := (0 : Int64)) hx hb dX7_count_66 (by decide) ?_
              refine W.lcmp hx hb dX7_count_67 ?_
              refine lv_if_gt (tgt := 87) hx hb dX7_count_68 (by decide) (fun hc => ?_) (fun hc => ?_)
              · replace hw := And.left hw ((lg_cmp_gt _ _).mp hc)
                refine lv_iconst (v := (1 : Int32)) hx hb dX7_count_87 (by decide) ?_
                refine lv_goto (tgt := 92) hx hb dX7_count_88 (by decide) ?_
                refine lv_iadd hx hb dX7_count_92 ?_
                refine lv_istore_n (lv' := [(2, .int (v2 + (1 : Int32))), (0, .ref (h 0)), (1, .int v1), (3, .int v3)]) hx hb dX7_count_93 rfl hl (by decide) rfl (fun ls hl => ?_)
                refine lv_iinc (v := v3 + (1 : Int32)) (lv' := [(3, .int (v3 + (1 : Int32))), (2, .int (v2 + (1 : Int32))), (0, .ref (h 0)), (1, .int v1)]) hx hb dX7_count_94 hl (k := 3) rfl rfl (by decide) rfl (fun ls hl => ?_)
                refine lv_goto (tgt := 46) hx hb dX7_count_97 (by decide) ?_
                exact i46 (v2 + (1 : Int32)) (v3 + (1 : Int32)) _ _ _ (lv_sub hl [2, 3, 1, 0] rfl) hP hS hw
              · replace hw := And.right hw (fun q => hc ((lg_cmp_gt _ _).mpr q))
                exact b71 v3 v2 _ _ _ (lv_sub hl [0, 1, 3] rfl) hP hS hw
      intro v2 v3 H locs ls hl hP hS hw
      unfold kX7_count_b4 at hw
      refine lv_iload_n hx hb dX7_count_4 rfl (lv_at hl 3 rfl) ?_
      refine lv_aload_n hx hb dX7_count_5 rfl (lv_at hl 0 rfl) ?_
      refine va_get (D := D) (ci := 7) (v := .int (S 0 2)) (C := RX7) (T := TX7) (N := 28) hx hb hts inX7 hown hK hP 0 wM_0 rfl 3 (by decide) f3 (fun _ h9 => h9) rfl dX7_count_6 ?_
      refine lv_icmp_ge (tgt := 44) hx hb dX7_count_9 (by decide) (fun hc => ?_) (fun hc => ?_)
      · replace hw := And.left hw hc
        refine lv_iconst (v := (0 : Int32)) hx hb dX7_count_44 (by decide) ?_
        refine lv_istore_n (lv' := [(3, .int (0 : Int32)), (0, .ref (h 0)), (1, .int v1), (2, .int v2)]) hx hb dX7_count_45 rfl hl (by decide) rfl (fun ls hl => ?_)
        obtain ⟨n46, hw⟩ := hw
        exact b46  n46 v2 (0 : Int32) _ _ _ (lv_sub hl [1, 2, 3, 0] rfl) hP hS hw
      · replace hw := And.right hw hc
        refine lv_iload_n hx hb dX7_count_12 rfl (lv_at hl 2 rfl) ?_
        refine lv_iload_n hx hb dX7_count_13 rfl (lv_at hl 1 rfl) ?_
        refine lv_if_le (tgt := 35) hx hb dX7_count_14 (by decide) (fun hc => ?_) (fun hc => ?_)
        · replace hw := And.left hw hc
          refine lv_iconst (v := (0 : Int32)) hx hb dX7_count_35 (by decide) ?_
          refine lv_iadd hx hb dX7_count_36 ?_
          refine lv_istore_n (lv' := [(2, .int (v2 + (0 : Int32))), (0, .ref (h 0)), (1, .int v1), (3, .int v3)]) hx hb dX7_count_37 rfl hl (by decide) rfl (fun ls hl => ?_)
          refine lv_iinc (v := v3 + (1 : Int32)) (lv' := [(3, .int (v3 + (1 : Int32))), (2, .int (v2 + (0 : Int32))), (0, .ref (h 0)), (1, .int v1)]) hx hb dX7_count_38 hl (k := 3) rfl rfl (by decide) rfl (fun ls hl => ?_)
          refine lv_goto (tgt := 4) hx hb dX7_count_41 (by decide) ?_
          exact i4 (v2 + (0 : Int32)) (v3 + (1 : Int32)) _ _ _ (lv_sub hl [2, 3, 1, 0] rfl) hP hS hw
        · replace hw := And.right hw hc
          refine lv_iload_n hx hb dX7_count_17 rfl (lv_at hl 1 rfl) ?_
          refine lv_iconst (v := (4 : Int32)) hx hb dX7_count_18 (by decide) ?_
          refine lv_icmp_ge (tgt := 35) hx hb dX7_count_19 (by decide) (fun hc => ?_) (fun hc => ?_)
          · replace hw := And.left hw hc
            refine lv_iconst (v := (0 : Int32)) hx hb dX7_count_35 (by decide) ?_
            refine lv_iadd hx hb dX7_count_36 ?_
            refine lv_istore_n (lv' := [(2, .int (v2 + (0 : Int32))), (0, .ref (h 0)), (1, .int v1), (3, .int v3)]) hx hb dX7_count_37 rfl hl (by decide) rfl (fun ls hl => ?_)
            refine lv_iinc (v := v3 + (1 : Int32)) (lv' := [(3, .int (v3 + (1 : Int32))), (2, .int (v2 + (0 : Int32))), (0, .ref (h 0)), (1, .int v1)]) hx hb dX7_count_38 hl (k := 3) rfl rfl (by decide) rfl (fun ls hl => ?_)
            refine lv_goto (tgt := 4) hx hb dX7_count_41 (by decide) ?_
            exact i4 (v2 + (0 : Int32)) (v3 + (1 : Int32)) _ _ _ (lv_sub hl [2, 3, 1, 0] rfl) hP hS hw
          · replace hw := And.right hw hc
            refine lv_aload_n hx hb dX7_count_22 rfl (lv_at hl 0 rfl) ?_
            refine lv_iload_n hx hb dX7_count_23 rfl (lv_at hl 3 rfl) ?_
            refine xVi0 (As := [.int v3]) (rest := [.int v2]) hst hE hP hS ⟨hx, hb, hml, hown, hts⟩ (va_recv hK hP (ci := 7) (q := (RX7, TX7, 28)) rfl wM_0) (mX7_kind l D h cI cJ hh S L v3 _ hw) (cwV 1 hts gX7_count_X7_kind rfl rfl rfl (by decide +kernel) ⟨Nat.le_of_ble_eq_true rfl, Nat.le_of_ble_eq_true rfl⟩) rfl hl.1 rfl (Nat.le_of_ble_eq_true rfl) dX7_count_24 ⟨Nat.zero_le _, Nat.zero_le _⟩ (fun r24 H locs hw hP hS => ?_)
            refine lv_iload_n hx hb dX7_count_27 rfl (lv_at hl 1 rfl) ?_
            refine lv_icmp_ne (tgt := 35) hx hb dX7_count_28 (by decide) (fun hc => ?_) (fun hc => ?_)
            · replace hw := And.right hw hc
              refine lv_iconst (v := (0 : Int32)) hx hb dX7_count_35 (by decide) ?_
              refine lv_iadd hx hb dX7_count_36 ?_
              refine lv_istore_n (lv' := [(2, .int (v2 + (0 : Int32))), (0, .ref (h 0)), (1, .int v1), (3, .int v3)]) hx hb dX7_count_37 rfl hl (by decide) rfl (fun ls hl => ?_)
              refine lv_iinc (v := v3 + (1 : Int32)) (lv' := [(3, .int (v3 + (1 : Int32))), (2, .int (v2 + (0 : Int32))), (0, .ref (h 0)), (1, .int v1)]) hx hb dX7_count_38 hl (k := 3) rfl rfl (by decide) rfl (fun ls hl => ?_)
              refine lv_goto (tgt := 4) hx hb dX7_count_41 (by decide) ?_
              exact i4 (v2 + (0 : Int32)) (v3 + (1 : Int32)) _ _ _ (lv_sub hl [2, 3, 1, 0] rfl) hP hS hw
            · replace hw := And.left hw hc
              refine lv_iconst (v := (1 : Int32)) hx hb dX7_count_31 (by decide) ?_
              refine lv_goto (tgt := 36) hx hb dX7_count_32 (by decide) ?_
              refine lv_iadd hx hb dX7_count_36 ?_
              refine lv_istore_n (lv' := [(2, .int (v2 + (1 : Int32))), (0, .ref (h 0)), (1, .int v1), (3, .int v3)]) hx hb dX7_count_37 rfl hl (by decide) rfl (fun ls hl => ?_)
              refine lv_iinc (v := v3 + (1 : Int32)) (lv' := [(3, .int (v3 + (1 : Int32))), (2, .int (v2 + (1 : Int32))), (0, .ref (h 0)), (1, .int v1)]) hx hb dX7_count_38 hl (k := 3) rfl rfl (by decide) rfl (fun ls hl => ?_)
              refine lv_goto (tgt := 4) hx hb dX7_count_41 (by decide) ?_
              exact i4 (v2 + (1 : Int32)) (v3 + (1 : Int32)) _ _ _ (lv_sub hl [2, 3, 1, 0] rfl) hP hS hw
  unfold kX7_count at hw
  refine lv_iconst (v := (0 : Int32)) hx hb dX7_count_0 (by decide) ?_
  refine lv_istore_n (lv' := [(2, .int (0 : Int32)), (0, .ref (h 0)), (1, .int v1)]) hx hb dX7_count_1 rfl hl (by decide) rfl (fun ls hl => ?_)
  refine lv_iconst (v := (0 : Int32)) hx hb dX7_count_2 (by decide) ?_
  refine lv_istore_n (lv' := [(3, .int (0 : Int32)), (2, .int (0 : Int32)), (0, .ref (h 0)), (1, .int v1)]) hx hb dX7_count_3 rfl hl (by decide) rfl (fun ls hl => ?_)
  obtain ⟨n4, hw⟩ := hw
  exact b4  n4 (0 : Int32) (0 : Int32) _ _ _ (lv_sub hl [2, 3, 1, 0] rfl) hP hS hw
abbrev rX7_total : Room := { frames := 4, cells := 0, slots := 0, locals := 99 }
set_option maxHeartbeats 4000000 in
set_option maxRecDepth 100000 in
theorem mX7_total (l : Launch) (D : va_G) (h : Nat → Nat) (cI cJ : ClassId) (hh : xdis 22 h) (S : SX) (L : LX) (v1 : Int32) (v2 : Int32) (post : Int64 → Prop) (hw : kX7_total S L v1 v2 post) : Met l yX7_total wsX7_total rX7_total (xPre D (wM h cI cJ) (mE D cI cJ) S L [.ref (h 0), .int v1, .int v2]) (va_Ql (fun (r : Int64) (u : SX × LX) => post r ∧ u.1 = S ∧ u.2 = L) (xB D (wM h cI cJ)) (xA 22 h)) 0 0 (xA 22 h) := by
  refine Met.ofW (cc := cX7_total) (maxL := 3) (ret := (some .long)) (by decide) rfl ?_
  intro p e s m args below meth c s₁ B hml hv
  obtain ⟨hargs, hP, hE⟩ := hv
  have hx := B.exec
  have hb := B.bytes
  have hr := B.returns
  have hlocks := B.notSynchronized
  have hts := atoms_spec (ws := wsX7_total) B.pre
  have hown : s.vm.findClass RX7 = some m.cls := findClass_of_methodNamed B.named
  have hS : va_S (xA 22 h) s.heap s.heap [] := va_S.rf
  have hD : ∀ (S : SX) (L : LX), va_D (xA 22 h) (wM h cI cJ S L) := fun S L => wM_D hh cI cJ S L
  have hK := id hE
  have hst : xSt (xA 22 h) (mE D cI cJ) := mE_st D _ cI cJ
  have f0 := hts (.constantLong RX7 79 (-1)) (by decide +kernel)
  have hl := lv_entry ([.ref (h 0), .int v1, .int v2]) (n := 3) (Nat.le_of_ble_eq_true rfl)
  have hen : entryFrame m args 3 = F0 m 0 ((lg_sl ([.ref (h 0), .int v1, .int v2]) ++ List.replicate (3 - (lg_sl ([.ref (h 0), .int v1, .int v2])).length) Slot.unset).toArray) [] := by rw [hargs]; exact lg_entry_eq m _ _
  rw [hen]
  generalize (lg_sl ([.ref (h 0), .int v1, .int v2]) ++ List.replicate (3 - (lg_sl ([.ref (h 0), .int v1, .int v2])).length) Slot.unset).toArray = ls at hl ⊢
  have hl : lv_has ls 3 [(0, .ref (h 0)), (1, .int v1), (2, .int v2)] := hl
  change W p l e rX7_total s m args below meth c s.heap [] 0 0 (MQ below (va_Ql (fun (r : Int64) (u : SX × LX) => post r ∧ u.1 = S ∧ u.2 = L) (xB D (wM h cI cJ)) (xA 22 h)) args s 0 0 (xA 22 h)) (F0 m 0 ls [])
  have hret : ∀ (r : Int64) (H : Heap) (locs : List Loc) (ls : Array Slot) (pc : Nat), va_P D vwCl (wM h cI cJ S L) H → va_S (xA 22 h) s.heap H locs → post r → decode cX7_total pc = .ok (.lreturn, 1) → W p l e rX7_total s m args below meth c H locs 0 0 (MQ below (va_Ql (fun (r : Int64) (u : SX × LX) => post r ∧ u.1 = S ∧ u.2 = L) (xB D (wM h cI cJ)) (xA 22 h)) args s 0 0 (xA 22 h)) (F0 m pc ls [.long r]) := fun r H locs ls pc hP hS hw hd => W.lret hx hb hr (fun t ht hW => ⟨⟨r, (S, L), rfl, ⟨hw, rfl, rfl⟩, show va_P D vwCl (wM h cI cJ S L) t.heap by rw [ht]; exact hP⟩, hS.F ht⟩) hS.2.2 hd
  generalize MQ below (va_Ql (fun (r : Int64) (u : SX × LX) => post r ∧ u.1 = S ∧ u.2 = L) (xB D (wM h cI cJ)) (xA 22 h)) args s 0 0 (xA 22 h) = Q at hret ⊢
  unfold kX7_total at hw
  refine lv_iload_n hx hb dX7_total_0 rfl (lv_at hl 1 rfl) ?_
  refine xSi0 (As := [.int v1]) (rest := []) hst hE hP hS ⟨hx, hb, hml, hown, hts⟩ (mX7_isYear l D h cI cJ hh S L v1 _ hw) (va_cwS 1 hts gX7_total_X7_isYear rfl rfl rfl (by decide +kernel) ⟨Nat.le_of_ble_eq_true rfl, Nat.le_of_ble_eq_true rfl⟩) rfl hl.1 rfl (Nat.le_of_ble_eq_true rfl) dX7_total_1 ⟨Nat.zero_le _, Nat.zero_le _⟩ (fun r1 H locs hw hP hS => ?_)
  refine lv_if_eq (tgt := 17) hx hb dX7_total_4 (by decide) (fun hc => ?_) (fun hc => ?_)
  · replace hw := And.left hw hc
    refine lv_ldc2 (v := (-1 : Int64)) hx hb hown (f0) dX7_total_17 ?_
    exact hret _ _ _ _ _ hP hS hw dX7_total_20
  · replace hw := And.right hw hc
    refine lv_iload_n hx hb dX7_total_7 rfl (lv_at hl 2 rfl) ?_
    refine lv_i2l hx hb dX7_total_8 rfl ?_
    refine lv_lconst (v := (0 : Int64)) hx hb dX7_total_9 (by decide) ?_
    refine lv_lconst (v := (1 : Int64)) hx hb dX7_total_10 (by decide) ?_
    refine xSi0 (As := [.long v2.toInt64, .long (0 : Int64), .long (1 : Int64)]) (rest := []) hst hE hP hS ⟨hx, hb, hml, hown, hts⟩ (mX7_in l D h cI cJ hh S L v2.toInt64 (0 : Int64) (1 : Int64) _ hw) (va_cwS 3 hts gX7_total_X7_in rfl rfl rfl (by decide +kernel) ⟨Nat.le_of_ble_eq_true rfl, Nat.le_of_ble_eq_true rfl⟩) rfl hl.1 rfl (Nat.le_of_ble_eq_true rfl) dX7_total_11 ⟨Nat.zero_le _, Nat.zero_le _⟩ (fun r11 H locs hw hP hS => ?_)
    refine lv_if_ne (tgt := 21) hx hb dX7_total_14 (by decide) (fun hc => ?_) (fun hc => ?_)
    · replace hw := And.right hw hc
      refine lv_iload_n hx hb dX7_total_21 rfl (lv_at hl 2 rfl) ?_
      refine lv_if_ne (tgt := 36) hx hb dX7_total_22 (by decide) (fun hc => ?_) (fun hc => ?_)
      · replace hw := And.right hw hc
        refine lv_aload_n hx hb dX7_total_36 rfl (lv_at hl 0 rfl) ?_
        refine lv_iload_n hx hb dX7_total_37 rfl (lv_at hl 1 rfl) ?_
        refine xVl0 (As := [.int v1]) (rest := []) hst hE hP hS ⟨hx, hb, hml, hown, hts⟩ (va_recv hK hP (ci := 7) (q := (RX7, TX7, 28)) rfl wM_0) (mX7_unseen l D h cI cJ hh S L v1 _ hw) (cwV 1 hts gX7_total_X7_unseen rfl rfl rfl (by decide +kernel) ⟨Nat.le_of_ble_eq_true rfl, Nat.le_of_ble_eq_true rfl⟩) rfl hl.1 rfl (Nat.le_of_ble_eq_true rfl) dX7_total_38 ⟨Nat.zero_le _, Nat.zero_le _⟩ (fun r38 H locs hw hP hS => ?_)
        exact hret _ _ _ _ _ hP hS hw dX7_total_41
      · replace hw := And.left hw hc
        refine lv_aload_n hx hb dX7_total_25 rfl (lv_at hl 0 rfl) ?_
        refine lv_iload_n hx hb dX7_total_26 rfl (lv_at hl 1 rfl) ?_
        refine lv_iload_n hx hb dX7_total_27 rfl (lv_at hl 1 rfl) ?_
        refine lv_bipush (v := (-4 : Int32)) hx hb dX7_total_28 (by decide) ?_
        refine xVl0 (As := [.int v1, .int v1, .int (-4 : Int32)]) (rest := []) hst hE hP hS ⟨hx, hb, hml, hown, hts⟩ (va_recv hK hP (ci := 7) (q := (RX7, TX7, 28)) rfl wM_0) (mX7_totalOf l D h cI cJ hh S L v1 v1 (-4 : Int32) _ hw) (cwV 3 hts gX7_total_X7_totalOf rfl rfl rfl (by decide +kernel) ⟨Nat.le_of_ble_eq_true rfl, Nat.le_of_ble_eq_true rfl⟩) rfl hl.1 rfl (Nat.le_of_ble_eq_true rfl) dX7_total_30 ⟨Nat.zero_le _, Nat.zero_le _⟩ (fun r30 H locs hw hP hS => ?_)
        refine lv_goto (tgt := 41) hx hb dX7_total_33 (by decide) ?_
        exact hret _ _ _ _ _ hP hS hw dX7_total_41
    · replace hw := And.left hw hc
      refine lv_ldc2 (v := (-1 : Int64)) hx hb hown (f0) dX7_total_17 ?_
      exact hret _ _ _ _ _ hP hS hw dX7_total_20
abbrev rX7_isTop : Room := { frames := 1, cells := 0, slots := 0, locals := 25 }
set_option maxHeartbeats 4000000 in
set_option maxRecDepth 100000 in
theorem mX7_isTop (l : Launch) (D : va_G) (h : Nat → Nat) (cI cJ : ClassId) (hh : xdis 22 h) (S : SX) (L : LX) (v0 : Int32) (post : Int32 → Prop) (hw : kX7_isTop S L v0 post) : Met l yX7_isTop wsX7_isTop rX7_isTop (xPre D (wM h cI cJ) (mE D cI cJ) S L [.int v0]) (va_Qi (fun (r : Int32) (u : SX × LX) => post r ∧ u.1 = S ∧ u.2 = L) (xB D (wM h cI cJ)) (xA 22 h)) 0 0 (xA 22 h) := by
  refine Met.ofW (cc := cX7_isTop) (maxL := 1) (ret := (some .boolean)) (by decide) rfl ?_
  intro p e s m args below meth c s₁ B hml hv
  obtain ⟨hargs, hP, hE⟩ := hv
  have hx := B.exec
  have hb := B.bytes
  have hr := B.returns
  have hlocks := B.notSynchronized
  have hts := atoms_spec (ws := wsX7_isTop) B.pre
  have hown : s.vm.findClass RX7 = some m.cls := findClass_of_methodNamed B.named
  have hS : va_S (xA 22 h) s.heap s.heap [] := va_S.rf
  have hD : ∀ (S : SX) (L : LX), va_D (xA 22 h) (wM h cI cJ S L) := fun S L => wM_D hh cI cJ S L
  have hK := id hE
  have hst : xSt (xA 22 h) (mE D cI cJ) := mE_st D _ cI cJ
  have f0 := hts (.constantLong RX7 206 (1000)) (by decide +kernel)
  have hl := lv_entry ([.int v0]) (n := 1) (Nat.le_of_ble_eq_true rfl)
  have hen : entryFrame m args 1 = F0 m 0 ((lg_sl ([.int v0]) ++ List.replicate (1 - (lg_sl ([.int v0])).length) Slot.unset).toArray) [] := by rw [hargs]; exact lg_entry_eq m _ _
  rw [hen]
  generalize (lg_sl ([.int v0]) ++ List.replicate (1 - (lg_sl ([.int v0])).length) Slot.unset).toArray = ls at hl ⊢
  have hl : lv_has ls 1 [(0, .int v0)] := hl
  change W p l e rX7_isTop s m args below meth c s.heap [] 0 0 (MQ below (va_Qi (fun (r : Int32) (u : SX × LX) => post r ∧ u.1 = S ∧ u.2 = L) (xB D (wM h cI cJ)) (xA 22 h)) args s 0 0 (xA 22 h)) (F0 m 0 ls [])
  have hret : ∀ (r : Int32) (H : Heap) (locs : List Loc) (ls : Array Slot) (pc : Nat), va_P D vwCl (wM h cI cJ S L) H → va_S (xA 22 h) s.heap H locs → post r → narrow .boolean (.int r) = .int r → decode cX7_isTop pc = .ok (.ireturn, 1) → W p l e rX7_isTop s m args below meth c H locs 0 0 (MQ below (va_Qi (fun (r : Int32) (u : SX × LX) => post r ∧ u.1 = S ∧ u.2 = L) (xB D (wM h cI cJ)) (xA 22 h)) args s 0 0 (xA 22 h)) (F0 m pc ls [.int r]) := fun r H locs ls pc hP hS hw hna hd => W.zret hx hb hr hna (fun t ht hW => ⟨⟨r, (S, L), rfl, ⟨hw, rfl, rfl⟩, show va_P D vwCl (wM h cI cJ S L) t.heap by rw [ht]; exact hP⟩, hS.F ht⟩) hS.2.2 hd
  generalize MQ below (va_Qi (fun (r : Int32) (u : SX × LX) => post r ∧ u.1 = S ∧ u.2 = L) (xB D (wM h cI cJ)) (xA 22 h)) args s 0 0 (xA 22 h) = Q at hret ⊢
  unfold kX7_isTop at hw
  refine lv_iload_n hx hb dX7_isTop_0 rfl (lv_at hl 0 rfl) ?_
  refine lv_i2l hx hb dX7_isTop_1 rfl ?_
  refine lv_lconst (v := (1 : Int64)) hx hb dX7_isTop_2 (by decide) ?_
  refine lv_ldc2 (v := (1000 : Int64)) hx hb hown (f0) dX7_isTop_3 ?_
  refine xSi0 (As := [.long v0.toInt64, .long (1 : Int64), .long (1000 : Int64)]) (rest := []) hst hE hP hS ⟨hx, hb, hml, hown, hts⟩ (mX7_in l D h cI cJ hh S L v0.toInt64 (1 : Int64) (1000 : Int64) _ hw) (va_cwS 3 hts gX7_isTop_X7_in rfl rfl rfl (by decide +kernel) ⟨Nat.le_of_ble_eq_true rfl, Nat.le_of_ble_eq_true rfl⟩) rfl hl.1 rfl (Nat.le_of_ble_eq_true rfl) dX7_isTop_6 ⟨Nat.zero_le _, Nat.zero_le _⟩ (fun r6 H locs hw hP hS => ?_)
  exact hret _ _ _ _ _ hP hS hw.2 (xb_n hw.1) dX7_isTop_9
abbrev rX7_share : Room := { frames := 4, cells := 0, slots := 0, locals := 105 }
set_option maxHeartbeats 4000000 in
set_option maxRecDepth 100000 in
theorem mX7_share (l : Launch) (D : va_G) (h : Nat → Nat) (cI cJ : ClassId) (hh : xdis 22 h) (S : SX) (L : LX) (v1 : Int32) (v2 : Int32) (v3 : Int32) (post : Int64 → Prop) (hw : kX7_share S L v1 v2 v3 post) : Met l yX7_share wsX7_share rX7_share (xPre D (wM h cI cJ) (mE D cI cJ) S L [.ref (h 0), .int v1, .int v2, .int v3]) (va_Ql (fun (r : Int64) (u : SX × LX) => post r ∧ u.1 = S ∧ u.2 = L) (xB D (wM h cI cJ)) (xA 22 h)) 0 0 (xA 22 h) := by
  refine Met.ofW (cc := cX7_share) (maxL := 14) (ret := (some .long)) (by decide) rfl ?_
  intro p e s m args below meth c s₁ B hml hv
  obtain ⟨hargs, hP, hE⟩ := hv
  have hx := B.exec
  have hb := B.bytes
  have hr := B.returns
  have hlocks := B.notSynchronized
  have hts := atoms_spec (ws := wsX7_share) B.pre
  have hown : s.vm.findClass RX7 = some m.cls := findClass_of_methodNamed B.named
  have hS : va_S (xA 22 h) s.heap s.heap [] := va_S.rf
  have hD : ∀ (S : SX) (L : LX), va_D (xA 22 h) (wM h cI cJ S L) := fun S L => wM_D hh cI cJ S L
  have hK := id hE
  have hst : xSt (xA 22 h) (mE D cI cJ) := mE_st D _ cI cJ
  have f0 := hts (.constantLong RX7 200 (100000)) (by decide +kernel)
  have f1 := hts (.constantLong RX7 79 (-1)) (by decide +kernel)
  have f2 := hts (.constantLong RX7 211 (2)) (by decide +kernel)
  have f3 := hts (.constantLong RX7 190 (10)) (by decide +kernel)
  have f4 := hts (.constantLong RX7 213 (-4)) (by decide +kernel)
  have hl := lv_entry ([.ref (h 0), .int v1, .int v2, .int v3]) (n := 14) (Nat.le_of_ble_eq_true rfl)
  have hen : entryFrame m args 14 = F0 m 0 ((lg_sl ([.ref (h 0), .int v1, .int v2, .int v3]) ++ List.replicate (14 - (lg_sl ([.ref (h 0), .int v1, .int v2, .int v3])).length) Slot.unset).toArray) [] := by rw [hargs]; exact lg_entry_eq m _ _
  rw [hen]
  generalize (lg_sl ([.ref (h 0), .int v1, .int v2, .int v3]) ++ List.replicate (14 - (lg_sl ([.ref (h 0), .int v1, .int v2, .int v3])).length) Slot.unset).toArray = ls at hl ⊢
  have hl : lv_has ls 14 [(0, .ref (h 0)), (1, .int v1), (2, .int v2), (3, .int v3)] := hl
  change W p l e rX7_share s m args below meth c s.heap [] 0 0 (MQ below (va_Ql (fun (r : Int64) (u : SX × LX) => post r ∧ u.1 = S ∧ u.2 = L) (xB D (wM h cI cJ)) (xA 22 h)) args s 0 0 (xA 22 h)) (F0 m 0 ls [])
  have hret : ∀ (r : Int64) (H : Heap) (locs : List Loc) (ls : Array Slot) (pc : Nat), va_P D vwCl (wM h cI cJ S L) H → va_S (xA 22 h) s.heap H locs → post r → decode cX7_share pc = .ok (.lreturn, 1) → W p l e rX7_share s m args below meth c H locs 0 0 (MQ below (va_Ql (fun (r : Int64) (u : SX × LX) => post r ∧ u.1 = S ∧ u.2 = L) (xB D (wM h cI cJ)) (xA 22 h)) args s 0 0 (xA 22 h)) (F0 m pc ls [.long r]) := fun r H locs ls pc hP hS hw hd => W.lret hx hb hr (fun t ht hW => ⟨⟨r, (S, L), rfl, ⟨hw, rfl, rfl⟩, show va_P D vwCl (wM h cI cJ S L) t.heap by rw [ht]; exact hP⟩, hS.F ht⟩) hS.2.2 hd
  generalize MQ below (va_Ql (fun (r : Int64) (u : SX × LX) => post r ∧ u.1 = S ∧ u.2 = L) (xB D (wM h cI cJ)) (xA 22 h)) args s 0 0 (xA 22 h) = Q at hret ⊢
  have b74 : ∀ (v4 : Int64) (v6 : Int64) (n74 : Nat) (v8 : Int64) (v10 : Int64) (H : Heap) (locs : List Loc) (ls : Array Slot), lv_has ls 14 [(3, .int v3), (4, .long v4), (6, .long v6), (8, .long v8), (10, .long v10)] → va_P D vwCl (wM h cI cJ S L) H → va_S (xA 22 h) s.heap H locs → kX7_share_b74 S L v1 v2 v3 v4 v6 post n74 v8 v10 → W p l e rX7_share s m args below meth c H locs 0 0 Q (F0 m 74 ls []) := by
    intro v4 v6 n74
    induction n74 with
    | zero => intro v8 v10 H locs ls hl hP hS hw; exact absurd hw id
    | succ n74 i74 =>
      intro v8 v10 H locs ls hl hP hS hw
      unfold kX7_share_b74 at hw
      refine lv_lload hx hb dX7_share_74 (lv_at hl 4 rfl) ?_
      refine lv_lconst (v := (0 : Int64)) hx hb dX7_share_76 (by decide) ?_
      refine W.lcmp hx hb dX7_share_77 ?_
      refine lv_if_eq (tgt := 99) hx hb dX7_share_78 (by decide) (fun hc => ?_) (fun hc => ?_)
      · replace hw := And.left hw ((lg_cmp_eq _ _).mp hc)
        refine lv_iload_n hx hb dX7_share_99 rfl (lv_at hl 0 rfl) ?_
        refine lv_if_ne (tgt := 111) hx hb dX7_share_100 (by decide) (fun hc => ?_) (fun hc => ?_)
        · replace hw := And.right hw hc
          refine lv_iload_n hx hb dX7_share_111 rfl (lv_at hl 0 rfl) ?_
          refine lv_iconst (v := (1 : Int32)) hx hb dX7_share_112 (by decide) ?_
          refine lv_icmp_ne (tgt := 124) hx hb dX7_share_113 (by decide) (fun hc => ?_) (fun hc => ?_)
          · replace hw := And.right hw hc
            refine lv_lload hx hb dX7_share_124 (lv_at hl 2 rfl) ?_
            refine lv_ldc2 (v := (100000 : Int64)) hx hb hown (f0) dX7_share_126 ?_
            refine lv_lmul hx hb dX7_share_129 ?_
            refine lv_lload hx hb dX7_share_130 (lv_at hl 1 rfl) ?_
            obtain ⟨hi, hw⟩ := hw
            refine lv_ldiv hx hb dX7_share_132 hi ?_
            exact hret _ _ _ _ _ hP hS hw dX7_share_133
          · replace hw := And.left hw hc
            refine lv_lload hx hb dX7_share_116 (lv_at hl 1 rfl) ?_
            refine lv_lload hx hb dX7_share_118 (lv_at hl 3 rfl) ?_
            obtain ⟨hi, hw⟩ := hw
            refine lv_ldiv hx hb dX7_share_120 hi ?_
            refine lv_goto (tgt := 133) hx hb dX7_share_121 (by decide) ?_
            exact hret _ _ _ _ _ hP hS hw dX7_share_133
        · replace hw := And.left hw hc
          refine lv_lload hx hb dX7_share_103 (lv_at hl 2 rfl) ?_
          refine lv_lload hx hb dX7_share_105 (lv_at hl 3 rfl) ?_
          obtain ⟨hi, hw⟩ := hw
          refine lv_ldiv hx hb dX7_share_107 hi ?_
          refine lv_goto (tgt := 133) hx hb dX7_share_108 (by decide) ?_
          exact hret _ _ _ _ _ hP hS hw dX7_share_133
      · replace hw := And.right hw (fun q => hc ((lg_cmp_eq _ _).mpr q))
        refine lv_lload hx hb dX7_share_81 (lv_at hl 3 rfl) ?_
        refine lv_lload hx hb dX7_share_83 (lv_at hl 4 rfl) ?_
        obtain ⟨hi, hw⟩ := hw
        refine lv_lrem hx hb dX7_share_85 hi ?_
        refine lv_lstore (lv' := [(12, .long (v8 - v8 / v10 * v10)), (3, .int v3), (4, .long v4), (6, .long v6), (8, .long v8), (10, .long v10)]) hx hb dX7_share_86 hl (by decide) rfl (fun ls hl => ?_)
        refine lv_lload hx hb dX7_share_88 (lv_at hl 5 rfl) ?_
        refine lv_lstore (lv' := [(8, .long v10), (12, .long (v8 - v8 / v10 * v10)), (3, .int v3), (4, .long v4), (6, .long v6), (10, .long v10)]) hx hb dX7_share_90 hl (by decide) rfl (fun ls hl => ?_)
        refine lv_lload hx hb dX7_share_92 (lv_at hl 1 rfl) ?_
        refine lv_lstore (lv' := [(10, .long (v8 - v8 / v10 * v10)), (8, .long v10), (12, .long (v8 - v8 / v10 * v10)), (3, .int v3), (4, .long v4), (6, .long v6)]) hx hb dX7_share_94 hl (by decide) rfl (fun ls hl => ?_)
        refine lv_goto (tgt := 74) hx hb dX7_share_96 (by decide) ?_
        exact i74 v10 (v8 - v8 / v10 * v10) _ _ _ (lv_sub hl [3, 4, 5, 1, 0] rfl) hP hS hw
  unfold kX7_share at hw
  refine lv_iload_n hx hb dX7_share_0 rfl (lv_at hl 1 rfl) ?_
  refine xSi0 (As := [.int v1]) (rest := []) hst hE hP hS ⟨hx, hb, hml, hown, hts⟩ (mX7_isYear l D h cI cJ hh S L v1 _ hw) (va_cwS 1 hts gX7_share_X7_isYear rfl rfl rfl (by decide +kernel) ⟨Nat.le_of_ble_eq_true rfl, Nat.le_of_ble_eq_true rfl⟩) rfl hl.1 rfl (Nat.le_of_ble_eq_true rfl) dX7_share_1 ⟨Nat.zero_le _, Nat.zero_le _⟩ (fun r1 H locs hw hP hS => ?_)
  refine lv_if_eq (tgt := 26) hx hb dX7_share_4 (by decide) (fun hc => ?_) (fun hc => ?_)
  · replace hw := And.left hw hc
    refine lv_ldc2 (v := (-1 : Int64)) hx hb hown (f1) dX7_share_26 ?_
    exact hret _ _ _ _ _ hP hS hw dX7_share_29
  · replace hw := And.right hw hc
    refine lv_iload_n hx hb dX7_share_7 rfl (lv_at hl 2 rfl) ?_
    refine xSi0 (As := [.int v2]) (rest := []) hst hE hP hS ⟨hx, hb, hml, hown, hts⟩ (mX7_isTop l D h cI cJ hh S L v2 _ hw) (va_cwS 1 hts gX7_share_X7_isTop rfl rfl rfl (by decide +kernel) ⟨Nat.le_of_ble_eq_true rfl, Nat.le_of_ble_eq_true rfl⟩) rfl hl.1 rfl (Nat.le_of_ble_eq_true rfl) dX7_share_8 ⟨Nat.zero_le _, Nat.zero_le _⟩ (fun r8 H locs hw hP hS => ?_)
    refine lv_if_eq (tgt := 26) hx hb dX7_share_11 (by decide) (fun hc => ?_) (fun hc => ?_)
    · replace hw := And.left hw hc
      refine lv_ldc2 (v := (-1 : Int64)) hx hb hown (f1) dX7_share_26 ?_
      exact hret _ _ _ _ _ hP hS hw dX7_share_29
    · replace hw := And.right hw hc
      refine lv_iload_n hx hb dX7_share_14 rfl (lv_at hl 3 rfl) ?_
      refine lv_i2l hx hb dX7_share_15 rfl ?_
      refine lv_lconst (v := (0 : Int64)) hx hb dX7_share_16 (by decide) ?_
      refine lv_ldc2 (v := (2 : Int64)) hx hb hown (f2) dX7_share_17 ?_
      refine xSi0 (As := [.long v3.toInt64, .long (0 : Int64), .long (2 : Int64)]) (rest := []) hst hE hP hS ⟨hx, hb, hml, hown, hts⟩ (mX7_in l D h cI cJ hh S L v3.toInt64 (0 : Int64) (2 : Int64) _ hw) (va_cwS 3 hts gX7_share_X7_in rfl rfl rfl (by decide +kernel) ⟨Nat.le_of_ble_eq_true rfl, Nat.le_of_ble_eq_true rfl⟩) rfl hl.1 rfl (Nat.le_of_ble_eq_true rfl) dX7_share_20 ⟨Nat.zero_le _, Nat.zero_le _⟩ (fun r20 H locs hw hP hS => ?_)
      refine lv_if_ne (tgt := 30) hx hb dX7_share_23 (by decide) (fun hc => ?_) (fun hc => ?_)
      · replace hw := And.right hw hc
        refine lv_ldc2 (v := (10 : Int64)) hx hb hown (f3) dX7_share_30 ?_
        refine lv_aload_n hx hb dX7_share_33 rfl (lv_at hl 0 rfl) ?_
        refine lv_iload_n hx hb dX7_share_34 rfl (lv_at hl 1 rfl) ?_
        refine lv_iload_n hx hb dX7_share_35 rfl (lv_at hl 1 rfl) ?_
        refine lv_bipush (v := (-4 : Int32)) hx hb dX7_share_36 (by decide) ?_
        refine xVl0 (As := [.int v1, .int v1, .int (-4 : Int32)]) (rest := [.long (10 : Int64)]) hst hE hP hS ⟨hx, hb, hml, hown, hts⟩ (va_recv hK hP (ci := 7) (q := (RX7, TX7, 28)) rfl wM_0) (mX7_totalOf l D h cI cJ hh S L v1 v1 (-4 : Int32) _ hw) (cwV 3 hts gX7_share_X7_totalOf rfl rfl rfl (by decide +kernel) ⟨Nat.le_of_ble_eq_true rfl, Nat.le_of_ble_eq_true rfl⟩) rfl hl.1 rfl (Nat.le_of_ble_eq_true rfl) dX7_share_38 ⟨Nat.zero_le _, Nat.zero_le _⟩ (fun r38 H locs hw hP hS => ?_)
        refine lv_lmul hx hb dX7_share_41 ?_
        refine lv_lstore (lv' := [(4, .long ((10 : Int64) * r38)), (0, .ref (h 0)), (1, .int v1), (2, .int v2), (3, .int v3)]) hx hb dX7_share_42 hl (by decide) rfl (fun ls hl => ?_)
        refine lv_lload hx hb dX7_share_44 (lv_at hl 0 rfl) ?_
        refine lv_lconst (v := (0 : Int64)) hx hb dX7_share_46 (by decide) ?_
        refine W.lcmp hx hb dX7_share_47 ?_
        refine lv_if_ne (tgt := 55) hx hb dX7_share_48 (by decide) (fun hc => ?_) (fun hc => ?_)
        · replace hw := And.right hw (fun q => hc ((lg_cmp_eq _ _).mpr q))
          refine lv_aload_n hx hb dX7_share_55 rfl (lv_at hl 1 rfl) ?_
          refine lv_iload_n hx hb dX7_share_56 rfl (lv_at hl 2 rfl) ?_
          refine lv_iload_n hx hb dX7_share_57 rfl (lv_at hl 2 rfl) ?_
          refine lv_iload_n hx hb dX7_share_58 rfl (lv_at hl 3 rfl) ?_
          refine lv_bipush (v := (-4 : Int32)) hx hb dX7_share_59 (by decide) ?_
          refine xVl0 (As := [.int v1, .int v1, .int v2, .int (-4 : Int32)]) (rest := []) hst hE hP hS ⟨hx, hb, hml, hown, hts⟩ (va_recv hK hP (ci := 7) (q := (RX7, TX7, 28)) rfl wM_0) (mX7_topOf l D h cI cJ hh S L v1 v1 v2 (-4 : Int32) _ hw) (cwV 4 hts gX7_share_X7_topOf rfl rfl rfl (by decide +kernel) ⟨Nat.le_of_ble_eq_true rfl, Nat.le_of_ble_eq_true rfl⟩) rfl hl.1 rfl (Nat.le_of_ble_eq_true rfl) dX7_share_61 ⟨Nat.zero_le _, Nat.zero_le _⟩ (fun r61 H locs hw hP hS => ?_)
          refine lv_lstore (lv' := [(6, .long r61), (4, .long ((10 : Int64) * r38)), (0, .ref (h 0)), (1, .int v1), (2, .int v2), (3, .int v3)]) hx hb dX7_share_64 hl (by decide) rfl (fun ls hl => ?_)
          refine lv_lload hx hb dX7_share_66 (lv_at hl 0 rfl) ?_
          refine lv_lstore (lv' := [(8, .long r61), (6, .long r61), (4, .long ((10 : Int64) * r38)), (0, .ref (h 0)), (1, .int v1), (2, .int v2), (3, .int v3)]) hx hb dX7_share_68 hl (by decide) rfl (fun ls hl => ?_)
          refine lv_lload hx hb dX7_share_70 (lv_at hl 2 rfl) ?_
          refine lv_lstore (lv' := [(10, .long ((10 : Int64) * r38)), (8, .long r61), (6, .long r61), (4, .long ((10 : Int64) * r38)), (0, .ref (h 0)), (1, .int v1), (2, .int v2), (3, .int v3)]) hx hb dX7_share_72 hl (by decide) rfl (fun ls hl => ?_)
          obtain ⟨n74, hw⟩ := hw
          exact b74 ((10 : Int64) * r38) r61 n74 r61 ((10 : Int64) * r38) _ _ _ (lv_sub hl [7, 3, 2, 1, 0] rfl) hP hS hw
        · replace hw := And.left hw ((lg_cmp_eq _ _).mp hc)
          refine lv_ldc2 (v := (-4 : Int64)) hx hb hown (f4) dX7_share_51 ?_
          exact hret _ _ _ _ _ hP hS hw dX7_share_54
      · replace hw := And.left hw hc
        refine lv_ldc2 (v := (-1 : Int64)) hx hb hown (f1) dX7_share_26 ?_
        exact hret _ _ _ _ _ hP hS hw dX7_share_29
